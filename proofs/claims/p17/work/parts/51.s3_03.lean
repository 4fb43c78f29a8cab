/-! The methods, by program. -/
set_option maxHeartbeats 4000000 in
theorem mjoined9_3_c {xs : List Int32} {e : Nat} {ac : Int} {M0 M : nM} {a x y w s : Int} (hS : Sf 3 ac M0 M) (hdm : M0 112 0 = 3) (ha : 0 ≤ a ∧ a ≤ 7) (hx : 0 ≤ x ∧ x ≤ 256) (hy : 0 ≤ y ∧ y ≤ 256) (hw : 0 ≤ w ∧ w ≤ 256) (hs : 0 ≤ s ∧ s ≤ 1000000) : ∀ nn : Nat, (∀ (x8 : Int) (M : nM), Sf 3 ac M0 M → (0 ≤ x8 ∧ x8 ≤ 19682) → 2 < (nn : Int) → nW xs e 163 145 [some (2, 112), none, none, none, none, none, some (0, s), none, some (0, x8), none, none] [] M (nPV fun M1 => Sf 3 ac M0 M1)) ∧ (∀ (M : nM), Sf 3 ac M0 M → 1 < (nn : Int) → nW xs e 163 156 [none, none, none, none, none, none, none, none, none, none, none] [] M (nPV fun M1 => Sf 3 ac M0 M1)) := by
  have hd : (3 : Int) = 2 ∨ (3 : Int) = 3 := by decide
  have hac := hS.2.2.2.2
  intro nn
  induction nn with
  | zero => refine ⟨?_, ?_⟩ <;> (intros; omega)
  | succ nn ih =>
    refine ⟨?_, ?_⟩
    · intro x8 M hS k8 hnn
      refine n_aload_n c_163_145 rfl (n_getR c_163_146 sc_112.n rfl rfl rfl r_112_17 (n_iload c_163_149 rfl (n_iload c_163_151 rfl (n_iconst c_163_153 (n_iadd c_163_154 rfl (n_iastoreV hS c_163_155 sc_125.n rfl (by omega) (w_125 (by omega) (by omega)) ?_))))))
      intro M1 eM1 hS1
      refine n_fg (le_n (le_n (le_n (le_n (le_n (le_n (le_n (le_n (le_n (le_n (le_n le_0))))))))))) ?_
      exact ih.2  M1 hS1  (by omega)
    · intro M hS hnn
      exact n_rV c_163_156 rfl hS
set_option maxHeartbeats 4000000 in
theorem mjoined9_3 {xs : List Int32} {e : Nat} {ac : Int} {M0 M : nM} {a x y w s : Int} (hS : Sf 3 ac M0 M) (hdm : M0 112 0 = 3) (ha : 0 ≤ a ∧ a ≤ 7) (hx : 0 ≤ x ∧ x ≤ 256) (hy : 0 ≤ y ∧ y ≤ 256) (hw : 0 ≤ w ∧ w ≤ 256) (hs : 0 ≤ s ∧ s ≤ 1000000) : nW xs e 163 0 [some (2, 112), some (0, a), some (0, 9), some (0, x), some (0, y), some (0, w), some (0, s), none, none, none, none] [] M (nPV fun M1 => Sf 3 ac M0 M1) := by
  have hd : (3 : Int) = 2 ∨ (3 : Int) = 3 := by decide
  have hac := hS.2.2.2.2
  refine n_aload_n c_163_0 rfl (n_getR c_163_1 sc_112.n rfl rfl rfl r_112_5 (n_iload_n c_163_4 rfl (n_ialoadV c_163_5 sc_116.n rfl rfl rfl (by omega) (t_116 hS (by omega)) ?_)))
  intro z1 ez1 f2
  refine n_istore (L2 := [some (2, 112), some (0, a), some (0, 9), some (0, x), some (0, y), some (0, w), some (0, s), some (0, z1), none, none, none]) c_163_6 rfl rfl (n_iconst c_163_8 (n_istore (L2 := [some (2, 112), some (0, a), some (0, 9), some (0, x), some (0, y), some (0, w), some (0, s), some (0, z1), some (0, 0), none, none]) c_163_9 rfl rfl (n_iload_n c_163_11 rfl (n_iconst c_163_12 (n_isub c_163_13 rfl (n_istore (L2 := [some (2, 112), some (0, a), some (0, 9), some (0, x), some (0, y), some (0, w), some (0, s), some (0, z1), some (0, 0), some (0, (9 - 1)), none]) c_163_14 rfl rfl (n_iload c_163_16 rfl ?_)))))))
  refine n_if0_lt c_163_18 (by omega) ?_ ?_
  · intro h3
    exfalso; omega
  · intro h4
    refine n_aload_n c_163_21 rfl (n_getR c_163_22 sc_112.n rfl rfl rfl r_112_18 (n_bipush c_163_25 rfl (n_iload_n c_163_27 rfl (n_imul c_163_28 rfl (n_iload c_163_29 rfl (n_iadd c_163_31 rfl (n_ialoadV c_163_32 sc_126.n rfl rfl rfl (by omega) (t_126 hS (by omega)) ?_)))))))
    intro z5 ez5 f6
    refine n_istore (L2 := [some (2, 112), some (0, a), some (0, 9), some (0, x), some (0, y), some (0, w), some (0, s), some (0, z1), some (0, 0), some (0, (9 - 1)), some (0, z5)]) c_163_33 rfl rfl (n_iload c_163_35 rfl (n_iconst c_163_37 ?_))
    refine n_if2_le c_163_38 (by omega) (by omega) ?_ ?_
    · intro h7
      refine n_iload c_163_64 rfl (n_iconst c_163_66 ?_)
      refine n_if2_le c_163_67 (by omega) (by omega) ?_ ?_
      · intro h8
        refine n_iload c_163_93 rfl (n_aload_n c_163_95 rfl (n_getV (bi := 0) c_163_96 sc_112.n rfl rfl rfl (t_dm hS hdm) ?_))
        intro z9 ez9 f10
        obtain rfl : z9 = 3 := by omega
        refine n_imul c_163_99 rfl (n_aload_n c_163_100 rfl (n_getR c_163_101 sc_112.n rfl rfl rfl r_112_6 (n_bipush c_163_104 rfl (n_iload_n c_163_106 rfl (n_imul c_163_107 rfl (n_iload c_163_108 rfl (n_iadd c_163_110 rfl (n_ialoadV c_163_111 sc_117.n rfl rfl rfl (by omega) (t_117 hS (by omega)) ?_))))))))
        intro z11 ez11 f12
        refine n_iadd c_163_112 rfl (n_istore (L2 := [some (2, 112), some (0, a), some (0, 9), some (0, x), some (0, y), some (0, w), some (0, s), some (0, z1), some (0, ((0 * 3) + z11)), some (0, (9 - 1)), some (0, z5)]) c_163_113 rfl rfl (n_iinc (L2 := [some (2, 112), some (0, a), some (0, 9), some (0, x), some (0, y), some (0, w), some (0, s), some (0, z1), some (0, ((0 * 3) + z11)), some (0, ((9 - 1) + (-1))), some (0, z5)]) c_163_115 rfl rfl rfl (n_goto c_163_118 (n_iload c_163_16 rfl ?_))))
        refine n_if0_lt c_163_18 (by omega) ?_ ?_
        · intro h13
          exfalso; omega
        · intro h14
          refine n_aload_n c_163_21 rfl (n_getR c_163_22 sc_112.n rfl rfl rfl r_112_18 (n_bipush c_163_25 rfl (n_iload_n c_163_27 rfl (n_imul c_163_28 rfl (n_iload c_163_29 rfl (n_iadd c_163_31 rfl (n_ialoadV c_163_32 sc_126.n rfl rfl rfl (by omega) (t_126 hS (by omega)) ?_)))))))
          intro z15 ez15 f16
          refine n_istore (L2 := [some (2, 112), some (0, a), some (0, 9), some (0, x), some (0, y), some (0, w), some (0, s), some (0, z1), some (0, ((0 * 3) + z11)), some (0, ((9 - 1) + (-1))), some (0, z15)]) c_163_33 rfl rfl (n_iload c_163_35 rfl (n_iconst c_163_37 ?_))
          refine n_if2_le c_163_38 (by omega) (by omega) ?_ ?_
          · intro h17
            refine n_iload c_163_64 rfl (n_iconst c_163_66 ?_)
            refine n_if2_le c_163_67 (by omega) (by omega) ?_ ?_
            · intro h18
              refine n_iload c_163_93 rfl (n_aload_n c_163_95 rfl (n_getV (bi := 0) c_163_96 sc_112.n rfl rfl rfl (t_dm hS hdm) ?_))
              intro z19 ez19 f20
              obtain rfl : z19 = 3 := by omega
              refine n_imul c_163_99 rfl (n_aload_n c_163_100 rfl (n_getR c_163_101 sc_112.n rfl rfl rfl r_112_6 (n_bipush c_163_104 rfl (n_iload_n c_163_106 rfl (n_imul c_163_107 rfl (n_iload c_163_108 rfl (n_iadd c_163_110 rfl (n_ialoadV c_163_111 sc_117.n rfl rfl rfl (by omega) (t_117 hS (by omega)) ?_))))))))
              intro z21 ez21 f22
              refine n_iadd c_163_112 rfl (n_istore (L2 := [some (2, 112), some (0, a), some (0, 9), some (0, x), some (0, y), some (0, w), some (0, s), some (0, z1), some (0, ((((0 * 3) + z11) * 3) + z21)), some (0, ((9 - 1) + (-1))), some (0, z15)]) c_163_113 rfl rfl (n_iinc (L2 := [some (2, 112), some (0, a), some (0, 9), some (0, x), some (0, y), some (0, w), some (0, s), some (0, z1), some (0, ((((0 * 3) + z11) * 3) + z21)), some (0, (((9 - 1) + (-1)) + (-1))), some (0, z15)]) c_163_115 rfl rfl rfl (n_goto c_163_118 (n_iload c_163_16 rfl ?_))))
              refine n_if0_lt c_163_18 (by omega) ?_ ?_
              · intro h23
                exfalso; omega
              · intro h24
                refine n_aload_n c_163_21 rfl (n_getR c_163_22 sc_112.n rfl rfl rfl r_112_18 (n_bipush c_163_25 rfl (n_iload_n c_163_27 rfl (n_imul c_163_28 rfl (n_iload c_163_29 rfl (n_iadd c_163_31 rfl (n_ialoadV c_163_32 sc_126.n rfl rfl rfl (by omega) (t_126 hS (by omega)) ?_)))))))
                intro z25 ez25 f26
                refine n_istore (L2 := [some (2, 112), some (0, a), some (0, 9), some (0, x), some (0, y), some (0, w), some (0, s), some (0, z1), some (0, ((((0 * 3) + z11) * 3) + z21)), some (0, (((9 - 1) + (-1)) + (-1))), some (0, z25)]) c_163_33 rfl rfl (n_iload c_163_35 rfl (n_iconst c_163_37 ?_))
                refine n_if2_le c_163_38 (by omega) (by omega) ?_ ?_
                · intro h27
                  refine n_iload c_163_64 rfl (n_iconst c_163_66 ?_)
                  refine n_if2_le c_163_67 (by omega) (by omega) ?_ ?_
                  · intro h28
                    refine n_iload c_163_93 rfl (n_aload_n c_163_95 rfl (n_getV (bi := 0) c_163_96 sc_112.n rfl rfl rfl (t_dm hS hdm) ?_))
                    intro z29 ez29 f30
                    obtain rfl : z29 = 3 := by omega
                    refine n_imul c_163_99 rfl (n_aload_n c_163_100 rfl (n_getR c_163_101 sc_112.n rfl rfl rfl r_112_6 (n_bipush c_163_104 rfl (n_iload_n c_163_106 rfl (n_imul c_163_107 rfl (n_iload c_163_108 rfl (n_iadd c_163_110 rfl (n_ialoadV c_163_111 sc_117.n rfl rfl rfl (by omega) (t_117 hS (by omega)) ?_))))))))
                    intro z31 ez31 f32
                    refine n_iadd c_163_112 rfl (n_istore (L2 := [some (2, 112), some (0, a), some (0, 9), some (0, x), some (0, y), some (0, w), some (0, s), some (0, z1), some (0, ((((((0 * 3) + z11) * 3) + z21) * 3) + z31)), some (0, (((9 - 1) + (-1)) + (-1))), some (0, z25)]) c_163_113 rfl rfl (n_iinc (L2 := [some (2, 112), some (0, a), some (0, 9), some (0, x), some (0, y), some (0, w), some (0, s), some (0, z1), some (0, ((((((0 * 3) + z11) * 3) + z21) * 3) + z31)), some (0, ((((9 - 1) + (-1)) + (-1)) + (-1))), some (0, z25)]) c_163_115 rfl rfl rfl (n_goto c_163_118 (n_iload c_163_16 rfl ?_))))
                    refine n_if0_lt c_163_18 (by omega) ?_ ?_
                    · intro h33
                      exfalso; omega
                    · intro h34
                      refine n_aload_n c_163_21 rfl (n_getR c_163_22 sc_112.n rfl rfl rfl r_112_18 (n_bipush c_163_25 rfl (n_iload_n c_163_27 rfl (n_imul c_163_28 rfl (n_iload c_163_29 rfl (n_iadd c_163_31 rfl (n_ialoadV c_163_32 sc_126.n rfl rfl rfl (by omega) (t_126 hS (by omega)) ?_)))))))
                      intro z35 ez35 f36
                      refine n_istore (L2 := [some (2, 112), some (0, a), some (0, 9), some (0, x), some (0, y), some (0, w), some (0, s), some (0, z1), some (0, ((((((0 * 3) + z11) * 3) + z21) * 3) + z31)), some (0, ((((9 - 1) + (-1)) + (-1)) + (-1))), some (0, z35)]) c_163_33 rfl rfl (n_iload c_163_35 rfl (n_iconst c_163_37 ?_))
                      refine n_if2_le c_163_38 (by omega) (by omega) ?_ ?_
                      · intro h37
                        refine n_iload c_163_64 rfl (n_iconst c_163_66 ?_)
                        refine n_if2_le c_163_67 (by omega) (by omega) ?_ ?_
                        · intro h38
                          refine n_iload c_163_93 rfl (n_aload_n c_163_95 rfl (n_getV (bi := 0) c_163_96 sc_112.n rfl rfl rfl (t_dm hS hdm) ?_))
                          intro z39 ez39 f40
                          obtain rfl : z39 = 3 := by omega
                          refine n_imul c_163_99 rfl (n_aload_n c_163_100 rfl (n_getR c_163_101 sc_112.n rfl rfl rfl r_112_6 (n_bipush c_163_104 rfl (n_iload_n c_163_106 rfl (n_imul c_163_107 rfl (n_iload c_163_108 rfl (n_iadd c_163_110 rfl (n_ialoadV c_163_111 sc_117.n rfl rfl rfl (by omega) (t_117 hS (by omega)) ?_))))))))
                          intro z41 ez41 f42
                          refine n_iadd c_163_112 rfl (n_istore (L2 := [some (2, 112), some (0, a), some (0, 9), some (0, x), some (0, y), some (0, w), some (0, s), some (0, z1), some (0, ((((((((0 * 3) + z11) * 3) + z21) * 3) + z31) * 3) + z41)), some (0, ((((9 - 1) + (-1)) + (-1)) + (-1))), some (0, z35)]) c_163_113 rfl rfl (n_iinc (L2 := [some (2, 112), some (0, a), some (0, 9), some (0, x), some (0, y), some (0, w), some (0, s), some (0, z1), some (0, ((((((((0 * 3) + z11) * 3) + z21) * 3) + z31) * 3) + z41)), some (0, (((((9 - 1) + (-1)) + (-1)) + (-1)) + (-1))), some (0, z35)]) c_163_115 rfl rfl rfl (n_goto c_163_118 (n_iload c_163_16 rfl ?_))))
                          refine n_if0_lt c_163_18 (by omega) ?_ ?_
                          · intro h43
                            exfalso; omega
                          · intro h44
                            refine n_aload_n c_163_21 rfl (n_getR c_163_22 sc_112.n rfl rfl rfl r_112_18 (n_bipush c_163_25 rfl (n_iload_n c_163_27 rfl (n_imul c_163_28 rfl (n_iload c_163_29 rfl (n_iadd c_163_31 rfl (n_ialoadV c_163_32 sc_126.n rfl rfl rfl (by omega) (t_126 hS (by omega)) ?_)))))))
                            intro z45 ez45 f46
                            refine n_istore (L2 := [some (2, 112), some (0, a), some (0, 9), some (0, x), some (0, y), some (0, w), some (0, s), some (0, z1), some (0, ((((((((0 * 3) + z11) * 3) + z21) * 3) + z31) * 3) + z41)), some (0, (((((9 - 1) + (-1)) + (-1)) + (-1)) + (-1))), some (0, z45)]) c_163_33 rfl rfl (n_iload c_163_35 rfl (n_iconst c_163_37 ?_))
                            refine n_if2_le c_163_38 (by omega) (by omega) ?_ ?_
                            · intro h47
                              refine n_iload c_163_64 rfl (n_iconst c_163_66 ?_)
                              refine n_if2_le c_163_67 (by omega) (by omega) ?_ ?_
                              · intro h48
                                refine n_iload c_163_93 rfl (n_aload_n c_163_95 rfl (n_getV (bi := 0) c_163_96 sc_112.n rfl rfl rfl (t_dm hS hdm) ?_))
                                intro z49 ez49 f50
                                obtain rfl : z49 = 3 := by omega
                                refine n_imul c_163_99 rfl (n_aload_n c_163_100 rfl (n_getR c_163_101 sc_112.n rfl rfl rfl r_112_6 (n_bipush c_163_104 rfl (n_iload_n c_163_106 rfl (n_imul c_163_107 rfl (n_iload c_163_108 rfl (n_iadd c_163_110 rfl (n_ialoadV c_163_111 sc_117.n rfl rfl rfl (by omega) (t_117 hS (by omega)) ?_))))))))
                                intro z51 ez51 f52
                                refine n_iadd c_163_112 rfl (n_istore (L2 := [some (2, 112), some (0, a), some (0, 9), some (0, x), some (0, y), some (0, w), some (0, s), some (0, z1), some (0, ((((((((((0 * 3) + z11) * 3) + z21) * 3) + z31) * 3) + z41) * 3) + z51)), some (0, (((((9 - 1) + (-1)) + (-1)) + (-1)) + (-1))), some (0, z45)]) c_163_113 rfl rfl (n_iinc (L2 := [some (2, 112), some (0, a), some (0, 9), some (0, x), some (0, y), some (0, w), some (0, s), some (0, z1), some (0, ((((((((((0 * 3) + z11) * 3) + z21) * 3) + z31) * 3) + z41) * 3) + z51)), some (0, ((((((9 - 1) + (-1)) + (-1)) + (-1)) + (-1)) + (-1))), some (0, z45)]) c_163_115 rfl rfl rfl (n_goto c_163_118 (n_iload c_163_16 rfl ?_))))
                                refine n_if0_lt c_163_18 (by omega) ?_ ?_
                                · intro h53
                                  exfalso; omega
                                · intro h54
                                  refine n_aload_n c_163_21 rfl (n_getR c_163_22 sc_112.n rfl rfl rfl r_112_18 (n_bipush c_163_25 rfl (n_iload_n c_163_27 rfl (n_imul c_163_28 rfl (n_iload c_163_29 rfl (n_iadd c_163_31 rfl (n_ialoadV c_163_32 sc_126.n rfl rfl rfl (by omega) (t_126 hS (by omega)) ?_)))))))
                                  intro z55 ez55 f56
                                  refine n_istore (L2 := [some (2, 112), some (0, a), some (0, 9), some (0, x), some (0, y), some (0, w), some (0, s), some (0, z1), some (0, ((((((((((0 * 3) + z11) * 3) + z21) * 3) + z31) * 3) + z41) * 3) + z51)), some (0, ((((((9 - 1) + (-1)) + (-1)) + (-1)) + (-1)) + (-1))), some (0, z55)]) c_163_33 rfl rfl (n_iload c_163_35 rfl (n_iconst c_163_37 ?_))
                                  refine n_if2_le c_163_38 (by omega) (by omega) ?_ ?_
                                  · intro h57
                                    refine n_iload c_163_64 rfl (n_iconst c_163_66 ?_)
                                    refine n_if2_le c_163_67 (by omega) (by omega) ?_ ?_
                                    · intro h58
                                      refine n_iload c_163_93 rfl (n_aload_n c_163_95 rfl (n_getV (bi := 0) c_163_96 sc_112.n rfl rfl rfl (t_dm hS hdm) ?_))
                                      intro z59 ez59 f60
                                      obtain rfl : z59 = 3 := by omega
                                      refine n_imul c_163_99 rfl (n_aload_n c_163_100 rfl (n_getR c_163_101 sc_112.n rfl rfl rfl r_112_6 (n_bipush c_163_104 rfl (n_iload_n c_163_106 rfl (n_imul c_163_107 rfl (n_iload c_163_108 rfl (n_iadd c_163_110 rfl (n_ialoadV c_163_111 sc_117.n rfl rfl rfl (by omega) (t_117 hS (by omega)) ?_))))))))
                                      intro z61 ez61 f62
                                      refine n_iadd c_163_112 rfl (n_istore (L2 := [some (2, 112), some (0, a), some (0, 9), some (0, x), some (0, y), some (0, w), some (0, s), some (0, z1), some (0, ((((((((((((0 * 3) + z11) * 3) + z21) * 3) + z31) * 3) + z41) * 3) + z51) * 3) + z61)), some (0, ((((((9 - 1) + (-1)) + (-1)) + (-1)) + (-1)) + (-1))), some (0, z55)]) c_163_113 rfl rfl (n_iinc (L2 := [some (2, 112), some (0, a), some (0, 9), some (0, x), some (0, y), some (0, w), some (0, s), some (0, z1), some (0, ((((((((((((0 * 3) + z11) * 3) + z21) * 3) + z31) * 3) + z41) * 3) + z51) * 3) + z61)), some (0, (((((((9 - 1) + (-1)) + (-1)) + (-1)) + (-1)) + (-1)) + (-1))), some (0, z55)]) c_163_115 rfl rfl rfl (n_goto c_163_118 (n_iload c_163_16 rfl ?_))))
                                      refine n_if0_lt c_163_18 (by omega) ?_ ?_
                                      · intro h63
                                        exfalso; omega
                                      · intro h64
                                        refine n_aload_n c_163_21 rfl (n_getR c_163_22 sc_112.n rfl rfl rfl r_112_18 (n_bipush c_163_25 rfl (n_iload_n c_163_27 rfl (n_imul c_163_28 rfl (n_iload c_163_29 rfl (n_iadd c_163_31 rfl (n_ialoadV c_163_32 sc_126.n rfl rfl rfl (by omega) (t_126 hS (by omega)) ?_)))))))
                                        intro z65 ez65 f66
                                        refine n_istore (L2 := [some (2, 112), some (0, a), some (0, 9), some (0, x), some (0, y), some (0, w), some (0, s), some (0, z1), some (0, ((((((((((((0 * 3) + z11) * 3) + z21) * 3) + z31) * 3) + z41) * 3) + z51) * 3) + z61)), some (0, (((((((9 - 1) + (-1)) + (-1)) + (-1)) + (-1)) + (-1)) + (-1))), some (0, z65)]) c_163_33 rfl rfl (n_iload c_163_35 rfl (n_iconst c_163_37 ?_))
                                        refine n_if2_le c_163_38 (by omega) (by omega) ?_ ?_
                                        · intro h67
                                          refine n_iload c_163_64 rfl (n_iconst c_163_66 ?_)
                                          refine n_if2_le c_163_67 (by omega) (by omega) ?_ ?_
                                          · intro h68
                                            refine n_iload c_163_93 rfl (n_aload_n c_163_95 rfl (n_getV (bi := 0) c_163_96 sc_112.n rfl rfl rfl (t_dm hS hdm) ?_))
                                            intro z69 ez69 f70
                                            obtain rfl : z69 = 3 := by omega
                                            refine n_imul c_163_99 rfl (n_aload_n c_163_100 rfl (n_getR c_163_101 sc_112.n rfl rfl rfl r_112_6 (n_bipush c_163_104 rfl (n_iload_n c_163_106 rfl (n_imul c_163_107 rfl (n_iload c_163_108 rfl (n_iadd c_163_110 rfl (n_ialoadV c_163_111 sc_117.n rfl rfl rfl (by omega) (t_117 hS (by omega)) ?_))))))))
                                            intro z71 ez71 f72
                                            refine n_iadd c_163_112 rfl (n_istore (L2 := [some (2, 112), some (0, a), some (0, 9), some (0, x), some (0, y), some (0, w), some (0, s), some (0, z1), some (0, ((((((((((((((0 * 3) + z11) * 3) + z21) * 3) + z31) * 3) + z41) * 3) + z51) * 3) + z61) * 3) + z71)), some (0, (((((((9 - 1) + (-1)) + (-1)) + (-1)) + (-1)) + (-1)) + (-1))), some (0, z65)]) c_163_113 rfl rfl (n_iinc (L2 := [some (2, 112), some (0, a), some (0, 9), some (0, x), some (0, y), some (0, w), some (0, s), some (0, z1), some (0, ((((((((((((((0 * 3) + z11) * 3) + z21) * 3) + z31) * 3) + z41) * 3) + z51) * 3) + z61) * 3) + z71)), some (0, ((((((((9 - 1) + (-1)) + (-1)) + (-1)) + (-1)) + (-1)) + (-1)) + (-1))), some (0, z65)]) c_163_115 rfl rfl rfl (n_goto c_163_118 (n_iload c_163_16 rfl ?_))))
                                            refine n_if0_lt c_163_18 (by omega) ?_ ?_
                                            · intro h73
                                              exfalso; omega
                                            · intro h74
                                              refine n_aload_n c_163_21 rfl (n_getR c_163_22 sc_112.n rfl rfl rfl r_112_18 (n_bipush c_163_25 rfl (n_iload_n c_163_27 rfl (n_imul c_163_28 rfl (n_iload c_163_29 rfl (n_iadd c_163_31 rfl (n_ialoadV c_163_32 sc_126.n rfl rfl rfl (by omega) (t_126 hS (by omega)) ?_)))))))
                                              intro z75 ez75 f76
                                              refine n_istore (L2 := [some (2, 112), some (0, a), some (0, 9), some (0, x), some (0, y), some (0, w), some (0, s), some (0, z1), some (0, ((((((((((((((0 * 3) + z11) * 3) + z21) * 3) + z31) * 3) + z41) * 3) + z51) * 3) + z61) * 3) + z71)), some (0, ((((((((9 - 1) + (-1)) + (-1)) + (-1)) + (-1)) + (-1)) + (-1)) + (-1))), some (0, z75)]) c_163_33 rfl rfl (n_iload c_163_35 rfl (n_iconst c_163_37 ?_))
                                              refine n_if2_le c_163_38 (by omega) (by omega) ?_ ?_
                                              · intro h77
                                                refine n_iload c_163_64 rfl (n_iconst c_163_66 ?_)
                                                refine n_if2_le c_163_67 (by omega) (by omega) ?_ ?_
                                                · intro h78
                                                  refine n_iload c_163_93 rfl (n_aload_n c_163_95 rfl (n_getV (bi := 0) c_163_96 sc_112.n rfl rfl rfl (t_dm hS hdm) ?_))
                                                  intro z79 ez79 f80
                                                  obtain rfl : z79 = 3 := by omega
                                                  refine n_imul c_163_99 rfl (n_aload_n c_163_100 rfl (n_getR c_163_101 sc_112.n rfl rfl rfl r_112_6 (n_bipush c_163_104 rfl (n_iload_n c_163_106 rfl (n_imul c_163_107 rfl (n_iload c_163_108 rfl (n_iadd c_163_110 rfl (n_ialoadV c_163_111 sc_117.n rfl rfl rfl (by omega) (t_117 hS (by omega)) ?_))))))))
                                                  intro z81 ez81 f82
                                                  refine n_iadd c_163_112 rfl (n_istore (L2 := [some (2, 112), some (0, a), some (0, 9), some (0, x), some (0, y), some (0, w), some (0, s), some (0, z1), some (0, ((((((((((((((((0 * 3) + z11) * 3) + z21) * 3) + z31) * 3) + z41) * 3) + z51) * 3) + z61) * 3) + z71) * 3) + z81)), some (0, ((((((((9 - 1) + (-1)) + (-1)) + (-1)) + (-1)) + (-1)) + (-1)) + (-1))), some (0, z75)]) c_163_113 rfl rfl (n_iinc (L2 := [some (2, 112), some (0, a), some (0, 9), some (0, x), some (0, y), some (0, w), some (0, s), some (0, z1), some (0, ((((((((((((((((0 * 3) + z11) * 3) + z21) * 3) + z31) * 3) + z41) * 3) + z51) * 3) + z61) * 3) + z71) * 3) + z81)), some (0, (((((((((9 - 1) + (-1)) + (-1)) + (-1)) + (-1)) + (-1)) + (-1)) + (-1)) + (-1))), some (0, z75)]) c_163_115 rfl rfl rfl (n_goto c_163_118 (n_iload c_163_16 rfl ?_))))
                                                  refine n_if0_lt c_163_18 (by omega) ?_ ?_
                                                  · intro h83
                                                    exfalso; omega
                                                  · intro h84
                                                    refine n_aload_n c_163_21 rfl (n_getR c_163_22 sc_112.n rfl rfl rfl r_112_18 (n_bipush c_163_25 rfl (n_iload_n c_163_27 rfl (n_imul c_163_28 rfl (n_iload c_163_29 rfl (n_iadd c_163_31 rfl (n_ialoadV c_163_32 sc_126.n rfl rfl rfl (by omega) (t_126 hS (by omega)) ?_)))))))
                                                    intro z85 ez85 f86
                                                    refine n_istore (L2 := [some (2, 112), some (0, a), some (0, 9), some (0, x), some (0, y), some (0, w), some (0, s), some (0, z1), some (0, ((((((((((((((((0 * 3) + z11) * 3) + z21) * 3) + z31) * 3) + z41) * 3) + z51) * 3) + z61) * 3) + z71) * 3) + z81)), some (0, (((((((((9 - 1) + (-1)) + (-1)) + (-1)) + (-1)) + (-1)) + (-1)) + (-1)) + (-1))), some (0, z85)]) c_163_33 rfl rfl (n_iload c_163_35 rfl (n_iconst c_163_37 ?_))
                                                    refine n_if2_le c_163_38 (by omega) (by omega) ?_ ?_
                                                    · intro h87
                                                      refine n_iload c_163_64 rfl (n_iconst c_163_66 ?_)
                                                      refine n_if2_le c_163_67 (by omega) (by omega) ?_ ?_
                                                      · intro h88
                                                        refine n_iload c_163_93 rfl (n_aload_n c_163_95 rfl (n_getV (bi := 0) c_163_96 sc_112.n rfl rfl rfl (t_dm hS hdm) ?_))
                                                        intro z89 ez89 f90
                                                        obtain rfl : z89 = 3 := by omega
                                                        refine n_imul c_163_99 rfl (n_aload_n c_163_100 rfl (n_getR c_163_101 sc_112.n rfl rfl rfl r_112_6 (n_bipush c_163_104 rfl (n_iload_n c_163_106 rfl (n_imul c_163_107 rfl (n_iload c_163_108 rfl (n_iadd c_163_110 rfl (n_ialoadV c_163_111 sc_117.n rfl rfl rfl (by omega) (t_117 hS (by omega)) ?_))))))))
                                                        intro z91 ez91 f92
                                                        refine n_iadd c_163_112 rfl (n_istore (L2 := [some (2, 112), some (0, a), some (0, 9), some (0, x), some (0, y), some (0, w), some (0, s), some (0, z1), some (0, ((((((((((((((((((0 * 3) + z11) * 3) + z21) * 3) + z31) * 3) + z41) * 3) + z51) * 3) + z61) * 3) + z71) * 3) + z81) * 3) + z91)), some (0, (((((((((9 - 1) + (-1)) + (-1)) + (-1)) + (-1)) + (-1)) + (-1)) + (-1)) + (-1))), some (0, z85)]) c_163_113 rfl rfl (n_iinc (L2 := [some (2, 112), some (0, a), some (0, 9), some (0, x), some (0, y), some (0, w), some (0, s), some (0, z1), some (0, ((((((((((((((((((0 * 3) + z11) * 3) + z21) * 3) + z31) * 3) + z41) * 3) + z51) * 3) + z61) * 3) + z71) * 3) + z81) * 3) + z91)), some (0, ((((((((((9 - 1) + (-1)) + (-1)) + (-1)) + (-1)) + (-1)) + (-1)) + (-1)) + (-1)) + (-1))), some (0, z85)]) c_163_115 rfl rfl rfl (n_goto c_163_118 (n_iload c_163_16 rfl ?_))))
                                                        refine n_if0_lt c_163_18 (by omega) ?_ ?_
                                                        · intro h93
                                                          refine n_aload_n c_163_121 rfl (n_getR c_163_122 sc_112.n rfl rfl rfl r_112_17 (n_iload c_163_125 rfl (n_ialoadV c_163_127 sc_125.n rfl rfl rfl (by omega) (t_125 hS (by omega)) ?_)))
                                                          intro z94 ez94 f95
                                                          refine n_if0_eq c_163_128 (by omega) ?_ ?_
                                                          · intro h96
                                                            refine n_fg (le_s (le_n (le_n (le_n (le_n (le_n (le_s (le_n (le_s (le_n (le_n le_0))))))))))) ?_
                                                            exact (mjoined9_3_c hS hdm ha hx hy hw hs 14).1 _ M hS (by omega) (by omega)
                                                          · intro h97
                                                            refine n_aload_n c_163_131 rfl (n_getR c_163_132 sc_112.n rfl rfl rfl r_112_17 (n_iload c_163_135 rfl (n_ialoadV c_163_137 sc_125.n rfl rfl rfl (by omega) (t_125 hS (by omega)) ?_)))
                                                            intro z98 ez98 f99
                                                            refine n_iload c_163_138 rfl (n_iconst c_163_140 (n_iadd c_163_141 rfl ?_))
                                                            refine n_if2_le c_163_142 (by omega) (by omega) ?_ ?_
                                                            · intro h100
                                                              refine n_fg (le_n (le_n (le_n (le_n (le_n (le_n (le_n (le_n (le_n (le_n (le_n le_0))))))))))) ?_
                                                              exact (mjoined9_3_c hS hdm ha hx hy hw hs 14).2  M hS  (by omega)
                                                            · intro h101
                                                              refine n_fg (le_s (le_n (le_n (le_n (le_n (le_n (le_s (le_n (le_s (le_n (le_n le_0))))))))))) ?_
                                                              exact (mjoined9_3_c hS hdm ha hx hy hw hs 14).1 _ M hS (by omega) (by omega)
                                                        · intro h102
                                                          exfalso; omega
                                                      · intro h103
                                                        exfalso; omega
                                                    · intro h104
                                                      exfalso; omega
                                                · intro h105
                                                  exfalso; omega
                                              · intro h106
                                                exfalso; omega
                                          · intro h107
                                            exfalso; omega
                                        · intro h108
                                          exfalso; omega
                                    · intro h109
                                      exfalso; omega
                                  · intro h110
                                    exfalso; omega
                              · intro h111
                                exfalso; omega
                            · intro h112
                              exfalso; omega
                        · intro h113
                          exfalso; omega
                      · intro h114
                        exfalso; omega
                  · intro h115
                    exfalso; omega
                · intro h116
                  exfalso; omega
            · intro h117
              exfalso; omega
          · intro h118
            exfalso; omega
      · intro h119
        exfalso; omega
    · intro h120
      refine n_iload c_163_41 rfl (n_aload_n c_163_43 rfl (n_getV (bi := 0) c_163_44 sc_112.n rfl rfl rfl (t_dm hS hdm) ?_))
      intro z121 ez121 f122
      obtain rfl : z121 = 3 := by omega
      refine n_imul c_163_47 rfl (n_aload_n c_163_48 rfl (n_getR c_163_49 sc_112.n rfl rfl rfl r_112_18 (n_bipush c_163_52 rfl (n_iload c_163_54 rfl (n_imul c_163_56 rfl (n_iload c_163_57 rfl (n_iadd c_163_59 rfl (n_ialoadV c_163_60 sc_126.n rfl rfl rfl (by omega) (t_126 hS (by omega)) ?_))))))))
      intro z123 ez123 f124
      refine n_iadd c_163_61 rfl (n_istore (L2 := [some (2, 112), some (0, a), some (0, 9), some (0, x), some (0, y), some (0, w), some (0, s), some (0, z1), some (0, 0), some (0, (9 - 1)), some (0, ((z5 * 3) + z123))]) c_163_62 rfl rfl (n_iload c_163_64 rfl (n_iconst c_163_66 ?_)))
      refine n_if2_le c_163_67 (by omega) (by omega) ?_ ?_
      · intro h125
        refine n_iload c_163_93 rfl (n_aload_n c_163_95 rfl (n_getV (bi := 0) c_163_96 sc_112.n rfl rfl rfl (t_dm hS hdm) ?_))
        intro z126 ez126 f127
        obtain rfl : z126 = 3 := by omega
        refine n_imul c_163_99 rfl (n_aload_n c_163_100 rfl (n_getR c_163_101 sc_112.n rfl rfl rfl r_112_6 (n_bipush c_163_104 rfl (n_iload_n c_163_106 rfl (n_imul c_163_107 rfl (n_iload c_163_108 rfl (n_iadd c_163_110 rfl (n_ialoadV c_163_111 sc_117.n rfl rfl rfl (by omega) (t_117 hS (by omega)) ?_))))))))
        intro z128 ez128 f129
        refine n_iadd c_163_112 rfl (n_istore (L2 := [some (2, 112), some (0, a), some (0, 9), some (0, x), some (0, y), some (0, w), some (0, s), some (0, z1), some (0, ((0 * 3) + z128)), some (0, (9 - 1)), some (0, ((z5 * 3) + z123))]) c_163_113 rfl rfl (n_iinc (L2 := [some (2, 112), some (0, a), some (0, 9), some (0, x), some (0, y), some (0, w), some (0, s), some (0, z1), some (0, ((0 * 3) + z128)), some (0, ((9 - 1) + (-1))), some (0, ((z5 * 3) + z123))]) c_163_115 rfl rfl rfl (n_goto c_163_118 (n_iload c_163_16 rfl ?_))))
        refine n_if0_lt c_163_18 (by omega) ?_ ?_
        · intro h130
          exfalso; omega
        · intro h131
          refine n_aload_n c_163_21 rfl (n_getR c_163_22 sc_112.n rfl rfl rfl r_112_18 (n_bipush c_163_25 rfl (n_iload_n c_163_27 rfl (n_imul c_163_28 rfl (n_iload c_163_29 rfl (n_iadd c_163_31 rfl (n_ialoadV c_163_32 sc_126.n rfl rfl rfl (by omega) (t_126 hS (by omega)) ?_)))))))
          intro z132 ez132 f133
          refine n_istore (L2 := [some (2, 112), some (0, a), some (0, 9), some (0, x), some (0, y), some (0, w), some (0, s), some (0, z1), some (0, ((0 * 3) + z128)), some (0, ((9 - 1) + (-1))), some (0, z132)]) c_163_33 rfl rfl (n_iload c_163_35 rfl (n_iconst c_163_37 ?_))
          refine n_if2_le c_163_38 (by omega) (by omega) ?_ ?_
          · intro h134
            exfalso; omega
          · intro h135
            refine n_iload c_163_41 rfl (n_aload_n c_163_43 rfl (n_getV (bi := 0) c_163_44 sc_112.n rfl rfl rfl (t_dm hS hdm) ?_))
            intro z136 ez136 f137
            obtain rfl : z136 = 3 := by omega
            refine n_imul c_163_47 rfl (n_aload_n c_163_48 rfl (n_getR c_163_49 sc_112.n rfl rfl rfl r_112_18 (n_bipush c_163_52 rfl (n_iload c_163_54 rfl (n_imul c_163_56 rfl (n_iload c_163_57 rfl (n_iadd c_163_59 rfl (n_ialoadV c_163_60 sc_126.n rfl rfl rfl (by omega) (t_126 hS (by omega)) ?_))))))))
            intro z138 ez138 f139
            refine n_iadd c_163_61 rfl (n_istore (L2 := [some (2, 112), some (0, a), some (0, 9), some (0, x), some (0, y), some (0, w), some (0, s), some (0, z1), some (0, ((0 * 3) + z128)), some (0, ((9 - 1) + (-1))), some (0, ((z132 * 3) + z138))]) c_163_62 rfl rfl (n_iload c_163_64 rfl (n_iconst c_163_66 ?_)))
            refine n_if2_le c_163_67 (by omega) (by omega) ?_ ?_
            · intro h140
              refine n_iload c_163_93 rfl (n_aload_n c_163_95 rfl (n_getV (bi := 0) c_163_96 sc_112.n rfl rfl rfl (t_dm hS hdm) ?_))
              intro z141 ez141 f142
              obtain rfl : z141 = 3 := by omega
              refine n_imul c_163_99 rfl (n_aload_n c_163_100 rfl (n_getR c_163_101 sc_112.n rfl rfl rfl r_112_6 (n_bipush c_163_104 rfl (n_iload_n c_163_106 rfl (n_imul c_163_107 rfl (n_iload c_163_108 rfl (n_iadd c_163_110 rfl (n_ialoadV c_163_111 sc_117.n rfl rfl rfl (by omega) (t_117 hS (by omega)) ?_))))))))
              intro z143 ez143 f144
              refine n_iadd c_163_112 rfl (n_istore (L2 := [some (2, 112), some (0, a), some (0, 9), some (0, x), some (0, y), some (0, w), some (0, s), some (0, z1), some (0, ((((0 * 3) + z128) * 3) + z143)), some (0, ((9 - 1) + (-1))), some (0, ((z132 * 3) + z138))]) c_163_113 rfl rfl (n_iinc (L2 := [some (2, 112), some (0, a), some (0, 9), some (0, x), some (0, y), some (0, w), some (0, s), some (0, z1), some (0, ((((0 * 3) + z128) * 3) + z143)), some (0, (((9 - 1) + (-1)) + (-1))), some (0, ((z132 * 3) + z138))]) c_163_115 rfl rfl rfl (n_goto c_163_118 (n_iload c_163_16 rfl ?_))))
              refine n_if0_lt c_163_18 (by omega) ?_ ?_
              · intro h145
                exfalso; omega
              · intro h146
                refine n_aload_n c_163_21 rfl (n_getR c_163_22 sc_112.n rfl rfl rfl r_112_18 (n_bipush c_163_25 rfl (n_iload_n c_163_27 rfl (n_imul c_163_28 rfl (n_iload c_163_29 rfl (n_iadd c_163_31 rfl (n_ialoadV c_163_32 sc_126.n rfl rfl rfl (by omega) (t_126 hS (by omega)) ?_)))))))
                intro z147 ez147 f148
                refine n_istore (L2 := [some (2, 112), some (0, a), some (0, 9), some (0, x), some (0, y), some (0, w), some (0, s), some (0, z1), some (0, ((((0 * 3) + z128) * 3) + z143)), some (0, (((9 - 1) + (-1)) + (-1))), some (0, z147)]) c_163_33 rfl rfl (n_iload c_163_35 rfl (n_iconst c_163_37 ?_))
                refine n_if2_le c_163_38 (by omega) (by omega) ?_ ?_
                · intro h149
                  exfalso; omega
                · intro h150
                  refine n_iload c_163_41 rfl (n_aload_n c_163_43 rfl (n_getV (bi := 0) c_163_44 sc_112.n rfl rfl rfl (t_dm hS hdm) ?_))
                  intro z151 ez151 f152
                  obtain rfl : z151 = 3 := by omega
                  refine n_imul c_163_47 rfl (n_aload_n c_163_48 rfl (n_getR c_163_49 sc_112.n rfl rfl rfl r_112_18 (n_bipush c_163_52 rfl (n_iload c_163_54 rfl (n_imul c_163_56 rfl (n_iload c_163_57 rfl (n_iadd c_163_59 rfl (n_ialoadV c_163_60 sc_126.n rfl rfl rfl (by omega) (t_126 hS (by omega)) ?_))))))))
                  intro z153 ez153 f154
                  refine n_iadd c_163_61 rfl (n_istore (L2 := [some (2, 112), some (0, a), some (0, 9), some (0, x), some (0, y), some (0, w), some (0, s), some (0, z1), some (0, ((((0 * 3) + z128) * 3) + z143)), some (0, (((9 - 1) + (-1)) + (-1))), some (0, ((z147 * 3) + z153))]) c_163_62 rfl rfl (n_iload c_163_64 rfl (n_iconst c_163_66 ?_)))
                  refine n_if2_le c_163_67 (by omega) (by omega) ?_ ?_
                  · intro h155
                    refine n_iload c_163_93 rfl (n_aload_n c_163_95 rfl (n_getV (bi := 0) c_163_96 sc_112.n rfl rfl rfl (t_dm hS hdm) ?_))
                    intro z156 ez156 f157
                    obtain rfl : z156 = 3 := by omega
                    refine n_imul c_163_99 rfl (n_aload_n c_163_100 rfl (n_getR c_163_101 sc_112.n rfl rfl rfl r_112_6 (n_bipush c_163_104 rfl (n_iload_n c_163_106 rfl (n_imul c_163_107 rfl (n_iload c_163_108 rfl (n_iadd c_163_110 rfl (n_ialoadV c_163_111 sc_117.n rfl rfl rfl (by omega) (t_117 hS (by omega)) ?_))))))))
                    intro z158 ez158 f159
                    refine n_iadd c_163_112 rfl (n_istore (L2 := [some (2, 112), some (0, a), some (0, 9), some (0, x), some (0, y), some (0, w), some (0, s), some (0, z1), some (0, ((((((0 * 3) + z128) * 3) + z143) * 3) + z158)), some (0, (((9 - 1) + (-1)) + (-1))), some (0, ((z147 * 3) + z153))]) c_163_113 rfl rfl (n_iinc (L2 := [some (2, 112), some (0, a), some (0, 9), some (0, x), some (0, y), some (0, w), some (0, s), some (0, z1), some (0, ((((((0 * 3) + z128) * 3) + z143) * 3) + z158)), some (0, ((((9 - 1) + (-1)) + (-1)) + (-1))), some (0, ((z147 * 3) + z153))]) c_163_115 rfl rfl rfl (n_goto c_163_118 (n_iload c_163_16 rfl ?_))))
                    refine n_if0_lt c_163_18 (by omega) ?_ ?_
                    · intro h160
                      exfalso; omega
                    · intro h161
                      refine n_aload_n c_163_21 rfl (n_getR c_163_22 sc_112.n rfl rfl rfl r_112_18 (n_bipush c_163_25 rfl (n_iload_n c_163_27 rfl (n_imul c_163_28 rfl (n_iload c_163_29 rfl (n_iadd c_163_31 rfl (n_ialoadV c_163_32 sc_126.n rfl rfl rfl (by omega) (t_126 hS (by omega)) ?_)))))))
                      intro z162 ez162 f163
                      refine n_istore (L2 := [some (2, 112), some (0, a), some (0, 9), some (0, x), some (0, y), some (0, w), some (0, s), some (0, z1), some (0, ((((((0 * 3) + z128) * 3) + z143) * 3) + z158)), some (0, ((((9 - 1) + (-1)) + (-1)) + (-1))), some (0, z162)]) c_163_33 rfl rfl (n_iload c_163_35 rfl (n_iconst c_163_37 ?_))
                      refine n_if2_le c_163_38 (by omega) (by omega) ?_ ?_
                      · intro h164
                        exfalso; omega
                      · intro h165
                        refine n_iload c_163_41 rfl (n_aload_n c_163_43 rfl (n_getV (bi := 0) c_163_44 sc_112.n rfl rfl rfl (t_dm hS hdm) ?_))
                        intro z166 ez166 f167
                        obtain rfl : z166 = 3 := by omega
                        refine n_imul c_163_47 rfl (n_aload_n c_163_48 rfl (n_getR c_163_49 sc_112.n rfl rfl rfl r_112_18 (n_bipush c_163_52 rfl (n_iload c_163_54 rfl (n_imul c_163_56 rfl (n_iload c_163_57 rfl (n_iadd c_163_59 rfl (n_ialoadV c_163_60 sc_126.n rfl rfl rfl (by omega) (t_126 hS (by omega)) ?_))))))))
                        intro z168 ez168 f169
                        refine n_iadd c_163_61 rfl (n_istore (L2 := [some (2, 112), some (0, a), some (0, 9), some (0, x), some (0, y), some (0, w), some (0, s), some (0, z1), some (0, ((((((0 * 3) + z128) * 3) + z143) * 3) + z158)), some (0, ((((9 - 1) + (-1)) + (-1)) + (-1))), some (0, ((z162 * 3) + z168))]) c_163_62 rfl rfl (n_iload c_163_64 rfl (n_iconst c_163_66 ?_)))
                        refine n_if2_le c_163_67 (by omega) (by omega) ?_ ?_
                        · intro h170
                          refine n_iload c_163_93 rfl (n_aload_n c_163_95 rfl (n_getV (bi := 0) c_163_96 sc_112.n rfl rfl rfl (t_dm hS hdm) ?_))
                          intro z171 ez171 f172
                          obtain rfl : z171 = 3 := by omega
                          refine n_imul c_163_99 rfl (n_aload_n c_163_100 rfl (n_getR c_163_101 sc_112.n rfl rfl rfl r_112_6 (n_bipush c_163_104 rfl (n_iload_n c_163_106 rfl (n_imul c_163_107 rfl (n_iload c_163_108 rfl (n_iadd c_163_110 rfl (n_ialoadV c_163_111 sc_117.n rfl rfl rfl (by omega) (t_117 hS (by omega)) ?_))))))))
                          intro z173 ez173 f174
                          refine n_iadd c_163_112 rfl (n_istore (L2 := [some (2, 112), some (0, a), some (0, 9), some (0, x), some (0, y), some (0, w), some (0, s), some (0, z1), some (0, ((((((((0 * 3) + z128) * 3) + z143) * 3) + z158) * 3) + z173)), some (0, ((((9 - 1) + (-1)) + (-1)) + (-1))), some (0, ((z162 * 3) + z168))]) c_163_113 rfl rfl (n_iinc (L2 := [some (2, 112), some (0, a), some (0, 9), some (0, x), some (0, y), some (0, w), some (0, s), some (0, z1), some (0, ((((((((0 * 3) + z128) * 3) + z143) * 3) + z158) * 3) + z173)), some (0, (((((9 - 1) + (-1)) + (-1)) + (-1)) + (-1))), some (0, ((z162 * 3) + z168))]) c_163_115 rfl rfl rfl (n_goto c_163_118 (n_iload c_163_16 rfl ?_))))
                          refine n_if0_lt c_163_18 (by omega) ?_ ?_
                          · intro h175
                            exfalso; omega
                          · intro h176
                            refine n_aload_n c_163_21 rfl (n_getR c_163_22 sc_112.n rfl rfl rfl r_112_18 (n_bipush c_163_25 rfl (n_iload_n c_163_27 rfl (n_imul c_163_28 rfl (n_iload c_163_29 rfl (n_iadd c_163_31 rfl (n_ialoadV c_163_32 sc_126.n rfl rfl rfl (by omega) (t_126 hS (by omega)) ?_)))))))
                            intro z177 ez177 f178
                            refine n_istore (L2 := [some (2, 112), some (0, a), some (0, 9), some (0, x), some (0, y), some (0, w), some (0, s), some (0, z1), some (0, ((((((((0 * 3) + z128) * 3) + z143) * 3) + z158) * 3) + z173)), some (0, (((((9 - 1) + (-1)) + (-1)) + (-1)) + (-1))), some (0, z177)]) c_163_33 rfl rfl (n_iload c_163_35 rfl (n_iconst c_163_37 ?_))
                            refine n_if2_le c_163_38 (by omega) (by omega) ?_ ?_
                            · intro h179
                              exfalso; omega
                            · intro h180
                              refine n_iload c_163_41 rfl (n_aload_n c_163_43 rfl (n_getV (bi := 0) c_163_44 sc_112.n rfl rfl rfl (t_dm hS hdm) ?_))
                              intro z181 ez181 f182
                              obtain rfl : z181 = 3 := by omega
                              refine n_imul c_163_47 rfl (n_aload_n c_163_48 rfl (n_getR c_163_49 sc_112.n rfl rfl rfl r_112_18 (n_bipush c_163_52 rfl (n_iload c_163_54 rfl (n_imul c_163_56 rfl (n_iload c_163_57 rfl (n_iadd c_163_59 rfl (n_ialoadV c_163_60 sc_126.n rfl rfl rfl (by omega) (t_126 hS (by omega)) ?_))))))))
                              intro z183 ez183 f184
                              refine n_iadd c_163_61 rfl (n_istore (L2 := [some (2, 112), some (0, a), some (0, 9), some (0, x), some (0, y), some (0, w), some (0, s), some (0, z1), some (0, ((((((((0 * 3) + z128) * 3) + z143) * 3) + z158) * 3) + z173)), some (0, (((((9 - 1) + (-1)) + (-1)) + (-1)) + (-1))), some (0, ((z177 * 3) + z183))]) c_163_62 rfl rfl (n_iload c_163_64 rfl (n_iconst c_163_66 ?_)))
                              refine n_if2_le c_163_67 (by omega) (by omega) ?_ ?_
                              · intro h185
                                refine n_iload c_163_93 rfl (n_aload_n c_163_95 rfl (n_getV (bi := 0) c_163_96 sc_112.n rfl rfl rfl (t_dm hS hdm) ?_))
                                intro z186 ez186 f187
                                obtain rfl : z186 = 3 := by omega
                                refine n_imul c_163_99 rfl (n_aload_n c_163_100 rfl (n_getR c_163_101 sc_112.n rfl rfl rfl r_112_6 (n_bipush c_163_104 rfl (n_iload_n c_163_106 rfl (n_imul c_163_107 rfl (n_iload c_163_108 rfl (n_iadd c_163_110 rfl (n_ialoadV c_163_111 sc_117.n rfl rfl rfl (by omega) (t_117 hS (by omega)) ?_))))))))
                                intro z188 ez188 f189
                                refine n_iadd c_163_112 rfl (n_istore (L2 := [some (2, 112), some (0, a), some (0, 9), some (0, x), some (0, y), some (0, w), some (0, s), some (0, z1), some (0, ((((((((((0 * 3) + z128) * 3) + z143) * 3) + z158) * 3) + z173) * 3) + z188)), some (0, (((((9 - 1) + (-1)) + (-1)) + (-1)) + (-1))), some (0, ((z177 * 3) + z183))]) c_163_113 rfl rfl (n_iinc (L2 := [some (2, 112), some (0, a), some (0, 9), some (0, x), some (0, y), some (0, w), some (0, s), some (0, z1), some (0, ((((((((((0 * 3) + z128) * 3) + z143) * 3) + z158) * 3) + z173) * 3) + z188)), some (0, ((((((9 - 1) + (-1)) + (-1)) + (-1)) + (-1)) + (-1))), some (0, ((z177 * 3) + z183))]) c_163_115 rfl rfl rfl (n_goto c_163_118 (n_iload c_163_16 rfl ?_))))
                                refine n_if0_lt c_163_18 (by omega) ?_ ?_
                                · intro h190
                                  exfalso; omega
                                · intro h191
                                  refine n_aload_n c_163_21 rfl (n_getR c_163_22 sc_112.n rfl rfl rfl r_112_18 (n_bipush c_163_25 rfl (n_iload_n c_163_27 rfl (n_imul c_163_28 rfl (n_iload c_163_29 rfl (n_iadd c_163_31 rfl (n_ialoadV c_163_32 sc_126.n rfl rfl rfl (by omega) (t_126 hS (by omega)) ?_)))))))
                                  intro z192 ez192 f193
                                  refine n_istore (L2 := [some (2, 112), some (0, a), some (0, 9), some (0, x), some (0, y), some (0, w), some (0, s), some (0, z1), some (0, ((((((((((0 * 3) + z128) * 3) + z143) * 3) + z158) * 3) + z173) * 3) + z188)), some (0, ((((((9 - 1) + (-1)) + (-1)) + (-1)) + (-1)) + (-1))), some (0, z192)]) c_163_33 rfl rfl (n_iload c_163_35 rfl (n_iconst c_163_37 ?_))
                                  refine n_if2_le c_163_38 (by omega) (by omega) ?_ ?_
                                  · intro h194
                                    exfalso; omega
                                  · intro h195
                                    refine n_iload c_163_41 rfl (n_aload_n c_163_43 rfl (n_getV (bi := 0) c_163_44 sc_112.n rfl rfl rfl (t_dm hS hdm) ?_))
                                    intro z196 ez196 f197
                                    obtain rfl : z196 = 3 := by omega
                                    refine n_imul c_163_47 rfl (n_aload_n c_163_48 rfl (n_getR c_163_49 sc_112.n rfl rfl rfl r_112_18 (n_bipush c_163_52 rfl (n_iload c_163_54 rfl (n_imul c_163_56 rfl (n_iload c_163_57 rfl (n_iadd c_163_59 rfl (n_ialoadV c_163_60 sc_126.n rfl rfl rfl (by omega) (t_126 hS (by omega)) ?_))))))))
                                    intro z198 ez198 f199
                                    refine n_iadd c_163_61 rfl (n_istore (L2 := [some (2, 112), some (0, a), some (0, 9), some (0, x), some (0, y), some (0, w), some (0, s), some (0, z1), some (0, ((((((((((0 * 3) + z128) * 3) + z143) * 3) + z158) * 3) + z173) * 3) + z188)), some (0, ((((((9 - 1) + (-1)) + (-1)) + (-1)) + (-1)) + (-1))), some (0, ((z192 * 3) + z198))]) c_163_62 rfl rfl (n_iload c_163_64 rfl (n_iconst c_163_66 ?_)))
                                    refine n_if2_le c_163_67 (by omega) (by omega) ?_ ?_
                                    · intro h200
                                      refine n_iload c_163_93 rfl (n_aload_n c_163_95 rfl (n_getV (bi := 0) c_163_96 sc_112.n rfl rfl rfl (t_dm hS hdm) ?_))
                                      intro z201 ez201 f202
                                      obtain rfl : z201 = 3 := by omega
                                      refine n_imul c_163_99 rfl (n_aload_n c_163_100 rfl (n_getR c_163_101 sc_112.n rfl rfl rfl r_112_6 (n_bipush c_163_104 rfl (n_iload_n c_163_106 rfl (n_imul c_163_107 rfl (n_iload c_163_108 rfl (n_iadd c_163_110 rfl (n_ialoadV c_163_111 sc_117.n rfl rfl rfl (by omega) (t_117 hS (by omega)) ?_))))))))
                                      intro z203 ez203 f204
                                      refine n_iadd c_163_112 rfl (n_istore (L2 := [some (2, 112), some (0, a), some (0, 9), some (0, x), some (0, y), some (0, w), some (0, s), some (0, z1), some (0, ((((((((((((0 * 3) + z128) * 3) + z143) * 3) + z158) * 3) + z173) * 3) + z188) * 3) + z203)), some (0, ((((((9 - 1) + (-1)) + (-1)) + (-1)) + (-1)) + (-1))), some (0, ((z192 * 3) + z198))]) c_163_113 rfl rfl (n_iinc (L2 := [some (2, 112), some (0, a), some (0, 9), some (0, x), some (0, y), some (0, w), some (0, s), some (0, z1), some (0, ((((((((((((0 * 3) + z128) * 3) + z143) * 3) + z158) * 3) + z173) * 3) + z188) * 3) + z203)), some (0, (((((((9 - 1) + (-1)) + (-1)) + (-1)) + (-1)) + (-1)) + (-1))), some (0, ((z192 * 3) + z198))]) c_163_115 rfl rfl rfl (n_goto c_163_118 (n_iload c_163_16 rfl ?_))))
                                      refine n_if0_lt c_163_18 (by omega) ?_ ?_
                                      · intro h205
                                        exfalso; omega
                                      · intro h206
                                        refine n_aload_n c_163_21 rfl (n_getR c_163_22 sc_112.n rfl rfl rfl r_112_18 (n_bipush c_163_25 rfl (n_iload_n c_163_27 rfl (n_imul c_163_28 rfl (n_iload c_163_29 rfl (n_iadd c_163_31 rfl (n_ialoadV c_163_32 sc_126.n rfl rfl rfl (by omega) (t_126 hS (by omega)) ?_)))))))
                                        intro z207 ez207 f208
                                        refine n_istore (L2 := [some (2, 112), some (0, a), some (0, 9), some (0, x), some (0, y), some (0, w), some (0, s), some (0, z1), some (0, ((((((((((((0 * 3) + z128) * 3) + z143) * 3) + z158) * 3) + z173) * 3) + z188) * 3) + z203)), some (0, (((((((9 - 1) + (-1)) + (-1)) + (-1)) + (-1)) + (-1)) + (-1))), some (0, z207)]) c_163_33 rfl rfl (n_iload c_163_35 rfl (n_iconst c_163_37 ?_))
                                        refine n_if2_le c_163_38 (by omega) (by omega) ?_ ?_
                                        · intro h209
                                          exfalso; omega
                                        · intro h210
                                          refine n_iload c_163_41 rfl (n_aload_n c_163_43 rfl (n_getV (bi := 0) c_163_44 sc_112.n rfl rfl rfl (t_dm hS hdm) ?_))
                                          intro z211 ez211 f212
                                          obtain rfl : z211 = 3 := by omega
                                          refine n_imul c_163_47 rfl (n_aload_n c_163_48 rfl (n_getR c_163_49 sc_112.n rfl rfl rfl r_112_18 (n_bipush c_163_52 rfl (n_iload c_163_54 rfl (n_imul c_163_56 rfl (n_iload c_163_57 rfl (n_iadd c_163_59 rfl (n_ialoadV c_163_60 sc_126.n rfl rfl rfl (by omega) (t_126 hS (by omega)) ?_))))))))
                                          intro z213 ez213 f214
                                          refine n_iadd c_163_61 rfl (n_istore (L2 := [some (2, 112), some (0, a), some (0, 9), some (0, x), some (0, y), some (0, w), some (0, s), some (0, z1), some (0, ((((((((((((0 * 3) + z128) * 3) + z143) * 3) + z158) * 3) + z173) * 3) + z188) * 3) + z203)), some (0, (((((((9 - 1) + (-1)) + (-1)) + (-1)) + (-1)) + (-1)) + (-1))), some (0, ((z207 * 3) + z213))]) c_163_62 rfl rfl (n_iload c_163_64 rfl (n_iconst c_163_66 ?_)))
                                          refine n_if2_le c_163_67 (by omega) (by omega) ?_ ?_
                                          · intro h215
                                            refine n_iload c_163_93 rfl (n_aload_n c_163_95 rfl (n_getV (bi := 0) c_163_96 sc_112.n rfl rfl rfl (t_dm hS hdm) ?_))
                                            intro z216 ez216 f217
                                            obtain rfl : z216 = 3 := by omega
                                            refine n_imul c_163_99 rfl (n_aload_n c_163_100 rfl (n_getR c_163_101 sc_112.n rfl rfl rfl r_112_6 (n_bipush c_163_104 rfl (n_iload_n c_163_106 rfl (n_imul c_163_107 rfl (n_iload c_163_108 rfl (n_iadd c_163_110 rfl (n_ialoadV c_163_111 sc_117.n rfl rfl rfl (by omega) (t_117 hS (by omega)) ?_))))))))
                                            intro z218 ez218 f219
                                            refine n_iadd c_163_112 rfl (n_istore (L2 := [some (2, 112), some (0, a), some (0, 9), some (0, x), some (0, y), some (0, w), some (0, s), some (0, z1), some (0, ((((((((((((((0 * 3) + z128) * 3) + z143) * 3) + z158) * 3) + z173) * 3) + z188) * 3) + z203) * 3) + z218)), some (0, (((((((9 - 1) + (-1)) + (-1)) + (-1)) + (-1)) + (-1)) + (-1))), some (0, ((z207 * 3) + z213))]) c_163_113 rfl rfl (n_iinc (L2 := [some (2, 112), some (0, a), some (0, 9), some (0, x), some (0, y), some (0, w), some (0, s), some (0, z1), some (0, ((((((((((((((0 * 3) + z128) * 3) + z143) * 3) + z158) * 3) + z173) * 3) + z188) * 3) + z203) * 3) + z218)), some (0, ((((((((9 - 1) + (-1)) + (-1)) + (-1)) + (-1)) + (-1)) + (-1)) + (-1))), some (0, ((z207 * 3) + z213))]) c_163_115 rfl rfl rfl (n_goto c_163_118 (n_iload c_163_16 rfl ?_))))
                                            refine n_if0_lt c_163_18 (by omega) ?_ ?_
                                            · intro h220
                                              exfalso; omega
                                            · intro h221
                                              refine n_aload_n c_163_21 rfl (n_getR c_163_22 sc_112.n rfl rfl rfl r_112_18 (n_bipush c_163_25 rfl (n_iload_n c_163_27 rfl (n_imul c_163_28 rfl (n_iload c_163_29 rfl (n_iadd c_163_31 rfl (n_ialoadV c_163_32 sc_126.n rfl rfl rfl (by omega) (t_126 hS (by omega)) ?_)))))))
                                              intro z222 ez222 f223
                                              refine n_istore (L2 := [some (2, 112), some (0, a), some (0, 9), some (0, x), some (0, y), some (0, w), some (0, s), some (0, z1), some (0, ((((((((((((((0 * 3) + z128) * 3) + z143) * 3) + z158) * 3) + z173) * 3) + z188) * 3) + z203) * 3) + z218)), some (0, ((((((((9 - 1) + (-1)) + (-1)) + (-1)) + (-1)) + (-1)) + (-1)) + (-1))), some (0, z222)]) c_163_33 rfl rfl (n_iload c_163_35 rfl (n_iconst c_163_37 ?_))
                                              refine n_if2_le c_163_38 (by omega) (by omega) ?_ ?_
                                              · intro h224
                                                exfalso; omega
                                              · intro h225
                                                refine n_iload c_163_41 rfl (n_aload_n c_163_43 rfl (n_getV (bi := 0) c_163_44 sc_112.n rfl rfl rfl (t_dm hS hdm) ?_))
                                                intro z226 ez226 f227
                                                obtain rfl : z226 = 3 := by omega
                                                refine n_imul c_163_47 rfl (n_aload_n c_163_48 rfl (n_getR c_163_49 sc_112.n rfl rfl rfl r_112_18 (n_bipush c_163_52 rfl (n_iload c_163_54 rfl (n_imul c_163_56 rfl (n_iload c_163_57 rfl (n_iadd c_163_59 rfl (n_ialoadV c_163_60 sc_126.n rfl rfl rfl (by omega) (t_126 hS (by omega)) ?_))))))))
                                                intro z228 ez228 f229
                                                refine n_iadd c_163_61 rfl (n_istore (L2 := [some (2, 112), some (0, a), some (0, 9), some (0, x), some (0, y), some (0, w), some (0, s), some (0, z1), some (0, ((((((((((((((0 * 3) + z128) * 3) + z143) * 3) + z158) * 3) + z173) * 3) + z188) * 3) + z203) * 3) + z218)), some (0, ((((((((9 - 1) + (-1)) + (-1)) + (-1)) + (-1)) + (-1)) + (-1)) + (-1))), some (0, ((z222 * 3) + z228))]) c_163_62 rfl rfl (n_iload c_163_64 rfl (n_iconst c_163_66 ?_)))
                                                refine n_if2_le c_163_67 (by omega) (by omega) ?_ ?_
                                                · intro h230
                                                  refine n_iload c_163_93 rfl (n_aload_n c_163_95 rfl (n_getV (bi := 0) c_163_96 sc_112.n rfl rfl rfl (t_dm hS hdm) ?_))
                                                  intro z231 ez231 f232
                                                  obtain rfl : z231 = 3 := by omega
                                                  refine n_imul c_163_99 rfl (n_aload_n c_163_100 rfl (n_getR c_163_101 sc_112.n rfl rfl rfl r_112_6 (n_bipush c_163_104 rfl (n_iload_n c_163_106 rfl (n_imul c_163_107 rfl (n_iload c_163_108 rfl (n_iadd c_163_110 rfl (n_ialoadV c_163_111 sc_117.n rfl rfl rfl (by omega) (t_117 hS (by omega)) ?_))))))))
                                                  intro z233 ez233 f234
                                                  refine n_iadd c_163_112 rfl (n_istore (L2 := [some (2, 112), some (0, a), some (0, 9), some (0, x), some (0, y), some (0, w), some (0, s), some (0, z1), some (0, ((((((((((((((((0 * 3) + z128) * 3) + z143) * 3) + z158) * 3) + z173) * 3) + z188) * 3) + z203) * 3) + z218) * 3) + z233)), some (0, ((((((((9 - 1) + (-1)) + (-1)) + (-1)) + (-1)) + (-1)) + (-1)) + (-1))), some (0, ((z222 * 3) + z228))]) c_163_113 rfl rfl (n_iinc (L2 := [some (2, 112), some (0, a), some (0, 9), some (0, x), some (0, y), some (0, w), some (0, s), some (0, z1), some (0, ((((((((((((((((0 * 3) + z128) * 3) + z143) * 3) + z158) * 3) + z173) * 3) + z188) * 3) + z203) * 3) + z218) * 3) + z233)), some (0, (((((((((9 - 1) + (-1)) + (-1)) + (-1)) + (-1)) + (-1)) + (-1)) + (-1)) + (-1))), some (0, ((z222 * 3) + z228))]) c_163_115 rfl rfl rfl (n_goto c_163_118 (n_iload c_163_16 rfl ?_))))
                                                  refine n_if0_lt c_163_18 (by omega) ?_ ?_
                                                  · intro h235
                                                    exfalso; omega
                                                  · intro h236
                                                    refine n_aload_n c_163_21 rfl (n_getR c_163_22 sc_112.n rfl rfl rfl r_112_18 (n_bipush c_163_25 rfl (n_iload_n c_163_27 rfl (n_imul c_163_28 rfl (n_iload c_163_29 rfl (n_iadd c_163_31 rfl (n_ialoadV c_163_32 sc_126.n rfl rfl rfl (by omega) (t_126 hS (by omega)) ?_)))))))
                                                    intro z237 ez237 f238
                                                    refine n_istore (L2 := [some (2, 112), some (0, a), some (0, 9), some (0, x), some (0, y), some (0, w), some (0, s), some (0, z1), some (0, ((((((((((((((((0 * 3) + z128) * 3) + z143) * 3) + z158) * 3) + z173) * 3) + z188) * 3) + z203) * 3) + z218) * 3) + z233)), some (0, (((((((((9 - 1) + (-1)) + (-1)) + (-1)) + (-1)) + (-1)) + (-1)) + (-1)) + (-1))), some (0, z237)]) c_163_33 rfl rfl (n_iload c_163_35 rfl (n_iconst c_163_37 ?_))
                                                    refine n_if2_le c_163_38 (by omega) (by omega) ?_ ?_
                                                    · intro h239
                                                      exfalso; omega
                                                    · intro h240
                                                      refine n_iload c_163_41 rfl (n_aload_n c_163_43 rfl (n_getV (bi := 0) c_163_44 sc_112.n rfl rfl rfl (t_dm hS hdm) ?_))
                                                      intro z241 ez241 f242
                                                      obtain rfl : z241 = 3 := by omega
                                                      refine n_imul c_163_47 rfl (n_aload_n c_163_48 rfl (n_getR c_163_49 sc_112.n rfl rfl rfl r_112_18 (n_bipush c_163_52 rfl (n_iload c_163_54 rfl (n_imul c_163_56 rfl (n_iload c_163_57 rfl (n_iadd c_163_59 rfl (n_ialoadV c_163_60 sc_126.n rfl rfl rfl (by omega) (t_126 hS (by omega)) ?_))))))))
                                                      intro z243 ez243 f244
                                                      refine n_iadd c_163_61 rfl (n_istore (L2 := [some (2, 112), some (0, a), some (0, 9), some (0, x), some (0, y), some (0, w), some (0, s), some (0, z1), some (0, ((((((((((((((((0 * 3) + z128) * 3) + z143) * 3) + z158) * 3) + z173) * 3) + z188) * 3) + z203) * 3) + z218) * 3) + z233)), some (0, (((((((((9 - 1) + (-1)) + (-1)) + (-1)) + (-1)) + (-1)) + (-1)) + (-1)) + (-1))), some (0, ((z237 * 3) + z243))]) c_163_62 rfl rfl (n_iload c_163_64 rfl (n_iconst c_163_66 ?_)))
                                                      refine n_if2_le c_163_67 (by omega) (by omega) ?_ ?_
                                                      · intro h245
                                                        refine n_iload c_163_93 rfl (n_aload_n c_163_95 rfl (n_getV (bi := 0) c_163_96 sc_112.n rfl rfl rfl (t_dm hS hdm) ?_))
                                                        intro z246 ez246 f247
                                                        obtain rfl : z246 = 3 := by omega
                                                        refine n_imul c_163_99 rfl (n_aload_n c_163_100 rfl (n_getR c_163_101 sc_112.n rfl rfl rfl r_112_6 (n_bipush c_163_104 rfl (n_iload_n c_163_106 rfl (n_imul c_163_107 rfl (n_iload c_163_108 rfl (n_iadd c_163_110 rfl (n_ialoadV c_163_111 sc_117.n rfl rfl rfl (by omega) (t_117 hS (by omega)) ?_))))))))
                                                        intro z248 ez248 f249
                                                        refine n_iadd c_163_112 rfl (n_istore (L2 := [some (2, 112), some (0, a), some (0, 9), some (0, x), some (0, y), some (0, w), some (0, s), some (0, z1), some (0, ((((((((((((((((((0 * 3) + z128) * 3) + z143) * 3) + z158) * 3) + z173) * 3) + z188) * 3) + z203) * 3) + z218) * 3) + z233) * 3) + z248)), some (0, (((((((((9 - 1) + (-1)) + (-1)) + (-1)) + (-1)) + (-1)) + (-1)) + (-1)) + (-1))), some (0, ((z237 * 3) + z243))]) c_163_113 rfl rfl (n_iinc (L2 := [some (2, 112), some (0, a), some (0, 9), some (0, x), some (0, y), some (0, w), some (0, s), some (0, z1), some (0, ((((((((((((((((((0 * 3) + z128) * 3) + z143) * 3) + z158) * 3) + z173) * 3) + z188) * 3) + z203) * 3) + z218) * 3) + z233) * 3) + z248)), some (0, ((((((((((9 - 1) + (-1)) + (-1)) + (-1)) + (-1)) + (-1)) + (-1)) + (-1)) + (-1)) + (-1))), some (0, ((z237 * 3) + z243))]) c_163_115 rfl rfl rfl (n_goto c_163_118 (n_iload c_163_16 rfl ?_))))
                                                        refine n_if0_lt c_163_18 (by omega) ?_ ?_
                                                        · intro h250
                                                          refine n_aload_n c_163_121 rfl (n_getR c_163_122 sc_112.n rfl rfl rfl r_112_17 (n_iload c_163_125 rfl (n_ialoadV c_163_127 sc_125.n rfl rfl rfl (by omega) (t_125 hS (by omega)) ?_)))
                                                          intro z251 ez251 f252
                                                          refine n_if0_eq c_163_128 (by omega) ?_ ?_
                                                          · intro h253
                                                            refine n_fg (le_s (le_n (le_n (le_n (le_n (le_n (le_s (le_n (le_s (le_n (le_n le_0))))))))))) ?_
                                                            exact (mjoined9_3_c hS hdm ha hx hy hw hs 14).1 _ M hS (by omega) (by omega)
                                                          · intro h254
                                                            refine n_aload_n c_163_131 rfl (n_getR c_163_132 sc_112.n rfl rfl rfl r_112_17 (n_iload c_163_135 rfl (n_ialoadV c_163_137 sc_125.n rfl rfl rfl (by omega) (t_125 hS (by omega)) ?_)))
                                                            intro z255 ez255 f256
                                                            refine n_iload c_163_138 rfl (n_iconst c_163_140 (n_iadd c_163_141 rfl ?_))
                                                            refine n_if2_le c_163_142 (by omega) (by omega) ?_ ?_
                                                            · intro h257
                                                              refine n_fg (le_n (le_n (le_n (le_n (le_n (le_n (le_n (le_n (le_n (le_n (le_n le_0))))))))))) ?_
                                                              exact (mjoined9_3_c hS hdm ha hx hy hw hs 14).2  M hS  (by omega)
                                                            · intro h258
                                                              refine n_fg (le_s (le_n (le_n (le_n (le_n (le_n (le_s (le_n (le_s (le_n (le_n le_0))))))))))) ?_
                                                              exact (mjoined9_3_c hS hdm ha hx hy hw hs 14).1 _ M hS (by omega) (by omega)
                                                        · intro h259
                                                          exfalso; omega
                                                      · intro h260
                                                        exfalso; omega
                                                · intro h261
                                                  exfalso; omega
                                          · intro h262
                                            exfalso; omega
                                    · intro h263
                                      exfalso; omega
                              · intro h264
                                exfalso; omega
                        · intro h265
                          exfalso; omega
                  · intro h266
                    exfalso; omega
            · intro h267
              exfalso; omega
      · intro h268
        refine n_iload c_163_70 rfl (n_aload_n c_163_72 rfl (n_getV (bi := 0) c_163_73 sc_112.n rfl rfl rfl (t_dm hS hdm) ?_))
        intro z269 ez269 f270
        obtain rfl : z269 = 3 := by omega
        refine n_imul c_163_76 rfl (n_aload_n c_163_77 rfl (n_getR c_163_78 sc_112.n rfl rfl rfl r_112_18 (n_bipush c_163_81 rfl (n_iload c_163_83 rfl (n_imul c_163_85 rfl (n_iload c_163_86 rfl (n_iadd c_163_88 rfl (n_ialoadV c_163_89 sc_126.n rfl rfl rfl (by omega) (t_126 hS (by omega)) ?_))))))))
        intro z271 ez271 f272
        refine n_iadd c_163_90 rfl (n_istore (L2 := [some (2, 112), some (0, a), some (0, 9), some (0, x), some (0, y), some (0, w), some (0, s), some (0, z1), some (0, 0), some (0, (9 - 1)), some (0, ((((z5 * 3) + z123) * 3) + z271))]) c_163_91 rfl rfl (n_iload c_163_93 rfl (n_aload_n c_163_95 rfl (n_getV (bi := 0) c_163_96 sc_112.n rfl rfl rfl (t_dm hS hdm) ?_))))
        intro z273 ez273 f274
        obtain rfl : z273 = 3 := by omega
        refine n_imul c_163_99 rfl (n_aload_n c_163_100 rfl (n_getR c_163_101 sc_112.n rfl rfl rfl r_112_6 (n_bipush c_163_104 rfl (n_iload_n c_163_106 rfl (n_imul c_163_107 rfl (n_iload c_163_108 rfl (n_iadd c_163_110 rfl (n_ialoadV c_163_111 sc_117.n rfl rfl rfl (by omega) (t_117 hS (by omega)) ?_))))))))
        intro z275 ez275 f276
        refine n_iadd c_163_112 rfl (n_istore (L2 := [some (2, 112), some (0, a), some (0, 9), some (0, x), some (0, y), some (0, w), some (0, s), some (0, z1), some (0, ((0 * 3) + z275)), some (0, (9 - 1)), some (0, ((((z5 * 3) + z123) * 3) + z271))]) c_163_113 rfl rfl (n_iinc (L2 := [some (2, 112), some (0, a), some (0, 9), some (0, x), some (0, y), some (0, w), some (0, s), some (0, z1), some (0, ((0 * 3) + z275)), some (0, ((9 - 1) + (-1))), some (0, ((((z5 * 3) + z123) * 3) + z271))]) c_163_115 rfl rfl rfl (n_goto c_163_118 (n_iload c_163_16 rfl ?_))))
        refine n_if0_lt c_163_18 (by omega) ?_ ?_
        · intro h277
          exfalso; omega
        · intro h278
          refine n_aload_n c_163_21 rfl (n_getR c_163_22 sc_112.n rfl rfl rfl r_112_18 (n_bipush c_163_25 rfl (n_iload_n c_163_27 rfl (n_imul c_163_28 rfl (n_iload c_163_29 rfl (n_iadd c_163_31 rfl (n_ialoadV c_163_32 sc_126.n rfl rfl rfl (by omega) (t_126 hS (by omega)) ?_)))))))
          intro z279 ez279 f280
          refine n_istore (L2 := [some (2, 112), some (0, a), some (0, 9), some (0, x), some (0, y), some (0, w), some (0, s), some (0, z1), some (0, ((0 * 3) + z275)), some (0, ((9 - 1) + (-1))), some (0, z279)]) c_163_33 rfl rfl (n_iload c_163_35 rfl (n_iconst c_163_37 ?_))
          refine n_if2_le c_163_38 (by omega) (by omega) ?_ ?_
          · intro h281
            exfalso; omega
          · intro h282
            refine n_iload c_163_41 rfl (n_aload_n c_163_43 rfl (n_getV (bi := 0) c_163_44 sc_112.n rfl rfl rfl (t_dm hS hdm) ?_))
            intro z283 ez283 f284
            obtain rfl : z283 = 3 := by omega
            refine n_imul c_163_47 rfl (n_aload_n c_163_48 rfl (n_getR c_163_49 sc_112.n rfl rfl rfl r_112_18 (n_bipush c_163_52 rfl (n_iload c_163_54 rfl (n_imul c_163_56 rfl (n_iload c_163_57 rfl (n_iadd c_163_59 rfl (n_ialoadV c_163_60 sc_126.n rfl rfl rfl (by omega) (t_126 hS (by omega)) ?_))))))))
            intro z285 ez285 f286
            refine n_iadd c_163_61 rfl (n_istore (L2 := [some (2, 112), some (0, a), some (0, 9), some (0, x), some (0, y), some (0, w), some (0, s), some (0, z1), some (0, ((0 * 3) + z275)), some (0, ((9 - 1) + (-1))), some (0, ((z279 * 3) + z285))]) c_163_62 rfl rfl (n_iload c_163_64 rfl (n_iconst c_163_66 ?_)))
            refine n_if2_le c_163_67 (by omega) (by omega) ?_ ?_
            · intro h287
              exfalso; omega
            · intro h288
              refine n_iload c_163_70 rfl (n_aload_n c_163_72 rfl (n_getV (bi := 0) c_163_73 sc_112.n rfl rfl rfl (t_dm hS hdm) ?_))
              intro z289 ez289 f290
              obtain rfl : z289 = 3 := by omega
              refine n_imul c_163_76 rfl (n_aload_n c_163_77 rfl (n_getR c_163_78 sc_112.n rfl rfl rfl r_112_18 (n_bipush c_163_81 rfl (n_iload c_163_83 rfl (n_imul c_163_85 rfl (n_iload c_163_86 rfl (n_iadd c_163_88 rfl (n_ialoadV c_163_89 sc_126.n rfl rfl rfl (by omega) (t_126 hS (by omega)) ?_))))))))
              intro z291 ez291 f292
              refine n_iadd c_163_90 rfl (n_istore (L2 := [some (2, 112), some (0, a), some (0, 9), some (0, x), some (0, y), some (0, w), some (0, s), some (0, z1), some (0, ((0 * 3) + z275)), some (0, ((9 - 1) + (-1))), some (0, ((((z279 * 3) + z285) * 3) + z291))]) c_163_91 rfl rfl (n_iload c_163_93 rfl (n_aload_n c_163_95 rfl (n_getV (bi := 0) c_163_96 sc_112.n rfl rfl rfl (t_dm hS hdm) ?_))))
              intro z293 ez293 f294
              obtain rfl : z293 = 3 := by omega
              refine n_imul c_163_99 rfl (n_aload_n c_163_100 rfl (n_getR c_163_101 sc_112.n rfl rfl rfl r_112_6 (n_bipush c_163_104 rfl (n_iload_n c_163_106 rfl (n_imul c_163_107 rfl (n_iload c_163_108 rfl (n_iadd c_163_110 rfl (n_ialoadV c_163_111 sc_117.n rfl rfl rfl (by omega) (t_117 hS (by omega)) ?_))))))))
              intro z295 ez295 f296
              refine n_iadd c_163_112 rfl (n_istore (L2 := [some (2, 112), some (0, a), some (0, 9), some (0, x), some (0, y), some (0, w), some (0, s), some (0, z1), some (0, ((((0 * 3) + z275) * 3) + z295)), some (0, ((9 - 1) + (-1))), some (0, ((((z279 * 3) + z285) * 3) + z291))]) c_163_113 rfl rfl (n_iinc (L2 := [some (2, 112), some (0, a), some (0, 9), some (0, x), some (0, y), some (0, w), some (0, s), some (0, z1), some (0, ((((0 * 3) + z275) * 3) + z295)), some (0, (((9 - 1) + (-1)) + (-1))), some (0, ((((z279 * 3) + z285) * 3) + z291))]) c_163_115 rfl rfl rfl (n_goto c_163_118 (n_iload c_163_16 rfl ?_))))
              refine n_if0_lt c_163_18 (by omega) ?_ ?_
              · intro h297
                exfalso; omega
              · intro h298
                refine n_aload_n c_163_21 rfl (n_getR c_163_22 sc_112.n rfl rfl rfl r_112_18 (n_bipush c_163_25 rfl (n_iload_n c_163_27 rfl (n_imul c_163_28 rfl (n_iload c_163_29 rfl (n_iadd c_163_31 rfl (n_ialoadV c_163_32 sc_126.n rfl rfl rfl (by omega) (t_126 hS (by omega)) ?_)))))))
                intro z299 ez299 f300
                refine n_istore (L2 := [some (2, 112), some (0, a), some (0, 9), some (0, x), some (0, y), some (0, w), some (0, s), some (0, z1), some (0, ((((0 * 3) + z275) * 3) + z295)), some (0, (((9 - 1) + (-1)) + (-1))), some (0, z299)]) c_163_33 rfl rfl (n_iload c_163_35 rfl (n_iconst c_163_37 ?_))
                refine n_if2_le c_163_38 (by omega) (by omega) ?_ ?_
                · intro h301
                  exfalso; omega
                · intro h302
                  refine n_iload c_163_41 rfl (n_aload_n c_163_43 rfl (n_getV (bi := 0) c_163_44 sc_112.n rfl rfl rfl (t_dm hS hdm) ?_))
                  intro z303 ez303 f304
                  obtain rfl : z303 = 3 := by omega
                  refine n_imul c_163_47 rfl (n_aload_n c_163_48 rfl (n_getR c_163_49 sc_112.n rfl rfl rfl r_112_18 (n_bipush c_163_52 rfl (n_iload c_163_54 rfl (n_imul c_163_56 rfl (n_iload c_163_57 rfl (n_iadd c_163_59 rfl (n_ialoadV c_163_60 sc_126.n rfl rfl rfl (by omega) (t_126 hS (by omega)) ?_))))))))
                  intro z305 ez305 f306
                  refine n_iadd c_163_61 rfl (n_istore (L2 := [some (2, 112), some (0, a), some (0, 9), some (0, x), some (0, y), some (0, w), some (0, s), some (0, z1), some (0, ((((0 * 3) + z275) * 3) + z295)), some (0, (((9 - 1) + (-1)) + (-1))), some (0, ((z299 * 3) + z305))]) c_163_62 rfl rfl (n_iload c_163_64 rfl (n_iconst c_163_66 ?_)))
                  refine n_if2_le c_163_67 (by omega) (by omega) ?_ ?_
                  · intro h307
                    exfalso; omega
                  · intro h308
                    refine n_iload c_163_70 rfl (n_aload_n c_163_72 rfl (n_getV (bi := 0) c_163_73 sc_112.n rfl rfl rfl (t_dm hS hdm) ?_))
                    intro z309 ez309 f310
                    obtain rfl : z309 = 3 := by omega
                    refine n_imul c_163_76 rfl (n_aload_n c_163_77 rfl (n_getR c_163_78 sc_112.n rfl rfl rfl r_112_18 (n_bipush c_163_81 rfl (n_iload c_163_83 rfl (n_imul c_163_85 rfl (n_iload c_163_86 rfl (n_iadd c_163_88 rfl (n_ialoadV c_163_89 sc_126.n rfl rfl rfl (by omega) (t_126 hS (by omega)) ?_))))))))
                    intro z311 ez311 f312
                    refine n_iadd c_163_90 rfl (n_istore (L2 := [some (2, 112), some (0, a), some (0, 9), some (0, x), some (0, y), some (0, w), some (0, s), some (0, z1), some (0, ((((0 * 3) + z275) * 3) + z295)), some (0, (((9 - 1) + (-1)) + (-1))), some (0, ((((z299 * 3) + z305) * 3) + z311))]) c_163_91 rfl rfl (n_iload c_163_93 rfl (n_aload_n c_163_95 rfl (n_getV (bi := 0) c_163_96 sc_112.n rfl rfl rfl (t_dm hS hdm) ?_))))
                    intro z313 ez313 f314
                    obtain rfl : z313 = 3 := by omega
                    refine n_imul c_163_99 rfl (n_aload_n c_163_100 rfl (n_getR c_163_101 sc_112.n rfl rfl rfl r_112_6 (n_bipush c_163_104 rfl (n_iload_n c_163_106 rfl (n_imul c_163_107 rfl (n_iload c_163_108 rfl (n_iadd c_163_110 rfl (n_ialoadV c_163_111 sc_117.n rfl rfl rfl (by omega) (t_117 hS (by omega)) ?_))))))))
                    intro z315 ez315 f316
                    refine n_iadd c_163_112 rfl (n_istore (L2 := [some (2, 112), some (0, a), some (0, 9), some (0, x), some (0, y), some (0, w), some (0, s), some (0, z1), some (0, ((((((0 * 3) + z275) * 3) + z295) * 3) + z315)), some (0, (((9 - 1) + (-1)) + (-1))), some (0, ((((z299 * 3) + z305) * 3) + z311))]) c_163_113 rfl rfl (n_iinc (L2 := [some (2, 112), some (0, a), some (0, 9), some (0, x), some (0, y), some (0, w), some (0, s), some (0, z1), some (0, ((((((0 * 3) + z275) * 3) + z295) * 3) + z315)), some (0, ((((9 - 1) + (-1)) + (-1)) + (-1))), some (0, ((((z299 * 3) + z305) * 3) + z311))]) c_163_115 rfl rfl rfl (n_goto c_163_118 (n_iload c_163_16 rfl ?_))))
                    refine n_if0_lt c_163_18 (by omega) ?_ ?_
                    · intro h317
                      exfalso; omega
                    · intro h318
                      refine n_aload_n c_163_21 rfl (n_getR c_163_22 sc_112.n rfl rfl rfl r_112_18 (n_bipush c_163_25 rfl (n_iload_n c_163_27 rfl (n_imul c_163_28 rfl (n_iload c_163_29 rfl (n_iadd c_163_31 rfl (n_ialoadV c_163_32 sc_126.n rfl rfl rfl (by omega) (t_126 hS (by omega)) ?_)))))))
                      intro z319 ez319 f320
                      refine n_istore (L2 := [some (2, 112), some (0, a), some (0, 9), some (0, x), some (0, y), some (0, w), some (0, s), some (0, z1), some (0, ((((((0 * 3) + z275) * 3) + z295) * 3) + z315)), some (0, ((((9 - 1) + (-1)) + (-1)) + (-1))), some (0, z319)]) c_163_33 rfl rfl (n_iload c_163_35 rfl (n_iconst c_163_37 ?_))
                      refine n_if2_le c_163_38 (by omega) (by omega) ?_ ?_
                      · intro h321
                        exfalso; omega
                      · intro h322
                        refine n_iload c_163_41 rfl (n_aload_n c_163_43 rfl (n_getV (bi := 0) c_163_44 sc_112.n rfl rfl rfl (t_dm hS hdm) ?_))
                        intro z323 ez323 f324
                        obtain rfl : z323 = 3 := by omega
                        refine n_imul c_163_47 rfl (n_aload_n c_163_48 rfl (n_getR c_163_49 sc_112.n rfl rfl rfl r_112_18 (n_bipush c_163_52 rfl (n_iload c_163_54 rfl (n_imul c_163_56 rfl (n_iload c_163_57 rfl (n_iadd c_163_59 rfl (n_ialoadV c_163_60 sc_126.n rfl rfl rfl (by omega) (t_126 hS (by omega)) ?_))))))))
                        intro z325 ez325 f326
                        refine n_iadd c_163_61 rfl (n_istore (L2 := [some (2, 112), some (0, a), some (0, 9), some (0, x), some (0, y), some (0, w), some (0, s), some (0, z1), some (0, ((((((0 * 3) + z275) * 3) + z295) * 3) + z315)), some (0, ((((9 - 1) + (-1)) + (-1)) + (-1))), some (0, ((z319 * 3) + z325))]) c_163_62 rfl rfl (n_iload c_163_64 rfl (n_iconst c_163_66 ?_)))
                        refine n_if2_le c_163_67 (by omega) (by omega) ?_ ?_
                        · intro h327
                          exfalso; omega
                        · intro h328
                          refine n_iload c_163_70 rfl (n_aload_n c_163_72 rfl (n_getV (bi := 0) c_163_73 sc_112.n rfl rfl rfl (t_dm hS hdm) ?_))
                          intro z329 ez329 f330
                          obtain rfl : z329 = 3 := by omega
                          refine n_imul c_163_76 rfl (n_aload_n c_163_77 rfl (n_getR c_163_78 sc_112.n rfl rfl rfl r_112_18 (n_bipush c_163_81 rfl (n_iload c_163_83 rfl (n_imul c_163_85 rfl (n_iload c_163_86 rfl (n_iadd c_163_88 rfl (n_ialoadV c_163_89 sc_126.n rfl rfl rfl (by omega) (t_126 hS (by omega)) ?_))))))))
                          intro z331 ez331 f332
                          refine n_iadd c_163_90 rfl (n_istore (L2 := [some (2, 112), some (0, a), some (0, 9), some (0, x), some (0, y), some (0, w), some (0, s), some (0, z1), some (0, ((((((0 * 3) + z275) * 3) + z295) * 3) + z315)), some (0, ((((9 - 1) + (-1)) + (-1)) + (-1))), some (0, ((((z319 * 3) + z325) * 3) + z331))]) c_163_91 rfl rfl (n_iload c_163_93 rfl (n_aload_n c_163_95 rfl (n_getV (bi := 0) c_163_96 sc_112.n rfl rfl rfl (t_dm hS hdm) ?_))))
                          intro z333 ez333 f334
                          obtain rfl : z333 = 3 := by omega
                          refine n_imul c_163_99 rfl (n_aload_n c_163_100 rfl (n_getR c_163_101 sc_112.n rfl rfl rfl r_112_6 (n_bipush c_163_104 rfl (n_iload_n c_163_106 rfl (n_imul c_163_107 rfl (n_iload c_163_108 rfl (n_iadd c_163_110 rfl (n_ialoadV c_163_111 sc_117.n rfl rfl rfl (by omega) (t_117 hS (by omega)) ?_))))))))
                          intro z335 ez335 f336
                          refine n_iadd c_163_112 rfl (n_istore (L2 := [some (2, 112), some (0, a), some (0, 9), some (0, x), some (0, y), some (0, w), some (0, s), some (0, z1), some (0, ((((((((0 * 3) + z275) * 3) + z295) * 3) + z315) * 3) + z335)), some (0, ((((9 - 1) + (-1)) + (-1)) + (-1))), some (0, ((((z319 * 3) + z325) * 3) + z331))]) c_163_113 rfl rfl (n_iinc (L2 := [some (2, 112), some (0, a), some (0, 9), some (0, x), some (0, y), some (0, w), some (0, s), some (0, z1), some (0, ((((((((0 * 3) + z275) * 3) + z295) * 3) + z315) * 3) + z335)), some (0, (((((9 - 1) + (-1)) + (-1)) + (-1)) + (-1))), some (0, ((((z319 * 3) + z325) * 3) + z331))]) c_163_115 rfl rfl rfl (n_goto c_163_118 (n_iload c_163_16 rfl ?_))))
                          refine n_if0_lt c_163_18 (by omega) ?_ ?_
                          · intro h337
                            exfalso; omega
                          · intro h338
                            refine n_aload_n c_163_21 rfl (n_getR c_163_22 sc_112.n rfl rfl rfl r_112_18 (n_bipush c_163_25 rfl (n_iload_n c_163_27 rfl (n_imul c_163_28 rfl (n_iload c_163_29 rfl (n_iadd c_163_31 rfl (n_ialoadV c_163_32 sc_126.n rfl rfl rfl (by omega) (t_126 hS (by omega)) ?_)))))))
                            intro z339 ez339 f340
                            refine n_istore (L2 := [some (2, 112), some (0, a), some (0, 9), some (0, x), some (0, y), some (0, w), some (0, s), some (0, z1), some (0, ((((((((0 * 3) + z275) * 3) + z295) * 3) + z315) * 3) + z335)), some (0, (((((9 - 1) + (-1)) + (-1)) + (-1)) + (-1))), some (0, z339)]) c_163_33 rfl rfl (n_iload c_163_35 rfl (n_iconst c_163_37 ?_))
                            refine n_if2_le c_163_38 (by omega) (by omega) ?_ ?_
                            · intro h341
                              exfalso; omega
                            · intro h342
                              refine n_iload c_163_41 rfl (n_aload_n c_163_43 rfl (n_getV (bi := 0) c_163_44 sc_112.n rfl rfl rfl (t_dm hS hdm) ?_))
                              intro z343 ez343 f344
                              obtain rfl : z343 = 3 := by omega
                              refine n_imul c_163_47 rfl (n_aload_n c_163_48 rfl (n_getR c_163_49 sc_112.n rfl rfl rfl r_112_18 (n_bipush c_163_52 rfl (n_iload c_163_54 rfl (n_imul c_163_56 rfl (n_iload c_163_57 rfl (n_iadd c_163_59 rfl (n_ialoadV c_163_60 sc_126.n rfl rfl rfl (by omega) (t_126 hS (by omega)) ?_))))))))
                              intro z345 ez345 f346
                              refine n_iadd c_163_61 rfl (n_istore (L2 := [some (2, 112), some (0, a), some (0, 9), some (0, x), some (0, y), some (0, w), some (0, s), some (0, z1), some (0, ((((((((0 * 3) + z275) * 3) + z295) * 3) + z315) * 3) + z335)), some (0, (((((9 - 1) + (-1)) + (-1)) + (-1)) + (-1))), some (0, ((z339 * 3) + z345))]) c_163_62 rfl rfl (n_iload c_163_64 rfl (n_iconst c_163_66 ?_)))
                              refine n_if2_le c_163_67 (by omega) (by omega) ?_ ?_
                              · intro h347
                                exfalso; omega
                              · intro h348
                                refine n_iload c_163_70 rfl (n_aload_n c_163_72 rfl (n_getV (bi := 0) c_163_73 sc_112.n rfl rfl rfl (t_dm hS hdm) ?_))
                                intro z349 ez349 f350
                                obtain rfl : z349 = 3 := by omega
                                refine n_imul c_163_76 rfl (n_aload_n c_163_77 rfl (n_getR c_163_78 sc_112.n rfl rfl rfl r_112_18 (n_bipush c_163_81 rfl (n_iload c_163_83 rfl (n_imul c_163_85 rfl (n_iload c_163_86 rfl (n_iadd c_163_88 rfl (n_ialoadV c_163_89 sc_126.n rfl rfl rfl (by omega) (t_126 hS (by omega)) ?_))))))))
                                intro z351 ez351 f352
                                refine n_iadd c_163_90 rfl (n_istore (L2 := [some (2, 112), some (0, a), some (0, 9), some (0, x), some (0, y), some (0, w), some (0, s), some (0, z1), some (0, ((((((((0 * 3) + z275) * 3) + z295) * 3) + z315) * 3) + z335)), some (0, (((((9 - 1) + (-1)) + (-1)) + (-1)) + (-1))), some (0, ((((z339 * 3) + z345) * 3) + z351))]) c_163_91 rfl rfl (n_iload c_163_93 rfl (n_aload_n c_163_95 rfl (n_getV (bi := 0) c_163_96 sc_112.n rfl rfl rfl (t_dm hS hdm) ?_))))
                                intro z353 ez353 f354
                                obtain rfl : z353 = 3 := by omega
                                refine n_imul c_163_99 rfl (n_aload_n c_163_100 rfl (n_getR c_163_101 sc_112.n rfl rfl rfl r_112_6 (n_bipush c_163_104 rfl (n_iload_n c_163_106 rfl (n_imul c_163_107 rfl (n_iload c_163_108 rfl (n_iadd c_163_110 rfl (n_ialoadV c_163_111 sc_117.n rfl rfl rfl (by omega) (t_117 hS (by omega)) ?_))))))))
                                intro z355 ez355 f356
                                refine n_iadd c_163_112 rfl (n_istore (L2 := [some (2, 112), some (0, a), some (0, 9), some (0, x), some (0, y), some (0, w), some (0, s), some (0, z1), some (0, ((((((((((0 * 3) + z275) * 3) + z295) * 3) + z315) * 3) + z335) * 3) + z355)), some (0, (((((9 - 1) + (-1)) + (-1)) + (-1)) + (-1))), some (0, ((((z339 * 3) + z345) * 3) + z351))]) c_163_113 rfl rfl (n_iinc (L2 := [some (2, 112), some (0, a), some (0, 9), some (0, x), some (0, y), some (0, w), some (0, s), some (0, z1), some (0, ((((((((((0 * 3) + z275) * 3) + z295) * 3) + z315) * 3) + z335) * 3) + z355)), some (0, ((((((9 - 1) + (-1)) + (-1)) + (-1)) + (-1)) + (-1))), some (0, ((((z339 * 3) + z345) * 3) + z351))]) c_163_115 rfl rfl rfl (n_goto c_163_118 (n_iload c_163_16 rfl ?_))))
                                refine n_if0_lt c_163_18 (by omega) ?_ ?_
                                · intro h357
                                  exfalso; omega
                                · intro h358
                                  refine n_aload_n c_163_21 rfl (n_getR c_163_22 sc_112.n rfl rfl rfl r_112_18 (n_bipush c_163_25 rfl (n_iload_n c_163_27 rfl (n_imul c_163_28 rfl (n_iload c_163_29 rfl (n_iadd c_163_31 rfl (n_ialoadV c_163_32 sc_126.n rfl rfl rfl (by omega) (t_126 hS (by omega)) ?_)))))))
                                  intro z359 ez359 f360
                                  refine n_istore (L2 := [some (2, 112), some (0, a), some (0, 9), some (0, x), some (0, y), some (0, w), some (0, s), some (0, z1), some (0, ((((((((((0 * 3) + z275) * 3) + z295) * 3) + z315) * 3) + z335) * 3) + z355)), some (0, ((((((9 - 1) + (-1)) + (-1)) + (-1)) + (-1)) + (-1))), some (0, z359)]) c_163_33 rfl rfl (n_iload c_163_35 rfl (n_iconst c_163_37 ?_))
                                  refine n_if2_le c_163_38 (by omega) (by omega) ?_ ?_
                                  · intro h361
                                    exfalso; omega
                                  · intro h362
                                    refine n_iload c_163_41 rfl (n_aload_n c_163_43 rfl (n_getV (bi := 0) c_163_44 sc_112.n rfl rfl rfl (t_dm hS hdm) ?_))
                                    intro z363 ez363 f364
                                    obtain rfl : z363 = 3 := by omega
                                    refine n_imul c_163_47 rfl (n_aload_n c_163_48 rfl (n_getR c_163_49 sc_112.n rfl rfl rfl r_112_18 (n_bipush c_163_52 rfl (n_iload c_163_54 rfl (n_imul c_163_56 rfl (n_iload c_163_57 rfl (n_iadd c_163_59 rfl (n_ialoadV c_163_60 sc_126.n rfl rfl rfl (by omega) (t_126 hS (by omega)) ?_))))))))
                                    intro z365 ez365 f366
                                    refine n_iadd c_163_61 rfl (n_istore (L2 := [some (2, 112), some (0, a), some (0, 9), some (0, x), some (0, y), some (0, w), some (0, s), some (0, z1), some (0, ((((((((((0 * 3) + z275) * 3) + z295) * 3) + z315) * 3) + z335) * 3) + z355)), some (0, ((((((9 - 1) + (-1)) + (-1)) + (-1)) + (-1)) + (-1))), some (0, ((z359 * 3) + z365))]) c_163_62 rfl rfl (n_iload c_163_64 rfl (n_iconst c_163_66 ?_)))
                                    refine n_if2_le c_163_67 (by omega) (by omega) ?_ ?_
                                    · intro h367
                                      exfalso; omega
                                    · intro h368
                                      refine n_iload c_163_70 rfl (n_aload_n c_163_72 rfl (n_getV (bi := 0) c_163_73 sc_112.n rfl rfl rfl (t_dm hS hdm) ?_))
                                      intro z369 ez369 f370
                                      obtain rfl : z369 = 3 := by omega
                                      refine n_imul c_163_76 rfl (n_aload_n c_163_77 rfl (n_getR c_163_78 sc_112.n rfl rfl rfl r_112_18 (n_bipush c_163_81 rfl (n_iload c_163_83 rfl (n_imul c_163_85 rfl (n_iload c_163_86 rfl (n_iadd c_163_88 rfl (n_ialoadV c_163_89 sc_126.n rfl rfl rfl (by omega) (t_126 hS (by omega)) ?_))))))))
                                      intro z371 ez371 f372
                                      refine n_iadd c_163_90 rfl (n_istore (L2 := [some (2, 112), some (0, a), some (0, 9), some (0, x), some (0, y), some (0, w), some (0, s), some (0, z1), some (0, ((((((((((0 * 3) + z275) * 3) + z295) * 3) + z315) * 3) + z335) * 3) + z355)), some (0, ((((((9 - 1) + (-1)) + (-1)) + (-1)) + (-1)) + (-1))), some (0, ((((z359 * 3) + z365) * 3) + z371))]) c_163_91 rfl rfl (n_iload c_163_93 rfl (n_aload_n c_163_95 rfl (n_getV (bi := 0) c_163_96 sc_112.n rfl rfl rfl (t_dm hS hdm) ?_))))
                                      intro z373 ez373 f374
                                      obtain rfl : z373 = 3 := by omega
                                      refine n_imul c_163_99 rfl (n_aload_n c_163_100 rfl (n_getR c_163_101 sc_112.n rfl rfl rfl r_112_6 (n_bipush c_163_104 rfl (n_iload_n c_163_106 rfl (n_imul c_163_107 rfl (n_iload c_163_108 rfl (n_iadd c_163_110 rfl (n_ialoadV c_163_111 sc_117.n rfl rfl rfl (by omega) (t_117 hS (by omega)) ?_))))))))
                                      intro z375 ez375 f376
                                      refine n_iadd c_163_112 rfl (n_istore (L2 := [some (2, 112), some (0, a), some (0, 9), some (0, x), some (0, y), some (0, w), some (0, s), some (0, z1), some (0, ((((((((((((0 * 3) + z275) * 3) + z295) * 3) + z315) * 3) + z335) * 3) + z355) * 3) + z375)), some (0, ((((((9 - 1) + (-1)) + (-1)) + (-1)) + (-1)) + (-1))), some (0, ((((z359 * 3) + z365) * 3) + z371))]) c_163_113 rfl rfl (n_iinc (L2 := [some (2, 112), some (0, a), some (0, 9), some (0, x), some (0, y), some (0, w), some (0, s), some (0, z1), some (0, ((((((((((((0 * 3) + z275) * 3) + z295) * 3) + z315) * 3) + z335) * 3) + z355) * 3) + z375)), some (0, (((((((9 - 1) + (-1)) + (-1)) + (-1)) + (-1)) + (-1)) + (-1))), some (0, ((((z359 * 3) + z365) * 3) + z371))]) c_163_115 rfl rfl rfl (n_goto c_163_118 (n_iload c_163_16 rfl ?_))))
                                      refine n_if0_lt c_163_18 (by omega) ?_ ?_
                                      · intro h377
                                        exfalso; omega
                                      · intro h378
                                        refine n_aload_n c_163_21 rfl (n_getR c_163_22 sc_112.n rfl rfl rfl r_112_18 (n_bipush c_163_25 rfl (n_iload_n c_163_27 rfl (n_imul c_163_28 rfl (n_iload c_163_29 rfl (n_iadd c_163_31 rfl (n_ialoadV c_163_32 sc_126.n rfl rfl rfl (by omega) (t_126 hS (by omega)) ?_)))))))
                                        intro z379 ez379 f380
                                        refine n_istore (L2 := [some (2, 112), some (0, a), some (0, 9), some (0, x), some (0, y), some (0, w), some (0, s), some (0, z1), some (0, ((((((((((((0 * 3) + z275) * 3) + z295) * 3) + z315) * 3) + z335) * 3) + z355) * 3) + z375)), some (0, (((((((9 - 1) + (-1)) + (-1)) + (-1)) + (-1)) + (-1)) + (-1))), some (0, z379)]) c_163_33 rfl rfl (n_iload c_163_35 rfl (n_iconst c_163_37 ?_))
                                        refine n_if2_le c_163_38 (by omega) (by omega) ?_ ?_
                                        · intro h381
                                          exfalso; omega
                                        · intro h382
                                          refine n_iload c_163_41 rfl (n_aload_n c_163_43 rfl (n_getV (bi := 0) c_163_44 sc_112.n rfl rfl rfl (t_dm hS hdm) ?_))
                                          intro z383 ez383 f384
                                          obtain rfl : z383 = 3 := by omega
                                          refine n_imul c_163_47 rfl (n_aload_n c_163_48 rfl (n_getR c_163_49 sc_112.n rfl rfl rfl r_112_18 (n_bipush c_163_52 rfl (n_iload c_163_54 rfl (n_imul c_163_56 rfl (n_iload c_163_57 rfl (n_iadd c_163_59 rfl (n_ialoadV c_163_60 sc_126.n rfl rfl rfl (by omega) (t_126 hS (by omega)) ?_))))))))
                                          intro z385 ez385 f386
                                          refine n_iadd c_163_61 rfl (n_istore (L2 := [some (2, 112), some (0, a), some (0, 9), some (0, x), some (0, y), some (0, w), some (0, s), some (0, z1), some (0, ((((((((((((0 * 3) + z275) * 3) + z295) * 3) + z315) * 3) + z335) * 3) + z355) * 3) + z375)), some (0, (((((((9 - 1) + (-1)) + (-1)) + (-1)) + (-1)) + (-1)) + (-1))), some (0, ((z379 * 3) + z385))]) c_163_62 rfl rfl (n_iload c_163_64 rfl (n_iconst c_163_66 ?_)))
                                          refine n_if2_le c_163_67 (by omega) (by omega) ?_ ?_
                                          · intro h387
                                            exfalso; omega
                                          · intro h388
                                            refine n_iload c_163_70 rfl (n_aload_n c_163_72 rfl (n_getV (bi := 0) c_163_73 sc_112.n rfl rfl rfl (t_dm hS hdm) ?_))
                                            intro z389 ez389 f390
                                            obtain rfl : z389 = 3 := by omega
                                            refine n_imul c_163_76 rfl (n_aload_n c_163_77 rfl (n_getR c_163_78 sc_112.n rfl rfl rfl r_112_18 (n_bipush c_163_81 rfl (n_iload c_163_83 rfl (n_imul c_163_85 rfl (n_iload c_163_86 rfl (n_iadd c_163_88 rfl (n_ialoadV c_163_89 sc_126.n rfl rfl rfl (by omega) (t_126 hS (by omega)) ?_))))))))
                                            intro z391 ez391 f392
                                            refine n_iadd c_163_90 rfl (n_istore (L2 := [some (2, 112), some (0, a), some (0, 9), some (0, x), some (0, y), some (0, w), some (0, s), some (0, z1), some (0, ((((((((((((0 * 3) + z275) * 3) + z295) * 3) + z315) * 3) + z335) * 3) + z355) * 3) + z375)), some (0, (((((((9 - 1) + (-1)) + (-1)) + (-1)) + (-1)) + (-1)) + (-1))), some (0, ((((z379 * 3) + z385) * 3) + z391))]) c_163_91 rfl rfl (n_iload c_163_93 rfl (n_aload_n c_163_95 rfl (n_getV (bi := 0) c_163_96 sc_112.n rfl rfl rfl (t_dm hS hdm) ?_))))
                                            intro z393 ez393 f394
                                            obtain rfl : z393 = 3 := by omega
                                            refine n_imul c_163_99 rfl (n_aload_n c_163_100 rfl (n_getR c_163_101 sc_112.n rfl rfl rfl r_112_6 (n_bipush c_163_104 rfl (n_iload_n c_163_106 rfl (n_imul c_163_107 rfl (n_iload c_163_108 rfl (n_iadd c_163_110 rfl (n_ialoadV c_163_111 sc_117.n rfl rfl rfl (by omega) (t_117 hS (by omega)) ?_))))))))
                                            intro z395 ez395 f396
                                            refine n_iadd c_163_112 rfl (n_istore (L2 := [some (2, 112), some (0, a), some (0, 9), some (0, x), some (0, y), some (0, w), some (0, s), some (0, z1), some (0, ((((((((((((((0 * 3) + z275) * 3) + z295) * 3) + z315) * 3) + z335) * 3) + z355) * 3) + z375) * 3) + z395)), some (0, (((((((9 - 1) + (-1)) + (-1)) + (-1)) + (-1)) + (-1)) + (-1))), some (0, ((((z379 * 3) + z385) * 3) + z391))]) c_163_113 rfl rfl (n_iinc (L2 := [some (2, 112), some (0, a), some (0, 9), some (0, x), some (0, y), some (0, w), some (0, s), some (0, z1), some (0, ((((((((((((((0 * 3) + z275) * 3) + z295) * 3) + z315) * 3) + z335) * 3) + z355) * 3) + z375) * 3) + z395)), some (0, ((((((((9 - 1) + (-1)) + (-1)) + (-1)) + (-1)) + (-1)) + (-1)) + (-1))), some (0, ((((z379 * 3) + z385) * 3) + z391))]) c_163_115 rfl rfl rfl (n_goto c_163_118 (n_iload c_163_16 rfl ?_))))
                                            refine n_if0_lt c_163_18 (by omega) ?_ ?_
                                            · intro h397
                                              exfalso; omega
                                            · intro h398
                                              refine n_aload_n c_163_21 rfl (n_getR c_163_22 sc_112.n rfl rfl rfl r_112_18 (n_bipush c_163_25 rfl (n_iload_n c_163_27 rfl (n_imul c_163_28 rfl (n_iload c_163_29 rfl (n_iadd c_163_31 rfl (n_ialoadV c_163_32 sc_126.n rfl rfl rfl (by omega) (t_126 hS (by omega)) ?_)))))))
                                              intro z399 ez399 f400
                                              refine n_istore (L2 := [some (2, 112), some (0, a), some (0, 9), some (0, x), some (0, y), some (0, w), some (0, s), some (0, z1), some (0, ((((((((((((((0 * 3) + z275) * 3) + z295) * 3) + z315) * 3) + z335) * 3) + z355) * 3) + z375) * 3) + z395)), some (0, ((((((((9 - 1) + (-1)) + (-1)) + (-1)) + (-1)) + (-1)) + (-1)) + (-1))), some (0, z399)]) c_163_33 rfl rfl (n_iload c_163_35 rfl (n_iconst c_163_37 ?_))
                                              refine n_if2_le c_163_38 (by omega) (by omega) ?_ ?_
                                              · intro h401
                                                exfalso; omega
                                              · intro h402
                                                refine n_iload c_163_41 rfl (n_aload_n c_163_43 rfl (n_getV (bi := 0) c_163_44 sc_112.n rfl rfl rfl (t_dm hS hdm) ?_))
                                                intro z403 ez403 f404
                                                obtain rfl : z403 = 3 := by omega
                                                refine n_imul c_163_47 rfl (n_aload_n c_163_48 rfl (n_getR c_163_49 sc_112.n rfl rfl rfl r_112_18 (n_bipush c_163_52 rfl (n_iload c_163_54 rfl (n_imul c_163_56 rfl (n_iload c_163_57 rfl (n_iadd c_163_59 rfl (n_ialoadV c_163_60 sc_126.n rfl rfl rfl (by omega) (t_126 hS (by omega)) ?_))))))))
                                                intro z405 ez405 f406
                                                refine n_iadd c_163_61 rfl (n_istore (L2 := [some (2, 112), some (0, a), some (0, 9), some (0, x), some (0, y), some (0, w), some (0, s), some (0, z1), some (0, ((((((((((((((0 * 3) + z275) * 3) + z295) * 3) + z315) * 3) + z335) * 3) + z355) * 3) + z375) * 3) + z395)), some (0, ((((((((9 - 1) + (-1)) + (-1)) + (-1)) + (-1)) + (-1)) + (-1)) + (-1))), some (0, ((z399 * 3) + z405))]) c_163_62 rfl rfl (n_iload c_163_64 rfl (n_iconst c_163_66 ?_)))
                                                refine n_if2_le c_163_67 (by omega) (by omega) ?_ ?_
                                                · intro h407
                                                  exfalso; omega
                                                · intro h408
                                                  refine n_iload c_163_70 rfl (n_aload_n c_163_72 rfl (n_getV (bi := 0) c_163_73 sc_112.n rfl rfl rfl (t_dm hS hdm) ?_))
                                                  intro z409 ez409 f410
                                                  obtain rfl : z409 = 3 := by omega
                                                  refine n_imul c_163_76 rfl (n_aload_n c_163_77 rfl (n_getR c_163_78 sc_112.n rfl rfl rfl r_112_18 (n_bipush c_163_81 rfl (n_iload c_163_83 rfl (n_imul c_163_85 rfl (n_iload c_163_86 rfl (n_iadd c_163_88 rfl (n_ialoadV c_163_89 sc_126.n rfl rfl rfl (by omega) (t_126 hS (by omega)) ?_))))))))
                                                  intro z411 ez411 f412
                                                  refine n_iadd c_163_90 rfl (n_istore (L2 := [some (2, 112), some (0, a), some (0, 9), some (0, x), some (0, y), some (0, w), some (0, s), some (0, z1), some (0, ((((((((((((((0 * 3) + z275) * 3) + z295) * 3) + z315) * 3) + z335) * 3) + z355) * 3) + z375) * 3) + z395)), some (0, ((((((((9 - 1) + (-1)) + (-1)) + (-1)) + (-1)) + (-1)) + (-1)) + (-1))), some (0, ((((z399 * 3) + z405) * 3) + z411))]) c_163_91 rfl rfl (n_iload c_163_93 rfl (n_aload_n c_163_95 rfl (n_getV (bi := 0) c_163_96 sc_112.n rfl rfl rfl (t_dm hS hdm) ?_))))
                                                  intro z413 ez413 f414
                                                  obtain rfl : z413 = 3 := by omega
                                                  refine n_imul c_163_99 rfl (n_aload_n c_163_100 rfl (n_getR c_163_101 sc_112.n rfl rfl rfl r_112_6 (n_bipush c_163_104 rfl (n_iload_n c_163_106 rfl (n_imul c_163_107 rfl (n_iload c_163_108 rfl (n_iadd c_163_110 rfl (n_ialoadV c_163_111 sc_117.n rfl rfl rfl (by omega) (t_117 hS (by omega)) ?_))))))))
                                                  intro z415 ez415 f416
                                                  refine n_iadd c_163_112 rfl (n_istore (L2 := [some (2, 112), some (0, a), some (0, 9), some (0, x), some (0, y), some (0, w), some (0, s), some (0, z1), some (0, ((((((((((((((((0 * 3) + z275) * 3) + z295) * 3) + z315) * 3) + z335) * 3) + z355) * 3) + z375) * 3) + z395) * 3) + z415)), some (0, ((((((((9 - 1) + (-1)) + (-1)) + (-1)) + (-1)) + (-1)) + (-1)) + (-1))), some (0, ((((z399 * 3) + z405) * 3) + z411))]) c_163_113 rfl rfl (n_iinc (L2 := [some (2, 112), some (0, a), some (0, 9), some (0, x), some (0, y), some (0, w), some (0, s), some (0, z1), some (0, ((((((((((((((((0 * 3) + z275) * 3) + z295) * 3) + z315) * 3) + z335) * 3) + z355) * 3) + z375) * 3) + z395) * 3) + z415)), some (0, (((((((((9 - 1) + (-1)) + (-1)) + (-1)) + (-1)) + (-1)) + (-1)) + (-1)) + (-1))), some (0, ((((z399 * 3) + z405) * 3) + z411))]) c_163_115 rfl rfl rfl (n_goto c_163_118 (n_iload c_163_16 rfl ?_))))
                                                  refine n_if0_lt c_163_18 (by omega) ?_ ?_
                                                  · intro h417
                                                    exfalso; omega
                                                  · intro h418
                                                    refine n_aload_n c_163_21 rfl (n_getR c_163_22 sc_112.n rfl rfl rfl r_112_18 (n_bipush c_163_25 rfl (n_iload_n c_163_27 rfl (n_imul c_163_28 rfl (n_iload c_163_29 rfl (n_iadd c_163_31 rfl (n_ialoadV c_163_32 sc_126.n rfl rfl rfl (by omega) (t_126 hS (by omega)) ?_)))))))
                                                    intro z419 ez419 f420
                                                    refine n_istore (L2 := [some (2, 112), some (0, a), some (0, 9), some (0, x), some (0, y), some (0, w), some (0, s), some (0, z1), some (0, ((((((((((((((((0 * 3) + z275) * 3) + z295) * 3) + z315) * 3) + z335) * 3) + z355) * 3) + z375) * 3) + z395) * 3) + z415)), some (0, (((((((((9 - 1) + (-1)) + (-1)) + (-1)) + (-1)) + (-1)) + (-1)) + (-1)) + (-1))), some (0, z419)]) c_163_33 rfl rfl (n_iload c_163_35 rfl (n_iconst c_163_37 ?_))
                                                    refine n_if2_le c_163_38 (by omega) (by omega) ?_ ?_
                                                    · intro h421
                                                      exfalso; omega
                                                    · intro h422
                                                      refine n_iload c_163_41 rfl (n_aload_n c_163_43 rfl (n_getV (bi := 0) c_163_44 sc_112.n rfl rfl rfl (t_dm hS hdm) ?_))
                                                      intro z423 ez423 f424
                                                      obtain rfl : z423 = 3 := by omega
                                                      refine n_imul c_163_47 rfl (n_aload_n c_163_48 rfl (n_getR c_163_49 sc_112.n rfl rfl rfl r_112_18 (n_bipush c_163_52 rfl (n_iload c_163_54 rfl (n_imul c_163_56 rfl (n_iload c_163_57 rfl (n_iadd c_163_59 rfl (n_ialoadV c_163_60 sc_126.n rfl rfl rfl (by omega) (t_126 hS (by omega)) ?_))))))))
                                                      intro z425 ez425 f426
                                                      refine n_iadd c_163_61 rfl (n_istore (L2 := [some (2, 112), some (0, a), some (0, 9), some (0, x), some (0, y), some (0, w), some (0, s), some (0, z1), some (0, ((((((((((((((((0 * 3) + z275) * 3) + z295) * 3) + z315) * 3) + z335) * 3) + z355) * 3) + z375) * 3) + z395) * 3) + z415)), some (0, (((((((((9 - 1) + (-1)) + (-1)) + (-1)) + (-1)) + (-1)) + (-1)) + (-1)) + (-1))), some (0, ((z419 * 3) + z425))]) c_163_62 rfl rfl (n_iload c_163_64 rfl (n_iconst c_163_66 ?_)))
                                                      refine n_if2_le c_163_67 (by omega) (by omega) ?_ ?_
                                                      · intro h427
                                                        exfalso; omega
                                                      · intro h428
                                                        refine n_iload c_163_70 rfl (n_aload_n c_163_72 rfl (n_getV (bi := 0) c_163_73 sc_112.n rfl rfl rfl (t_dm hS hdm) ?_))
                                                        intro z429 ez429 f430
                                                        obtain rfl : z429 = 3 := by omega
                                                        refine n_imul c_163_76 rfl (n_aload_n c_163_77 rfl (n_getR c_163_78 sc_112.n rfl rfl rfl r_112_18 (n_bipush c_163_81 rfl (n_iload c_163_83 rfl (n_imul c_163_85 rfl (n_iload c_163_86 rfl (n_iadd c_163_88 rfl (n_ialoadV c_163_89 sc_126.n rfl rfl rfl (by omega) (t_126 hS (by omega)) ?_))))))))
                                                        intro z431 ez431 f432
                                                        refine n_iadd c_163_90 rfl (n_istore (L2 := [some (2, 112), some (0, a), some (0, 9), some (0, x), some (0, y), some (0, w), some (0, s), some (0, z1), some (0, ((((((((((((((((0 * 3) + z275) * 3) + z295) * 3) + z315) * 3) + z335) * 3) + z355) * 3) + z375) * 3) + z395) * 3) + z415)), some (0, (((((((((9 - 1) + (-1)) + (-1)) + (-1)) + (-1)) + (-1)) + (-1)) + (-1)) + (-1))), some (0, ((((z419 * 3) + z425) * 3) + z431))]) c_163_91 rfl rfl (n_iload c_163_93 rfl (n_aload_n c_163_95 rfl (n_getV (bi := 0) c_163_96 sc_112.n rfl rfl rfl (t_dm hS hdm) ?_))))
                                                        intro z433 ez433 f434
                                                        obtain rfl : z433 = 3 := by omega
                                                        refine n_imul c_163_99 rfl (n_aload_n c_163_100 rfl (n_getR c_163_101 sc_112.n rfl rfl rfl r_112_6 (n_bipush c_163_104 rfl (n_iload_n c_163_106 rfl (n_imul c_163_107 rfl (n_iload c_163_108 rfl (n_iadd c_163_110 rfl (n_ialoadV c_163_111 sc_117.n rfl rfl rfl (by omega) (t_117 hS (by omega)) ?_))))))))
                                                        intro z435 ez435 f436
                                                        refine n_iadd c_163_112 rfl (n_istore (L2 := [some (2, 112), some (0, a), some (0, 9), some (0, x), some (0, y), some (0, w), some (0, s), some (0, z1), some (0, ((((((((((((((((((0 * 3) + z275) * 3) + z295) * 3) + z315) * 3) + z335) * 3) + z355) * 3) + z375) * 3) + z395) * 3) + z415) * 3) + z435)), some (0, (((((((((9 - 1) + (-1)) + (-1)) + (-1)) + (-1)) + (-1)) + (-1)) + (-1)) + (-1))), some (0, ((((z419 * 3) + z425) * 3) + z431))]) c_163_113 rfl rfl (n_iinc (L2 := [some (2, 112), some (0, a), some (0, 9), some (0, x), some (0, y), some (0, w), some (0, s), some (0, z1), some (0, ((((((((((((((((((0 * 3) + z275) * 3) + z295) * 3) + z315) * 3) + z335) * 3) + z355) * 3) + z375) * 3) + z395) * 3) + z415) * 3) + z435)), some (0, ((((((((((9 - 1) + (-1)) + (-1)) + (-1)) + (-1)) + (-1)) + (-1)) + (-1)) + (-1)) + (-1))), some (0, ((((z419 * 3) + z425) * 3) + z431))]) c_163_115 rfl rfl rfl (n_goto c_163_118 (n_iload c_163_16 rfl ?_))))
                                                        refine n_if0_lt c_163_18 (by omega) ?_ ?_
                                                        · intro h437
                                                          refine n_aload_n c_163_121 rfl (n_getR c_163_122 sc_112.n rfl rfl rfl r_112_17 (n_iload c_163_125 rfl (n_ialoadV c_163_127 sc_125.n rfl rfl rfl (by omega) (t_125 hS (by omega)) ?_)))
                                                          intro z438 ez438 f439
                                                          refine n_if0_eq c_163_128 (by omega) ?_ ?_
                                                          · intro h440
                                                            refine n_fg (le_s (le_n (le_n (le_n (le_n (le_n (le_s (le_n (le_s (le_n (le_n le_0))))))))))) ?_
                                                            exact (mjoined9_3_c hS hdm ha hx hy hw hs 14).1 _ M hS (by omega) (by omega)
                                                          · intro h441
                                                            refine n_aload_n c_163_131 rfl (n_getR c_163_132 sc_112.n rfl rfl rfl r_112_17 (n_iload c_163_135 rfl (n_ialoadV c_163_137 sc_125.n rfl rfl rfl (by omega) (t_125 hS (by omega)) ?_)))
                                                            intro z442 ez442 f443
                                                            refine n_iload c_163_138 rfl (n_iconst c_163_140 (n_iadd c_163_141 rfl ?_))
                                                            refine n_if2_le c_163_142 (by omega) (by omega) ?_ ?_
                                                            · intro h444
                                                              refine n_fg (le_n (le_n (le_n (le_n (le_n (le_n (le_n (le_n (le_n (le_n (le_n le_0))))))))))) ?_
                                                              exact (mjoined9_3_c hS hdm ha hx hy hw hs 14).2  M hS  (by omega)
                                                            · intro h445
                                                              refine n_fg (le_s (le_n (le_n (le_n (le_n (le_n (le_s (le_n (le_s (le_n (le_n le_0))))))))))) ?_
                                                              exact (mjoined9_3_c hS hdm ha hx hy hw hs 14).1 _ M hS (by omega) (by omega)
                                                        · intro h446
                                                          exfalso; omega

set_option maxHeartbeats 4000000 in
theorem mjoins3_3_c {xs : List Int32} {e : Nat} {ac : Int} {M0 M : nM} {n t : Int} (hS : Sf 3 ac M0 M) (hdm : M0 112 0 = 3) (hn : 1 ≤ n ∧ n ≤ 2) (ht : 0 ≤ t ∧ t ≤ 255) : ∀ nn : Nat, (∀ (x4 x5 : Int) (M : nM), Sf 3 ac M0 M → (0 ≤ x4 ∧ x4 ≤ 1000000) → (0 ≤ x5 ∧ x5 ≤ 8) → (8 - x5) * 67082 + 67082 < (nn : Int) → nW xs (e + 1) 165 11 [some (2, 112), some (0, n), some (0, 3), some (0, t), some (0, x4), some (0, x5), none, none, none, none] [] M (nPV fun M1 => Sf 3 ac M0 M1)) ∧ (∀ (x4 x5 x6 : Int) (M : nM), Sf 3 ac M0 M → (0 ≤ x4 ∧ x4 ≤ 1000000) → (0 ≤ x5 ∧ x5 ≤ 7) → (0 ≤ x6 ∧ x6 ≤ 256) → (8 - x5) * 67082 + (256 - x6) * 260 + 261 < (nn : Int) → nW xs (e + 1) 165 56 [some (2, 112), some (0, n), some (0, 3), some (0, t), some (0, x4), some (0, x5), some (0, x6), none, none, none] [] M (nPV fun M1 => Sf 3 ac M0 M1)) ∧ (∀ (x4 x5 x6 x7 x8 : Int) (M : nM), Sf 3 ac M0 M → (0 ≤ x4 ∧ x4 ≤ 1000000) → (0 ≤ x5 ∧ x5 ≤ 7) → (0 ≤ x6 ∧ x6 ≤ 255) → (1 ≤ x7 ∧ x7 ≤ 1000000) → (0 ≤ x8 ∧ x8 ≤ 256) → (8 - x5) * 67082 + (256 - x6) * 260 + (256 - x8) * 1 + 3 < (nn : Int) → nW xs (e + 1) 165 124 [some (2, 112), some (0, n), some (0, 3), some (0, t), some (0, x4), some (0, x5), some (0, x6), some (0, x7), some (0, x8), none] [] M (nPV fun M1 => Sf 3 ac M0 M1)) ∧ (∀ (x4 x5 x6 : Int) (M : nM), Sf 3 ac M0 M → (0 ≤ x4 ∧ x4 ≤ 1000000) → (0 ≤ x5 ∧ x5 ≤ 7) → (0 ≤ x6 ∧ x6 ≤ 255) → (8 - x5) * 67082 + (256 - x6) * 260 + 2 < (nn : Int) → nW xs (e + 1) 165 195 [some (2, 112), some (0, n), some (0, 3), some (0, t), some (0, x4), some (0, x5), some (0, x6), none, none, none] [] M (nPV fun M1 => Sf 3 ac M0 M1)) ∧ (∀ (x4 x5 : Int) (M : nM), Sf 3 ac M0 M → (0 ≤ x4 ∧ x4 ≤ 1000000) → (0 ≤ x5 ∧ x5 ≤ 7) → (8 - x5) * 67082 + 1 < (nn : Int) → nW xs (e + 1) 165 201 [some (2, 112), some (0, n), some (0, 3), some (0, t), some (0, x4), some (0, x5), none, none, none, none] [] M (nPV fun M1 => Sf 3 ac M0 M1)) := by
  have hd : (3 : Int) = 2 ∨ (3 : Int) = 3 := by decide
  have hac := hS.2.2.2.2
  intro nn
  induction nn with
  | zero => refine ⟨?_, ?_, ?_, ?_, ?_⟩ <;> (intros; omega)
  | succ nn ih =>
    refine ⟨?_, ?_, ?_, ?_, ?_⟩
    · intro x4 x5 M hS k4 k5 hnn
      refine n_iload c_165_11 rfl (n_aload_n c_165_13 rfl (n_getV (bi := 4) c_165_14 sc_112.n rfl rfl rfl (t_112_4 hS) ?_))
      intro z1 ez1 f2
      refine n_if2_ge c_165_17 (by omega) (by omega) ?_ ?_
      · intro h3
        exact n_rV c_165_207 rfl hS
      · intro h4
        refine n_aload_n c_165_20 rfl (n_getR c_165_21 sc_112.n rfl rfl rfl r_112_5 (n_iload c_165_24 rfl (n_ialoadV c_165_26 sc_116.n rfl rfl rfl (by omega) (t_116 hS (by omega)) ?_)))
        intro z5 ez5 f6
        refine n_iconst c_165_27 ?_
        refine n_if2_ne c_165_28 (by omega) (by omega) ?_ ?_
        · intro h7
          refine n_iconst c_165_53 (n_istore (L2 := [some (2, 112), some (0, n), some (0, 3), some (0, t), some (0, x4), some (0, x5), some (0, 0), none, none, none]) c_165_54 rfl rfl (n_fg (le_s (le_s (le_s (le_s (le_s (le_s (le_s (le_n (le_n (le_n le_0)))))))))) ?_))
          exact ih.2.1 _ _ _ M hS (by omega) (by omega) (by omega) (by omega)
        · intro h8
          refine n_aload_n c_165_31 rfl (n_iload c_165_32 rfl (n_iload_n c_165_34 rfl (n_iload_n c_165_35 rfl (n_iconst c_165_36 (n_iconst c_165_37 (n_ldc (n := 1000000) c_165_38 rfl (n_iload c_165_40 rfl (n_iconst c_165_42 (n_iadd c_165_43 rfl (n_s2I c_165_44 rfl rfl rfl rfl (imin_3 (x := 1000000) (y := (x4 + 1)) hS (by omega) (by omega)) ?_))))))))))
          intro z9 M10 hP11
          obtain ⟨eM, f11, f11p0⟩ := hP11
          subst eM
          refine n_v6V c_165_47 rfl sc_112.n rfl rfl rfl rfl (mjoined3_3 (a := x5) (x := t) (y := 0) (w := 0) (s := z9) hS hdm (by omega) (by omega) (by omega) (by omega) (by omega)) ?_
          intro  M12 hP13
          have hS12 := hP13
          refine n_goto c_165_50 (n_fg (le_s (le_s (le_s (le_s (le_s (le_s (le_n (le_n (le_n (le_n le_0)))))))))) ?_)
          exact ih.2.2.2.2 _ _ M12 hS12 (by omega) (by omega) (by omega)
    · intro x4 x5 x6 M hS k4 k5 k6 hnn
      refine n_iload c_165_56 rfl (n_iload_n c_165_58 rfl ?_)
      refine n_if2_gt c_165_59 (by omega) (by omega) ?_ ?_
      · intro h1
        refine n_fg (le_s (le_s (le_s (le_s (le_s (le_s (le_n (le_n (le_n (le_n le_0)))))))))) ?_
        exact ih.2.2.2.2 _ _ M hS (by omega) (by omega) (by omega)
      · intro h2
        refine n_ldc (n := 1000000) c_165_62 rfl (n_iload c_165_64 rfl (n_aload_n c_165_66 rfl (n_iload_n c_165_67 rfl (n_iload c_165_68 rfl (n_v2I c_165_70 rfl sc_112.n rfl rfl rfl rfl (msizeOf_3 (n := n) (i := x6) hS hdm (by omega) (by omega)) ?_)))))
        intro z3 M4 hP5
        obtain ⟨eM, f5⟩ := hP5
        subst eM
        refine n_iadd c_165_73 rfl (n_iconst c_165_74 (n_iadd c_165_75 rfl (n_s2I c_165_76 rfl rfl rfl rfl (imin_3 (x := 1000000) (y := ((x4 + z3) + 1)) hS (by omega) (by omega)) ?_)))
        intro z6 M7 hP8
        obtain ⟨eM, f8, f8p0⟩ := hP8
        subst eM
        refine n_istore (L2 := [some (2, 112), some (0, n), some (0, 3), some (0, t), some (0, x4), some (0, x5), some (0, x6), some (0, z6), none, none]) c_165_79 rfl rfl (n_aload_n c_165_81 rfl (n_getR c_165_82 sc_112.n rfl rfl rfl r_112_5 (n_iload c_165_85 rfl (n_ialoadV c_165_87 sc_116.n rfl rfl rfl (by omega) (t_116 hS (by omega)) ?_))))
        intro z9 ez9 f10
        refine n_iconst c_165_88 ?_
        refine n_if2_ne c_165_89 (by omega) (by omega) ?_ ?_
        · intro h11
          refine n_iconst c_165_121 (n_istore (L2 := [some (2, 112), some (0, n), some (0, 3), some (0, t), some (0, x4), some (0, x5), some (0, x6), some (0, z6), some (0, 0), none]) c_165_122 rfl rfl (n_fg (le_s (le_s (le_s (le_s (le_s (le_s (le_s (le_s (le_s (le_n le_0)))))))))) ?_))
          exact ih.2.2.1 _ _ _ _ _ M hS (by omega) (by omega) (by omega) (by omega) (by omega) (by omega)
        · intro h12
          refine n_aload_n c_165_92 rfl (n_iload c_165_93 rfl (n_iload_n c_165_95 rfl (n_iload_n c_165_96 rfl (n_iload c_165_97 rfl (n_iconst c_165_99 (n_iload c_165_100 rfl (n_v6V c_165_102 rfl sc_112.n rfl rfl rfl rfl (mjoined3_3 (a := x5) (x := t) (y := x6) (w := 0) (s := z6) hS hdm (by omega) (by omega) (by omega) (by omega) (by omega)) ?_)))))))
          intro  M13 hP14
          have hS13 := hP14
          refine n_aload_n c_165_105 rfl (n_iload c_165_106 rfl (n_iload_n c_165_108 rfl (n_iload c_165_109 rfl (n_iload_n c_165_111 rfl (n_iconst c_165_112 (n_iload c_165_113 rfl (n_v6V c_165_115 rfl sc_112.n rfl rfl rfl rfl (mjoined3_3 (a := x5) (x := x6) (y := t) (w := 0) (s := z6) hS13 hdm (by omega) (by omega) (by omega) (by omega) (by omega)) ?_)))))))
          intro  M15 hP16
          have hS15 := hP16
          refine n_goto c_165_118 (n_fg (le_s (le_s (le_s (le_s (le_s (le_s (le_s (le_n (le_n (le_n le_0)))))))))) ?_)
          exact ih.2.2.2.1 _ _ _ M15 hS15 (by omega) (by omega) (by omega) (by omega)
    · intro x4 x5 x6 x7 x8 M hS k4 k5 k6 k7 k8 hnn
      refine n_iload c_165_124 rfl (n_iload_n c_165_126 rfl ?_)
      refine n_if2_gt c_165_127 (by omega) (by omega) ?_ ?_
      · intro h1
        refine n_fg (le_s (le_s (le_s (le_s (le_s (le_s (le_s (le_n (le_n (le_n le_0)))))))))) ?_
        exact ih.2.2.2.1 _ _ _ M hS (by omega) (by omega) (by omega) (by omega)
      · intro h2
        refine n_ldc (n := 1000000) c_165_130 rfl (n_iload c_165_132 rfl (n_aload_n c_165_134 rfl (n_iload_n c_165_135 rfl (n_iload c_165_136 rfl (n_v2I c_165_138 rfl sc_112.n rfl rfl rfl rfl (msizeOf_3 (n := n) (i := x8) hS hdm (by omega) (by omega)) ?_)))))
        intro z3 M4 hP5
        obtain ⟨eM, f5⟩ := hP5
        subst eM
        refine n_iadd c_165_141 rfl (n_s2I c_165_142 rfl rfl rfl rfl (imin_3 (x := 1000000) (y := (x7 + z3)) hS (by omega) (by omega)) ?_)
        intro z6 M7 hP8
        obtain ⟨eM, f8, f8p0⟩ := hP8
        subst eM
        refine n_istore (L2 := [some (2, 112), some (0, n), some (0, 3), some (0, t), some (0, x4), some (0, x5), some (0, x6), some (0, x7), some (0, x8), some (0, z6)]) c_165_145 rfl rfl (n_aload_n c_165_147 rfl (n_iload c_165_148 rfl (n_iload_n c_165_150 rfl (n_iload_n c_165_151 rfl (n_iload c_165_152 rfl (n_iload c_165_154 rfl (n_iload c_165_156 rfl (n_v6V c_165_158 rfl sc_112.n rfl rfl rfl rfl (mjoined3_3 (a := x5) (x := t) (y := x6) (w := x8) (s := z6) hS hdm (by omega) (by omega) (by omega) (by omega) (by omega)) ?_))))))))
        intro  M9 hP10
        have hS9 := hP10
        refine n_aload_n c_165_161 rfl (n_iload c_165_162 rfl (n_iload_n c_165_164 rfl (n_iload c_165_165 rfl (n_iload_n c_165_167 rfl (n_iload c_165_168 rfl (n_iload c_165_170 rfl (n_v6V c_165_172 rfl sc_112.n rfl rfl rfl rfl (mjoined3_3 (a := x5) (x := x6) (y := t) (w := x8) (s := z6) hS9 hdm (by omega) (by omega) (by omega) (by omega) (by omega)) ?_)))))))
        intro  M11 hP12
        have hS11 := hP12
        refine n_aload_n c_165_175 rfl (n_iload c_165_176 rfl (n_iload_n c_165_178 rfl (n_iload c_165_179 rfl (n_iload c_165_181 rfl (n_iload_n c_165_183 rfl (n_iload c_165_184 rfl (n_v6V c_165_186 rfl sc_112.n rfl rfl rfl rfl (mjoined3_3 (a := x5) (x := x6) (y := x8) (w := t) (s := z6) hS11 hdm (by omega) (by omega) (by omega) (by omega) (by omega)) ?_)))))))
        intro  M13 hP14
        have hS13 := hP14
        refine n_iinc (L2 := [some (2, 112), some (0, n), some (0, 3), some (0, t), some (0, x4), some (0, x5), some (0, x6), some (0, x7), some (0, (x8 + 1)), some (0, z6)]) c_165_189 rfl rfl rfl (n_goto c_165_192 (n_fg (le_s (le_s (le_s (le_s (le_s (le_s (le_s (le_s (le_s (le_n le_0)))))))))) ?_))
        exact ih.2.2.1 _ _ _ _ _ M13 hS13 (by omega) (by omega) (by omega) (by omega) (by omega) (by omega)
    · intro x4 x5 x6 M hS k4 k5 k6 hnn
      refine n_iinc (L2 := [some (2, 112), some (0, n), some (0, 3), some (0, t), some (0, x4), some (0, x5), some (0, (x6 + 1)), none, none, none]) c_165_195 rfl rfl rfl (n_goto c_165_198 (n_fg (le_s (le_s (le_s (le_s (le_s (le_s (le_s (le_n (le_n (le_n le_0)))))))))) ?_))
      exact ih.2.1 _ _ _ M hS (by omega) (by omega) (by omega) (by omega)
    · intro x4 x5 M hS k4 k5 hnn
      refine n_iinc (L2 := [some (2, 112), some (0, n), some (0, 3), some (0, t), some (0, x4), some (0, (x5 + 1)), none, none, none, none]) c_165_201 rfl rfl rfl (n_goto c_165_204 (n_fg (le_s (le_s (le_s (le_s (le_s (le_s (le_n (le_n (le_n (le_n le_0)))))))))) ?_))
      exact ih.1 _ _ M hS (by omega) (by omega) (by omega)
set_option maxHeartbeats 4000000 in
theorem mjoins3_3 {xs : List Int32} {e : Nat} {ac : Int} {M0 M : nM} {n t : Int} (hS : Sf 3 ac M0 M) (hdm : M0 112 0 = 3) (hn : 1 ≤ n ∧ n ≤ 2) (ht : 0 ≤ t ∧ t ≤ 255) : nW xs (e + 1) 165 0 [some (2, 112), some (0, n), some (0, 3), some (0, t), none, none, none, none, none, none] [] M (nPV fun M1 => Sf 3 ac M0 M1) := by
  have hd : (3 : Int) = 2 ∨ (3 : Int) = 3 := by decide
  have hac := hS.2.2.2.2
  refine n_aload_n c_165_0 rfl (n_iload_n c_165_1 rfl (n_iload_n c_165_2 rfl (n_v2I c_165_3 rfl sc_112.n rfl rfl rfl rfl (msizeOf_3 (n := n) (i := t) hS hdm (by omega) (by omega)) ?_)))
  intro z1 M2 hP3
  obtain ⟨eM, f3⟩ := hP3
  subst eM
  refine n_istore (L2 := [some (2, 112), some (0, n), some (0, 3), some (0, t), some (0, z1), none, none, none, none, none]) c_165_6 rfl rfl (n_iconst c_165_8 (n_istore (L2 := [some (2, 112), some (0, n), some (0, 3), some (0, t), some (0, z1), some (0, 0), none, none, none, none]) c_165_9 rfl rfl (n_fg (le_s (le_s (le_s (le_s (le_s (le_s (le_n (le_n (le_n (le_n le_0)))))))))) ?_)))
  exact (mjoins3_3_c hS hdm hn ht 1341650).1 _ _ M hS (by omega) (by omega) (by omega)

set_option maxHeartbeats 4000000 in
theorem mjoins9_3_c {xs : List Int32} {e : Nat} {ac : Int} {M0 M : nM} {n t : Int} (hS : Sf 3 ac M0 M) (hdm : M0 112 0 = 3) (hn : 1 ≤ n ∧ n ≤ 2) (ht : 0 ≤ t ∧ t ≤ 255) : ∀ nn : Nat, (∀ (x4 x5 : Int) (M : nM), Sf 3 ac M0 M → (0 ≤ x4 ∧ x4 ≤ 1000000) → (0 ≤ x5 ∧ x5 ≤ 8) → (8 - x5) * 67082 + 67082 < (nn : Int) → nW xs (e + 1) 165 11 [some (2, 112), some (0, n), some (0, 9), some (0, t), some (0, x4), some (0, x5), none, none, none, none] [] M (nPV fun M1 => Sf 3 ac M0 M1)) ∧ (∀ (x4 x5 x6 : Int) (M : nM), Sf 3 ac M0 M → (0 ≤ x4 ∧ x4 ≤ 1000000) → (0 ≤ x5 ∧ x5 ≤ 7) → (0 ≤ x6 ∧ x6 ≤ 256) → (8 - x5) * 67082 + (256 - x6) * 260 + 261 < (nn : Int) → nW xs (e + 1) 165 56 [some (2, 112), some (0, n), some (0, 9), some (0, t), some (0, x4), some (0, x5), some (0, x6), none, none, none] [] M (nPV fun M1 => Sf 3 ac M0 M1)) ∧ (∀ (x4 x5 x6 x7 x8 : Int) (M : nM), Sf 3 ac M0 M → (0 ≤ x4 ∧ x4 ≤ 1000000) → (0 ≤ x5 ∧ x5 ≤ 7) → (0 ≤ x6 ∧ x6 ≤ 255) → (1 ≤ x7 ∧ x7 ≤ 1000000) → (0 ≤ x8 ∧ x8 ≤ 256) → (8 - x5) * 67082 + (256 - x6) * 260 + (256 - x8) * 1 + 3 < (nn : Int) → nW xs (e + 1) 165 124 [some (2, 112), some (0, n), some (0, 9), some (0, t), some (0, x4), some (0, x5), some (0, x6), some (0, x7), some (0, x8), none] [] M (nPV fun M1 => Sf 3 ac M0 M1)) ∧ (∀ (x4 x5 x6 : Int) (M : nM), Sf 3 ac M0 M → (0 ≤ x4 ∧ x4 ≤ 1000000) → (0 ≤ x5 ∧ x5 ≤ 7) → (0 ≤ x6 ∧ x6 ≤ 255) → (8 - x5) * 67082 + (256 - x6) * 260 + 2 < (nn : Int) → nW xs (e + 1) 165 195 [some (2, 112), some (0, n), some (0, 9), some (0, t), some (0, x4), some (0, x5), some (0, x6), none, none, none] [] M (nPV fun M1 => Sf 3 ac M0 M1)) ∧ (∀ (x4 x5 : Int) (M : nM), Sf 3 ac M0 M → (0 ≤ x4 ∧ x4 ≤ 1000000) → (0 ≤ x5 ∧ x5 ≤ 7) → (8 - x5) * 67082 + 1 < (nn : Int) → nW xs (e + 1) 165 201 [some (2, 112), some (0, n), some (0, 9), some (0, t), some (0, x4), some (0, x5), none, none, none, none] [] M (nPV fun M1 => Sf 3 ac M0 M1)) := by
  have hd : (3 : Int) = 2 ∨ (3 : Int) = 3 := by decide
  have hac := hS.2.2.2.2
  intro nn
  induction nn with
  | zero => refine ⟨?_, ?_, ?_, ?_, ?_⟩ <;> (intros; omega)
  | succ nn ih =>
    refine ⟨?_, ?_, ?_, ?_, ?_⟩
    · intro x4 x5 M hS k4 k5 hnn
      refine n_iload c_165_11 rfl (n_aload_n c_165_13 rfl (n_getV (bi := 4) c_165_14 sc_112.n rfl rfl rfl (t_112_4 hS) ?_))
      intro z1 ez1 f2
      refine n_if2_ge c_165_17 (by omega) (by omega) ?_ ?_
      · intro h3
        exact n_rV c_165_207 rfl hS
      · intro h4
        refine n_aload_n c_165_20 rfl (n_getR c_165_21 sc_112.n rfl rfl rfl r_112_5 (n_iload c_165_24 rfl (n_ialoadV c_165_26 sc_116.n rfl rfl rfl (by omega) (t_116 hS (by omega)) ?_)))
        intro z5 ez5 f6
        refine n_iconst c_165_27 ?_
        refine n_if2_ne c_165_28 (by omega) (by omega) ?_ ?_
        · intro h7
          refine n_iconst c_165_53 (n_istore (L2 := [some (2, 112), some (0, n), some (0, 9), some (0, t), some (0, x4), some (0, x5), some (0, 0), none, none, none]) c_165_54 rfl rfl (n_fg (le_s (le_s (le_s (le_s (le_s (le_s (le_s (le_n (le_n (le_n le_0)))))))))) ?_))
          exact ih.2.1 _ _ _ M hS (by omega) (by omega) (by omega) (by omega)
        · intro h8
          refine n_aload_n c_165_31 rfl (n_iload c_165_32 rfl (n_iload_n c_165_34 rfl (n_iload_n c_165_35 rfl (n_iconst c_165_36 (n_iconst c_165_37 (n_ldc (n := 1000000) c_165_38 rfl (n_iload c_165_40 rfl (n_iconst c_165_42 (n_iadd c_165_43 rfl (n_s2I c_165_44 rfl rfl rfl rfl (imin_3 (x := 1000000) (y := (x4 + 1)) hS (by omega) (by omega)) ?_))))))))))
          intro z9 M10 hP11
          obtain ⟨eM, f11, f11p0⟩ := hP11
          subst eM
          refine n_v6V c_165_47 rfl sc_112.n rfl rfl rfl rfl (mjoined9_3 (a := x5) (x := t) (y := 0) (w := 0) (s := z9) hS hdm (by omega) (by omega) (by omega) (by omega) (by omega)) ?_
          intro  M12 hP13
          have hS12 := hP13
          refine n_goto c_165_50 (n_fg (le_s (le_s (le_s (le_s (le_s (le_s (le_n (le_n (le_n (le_n le_0)))))))))) ?_)
          exact ih.2.2.2.2 _ _ M12 hS12 (by omega) (by omega) (by omega)
    · intro x4 x5 x6 M hS k4 k5 k6 hnn
      refine n_iload c_165_56 rfl (n_iload_n c_165_58 rfl ?_)
      refine n_if2_gt c_165_59 (by omega) (by omega) ?_ ?_
      · intro h1
        refine n_fg (le_s (le_s (le_s (le_s (le_s (le_s (le_n (le_n (le_n (le_n le_0)))))))))) ?_
        exact ih.2.2.2.2 _ _ M hS (by omega) (by omega) (by omega)
      · intro h2
        refine n_ldc (n := 1000000) c_165_62 rfl (n_iload c_165_64 rfl (n_aload_n c_165_66 rfl (n_iload_n c_165_67 rfl (n_iload c_165_68 rfl (n_v2I c_165_70 rfl sc_112.n rfl rfl rfl rfl (msizeOf_3 (n := n) (i := x6) hS hdm (by omega) (by omega)) ?_)))))
        intro z3 M4 hP5
        obtain ⟨eM, f5⟩ := hP5
        subst eM
        refine n_iadd c_165_73 rfl (n_iconst c_165_74 (n_iadd c_165_75 rfl (n_s2I c_165_76 rfl rfl rfl rfl (imin_3 (x := 1000000) (y := ((x4 + z3) + 1)) hS (by omega) (by omega)) ?_)))
        intro z6 M7 hP8
        obtain ⟨eM, f8, f8p0⟩ := hP8
        subst eM
        refine n_istore (L2 := [some (2, 112), some (0, n), some (0, 9), some (0, t), some (0, x4), some (0, x5), some (0, x6), some (0, z6), none, none]) c_165_79 rfl rfl (n_aload_n c_165_81 rfl (n_getR c_165_82 sc_112.n rfl rfl rfl r_112_5 (n_iload c_165_85 rfl (n_ialoadV c_165_87 sc_116.n rfl rfl rfl (by omega) (t_116 hS (by omega)) ?_))))
        intro z9 ez9 f10
        refine n_iconst c_165_88 ?_
        refine n_if2_ne c_165_89 (by omega) (by omega) ?_ ?_
        · intro h11
          refine n_iconst c_165_121 (n_istore (L2 := [some (2, 112), some (0, n), some (0, 9), some (0, t), some (0, x4), some (0, x5), some (0, x6), some (0, z6), some (0, 0), none]) c_165_122 rfl rfl (n_fg (le_s (le_s (le_s (le_s (le_s (le_s (le_s (le_s (le_s (le_n le_0)))))))))) ?_))
          exact ih.2.2.1 _ _ _ _ _ M hS (by omega) (by omega) (by omega) (by omega) (by omega) (by omega)
        · intro h12
          refine n_aload_n c_165_92 rfl (n_iload c_165_93 rfl (n_iload_n c_165_95 rfl (n_iload_n c_165_96 rfl (n_iload c_165_97 rfl (n_iconst c_165_99 (n_iload c_165_100 rfl (n_v6V c_165_102 rfl sc_112.n rfl rfl rfl rfl (mjoined9_3 (a := x5) (x := t) (y := x6) (w := 0) (s := z6) hS hdm (by omega) (by omega) (by omega) (by omega) (by omega)) ?_)))))))
          intro  M13 hP14
          have hS13 := hP14
          refine n_aload_n c_165_105 rfl (n_iload c_165_106 rfl (n_iload_n c_165_108 rfl (n_iload c_165_109 rfl (n_iload_n c_165_111 rfl (n_iconst c_165_112 (n_iload c_165_113 rfl (n_v6V c_165_115 rfl sc_112.n rfl rfl rfl rfl (mjoined9_3 (a := x5) (x := x6) (y := t) (w := 0) (s := z6) hS13 hdm (by omega) (by omega) (by omega) (by omega) (by omega)) ?_)))))))
          intro  M15 hP16
          have hS15 := hP16
          refine n_goto c_165_118 (n_fg (le_s (le_s (le_s (le_s (le_s (le_s (le_s (le_n (le_n (le_n le_0)))))))))) ?_)
          exact ih.2.2.2.1 _ _ _ M15 hS15 (by omega) (by omega) (by omega) (by omega)
    · intro x4 x5 x6 x7 x8 M hS k4 k5 k6 k7 k8 hnn
      refine n_iload c_165_124 rfl (n_iload_n c_165_126 rfl ?_)
      refine n_if2_gt c_165_127 (by omega) (by omega) ?_ ?_
      · intro h1
        refine n_fg (le_s (le_s (le_s (le_s (le_s (le_s (le_s (le_n (le_n (le_n le_0)))))))))) ?_
        exact ih.2.2.2.1 _ _ _ M hS (by omega) (by omega) (by omega) (by omega)
      · intro h2
        refine n_ldc (n := 1000000) c_165_130 rfl (n_iload c_165_132 rfl (n_aload_n c_165_134 rfl (n_iload_n c_165_135 rfl (n_iload c_165_136 rfl (n_v2I c_165_138 rfl sc_112.n rfl rfl rfl rfl (msizeOf_3 (n := n) (i := x8) hS hdm (by omega) (by omega)) ?_)))))
        intro z3 M4 hP5
        obtain ⟨eM, f5⟩ := hP5
        subst eM
        refine n_iadd c_165_141 rfl (n_s2I c_165_142 rfl rfl rfl rfl (imin_3 (x := 1000000) (y := (x7 + z3)) hS (by omega) (by omega)) ?_)
        intro z6 M7 hP8
        obtain ⟨eM, f8, f8p0⟩ := hP8
        subst eM
        refine n_istore (L2 := [some (2, 112), some (0, n), some (0, 9), some (0, t), some (0, x4), some (0, x5), some (0, x6), some (0, x7), some (0, x8), some (0, z6)]) c_165_145 rfl rfl (n_aload_n c_165_147 rfl (n_iload c_165_148 rfl (n_iload_n c_165_150 rfl (n_iload_n c_165_151 rfl (n_iload c_165_152 rfl (n_iload c_165_154 rfl (n_iload c_165_156 rfl (n_v6V c_165_158 rfl sc_112.n rfl rfl rfl rfl (mjoined9_3 (a := x5) (x := t) (y := x6) (w := x8) (s := z6) hS hdm (by omega) (by omega) (by omega) (by omega) (by omega)) ?_))))))))
        intro  M9 hP10
        have hS9 := hP10
        refine n_aload_n c_165_161 rfl (n_iload c_165_162 rfl (n_iload_n c_165_164 rfl (n_iload c_165_165 rfl (n_iload_n c_165_167 rfl (n_iload c_165_168 rfl (n_iload c_165_170 rfl (n_v6V c_165_172 rfl sc_112.n rfl rfl rfl rfl (mjoined9_3 (a := x5) (x := x6) (y := t) (w := x8) (s := z6) hS9 hdm (by omega) (by omega) (by omega) (by omega) (by omega)) ?_)))))))
        intro  M11 hP12
        have hS11 := hP12
        refine n_aload_n c_165_175 rfl (n_iload c_165_176 rfl (n_iload_n c_165_178 rfl (n_iload c_165_179 rfl (n_iload c_165_181 rfl (n_iload_n c_165_183 rfl (n_iload c_165_184 rfl (n_v6V c_165_186 rfl sc_112.n rfl rfl rfl rfl (mjoined9_3 (a := x5) (x := x6) (y := x8) (w := t) (s := z6) hS11 hdm (by omega) (by omega) (by omega) (by omega) (by omega)) ?_)))))))
        intro  M13 hP14
        have hS13 := hP14
        refine n_iinc (L2 := [some (2, 112), some (0, n), some (0, 9), some (0, t), some (0, x4), some (0, x5), some (0, x6), some (0, x7), some (0, (x8 + 1)), some (0, z6)]) c_165_189 rfl rfl rfl (n_goto c_165_192 (n_fg (le_s (le_s (le_s (le_s (le_s (le_s (le_s (le_s (le_s (le_n le_0)))))))))) ?_))
        exact ih.2.2.1 _ _ _ _ _ M13 hS13 (by omega) (by omega) (by omega) (by omega) (by omega) (by omega)
    · intro x4 x5 x6 M hS k4 k5 k6 hnn
      refine n_iinc (L2 := [some (2, 112), some (0, n), some (0, 9), some (0, t), some (0, x4), some (0, x5), some (0, (x6 + 1)), none, none, none]) c_165_195 rfl rfl rfl (n_goto c_165_198 (n_fg (le_s (le_s (le_s (le_s (le_s (le_s (le_s (le_n (le_n (le_n le_0)))))))))) ?_))
      exact ih.2.1 _ _ _ M hS (by omega) (by omega) (by omega) (by omega)
    · intro x4 x5 M hS k4 k5 hnn
      refine n_iinc (L2 := [some (2, 112), some (0, n), some (0, 9), some (0, t), some (0, x4), some (0, (x5 + 1)), none, none, none, none]) c_165_201 rfl rfl rfl (n_goto c_165_204 (n_fg (le_s (le_s (le_s (le_s (le_s (le_s (le_n (le_n (le_n (le_n le_0)))))))))) ?_))
      exact ih.1 _ _ M hS (by omega) (by omega) (by omega)
set_option maxHeartbeats 4000000 in
theorem mjoins9_3 {xs : List Int32} {e : Nat} {ac : Int} {M0 M : nM} {n t : Int} (hS : Sf 3 ac M0 M) (hdm : M0 112 0 = 3) (hn : 1 ≤ n ∧ n ≤ 2) (ht : 0 ≤ t ∧ t ≤ 255) : nW xs (e + 1) 165 0 [some (2, 112), some (0, n), some (0, 9), some (0, t), none, none, none, none, none, none] [] M (nPV fun M1 => Sf 3 ac M0 M1) := by
  have hd : (3 : Int) = 2 ∨ (3 : Int) = 3 := by decide
  have hac := hS.2.2.2.2
  refine n_aload_n c_165_0 rfl (n_iload_n c_165_1 rfl (n_iload_n c_165_2 rfl (n_v2I c_165_3 rfl sc_112.n rfl rfl rfl rfl (msizeOf_3 (n := n) (i := t) hS hdm (by omega) (by omega)) ?_)))
  intro z1 M2 hP3
  obtain ⟨eM, f3⟩ := hP3
  subst eM
  refine n_istore (L2 := [some (2, 112), some (0, n), some (0, 9), some (0, t), some (0, z1), none, none, none, none, none]) c_165_6 rfl rfl (n_iconst c_165_8 (n_istore (L2 := [some (2, 112), some (0, n), some (0, 9), some (0, t), some (0, z1), some (0, 0), none, none, none, none]) c_165_9 rfl rfl (n_fg (le_s (le_s (le_s (le_s (le_s (le_s (le_n (le_n (le_n (le_n le_0)))))))))) ?_)))
  exact (mjoins9_3_c hS hdm hn ht 1341650).1 _ _ M hS (by omega) (by omega) (by omega)

/-! The methods, by program. -/
set_option maxHeartbeats 4000000 in
theorem mordered_3_c {xs : List Int32} {e : Nat} {ac : Int} {M0 M : nM} {n m : Int} (hS : Sf 3 ac M0 M) (hdm : M0 112 0 = 3) (hn : 1 ≤ n ∧ n ≤ 2) (hm : 0 ≤ m ∧ m ≤ 256) : ∀ nn : Nat, (∀ (x3 : Int) (M : nM), Sf 3 ac M0 M → (1 ≤ x3 ∧ x3 ≤ 256) → (256 - x3) * 516 + 516 < (nn : Int) → nW xs (e + 1) 166 2 [some (2, 112), some (0, n), some (0, m), some (0, x3), none, none, none] [] M (nPV fun M1 => Sf 3 ac M0 M1)) ∧ (∀ (x3 x4 x5 x6 : Int) (M : nM), Sf 3 ac M0 M → (2 ≤ m ∧ m ≤ 256) → (1 ≤ x3 ∧ x3 ≤ 255) → (0 ≤ x4 ∧ x4 ≤ 19682) → (0 ≤ x5 ∧ x5 ≤ 1000000) → (0 ≤ x6 ∧ x6 ≤ 255) → (256 - x3) * 516 + (x6 - 0) * 2 + 3 < (nn : Int) → nW xs (e + 1) 166 38 [some (2, 112), some (0, n), some (0, m), some (0, x3), some (0, x4), some (0, x5), some (0, x6)] [] M (nPV fun M1 => Sf 3 ac M0 M1)) ∧ (∀ (x3 x4 x5 x6 : Int) (M : nM), Sf 3 ac M0 M → (2 ≤ m ∧ m ≤ 256) → (1 ≤ x3 ∧ x3 ≤ 255) → (0 ≤ x4 ∧ x4 ≤ 19682) → (0 ≤ x5 ∧ x5 ≤ 1000000) → (1 ≤ x6 ∧ x6 ≤ 255) → (256 - x3) * 516 + (x6 - 0) * 2 + 2 < (nn : Int) → nW xs (e + 1) 166 91 [some (2, 112), some (0, n), some (0, m), some (0, x3), some (0, x4), some (0, x5), some (0, x6)] [] M (nPV fun M1 => Sf 3 ac M0 M1)) ∧ (∀ (x3 x4 x5 x6 : Int) (M : nM), Sf 3 ac M0 M → (2 ≤ m ∧ m ≤ 256) → (1 ≤ x3 ∧ x3 ≤ 255) → (0 ≤ x4 ∧ x4 ≤ 19682) → (0 ≤ x5 ∧ x5 ≤ 1000000) → (0 ≤ x6 ∧ x6 ≤ 255) → (256 - x3) * 516 + 1 < (nn : Int) → nW xs (e + 1) 166 153 [some (2, 112), some (0, n), some (0, m), some (0, x3), some (0, x4), some (0, x5), some (0, x6)] [] M (nPV fun M1 => Sf 3 ac M0 M1)) := by
  have hd : (3 : Int) = 2 ∨ (3 : Int) = 3 := by decide
  have hac := hS.2.2.2.2
  intro nn
  induction nn with
  | zero => refine ⟨?_, ?_, ?_, ?_⟩ <;> (intros; omega)
  | succ nn ih =>
    refine ⟨?_, ?_, ?_, ?_⟩
    · intro x3 M hS k3 hnn
      refine n_iload_n c_166_2 rfl (n_iload_n c_166_3 rfl ?_)
      refine n_if2_ge c_166_4 (by omega) (by omega) ?_ ?_
      · intro h1
        exact n_rV c_166_189 rfl hS
      · intro h2
        refine n_aload_n c_166_7 rfl (n_getR c_166_8 sc_112.n rfl rfl rfl r_112_14 (n_sipush c_166_11 rfl (n_iload_n c_166_14 rfl (n_imul c_166_15 rfl (n_iload_n c_166_16 rfl (n_iadd c_166_17 rfl (n_ialoadV c_166_18 sc_122.n rfl rfl rfl (by omega) (t_122 hS (by omega)) ?_)))))))
        intro z3 ez3 f4
        refine n_istore (L2 := [some (2, 112), some (0, n), some (0, m), some (0, x3), some (0, z3), none, none]) c_166_19 rfl rfl (n_aload_n c_166_21 rfl (n_getR c_166_22 sc_112.n rfl rfl rfl r_112_15 (n_sipush c_166_25 rfl (n_iload_n c_166_28 rfl (n_imul c_166_29 rfl (n_iload_n c_166_30 rfl (n_iadd c_166_31 rfl (n_ialoadV c_166_32 sc_123.n rfl rfl rfl (by omega) (t_123 hS (by omega)) ?_))))))))
        intro z5 ez5 f6
        refine n_istore (L2 := [some (2, 112), some (0, n), some (0, m), some (0, x3), some (0, z3), some (0, z5), none]) c_166_33 rfl rfl (n_iload_n c_166_35 rfl (n_istore (L2 := [some (2, 112), some (0, n), some (0, m), some (0, x3), some (0, z3), some (0, z5), some (0, x3)]) c_166_36 rfl rfl (n_fg (le_s (le_s (le_s (le_s (le_s (le_s (le_s le_0))))))) ?_)))
        exact ih.2.1 _ _ _ _ M hS (by omega) (by omega) (by omega) (by omega) (by omega) (by omega)
    · intro x3 x4 x5 x6 M hS k2 k3 k4 k5 k6 hnn
      refine n_iload c_166_38 rfl ?_
      refine n_if0_le c_166_40 (by omega) ?_ ?_
      · intro h1
        refine n_fg (le_s (le_s (le_s (le_s (le_s (le_s (le_s le_0))))))) ?_
        exact ih.2.2.2 _ _ _ _ M hS (by omega) (by omega) (by omega) (by omega) (by omega) (by omega)
      · intro h2
        refine n_aload_n c_166_43 rfl (n_iload_n c_166_44 rfl (n_iload c_166_45 rfl (n_iconst c_166_47 (n_isub c_166_48 rfl (n_v2I c_166_49 rfl sc_112.n rfl rfl rfl rfl (msizeOf_3 (n := n) (i := (x6 - 1)) hS hdm (by omega) (by omega)) ?_)))))
        intro z3 M4 hP5
        obtain ⟨eM, f5⟩ := hP5
        subst eM
        refine n_iload c_166_52 rfl ?_
        refine n_if2_gt c_166_54 (by omega) (by omega) ?_ ?_
        · intro h6
          refine n_fg (le_s (le_s (le_s (le_s (le_s (le_s (le_s le_0))))))) ?_
          exact ih.2.2.1 _ _ _ _ M hS (by omega) (by omega) (by omega) (by omega) (by omega) (by omega)
        · intro h7
          refine n_aload_n c_166_57 rfl (n_iload_n c_166_58 rfl (n_iload c_166_59 rfl (n_iconst c_166_61 (n_isub c_166_62 rfl (n_v2I c_166_63 rfl sc_112.n rfl rfl rfl rfl (msizeOf_3 (n := n) (i := (x6 - 1)) hS hdm (by omega) (by omega)) ?_)))))
          intro z8 M9 hP10
          obtain ⟨eM, f10⟩ := hP10
          subst eM
          refine n_iload c_166_66 rfl ?_
          refine n_if2_ne c_166_68 (by omega) (by omega) ?_ ?_
          · intro h11
            refine n_fg (le_s (le_s (le_s (le_s (le_s (le_s (le_s le_0))))))) ?_
            exact ih.2.2.2 _ _ _ _ M hS (by omega) (by omega) (by omega) (by omega) (by omega) (by omega)
          · intro h12
            refine n_aload_n c_166_71 rfl (n_getR c_166_72 sc_112.n rfl rfl rfl r_112_14 (n_sipush c_166_75 rfl (n_iload_n c_166_78 rfl (n_imul c_166_79 rfl (n_iload c_166_80 rfl (n_iadd c_166_82 rfl (n_iconst c_166_83 (n_isub c_166_84 rfl (n_ialoadV c_166_85 sc_122.n rfl rfl rfl (by omega) (t_122 hS (by omega)) ?_)))))))))
            intro z13 ez13 f14
            refine n_iload c_166_86 rfl ?_
            refine n_if2_le c_166_88 (by omega) (by omega) ?_ ?_
            · intro h15
              refine n_fg (le_s (le_s (le_s (le_s (le_s (le_s (le_s le_0))))))) ?_
              exact ih.2.2.2 _ _ _ _ M hS (by omega) (by omega) (by omega) (by omega) (by omega) (by omega)
            · intro h16
              refine n_fg (le_s (le_s (le_s (le_s (le_s (le_s (le_s le_0))))))) ?_
              exact ih.2.2.1 _ _ _ _ M hS (by omega) (by omega) (by omega) (by omega) (by omega) (by omega)
    · intro x3 x4 x5 x6 M hS k2 k3 k4 k5 k6 hnn
      refine n_aload_n c_166_91 rfl (n_getR c_166_92 sc_112.n rfl rfl rfl r_112_14 (n_sipush c_166_95 rfl (n_iload_n c_166_98 rfl (n_imul c_166_99 rfl (n_iload c_166_100 rfl (n_iadd c_166_102 rfl (n_aload_n c_166_103 rfl (n_getR c_166_104 sc_112.n rfl rfl rfl r_112_14 (n_sipush c_166_107 rfl (n_iload_n c_166_110 rfl (n_imul c_166_111 rfl ?_)))))))))))
      refine n_iload c_166_112 rfl (n_iadd c_166_114 rfl (n_iconst c_166_115 (n_isub c_166_116 rfl (n_ialoadV c_166_117 sc_122.n rfl rfl rfl (by omega) (t_122 hS (by omega)) ?_))))
      intro z1 ez1 f2
      refine n_iastoreV hS c_166_118 sc_122.n rfl (by omega) (w_122 (by omega) (by omega)) ?_
      intro M3 eM3 hS3
      refine n_aload_n c_166_119 rfl (n_getR c_166_120 sc_112.n rfl rfl rfl r_112_15 (n_sipush c_166_123 rfl (n_iload_n c_166_126 rfl (n_imul c_166_127 rfl (n_iload c_166_128 rfl (n_iadd c_166_130 rfl (n_aload_n c_166_131 rfl (n_getR c_166_132 sc_112.n rfl rfl rfl r_112_15 (n_sipush c_166_135 rfl (n_iload_n c_166_138 rfl (n_imul c_166_139 rfl ?_)))))))))))
      refine n_iload c_166_140 rfl (n_iadd c_166_142 rfl (n_iconst c_166_143 (n_isub c_166_144 rfl (n_ialoadV c_166_145 sc_123.n rfl rfl rfl (by omega) (t_123 hS3 (by omega)) ?_))))
      intro z4 ez4 f5
      refine n_iastoreV hS3 c_166_146 sc_123.n rfl (by omega) (w_123 (by omega) (by omega)) ?_
      intro M6 eM6 hS6
      refine n_iinc (L2 := [some (2, 112), some (0, n), some (0, m), some (0, x3), some (0, x4), some (0, x5), some (0, (x6 + (-1)))]) c_166_147 rfl rfl rfl (n_goto c_166_150 (n_fg (le_s (le_s (le_s (le_s (le_s (le_s (le_s le_0))))))) ?_))
      exact ih.2.1 _ _ _ _ M6 hS6 (by omega) (by omega) (by omega) (by omega) (by omega) (by omega)
    · intro x3 x4 x5 x6 M hS k2 k3 k4 k5 k6 hnn
      refine n_aload_n c_166_153 rfl (n_getR c_166_154 sc_112.n rfl rfl rfl r_112_14 (n_sipush c_166_157 rfl (n_iload_n c_166_160 rfl (n_imul c_166_161 rfl (n_iload c_166_162 rfl (n_iadd c_166_164 rfl (n_iload c_166_165 rfl (n_iastoreV hS c_166_167 sc_122.n rfl (by omega) (w_122 (by omega) (by omega)) ?_))))))))
      intro M1 eM1 hS1
      refine n_aload_n c_166_168 rfl (n_getR c_166_169 sc_112.n rfl rfl rfl r_112_15 (n_sipush c_166_172 rfl (n_iload_n c_166_175 rfl (n_imul c_166_176 rfl (n_iload c_166_177 rfl (n_iadd c_166_179 rfl (n_iload c_166_180 rfl (n_iastoreV hS1 c_166_182 sc_123.n rfl (by omega) (w_123 (by omega) (by omega)) ?_))))))))
      intro M2 eM2 hS2
      refine n_iinc (L2 := [some (2, 112), some (0, n), some (0, m), some (0, (x3 + 1)), some (0, x4), some (0, x5), some (0, x6)]) c_166_183 rfl rfl rfl (n_goto c_166_186 (n_fg (le_s (le_s (le_s (le_s (le_n (le_n (le_n le_0))))))) ?_))
      exact ih.1 _ M2 hS2 (by omega) (by omega)
set_option maxHeartbeats 4000000 in
theorem mordered_3 {xs : List Int32} {e : Nat} {ac : Int} {M0 M : nM} {n m : Int} (hS : Sf 3 ac M0 M) (hdm : M0 112 0 = 3) (hn : 1 ≤ n ∧ n ≤ 2) (hm : 0 ≤ m ∧ m ≤ 256) : nW xs (e + 1) 166 0 [some (2, 112), some (0, n), some (0, m), none, none, none, none] [] M (nPV fun M1 => Sf 3 ac M0 M1) := by
  have hd : (3 : Int) = 2 ∨ (3 : Int) = 3 := by decide
  have hac := hS.2.2.2.2
  refine n_iconst c_166_0 (n_istore_n (L2 := [some (2, 112), some (0, n), some (0, m), some (0, 1), none, none, none]) c_166_1 rfl rfl (n_fg (le_s (le_s (le_s (le_s (le_n (le_n (le_n le_0))))))) ?_))
  exact (mordered_3_c hS hdm hn hm 265234).1 _ M hS (by omega) (by omega)

set_option maxHeartbeats 4000000 in
theorem mmakes1_3_c {xs : List Int32} {e : Nat} {ac : Int} {M0 M : nM} (hS : Sf 3 ac M0 M) (hdm : M0 112 0 = 3) : ∀ nn : Nat, (∀ (x2 x3 x4 : Int) (M : nM), Sf 3 ac M0 M → (3 ≤ x2 ∧ x2 ≤ 3) → (27 ≤ x3 ∧ x3 ≤ 27) → (0 ≤ x4 ∧ x4 ≤ 27) → (27 - x4) * 1 + 90817 < (nn : Int) → nW xs (e + 2) 167 29 [some (2, 112), some (0, 1), some (0, x2), some (0, x3), some (0, x4), none, none, none] [] M (nPV fun M1 => Sf 3 ac M0 M1)) ∧ (∀ (x2 x3 x4 : Int) (M : nM), Sf 3 ac M0 M → (3 ≤ x2 ∧ x2 ≤ 3) → (27 ≤ x3 ∧ x3 ≤ 27) → (0 ≤ x4 ∧ x4 ≤ 256) → (256 - x4) * 352 + 352 < (nn : Int) → nW xs (e + 2) 167 113 [some (2, 112), some (0, 1), some (0, x2), some (0, x3), some (0, x4), none, none, none] [] M (nPV fun M1 => Sf 3 ac M0 M1)) ∧ (∀ (x2 x3 x4 x5 x6 : Int) (M : nM), Sf 3 ac M0 M → (3 ≤ x2 ∧ x2 ≤ 3) → (27 ≤ x3 ∧ x3 ≤ 27) → (0 ≤ x4 ∧ x4 ≤ 256) → (-1 ≤ x5 ∧ x5 ≤ 26) → (0 ≤ x6 ∧ x6 ≤ 27) → (x5 = -1 ∨ 1 ≤ M 125 x5) → (256 - x4) * 352 + (27 - x6) * 3 + 267 < (nn : Int) → nW xs (e + 2) 167 119 [some (2, 112), some (0, 1), some (0, x2), some (0, x3), some (0, x4), some (0, x5), some (0, x6), none] [] M (nPV fun M1 => Sf 3 ac M0 M1)) ∧ (∀ (x2 x3 x4 x6 : Int) (M : nM), Sf 3 ac M0 M → (3 ≤ x2 ∧ x2 ≤ 3) → (27 ≤ x3 ∧ x3 ≤ 27) → (0 ≤ x4 ∧ x4 ≤ 256) → (0 ≤ x6 ∧ x6 ≤ 26) → (1 ≤ M 125 x6) → (256 - x4) * 352 + (27 - x6) * 3 + 266 < (nn : Int) → nW xs (e + 2) 167 158 [some (2, 112), some (0, 1), some (0, x2), some (0, x3), some (0, x4), none, some (0, x6), none] [] M (nPV fun M1 => Sf 3 ac M0 M1)) ∧ (∀ (x2 x3 x4 x5 x6 : Int) (M : nM), Sf 3 ac M0 M → (3 ≤ x2 ∧ x2 ≤ 3) → (27 ≤ x3 ∧ x3 ≤ 27) → (0 ≤ x4 ∧ x4 ≤ 256) → (-1 ≤ x5 ∧ x5 ≤ 26) → (0 ≤ x6 ∧ x6 ≤ 26) → (x5 = -1 ∨ 1 ≤ M 125 x5) → (256 - x4) * 352 + (27 - x6) * 3 + 265 < (nn : Int) → nW xs (e + 2) 167 162 [some (2, 112), some (0, 1), some (0, x2), some (0, x3), some (0, x4), some (0, x5), some (0, x6), none] [] M (nPV fun M1 => Sf 3 ac M0 M1)) ∧ (∀ (x2 x3 x4 x6 x7 : Int) (M : nM), Sf 3 ac M0 M → (3 ≤ x2 ∧ x2 ≤ 3) → (27 ≤ x3 ∧ x3 ≤ 27) → (0 ≤ x4 ∧ x4 ≤ 255) → (0 ≤ x6 ∧ x6 ≤ 26) → (0 ≤ x7 ∧ x7 ≤ 3) → (256 - x4) * 352 + (3 - x7) * 1 + 260 < (nn : Int) → nW xs (e + 2) 167 251 [some (2, 112), some (0, 1), some (0, x2), some (0, x3), some (0, x4), none, some (0, x6), some (0, x7)] [] M (nPV fun M1 => Sf 3 ac M0 M1)) ∧ (∀ (x2 x3 x4 : Int) (M : nM), Sf 3 ac M0 M → (3 ≤ x2 ∧ x2 ≤ 3) → (27 ≤ x3 ∧ x3 ≤ 27) → (0 ≤ x4 ∧ x4 ≤ 255) → (256 - x4) * 352 + 259 < (nn : Int) → nW xs (e + 2) 167 308 [some (2, 112), some (0, 1), some (0, x2), some (0, x3), some (0, x4), none, none, none] [] M (nPV fun M1 => Sf 3 ac M0 M1)) ∧ (∀ (x2 x3 x4 x7 : Int) (M : nM), Sf 3 ac M0 M → (3 ≤ x2 ∧ x2 ≤ 3) → (27 ≤ x3 ∧ x3 ≤ 27) → (1 ≤ x4 ∧ x4 ≤ 256) → (0 ≤ x7 ∧ x7 ≤ 256) → (256 - (x4 - 1)) * 352 + (256 - x7) * 1 + 1 < (nn : Int) → nW xs (e + 2) 167 314 [some (2, 112), some (0, 1), some (0, x2), some (0, x3), some (0, x4), none, none, some (0, x7)] [] M (nPV fun M1 => Sf 3 ac M0 M1)) := by
  have hd : (3 : Int) = 2 ∨ (3 : Int) = 3 := by decide
  have hac := hS.2.2.2.2
  intro nn
  induction nn with
  | zero => refine ⟨?_, ?_, ?_, ?_, ?_, ?_, ?_, ?_⟩ <;> (intros; omega)
  | succ nn ih =>
    refine ⟨?_, ?_, ?_, ?_, ?_, ?_, ?_, ?_⟩
    · intro x2 x3 x4 M hS k2 k3 k4 hnn
      refine n_iload c_167_29 rfl (n_iload_n c_167_31 rfl ?_)
      refine n_if2_ge c_167_32 (by omega) (by omega) ?_ ?_
      · intro h1
        refine n_iconst c_167_49 (n_istore (L2 := [some (2, 112), some (0, 1), some (0, x2), some (0, x3), some (0, 0), none, none, none]) c_167_50 rfl rfl (n_iload c_167_52 rfl (n_iload_n c_167_54 rfl ?_)))
        refine n_if2_ge c_167_55 (by omega) (by omega) ?_ ?_
        · intro h2
          exfalso; omega
        · intro h3
          refine n_iconst c_167_58 (n_istore (L2 := [some (2, 112), some (0, 1), some (0, x2), some (0, x3), some (0, 0), some (0, 0), none, none]) c_167_59 rfl rfl (n_iload_n c_167_61 rfl (n_iconst c_167_62 (n_isub c_167_63 rfl (n_istore (L2 := [some (2, 112), some (0, 1), some (0, x2), some (0, x3), some (0, 0), some (0, 0), some (0, (x2 - 1)), none]) c_167_64 rfl rfl (n_iload c_167_66 rfl ?_))))))
          refine n_if0_lt c_167_68 (by omega) ?_ ?_
          · intro h4
            exfalso; omega
          · intro h5
            refine n_iload c_167_71 rfl (n_aload_n c_167_73 rfl (n_getV (bi := 0) c_167_74 sc_112.n rfl rfl rfl (t_dm hS hdm) ?_))
            intro z6 ez6 f7
            obtain rfl : z6 = 3 := by omega
            refine n_imul c_167_77 rfl (n_aload_n c_167_78 rfl (n_iload c_167_79 rfl (n_iload_n c_167_81 rfl (n_iload c_167_82 rfl (n_v3I c_167_84 rfl sc_112.n rfl rfl rfl rfl (mdigit_3 (r := (x2 - 1)) (k := 1) (j := 0) hS hdm (by omega) (by omega) (by omega) (by omega)) ?_)))))
            intro z8 M9 hP10
            obtain ⟨eM, f10⟩ := hP10
            subst eM
            refine n_iadd c_167_87 rfl (n_istore (L2 := [some (2, 112), some (0, 1), some (0, x2), some (0, x3), some (0, 0), some (0, ((0 * 3) + z8)), some (0, (x2 - 1)), none]) c_167_88 rfl rfl (n_iinc (L2 := [some (2, 112), some (0, 1), some (0, x2), some (0, x3), some (0, 0), some (0, ((0 * 3) + z8)), some (0, ((x2 - 1) + (-1))), none]) c_167_90 rfl rfl rfl (n_goto c_167_93 (n_iload c_167_66 rfl ?_))))
            refine n_if0_lt c_167_68 (by omega) ?_ ?_
            · intro h11
              exfalso; omega
            · intro h12
              refine n_iload c_167_71 rfl (n_aload_n c_167_73 rfl (n_getV (bi := 0) c_167_74 sc_112.n rfl rfl rfl (t_dm hS hdm) ?_))
              intro z13 ez13 f14
              obtain rfl : z13 = 3 := by omega
              refine n_imul c_167_77 rfl (n_aload_n c_167_78 rfl (n_iload c_167_79 rfl (n_iload_n c_167_81 rfl (n_iload c_167_82 rfl (n_v3I c_167_84 rfl sc_112.n rfl rfl rfl rfl (mdigit_3 (r := ((x2 - 1) + (-1))) (k := 1) (j := 0) hS hdm (by omega) (by omega) (by omega) (by omega)) ?_)))))
              intro z15 M16 hP17
              obtain ⟨eM, f17⟩ := hP17
              subst eM
              refine n_iadd c_167_87 rfl (n_istore (L2 := [some (2, 112), some (0, 1), some (0, x2), some (0, x3), some (0, 0), some (0, ((((0 * 3) + z8) * 3) + z15)), some (0, ((x2 - 1) + (-1))), none]) c_167_88 rfl rfl (n_iinc (L2 := [some (2, 112), some (0, 1), some (0, x2), some (0, x3), some (0, 0), some (0, ((((0 * 3) + z8) * 3) + z15)), some (0, (((x2 - 1) + (-1)) + (-1))), none]) c_167_90 rfl rfl rfl (n_goto c_167_93 (n_iload c_167_66 rfl ?_))))
              refine n_if0_lt c_167_68 (by omega) ?_ ?_
              · intro h18
                exfalso; omega
              · intro h19
                refine n_iload c_167_71 rfl (n_aload_n c_167_73 rfl (n_getV (bi := 0) c_167_74 sc_112.n rfl rfl rfl (t_dm hS hdm) ?_))
                intro z20 ez20 f21
                obtain rfl : z20 = 3 := by omega
                refine n_imul c_167_77 rfl (n_aload_n c_167_78 rfl (n_iload c_167_79 rfl (n_iload_n c_167_81 rfl (n_iload c_167_82 rfl (n_v3I c_167_84 rfl sc_112.n rfl rfl rfl rfl (mdigit_3 (r := (((x2 - 1) + (-1)) + (-1))) (k := 1) (j := 0) hS hdm (by omega) (by omega) (by omega) (by omega)) ?_)))))
                intro z22 M23 hP24
                obtain ⟨eM, f24⟩ := hP24
                subst eM
                refine n_iadd c_167_87 rfl (n_istore (L2 := [some (2, 112), some (0, 1), some (0, x2), some (0, x3), some (0, 0), some (0, ((((((0 * 3) + z8) * 3) + z15) * 3) + z22)), some (0, (((x2 - 1) + (-1)) + (-1))), none]) c_167_88 rfl rfl (n_iinc (L2 := [some (2, 112), some (0, 1), some (0, x2), some (0, x3), some (0, 0), some (0, ((((((0 * 3) + z8) * 3) + z15) * 3) + z22)), some (0, ((((x2 - 1) + (-1)) + (-1)) + (-1))), none]) c_167_90 rfl rfl rfl (n_goto c_167_93 (n_iload c_167_66 rfl ?_))))
                refine n_if0_lt c_167_68 (by omega) ?_ ?_
                · intro h25
                  refine n_aload_n c_167_96 rfl (n_getR c_167_97 sc_112.n rfl rfl rfl r_112_17 (n_iload c_167_100 rfl (n_iconst c_167_102 (n_iastoreV hS c_167_103 sc_125.n rfl (by omega) (w_125 (by omega) (by omega)) ?_))))
                  intro M26 eM26 hS26
                  refine n_iinc (L2 := [some (2, 112), some (0, 1), some (0, x2), some (0, x3), some (0, (0 + 1)), some (0, ((((((0 * 3) + z8) * 3) + z15) * 3) + z22)), some (0, ((((x2 - 1) + (-1)) + (-1)) + (-1))), none]) c_167_104 rfl rfl rfl (n_goto c_167_107 (n_iload c_167_52 rfl (n_iload_n c_167_54 rfl ?_)))
                  refine n_if2_ge c_167_55 (by omega) (by omega) ?_ ?_
                  · intro h27
                    refine n_iconst c_167_110 (n_istore (L2 := [some (2, 112), some (0, 1), some (0, x2), some (0, x3), some (0, 0), some (0, ((((((0 * 3) + z8) * 3) + z15) * 3) + z22)), some (0, ((((x2 - 1) + (-1)) + (-1)) + (-1))), none]) c_167_111 rfl rfl (n_fg (le_s (le_s (le_s (le_s (le_s (le_n (le_n (le_n le_0)))))))) ?_))
                    exact ih.2.1 _ _ _ M26 hS26 (by omega) (by omega) (by omega) (by omega)
                  · intro h28
                    exfalso; omega
                · intro h29
                  exfalso; omega
      · intro h30
        refine n_aload_n c_167_35 rfl (n_getR c_167_36 sc_112.n rfl rfl rfl r_112_17 (n_iload c_167_39 rfl (n_iconst c_167_41 (n_iastoreV hS c_167_42 sc_125.n rfl (by omega) (w_125 (by omega) (by omega)) ?_))))
        intro M31 eM31 hS31
        refine n_iinc (L2 := [some (2, 112), some (0, 1), some (0, x2), some (0, x3), some (0, (x4 + 1)), none, none, none]) c_167_43 rfl rfl rfl (n_goto c_167_46 (n_fg (le_s (le_s (le_s (le_s (le_s (le_n (le_n (le_n le_0)))))))) ?_))
        exact ih.1 _ _ _ M31 hS31 (by omega) (by omega) (by omega) (by omega)
    · intro x2 x3 x4 M hS k2 k3 k4 hnn
      refine n_iconst c_167_113 (n_istore (L2 := [some (2, 112), some (0, 1), some (0, x2), some (0, x3), some (0, x4), some (0, (-1)), none, none]) c_167_114 rfl rfl (n_iconst c_167_116 (n_istore (L2 := [some (2, 112), some (0, 1), some (0, x2), some (0, x3), some (0, x4), some (0, (-1)), some (0, 0), none]) c_167_117 rfl rfl (n_fg (le_s (le_s (le_s (le_s (le_s (le_s (le_s (le_n le_0)))))))) ?_))))
      exact ih.2.2.1 _ _ _ _ _ M hS (by omega) (by omega) (by omega) (by omega) (by omega) (by omega) (by omega)
    · intro x2 x3 x4 x5 x6 M hS k2 k3 k4 k5 k6 v0 hnn
      refine n_iload c_167_119 rfl (n_iload_n c_167_121 rfl ?_)
      refine n_if2_ge c_167_122 (by omega) (by omega) ?_ ?_
      · intro h1
        refine n_iload c_167_168 rfl (n_iconst c_167_170 ?_)
        refine n_if2_ne c_167_171 (by omega) (by omega) ?_ ?_
        · intro h2
          refine n_iload c_167_190 rfl (n_sipush c_167_192 rfl ?_)
          refine n_if2_ne c_167_195 (by omega) (by omega) ?_ ?_
          · intro h3
            refine n_aload_n c_167_207 rfl (n_getR c_167_208 sc_112.n rfl rfl rfl r_112_14 (n_sipush c_167_211 rfl (n_iload_n c_167_214 rfl (n_imul c_167_215 rfl (n_iload c_167_216 rfl (n_iadd c_167_218 rfl (n_iload c_167_219 rfl (n_iastoreV hS c_167_221 sc_122.n rfl (by omega) (w_122 (by omega) (by omega)) ?_))))))))
            intro M4 eM4 hS4
            have g4_0 : M4 125 x5 = M 125 x5 := by rw [eM4]; exact nu_a (by omega)
            refine n_aload_n c_167_222 rfl (n_getR c_167_223 sc_112.n rfl rfl rfl r_112_15 (n_sipush c_167_226 rfl (n_iload_n c_167_229 rfl (n_imul c_167_230 rfl (n_iload c_167_231 rfl (n_iadd c_167_233 rfl (n_aload_n c_167_234 rfl (n_getR c_167_235 sc_112.n rfl rfl rfl r_112_17 (n_iload c_167_238 rfl (n_ialoadV c_167_240 sc_125.n rfl rfl rfl (by omega) (t_125 hS4 (by omega)) ?_))))))))))
            intro z5 ez5 f6
            refine n_iconst c_167_241 (n_isub c_167_242 rfl (n_iastoreV hS4 c_167_243 sc_123.n rfl (by omega) (w_123 (by omega) (by omega)) ?_))
            intro M7 eM7 hS7
            have g7_0 : M7 125 x5 = M4 125 x5 := by rw [eM7]; exact nu_a (by omega)
            refine n_iload c_167_244 rfl (n_istore (L2 := [some (2, 112), some (0, 1), some (0, x2), some (0, x3), some (0, x4), some (0, x5), some (0, x5), none]) c_167_246 rfl rfl (n_iconst c_167_248 (n_istore (L2 := [some (2, 112), some (0, 1), some (0, x2), some (0, x3), some (0, x4), some (0, x5), some (0, x5), some (0, 0)]) c_167_249 rfl rfl (n_fg (le_s (le_s (le_s (le_s (le_s (le_n (le_s (le_s le_0)))))))) ?_))))
            exact ih.2.2.2.2.2.1 _ _ _ _ _ M7 hS7 (by omega) (by omega) (by omega) (by omega) (by omega) (by omega)
          · intro h8
            refine n_aload_n c_167_198 rfl (n_getR c_167_199 sc_112.n rfl rfl rfl r_112_16 (n_iload_n c_167_202 rfl (n_bipush c_167_203 rfl (n_iastoreV hS c_167_205 sc_124.n rfl (by omega) (w_124 (by omega) (by omega)) ?_))))
            intro M9 eM9 hS9
            have g9_0 : M9 125 x5 = M 125 x5 := by rw [eM9]; exact nu_a (by omega)
            exact n_rV c_167_206 rfl hS9
        · intro h10
          refine n_aload_n c_167_174 rfl (n_getR c_167_175 sc_112.n rfl rfl rfl r_112_16 (n_iload_n c_167_178 rfl (n_iload c_167_179 rfl (n_iastoreV hS c_167_181 sc_124.n rfl (by omega) (w_124 (by omega) (by omega)) ?_))))
          intro M11 eM11 hS11
          have g11_0 : M11 125 x5 = M 125 x5 := by rw [eM11]; exact nu_a (by omega)
          refine n_aload_n c_167_182 rfl (n_iload_n c_167_183 rfl (n_iload c_167_184 rfl (n_v2V c_167_186 rfl sc_112.n rfl rfl rfl rfl (mordered_3 (n := 1) (m := x4) hS11 hdm (by omega) (by omega)) ?_)))
          intro  M12 hP13
          have hS12 := hP13
          exact n_rV c_167_189 rfl hS12
      · intro h14
        refine n_aload_n c_167_125 rfl (n_getR c_167_126 sc_112.n rfl rfl rfl r_112_17 (n_iload c_167_129 rfl (n_ialoadV c_167_131 sc_125.n rfl rfl rfl (by omega) (t_125 hS (by omega)) ?_)))
        intro z15 ez15 f16
        refine n_if0_le c_167_132 (by omega) ?_ ?_
        · intro h17
          refine n_fg (le_s (le_s (le_s (le_s (le_s (le_s (le_s (le_n le_0)))))))) ?_
          exact ih.2.2.2.2.1 _ _ _ _ _ M hS (by omega) (by omega) (by omega) (by omega) (by omega) (by omega) (by omega)
        · intro h18
          refine n_iload c_167_135 rfl (n_iconst c_167_137 ?_)
          refine n_if2_eq c_167_138 (by omega) (by omega) ?_ ?_
          · intro h19
            refine n_fg (le_s (le_s (le_s (le_s (le_s (le_n (le_s (le_n le_0)))))))) ?_
            exact ih.2.2.2.1 _ _ _ _ M hS (by omega) (by omega) (by omega) (by omega) (by omega) (by omega)
          · intro h20
            refine n_aload_n c_167_141 rfl (n_getR c_167_142 sc_112.n rfl rfl rfl r_112_17 (n_iload c_167_145 rfl (n_ialoadV c_167_147 sc_125.n rfl rfl rfl (by omega) (t_125 hS (by omega)) ?_)))
            intro z21 ez21 f22
            refine n_aload_n c_167_148 rfl (n_getR c_167_149 sc_112.n rfl rfl rfl r_112_17 (n_iload c_167_152 rfl (n_ialoadV c_167_154 sc_125.n rfl rfl rfl (by omega) (t_125 hS (by omega)) ?_)))
            intro z23 ez23 f24
            refine n_if2_ge c_167_155 (by omega) (by omega) ?_ ?_
            · intro h25
              refine n_fg (le_s (le_s (le_s (le_s (le_s (le_s (le_s (le_n le_0)))))))) ?_
              exact ih.2.2.2.2.1 _ _ _ _ _ M hS (by omega) (by omega) (by omega) (by omega) (by omega) (by omega) (by omega)
            · intro h26
              refine n_fg (le_s (le_s (le_s (le_s (le_s (le_n (le_s (le_n le_0)))))))) ?_
              exact ih.2.2.2.1 _ _ _ _ M hS (by omega) (by omega) (by omega) (by omega) (by omega) (by omega)
    · intro x2 x3 x4 x6 M hS k2 k3 k4 k6 v0 hnn
      refine n_iload c_167_158 rfl (n_istore (L2 := [some (2, 112), some (0, 1), some (0, x2), some (0, x3), some (0, x4), some (0, x6), some (0, x6), none]) c_167_160 rfl rfl (n_fg (le_s (le_s (le_s (le_s (le_s (le_s (le_s (le_n le_0)))))))) ?_))
      exact ih.2.2.2.2.1 _ _ _ _ _ M hS (by omega) (by omega) (by omega) (by omega) (by omega) (by omega) (by omega)
    · intro x2 x3 x4 x5 x6 M hS k2 k3 k4 k5 k6 v0 hnn
      refine n_iinc (L2 := [some (2, 112), some (0, 1), some (0, x2), some (0, x3), some (0, x4), some (0, x5), some (0, (x6 + 1)), none]) c_167_162 rfl rfl rfl (n_goto c_167_165 (n_fg (le_s (le_s (le_s (le_s (le_s (le_s (le_s (le_n le_0)))))))) ?_))
      exact ih.2.2.1 _ _ _ _ _ M hS (by omega) (by omega) (by omega) (by omega) (by omega) (by omega) (by omega)
    · intro x2 x3 x4 x6 x7 M hS k2 k3 k4 k6 k7 hnn
      refine n_iload c_167_251 rfl (n_iload_n c_167_253 rfl ?_)
      refine n_if2_ge c_167_254 (by omega) (by omega) ?_ ?_
      · intro h1
        refine n_iload c_167_292 rfl (n_iconst c_167_294 (n_iadd c_167_295 rfl (n_iload_n c_167_296 rfl ?_)))
        refine n_if2_ge c_167_297 (by omega) (by omega) ?_ ?_
        · intro h2
          refine n_fg (le_s (le_s (le_s (le_s (le_s (le_n (le_n (le_n le_0)))))))) ?_
          exact ih.2.2.2.2.2.2.1 _ _ _ M hS (by omega) (by omega) (by omega) (by omega)
        · intro h3
          refine n_aload_n c_167_300 rfl (n_iload_n c_167_301 rfl (n_iload_n c_167_302 rfl (n_iload c_167_303 rfl ?_)))
          have hcst : (x2 : Int) = 3 := by omega
          rw [hcst]
          refine n_v3V c_167_305 rfl sc_112.n rfl rfl rfl rfl (mjoins3_3 (n := 1) (t := x4) hS hdm (by omega) (by omega)) ?_
          intro  M4 hP5
          have hS4 := hP5
          refine n_fg (le_s (le_s (le_s (le_s (le_s (le_n (le_n (le_n le_0)))))))) ?_
          exact ih.2.2.2.2.2.2.1 _ _ _ M4 hS4 (by omega) (by omega) (by omega) (by omega)
      · intro h6
        refine n_aload_n c_167_257 rfl (n_getR c_167_258 sc_112.n rfl rfl rfl r_112_18 (n_bipush c_167_261 rfl (n_iload c_167_263 rfl (n_imul c_167_265 rfl (n_iload c_167_266 rfl (n_iadd c_167_268 rfl (n_iload c_167_269 rfl (n_aload_n c_167_271 rfl (n_getV (bi := 0) c_167_272 sc_112.n rfl rfl rfl (t_dm hS hdm) ?_)))))))))
        intro z7 ez7 f8
        obtain rfl : z7 = 3 := by omega
        refine n_iremV c_167_275 (by omega) (by omega) ?_
        intro z9 _ f10
        refine n_iastoreV hS c_167_276 sc_126.n rfl (by omega) (w_126 (by omega) (by omega)) ?_
        intro M11 eM11 hS11
        refine n_iload c_167_277 rfl (n_aload_n c_167_279 rfl (n_getV (bi := 0) c_167_280 sc_112.n rfl rfl rfl (t_dm hS11 hdm) ?_))
        intro z12 ez12 f13
        obtain rfl : z12 = 3 := by omega
        refine n_idivV c_167_283 (by omega) (by omega) ?_
        intro z14 _ f15
        refine n_istore (L2 := [some (2, 112), some (0, 1), some (0, x2), some (0, x3), some (0, x4), none, some (0, z14), some (0, x7)]) c_167_284 rfl rfl (n_iinc (L2 := [some (2, 112), some (0, 1), some (0, x2), some (0, x3), some (0, x4), none, some (0, z14), some (0, (x7 + 1))]) c_167_286 rfl rfl rfl (n_goto c_167_289 (n_fg (le_s (le_s (le_s (le_s (le_s (le_n (le_s (le_s le_0)))))))) ?_)))
        exact ih.2.2.2.2.2.1 _ _ _ _ _ M11 hS11 (by omega) (by omega) (by omega) (by omega) (by omega) (by omega)
    · intro x2 x3 x4 M hS k2 k3 k4 hnn
      refine n_iinc (L2 := [some (2, 112), some (0, 1), some (0, x2), some (0, x3), some (0, (x4 + 1)), none, none, none]) c_167_308 rfl rfl rfl (n_iconst c_167_311 (n_istore (L2 := [some (2, 112), some (0, 1), some (0, x2), some (0, x3), some (0, (x4 + 1)), none, none, some (0, 0)]) c_167_312 rfl rfl (n_fg (le_s (le_s (le_s (le_s (le_s (le_n (le_n (le_s le_0)))))))) ?_)))
      exact ih.2.2.2.2.2.2.2 _ _ _ _ M hS (by omega) (by omega) (by omega) (by omega) (by omega)
    · intro x2 x3 x4 x7 M hS k2 k3 k4 k7 hnn
      refine n_iload c_167_314 rfl (n_iload c_167_316 rfl ?_)
      refine n_if2_ge c_167_318 (by omega) (by omega) ?_ ?_
      · intro h1
        refine n_goto c_167_346 (n_fg (le_s (le_s (le_s (le_s (le_s (le_n (le_n (le_n le_0)))))))) ?_)
        exact ih.2.1 _ _ _ M hS (by omega) (by omega) (by omega) (by omega)
      · intro h2
        refine n_aload_n c_167_321 rfl (n_getR c_167_322 sc_112.n rfl rfl rfl r_112_17 (n_aload_n c_167_325 rfl (n_getR c_167_326 sc_112.n rfl rfl rfl r_112_14 (n_sipush c_167_329 rfl (n_iload_n c_167_332 rfl (n_imul c_167_333 rfl (n_iload c_167_334 rfl (n_iadd c_167_336 rfl (n_ialoadV c_167_337 sc_122.n rfl rfl rfl (by omega) (t_122 hS (by omega)) ?_)))))))))
        intro z3 ez3 f4
        refine n_iconst c_167_338 (n_iastoreV hS c_167_339 sc_125.n rfl (by omega) (w_125 (by omega) (by omega)) ?_)
        intro M5 eM5 hS5
        refine n_iinc (L2 := [some (2, 112), some (0, 1), some (0, x2), some (0, x3), some (0, x4), none, none, some (0, (x7 + 1))]) c_167_340 rfl rfl rfl (n_goto c_167_343 (n_fg (le_s (le_s (le_s (le_s (le_s (le_n (le_n (le_s le_0)))))))) ?_))
        exact ih.2.2.2.2.2.2.2 _ _ _ _ M5 hS5 (by omega) (by omega) (by omega) (by omega) (by omega)
set_option maxHeartbeats 4000000 in
theorem mmakes1_3 {xs : List Int32} {e : Nat} {ac : Int} {M0 M : nM} (hS : Sf 3 ac M0 M) (hdm : M0 112 0 = 3) : nW xs (e + 2) 167 0 [some (2, 112), some (0, 1), none, none, none, none, none, none] [] M (nPV fun M1 => Sf 3 ac M0 M1) := by
  have hd : (3 : Int) = 2 ∨ (3 : Int) = 3 := by decide
  have hac := hS.2.2.2.2
  refine n_aload_n c_167_0 rfl (n_getR c_167_1 sc_112.n rfl rfl rfl r_112_16 (n_iload_n c_167_4 rfl (n_ialoadV c_167_5 sc_124.n rfl rfl rfl (by omega) (t_124 hS (by omega)) ?_)))
  intro z1 ez1 f2
  refine n_iconst c_167_6 ?_
  refine n_if2_eq c_167_7 (by omega) (by omega) ?_ ?_
  · intro h3
    refine n_aload_n c_167_11 rfl (n_iload_n c_167_12 rfl (n_v1I c_167_13 rfl sc_112.n rfl rfl rfl rfl (mrowsOf1_3  hS hdm) ?_))
    intro z4 M5 hP6
    obtain ⟨eM, f6⟩ := hP6
    subst eM
    obtain rfl : z4 = 3 := by omega
    refine n_istore_n (L2 := [some (2, 112), some (0, 1), some (0, 3), none, none, none, none, none]) c_167_16 rfl rfl (n_aload_n c_167_17 rfl (n_getV (bi := 0) c_167_18 sc_112.n rfl rfl rfl (t_dm hS hdm) ?_))
    intro z7 ez7 f8
    obtain rfl : z7 = 3 := by omega
    refine n_iload_n c_167_21 rfl (n_s2I c_167_22 rfl rfl rfl rfl (mpower3_3  hS ) ?_)
    intro z9 M10 hP11
    obtain ⟨eM, f11⟩ := hP11
    subst eM
    obtain rfl : z9 = 27 := by omega
    refine n_istore_n (L2 := [some (2, 112), some (0, 1), some (0, 3), some (0, 27), none, none, none, none]) c_167_25 rfl rfl (n_iconst c_167_26 (n_istore (L2 := [some (2, 112), some (0, 1), some (0, 3), some (0, 27), some (0, 0), none, none, none]) c_167_27 rfl rfl (n_fg (le_s (le_s (le_s (le_s (le_s (le_n (le_n (le_n le_0)))))))) ?_)))
    exact (mmakes1_3_c hS hdm 181700).1 _ _ _ M hS (by omega) (by omega) (by omega) (by omega)
  · intro h12
    exact n_rV c_167_10 rfl hS

set_option maxHeartbeats 4000000 in
theorem mmakes2_3_c {xs : List Int32} {e : Nat} {ac : Int} {M0 M : nM} (hS : Sf 3 ac M0 M) (hdm : M0 112 0 = 3) : ∀ nn : Nat, (∀ (x2 x3 x4 : Int) (M : nM), Sf 3 ac M0 M → (9 ≤ x2 ∧ x2 ≤ 9) → (19683 ≤ x3 ∧ x3 ≤ 19683) → (0 ≤ x4 ∧ x4 ≤ 19683) → (19683 - x4) * 1 + 15306109 < (nn : Int) → nW xs (e + 2) 167 29 [some (2, 112), some (0, 2), some (0, x2), some (0, x3), some (0, x4), none, none, none] [] M (nPV fun M1 => Sf 3 ac M0 M1)) ∧ (∀ (x2 x3 x4 : Int) (M : nM), Sf 3 ac M0 M → (9 ≤ x2 ∧ x2 ≤ 9) → (19683 ≤ x3 ∧ x3 ≤ 19683) → (0 ≤ x4 ∧ x4 ≤ 256) → (256 - x4) * 59326 + 59326 < (nn : Int) → nW xs (e + 2) 167 113 [some (2, 112), some (0, 2), some (0, x2), some (0, x3), some (0, x4), none, none, none] [] M (nPV fun M1 => Sf 3 ac M0 M1)) ∧ (∀ (x2 x3 x4 x5 x6 : Int) (M : nM), Sf 3 ac M0 M → (9 ≤ x2 ∧ x2 ≤ 9) → (19683 ≤ x3 ∧ x3 ≤ 19683) → (0 ≤ x4 ∧ x4 ≤ 256) → (-1 ≤ x5 ∧ x5 ≤ 19682) → (0 ≤ x6 ∧ x6 ≤ 19683) → (x5 = -1 ∨ 1 ≤ M 125 x5) → (256 - x4) * 59326 + (19683 - x6) * 3 + 273 < (nn : Int) → nW xs (e + 2) 167 119 [some (2, 112), some (0, 2), some (0, x2), some (0, x3), some (0, x4), some (0, x5), some (0, x6), none] [] M (nPV fun M1 => Sf 3 ac M0 M1)) ∧ (∀ (x2 x3 x4 x6 : Int) (M : nM), Sf 3 ac M0 M → (9 ≤ x2 ∧ x2 ≤ 9) → (19683 ≤ x3 ∧ x3 ≤ 19683) → (0 ≤ x4 ∧ x4 ≤ 256) → (0 ≤ x6 ∧ x6 ≤ 19682) → (1 ≤ M 125 x6) → (256 - x4) * 59326 + (19683 - x6) * 3 + 272 < (nn : Int) → nW xs (e + 2) 167 158 [some (2, 112), some (0, 2), some (0, x2), some (0, x3), some (0, x4), none, some (0, x6), none] [] M (nPV fun M1 => Sf 3 ac M0 M1)) ∧ (∀ (x2 x3 x4 x5 x6 : Int) (M : nM), Sf 3 ac M0 M → (9 ≤ x2 ∧ x2 ≤ 9) → (19683 ≤ x3 ∧ x3 ≤ 19683) → (0 ≤ x4 ∧ x4 ≤ 256) → (-1 ≤ x5 ∧ x5 ≤ 19682) → (0 ≤ x6 ∧ x6 ≤ 19682) → (x5 = -1 ∨ 1 ≤ M 125 x5) → (256 - x4) * 59326 + (19683 - x6) * 3 + 271 < (nn : Int) → nW xs (e + 2) 167 162 [some (2, 112), some (0, 2), some (0, x2), some (0, x3), some (0, x4), some (0, x5), some (0, x6), none] [] M (nPV fun M1 => Sf 3 ac M0 M1)) ∧ (∀ (x2 x3 x4 x6 x7 : Int) (M : nM), Sf 3 ac M0 M → (9 ≤ x2 ∧ x2 ≤ 9) → (19683 ≤ x3 ∧ x3 ≤ 19683) → (0 ≤ x4 ∧ x4 ≤ 255) → (0 ≤ x6 ∧ x6 ≤ 19682) → (0 ≤ x7 ∧ x7 ≤ 9) → (256 - x4) * 59326 + (9 - x7) * 1 + 260 < (nn : Int) → nW xs (e + 2) 167 251 [some (2, 112), some (0, 2), some (0, x2), some (0, x3), some (0, x4), none, some (0, x6), some (0, x7)] [] M (nPV fun M1 => Sf 3 ac M0 M1)) ∧ (∀ (x2 x3 x4 : Int) (M : nM), Sf 3 ac M0 M → (9 ≤ x2 ∧ x2 ≤ 9) → (19683 ≤ x3 ∧ x3 ≤ 19683) → (0 ≤ x4 ∧ x4 ≤ 255) → (256 - x4) * 59326 + 259 < (nn : Int) → nW xs (e + 2) 167 308 [some (2, 112), some (0, 2), some (0, x2), some (0, x3), some (0, x4), none, none, none] [] M (nPV fun M1 => Sf 3 ac M0 M1)) ∧ (∀ (x2 x3 x4 x7 : Int) (M : nM), Sf 3 ac M0 M → (9 ≤ x2 ∧ x2 ≤ 9) → (19683 ≤ x3 ∧ x3 ≤ 19683) → (1 ≤ x4 ∧ x4 ≤ 256) → (0 ≤ x7 ∧ x7 ≤ 256) → (256 - (x4 - 1)) * 59326 + (256 - x7) * 1 + 1 < (nn : Int) → nW xs (e + 2) 167 314 [some (2, 112), some (0, 2), some (0, x2), some (0, x3), some (0, x4), none, none, some (0, x7)] [] M (nPV fun M1 => Sf 3 ac M0 M1)) := by
  have hd : (3 : Int) = 2 ∨ (3 : Int) = 3 := by decide
  have hac := hS.2.2.2.2
  intro nn
  induction nn with
  | zero => refine ⟨?_, ?_, ?_, ?_, ?_, ?_, ?_, ?_⟩ <;> (intros; omega)
  | succ nn ih =>
    refine ⟨?_, ?_, ?_, ?_, ?_, ?_, ?_, ?_⟩
    · intro x2 x3 x4 M hS k2 k3 k4 hnn
      refine n_iload c_167_29 rfl (n_iload_n c_167_31 rfl ?_)
      refine n_if2_ge c_167_32 (by omega) (by omega) ?_ ?_
      · intro h1
        refine n_iconst c_167_49 (n_istore (L2 := [some (2, 112), some (0, 2), some (0, x2), some (0, x3), some (0, 0), none, none, none]) c_167_50 rfl rfl (n_iload c_167_52 rfl (n_iload_n c_167_54 rfl ?_)))
        refine n_if2_ge c_167_55 (by omega) (by omega) ?_ ?_
        · intro h2
          exfalso; omega
        · intro h3
          refine n_iconst c_167_58 (n_istore (L2 := [some (2, 112), some (0, 2), some (0, x2), some (0, x3), some (0, 0), some (0, 0), none, none]) c_167_59 rfl rfl (n_iload_n c_167_61 rfl (n_iconst c_167_62 (n_isub c_167_63 rfl (n_istore (L2 := [some (2, 112), some (0, 2), some (0, x2), some (0, x3), some (0, 0), some (0, 0), some (0, (x2 - 1)), none]) c_167_64 rfl rfl (n_iload c_167_66 rfl ?_))))))
          refine n_if0_lt c_167_68 (by omega) ?_ ?_
          · intro h4
            exfalso; omega
          · intro h5
            refine n_iload c_167_71 rfl (n_aload_n c_167_73 rfl (n_getV (bi := 0) c_167_74 sc_112.n rfl rfl rfl (t_dm hS hdm) ?_))
            intro z6 ez6 f7
            obtain rfl : z6 = 3 := by omega
            refine n_imul c_167_77 rfl (n_aload_n c_167_78 rfl (n_iload c_167_79 rfl (n_iload_n c_167_81 rfl (n_iload c_167_82 rfl (n_v3I c_167_84 rfl sc_112.n rfl rfl rfl rfl (mdigit_3 (r := (x2 - 1)) (k := 2) (j := 0) hS hdm (by omega) (by omega) (by omega) (by omega)) ?_)))))
            intro z8 M9 hP10
            obtain ⟨eM, f10⟩ := hP10
            subst eM
            refine n_iadd c_167_87 rfl (n_istore (L2 := [some (2, 112), some (0, 2), some (0, x2), some (0, x3), some (0, 0), some (0, ((0 * 3) + z8)), some (0, (x2 - 1)), none]) c_167_88 rfl rfl (n_iinc (L2 := [some (2, 112), some (0, 2), some (0, x2), some (0, x3), some (0, 0), some (0, ((0 * 3) + z8)), some (0, ((x2 - 1) + (-1))), none]) c_167_90 rfl rfl rfl (n_goto c_167_93 (n_iload c_167_66 rfl ?_))))
            refine n_if0_lt c_167_68 (by omega) ?_ ?_
            · intro h11
              exfalso; omega
            · intro h12
              refine n_iload c_167_71 rfl (n_aload_n c_167_73 rfl (n_getV (bi := 0) c_167_74 sc_112.n rfl rfl rfl (t_dm hS hdm) ?_))
              intro z13 ez13 f14
              obtain rfl : z13 = 3 := by omega
              refine n_imul c_167_77 rfl (n_aload_n c_167_78 rfl (n_iload c_167_79 rfl (n_iload_n c_167_81 rfl (n_iload c_167_82 rfl (n_v3I c_167_84 rfl sc_112.n rfl rfl rfl rfl (mdigit_3 (r := ((x2 - 1) + (-1))) (k := 2) (j := 0) hS hdm (by omega) (by omega) (by omega) (by omega)) ?_)))))
              intro z15 M16 hP17
              obtain ⟨eM, f17⟩ := hP17
              subst eM
              refine n_iadd c_167_87 rfl (n_istore (L2 := [some (2, 112), some (0, 2), some (0, x2), some (0, x3), some (0, 0), some (0, ((((0 * 3) + z8) * 3) + z15)), some (0, ((x2 - 1) + (-1))), none]) c_167_88 rfl rfl (n_iinc (L2 := [some (2, 112), some (0, 2), some (0, x2), some (0, x3), some (0, 0), some (0, ((((0 * 3) + z8) * 3) + z15)), some (0, (((x2 - 1) + (-1)) + (-1))), none]) c_167_90 rfl rfl rfl (n_goto c_167_93 (n_iload c_167_66 rfl ?_))))
              refine n_if0_lt c_167_68 (by omega) ?_ ?_
              · intro h18
                exfalso; omega
              · intro h19
                refine n_iload c_167_71 rfl (n_aload_n c_167_73 rfl (n_getV (bi := 0) c_167_74 sc_112.n rfl rfl rfl (t_dm hS hdm) ?_))
                intro z20 ez20 f21
                obtain rfl : z20 = 3 := by omega
                refine n_imul c_167_77 rfl (n_aload_n c_167_78 rfl (n_iload c_167_79 rfl (n_iload_n c_167_81 rfl (n_iload c_167_82 rfl (n_v3I c_167_84 rfl sc_112.n rfl rfl rfl rfl (mdigit_3 (r := (((x2 - 1) + (-1)) + (-1))) (k := 2) (j := 0) hS hdm (by omega) (by omega) (by omega) (by omega)) ?_)))))
                intro z22 M23 hP24
                obtain ⟨eM, f24⟩ := hP24
                subst eM
                refine n_iadd c_167_87 rfl (n_istore (L2 := [some (2, 112), some (0, 2), some (0, x2), some (0, x3), some (0, 0), some (0, ((((((0 * 3) + z8) * 3) + z15) * 3) + z22)), some (0, (((x2 - 1) + (-1)) + (-1))), none]) c_167_88 rfl rfl (n_iinc (L2 := [some (2, 112), some (0, 2), some (0, x2), some (0, x3), some (0, 0), some (0, ((((((0 * 3) + z8) * 3) + z15) * 3) + z22)), some (0, ((((x2 - 1) + (-1)) + (-1)) + (-1))), none]) c_167_90 rfl rfl rfl (n_goto c_167_93 (n_iload c_167_66 rfl ?_))))
                refine n_if0_lt c_167_68 (by omega) ?_ ?_
                · intro h25
                  exfalso; omega
                · intro h26
                  refine n_iload c_167_71 rfl (n_aload_n c_167_73 rfl (n_getV (bi := 0) c_167_74 sc_112.n rfl rfl rfl (t_dm hS hdm) ?_))
                  intro z27 ez27 f28
                  obtain rfl : z27 = 3 := by omega
                  refine n_imul c_167_77 rfl (n_aload_n c_167_78 rfl (n_iload c_167_79 rfl (n_iload_n c_167_81 rfl (n_iload c_167_82 rfl (n_v3I c_167_84 rfl sc_112.n rfl rfl rfl rfl (mdigit_3 (r := ((((x2 - 1) + (-1)) + (-1)) + (-1))) (k := 2) (j := 0) hS hdm (by omega) (by omega) (by omega) (by omega)) ?_)))))
                  intro z29 M30 hP31
                  obtain ⟨eM, f31⟩ := hP31
                  subst eM
                  refine n_iadd c_167_87 rfl (n_istore (L2 := [some (2, 112), some (0, 2), some (0, x2), some (0, x3), some (0, 0), some (0, ((((((((0 * 3) + z8) * 3) + z15) * 3) + z22) * 3) + z29)), some (0, ((((x2 - 1) + (-1)) + (-1)) + (-1))), none]) c_167_88 rfl rfl (n_iinc (L2 := [some (2, 112), some (0, 2), some (0, x2), some (0, x3), some (0, 0), some (0, ((((((((0 * 3) + z8) * 3) + z15) * 3) + z22) * 3) + z29)), some (0, (((((x2 - 1) + (-1)) + (-1)) + (-1)) + (-1))), none]) c_167_90 rfl rfl rfl (n_goto c_167_93 (n_iload c_167_66 rfl ?_))))
                  refine n_if0_lt c_167_68 (by omega) ?_ ?_
                  · intro h32
                    exfalso; omega
                  · intro h33
                    refine n_iload c_167_71 rfl (n_aload_n c_167_73 rfl (n_getV (bi := 0) c_167_74 sc_112.n rfl rfl rfl (t_dm hS hdm) ?_))
                    intro z34 ez34 f35
                    obtain rfl : z34 = 3 := by omega
                    refine n_imul c_167_77 rfl (n_aload_n c_167_78 rfl (n_iload c_167_79 rfl (n_iload_n c_167_81 rfl (n_iload c_167_82 rfl (n_v3I c_167_84 rfl sc_112.n rfl rfl rfl rfl (mdigit_3 (r := (((((x2 - 1) + (-1)) + (-1)) + (-1)) + (-1))) (k := 2) (j := 0) hS hdm (by omega) (by omega) (by omega) (by omega)) ?_)))))
                    intro z36 M37 hP38
                    obtain ⟨eM, f38⟩ := hP38
                    subst eM
                    refine n_iadd c_167_87 rfl (n_istore (L2 := [some (2, 112), some (0, 2), some (0, x2), some (0, x3), some (0, 0), some (0, ((((((((((0 * 3) + z8) * 3) + z15) * 3) + z22) * 3) + z29) * 3) + z36)), some (0, (((((x2 - 1) + (-1)) + (-1)) + (-1)) + (-1))), none]) c_167_88 rfl rfl (n_iinc (L2 := [some (2, 112), some (0, 2), some (0, x2), some (0, x3), some (0, 0), some (0, ((((((((((0 * 3) + z8) * 3) + z15) * 3) + z22) * 3) + z29) * 3) + z36)), some (0, ((((((x2 - 1) + (-1)) + (-1)) + (-1)) + (-1)) + (-1))), none]) c_167_90 rfl rfl rfl (n_goto c_167_93 (n_iload c_167_66 rfl ?_))))
                    refine n_if0_lt c_167_68 (by omega) ?_ ?_
                    · intro h39
                      exfalso; omega
                    · intro h40
                      refine n_iload c_167_71 rfl (n_aload_n c_167_73 rfl (n_getV (bi := 0) c_167_74 sc_112.n rfl rfl rfl (t_dm hS hdm) ?_))
                      intro z41 ez41 f42
                      obtain rfl : z41 = 3 := by omega
                      refine n_imul c_167_77 rfl (n_aload_n c_167_78 rfl (n_iload c_167_79 rfl (n_iload_n c_167_81 rfl (n_iload c_167_82 rfl (n_v3I c_167_84 rfl sc_112.n rfl rfl rfl rfl (mdigit_3 (r := ((((((x2 - 1) + (-1)) + (-1)) + (-1)) + (-1)) + (-1))) (k := 2) (j := 0) hS hdm (by omega) (by omega) (by omega) (by omega)) ?_)))))
                      intro z43 M44 hP45
                      obtain ⟨eM, f45⟩ := hP45
                      subst eM
                      refine n_iadd c_167_87 rfl (n_istore (L2 := [some (2, 112), some (0, 2), some (0, x2), some (0, x3), some (0, 0), some (0, ((((((((((((0 * 3) + z8) * 3) + z15) * 3) + z22) * 3) + z29) * 3) + z36) * 3) + z43)), some (0, ((((((x2 - 1) + (-1)) + (-1)) + (-1)) + (-1)) + (-1))), none]) c_167_88 rfl rfl (n_iinc (L2 := [some (2, 112), some (0, 2), some (0, x2), some (0, x3), some (0, 0), some (0, ((((((((((((0 * 3) + z8) * 3) + z15) * 3) + z22) * 3) + z29) * 3) + z36) * 3) + z43)), some (0, (((((((x2 - 1) + (-1)) + (-1)) + (-1)) + (-1)) + (-1)) + (-1))), none]) c_167_90 rfl rfl rfl (n_goto c_167_93 (n_iload c_167_66 rfl ?_))))
                      refine n_if0_lt c_167_68 (by omega) ?_ ?_
                      · intro h46
                        exfalso; omega
                      · intro h47
                        refine n_iload c_167_71 rfl (n_aload_n c_167_73 rfl (n_getV (bi := 0) c_167_74 sc_112.n rfl rfl rfl (t_dm hS hdm) ?_))
                        intro z48 ez48 f49
                        obtain rfl : z48 = 3 := by omega
                        refine n_imul c_167_77 rfl (n_aload_n c_167_78 rfl (n_iload c_167_79 rfl (n_iload_n c_167_81 rfl (n_iload c_167_82 rfl (n_v3I c_167_84 rfl sc_112.n rfl rfl rfl rfl (mdigit_3 (r := (((((((x2 - 1) + (-1)) + (-1)) + (-1)) + (-1)) + (-1)) + (-1))) (k := 2) (j := 0) hS hdm (by omega) (by omega) (by omega) (by omega)) ?_)))))
                        intro z50 M51 hP52
                        obtain ⟨eM, f52⟩ := hP52
                        subst eM
                        refine n_iadd c_167_87 rfl (n_istore (L2 := [some (2, 112), some (0, 2), some (0, x2), some (0, x3), some (0, 0), some (0, ((((((((((((((0 * 3) + z8) * 3) + z15) * 3) + z22) * 3) + z29) * 3) + z36) * 3) + z43) * 3) + z50)), some (0, (((((((x2 - 1) + (-1)) + (-1)) + (-1)) + (-1)) + (-1)) + (-1))), none]) c_167_88 rfl rfl (n_iinc (L2 := [some (2, 112), some (0, 2), some (0, x2), some (0, x3), some (0, 0), some (0, ((((((((((((((0 * 3) + z8) * 3) + z15) * 3) + z22) * 3) + z29) * 3) + z36) * 3) + z43) * 3) + z50)), some (0, ((((((((x2 - 1) + (-1)) + (-1)) + (-1)) + (-1)) + (-1)) + (-1)) + (-1))), none]) c_167_90 rfl rfl rfl (n_goto c_167_93 (n_iload c_167_66 rfl ?_))))
                        refine n_if0_lt c_167_68 (by omega) ?_ ?_
                        · intro h53
                          exfalso; omega
                        · intro h54
                          refine n_iload c_167_71 rfl (n_aload_n c_167_73 rfl (n_getV (bi := 0) c_167_74 sc_112.n rfl rfl rfl (t_dm hS hdm) ?_))
                          intro z55 ez55 f56
                          obtain rfl : z55 = 3 := by omega
                          refine n_imul c_167_77 rfl (n_aload_n c_167_78 rfl (n_iload c_167_79 rfl (n_iload_n c_167_81 rfl (n_iload c_167_82 rfl (n_v3I c_167_84 rfl sc_112.n rfl rfl rfl rfl (mdigit_3 (r := ((((((((x2 - 1) + (-1)) + (-1)) + (-1)) + (-1)) + (-1)) + (-1)) + (-1))) (k := 2) (j := 0) hS hdm (by omega) (by omega) (by omega) (by omega)) ?_)))))
                          intro z57 M58 hP59
                          obtain ⟨eM, f59⟩ := hP59
                          subst eM
                          refine n_iadd c_167_87 rfl (n_istore (L2 := [some (2, 112), some (0, 2), some (0, x2), some (0, x3), some (0, 0), some (0, ((((((((((((((((0 * 3) + z8) * 3) + z15) * 3) + z22) * 3) + z29) * 3) + z36) * 3) + z43) * 3) + z50) * 3) + z57)), some (0, ((((((((x2 - 1) + (-1)) + (-1)) + (-1)) + (-1)) + (-1)) + (-1)) + (-1))), none]) c_167_88 rfl rfl (n_iinc (L2 := [some (2, 112), some (0, 2), some (0, x2), some (0, x3), some (0, 0), some (0, ((((((((((((((((0 * 3) + z8) * 3) + z15) * 3) + z22) * 3) + z29) * 3) + z36) * 3) + z43) * 3) + z50) * 3) + z57)), some (0, (((((((((x2 - 1) + (-1)) + (-1)) + (-1)) + (-1)) + (-1)) + (-1)) + (-1)) + (-1))), none]) c_167_90 rfl rfl rfl (n_goto c_167_93 (n_iload c_167_66 rfl ?_))))
                          refine n_if0_lt c_167_68 (by omega) ?_ ?_
                          · intro h60
                            exfalso; omega
                          · intro h61
                            refine n_iload c_167_71 rfl (n_aload_n c_167_73 rfl (n_getV (bi := 0) c_167_74 sc_112.n rfl rfl rfl (t_dm hS hdm) ?_))
                            intro z62 ez62 f63
                            obtain rfl : z62 = 3 := by omega
                            refine n_imul c_167_77 rfl (n_aload_n c_167_78 rfl (n_iload c_167_79 rfl (n_iload_n c_167_81 rfl (n_iload c_167_82 rfl (n_v3I c_167_84 rfl sc_112.n rfl rfl rfl rfl (mdigit_3 (r := (((((((((x2 - 1) + (-1)) + (-1)) + (-1)) + (-1)) + (-1)) + (-1)) + (-1)) + (-1))) (k := 2) (j := 0) hS hdm (by omega) (by omega) (by omega) (by omega)) ?_)))))
                            intro z64 M65 hP66
                            obtain ⟨eM, f66⟩ := hP66
                            subst eM
                            refine n_iadd c_167_87 rfl (n_istore (L2 := [some (2, 112), some (0, 2), some (0, x2), some (0, x3), some (0, 0), some (0, ((((((((((((((((((0 * 3) + z8) * 3) + z15) * 3) + z22) * 3) + z29) * 3) + z36) * 3) + z43) * 3) + z50) * 3) + z57) * 3) + z64)), some (0, (((((((((x2 - 1) + (-1)) + (-1)) + (-1)) + (-1)) + (-1)) + (-1)) + (-1)) + (-1))), none]) c_167_88 rfl rfl (n_iinc (L2 := [some (2, 112), some (0, 2), some (0, x2), some (0, x3), some (0, 0), some (0, ((((((((((((((((((0 * 3) + z8) * 3) + z15) * 3) + z22) * 3) + z29) * 3) + z36) * 3) + z43) * 3) + z50) * 3) + z57) * 3) + z64)), some (0, ((((((((((x2 - 1) + (-1)) + (-1)) + (-1)) + (-1)) + (-1)) + (-1)) + (-1)) + (-1)) + (-1))), none]) c_167_90 rfl rfl rfl (n_goto c_167_93 (n_iload c_167_66 rfl ?_))))
                            refine n_if0_lt c_167_68 (by omega) ?_ ?_
                            · intro h67
                              refine n_aload_n c_167_96 rfl (n_getR c_167_97 sc_112.n rfl rfl rfl r_112_17 (n_iload c_167_100 rfl (n_iconst c_167_102 (n_iastoreV hS c_167_103 sc_125.n rfl (by omega) (w_125 (by omega) (by omega)) ?_))))
                              intro M68 eM68 hS68
                              refine n_iinc (L2 := [some (2, 112), some (0, 2), some (0, x2), some (0, x3), some (0, (0 + 1)), some (0, ((((((((((((((((((0 * 3) + z8) * 3) + z15) * 3) + z22) * 3) + z29) * 3) + z36) * 3) + z43) * 3) + z50) * 3) + z57) * 3) + z64)), some (0, ((((((((((x2 - 1) + (-1)) + (-1)) + (-1)) + (-1)) + (-1)) + (-1)) + (-1)) + (-1)) + (-1))), none]) c_167_104 rfl rfl rfl (n_goto c_167_107 (n_iload c_167_52 rfl (n_iload_n c_167_54 rfl ?_)))
                              refine n_if2_ge c_167_55 (by omega) (by omega) ?_ ?_
                              · intro h69
                                exfalso; omega
                              · intro h70
                                refine n_iconst c_167_58 (n_istore (L2 := [some (2, 112), some (0, 2), some (0, x2), some (0, x3), some (0, (0 + 1)), some (0, 0), some (0, ((((((((((x2 - 1) + (-1)) + (-1)) + (-1)) + (-1)) + (-1)) + (-1)) + (-1)) + (-1)) + (-1))), none]) c_167_59 rfl rfl (n_iload_n c_167_61 rfl (n_iconst c_167_62 (n_isub c_167_63 rfl (n_istore (L2 := [some (2, 112), some (0, 2), some (0, x2), some (0, x3), some (0, (0 + 1)), some (0, 0), some (0, (x2 - 1)), none]) c_167_64 rfl rfl (n_iload c_167_66 rfl ?_))))))
                                refine n_if0_lt c_167_68 (by omega) ?_ ?_
                                · intro h71
                                  exfalso; omega
                                · intro h72
                                  refine n_iload c_167_71 rfl (n_aload_n c_167_73 rfl (n_getV (bi := 0) c_167_74 sc_112.n rfl rfl rfl (t_dm hS68 hdm) ?_))
                                  intro z73 ez73 f74
                                  obtain rfl : z73 = 3 := by omega
                                  refine n_imul c_167_77 rfl (n_aload_n c_167_78 rfl (n_iload c_167_79 rfl (n_iload_n c_167_81 rfl (n_iload c_167_82 rfl (n_v3I c_167_84 rfl sc_112.n rfl rfl rfl rfl (mdigit_3 (r := (x2 - 1)) (k := 2) (j := (0 + 1)) hS68 hdm (by omega) (by omega) (by omega) (by omega)) ?_)))))
                                  intro z75 M76 hP77
                                  obtain ⟨eM, f77⟩ := hP77
                                  subst eM
                                  refine n_iadd c_167_87 rfl (n_istore (L2 := [some (2, 112), some (0, 2), some (0, x2), some (0, x3), some (0, (0 + 1)), some (0, ((0 * 3) + z75)), some (0, (x2 - 1)), none]) c_167_88 rfl rfl (n_iinc (L2 := [some (2, 112), some (0, 2), some (0, x2), some (0, x3), some (0, (0 + 1)), some (0, ((0 * 3) + z75)), some (0, ((x2 - 1) + (-1))), none]) c_167_90 rfl rfl rfl (n_goto c_167_93 (n_iload c_167_66 rfl ?_))))
                                  refine n_if0_lt c_167_68 (by omega) ?_ ?_
                                  · intro h78
                                    exfalso; omega
                                  · intro h79
                                    refine n_iload c_167_71 rfl (n_aload_n c_167_73 rfl (n_getV (bi := 0) c_167_74 sc_112.n rfl rfl rfl (t_dm hS68 hdm) ?_))
                                    intro z80 ez80 f81
                                    obtain rfl : z80 = 3 := by omega
                                    refine n_imul c_167_77 rfl (n_aload_n c_167_78 rfl (n_iload c_167_79 rfl (n_iload_n c_167_81 rfl (n_iload c_167_82 rfl (n_v3I c_167_84 rfl sc_112.n rfl rfl rfl rfl (mdigit_3 (r := ((x2 - 1) + (-1))) (k := 2) (j := (0 + 1)) hS68 hdm (by omega) (by omega) (by omega) (by omega)) ?_)))))
                                    intro z82 M83 hP84
                                    obtain ⟨eM, f84⟩ := hP84
                                    subst eM
                                    refine n_iadd c_167_87 rfl (n_istore (L2 := [some (2, 112), some (0, 2), some (0, x2), some (0, x3), some (0, (0 + 1)), some (0, ((((0 * 3) + z75) * 3) + z82)), some (0, ((x2 - 1) + (-1))), none]) c_167_88 rfl rfl (n_iinc (L2 := [some (2, 112), some (0, 2), some (0, x2), some (0, x3), some (0, (0 + 1)), some (0, ((((0 * 3) + z75) * 3) + z82)), some (0, (((x2 - 1) + (-1)) + (-1))), none]) c_167_90 rfl rfl rfl (n_goto c_167_93 (n_iload c_167_66 rfl ?_))))
                                    refine n_if0_lt c_167_68 (by omega) ?_ ?_
                                    · intro h85
                                      exfalso; omega
                                    · intro h86
                                      refine n_iload c_167_71 rfl (n_aload_n c_167_73 rfl (n_getV (bi := 0) c_167_74 sc_112.n rfl rfl rfl (t_dm hS68 hdm) ?_))
                                      intro z87 ez87 f88
                                      obtain rfl : z87 = 3 := by omega
                                      refine n_imul c_167_77 rfl (n_aload_n c_167_78 rfl (n_iload c_167_79 rfl (n_iload_n c_167_81 rfl (n_iload c_167_82 rfl (n_v3I c_167_84 rfl sc_112.n rfl rfl rfl rfl (mdigit_3 (r := (((x2 - 1) + (-1)) + (-1))) (k := 2) (j := (0 + 1)) hS68 hdm (by omega) (by omega) (by omega) (by omega)) ?_)))))
                                      intro z89 M90 hP91
                                      obtain ⟨eM, f91⟩ := hP91
                                      subst eM
                                      refine n_iadd c_167_87 rfl (n_istore (L2 := [some (2, 112), some (0, 2), some (0, x2), some (0, x3), some (0, (0 + 1)), some (0, ((((((0 * 3) + z75) * 3) + z82) * 3) + z89)), some (0, (((x2 - 1) + (-1)) + (-1))), none]) c_167_88 rfl rfl (n_iinc (L2 := [some (2, 112), some (0, 2), some (0, x2), some (0, x3), some (0, (0 + 1)), some (0, ((((((0 * 3) + z75) * 3) + z82) * 3) + z89)), some (0, ((((x2 - 1) + (-1)) + (-1)) + (-1))), none]) c_167_90 rfl rfl rfl (n_goto c_167_93 (n_iload c_167_66 rfl ?_))))
                                      refine n_if0_lt c_167_68 (by omega) ?_ ?_
                                      · intro h92
                                        exfalso; omega
                                      · intro h93
                                        refine n_iload c_167_71 rfl (n_aload_n c_167_73 rfl (n_getV (bi := 0) c_167_74 sc_112.n rfl rfl rfl (t_dm hS68 hdm) ?_))
                                        intro z94 ez94 f95
                                        obtain rfl : z94 = 3 := by omega
                                        refine n_imul c_167_77 rfl (n_aload_n c_167_78 rfl (n_iload c_167_79 rfl (n_iload_n c_167_81 rfl (n_iload c_167_82 rfl (n_v3I c_167_84 rfl sc_112.n rfl rfl rfl rfl (mdigit_3 (r := ((((x2 - 1) + (-1)) + (-1)) + (-1))) (k := 2) (j := (0 + 1)) hS68 hdm (by omega) (by omega) (by omega) (by omega)) ?_)))))
                                        intro z96 M97 hP98
                                        obtain ⟨eM, f98⟩ := hP98
                                        subst eM
                                        refine n_iadd c_167_87 rfl (n_istore (L2 := [some (2, 112), some (0, 2), some (0, x2), some (0, x3), some (0, (0 + 1)), some (0, ((((((((0 * 3) + z75) * 3) + z82) * 3) + z89) * 3) + z96)), some (0, ((((x2 - 1) + (-1)) + (-1)) + (-1))), none]) c_167_88 rfl rfl (n_iinc (L2 := [some (2, 112), some (0, 2), some (0, x2), some (0, x3), some (0, (0 + 1)), some (0, ((((((((0 * 3) + z75) * 3) + z82) * 3) + z89) * 3) + z96)), some (0, (((((x2 - 1) + (-1)) + (-1)) + (-1)) + (-1))), none]) c_167_90 rfl rfl rfl (n_goto c_167_93 (n_iload c_167_66 rfl ?_))))
                                        refine n_if0_lt c_167_68 (by omega) ?_ ?_
                                        · intro h99
                                          exfalso; omega
                                        · intro h100
                                          refine n_iload c_167_71 rfl (n_aload_n c_167_73 rfl (n_getV (bi := 0) c_167_74 sc_112.n rfl rfl rfl (t_dm hS68 hdm) ?_))
                                          intro z101 ez101 f102
                                          obtain rfl : z101 = 3 := by omega
                                          refine n_imul c_167_77 rfl (n_aload_n c_167_78 rfl (n_iload c_167_79 rfl (n_iload_n c_167_81 rfl (n_iload c_167_82 rfl (n_v3I c_167_84 rfl sc_112.n rfl rfl rfl rfl (mdigit_3 (r := (((((x2 - 1) + (-1)) + (-1)) + (-1)) + (-1))) (k := 2) (j := (0 + 1)) hS68 hdm (by omega) (by omega) (by omega) (by omega)) ?_)))))
                                          intro z103 M104 hP105
                                          obtain ⟨eM, f105⟩ := hP105
                                          subst eM
                                          refine n_iadd c_167_87 rfl (n_istore (L2 := [some (2, 112), some (0, 2), some (0, x2), some (0, x3), some (0, (0 + 1)), some (0, ((((((((((0 * 3) + z75) * 3) + z82) * 3) + z89) * 3) + z96) * 3) + z103)), some (0, (((((x2 - 1) + (-1)) + (-1)) + (-1)) + (-1))), none]) c_167_88 rfl rfl (n_iinc (L2 := [some (2, 112), some (0, 2), some (0, x2), some (0, x3), some (0, (0 + 1)), some (0, ((((((((((0 * 3) + z75) * 3) + z82) * 3) + z89) * 3) + z96) * 3) + z103)), some (0, ((((((x2 - 1) + (-1)) + (-1)) + (-1)) + (-1)) + (-1))), none]) c_167_90 rfl rfl rfl (n_goto c_167_93 (n_iload c_167_66 rfl ?_))))
                                          refine n_if0_lt c_167_68 (by omega) ?_ ?_
                                          · intro h106
                                            exfalso; omega
                                          · intro h107
                                            refine n_iload c_167_71 rfl (n_aload_n c_167_73 rfl (n_getV (bi := 0) c_167_74 sc_112.n rfl rfl rfl (t_dm hS68 hdm) ?_))
                                            intro z108 ez108 f109
                                            obtain rfl : z108 = 3 := by omega
                                            refine n_imul c_167_77 rfl (n_aload_n c_167_78 rfl (n_iload c_167_79 rfl (n_iload_n c_167_81 rfl (n_iload c_167_82 rfl (n_v3I c_167_84 rfl sc_112.n rfl rfl rfl rfl (mdigit_3 (r := ((((((x2 - 1) + (-1)) + (-1)) + (-1)) + (-1)) + (-1))) (k := 2) (j := (0 + 1)) hS68 hdm (by omega) (by omega) (by omega) (by omega)) ?_)))))
                                            intro z110 M111 hP112
                                            obtain ⟨eM, f112⟩ := hP112
                                            subst eM
                                            refine n_iadd c_167_87 rfl (n_istore (L2 := [some (2, 112), some (0, 2), some (0, x2), some (0, x3), some (0, (0 + 1)), some (0, ((((((((((((0 * 3) + z75) * 3) + z82) * 3) + z89) * 3) + z96) * 3) + z103) * 3) + z110)), some (0, ((((((x2 - 1) + (-1)) + (-1)) + (-1)) + (-1)) + (-1))), none]) c_167_88 rfl rfl (n_iinc (L2 := [some (2, 112), some (0, 2), some (0, x2), some (0, x3), some (0, (0 + 1)), some (0, ((((((((((((0 * 3) + z75) * 3) + z82) * 3) + z89) * 3) + z96) * 3) + z103) * 3) + z110)), some (0, (((((((x2 - 1) + (-1)) + (-1)) + (-1)) + (-1)) + (-1)) + (-1))), none]) c_167_90 rfl rfl rfl (n_goto c_167_93 (n_iload c_167_66 rfl ?_))))
                                            refine n_if0_lt c_167_68 (by omega) ?_ ?_
                                            · intro h113
                                              exfalso; omega
                                            · intro h114
                                              refine n_iload c_167_71 rfl (n_aload_n c_167_73 rfl (n_getV (bi := 0) c_167_74 sc_112.n rfl rfl rfl (t_dm hS68 hdm) ?_))
                                              intro z115 ez115 f116
                                              obtain rfl : z115 = 3 := by omega
                                              refine n_imul c_167_77 rfl (n_aload_n c_167_78 rfl (n_iload c_167_79 rfl (n_iload_n c_167_81 rfl (n_iload c_167_82 rfl (n_v3I c_167_84 rfl sc_112.n rfl rfl rfl rfl (mdigit_3 (r := (((((((x2 - 1) + (-1)) + (-1)) + (-1)) + (-1)) + (-1)) + (-1))) (k := 2) (j := (0 + 1)) hS68 hdm (by omega) (by omega) (by omega) (by omega)) ?_)))))
                                              intro z117 M118 hP119
                                              obtain ⟨eM, f119⟩ := hP119
                                              subst eM
                                              refine n_iadd c_167_87 rfl (n_istore (L2 := [some (2, 112), some (0, 2), some (0, x2), some (0, x3), some (0, (0 + 1)), some (0, ((((((((((((((0 * 3) + z75) * 3) + z82) * 3) + z89) * 3) + z96) * 3) + z103) * 3) + z110) * 3) + z117)), some (0, (((((((x2 - 1) + (-1)) + (-1)) + (-1)) + (-1)) + (-1)) + (-1))), none]) c_167_88 rfl rfl (n_iinc (L2 := [some (2, 112), some (0, 2), some (0, x2), some (0, x3), some (0, (0 + 1)), some (0, ((((((((((((((0 * 3) + z75) * 3) + z82) * 3) + z89) * 3) + z96) * 3) + z103) * 3) + z110) * 3) + z117)), some (0, ((((((((x2 - 1) + (-1)) + (-1)) + (-1)) + (-1)) + (-1)) + (-1)) + (-1))), none]) c_167_90 rfl rfl rfl (n_goto c_167_93 (n_iload c_167_66 rfl ?_))))
                                              refine n_if0_lt c_167_68 (by omega) ?_ ?_
                                              · intro h120
                                                exfalso; omega
                                              · intro h121
                                                refine n_iload c_167_71 rfl (n_aload_n c_167_73 rfl (n_getV (bi := 0) c_167_74 sc_112.n rfl rfl rfl (t_dm hS68 hdm) ?_))
                                                intro z122 ez122 f123
                                                obtain rfl : z122 = 3 := by omega
                                                refine n_imul c_167_77 rfl (n_aload_n c_167_78 rfl (n_iload c_167_79 rfl (n_iload_n c_167_81 rfl (n_iload c_167_82 rfl (n_v3I c_167_84 rfl sc_112.n rfl rfl rfl rfl (mdigit_3 (r := ((((((((x2 - 1) + (-1)) + (-1)) + (-1)) + (-1)) + (-1)) + (-1)) + (-1))) (k := 2) (j := (0 + 1)) hS68 hdm (by omega) (by omega) (by omega) (by omega)) ?_)))))
                                                intro z124 M125 hP126
                                                obtain ⟨eM, f126⟩ := hP126
                                                subst eM
                                                refine n_iadd c_167_87 rfl (n_istore (L2 := [some (2, 112), some (0, 2), some (0, x2), some (0, x3), some (0, (0 + 1)), some (0, ((((((((((((((((0 * 3) + z75) * 3) + z82) * 3) + z89) * 3) + z96) * 3) + z103) * 3) + z110) * 3) + z117) * 3) + z124)), some (0, ((((((((x2 - 1) + (-1)) + (-1)) + (-1)) + (-1)) + (-1)) + (-1)) + (-1))), none]) c_167_88 rfl rfl (n_iinc (L2 := [some (2, 112), some (0, 2), some (0, x2), some (0, x3), some (0, (0 + 1)), some (0, ((((((((((((((((0 * 3) + z75) * 3) + z82) * 3) + z89) * 3) + z96) * 3) + z103) * 3) + z110) * 3) + z117) * 3) + z124)), some (0, (((((((((x2 - 1) + (-1)) + (-1)) + (-1)) + (-1)) + (-1)) + (-1)) + (-1)) + (-1))), none]) c_167_90 rfl rfl rfl (n_goto c_167_93 (n_iload c_167_66 rfl ?_))))
                                                refine n_if0_lt c_167_68 (by omega) ?_ ?_
                                                · intro h127
                                                  exfalso; omega
                                                · intro h128
                                                  refine n_iload c_167_71 rfl (n_aload_n c_167_73 rfl (n_getV (bi := 0) c_167_74 sc_112.n rfl rfl rfl (t_dm hS68 hdm) ?_))
                                                  intro z129 ez129 f130
                                                  obtain rfl : z129 = 3 := by omega
                                                  refine n_imul c_167_77 rfl (n_aload_n c_167_78 rfl (n_iload c_167_79 rfl (n_iload_n c_167_81 rfl (n_iload c_167_82 rfl (n_v3I c_167_84 rfl sc_112.n rfl rfl rfl rfl (mdigit_3 (r := (((((((((x2 - 1) + (-1)) + (-1)) + (-1)) + (-1)) + (-1)) + (-1)) + (-1)) + (-1))) (k := 2) (j := (0 + 1)) hS68 hdm (by omega) (by omega) (by omega) (by omega)) ?_)))))
                                                  intro z131 M132 hP133
                                                  obtain ⟨eM, f133⟩ := hP133
                                                  subst eM
                                                  refine n_iadd c_167_87 rfl (n_istore (L2 := [some (2, 112), some (0, 2), some (0, x2), some (0, x3), some (0, (0 + 1)), some (0, ((((((((((((((((((0 * 3) + z75) * 3) + z82) * 3) + z89) * 3) + z96) * 3) + z103) * 3) + z110) * 3) + z117) * 3) + z124) * 3) + z131)), some (0, (((((((((x2 - 1) + (-1)) + (-1)) + (-1)) + (-1)) + (-1)) + (-1)) + (-1)) + (-1))), none]) c_167_88 rfl rfl (n_iinc (L2 := [some (2, 112), some (0, 2), some (0, x2), some (0, x3), some (0, (0 + 1)), some (0, ((((((((((((((((((0 * 3) + z75) * 3) + z82) * 3) + z89) * 3) + z96) * 3) + z103) * 3) + z110) * 3) + z117) * 3) + z124) * 3) + z131)), some (0, ((((((((((x2 - 1) + (-1)) + (-1)) + (-1)) + (-1)) + (-1)) + (-1)) + (-1)) + (-1)) + (-1))), none]) c_167_90 rfl rfl rfl (n_goto c_167_93 (n_iload c_167_66 rfl ?_))))
                                                  refine n_if0_lt c_167_68 (by omega) ?_ ?_
                                                  · intro h134
                                                    refine n_aload_n c_167_96 rfl (n_getR c_167_97 sc_112.n rfl rfl rfl r_112_17 (n_iload c_167_100 rfl (n_iconst c_167_102 (n_iastoreV hS68 c_167_103 sc_125.n rfl (by omega) (w_125 (by omega) (by omega)) ?_))))
                                                    intro M135 eM135 hS135
                                                    refine n_iinc (L2 := [some (2, 112), some (0, 2), some (0, x2), some (0, x3), some (0, ((0 + 1) + 1)), some (0, ((((((((((((((((((0 * 3) + z75) * 3) + z82) * 3) + z89) * 3) + z96) * 3) + z103) * 3) + z110) * 3) + z117) * 3) + z124) * 3) + z131)), some (0, ((((((((((x2 - 1) + (-1)) + (-1)) + (-1)) + (-1)) + (-1)) + (-1)) + (-1)) + (-1)) + (-1))), none]) c_167_104 rfl rfl rfl (n_goto c_167_107 (n_iload c_167_52 rfl (n_iload_n c_167_54 rfl ?_)))
                                                    refine n_if2_ge c_167_55 (by omega) (by omega) ?_ ?_
                                                    · intro h136
                                                      refine n_iconst c_167_110 (n_istore (L2 := [some (2, 112), some (0, 2), some (0, x2), some (0, x3), some (0, 0), some (0, ((((((((((((((((((0 * 3) + z75) * 3) + z82) * 3) + z89) * 3) + z96) * 3) + z103) * 3) + z110) * 3) + z117) * 3) + z124) * 3) + z131)), some (0, ((((((((((x2 - 1) + (-1)) + (-1)) + (-1)) + (-1)) + (-1)) + (-1)) + (-1)) + (-1)) + (-1))), none]) c_167_111 rfl rfl (n_fg (le_s (le_s (le_s (le_s (le_s (le_n (le_n (le_n le_0)))))))) ?_))
                                                      exact ih.2.1 _ _ _ M135 hS135 (by omega) (by omega) (by omega) (by omega)
                                                    · intro h137
                                                      exfalso; omega
                                                  · intro h138
                                                    exfalso; omega
                            · intro h139
                              exfalso; omega
      · intro h140
        refine n_aload_n c_167_35 rfl (n_getR c_167_36 sc_112.n rfl rfl rfl r_112_17 (n_iload c_167_39 rfl (n_iconst c_167_41 (n_iastoreV hS c_167_42 sc_125.n rfl (by omega) (w_125 (by omega) (by omega)) ?_))))
        intro M141 eM141 hS141
        refine n_iinc (L2 := [some (2, 112), some (0, 2), some (0, x2), some (0, x3), some (0, (x4 + 1)), none, none, none]) c_167_43 rfl rfl rfl (n_goto c_167_46 (n_fg (le_s (le_s (le_s (le_s (le_s (le_n (le_n (le_n le_0)))))))) ?_))
        exact ih.1 _ _ _ M141 hS141 (by omega) (by omega) (by omega) (by omega)
    · intro x2 x3 x4 M hS k2 k3 k4 hnn
      refine n_iconst c_167_113 (n_istore (L2 := [some (2, 112), some (0, 2), some (0, x2), some (0, x3), some (0, x4), some (0, (-1)), none, none]) c_167_114 rfl rfl (n_iconst c_167_116 (n_istore (L2 := [some (2, 112), some (0, 2), some (0, x2), some (0, x3), some (0, x4), some (0, (-1)), some (0, 0), none]) c_167_117 rfl rfl (n_fg (le_s (le_s (le_s (le_s (le_s (le_s (le_s (le_n le_0)))))))) ?_))))
      exact ih.2.2.1 _ _ _ _ _ M hS (by omega) (by omega) (by omega) (by omega) (by omega) (by omega) (by omega)
    · intro x2 x3 x4 x5 x6 M hS k2 k3 k4 k5 k6 v0 hnn
      refine n_iload c_167_119 rfl (n_iload_n c_167_121 rfl ?_)
      refine n_if2_ge c_167_122 (by omega) (by omega) ?_ ?_
      · intro h1
        refine n_iload c_167_168 rfl (n_iconst c_167_170 ?_)
        refine n_if2_ne c_167_171 (by omega) (by omega) ?_ ?_
        · intro h2
          refine n_iload c_167_190 rfl (n_sipush c_167_192 rfl ?_)
          refine n_if2_ne c_167_195 (by omega) (by omega) ?_ ?_
          · intro h3
            refine n_aload_n c_167_207 rfl (n_getR c_167_208 sc_112.n rfl rfl rfl r_112_14 (n_sipush c_167_211 rfl (n_iload_n c_167_214 rfl (n_imul c_167_215 rfl (n_iload c_167_216 rfl (n_iadd c_167_218 rfl (n_iload c_167_219 rfl (n_iastoreV hS c_167_221 sc_122.n rfl (by omega) (w_122 (by omega) (by omega)) ?_))))))))
            intro M4 eM4 hS4
            have g4_0 : M4 125 x5 = M 125 x5 := by rw [eM4]; exact nu_a (by omega)
            refine n_aload_n c_167_222 rfl (n_getR c_167_223 sc_112.n rfl rfl rfl r_112_15 (n_sipush c_167_226 rfl (n_iload_n c_167_229 rfl (n_imul c_167_230 rfl (n_iload c_167_231 rfl (n_iadd c_167_233 rfl (n_aload_n c_167_234 rfl (n_getR c_167_235 sc_112.n rfl rfl rfl r_112_17 (n_iload c_167_238 rfl (n_ialoadV c_167_240 sc_125.n rfl rfl rfl (by omega) (t_125 hS4 (by omega)) ?_))))))))))
            intro z5 ez5 f6
            refine n_iconst c_167_241 (n_isub c_167_242 rfl (n_iastoreV hS4 c_167_243 sc_123.n rfl (by omega) (w_123 (by omega) (by omega)) ?_))
            intro M7 eM7 hS7
            have g7_0 : M7 125 x5 = M4 125 x5 := by rw [eM7]; exact nu_a (by omega)
            refine n_iload c_167_244 rfl (n_istore (L2 := [some (2, 112), some (0, 2), some (0, x2), some (0, x3), some (0, x4), some (0, x5), some (0, x5), none]) c_167_246 rfl rfl (n_iconst c_167_248 (n_istore (L2 := [some (2, 112), some (0, 2), some (0, x2), some (0, x3), some (0, x4), some (0, x5), some (0, x5), some (0, 0)]) c_167_249 rfl rfl (n_fg (le_s (le_s (le_s (le_s (le_s (le_n (le_s (le_s le_0)))))))) ?_))))
            exact ih.2.2.2.2.2.1 _ _ _ _ _ M7 hS7 (by omega) (by omega) (by omega) (by omega) (by omega) (by omega)
          · intro h8
            refine n_aload_n c_167_198 rfl (n_getR c_167_199 sc_112.n rfl rfl rfl r_112_16 (n_iload_n c_167_202 rfl (n_bipush c_167_203 rfl (n_iastoreV hS c_167_205 sc_124.n rfl (by omega) (w_124 (by omega) (by omega)) ?_))))
            intro M9 eM9 hS9
            have g9_0 : M9 125 x5 = M 125 x5 := by rw [eM9]; exact nu_a (by omega)
            exact n_rV c_167_206 rfl hS9
        · intro h10
          refine n_aload_n c_167_174 rfl (n_getR c_167_175 sc_112.n rfl rfl rfl r_112_16 (n_iload_n c_167_178 rfl (n_iload c_167_179 rfl (n_iastoreV hS c_167_181 sc_124.n rfl (by omega) (w_124 (by omega) (by omega)) ?_))))
          intro M11 eM11 hS11
          have g11_0 : M11 125 x5 = M 125 x5 := by rw [eM11]; exact nu_a (by omega)
          refine n_aload_n c_167_182 rfl (n_iload_n c_167_183 rfl (n_iload c_167_184 rfl (n_v2V c_167_186 rfl sc_112.n rfl rfl rfl rfl (mordered_3 (n := 2) (m := x4) hS11 hdm (by omega) (by omega)) ?_)))
          intro  M12 hP13
          have hS12 := hP13
          exact n_rV c_167_189 rfl hS12
      · intro h14
        refine n_aload_n c_167_125 rfl (n_getR c_167_126 sc_112.n rfl rfl rfl r_112_17 (n_iload c_167_129 rfl (n_ialoadV c_167_131 sc_125.n rfl rfl rfl (by omega) (t_125 hS (by omega)) ?_)))
        intro z15 ez15 f16
        refine n_if0_le c_167_132 (by omega) ?_ ?_
        · intro h17
          refine n_fg (le_s (le_s (le_s (le_s (le_s (le_s (le_s (le_n le_0)))))))) ?_
          exact ih.2.2.2.2.1 _ _ _ _ _ M hS (by omega) (by omega) (by omega) (by omega) (by omega) (by omega) (by omega)
        · intro h18
          refine n_iload c_167_135 rfl (n_iconst c_167_137 ?_)
          refine n_if2_eq c_167_138 (by omega) (by omega) ?_ ?_
          · intro h19
            refine n_fg (le_s (le_s (le_s (le_s (le_s (le_n (le_s (le_n le_0)))))))) ?_
            exact ih.2.2.2.1 _ _ _ _ M hS (by omega) (by omega) (by omega) (by omega) (by omega) (by omega)
          · intro h20
            refine n_aload_n c_167_141 rfl (n_getR c_167_142 sc_112.n rfl rfl rfl r_112_17 (n_iload c_167_145 rfl (n_ialoadV c_167_147 sc_125.n rfl rfl rfl (by omega) (t_125 hS (by omega)) ?_)))
            intro z21 ez21 f22
            refine n_aload_n c_167_148 rfl (n_getR c_167_149 sc_112.n rfl rfl rfl r_112_17 (n_iload c_167_152 rfl (n_ialoadV c_167_154 sc_125.n rfl rfl rfl (by omega) (t_125 hS (by omega)) ?_)))
            intro z23 ez23 f24
            refine n_if2_ge c_167_155 (by omega) (by omega) ?_ ?_
            · intro h25
              refine n_fg (le_s (le_s (le_s (le_s (le_s (le_s (le_s (le_n le_0)))))))) ?_
              exact ih.2.2.2.2.1 _ _ _ _ _ M hS (by omega) (by omega) (by omega) (by omega) (by omega) (by omega) (by omega)
            · intro h26
              refine n_fg (le_s (le_s (le_s (le_s (le_s (le_n (le_s (le_n le_0)))))))) ?_
              exact ih.2.2.2.1 _ _ _ _ M hS (by omega) (by omega) (by omega) (by omega) (by omega) (by omega)
    · intro x2 x3 x4 x6 M hS k2 k3 k4 k6 v0 hnn
      refine n_iload c_167_158 rfl (n_istore (L2 := [some (2, 112), some (0, 2), some (0, x2), some (0, x3), some (0, x4), some (0, x6), some (0, x6), none]) c_167_160 rfl rfl (n_fg (le_s (le_s (le_s (le_s (le_s (le_s (le_s (le_n le_0)))))))) ?_))
      exact ih.2.2.2.2.1 _ _ _ _ _ M hS (by omega) (by omega) (by omega) (by omega) (by omega) (by omega) (by omega)
    · intro x2 x3 x4 x5 x6 M hS k2 k3 k4 k5 k6 v0 hnn
      refine n_iinc (L2 := [some (2, 112), some (0, 2), some (0, x2), some (0, x3), some (0, x4), some (0, x5), some (0, (x6 + 1)), none]) c_167_162 rfl rfl rfl (n_goto c_167_165 (n_fg (le_s (le_s (le_s (le_s (le_s (le_s (le_s (le_n le_0)))))))) ?_))
      exact ih.2.2.1 _ _ _ _ _ M hS (by omega) (by omega) (by omega) (by omega) (by omega) (by omega) (by omega)
    · intro x2 x3 x4 x6 x7 M hS k2 k3 k4 k6 k7 hnn
      refine n_iload c_167_251 rfl (n_iload_n c_167_253 rfl ?_)
      refine n_if2_ge c_167_254 (by omega) (by omega) ?_ ?_
      · intro h1
        refine n_iload c_167_292 rfl (n_iconst c_167_294 (n_iadd c_167_295 rfl (n_iload_n c_167_296 rfl ?_)))
        refine n_if2_ge c_167_297 (by omega) (by omega) ?_ ?_
        · intro h2
          exfalso; omega
        · intro h3
          refine n_aload_n c_167_300 rfl (n_iload_n c_167_301 rfl (n_iload_n c_167_302 rfl (n_iload c_167_303 rfl ?_)))
          have hcst : (x2 : Int) = 9 := by omega
          rw [hcst]
          refine n_v3V c_167_305 rfl sc_112.n rfl rfl rfl rfl (mjoins9_3 (n := 2) (t := x4) hS hdm (by omega) (by omega)) ?_
          intro  M4 hP5
          have hS4 := hP5
          refine n_fg (le_s (le_s (le_s (le_s (le_s (le_n (le_n (le_n le_0)))))))) ?_
          exact ih.2.2.2.2.2.2.1 _ _ _ M4 hS4 (by omega) (by omega) (by omega) (by omega)
      · intro h6
        refine n_aload_n c_167_257 rfl (n_getR c_167_258 sc_112.n rfl rfl rfl r_112_18 (n_bipush c_167_261 rfl (n_iload c_167_263 rfl (n_imul c_167_265 rfl (n_iload c_167_266 rfl (n_iadd c_167_268 rfl (n_iload c_167_269 rfl (n_aload_n c_167_271 rfl (n_getV (bi := 0) c_167_272 sc_112.n rfl rfl rfl (t_dm hS hdm) ?_)))))))))
        intro z7 ez7 f8
        obtain rfl : z7 = 3 := by omega
        refine n_iremV c_167_275 (by omega) (by omega) ?_
        intro z9 _ f10
        refine n_iastoreV hS c_167_276 sc_126.n rfl (by omega) (w_126 (by omega) (by omega)) ?_
        intro M11 eM11 hS11
        refine n_iload c_167_277 rfl (n_aload_n c_167_279 rfl (n_getV (bi := 0) c_167_280 sc_112.n rfl rfl rfl (t_dm hS11 hdm) ?_))
        intro z12 ez12 f13
        obtain rfl : z12 = 3 := by omega
        refine n_idivV c_167_283 (by omega) (by omega) ?_
        intro z14 _ f15
        refine n_istore (L2 := [some (2, 112), some (0, 2), some (0, x2), some (0, x3), some (0, x4), none, some (0, z14), some (0, x7)]) c_167_284 rfl rfl (n_iinc (L2 := [some (2, 112), some (0, 2), some (0, x2), some (0, x3), some (0, x4), none, some (0, z14), some (0, (x7 + 1))]) c_167_286 rfl rfl rfl (n_goto c_167_289 (n_fg (le_s (le_s (le_s (le_s (le_s (le_n (le_s (le_s le_0)))))))) ?_)))
        exact ih.2.2.2.2.2.1 _ _ _ _ _ M11 hS11 (by omega) (by omega) (by omega) (by omega) (by omega) (by omega)
    · intro x2 x3 x4 M hS k2 k3 k4 hnn
      refine n_iinc (L2 := [some (2, 112), some (0, 2), some (0, x2), some (0, x3), some (0, (x4 + 1)), none, none, none]) c_167_308 rfl rfl rfl (n_iconst c_167_311 (n_istore (L2 := [some (2, 112), some (0, 2), some (0, x2), some (0, x3), some (0, (x4 + 1)), none, none, some (0, 0)]) c_167_312 rfl rfl (n_fg (le_s (le_s (le_s (le_s (le_s (le_n (le_n (le_s le_0)))))))) ?_)))
      exact ih.2.2.2.2.2.2.2 _ _ _ _ M hS (by omega) (by omega) (by omega) (by omega) (by omega)
    · intro x2 x3 x4 x7 M hS k2 k3 k4 k7 hnn
      refine n_iload c_167_314 rfl (n_iload c_167_316 rfl ?_)
      refine n_if2_ge c_167_318 (by omega) (by omega) ?_ ?_
      · intro h1
        refine n_goto c_167_346 (n_fg (le_s (le_s (le_s (le_s (le_s (le_n (le_n (le_n le_0)))))))) ?_)
        exact ih.2.1 _ _ _ M hS (by omega) (by omega) (by omega) (by omega)
      · intro h2
        refine n_aload_n c_167_321 rfl (n_getR c_167_322 sc_112.n rfl rfl rfl r_112_17 (n_aload_n c_167_325 rfl (n_getR c_167_326 sc_112.n rfl rfl rfl r_112_14 (n_sipush c_167_329 rfl (n_iload_n c_167_332 rfl (n_imul c_167_333 rfl (n_iload c_167_334 rfl (n_iadd c_167_336 rfl (n_ialoadV c_167_337 sc_122.n rfl rfl rfl (by omega) (t_122 hS (by omega)) ?_)))))))))
        intro z3 ez3 f4
        refine n_iconst c_167_338 (n_iastoreV hS c_167_339 sc_125.n rfl (by omega) (w_125 (by omega) (by omega)) ?_)
        intro M5 eM5 hS5
        refine n_iinc (L2 := [some (2, 112), some (0, 2), some (0, x2), some (0, x3), some (0, x4), none, none, some (0, (x7 + 1))]) c_167_340 rfl rfl rfl (n_goto c_167_343 (n_fg (le_s (le_s (le_s (le_s (le_s (le_n (le_n (le_s le_0)))))))) ?_))
        exact ih.2.2.2.2.2.2.2 _ _ _ _ M5 hS5 (by omega) (by omega) (by omega) (by omega) (by omega)
set_option maxHeartbeats 4000000 in
theorem mmakes2_3 {xs : List Int32} {e : Nat} {ac : Int} {M0 M : nM} (hS : Sf 3 ac M0 M) (hdm : M0 112 0 = 3) : nW xs (e + 2) 167 0 [some (2, 112), some (0, 2), none, none, none, none, none, none] [] M (nPV fun M1 => Sf 3 ac M0 M1) := by
  have hd : (3 : Int) = 2 ∨ (3 : Int) = 3 := by decide
  have hac := hS.2.2.2.2
  refine n_aload_n c_167_0 rfl (n_getR c_167_1 sc_112.n rfl rfl rfl r_112_16 (n_iload_n c_167_4 rfl (n_ialoadV c_167_5 sc_124.n rfl rfl rfl (by omega) (t_124 hS (by omega)) ?_)))
  intro z1 ez1 f2
  refine n_iconst c_167_6 ?_
  refine n_if2_eq c_167_7 (by omega) (by omega) ?_ ?_
  · intro h3
    refine n_aload_n c_167_11 rfl (n_iload_n c_167_12 rfl (n_v1I c_167_13 rfl sc_112.n rfl rfl rfl rfl (mrowsOf2_3  hS hdm) ?_))
    intro z4 M5 hP6
    obtain ⟨eM, f6⟩ := hP6
    subst eM
    obtain rfl : z4 = 9 := by omega
    refine n_istore_n (L2 := [some (2, 112), some (0, 2), some (0, 9), none, none, none, none, none]) c_167_16 rfl rfl (n_aload_n c_167_17 rfl (n_getV (bi := 0) c_167_18 sc_112.n rfl rfl rfl (t_dm hS hdm) ?_))
    intro z7 ez7 f8
    obtain rfl : z7 = 3 := by omega
    refine n_iload_n c_167_21 rfl (n_s2I c_167_22 rfl rfl rfl rfl (mpower9_3  hS ) ?_)
    intro z9 M10 hP11
    obtain ⟨eM, f11⟩ := hP11
    subst eM
    obtain rfl : z9 = 19683 := by omega
    refine n_istore_n (L2 := [some (2, 112), some (0, 2), some (0, 9), some (0, 19683), none, none, none, none]) c_167_25 rfl rfl (n_iconst c_167_26 (n_istore (L2 := [some (2, 112), some (0, 2), some (0, 9), some (0, 19683), some (0, 0), none, none, none]) c_167_27 rfl rfl (n_fg (le_s (le_s (le_s (le_s (le_s (le_n (le_n (le_n le_0)))))))) ?_)))
    exact (mmakes2_3_c hS hdm 30651596).1 _ _ _ M hS (by omega) (by omega) (by omega) (by omega)
  · intro h12
    exact n_rV c_167_10 rfl hS

set_option maxHeartbeats 4000000 in
theorem mmakes_3 {xs : List Int32} {e : Nat} {ac : Int} {M0 M : nM} {n : Int} (hS : Sf 3 ac M0 M) (hdm : M0 112 0 = 3) (hn : 1 ≤ n ∧ n ≤ 2) : nW xs (e + 2) 167 0 [some (2, 112), some (0, n), none, none, none, none, none, none] [] M (nPV fun M1 => Sf 3 ac M0 M1) := by
  rcases (show n = 1 ∨ n = 2 by omega) with rfl | rfl
  · exact n_post (mmakes1_3 hS hdm) (fun w M1 h => h)
  · exact n_post (mmakes2_3 hS hdm) (fun w M1 h => h)

set_option maxHeartbeats 4000000 in
theorem mmade_3 {xs : List Int32} {e : Nat} {ac : Int} {M0 M : nM} {n : Int} (hS : Sf 3 ac M0 M) (hdm : M0 112 0 = 3) (hn : -2147483648 ≤ n ∧ n ≤ 2147483647) : nW xs (e + 3) 168 0 [some (2, 112), some (0, n)] [] M (nPI fun z M1 => Sf 3 ac M0 M1 ∧ (-2147483648 ≤ z ∧ z ≤ 2147483647)) := by
  have hd : (3 : Int) = 2 ∨ (3 : Int) = 3 := by decide
  have hac := hS.2.2.2.2
  refine n_aload_n c_168_0 rfl (n_iload_n c_168_1 rfl (n_v1I c_168_2 rfl sc_112.n rfl rfl rfl rfl (misMaking_3 (n := n) hS hdm (by omega)) ?_))
  intro z1 M2 hP3
  obtain ⟨eM, f3, f3p0⟩ := hP3
  subst eM
  refine n_if0_ne c_168_5 (by omega) ?_ ?_
  · intro h4
    refine n_aload_n c_168_10 rfl (n_iload_n c_168_11 rfl (n_v1V c_168_12 rfl sc_112.n rfl rfl rfl rfl (mmakes_3 (n := n) hS hdm (by omega)) ?_))
    intro  M5 hP6
    have hS5 := hP6
    refine n_aload_n c_168_15 rfl (n_getR c_168_16 sc_112.n rfl rfl rfl r_112_16 (n_iload_n c_168_19 rfl (n_ialoadV c_168_20 sc_124.n rfl rfl rfl (by omega) (t_124 hS5 (by omega)) ?_)))
    intro z7 ez7 f8
    exact n_rI c_168_21 rfl ⟨hS5, by omega⟩
  · intro h9
    refine n_iconst c_168_8 ?_
    exact n_rI c_168_9 rfl ⟨hS, by omega⟩

set_option maxHeartbeats 4000000 in
theorem mmadeOf_3_c {xs : List Int32} {e : Nat} {ac : Int} {M0 M : nM} {n i w : Int} (hS : Sf 3 ac M0 M) (hdm : M0 112 0 = 3) (hn : -2147483648 ≤ n ∧ n ≤ 2147483647) (hi : -2147483648 ≤ i ∧ i ≤ 2147483647) (hw : -2147483648 ≤ w ∧ w ≤ 2147483647) : ∀ nn : Nat, (∀ (M : nM), Sf 3 ac M0 M → 1 < (nn : Int) → nW xs (e + 3) 169 29 [none, none, none, none] [] M (nPI fun z M1 => Sf 3 ac M0 M1 ∧ (-2147483648 ≤ z ∧ z ≤ 2147483647))) := by
  have hd : (3 : Int) = 2 ∨ (3 : Int) = 3 := by decide
  have hac := hS.2.2.2.2
  intro nn
  induction nn with
  | zero => intros; omega
  | succ nn ih =>
    intro M hS hnn
    refine n_iconst c_169_29 ?_
    exact n_rI c_169_30 rfl ⟨hS, by omega⟩
set_option maxHeartbeats 4000000 in
theorem mmadeOf_3 {xs : List Int32} {e : Nat} {ac : Int} {M0 M : nM} {n i w : Int} (hS : Sf 3 ac M0 M) (hdm : M0 112 0 = 3) (hn : -2147483648 ≤ n ∧ n ≤ 2147483647) (hi : -2147483648 ≤ i ∧ i ≤ 2147483647) (hw : -2147483648 ≤ w ∧ w ≤ 2147483647) : nW xs (e + 3) 169 0 [some (2, 112), some (0, n), some (0, i), some (0, w)] [] M (nPI fun z M1 => Sf 3 ac M0 M1 ∧ (-2147483648 ≤ z ∧ z ≤ 2147483647)) := by
  have hd : (3 : Int) = 2 ∨ (3 : Int) = 3 := by decide
  have hac := hS.2.2.2.2
  refine n_aload_n c_169_0 rfl (n_iload_n c_169_1 rfl (n_v1I c_169_2 rfl sc_112.n rfl rfl rfl rfl (misMaking_3 (n := n) hS hdm (by omega)) ?_))
  intro z1 M2 hP3
  obtain ⟨eM, f3, f3p0⟩ := hP3
  subst eM
  refine n_if0_ne c_169_5 (by omega) ?_ ?_
  · intro h4
    refine n_aload_n c_169_10 rfl (n_iload_n c_169_11 rfl (n_v1V c_169_12 rfl sc_112.n rfl rfl rfl rfl (mmakes_3 (n := n) hS hdm (by omega)) ?_))
    intro  M5 hP6
    have hS5 := hP6
    refine n_iload_n c_169_15 rfl ?_
    refine n_if0_lt c_169_16 (by omega) ?_ ?_
    · intro h7
      refine n_fg (le_n (le_n (le_n (le_n le_0)))) ?_
      exact (mmadeOf_3_c hS hdm hn hi hw 12)  M5 hS5  (by omega)
    · intro h8
      refine n_iload_n c_169_19 rfl (n_aload_n c_169_20 rfl (n_getR c_169_21 sc_112.n rfl rfl rfl r_112_16 (n_iload_n c_169_24 rfl (n_ialoadV c_169_25 sc_124.n rfl rfl rfl (by omega) (t_124 hS5 (by omega)) ?_))))
      intro z9 ez9 f10
      refine n_if2_lt c_169_26 (by omega) (by omega) ?_ ?_
      · intro h11
        refine n_iload_n c_169_31 rfl ?_
        refine n_if0_ne c_169_32 (by omega) ?_ ?_
        · intro h12
          refine n_iload_n c_169_50 rfl (n_iconst c_169_51 ?_)
          refine n_if2_ne c_169_52 (by omega) (by omega) ?_ ?_
          · intro h13
            refine n_iconst c_169_64 ?_
            exact n_rI c_169_65 rfl ⟨hS5, by omega⟩
          · intro h14
            refine n_aload_n c_169_55 rfl (n_iload_n c_169_56 rfl (n_iload_n c_169_57 rfl (n_v2I c_169_58 rfl sc_112.n rfl rfl rfl rfl (msizeOf_3 (n := n) (i := i) hS5 hdm (by omega) (by omega)) ?_)))
            intro z15 M16 hP17
            obtain ⟨eM, f17⟩ := hP17
            subst eM
            refine n_goto c_169_61 ?_
            exact n_rI c_169_65 rfl ⟨hS5, by omega⟩
        · intro h18
          refine n_aload_n c_169_35 rfl (n_getR c_169_36 sc_112.n rfl rfl rfl r_112_14 (n_sipush c_169_39 rfl (n_iload_n c_169_42 rfl (n_imul c_169_43 rfl (n_iload_n c_169_44 rfl (n_iadd c_169_45 rfl (n_ialoadV c_169_46 sc_122.n rfl rfl rfl (by omega) (t_122 hS5 (by omega)) ?_)))))))
          intro z19 ez19 f20
          refine n_goto c_169_47 ?_
          exact n_rI c_169_65 rfl ⟨hS5, by omega⟩
      · intro h21
        refine n_fg (le_n (le_n (le_n (le_n le_0)))) ?_
        exact (mmadeOf_3_c hS hdm hn hi hw 12)  M5 hS5  (by omega)
  · intro h22
    refine n_iconst c_169_8 ?_
    exact n_rI c_169_9 rfl ⟨hS, by omega⟩

set_option maxHeartbeats 4000000 in
theorem msize_3_c {xs : List Int32} {e : Nat} {ac : Int} {M0 M : nM} {n c : Int} (hS : Sf 3 ac M0 M) (hdm : M0 112 0 = 3) (hn : -2147483648 ≤ n ∧ n ≤ 2147483647) (hc : -2147483648 ≤ c ∧ c ≤ 2147483647) : ∀ nn : Nat, (∀ (M : nM), Sf 3 ac M0 M → 259 < (nn : Int) → nW xs (e + 3) 170 28 [none, none, none, none] [] M (nPI fun z M1 => Sf 3 ac M0 M1 ∧ (-2147483648 ≤ z ∧ z ≤ 2147483647))) ∧ (∀ (x3 : Int) (M : nM), Sf 3 ac M0 M → (1 ≤ n ∧ n ≤ 2) → (0 ≤ c ∧ c ≤ 19682) → (0 ≤ x3 ∧ x3 ≤ 256) → (256 - x3) * 1 + 1 < (nn : Int) → nW xs (e + 3) 170 51 [some (2, 112), some (0, n), some (0, c), some (0, x3)] [] M (nPI fun z M1 => Sf 3 ac M0 M1 ∧ (-2147483648 ≤ z ∧ z ≤ 2147483647))) := by
  have hd : (3 : Int) = 2 ∨ (3 : Int) = 3 := by decide
  have hac := hS.2.2.2.2
  intro nn
  induction nn with
  | zero => refine ⟨?_, ?_⟩ <;> (intros; omega)
  | succ nn ih =>
    refine ⟨?_, ?_⟩
    · intro M hS hnn
      refine n_iconst c_170_28 ?_
      exact n_rI c_170_29 rfl ⟨hS, by omega⟩
    · intro x3 M hS k1 k2 k3 hnn
      refine n_iload_n c_170_51 rfl (n_aload_n c_170_52 rfl (n_getR c_170_53 sc_112.n rfl rfl rfl r_112_16 (n_iload_n c_170_56 rfl (n_ialoadV c_170_57 sc_124.n rfl rfl rfl (by omega) (t_124 hS (by omega)) ?_))))
      intro z1 ez1 f2
      refine n_if2_ge c_170_58 (by omega) (by omega) ?_ ?_
      · intro h3
        refine n_bipush c_170_90 rfl ?_
        exact n_rI c_170_92 rfl ⟨hS, by omega⟩
      · intro h4
        refine n_aload_n c_170_61 rfl (n_getR c_170_62 sc_112.n rfl rfl rfl r_112_14 (n_sipush c_170_65 rfl (n_iload_n c_170_68 rfl (n_imul c_170_69 rfl (n_iload_n c_170_70 rfl (n_iadd c_170_71 rfl (n_ialoadV c_170_72 sc_122.n rfl rfl rfl (by omega) (t_122 hS (by omega)) ?_)))))))
        intro z5 ez5 f6
        refine n_iload_n c_170_73 rfl ?_
        refine n_if2_ne c_170_74 (by omega) (by omega) ?_ ?_
        · intro h7
          refine n_iinc (L2 := [some (2, 112), some (0, n), some (0, c), some (0, (x3 + 1))]) c_170_84 rfl rfl rfl (n_goto c_170_87 (n_fg (le_s (le_s (le_s (le_s le_0)))) ?_))
          exact ih.2 _ M hS (by omega) (by omega) (by omega) (by omega)
        · intro h8
          refine n_aload_n c_170_77 rfl (n_iload_n c_170_78 rfl (n_iload_n c_170_79 rfl (n_v2I c_170_80 rfl sc_112.n rfl rfl rfl rfl (msizeOf_3 (n := n) (i := x3) hS hdm (by omega) (by omega)) ?_)))
          intro z9 M10 hP11
          obtain ⟨eM, f11⟩ := hP11
          subst eM
          exact n_rI c_170_83 rfl ⟨hS, by omega⟩
set_option maxHeartbeats 4000000 in
theorem msize_3 {xs : List Int32} {e : Nat} {ac : Int} {M0 M : nM} {n c : Int} (hS : Sf 3 ac M0 M) (hdm : M0 112 0 = 3) (hn : -2147483648 ≤ n ∧ n ≤ 2147483647) (hc : -2147483648 ≤ c ∧ c ≤ 2147483647) : nW xs (e + 3) 170 0 [some (2, 112), some (0, n), some (0, c), none] [] M (nPI fun z M1 => Sf 3 ac M0 M1 ∧ (-2147483648 ≤ z ∧ z ≤ 2147483647)) := by
  have hd : (3 : Int) = 2 ∨ (3 : Int) = 3 := by decide
  have hac := hS.2.2.2.2
  refine n_aload_n c_170_0 rfl (n_iload_n c_170_1 rfl (n_v1I c_170_2 rfl sc_112.n rfl rfl rfl rfl (misMaking_3 (n := n) hS hdm (by omega)) ?_))
  intro z1 M2 hP3
  obtain ⟨eM, f3, f3p0⟩ := hP3
  subst eM
  refine n_if0_eq c_170_5 (by omega) ?_ ?_
  · intro h4
    refine n_fg (le_n (le_n (le_n (le_n le_0)))) ?_
    exact (msize_3_c hS hdm hn hc 528).1  M hS  (by omega)
  · intro h5
    refine n_iload_n c_170_8 rfl ?_
    refine n_if0_lt c_170_9 (by omega) ?_ ?_
    · intro h6
      refine n_fg (le_n (le_n (le_n (le_n le_0)))) ?_
      exact (msize_3_c hS hdm hn hc 528).1  M hS  (by omega)
    · intro h7
      refine n_iload_n c_170_12 rfl (n_aload_n c_170_13 rfl (n_getV (bi := 0) c_170_14 sc_112.n rfl rfl rfl (t_dm hS hdm) ?_))
      intro z8 ez8 f9
      obtain rfl : z8 = 3 := by omega
      refine n_aload_n c_170_17 rfl (n_iload_n c_170_18 rfl (n_v1I c_170_19 rfl sc_112.n rfl rfl rfl rfl (mrowsOf_3 (n := n) hS hdm (by omega)) ?_))
      intro z10 M11 hP12
      obtain ⟨eM, f12⟩ := hP12
      subst eM
      refine n_s2I c_170_22 rfl rfl rfl rfl (mpowerU_3 (n := z10) hS (by omega)) ?_
      intro z13 M14 hP15
      obtain ⟨eM, f15⟩ := hP15
      subst eM
      refine n_if2_lt c_170_25 (by omega) (by omega) ?_ ?_
      · intro h16
        refine n_aload_n c_170_30 rfl (n_iload_n c_170_31 rfl (n_v1V c_170_32 rfl sc_112.n rfl rfl rfl rfl (mmakes_3 (n := n) hS hdm (by omega)) ?_))
        intro  M17 hP18
        have hS17 := hP18
        refine n_aload_n c_170_35 rfl (n_getR c_170_36 sc_112.n rfl rfl rfl r_112_16 (n_iload_n c_170_39 rfl (n_ialoadV c_170_40 sc_124.n rfl rfl rfl (by omega) (t_124 hS17 (by omega)) ?_)))
        intro z19 ez19 f20
        refine n_bipush c_170_41 rfl ?_
        refine n_if2_ne c_170_43 (by omega) (by omega) ?_ ?_
        · intro h21
          refine n_iconst c_170_49 (n_istore_n (L2 := [some (2, 112), some (0, n), some (0, c), some (0, 0)]) c_170_50 rfl rfl (n_fg (le_s (le_s (le_s (le_s le_0)))) ?_))
          exact (msize_3_c hS hdm hn hc 528).2 _ M17 hS17 (by omega) (by omega) (by omega) (by omega)
        · intro h22
          refine n_bipush c_170_46 rfl ?_
          exact n_rI c_170_48 rfl ⟨hS17, by omega⟩
      · intro h23
        refine n_fg (le_n (le_n (le_n (le_n le_0)))) ?_
        exact (msize_3_c hS hdm hn hc 528).1  M hS  (by omega)

set_option maxHeartbeats 4000000 in
theorem mlayMost_3_c {xs : List Int32} {e : Nat} {ac : Int} {M0 M : nM} {k : Int} (hS : Sf 3 ac M0 M) (hdm : M0 112 0 = 3) (hk : 0 ≤ k ∧ k ≤ 728) : ∀ nn : Nat, (∀ (x2 x3 : Int) (M : nM), Sf 3 ac M0 M → (0 ≤ x2 ∧ x2 ≤ 728) → (0 ≤ x3 ∧ x3 ≤ 27) → (27 - x3) * 3 + 3 < (nn : Int) → nW xs (e + 2) 199 4 [some (2, 112), none, some (0, x2), some (0, x3), none, none, none] [] M (nPV fun M1 => Sf 3 ac M0 M1)) ∧ (∀ (x2 x3 x4 : Int) (M : nM), Sf 3 ac M0 M → (0 ≤ x2 ∧ x2 ≤ 728) → (0 ≤ x3 ∧ x3 ≤ 26) → (0 ≤ x4 ∧ x4 ≤ 2) → (27 - x3) * 3 + 2 < (nn : Int) → nW xs (e + 2) 199 57 [some (2, 112), none, some (0, x2), some (0, x3), some (0, x4), none, none] [] M (nPV fun M1 => Sf 3 ac M0 M1)) ∧ (∀ (x2 x3 : Int) (M : nM), Sf 3 ac M0 M → (0 ≤ x2 ∧ x2 ≤ 728) → (0 ≤ x3 ∧ x3 ≤ 26) → (27 - x3) * 3 + 1 < (nn : Int) → nW xs (e + 2) 199 105 [some (2, 112), none, some (0, x2), some (0, x3), none, none, none] [] M (nPV fun M1 => Sf 3 ac M0 M1)) := by
  have hd : (3 : Int) = 2 ∨ (3 : Int) = 3 := by decide
  have hac := hS.2.2.2.2
  intro nn
  induction nn with
  | zero => refine ⟨?_, ?_, ?_⟩ <;> (intros; omega)
  | succ nn ih =>
    refine ⟨?_, ?_, ?_⟩
    · intro x2 x3 M hS k2 k3 hnn
      refine n_iload_n c_199_4 rfl (n_aload_n c_199_5 rfl (n_getV (bi := 0) c_199_6 sc_112.n rfl rfl rfl (t_dm hS hdm) ?_))
      intro z1 ez1 f2
      obtain rfl : z1 = 3 := by omega
      refine n_iconst c_199_9 (n_s2I c_199_10 rfl rfl rfl rfl (mpower3_3  hS ) ?_)
      intro z3 M4 hP5
      obtain ⟨eM, f5⟩ := hP5
      subst eM
      obtain rfl : z3 = 27 := by omega
      refine n_if2_ge c_199_13 (by omega) (by omega) ?_ ?_
      · intro h6
        exact n_rV c_199_111 rfl hS
      · intro h7
        refine n_aload_n c_199_16 rfl (n_iload_n c_199_17 rfl (n_iconst c_199_18 (n_iconst c_199_19 (n_v3I c_199_20 rfl sc_112.n rfl rfl rfl rfl (mdigit_3 (r := x3) (k := 3) (j := 0) hS hdm (by omega) (by omega) (by omega) (by omega)) ?_))))
        intro z8 M9 hP10
        obtain ⟨eM, f10⟩ := hP10
        subst eM
        refine n_istore (L2 := [some (2, 112), none, some (0, x2), some (0, x3), some (0, z8), none, none]) c_199_23 rfl rfl (n_aload_n c_199_25 rfl (n_iload_n c_199_26 rfl (n_iconst c_199_27 (n_iconst c_199_28 (n_v3I c_199_29 rfl sc_112.n rfl rfl rfl rfl (mdigit_3 (r := x3) (k := 3) (j := 1) hS hdm (by omega) (by omega) (by omega) (by omega)) ?_)))))
        intro z11 M12 hP13
        obtain ⟨eM, f13⟩ := hP13
        subst eM
        refine n_istore (L2 := [some (2, 112), none, some (0, x2), some (0, x3), some (0, z8), some (0, z11), none]) c_199_32 rfl rfl (n_aload_n c_199_34 rfl (n_iload_n c_199_35 rfl (n_iconst c_199_36 (n_iconst c_199_37 (n_v3I c_199_38 rfl sc_112.n rfl rfl rfl rfl (mdigit_3 (r := x3) (k := 3) (j := 2) hS hdm (by omega) (by omega) (by omega) (by omega)) ?_)))))
        intro z14 M15 hP16
        obtain ⟨eM, f16⟩ := hP16
        subst eM
        refine n_istore (L2 := [some (2, 112), none, some (0, x2), some (0, x3), some (0, z8), some (0, z11), some (0, z14)]) c_199_41 rfl rfl (n_iload c_199_43 rfl (n_iload c_199_45 rfl ?_))
        refine n_if2_eq c_199_47 (by omega) (by omega) ?_ ?_
        · intro h17
          refine n_fg (le_s (le_n (le_s (le_s (le_s (le_n (le_n le_0))))))) ?_
          exact ih.2.1 _ _ _ M hS (by omega) (by omega) (by omega) (by omega)
        · intro h18
          refine n_iload c_199_50 rfl (n_iload c_199_52 rfl ?_)
          refine n_if2_ne c_199_54 (by omega) (by omega) ?_ ?_
          · intro h19
            refine n_iload c_199_68 rfl (n_iload c_199_70 rfl ?_)
            refine n_if2_ne c_199_72 (by omega) (by omega) ?_ ?_
            · intro h20
              refine n_aload_n c_199_86 rfl (n_getR c_199_87 sc_112.n rfl rfl rfl r_112_19 (n_iload_n c_199_90 rfl (n_iload_n c_199_91 rfl (n_aload_n c_199_92 rfl (n_getV (bi := 0) c_199_93 sc_112.n rfl rfl rfl (t_dm hS hdm) ?_)))))
              intro z21 ez21 f22
              obtain rfl : z21 = 3 := by omega
              refine n_iremV c_199_96 (by omega) (by omega) ?_
              intro z23 _ f24
              refine n_iastoreV hS c_199_97 sc_127.n rfl (by omega) (w_127 (by omega) (by omega)) ?_
              intro M25 eM25 hS25
              refine n_iload_n c_199_98 rfl (n_aload_n c_199_99 rfl (n_getV (bi := 0) c_199_100 sc_112.n rfl rfl rfl (t_dm hS25 hdm) ?_))
              intro z26 ez26 f27
              obtain rfl : z26 = 3 := by omega
              refine n_idivV c_199_103 (by omega) (by omega) ?_
              intro z28 _ f29
              refine n_istore_n (L2 := [some (2, 112), none, some (0, z28), some (0, x3), some (0, z8), some (0, z11), some (0, z14)]) c_199_104 rfl rfl (n_fg (le_s (le_n (le_s (le_s (le_n (le_n (le_n le_0))))))) ?_)
              exact ih.2.2 _ _ M25 hS25 (by omega) (by omega) (by omega)
            · intro h30
              refine n_aload_n c_199_75 rfl (n_getR c_199_76 sc_112.n rfl rfl rfl r_112_19 (n_iload_n c_199_79 rfl (n_iload c_199_80 rfl (n_iastoreV hS c_199_82 sc_127.n rfl (by omega) (w_127 (by omega) (by omega)) ?_))))
              intro M31 eM31 hS31
              refine n_goto c_199_83 (n_fg (le_s (le_n (le_s (le_s (le_n (le_n (le_n le_0))))))) ?_)
              exact ih.2.2 _ _ M31 hS31 (by omega) (by omega) (by omega)
          · intro h32
            refine n_fg (le_s (le_n (le_s (le_s (le_s (le_n (le_n le_0))))))) ?_
            exact ih.2.1 _ _ _ M hS (by omega) (by omega) (by omega) (by omega)
    · intro x2 x3 x4 M hS k2 k3 k4 hnn
      refine n_aload_n c_199_57 rfl (n_getR c_199_58 sc_112.n rfl rfl rfl r_112_19 (n_iload_n c_199_61 rfl (n_iload c_199_62 rfl (n_iastoreV hS c_199_64 sc_127.n rfl (by omega) (w_127 (by omega) (by omega)) ?_))))
      intro M1 eM1 hS1
      refine n_goto c_199_65 (n_fg (le_s (le_n (le_s (le_s (le_n (le_n (le_n le_0))))))) ?_)
      exact ih.2.2 _ _ M1 hS1 (by omega) (by omega) (by omega)
    · intro x2 x3 M hS k2 k3 hnn
      refine n_iinc (L2 := [some (2, 112), none, some (0, x2), some (0, (x3 + 1)), none, none, none]) c_199_105 rfl rfl rfl (n_goto c_199_108 (n_fg (le_s (le_n (le_s (le_s (le_n (le_n (le_n le_0))))))) ?_))
      exact ih.1 _ _ M hS (by omega) (by omega) (by omega)
set_option maxHeartbeats 4000000 in
theorem mlayMost_3 {xs : List Int32} {e : Nat} {ac : Int} {M0 M : nM} {k : Int} (hS : Sf 3 ac M0 M) (hdm : M0 112 0 = 3) (hk : 0 ≤ k ∧ k ≤ 728) : nW xs (e + 2) 199 0 [some (2, 112), some (0, k), none, none, none, none, none] [] M (nPV fun M1 => Sf 3 ac M0 M1) := by
  have hd : (3 : Int) = 2 ∨ (3 : Int) = 3 := by decide
  have hac := hS.2.2.2.2
  refine n_iload_n c_199_0 rfl (n_istore_n (L2 := [some (2, 112), some (0, k), some (0, k), none, none, none, none]) c_199_1 rfl rfl (n_iconst c_199_2 (n_istore_n (L2 := [some (2, 112), some (0, k), some (0, k), some (0, 0), none, none, none]) c_199_3 rfl rfl (n_fg (le_s (le_n (le_s (le_s (le_n (le_n (le_n le_0))))))) ?_))))
  exact (mlayMost_3_c hS hdm hk 184).1 _ _ M hS (by omega) (by omega) (by omega)

set_option maxHeartbeats 4000000 in
theorem mquick_3_c {xs : List Int32} {e : Nat} {ac : Int} {M0 M : nM} {k : Int} (hS : Sf 3 ac M0 M) (hdm : M0 112 0 = 3) (hk : -2147483648 ≤ k ∧ k ≤ 2147483647) : ∀ nn : Nat, (∀ (x2 x3 : Int) (M : nM), Sf 3 ac M0 M → (-2147483648 ≤ x2 ∧ x2 ≤ 2147483647) → (0 ≤ x3 ∧ x3 ≤ 19683) → (19683 - x3) * 2 + 762 < (nn : Int) → nW xs (e + 4) 200 34 [some (2, 112), none, some (0, x2), some (0, x3)] [] M (nPJ fun z M1 => Sf 3 ac M0 M1 ∧ (-9223372036854775808 ≤ z ∧ z ≤ 9223372036854775807))) ∧ (∀ (x2 x3 : Int) (M : nM), Sf 3 ac M0 M → (-2147483648 ≤ x2 ∧ x2 ≤ 2147483647) → (0 ≤ x3 ∧ x3 ≤ 19682) → (19683 - x3) * 2 + 761 < (nn : Int) → nW xs (e + 4) 200 80 [some (2, 112), none, some (0, x2), some (0, x3)] [] M (nPJ fun z M1 => Sf 3 ac M0 M1 ∧ (-9223372036854775808 ≤ z ∧ z ≤ 9223372036854775807))) ∧ (∀ (x2 x3 : Int) (M : nM), Sf 3 ac M0 M → (-2147483648 ≤ x2 ∧ x2 ≤ 2147483647) → (0 ≤ x3 ∧ x3 ≤ 729) → (729 - x3) * 1 + 30 < (nn : Int) → nW xs (e + 4) 200 92 [some (2, 112), none, some (0, x2), some (0, x3)] [] M (nPJ fun z M1 => Sf 3 ac M0 M1 ∧ (-9223372036854775808 ≤ z ∧ z ≤ 9223372036854775807))) ∧ (∀ (x2 x3 : Int) (M : nM), Sf 3 ac M0 M → (-2147483648 ≤ x2 ∧ x2 ≤ 2147483647) → (0 ≤ x3 ∧ x3 ≤ 27) → (27 - x3) * 1 + 1 < (nn : Int) → nW xs (e + 4) 200 142 [some (2, 112), none, some (0, x2), some (0, x3)] [] M (nPJ fun z M1 => Sf 3 ac M0 M1 ∧ (-9223372036854775808 ≤ z ∧ z ≤ 9223372036854775807))) := by
  have hd : (3 : Int) = 2 ∨ (3 : Int) = 3 := by decide
  have hac := hS.2.2.2.2
  intro nn
  induction nn with
  | zero => refine ⟨?_, ?_, ?_, ?_⟩ <;> (intros; omega)
  | succ nn ih =>
    refine ⟨?_, ?_, ?_, ?_⟩
    · intro x2 x3 M hS k2 k3 hnn
      refine n_iload_n c_200_34 rfl (n_aload_n c_200_35 rfl (n_getV (bi := 0) c_200_36 sc_112.n rfl rfl rfl (t_dm hS hdm) ?_))
      intro z1 ez1 f2
      obtain rfl : z1 = 3 := by omega
      refine n_aload_n c_200_39 rfl (n_iconst c_200_40 (n_v1I c_200_41 rfl sc_112.n rfl rfl rfl rfl (mrowsOf2_3  hS hdm) ?_))
      intro z3 M4 hP5
      obtain ⟨eM, f5⟩ := hP5
      subst eM
      obtain rfl : z3 = 9 := by omega
      refine n_s2I c_200_44 rfl rfl rfl rfl (mpower9_3  hS ) ?_
      intro z6 M7 hP8
      obtain ⟨eM, f8⟩ := hP8
      subst eM
      obtain rfl : z6 = 19683 := by omega
      refine n_if2_ge c_200_47 (by omega) (by omega) ?_ ?_
      · intro h9
        refine n_ldc2 (n := (-7)) c_200_86 rfl ?_
        exact n_rJ c_200_89 rfl ⟨hS, by omega⟩
      · intro h10
        refine n_aload_n c_200_50 rfl (n_iload_n c_200_51 rfl (n_i2l c_200_52 (by omega) ?_))
        refine n_aload_n c_200_53 rfl (n_iconst c_200_54 (n_v1I c_200_55 rfl sc_112.n rfl rfl rfl rfl (mrowsOf2_3  hS hdm) ?_))
        intro z11 M12 hP13
        obtain ⟨eM, f13⟩ := hP13
        subst eM
        obtain rfl : z11 = 9 := by omega
        refine n_v2V c_200_58 rfl sc_112.n rfl rfl rfl rfl (mlay_3 (c := x3) (r := 9) (g := (M 112 22)) hS hdm (by omega) (by omega) rfl) ?_
        intro  M14 hP15
        obtain ⟨hS14, f15g0⟩ := hP15
        refine n_aload_n c_200_61 rfl (n_v0I c_200_62 rfl sc_112.n rfl rfl rfl rfl (misHalf_3  hS14 hdm) ?_)
        intro z16 M17 hP18
        obtain ⟨eM, f18⟩ := hP18
        subst eM
        refine n_if0_eq c_200_65 (by omega) ?_ ?_
        · intro h19
          refine n_fg (le_s (le_n (le_s (le_s le_0)))) ?_
          exact ih.2.1 _ _ M14 hS14 (by omega) (by omega) (by omega)
        · intro h20
          refine n_aload_n c_200_68 rfl (n_iconst c_200_69 (n_iload_n c_200_70 rfl (n_v2I c_200_71 rfl sc_112.n rfl rfl rfl rfl (mhandKeeps_3 (m := 2) (k := x2) hS14 hdm (by omega) (by omega)) ?_)))
          intro z21 M22 hP23
          obtain ⟨eM, f23⟩ := hP23
          subst eM
          refine n_if0_eq c_200_74 (by omega) ?_ ?_
          · intro h24
            refine n_fg (le_s (le_n (le_s (le_s le_0)))) ?_
            exact ih.2.1 _ _ M14 hS14 (by omega) (by omega) (by omega)
          · intro h25
            refine n_iload_n c_200_77 rfl (n_i2l c_200_78 (by omega) ?_)
            exact n_rJ c_200_79 rfl ⟨hS14, by omega⟩
    · intro x2 x3 M hS k2 k3 hnn
      refine n_iinc (L2 := [some (2, 112), none, some (0, x2), some (0, (x3 + 1))]) c_200_80 rfl rfl rfl (n_goto c_200_83 (n_fg (le_s (le_n (le_s (le_s le_0)))) ?_))
      exact ih.1 _ _ M hS (by omega) (by omega) (by omega)
    · intro x2 x3 M hS k2 k3 hnn
      refine n_iload_n c_200_92 rfl (n_aload_n c_200_93 rfl (n_getV (bi := 0) c_200_94 sc_112.n rfl rfl rfl (t_dm hS hdm) ?_))
      intro z1 ez1 f2
      obtain rfl : z1 = 3 := by omega
      refine n_iconst c_200_97 ?_
      refine n_if2_ne c_200_98 (by omega) (by omega) ?_ ?_
      · intro h3
        refine n_sipush c_200_105 rfl ?_
        refine n_if2_ge c_200_108 (by omega) (by omega) ?_ ?_
        · intro h4
          refine n_ldc2 (n := (-7)) c_200_136 rfl ?_
          exact n_rJ c_200_139 rfl ⟨hS, by omega⟩
        · intro h5
          refine n_aload_n c_200_111 rfl (n_iload_n c_200_112 rfl (n_v1V c_200_113 rfl sc_112.n rfl rfl rfl rfl (mlayMost_3 (k := x3) hS hdm (by omega)) ?_))
          intro  M6 hP7
          have hS6 := hP7
          refine n_aload_n c_200_116 rfl (n_iconst c_200_117 (n_iload_n c_200_118 rfl (n_v2I c_200_119 rfl sc_112.n rfl rfl rfl rfl (mhandKeeps_3 (m := 3) (k := x2) hS6 hdm (by omega) (by omega)) ?_)))
          intro z8 M9 hP10
          obtain ⟨eM, f10⟩ := hP10
          subst eM
          refine n_if0_eq c_200_122 (by omega) ?_ ?_
          · intro h11
            refine n_iinc (L2 := [some (2, 112), none, some (0, x2), some (0, (x3 + 1))]) c_200_130 rfl rfl rfl (n_goto c_200_133 (n_fg (le_s (le_n (le_s (le_s le_0)))) ?_))
            exact ih.2.2.1 _ _ M6 hS6 (by omega) (by omega) (by omega)
          · intro h12
            refine n_aload_n c_200_125 rfl (n_v0J c_200_126 rfl sc_112.n rfl rfl rfl rfl (mhandCode_3  hS6 hdm) ?_)
            intro z13 M14 hP15
            obtain ⟨eM, f15⟩ := hP15
            subst eM
            exact n_rJ c_200_129 rfl ⟨hS6, by omega⟩
      · intro h16
        exfalso; omega
    · intro x2 x3 M hS k2 k3 hnn
      refine n_iload_n c_200_142 rfl (n_aload_n c_200_143 rfl (n_getV (bi := 0) c_200_144 sc_112.n rfl rfl rfl (t_dm hS hdm) ?_))
      intro z1 ez1 f2
      obtain rfl : z1 = 3 := by omega
      refine n_iconst c_200_147 (n_s2I c_200_148 rfl rfl rfl rfl (mpower3_3  hS ) ?_)
      intro z3 M4 hP5
      obtain ⟨eM, f5⟩ := hP5
      subst eM
      obtain rfl : z3 = 27 := by omega
      refine n_if2_ge c_200_151 (by omega) (by omega) ?_ ?_
      · intro h6
        refine n_aload_n c_200_199 rfl (n_iconst c_200_200 (n_iload_n c_200_201 rfl (n_v2I c_200_202 rfl sc_112.n rfl rfl rfl rfl (mhandKeeps_3 (m := 3) (k := x2) hS hdm (by omega) (by omega)) ?_)))
        intro z7 M8 hP9
        obtain ⟨eM, f9⟩ := hP9
        subst eM
        refine n_if0_eq c_200_205 (by omega) ?_ ?_
        · intro h10
          refine n_ldc2 (n := (-7)) c_200_215 rfl ?_
          exact n_rJ c_200_218 rfl ⟨hS, by omega⟩
        · intro h11
          refine n_aload_n c_200_208 rfl (n_v0J c_200_209 rfl sc_112.n rfl rfl rfl rfl (mhandCode_3  hS hdm) ?_)
          intro z12 M13 hP14
          obtain ⟨eM, f14⟩ := hP14
          subst eM
          refine n_goto c_200_212 ?_
          exact n_rJ c_200_218 rfl ⟨hS, by omega⟩
      · intro h15
        refine n_aload_n c_200_154 rfl (n_getR c_200_155 sc_112.n rfl rfl rfl r_112_19 (n_iload_n c_200_158 rfl (n_aload_n c_200_159 rfl (n_iload_n c_200_160 rfl (n_iconst c_200_161 (n_iconst c_200_162 (n_v3I c_200_163 rfl sc_112.n rfl rfl rfl rfl (mdigit_3 (r := x3) (k := 3) (j := 0) hS hdm (by omega) (by omega) (by omega) (by omega)) ?_)))))))
        intro z16 M17 hP18
        obtain ⟨eM, f18⟩ := hP18
        subst eM
        refine n_aload_n c_200_166 rfl (n_getV (bi := 0) c_200_167 sc_112.n rfl rfl rfl (t_dm hS hdm) ?_)
        intro z19 ez19 f20
        obtain rfl : z19 = 3 := by omega
        refine n_iadd c_200_170 rfl (n_aload_n c_200_171 rfl (n_iload_n c_200_172 rfl (n_iconst c_200_173 (n_iconst c_200_174 (n_v3I c_200_175 rfl sc_112.n rfl rfl rfl rfl (mdigit_3 (r := x3) (k := 3) (j := 1) hS hdm (by omega) (by omega) (by omega) (by omega)) ?_)))))
        intro z21 M22 hP23
        obtain ⟨eM, f23⟩ := hP23
        subst eM
        refine n_isub c_200_178 rfl (n_aload_n c_200_179 rfl (n_iload_n c_200_180 rfl (n_iconst c_200_181 (n_iconst c_200_182 (n_v3I c_200_183 rfl sc_112.n rfl rfl rfl rfl (mdigit_3 (r := x3) (k := 3) (j := 2) hS hdm (by omega) (by omega) (by omega) (by omega)) ?_)))))
        intro z24 M25 hP26
        obtain ⟨eM, f26⟩ := hP26
        subst eM
        refine n_iadd c_200_186 rfl (n_aload_n c_200_187 rfl (n_getV (bi := 0) c_200_188 sc_112.n rfl rfl rfl (t_dm hS hdm) ?_))
        intro z27 ez27 f28
        obtain rfl : z27 = 3 := by omega
        refine n_iremV c_200_191 (by omega) (by omega) ?_
        intro z29 _ f30
        refine n_iastoreV hS c_200_192 sc_127.n rfl (by omega) (w_127 (by omega) (by omega)) ?_
        intro M31 eM31 hS31
        refine n_iinc (L2 := [some (2, 112), none, some (0, x2), some (0, (x3 + 1))]) c_200_193 rfl rfl rfl (n_goto c_200_196 (n_fg (le_s (le_n (le_s (le_s le_0)))) ?_))
        exact ih.2.2.2 _ _ M31 hS31 (by omega) (by omega) (by omega)
set_option maxHeartbeats 4000000 in
theorem mquick_3 {xs : List Int32} {e : Nat} {ac : Int} {M0 M : nM} {k : Int} (hS : Sf 3 ac M0 M) (hdm : M0 112 0 = 3) (hk : -2147483648 ≤ k ∧ k ≤ 2147483647) : nW xs (e + 4) 200 0 [some (2, 112), some (0, k), none, none] [] M (nPJ fun z M1 => Sf 3 ac M0 M1 ∧ (-9223372036854775808 ≤ z ∧ z ≤ 9223372036854775807)) := by
  have hd : (3 : Int) = 2 ∨ (3 : Int) = 3 := by decide
  have hac := hS.2.2.2.2
  refine n_aload_n c_200_0 rfl (n_v0I c_200_1 rfl sc_112.n rfl rfl rfl rfl (masked_3  hS hdm) ?_)
  intro z1 M2 hP3
  obtain ⟨eM, f3⟩ := hP3
  subst eM
  refine n_istore_n (L2 := [some (2, 112), some (0, k), some (0, z1), none]) c_200_4 rfl rfl (n_iload_n c_200_5 rfl ?_)
  refine n_sw c_200_6 (by omega) (by decide) ?_ ?_
  · intro h4
    refine n_pc (k2 := 219) rfl (n_ldc2 (n := (-1)) c_200_219 rfl ?_)
    exact n_rJ c_200_222 rfl ⟨hS, by omega⟩
  · intro h5 h5b
    rcases (show k = 0 ∨ k = 1 ∨ k = 2 by omega) with h5c | h5c | h5c
    · refine ⟨_, by rw [h5c]; rfl, by decide, ?_⟩
      refine n_pc (k2 := 32) rfl (n_iconst c_200_32 (n_istore_n (L2 := [some (2, 112), some (0, k), some (0, z1), some (0, 0)]) c_200_33 rfl rfl (n_fg (le_s (le_n (le_s (le_s le_0)))) ?_)))
      exact (mquick_3_c hS hdm hk 80270).1 _ _ M hS (by omega) (by omega) (by omega)
    · refine ⟨_, by rw [h5c]; rfl, by decide, ?_⟩
      refine n_pc (k2 := 90) rfl (n_iconst c_200_90 (n_istore_n (L2 := [some (2, 112), some (0, k), some (0, z1), some (0, 0)]) c_200_91 rfl rfl (n_fg (le_s (le_n (le_s (le_s le_0)))) ?_)))
      exact (mquick_3_c hS hdm hk 80270).2.2.1 _ _ M hS (by omega) (by omega) (by omega)
    · refine ⟨_, by rw [h5c]; rfl, by decide, ?_⟩
      refine n_pc (k2 := 140) rfl (n_iconst c_200_140 (n_istore_n (L2 := [some (2, 112), some (0, k), some (0, z1), some (0, 0)]) c_200_141 rfl rfl (n_fg (le_s (le_n (le_s (le_s le_0)))) ?_)))
      exact (mquick_3_c hS hdm hk 80270).2.2.2 _ _ M hS (by omega) (by omega) (by omega)

set_option maxHeartbeats 4000000 in
theorem mfits_3_c {xs : List Int32} {e : Nat} {ac : Int} {M0 M : nM} {q r : Int} (hS : Sf 3 ac M0 M) (hdm : M0 112 0 = 3) (hq : 0 ≤ q ∧ q ≤ 29) (hr : 0 ≤ r ∧ r ≤ 26) (hq2 : q < M 112 11) : ∀ nn : Nat, (∀ (x3 x4 : Int), (0 ≤ x3 ∧ x3 ≤ 3) → (0 ≤ x4 ∧ x4 ≤ 3) → (x3 = M 118 (M 120 q)) → (3 - x4) * 9 + 9 < (nn : Int) → nW xs (e + 2) 190 15 [some (2, 112), some (0, q), some (0, r), some (0, x3), some (0, x4), none, none, none] [] M (nPI fun z M1 => M = M1 ∧ (0 ≤ z ∧ z ≤ 1))) ∧ (∀ (x3 x4 x5 x6 x7 : Int), (1 ≤ x3 ∧ x3 ≤ 3) → (0 ≤ x4 ∧ x4 ≤ 2) → (0 ≤ x5 ∧ x5 ≤ 7) → (0 ≤ x6 ∧ x6 ≤ 2) → (0 ≤ x7 ∧ x7 ≤ 2) → (x4 < x3) → (x3 = M 118 (M 120 q)) → (3 - x4) * 9 + (2 - x7) * 2 + 2 < (nn : Int) → nW xs (e + 2) 190 64 [some (2, 112), some (0, q), some (0, r), some (0, x3), some (0, x4), some (0, x5), some (0, x6), some (0, x7)] [] M (nPI fun z M1 => M = M1 ∧ (0 ≤ z ∧ z ≤ 1))) ∧ (∀ (x3 x4 x5 x6 x7 : Int), (1 ≤ x3 ∧ x3 ≤ 3) → (1 ≤ x4 ∧ x4 ≤ 2) → (0 ≤ x5 ∧ x5 ≤ 7) → (0 ≤ x6 ∧ x6 ≤ 2) → (0 ≤ x7 ∧ x7 ≤ 1) → (x4 < x3) → (x7 < x4) → (x3 = M 118 (M 120 q)) → (3 - x4) * 9 + (2 - x7) * 2 + 1 < (nn : Int) → nW xs (e + 2) 190 102 [some (2, 112), some (0, q), some (0, r), some (0, x3), some (0, x4), some (0, x5), some (0, x6), some (0, x7)] [] M (nPI fun z M1 => M = M1 ∧ (0 ≤ z ∧ z ≤ 1))) := by
  have hd : (3 : Int) = 2 ∨ (3 : Int) = 3 := by decide
  have hac := hS.2.2.2.2
  intro nn
  induction nn with
  | zero => refine ⟨?_, ?_, ?_⟩ <;> (intros; omega)
  | succ nn ih =>
    refine ⟨?_, ?_, ?_⟩
    · intro x3 x4 k3 k4 v0 hnn
      refine n_iload c_190_15 rfl (n_iload_n c_190_17 rfl ?_)
      refine n_if2_ge c_190_18 (by omega) (by omega) ?_ ?_
      · intro h1
        refine n_iconst c_190_114 ?_
        exact n_rZ c_190_115 rfl (by omega) ⟨rfl, by omega⟩
      · intro h2
        refine n_aload_n c_190_21 rfl (n_getR c_190_22 sc_112.n rfl rfl rfl r_112_13 (n_iconst c_190_25 (n_iload_n c_190_26 rfl (n_imul c_190_27 rfl (n_iload c_190_28 rfl (n_iadd c_190_30 rfl (n_ialoadV c_190_31 sc_121.n rfl rfl rfl (by omega) (t_121 hS (by omega)) ?_)))))))
        intro z3 ez3 f4
        have f5 := t_ask (q := q) (j := x4) hS (by omega) (by omega) (by omega) (by omega)
        have f5u := t_112_10 hS
        refine n_istore (L2 := [some (2, 112), some (0, q), some (0, r), some (0, x3), some (0, x4), some (0, z3), none, none]) c_190_32 rfl rfl (n_aload_n c_190_34 rfl (n_iload_n c_190_35 rfl (n_iload_n c_190_36 rfl (n_iload c_190_37 rfl (n_v3I c_190_39 rfl sc_112.n rfl rfl rfl rfl (mdigit_3 (r := r) (k := x3) (j := x4) hS hdm (by omega) (by omega) (by omega) (by omega)) ?_)))))
        intro z6 M7 hP8
        obtain ⟨eM, f8⟩ := hP8
        subst eM
        refine n_istore (L2 := [some (2, 112), some (0, q), some (0, r), some (0, x3), some (0, x4), some (0, z3), some (0, z6), none]) c_190_42 rfl rfl (n_aload_n c_190_44 rfl (n_getR c_190_45 sc_112.n rfl rfl rfl r_112_24 (n_iload c_190_48 rfl (n_ialoadV c_190_50 sc_129.n rfl rfl rfl (by omega) (t_129 hS (by omega)) ?_))))
        intro z9 ez9 f10
        refine n_iload c_190_51 rfl (n_i_ishr c_190_53 rfl ?_)
        have f11 := n_shr_r z9 z6
        generalize (n_shr z9 z6) = z12 at f11 ⊢
        refine n_iconst c_190_54 (n_i_iand c_190_55 rfl ?_)
        have f13 := n_and_y (x := z12) (y := 1) (by omega)
        generalize (n_and z12 1) = z14 at f13 ⊢
        refine n_if0_ne c_190_56 (by omega) ?_ ?_
        · intro h15
          refine n_iconst c_190_61 (n_istore (L2 := [some (2, 112), some (0, q), some (0, r), some (0, x3), some (0, x4), some (0, z3), some (0, z6), some (0, 0)]) c_190_62 rfl rfl (n_fg (le_s (le_s (le_s (le_s (le_s (le_s (le_s (le_s le_0)))))))) ?_))
          exact ih.2.1 _ _ _ _ _ (by omega) (by omega) (by omega) (by omega) (by omega) (by omega) (by first | omega | (subst_vars; rfl)) (by omega)
        · intro h16
          refine n_iconst c_190_59 ?_
          exact n_rZ c_190_60 rfl (by omega) ⟨rfl, by omega⟩
    · intro x3 x4 x5 x6 x7 k3 k4 k5 k6 k7 v0 v1 hnn
      refine n_iload c_190_64 rfl (n_iload c_190_66 rfl ?_)
      refine n_if2_ge c_190_68 (by omega) (by omega) ?_ ?_
      · intro h1
        refine n_iinc (L2 := [some (2, 112), some (0, q), some (0, r), some (0, x3), some (0, (x4 + 1)), some (0, x5), some (0, x6), some (0, x7)]) c_190_108 rfl rfl rfl (n_goto c_190_111 (n_fg (le_s (le_s (le_s (le_s (le_s (le_n (le_n (le_n le_0)))))))) ?_))
        exact ih.1 _ _ (by omega) (by omega) (by first | omega | (subst_vars; rfl)) (by omega)
      · intro h2
        refine n_aload_n c_190_71 rfl (n_getR c_190_72 sc_112.n rfl rfl rfl r_112_13 (n_iconst c_190_75 (n_iload_n c_190_76 rfl (n_imul c_190_77 rfl (n_iload c_190_78 rfl (n_iadd c_190_80 rfl (n_ialoadV c_190_81 sc_121.n rfl rfl rfl (by omega) (t_121 hS (by omega)) ?_)))))))
        intro z3 ez3 f4
        refine n_iload c_190_82 rfl ?_
        refine n_if2_ne c_190_84 (by omega) (by omega) ?_ ?_
        · intro h5
          refine n_fg (le_s (le_s (le_s (le_s (le_s (le_s (le_s (le_s le_0)))))))) ?_
          exact ih.2.2 _ _ _ _ _ (by omega) (by omega) (by omega) (by omega) (by omega) (by omega) (by omega) (by first | omega | (subst_vars; rfl)) (by omega)
        · intro h6
          refine n_aload_n c_190_87 rfl (n_iload_n c_190_88 rfl (n_iload_n c_190_89 rfl (n_iload c_190_90 rfl (n_v3I c_190_92 rfl sc_112.n rfl rfl rfl rfl (mdigit_3 (r := r) (k := x3) (j := x7) hS hdm (by omega) (by omega) (by omega) (by omega)) ?_))))
          intro z7 M8 hP9
          obtain ⟨eM, f9⟩ := hP9
          subst eM
          refine n_iload c_190_95 rfl ?_
          refine n_if2_eq c_190_97 (by omega) (by omega) ?_ ?_
          · intro h10
            refine n_fg (le_s (le_s (le_s (le_s (le_s (le_s (le_s (le_s le_0)))))))) ?_
            exact ih.2.2 _ _ _ _ _ (by omega) (by omega) (by omega) (by omega) (by omega) (by omega) (by omega) (by first | omega | (subst_vars; rfl)) (by omega)
          · intro h11
            refine n_iconst c_190_100 ?_
            exact n_rZ c_190_101 rfl (by omega) ⟨rfl, by omega⟩
    · intro x3 x4 x5 x6 x7 k3 k4 k5 k6 k7 v0 v1 v2 hnn
      refine n_iinc (L2 := [some (2, 112), some (0, q), some (0, r), some (0, x3), some (0, x4), some (0, x5), some (0, x6), some (0, (x7 + 1))]) c_190_102 rfl rfl rfl (n_goto c_190_105 (n_fg (le_s (le_s (le_s (le_s (le_s (le_s (le_s (le_s le_0)))))))) ?_))
      exact ih.2.1 _ _ _ _ _ (by omega) (by omega) (by omega) (by omega) (by omega) (by omega) (by first | omega | (subst_vars; rfl)) (by omega)
set_option maxHeartbeats 4000000 in
theorem mfits_3 {xs : List Int32} {e : Nat} {ac : Int} {M0 M : nM} {q r : Int} (hS : Sf 3 ac M0 M) (hdm : M0 112 0 = 3) (hq : 0 ≤ q ∧ q ≤ 29) (hr : 0 ≤ r ∧ r ≤ 26) (hq2 : q < M 112 11) : nW xs (e + 2) 190 0 [some (2, 112), some (0, q), some (0, r), none, none, none, none, none] [] M (nPI fun z M1 => M = M1 ∧ (0 ≤ z ∧ z ≤ 1)) := by
  have hd : (3 : Int) = 2 ∨ (3 : Int) = 3 := by decide
  have hac := hS.2.2.2.2
  refine n_aload_n c_190_0 rfl (n_getR c_190_1 sc_112.n rfl rfl rfl r_112_8 (n_aload_n c_190_4 rfl (n_getR c_190_5 sc_112.n rfl rfl rfl r_112_12 (n_iload_n c_190_8 rfl (n_ialoadV c_190_9 sc_120.n rfl rfl rfl (by omega) (t_120 hS (by omega)) ?_)))))
  intro z1 ez1 f2
  refine n_ialoadV c_190_10 sc_118.n rfl rfl rfl (by omega) (t_118 hS (by omega)) ?_
  intro z3 ez3 f4
  refine n_istore_n (L2 := [some (2, 112), some (0, q), some (0, r), some (0, z3), none, none, none, none]) c_190_11 rfl rfl (n_iconst c_190_12 (n_istore (L2 := [some (2, 112), some (0, q), some (0, r), some (0, z3), some (0, 0), none, none, none]) c_190_13 rfl rfl (n_fg (le_s (le_s (le_s (le_s (le_s (le_n (le_n (le_n le_0)))))))) ?_)))
  exact (mfits_3_c hS hdm hq hr hq2 100).1 _ _ (by omega) (by omega) (by first | omega | (subst_vars; rfl)) (by omega)

/-! The methods, by program. -/
set_option maxHeartbeats 4000000 in
theorem misAnswer_3_c {xs : List Int32} {e : Nat} {ac : Int} {M0 M : nM} {n : Int} (hS : Sf 3 ac M0 M) (hdm : M0 112 0 = 3) (hn : 0 ≤ n ∧ n ≤ 19682) : ∀ nn : Nat, (∀ (x2 : Int), (0 ≤ x2 ∧ x2 ≤ 30) → (30 - x2) * 6 + 6 < (nn : Int) → nW xs (e + 2) 193 2 [some (2, 112), some (0, n), some (0, x2), none, none, none] [] M (nPI fun z M1 => M = M1 ∧ (0 ≤ z ∧ z ≤ 1))) ∧ (∀ (x2 x3 x4 x5 : Int), (0 ≤ x2 ∧ x2 ≤ 29) → (0 ≤ x3 ∧ x3 ≤ 11) → (-2147483648 ≤ x4 ∧ x4 ≤ 2147483647) → (0 ≤ x5 ∧ x5 ≤ 3) → (x3 = M 120 x2) → (x2 < M 112 11) → (30 - x2) * 6 + (3 - x5) * 1 + 1 < (nn : Int) → nW xs (e + 2) 193 23 [some (2, 112), some (0, n), some (0, x2), some (0, x3), some (0, x4), some (0, x5)] [] M (nPI fun z M1 => M = M1 ∧ (0 ≤ z ∧ z ≤ 1))) := by
  have hd : (3 : Int) = 2 ∨ (3 : Int) = 3 := by decide
  have hac := hS.2.2.2.2
  intro nn
  induction nn with
  | zero => refine ⟨?_, ?_⟩ <;> (intros; omega)
  | succ nn ih =>
    refine ⟨?_, ?_⟩
    · intro x2 k2 hnn
      refine n_iload_n c_193_2 rfl (n_aload_n c_193_3 rfl (n_getV (bi := 11) c_193_4 sc_112.n rfl rfl rfl (t_112_11 hS) ?_))
      intro z1 ez1 f2
      refine n_if2_ge c_193_7 (by omega) (by omega) ?_ ?_
      · intro h3
        refine n_iconst c_193_94 ?_
        exact n_rZ c_193_95 rfl (by omega) ⟨rfl, by omega⟩
      · intro h4
        refine n_aload_n c_193_10 rfl (n_getR c_193_11 sc_112.n rfl rfl rfl r_112_12 (n_iload_n c_193_14 rfl (n_ialoadV c_193_15 sc_120.n rfl rfl rfl (by omega) (t_120 hS (by omega)) ?_)))
        intro z5 ez5 f6
        refine n_istore_n (L2 := [some (2, 112), some (0, n), some (0, x2), some (0, z5), none, none]) c_193_16 rfl rfl (n_iconst c_193_17 (n_istore (L2 := [some (2, 112), some (0, n), some (0, x2), some (0, z5), some (0, 0), none]) c_193_18 rfl rfl (n_iconst c_193_20 (n_istore (L2 := [some (2, 112), some (0, n), some (0, x2), some (0, z5), some (0, 0), some (0, 0)]) c_193_21 rfl rfl (n_fg (le_s (le_s (le_s (le_s (le_s (le_s le_0)))))) ?_)))))
        exact ih.2 _ _ _ _ (by omega) (by omega) (by omega) (by omega) (by omega) (by omega) (by omega)
    · intro x2 x3 x4 x5 k2 k3 k4 k5 v0 v1 hnn
      refine n_iload c_193_23 rfl (n_aload_n c_193_25 rfl (n_getR c_193_26 sc_112.n rfl rfl rfl r_112_8 (n_iload_n c_193_29 rfl (n_ialoadV c_193_30 sc_118.n rfl rfl rfl (by omega) (t_118 hS (by omega)) ?_))))
      intro z1 ez1 f2
      refine n_if2_ge c_193_31 (by omega) (by omega) ?_ ?_
      · intro h3
        refine n_aload_n c_193_70 rfl (n_getR c_193_71 sc_112.n rfl rfl rfl r_112_9 (n_iload_n c_193_74 rfl (n_laloadV c_193_75 sc_119.n rfl rfl rfl (by omega) (t_119 hS (by omega)) ?_)))
        intro z4 ez4 f5
        refine n_iload c_193_76 rfl (n_i_lshr c_193_78 rfl ?_)
        have f6 := n_lshr_r z4 x4
        generalize (n_lshr z4 x4) = z7 at f6 ⊢
        refine n_lconst (n := 1) c_193_79 rfl (n_i_land c_193_80 rfl ?_)
        have f8 := n_land_r z7 1
        generalize (n_land z7 1) = z9 at f8 ⊢
        refine n_lconst (n := 0) c_193_81 rfl (n_lcmp c_193_82 ?_)
        refine n_lif_ne c_193_83 (by omega) (by omega) ?_ ?_
        · intro h10
          refine n_iinc (L2 := [some (2, 112), some (0, n), some (0, (x2 + 1)), some (0, x3), some (0, x4), some (0, x5)]) c_193_88 rfl rfl rfl (n_goto c_193_91 (n_fg (le_s (le_s (le_s (le_n (le_n (le_n le_0)))))) ?_))
          exact ih.1 _ (by omega) (by omega)
        · intro h11
          refine n_iconst c_193_86 ?_
          exact n_rZ c_193_87 rfl (by omega) ⟨rfl, by omega⟩
      · intro h12
        refine n_iload c_193_34 rfl (n_aload_n c_193_36 rfl (n_getV (bi := 0) c_193_37 sc_112.n rfl rfl rfl (t_dm hS hdm) ?_))
        intro z13 ez13 f14
        obtain rfl : z13 = 3 := by omega
        refine n_imul c_193_40 rfl (n_wrap ?_)
        have f15 := n_wr_r (x4 * 3)
        generalize n_wr (x4 * 3) = z16 at f15 ⊢
        refine n_aload_n c_193_41 rfl (n_iload_n c_193_42 rfl (n_aload_n c_193_43 rfl (n_getV (bi := 10) c_193_44 sc_112.n rfl rfl rfl (t_112_10 hS) ?_)))
        intro z17 ez17 f18
        refine n_aload_n c_193_47 rfl (n_getR c_193_48 sc_112.n rfl rfl rfl r_112_13 (n_iconst c_193_51 (n_iload_n c_193_52 rfl (n_imul c_193_53 rfl (n_iload c_193_54 rfl (n_iadd c_193_56 rfl (n_ialoadV c_193_57 sc_121.n rfl rfl rfl (by omega) (t_121 hS (by omega)) ?_)))))))
        intro z19 ez19 f20
        have f21c := congrArg (M 118) v0
        have f21 := t_ask (q := x2) (j := x5) hS (by omega) (by omega) (by omega) (by omega)
        have f21u := t_112_10 hS
        refine n_v3I c_193_58 rfl sc_112.n rfl rfl rfl rfl (mdigit_3 (r := n) (k := z17) (j := z19) hS hdm (by omega) (by omega) (by omega) (by omega)) ?_
        intro z22 M23 hP24
        obtain ⟨eM, f24⟩ := hP24
        subst eM
        refine n_iadd c_193_61 rfl (n_wrap ?_)
        have f25 := n_wr_r (z16 + z22)
        generalize n_wr (z16 + z22) = z26 at f25 ⊢
        refine n_istore (L2 := [some (2, 112), some (0, n), some (0, x2), some (0, x3), some (0, z26), some (0, x5)]) c_193_62 rfl rfl (n_iinc (L2 := [some (2, 112), some (0, n), some (0, x2), some (0, x3), some (0, z26), some (0, (x5 + 1))]) c_193_64 rfl rfl rfl (n_goto c_193_67 (n_fg (le_s (le_s (le_s (le_s (le_s (le_s le_0)))))) ?_)))
        exact ih.2 _ _ _ _ (by omega) (by omega) (by omega) (by omega) (by omega) (by omega) (by omega)
set_option maxHeartbeats 4000000 in
theorem misAnswer_3 {xs : List Int32} {e : Nat} {ac : Int} {M0 M : nM} {n : Int} (hS : Sf 3 ac M0 M) (hdm : M0 112 0 = 3) (hn : 0 ≤ n ∧ n ≤ 19682) : nW xs (e + 2) 193 0 [some (2, 112), some (0, n), none, none, none, none] [] M (nPI fun z M1 => M = M1 ∧ (0 ≤ z ∧ z ≤ 1)) := by
  have hd : (3 : Int) = 2 ∨ (3 : Int) = 3 := by decide
  have hac := hS.2.2.2.2
  refine n_iconst c_193_0 (n_istore_n (L2 := [some (2, 112), some (0, n), some (0, 0), none, none, none]) c_193_1 rfl rfl (n_fg (le_s (le_s (le_s (le_n (le_n (le_n le_0)))))) ?_))
  exact (misAnswer_3_c hS hdm hn 394).1 _ (by omega) (by omega)

set_option maxHeartbeats 4000000 in
theorem manswers_3_c {xs : List Int32} {e : Nat} {ac : Int} {M0 M : nM} (hS : Sf 3 ac M0 M) (hdm : M0 112 0 = 3) : ∀ nn : Nat, (∀ (x1 x2 : Int), (-2147483648 ≤ x1 ∧ x1 ≤ 2147483647) → (0 ≤ x2 ∧ x2 ≤ 19683) → (19683 - x2) * 1 + 1 < (nn : Int) → nW xs (e + 3) 194 4 [some (2, 112), some (0, x1), some (0, x2)] [] M (nPI fun z M1 => M = M1 ∧ (-2147483648 ≤ z ∧ z ≤ 2147483647))) := by
  have hd : (3 : Int) = 2 ∨ (3 : Int) = 3 := by decide
  have hac := hS.2.2.2.2
  intro nn
  induction nn with
  | zero => intros; omega
  | succ nn ih =>
    intro x1 x2 k1 k2 hnn
    refine n_iload_n c_194_4 rfl (n_aload_n c_194_5 rfl (n_getV (bi := 0) c_194_6 sc_112.n rfl rfl rfl (t_dm hS hdm) ?_))
    intro z1 ez1 f2
    obtain rfl : z1 = 3 := by omega
    refine n_aload_n c_194_9 rfl (n_getV (bi := 10) c_194_10 sc_112.n rfl rfl rfl (t_112_10 hS) ?_)
    intro z3 ez3 f4
    refine n_s2I c_194_13 rfl rfl rfl rfl (mpowerU_3 (n := z3) hS (by omega)) ?_
    intro z5 M6 hP7
    obtain ⟨eM, f7⟩ := hP7
    subst eM
    refine n_if2_ge c_194_16 (by omega) (by omega) ?_ ?_
    · intro h8
      refine n_iload_n c_194_41 rfl ?_
      exact n_rI c_194_42 rfl ⟨rfl, by omega⟩
    · intro h9
      refine n_iload_n c_194_19 rfl (n_aload_n c_194_20 rfl (n_iload_n c_194_21 rfl (n_v1I c_194_22 rfl sc_112.n rfl rfl rfl rfl (misAnswer_3 (n := x2) hS hdm (by omega)) ?_)))
      intro z10 M11 hP12
      obtain ⟨eM, f12⟩ := hP12
      subst eM
      refine n_if0_eq c_194_25 (by omega) ?_ ?_
      · intro h13
        refine n_iconst c_194_32 (n_iadd c_194_33 rfl (n_istore_n (L2 := [some (2, 112), some (0, (x1 + 0)), some (0, x2)]) c_194_34 rfl rfl (n_iinc (L2 := [some (2, 112), some (0, (x1 + 0)), some (0, (x2 + 1))]) c_194_35 rfl rfl rfl (n_goto c_194_38 (n_fg (le_s (le_s (le_s le_0))) ?_)))))
        exact ih _ _ (by omega) (by omega) (by omega)
      · intro h14
        refine n_iconst c_194_28 (n_goto c_194_29 (n_iadd c_194_33 rfl (n_wrap ?_)))
        have f15 := n_wr_r (x1 + 1)
        generalize n_wr (x1 + 1) = z16 at f15 ⊢
        refine n_istore_n (L2 := [some (2, 112), some (0, z16), some (0, x2)]) c_194_34 rfl rfl (n_iinc (L2 := [some (2, 112), some (0, z16), some (0, (x2 + 1))]) c_194_35 rfl rfl rfl (n_goto c_194_38 (n_fg (le_s (le_s (le_s le_0))) ?_)))
        exact ih _ _ (by omega) (by omega) (by omega)
set_option maxHeartbeats 4000000 in
theorem manswers_3 {xs : List Int32} {e : Nat} {ac : Int} {M0 M : nM} (hS : Sf 3 ac M0 M) (hdm : M0 112 0 = 3) : nW xs (e + 3) 194 0 [some (2, 112), none, none] [] M (nPI fun z M1 => M = M1 ∧ (-2147483648 ≤ z ∧ z ≤ 2147483647)) := by
  have hd : (3 : Int) = 2 ∨ (3 : Int) = 3 := by decide
  have hac := hS.2.2.2.2
  refine n_iconst c_194_0 (n_istore_n (L2 := [some (2, 112), some (0, 0), none]) c_194_1 rfl rfl (n_iconst c_194_2 (n_istore_n (L2 := [some (2, 112), some (0, 0), some (0, 0)]) c_194_3 rfl rfl (n_fg (le_s (le_s (le_s le_0))) ?_))))
  exact (manswers_3_c hS hdm 39380) _ _ (by omega) (by omega) (by omega)

set_option maxHeartbeats 4000000 in
theorem manswer_3_c {xs : List Int32} {e : Nat} {ac : Int} {M0 M : nM} {i : Int} (hS : Sf 3 ac M0 M) (hdm : M0 112 0 = 3) (hi : -2147483648 ≤ i ∧ i ≤ 2147483647) : ∀ nn : Nat, (∀ (x2 x3 : Int), (-2147483648 ≤ x2 ∧ x2 ≤ 2147483647) → (0 ≤ x3 ∧ x3 ≤ 19683) → (19683 - x3) * 2 + 3 < (nn : Int) → nW xs (e + 3) 195 4 [some (2, 112), none, some (0, x2), some (0, x3)] [] M (nPI fun z M1 => M = M1 ∧ (-2147483648 ≤ z ∧ z ≤ 2147483647))) ∧ (∀ (x2 x3 : Int), (0 ≤ x2 ∧ x2 ≤ 2147483647) → (0 ≤ x3 ∧ x3 ≤ 19682) → (19683 - x3) * 2 + 2 < (nn : Int) → nW xs (e + 3) 195 40 [some (2, 112), none, some (0, x2), some (0, x3)] [] M (nPI fun z M1 => M = M1 ∧ (-2147483648 ≤ z ∧ z ≤ 2147483647))) ∧ (1 < (nn : Int) → nW xs (e + 3) 195 46 [none, none, none, none] [] M (nPI fun z M1 => M = M1 ∧ (-2147483648 ≤ z ∧ z ≤ 2147483647))) := by
  have hd : (3 : Int) = 2 ∨ (3 : Int) = 3 := by decide
  have hac := hS.2.2.2.2
  intro nn
  induction nn with
  | zero => refine ⟨?_, ?_, ?_⟩ <;> (intros; omega)
  | succ nn ih =>
    refine ⟨?_, ?_, ?_⟩
    · intro x2 x3 k2 k3 hnn
      refine n_iload_n c_195_4 rfl (n_aload_n c_195_5 rfl (n_getV (bi := 0) c_195_6 sc_112.n rfl rfl rfl (t_dm hS hdm) ?_))
      intro z1 ez1 f2
      obtain rfl : z1 = 3 := by omega
      refine n_aload_n c_195_9 rfl (n_getV (bi := 10) c_195_10 sc_112.n rfl rfl rfl (t_112_10 hS) ?_)
      intro z3 ez3 f4
      refine n_s2I c_195_13 rfl rfl rfl rfl (mpowerU_3 (n := z3) hS (by omega)) ?_
      intro z5 M6 hP7
      obtain ⟨eM, f7⟩ := hP7
      subst eM
      refine n_if2_ge c_195_16 (by omega) (by omega) ?_ ?_
      · intro h8
        refine n_fg (le_n (le_n (le_n (le_n le_0)))) ?_
        exact ih.2.2   (by omega)
      · intro h9
        refine n_iload_n c_195_19 rfl ?_
        refine n_if0_lt c_195_20 (by omega) ?_ ?_
        · intro h10
          refine n_fg (le_n (le_n (le_n (le_n le_0)))) ?_
          exact ih.2.2   (by omega)
        · intro h11
          refine n_aload_n c_195_23 rfl (n_iload_n c_195_24 rfl (n_v1I c_195_25 rfl sc_112.n rfl rfl rfl rfl (misAnswer_3 (n := x3) hS hdm (by omega)) ?_))
          intro z12 M13 hP14
          obtain ⟨eM, f14⟩ := hP14
          subst eM
          refine n_if0_eq c_195_28 (by omega) ?_ ?_
          · intro h15
            refine n_fg (le_s (le_n (le_s (le_s le_0)))) ?_
            exact ih.2.1 _ _ (by omega) (by omega) (by omega)
          · intro h16
            refine n_iload_n c_195_31 rfl ?_
            refine n_if0_ne c_195_32 (by omega) ?_ ?_
            · intro h17
              refine n_iinc (L2 := [some (2, 112), none, some (0, (x2 + (-1))), some (0, x3)]) c_195_37 rfl rfl rfl (n_fg (le_s (le_n (le_s (le_s le_0)))) ?_)
              exact ih.2.1 _ _ (by omega) (by omega) (by omega)
            · intro h18
              refine n_iload_n c_195_35 rfl ?_
              exact n_rI c_195_36 rfl ⟨rfl, by omega⟩
    · intro x2 x3 k2 k3 hnn
      refine n_iinc (L2 := [some (2, 112), none, some (0, x2), some (0, (x3 + 1))]) c_195_40 rfl rfl rfl (n_goto c_195_43 (n_fg (le_s (le_n (le_s (le_s le_0)))) ?_))
      exact ih.1 _ _ (by omega) (by omega) (by omega)
    · intro hnn
      refine n_iconst c_195_46 ?_
      exact n_rI c_195_47 rfl ⟨rfl, by omega⟩
set_option maxHeartbeats 4000000 in
theorem manswer_3 {xs : List Int32} {e : Nat} {ac : Int} {M0 M : nM} {i : Int} (hS : Sf 3 ac M0 M) (hdm : M0 112 0 = 3) (hi : -2147483648 ≤ i ∧ i ≤ 2147483647) : nW xs (e + 3) 195 0 [some (2, 112), some (0, i), none, none] [] M (nPI fun z M1 => M = M1 ∧ (-2147483648 ≤ z ∧ z ≤ 2147483647)) := by
  have hd : (3 : Int) = 2 ∨ (3 : Int) = 3 := by decide
  have hac := hS.2.2.2.2
  refine n_iload_n c_195_0 rfl (n_istore_n (L2 := [some (2, 112), some (0, i), some (0, i), none]) c_195_1 rfl rfl (n_iconst c_195_2 (n_istore_n (L2 := [some (2, 112), some (0, i), some (0, i), some (0, 0)]) c_195_3 rfl rfl (n_fg (le_s (le_n (le_s (le_s le_0)))) ?_))))
  exact (manswer_3_c hS hdm hi 78752).1 _ _ (by omega) (by omega) (by omega)

set_option maxHeartbeats 4000000 in
theorem mnarrows_3_c {xs : List Int32} {e : Nat} {ac : Int} {M0 M : nM} (hS : Sf 3 ac M0 M) (hdm : M0 112 0 = 3) : ∀ nn : Nat, (∀ (x1 : Int) (M : nM), Sf 3 ac M0 M → (0 ≤ x1 ∧ x1 ≤ 8) → (0 ≤ wcan M ∧ wcan M ≤ 56) → 100000000 + (8 - x1) < (nn : Int) → nW xs (e + 3) 191 2 [some (2, 112), some (0, x1), none, none, none, none, none, none] [] M (nPV fun M1 => Sf 3 ac M0 M1)) ∧ (∀ (x1 : Int) (M : nM), Sf 3 ac M0 M → (0 ≤ x1 ∧ x1 ≤ 1) → (0 ≤ wcan M) → (2 * wcan M + x1) * 10000 < (nn : Int) → nW xs (e + 3) 191 32 [some (2, 112), some (0, x1), none, none, none, none, none, none] [] M (nPV fun M1 => Sf 3 ac M0 M1)) ∧ (∀ (x1 x2 : Int) (M : nM), Sf 3 ac M0 M → (0 ≤ x1 ∧ x1 ≤ 1) → (0 ≤ x2 ∧ x2 ≤ 30) → (0 ≤ wcan M) → (2 * wcan M + x1) * 10000 + (30 - x2) * 300 + 299 < (nn : Int) → nW xs (e + 3) 191 40 [some (2, 112), some (0, x1), some (0, x2), none, none, none, none, none] [] M (nPV fun M1 => Sf 3 ac M0 M1)) ∧ (∀ (x1 x2 x3 x4 x5 : Int) (M : nM), Sf 3 ac M0 M → (0 ≤ x1 ∧ x1 ≤ 1) → (0 ≤ x2 ∧ x2 ≤ 29) → (0 ≤ x3 ∧ x3 ≤ 11) → (0 ≤ x4 ∧ x4 ≤ 3) → (0 ≤ x5 ∧ x5 ≤ 3) → (x3 = M0 120 x2) → (x4 = M0 118 x3) → (x2 < M0 112 11) → (0 ≤ wcan M) → (2 * wcan M + x1) * 10000 + (30 - x2) * 300 + (3 - x5) * 60 + 59 < (nn : Int) → nW xs (e + 3) 191 66 [some (2, 112), some (0, x1), some (0, x2), some (0, x3), some (0, x4), some (0, x5), none, none] [] M (nPV fun M1 => Sf 3 ac M0 M1)) ∧ (∀ (x1 x2 x3 x4 x5 x6 x7 : Int) (M : nM), Sf 3 ac M0 M → (0 ≤ x1 ∧ x1 ≤ 1) → (0 ≤ x2 ∧ x2 ≤ 29) → (0 ≤ x3 ∧ x3 ≤ 11) → (1 ≤ x4 ∧ x4 ≤ 3) → (0 ≤ x5 ∧ x5 ≤ 2) → (0 ≤ x6 ∧ x6 ≤ 7) → (0 ≤ x7 ∧ x7 ≤ 27) → (x3 = M0 120 x2) → (x4 = M0 118 x3) → (x2 < M0 112 11) → (x5 < x4) → (0 ≤ wcan M) → (2 * wcan M + x1) * 10000 + (30 - x2) * 300 + (3 - x5) * 60 + (27 - x7) * 2 + 2 < (nn : Int) → nW xs (e + 3) 191 79 [some (2, 112), some (0, x1), some (0, x2), some (0, x3), some (0, x4), some (0, x5), some (0, x6), some (0, x7)] [] M (nPV fun M1 => Sf 3 ac M0 M1)) ∧ (∀ (x1 x2 x3 x4 x5 x6 x7 : Int) (M : nM), Sf 3 ac M0 M → (0 ≤ x1 ∧ x1 ≤ 1) → (0 ≤ x2 ∧ x2 ≤ 29) → (0 ≤ x3 ∧ x3 ≤ 11) → (1 ≤ x4 ∧ x4 ≤ 3) → (0 ≤ x5 ∧ x5 ≤ 2) → (0 ≤ x6 ∧ x6 ≤ 7) → (0 ≤ x7 ∧ x7 ≤ 26) → (x3 = M0 120 x2) → (x4 = M0 118 x3) → (x2 < M0 112 11) → (x5 < x4) → (0 ≤ wcan M) → (2 * wcan M + x1) * 10000 + (30 - x2) * 300 + (3 - x5) * 60 + (27 - x7) * 2 + 1 < (nn : Int) → nW xs (e + 3) 191 136 [some (2, 112), some (0, x1), some (0, x2), some (0, x3), some (0, x4), some (0, x5), some (0, x6), some (0, x7)] [] M (nPV fun M1 => Sf 3 ac M0 M1)) := by
  have hd : (3 : Int) = 2 ∨ (3 : Int) = 3 := by decide
  have hac := hS.2.2.2.2
  intro nn
  induction nn with
  | zero => refine ⟨?_, ?_, ?_, ?_, ?_, ?_⟩ <;> (intros; omega)
  | succ nn ih =>
    refine ⟨?_, ?_, ?_, ?_, ?_, ?_⟩
    · intro x1 M hS k1 v0 hnn
      refine n_iload_n c_191_2 rfl (n_aload_n c_191_3 rfl (n_getV (bi := 10) c_191_4 sc_112.n rfl rfl rfl (t_112_10 hS) ?_))
      intro z1 ez1 f2
      refine n_if2_ge c_191_7 (by omega) (by omega) ?_ ?_
      · intro h3
        refine n_iconst c_191_30 (n_istore_n (L2 := [some (2, 112), some (0, 1), none, none, none, none, none, none]) c_191_31 rfl rfl (n_fg (le_s (le_s (le_n (le_n (le_n (le_n (le_n (le_n le_0)))))))) ?_))
        exact ih.2.1 _ M hS (by omega) (by first | omega | exact (wcan_r (by assumption)).1) (by omega)
      · intro h4
        refine n_aload_n c_191_10 rfl (n_getR c_191_11 sc_112.n rfl rfl rfl r_112_24 (n_iload_n c_191_14 rfl (n_iconst c_191_15 (n_aload_n c_191_16 rfl (n_getV (bi := 0) c_191_17 sc_112.n rfl rfl rfl (t_dm hS hdm) ?_)))))
        intro z5 ez5 f6
        obtain rfl : z5 = 3 := by omega
        refine n_i_ishl (z := 8) c_191_20 (by decide) ?_
        refine n_iconst c_191_21 (n_isub c_191_22 rfl (n_iastoreV hS c_191_23 sc_129.n rfl (by omega) (w_129 (by omega) (by omega)) ?_))
        intro M7 eM7 hS7
        have g7_0 : M7 112 10 = M 112 10 := by rw [eM7]; exact nu_a (by omega)
        refine n_iinc (L2 := [some (2, 112), some (0, (x1 + 1)), none, none, none, none, none, none]) c_191_24 rfl rfl rfl (n_goto c_191_27 (n_fg (le_s (le_s (le_n (le_n (le_n (le_n (le_n (le_n le_0)))))))) ?_))
        exact ih.1 _ M7 hS7 (by omega) (by first | omega | exact wcan_r (by assumption)) (by omega)
    · intro x1 M hS k1 v0 hnn
      refine n_iload_n c_191_32 rfl ?_
      refine n_if0_eq c_191_33 (by omega) ?_ ?_
      · intro h1
        exact n_rV c_191_207 rfl hS
      · intro h2
        refine n_iconst c_191_36 (n_istore_n (L2 := [some (2, 112), some (0, 0), none, none, none, none, none, none]) c_191_37 rfl rfl (n_iconst c_191_38 (n_istore_n (L2 := [some (2, 112), some (0, 0), some (0, 0), none, none, none, none, none]) c_191_39 rfl rfl (n_fg (le_s (le_s (le_s (le_n (le_n (le_n (le_n (le_n le_0)))))))) ?_))))
        exact ih.2.2.1 _ _ M hS (by omega) (by omega) (by first | omega | exact (wcan_r (by assumption)).1) (by omega)
    · intro x1 x2 M hS k1 k2 v0 hnn
      refine n_iload_n c_191_40 rfl (n_aload_n c_191_41 rfl (n_getV (bi := 11) c_191_42 sc_112.n rfl rfl rfl (t_112_11 hS) ?_))
      intro z1 ez1 f2
      refine n_if2_ge c_191_45 (by omega) (by omega) ?_ ?_
      · intro h3
        refine n_goto c_191_204 (n_fg (le_s (le_s (le_n (le_n (le_n (le_n (le_n (le_n le_0)))))))) ?_)
        exact ih.2.1 _ M hS (by omega) (by first | omega | exact (wcan_r (by assumption)).1) (by omega)
      · intro h4
        refine n_aload_n c_191_48 rfl (n_getR c_191_49 sc_112.n rfl rfl rfl r_112_12 (n_iload_n c_191_52 rfl (n_ialoadV c_191_53 sc_120.n rfl rfl rfl (by omega) (t_120 hS (by omega)) ?_)))
        intro z5 ez5 f6
        have t53 := t_c (a := 120) (i := x2) hS (by unfold core; omega)
        have t53b := t_c (a := 112) (i := 11) hS (by unfold core; omega)
        refine n_istore_n (L2 := [some (2, 112), some (0, x1), some (0, x2), some (0, z5), none, none, none, none]) c_191_54 rfl rfl (n_aload_n c_191_55 rfl (n_getR c_191_56 sc_112.n rfl rfl rfl r_112_8 (n_iload_n c_191_59 rfl (n_ialoadV c_191_60 sc_118.n rfl rfl rfl (by omega) (t_118 hS (by omega)) ?_))))
        intro z7 ez7 f8
        have t60 := t_c (a := 118) (i := z5) hS (by unfold core; omega)
        refine n_istore (L2 := [some (2, 112), some (0, x1), some (0, x2), some (0, z5), some (0, z7), none, none, none]) c_191_61 rfl rfl (n_iconst c_191_63 (n_istore (L2 := [some (2, 112), some (0, x1), some (0, x2), some (0, z5), some (0, z7), some (0, 0), none, none]) c_191_64 rfl rfl (n_fg (le_s (le_s (le_s (le_s (le_s (le_s (le_n (le_n le_0)))))))) ?_)))
        exact ih.2.2.2.1 _ _ _ _ _ M hS (by omega) (by omega) (by omega) (by omega) (by omega) (by omega) (by omega) (by omega) (by first | omega | exact (wcan_r (by assumption)).1) (by omega)
    · intro x1 x2 x3 x4 x5 M hS k1 k2 k3 k4 k5 v0 v1 v2 v3 hnn
      refine n_iload c_191_66 rfl (n_iload c_191_68 rfl ?_)
      refine n_if2_ge c_191_70 (by omega) (by omega) ?_ ?_
      · intro h1
        refine n_iinc (L2 := [some (2, 112), some (0, x1), some (0, (x2 + 1)), some (0, x3), some (0, x4), some (0, x5), none, none]) c_191_198 rfl rfl rfl (n_goto c_191_201 (n_fg (le_s (le_s (le_s (le_n (le_n (le_n (le_n (le_n le_0)))))))) ?_))
        exact ih.2.2.1 _ _ M hS (by omega) (by omega) (by first | omega | exact (wcan_r (by assumption)).1) (by omega)
      · intro h2
        refine n_iconst c_191_73 (n_istore (L2 := [some (2, 112), some (0, x1), some (0, x2), some (0, x3), some (0, x4), some (0, x5), some (0, 0), none]) c_191_74 rfl rfl (n_iconst c_191_76 (n_istore (L2 := [some (2, 112), some (0, x1), some (0, x2), some (0, x3), some (0, x4), some (0, x5), some (0, 0), some (0, 0)]) c_191_77 rfl rfl (n_fg (le_s (le_s (le_s (le_s (le_s (le_s (le_s (le_s le_0)))))))) ?_))))
        exact ih.2.2.2.2.1 _ _ _ _ _ _ _ M hS (by omega) (by omega) (by omega) (by omega) (by omega) (by omega) (by omega) (by omega) (by omega) (by omega) (by omega) (by first | omega | exact (wcan_r (by assumption)).1) (by omega)
    · intro x1 x2 x3 x4 x5 x6 x7 M hS k1 k2 k3 k4 k5 k6 k7 v0 v1 v2 v3 v4 hnn
      refine n_iload c_191_79 rfl (n_aload_n c_191_81 rfl (n_getV (bi := 0) c_191_82 sc_112.n rfl rfl rfl (t_dm hS hdm) ?_))
      intro z1 ez1 f2
      obtain rfl : z1 = 3 := by omega
      refine n_iload c_191_85 rfl (n_s2I c_191_87 rfl rfl rfl rfl (mpowerU3_3 (n := x4) hS (by omega)) ?_)
      intro z3 M4 hP5
      obtain ⟨eM, f5⟩ := hP5
      subst eM
      refine n_if2_ge c_191_90 (by omega) (by omega) ?_ ?_
      · intro h6
        refine n_aload_n c_191_142 rfl (n_getR c_191_143 sc_112.n rfl rfl rfl r_112_13 (n_iconst c_191_146 (n_iload_n c_191_147 rfl (n_imul c_191_148 rfl (n_iload c_191_149 rfl (n_iadd c_191_151 rfl (n_ialoadV c_191_152 sc_121.n rfl rfl rfl (by omega) (t_121 hS (by omega)) ?_)))))))
        intro z7 ez7 f8
        have t152c := congrArg (M0 118) v0
        have t152 := t_ask0 (q := x2) (j := x5) hS (by omega) (by omega) (by omega) (by omega)
        have t152u := t_112_10 hS
        refine n_istore (L2 := [some (2, 112), some (0, x1), some (0, x2), some (0, x3), some (0, x4), some (0, x5), some (0, x6), some (0, z7)]) c_191_153 rfl rfl (n_iload_n c_191_155 rfl ?_)
        refine n_if0_ne c_191_156 (by omega) ?_ ?_
        · intro h9
          refine n_iconst c_191_174 (n_goto c_191_175 (n_istore_n (L2 := [some (2, 112), some (0, 1), some (0, x2), some (0, x3), some (0, x4), some (0, x5), some (0, x6), some (0, z7)]) c_191_179 rfl rfl (n_aload_n c_191_180 rfl (n_getR c_191_181 sc_112.n rfl rfl rfl r_112_24 (n_iload c_191_184 rfl (n_dup202 c_191_186 (n_ialoadV c_191_187 sc_129.n rfl rfl rfl (by omega) (t_129 hS (by omega)) ?_)))))))
          intro z10 ez10 f11
          refine n_iload c_191_188 rfl (n_i_iand c_191_190 rfl ?_)
          have t190 := n_and_x (x := z10) (y := x6) (by omega)
          have t190b := n_cut (c := z10) (s := x6) (by omega)
          refine n_iastoreV hS c_191_191 sc_129.n rfl (by omega) (w_129 (by omega) (by omega)) ?_
          intro M12 eM12 hS12
          have t191 := wcan_u (M := M) (M2 := M12) (i := z7) (z := (n_and z10 x6)) (by omega) eM12
          have t191r := wcan_r hS12
          refine n_iinc (L2 := [some (2, 112), some (0, 1), some (0, x2), some (0, x3), some (0, x4), some (0, (x5 + 1)), some (0, x6), some (0, z7)]) c_191_192 rfl rfl rfl (n_goto c_191_195 (n_fg (le_s (le_s (le_s (le_s (le_s (le_s (le_n (le_n le_0)))))))) ?_))
          exact ih.2.2.2.1 _ _ _ _ _ M12 hS12 (by omega) (by omega) (by omega) (by omega) (by omega) (by omega) (by omega) (by omega) (by first | omega | exact (wcan_r (by assumption)).1) (by omega)
        · intro h13
          refine n_aload_n c_191_159 rfl (n_getR c_191_160 sc_112.n rfl rfl rfl r_112_24 (n_iload c_191_163 rfl (n_ialoadV c_191_165 sc_129.n rfl rfl rfl (by omega) (t_129 hS (by omega)) ?_)))
          intro z14 ez14 f15
          refine n_iload c_191_166 rfl (n_iconst c_191_168 (n_i_ixor c_191_169 rfl (n_i_iand c_191_170 rfl ?_)))
          have t170 := n_and_r z14 (n_xor x6 (-1))
          refine n_if0_eq c_191_171 (by omega) ?_ ?_
          · intro h16
            refine n_iconst c_191_178 (n_istore_n (L2 := [some (2, 112), some (0, 0), some (0, x2), some (0, x3), some (0, x4), some (0, x5), some (0, x6), some (0, z7)]) c_191_179 rfl rfl (n_aload_n c_191_180 rfl (n_getR c_191_181 sc_112.n rfl rfl rfl r_112_24 (n_iload c_191_184 rfl (n_dup202 c_191_186 (n_ialoadV c_191_187 sc_129.n rfl rfl rfl (by omega) (t_129 hS (by omega)) ?_))))))
            intro z17 ez17 f18
            refine n_iload c_191_188 rfl (n_i_iand c_191_190 rfl ?_)
            have t190 := n_and_x (x := z17) (y := x6) (by omega)
            have t190b := n_cut (c := z17) (s := x6) (by omega)
            have t190e : z17 = z14 := by omega
            have t190f : n_and z17 x6 = n_and z14 x6 := by rw [t190e]
            rw [t190e] at t190b
            refine n_iastoreV hS c_191_191 sc_129.n rfl (by omega) (w_129 (by omega) (by omega)) ?_
            intro M19 eM19 hS19
            have t191 := wcan_u (M := M) (M2 := M19) (i := z7) (z := (n_and z17 x6)) (by omega) eM19
            have t191r := wcan_r hS19
            refine n_iinc (L2 := [some (2, 112), some (0, 0), some (0, x2), some (0, x3), some (0, x4), some (0, (x5 + 1)), some (0, x6), some (0, z7)]) c_191_192 rfl rfl rfl (n_goto c_191_195 (n_fg (le_s (le_s (le_s (le_s (le_s (le_s (le_n (le_n le_0)))))))) ?_))
            exact ih.2.2.2.1 _ _ _ _ _ M19 hS19 (by omega) (by omega) (by omega) (by omega) (by omega) (by omega) (by omega) (by omega) (by first | omega | exact (wcan_r (by assumption)).1) (by omega)
          · intro h20
            refine n_iconst c_191_174 (n_goto c_191_175 (n_istore_n (L2 := [some (2, 112), some (0, 1), some (0, x2), some (0, x3), some (0, x4), some (0, x5), some (0, x6), some (0, z7)]) c_191_179 rfl rfl (n_aload_n c_191_180 rfl (n_getR c_191_181 sc_112.n rfl rfl rfl r_112_24 (n_iload c_191_184 rfl (n_dup202 c_191_186 (n_ialoadV c_191_187 sc_129.n rfl rfl rfl (by omega) (t_129 hS (by omega)) ?_)))))))
            intro z21 ez21 f22
            refine n_iload c_191_188 rfl (n_i_iand c_191_190 rfl ?_)
            have t190 := n_and_x (x := z21) (y := x6) (by omega)
            have t190b := n_cut (c := z21) (s := x6) (by omega)
            have t190e : z21 = z14 := by omega
            have t190f : n_and z21 x6 = n_and z14 x6 := by rw [t190e]
            rw [t190e] at t190b
            refine n_iastoreV hS c_191_191 sc_129.n rfl (by omega) (w_129 (by omega) (by omega)) ?_
            intro M23 eM23 hS23
            have t191 := wcan_u (M := M) (M2 := M23) (i := z7) (z := (n_and z21 x6)) (by omega) eM23
            have t191r := wcan_r hS23
            refine n_iinc (L2 := [some (2, 112), some (0, 1), some (0, x2), some (0, x3), some (0, x4), some (0, (x5 + 1)), some (0, x6), some (0, z7)]) c_191_192 rfl rfl rfl (n_goto c_191_195 (n_fg (le_s (le_s (le_s (le_s (le_s (le_s (le_n (le_n le_0)))))))) ?_))
            exact ih.2.2.2.1 _ _ _ _ _ M23 hS23 (by omega) (by omega) (by omega) (by omega) (by omega) (by omega) (by omega) (by omega) (by first | omega | exact (wcan_r (by assumption)).1) (by omega)
      · intro h24
        refine n_aload_n c_191_93 rfl (n_getR c_191_94 sc_112.n rfl rfl rfl r_112_9 (n_iload_n c_191_97 rfl (n_laloadV c_191_98 sc_119.n rfl rfl rfl (by omega) (t_119 hS (by omega)) ?_)))
        intro z25 ez25 f26
        refine n_iload c_191_99 rfl (n_i_lshr c_191_101 rfl ?_)
        have f27 := n_lshr_r z25 x7
        generalize (n_lshr z25 x7) = z28 at f27 ⊢
        refine n_lconst (n := 1) c_191_102 rfl (n_i_land c_191_103 rfl ?_)
        have f29 := n_land_r z28 1
        generalize (n_land z28 1) = z30 at f29 ⊢
        refine n_lconst (n := 1) c_191_104 rfl (n_lcmp c_191_105 ?_)
        refine n_lif_ne c_191_106 (by omega) (by omega) ?_ ?_
        · intro h31
          refine n_fg (le_s (le_s (le_s (le_s (le_s (le_s (le_s (le_s le_0)))))))) ?_
          exact ih.2.2.2.2.2 _ _ _ _ _ _ _ M hS (by omega) (by omega) (by omega) (by omega) (by omega) (by omega) (by omega) (by omega) (by omega) (by omega) (by omega) (by first | omega | exact (wcan_r (by assumption)).1) (by omega)
        · intro h32
          refine n_aload_n c_191_109 rfl (n_iload_n c_191_110 rfl (n_iload c_191_111 rfl ?_))
          have t112 := t_c (a := 112) (i := 11) hS (by unfold core; omega)
          refine n_v2I c_191_113 rfl sc_112.n rfl rfl rfl rfl (mfits_3 (q := x2) (r := x7) hS hdm (by omega) (by omega) (by omega)) ?_
          intro z33 M34 hP35
          obtain ⟨eM, f35⟩ := hP35
          subst eM
          refine n_if0_eq c_191_116 (by omega) ?_ ?_
          · intro h36
            refine n_fg (le_s (le_s (le_s (le_s (le_s (le_s (le_s (le_s le_0)))))))) ?_
            exact ih.2.2.2.2.2 _ _ _ _ _ _ _ M hS (by omega) (by omega) (by omega) (by omega) (by omega) (by omega) (by omega) (by omega) (by omega) (by omega) (by omega) (by first | omega | exact (wcan_r (by assumption)).1) (by omega)
          · intro h37
            refine n_iload c_191_119 rfl (n_iconst c_191_121 (n_aload_n c_191_122 rfl (n_iload c_191_123 rfl (n_iload c_191_125 rfl (n_iload c_191_127 rfl (n_v3I c_191_129 rfl sc_112.n rfl rfl rfl rfl (mdigit_3 (r := x7) (k := x4) (j := x5) hS hdm (by omega) (by omega) (by omega) (by omega)) ?_))))))
            intro z38 M39 hP40
            obtain ⟨eM, f40⟩ := hP40
            subst eM
            refine n_i_ishl c_191_132 rfl ?_
            have f41 := n_shl_1 (y := z38) (a := 0) (b := 2) (by decide) (by omega)
            generalize (n_shl 1 z38) = z42 at f41 ⊢
            refine n_i_ior c_191_133 rfl ?_
            have f43 := n_or_k (x := x6) (y := z42) (n := 3) (by decide) (by omega) (by omega)
            generalize (n_or x6 z42) = z44 at f43 ⊢
            refine n_istore (L2 := [some (2, 112), some (0, x1), some (0, x2), some (0, x3), some (0, x4), some (0, x5), some (0, z44), some (0, x7)]) c_191_134 rfl rfl (n_fg (le_s (le_s (le_s (le_s (le_s (le_s (le_s (le_s le_0)))))))) ?_)
            exact ih.2.2.2.2.2 _ _ _ _ _ _ _ M hS (by omega) (by omega) (by omega) (by omega) (by omega) (by omega) (by omega) (by omega) (by omega) (by omega) (by omega) (by first | omega | exact (wcan_r (by assumption)).1) (by omega)
    · intro x1 x2 x3 x4 x5 x6 x7 M hS k1 k2 k3 k4 k5 k6 k7 v0 v1 v2 v3 v4 hnn
      refine n_iinc (L2 := [some (2, 112), some (0, x1), some (0, x2), some (0, x3), some (0, x4), some (0, x5), some (0, x6), some (0, (x7 + 1))]) c_191_136 rfl rfl rfl (n_goto c_191_139 (n_fg (le_s (le_s (le_s (le_s (le_s (le_s (le_s (le_s le_0)))))))) ?_))
      exact ih.2.2.2.2.1 _ _ _ _ _ _ _ M hS (by omega) (by omega) (by omega) (by omega) (by omega) (by omega) (by omega) (by omega) (by omega) (by omega) (by omega) (by first | omega | exact (wcan_r (by assumption)).1) (by omega)
set_option maxHeartbeats 4000000 in
theorem mnarrows_3 {xs : List Int32} {e : Nat} {ac : Int} {M0 M : nM} (hS : Sf 3 ac M0 M) (hdm : M0 112 0 = 3) : nW xs (e + 3) 191 0 [some (2, 112), none, none, none, none, none, none, none] [] M (nPV fun M1 => Sf 3 ac M0 M1) := by
  have hd : (3 : Int) = 2 ∨ (3 : Int) = 3 := by decide
  have hac := hS.2.2.2.2
  refine n_iconst c_191_0 (n_istore_n (L2 := [some (2, 112), some (0, 0), none, none, none, none, none, none]) c_191_1 rfl rfl (n_fg (le_s (le_s (le_n (le_n (le_n (le_n (le_n (le_n le_0)))))))) ?_))
  exact (mnarrows_3_c hS hdm 1000000000000000).1 _ M hS (by omega) (by first | omega | exact wcan_r (by assumption)) (by omega)

set_option maxHeartbeats 4000000 in
theorem mnarrowed_3 {xs : List Int32} {e : Nat} {ac : Int} {M0 M : nM} {u : Int} (hS : Sf 3 ac M0 M) (hdm : M0 112 0 = 3) (hu : -2147483648 ≤ u ∧ u ≤ 2147483647) : nW xs (e + 4) 192 0 [some (2, 112), some (0, u)] [] M (nPI fun z M1 => Sf 3 ac M0 M1 ∧ (-2147483648 ≤ z ∧ z ≤ 2147483647)) := by
  have hd : (3 : Int) = 2 ∨ (3 : Int) = 3 := by decide
  have hac := hS.2.2.2.2
  refine n_aload_n c_192_0 rfl (n_iload_n c_192_1 rfl (n_v1I c_192_2 rfl sc_112.n rfl rfl rfl rfl (misUnknown_3 (u := u) hS hdm (by omega)) ?_))
  intro z1 M2 hP3
  obtain ⟨eM, f3, f3p0⟩ := hP3
  subst eM
  refine n_if0_ne c_192_5 (by omega) ?_ ?_
  · intro h4
    refine n_aload_n c_192_10 rfl (n_v0V c_192_11 rfl sc_112.n rfl rfl rfl rfl (mnarrows_3  hS hdm) ?_)
    intro  M5 hP6
    have hS5 := hP6
    refine n_aload_n c_192_14 rfl (n_getR c_192_15 sc_112.n rfl rfl rfl r_112_24 (n_iload_n c_192_18 rfl (n_ialoadV c_192_19 sc_129.n rfl rfl rfl (by omega) (t_129 hS5 (by omega)) ?_)))
    intro z7 ez7 f8
    exact n_rI c_192_20 rfl ⟨hS5, by omega⟩
  · intro h9
    refine n_iconst c_192_8 ?_
    exact n_rI c_192_9 rfl ⟨hS, by omega⟩

set_option maxHeartbeats 4000000 in
theorem mclosedSet_3_c {xs : List Int32} {e : Nat} {ac : Int} {M0 M : nM} {k f : Int} (hS : Sf 3 ac M0 M) (hdm : M0 112 0 = 3) (hk : 0 ≤ k ∧ k ≤ 3) (hf : 0 ≤ f ∧ f ≤ 134217727) : ∀ nn : Nat, (∀ (x4 x6 : Int), (0 ≤ x4 ∧ x4 ≤ 134217727) → (0 ≤ x6 ∧ x6 ≤ 1) → (2 * (134217727 - x4) + x6) * 100 < (nn : Int) → nW xs (e + 3) 157 6 [some (2, 112), some (0, k), none, none, some (1, x4), none, some (0, x6), none, none] [] M (nPJ fun z M1 => M = M1 ∧ (0 ≤ z ∧ z ≤ 134217727))) ∧ (∀ (x4 x6 x7 : Int), (0 ≤ x4 ∧ x4 ≤ 134217727) → (0 ≤ x6 ∧ x6 ≤ 1) → (0 ≤ x7 ∧ x7 ≤ 8) → (2 * (134217727 - x4) + x6) * 100 + (8 - x7) * 3 + 2 < (nn : Int) → nW xs (e + 3) 157 17 [some (2, 112), some (0, k), none, none, some (1, x4), none, some (0, x6), some (0, x7), none] [] M (nPJ fun z M1 => M = M1 ∧ (0 ≤ z ∧ z ≤ 134217727))) ∧ (∀ (x4 x6 x7 x8 : Int), (0 ≤ x4 ∧ x4 ≤ 134217727) → (0 ≤ x6 ∧ x6 ≤ 1) → (0 ≤ x7 ∧ x7 ≤ 7) → (-1 ≤ x8 ∧ x8 ≤ 26) → (x8 = -1 ∨ n_land (n_lshr x4 x8) 1 = 0) → (2 * (134217727 - x4) + x6) * 100 + (8 - x7) * 3 + 1 < (nn : Int) → nW xs (e + 3) 157 51 [some (2, 112), some (0, k), none, none, some (1, x4), none, some (0, x6), some (0, x7), some (0, x8)] [] M (nPJ fun z M1 => M = M1 ∧ (0 ≤ z ∧ z ≤ 134217727))) := by
  have hd : (3 : Int) = 2 ∨ (3 : Int) = 3 := by decide
  have hac := hS.2.2.2.2
  intro nn
  induction nn with
  | zero => refine ⟨?_, ?_, ?_⟩ <;> (intros; omega)
  | succ nn ih =>
    refine ⟨?_, ?_, ?_⟩
    · intro x4 x6 k4 k6 hnn
      refine n_iload c_157_6 rfl ?_
      refine n_if0_eq c_157_8 (by omega) ?_ ?_
      · intro h1
        refine n_lload c_157_106 rfl ?_
        exact n_rJ c_157_108 rfl ⟨rfl, by omega⟩
      · intro h2
        refine n_iconst c_157_11 (n_istore (L2 := [some (2, 112), some (0, k), none, none, some (1, x4), none, some (0, 0), none, none]) c_157_12 rfl rfl (n_iconst c_157_14 (n_istore (L2 := [some (2, 112), some (0, k), none, none, some (1, x4), none, some (0, 0), some (0, 0), none]) c_157_15 rfl rfl (n_fg (le_s (le_s (le_n (le_n (le_s (le_n (le_s (le_s (le_n le_0))))))))) ?_))))
        exact ih.2.1 _ _ _ (by omega) (by omega) (by omega) (by omega)
    · intro x4 x6 x7 k4 k6 k7 hnn
      refine n_iload c_157_17 rfl (n_aload_n c_157_19 rfl (n_getV (bi := 4) c_157_20 sc_112.n rfl rfl rfl (t_112_4 hS) ?_))
      intro z1 ez1 f2
      refine n_if2_ge c_157_23 (by omega) (by omega) ?_ ?_
      · intro h3
        refine n_goto c_157_103 (n_fg (le_s (le_s (le_n (le_n (le_s (le_n (le_s (le_n (le_n le_0))))))))) ?_)
        exact ih.1 _ _ (by omega) (by omega) (by omega)
      · intro h4
        refine n_aload_n c_157_26 rfl (n_aload_n c_157_27 rfl (n_getR c_157_28 sc_112.n rfl rfl rfl r_112_5 (n_iload c_157_31 rfl (n_ialoadV c_157_33 sc_116.n rfl rfl rfl (by omega) (t_116 hS (by omega)) ?_))))
        intro z5 ez5 f6
        refine n_aload_n c_157_34 rfl (n_getR c_157_35 sc_112.n rfl rfl rfl r_112_6 (n_bipush c_157_38 rfl (n_iload c_157_40 rfl (n_imul c_157_42 rfl (n_iload_n c_157_43 rfl (n_lload c_157_44 rfl (n_v5I c_157_46 rfl sc_112.n rfl rfl rfl rfl (escapesT_3 (m := z5) (f := (27 * x7)) (k := k) (s := x4) hS hdm (by omega) (by omega) (by omega) (by omega)) ?_)))))))
        intro z7 M8 hP9
        obtain ⟨eM, f9, f9p0⟩ := hP9
        subst eM
        refine n_istore (L2 := [some (2, 112), some (0, k), none, none, some (1, x4), none, some (0, x6), some (0, x7), some (0, z7)]) c_157_49 rfl rfl (n_fg (le_s (le_s (le_n (le_n (le_s (le_n (le_s (le_s (le_s le_0))))))))) ?_)
        exact ih.2.2 _ _ _ _ (by omega) (by omega) (by omega) (by omega) (by omega) (by omega)
    · intro x4 x6 x7 x8 k4 k6 k7 k8 v0 hnn
      refine n_iload c_157_51 rfl (n_iconst c_157_53 ?_)
      refine n_if2_eq c_157_54 (by omega) (by omega) ?_ ?_
      · intro h1
        refine n_iinc (L2 := [some (2, 112), some (0, k), none, none, some (1, x4), none, some (0, x6), some (0, (x7 + 1)), some (0, x8)]) c_157_97 rfl rfl rfl (n_goto c_157_100 (n_fg (le_s (le_s (le_n (le_n (le_s (le_n (le_s (le_s (le_n le_0))))))))) ?_))
        exact ih.2.1 _ _ _ (by omega) (by omega) (by omega) (by omega)
      · intro h2
        refine n_lload c_157_57 rfl (n_lconst (n := 1) c_157_59 rfl (n_iload c_157_60 rfl (n_i_lshl c_157_62 rfl (n_i_lor c_157_63 rfl ?_))))
        have f3 := n_lor_bit (s := x4) (r := x8) (by omega) (by omega) (by omega)
        refine n_lstore (L2 := [some (2, 112), some (0, k), none, none, some (1, (n_lor x4 (n_lshl 1 x8))), none, some (0, x6), some (0, x7), some (0, x8)]) c_157_64 rfl rfl (n_iconst c_157_66 (n_istore (L2 := [some (2, 112), some (0, k), none, none, some (1, (n_lor x4 (n_lshl 1 x8))), none, some (0, 1), some (0, x7), some (0, x8)]) c_157_67 rfl rfl (n_aload_n c_157_69 rfl (n_aload_n c_157_70 rfl (n_getR c_157_71 sc_112.n rfl rfl rfl r_112_5 (n_iload c_157_74 rfl (n_ialoadV c_157_76 sc_116.n rfl rfl rfl (by omega) (t_116 hS (by omega)) ?_)))))))
        intro z4 ez4 f5
        refine n_aload_n c_157_77 rfl (n_getR c_157_78 sc_112.n rfl rfl rfl r_112_6 (n_bipush c_157_81 rfl (n_iload c_157_83 rfl (n_imul c_157_85 rfl (n_iload_n c_157_86 rfl (n_lload c_157_87 rfl (n_v5I c_157_89 rfl sc_112.n rfl rfl rfl rfl (escapesT_3 (m := z4) (f := (27 * x7)) (k := k) (s := (n_lor x4 (n_lshl 1 x8))) hS hdm (by omega) (by omega) (by omega) (by omega)) ?_)))))))
        intro z6 M7 hP8
        obtain ⟨eM, f8, f8p0⟩ := hP8
        subst eM
        refine n_istore (L2 := [some (2, 112), some (0, k), none, none, some (1, (n_lor x4 (n_lshl 1 x8))), none, some (0, 1), some (0, x7), some (0, z6)]) c_157_92 rfl rfl (n_goto c_157_94 (n_fg (le_s (le_s (le_n (le_n (le_s (le_n (le_s (le_s (le_s le_0))))))))) ?_))
        exact ih.2.2 _ _ _ _ (by omega) (by omega) (by omega) (by omega) (by omega) (by omega)
set_option maxHeartbeats 4000000 in
theorem mclosedSet_3 {xs : List Int32} {e : Nat} {ac : Int} {M0 M : nM} {k f : Int} (hS : Sf 3 ac M0 M) (hdm : M0 112 0 = 3) (hk : 0 ≤ k ∧ k ≤ 3) (hf : 0 ≤ f ∧ f ≤ 134217727) : nW xs (e + 3) 157 0 [some (2, 112), some (0, k), some (1, f), none, none, none, none, none, none] [] M (nPJ fun z M1 => M = M1 ∧ (0 ≤ z ∧ z ≤ 134217727)) := by
  have hd : (3 : Int) = 2 ∨ (3 : Int) = 3 := by decide
  have hac := hS.2.2.2.2
  refine n_lload_n c_157_0 rfl (n_lstore (L2 := [some (2, 112), some (0, k), some (1, f), none, some (1, f), none, none, none, none]) c_157_1 rfl rfl (n_iconst c_157_3 (n_istore (L2 := [some (2, 112), some (0, k), some (1, f), none, some (1, f), none, some (0, 1), none, none]) c_157_4 rfl rfl (n_fg (le_s (le_s (le_n (le_n (le_s (le_n (le_s (le_n (le_n le_0))))))))) ?_))))
  exact (mclosedSet_3_c hS hdm hk hf 1000000000000000).1 _ _ (by omega) (by omega) (by omega)

set_option maxHeartbeats 4000000 in
theorem mclosed_3_c {xs : List Int32} {e : Nat} {ac : Int} {M0 M : nM} {l : Int} (hS : Sf 3 ac M0 M) (hdm : M0 112 0 = 3) (hl : -2147483648 ≤ l ∧ l ≤ 2147483647) : ∀ nn : Nat, (1 < (nn : Int) → nW xs (e + 4) 159 12 [none, none] [] M (nPJ fun z M1 => M = M1 ∧ (-9223372036854775808 ≤ z ∧ z ≤ 9223372036854775807))) := by
  have hd : (3 : Int) = 2 ∨ (3 : Int) = 3 := by decide
  have hac := hS.2.2.2.2
  intro nn
  induction nn with
  | zero => intros; omega
  | succ nn ih =>
    intro hnn
    refine n_ldc2 (n := (-1)) c_159_12 rfl (n_goto c_159_15 ?_)
    exact n_rJ c_159_34 rfl ⟨rfl, by omega⟩
set_option maxHeartbeats 4000000 in
theorem mclosed_3 {xs : List Int32} {e : Nat} {ac : Int} {M0 M : nM} {l : Int} (hS : Sf 3 ac M0 M) (hdm : M0 112 0 = 3) (hl : -2147483648 ≤ l ∧ l ≤ 2147483647) : nW xs (e + 4) 159 0 [some (2, 112), some (0, l)] [] M (nPJ fun z M1 => M = M1 ∧ (-9223372036854775808 ≤ z ∧ z ≤ 9223372036854775807)) := by
  have hd : (3 : Int) = 2 ∨ (3 : Int) = 3 := by decide
  have hac := hS.2.2.2.2
  refine n_iload_n c_159_0 rfl ?_
  refine n_if0_lt c_159_1 (by omega) ?_ ?_
  · intro h1
    refine n_fg (le_n (le_n le_0)) ?_
    exact (mclosed_3_c hS hdm hl 12)   (by omega)
  · intro h2
    refine n_iload_n c_159_4 rfl (n_aload_n c_159_5 rfl (n_getV (bi := 7) c_159_6 sc_112.n rfl rfl rfl (t_112_7 hS) ?_))
    intro z3 ez3 f4
    refine n_if2_lt c_159_9 (by omega) (by omega) ?_ ?_
    · intro h5
      refine n_aload_n c_159_18 rfl (n_aload_n c_159_19 rfl (n_getR c_159_20 sc_112.n rfl rfl rfl r_112_8 (n_iload_n c_159_23 rfl (n_ialoadV c_159_24 sc_118.n rfl rfl rfl (by omega) (t_118 hS (by omega)) ?_))))
      intro z6 ez6 f7
      refine n_aload_n c_159_25 rfl (n_getR c_159_26 sc_112.n rfl rfl rfl r_112_9 (n_iload_n c_159_29 rfl (n_laloadV c_159_30 sc_119.n rfl rfl rfl (by omega) (t_119 hS (by omega)) ?_)))
      intro z8 ez8 f9
      refine n_v2J c_159_31 rfl sc_112.n rfl rfl rfl rfl (mclosedSet_3 (k := z6) (f := z8) hS hdm (by omega) (by omega)) ?_
      intro z10 M11 hP12
      obtain ⟨eM, f12⟩ := hP12
      subst eM
      exact n_rJ c_159_34 rfl ⟨rfl, by omega⟩
    · intro h13
      refine n_fg (le_n (le_n le_0)) ?_
      exact (mclosed_3_c hS hdm hl 12)   (by omega)

set_option maxHeartbeats 4000000 in
theorem mheap_3_c {xs : List Int32} {e : Nat} {ac : Int} {M0 M : nM} {m : Int} (hS : Sf 3 ac M0 M) (hdm : M0 112 0 = 3) (hm : -2147483648 ≤ m ∧ m ≤ 2147483647) : ∀ nn : Nat, (1 < (nn : Int) → nW xs (e + 4) 177 15 [none, none] [] M (nPI fun z M1 => M = M1 ∧ (-2147483648 ≤ z ∧ z ≤ 2147483647))) := by
  have hd : (3 : Int) = 2 ∨ (3 : Int) = 3 := by decide
  have hac := hS.2.2.2.2
  intro nn
  induction nn with
  | zero => intros; omega
  | succ nn ih =>
    intro hnn
    refine n_iconst c_177_15 (n_goto c_177_16 ?_)
    exact n_rI c_177_27 rfl ⟨rfl, by omega⟩
set_option maxHeartbeats 4000000 in
theorem mheap_3 {xs : List Int32} {e : Nat} {ac : Int} {M0 M : nM} {m : Int} (hS : Sf 3 ac M0 M) (hdm : M0 112 0 = 3) (hm : -2147483648 ≤ m ∧ m ≤ 2147483647) : nW xs (e + 4) 177 0 [some (2, 112), some (0, m)] [] M (nPI fun z M1 => M = M1 ∧ (-2147483648 ≤ z ∧ z ≤ 2147483647)) := by
  have hd : (3 : Int) = 2 ∨ (3 : Int) = 3 := by decide
  have hac := hS.2.2.2.2
  refine n_iload_n c_177_0 rfl (n_iconst c_177_1 ?_)
  refine n_if2_lt c_177_2 (by omega) (by omega) ?_ ?_
  · intro h1
    refine n_fg (le_n (le_n le_0)) ?_
    exact (mheap_3_c hS hdm hm 12)   (by omega)
  · intro h2
    refine n_iload_n c_177_5 rfl (n_iconst c_177_6 (n_aload_n c_177_7 rfl (n_getV (bi := 0) c_177_8 sc_112.n rfl rfl rfl (t_dm hS hdm) ?_)))
    intro z3 ez3 f4
    obtain rfl : z3 = 3 := by omega
    refine n_i_ishl (z := 8) c_177_11 (by decide) ?_
    refine n_if2_lt c_177_12 (by omega) (by omega) ?_ ?_
    · intro h5
      refine n_aload_n c_177_19 rfl (n_iconst c_177_20 (n_iload_n c_177_21 rfl (n_i2l c_177_22 (by omega) ?_)))
      refine n_v2J c_177_23 rfl sc_112.n rfl rfl rfl rfl (mclosedSet_3 (k := 1) (f := m) hS hdm (by omega) (by omega)) ?_
      intro z6 M7 hP8
      obtain ⟨eM, f8⟩ := hP8
      subst eM
      refine n_l2i c_177_26 ?_
      exact n_rI c_177_27 rfl ⟨rfl, by omega⟩
    · intro h9
      refine n_fg (le_n (le_n le_0)) ?_
      exact (mheap_3_c hS hdm hm 12)   (by omega)

set_option maxHeartbeats 4000000 in
theorem mrow_3_c {xs : List Int32} {e : Nat} {ac : Int} {M : nM} {s w n : Int} (hS : Sf 3 ac M M) (hdm : M 112 0 = 3) (hs : -2147483648 ≤ s ∧ s ≤ 2147483647) (hw : -2147483648 ≤ w ∧ w ≤ 2147483647) (hn : -2147483648 ≤ n ∧ n ≤ 2147483647) : ∀ nn : Nat, (∀ (M : nM), Sf 3 ac M M → (M 112 0 = 3) → 43 < (nn : Int) → nW xs (e + 1) 144 22 [none, none, none, none, none] [] M (nPI fun z M1 => Sf 3 ac M1 M1 ∧ (-2147483648 ≤ z ∧ z ≤ 2147483647))) ∧ (∀ (x4 : Int) (M : nM), Sf 3 ac M M → (0 ≤ s ∧ s ≤ 7) → (0 ≤ n ∧ n ≤ 40) → (0 ≤ x4 ∧ x4 ≤ 40) → (M 112 0 = 3) → (40 - x4) * 1 + 1 < (nn : Int) → nW xs (e + 1) 144 51 [some (2, 112), some (0, s), none, some (0, n), some (0, x4)] [] M (nPI fun z M1 => Sf 3 ac M1 M1 ∧ (-2147483648 ≤ z ∧ z ≤ 2147483647))) := by
  have hd : (3 : Int) = 2 ∨ (3 : Int) = 3 := by decide
  have hac := hS.2.2.2.2
  intro nn
  induction nn with
  | zero => refine ⟨?_, ?_⟩ <;> (intros; omega)
  | succ nn ih =>
    refine ⟨?_, ?_⟩
    · intro M hS hdm hnn
      refine n_bipush c_144_22 rfl ?_
      exact n_rI c_144_24 rfl ⟨hS, by omega⟩
    · intro x4 M hS k1 k3 k4 hdm hnn
      refine n_iload c_144_51 rfl (n_iload_n c_144_53 rfl ?_)
      refine n_if2_ge c_144_54 (by omega) (by omega) ?_ ?_
      · intro h1
        refine n_iconst c_144_76 ?_
        exact n_rI c_144_77 rfl ⟨hS, by omega⟩
      · intro h2
        refine n_aload_n c_144_57 rfl (n_getR c_144_58 sc_112.n rfl rfl rfl r_112_3 (n_bipush c_144_61 rfl (n_iload_n c_144_63 rfl (n_imul c_144_64 rfl (n_iload c_144_65 rfl (n_iadd c_144_67 rfl (n_lconst (n := 0) c_144_68 rfl (n_lastoreM hS c_144_69 sc_115.n rfl (by omega) (m_115 (by omega) (by omega)) ?_))))))))
        intro M3 eM3 hS3
        have g3_0 : M3 112 0 = M 112 0 := by rw [eM3]; exact nu_a (by omega)
        refine n_iinc (L2 := [some (2, 112), some (0, s), none, some (0, n), some (0, (x4 + 1))]) c_144_70 rfl rfl rfl (n_goto c_144_73 (n_fg (le_s (le_s (le_n (le_s (le_s le_0))))) ?_))
        exact ih.2 _ M3 hS3 (by omega) (by omega) (by omega) (by omega) (by omega)
set_option maxHeartbeats 4000000 in
theorem mrow_3 {xs : List Int32} {e : Nat} {ac : Int} {M : nM} {s w n : Int} (hS : Sf 3 ac M M) (hdm : M 112 0 = 3) (hs : -2147483648 ≤ s ∧ s ≤ 2147483647) (hw : -2147483648 ≤ w ∧ w ≤ 2147483647) (hn : -2147483648 ≤ n ∧ n ≤ 2147483647) : nW xs (e + 1) 144 0 [some (2, 112), some (0, s), some (0, w), some (0, n), none] [] M (nPI fun z M1 => Sf 3 ac M1 M1 ∧ (-2147483648 ≤ z ∧ z ≤ 2147483647)) := by
  have hd : (3 : Int) = 2 ∨ (3 : Int) = 3 := by decide
  have hac := hS.2.2.2.2
  refine n_iload_n c_144_0 rfl (n_s1I c_144_1 rfl rfl rfl rfl (misSlot_3 (s := s) hS (by omega)) ?_)
  intro z1 M2 hP3
  obtain ⟨eM, f3, f3p0⟩ := hP3
  subst eM
  refine n_if0_eq c_144_4 (by omega) ?_ ?_
  · intro h4
    refine n_fg (le_n (le_n (le_n (le_n (le_n le_0))))) ?_
    exact (mrow_3_c hS hdm hs hw hn 96).1  M hS (by omega) (by omega)
  · intro h5
    refine n_iload_n c_144_7 rfl ?_
    refine n_if0_lt c_144_8 (by omega) ?_ ?_
    · intro h6
      refine n_fg (le_n (le_n (le_n (le_n (le_n le_0))))) ?_
      exact (mrow_3_c hS hdm hs hw hn 96).1  M hS (by omega) (by omega)
    · intro h7
      refine n_iload_n c_144_11 rfl (n_iconst c_144_12 ?_)
      refine n_if2_gt c_144_13 (by omega) (by omega) ?_ ?_
      · intro h8
        refine n_fg (le_n (le_n (le_n (le_n (le_n le_0))))) ?_
        exact (mrow_3_c hS hdm hs hw hn 96).1  M hS (by omega) (by omega)
      · intro h9
        refine n_iload_n c_144_16 rfl (n_bipush c_144_17 rfl ?_)
        refine n_if2_le c_144_19 (by omega) (by omega) ?_ ?_
        · intro h10
          refine n_iload_n c_144_25 rfl ?_
          refine n_if0_ge c_144_26 (by omega) ?_ ?_
          · intro h11
            refine n_aload_n c_144_32 rfl (n_getR c_144_33 sc_112.n rfl rfl rfl r_112_1 (n_iload_n c_144_36 rfl (n_iload_n c_144_37 rfl (n_iconst c_144_38 (n_iadd c_144_39 rfl (n_iastoreM hS c_144_40 sc_113.n rfl (by omega) (m_113 (by omega) (by omega)) ?_))))))
            intro M12 eM12 hS12
            have g12_0 : M12 112 0 = M 112 0 := by rw [eM12]; exact nu_a (by omega)
            refine n_aload_n c_144_41 rfl (n_getR c_144_42 sc_112.n rfl rfl rfl r_112_2 (n_iload_n c_144_45 rfl (n_iload_n c_144_46 rfl (n_iastoreM hS12 c_144_47 sc_114.n rfl (by omega) (m_114 (by omega) (by omega)) ?_))))
            intro M13 eM13 hS13
            have g13_0 : M13 112 0 = M12 112 0 := by rw [eM13]; exact nu_a (by omega)
            refine n_iconst c_144_48 (n_istore (L2 := [some (2, 112), some (0, s), some (0, w), some (0, n), some (0, 0)]) c_144_49 rfl rfl (n_fg (le_s (le_s (le_n (le_s (le_s le_0))))) ?_))
            exact (mrow_3_c hS hdm hs hw hn 96).2 _ M13 hS13 (by omega) (by omega) (by omega) (by omega) (by omega)
          · intro h14
            refine n_bipush c_144_29 rfl ?_
            exact n_rI c_144_31 rfl ⟨hS, by omega⟩
        · intro h15
          refine n_fg (le_n (le_n (le_n (le_n (le_n le_0))))) ?_
          exact (mrow_3_c hS hdm hs hw hn 96).1  M hS (by omega) (by omega)

set_option maxHeartbeats 4000000 in
theorem mtear_3_c {xs : List Int32} {e : Nat} {ac : Int} {M : nM} {s : Int} (hS : Sf 3 ac M M) (hdm : M 112 0 = 3) (hs : -2147483648 ≤ s ∧ s ≤ 2147483647) : ∀ nn : Nat, (∀ (M : nM), Sf 3 ac M M → (M 112 0 = 3) → 1 < (nn : Int) → nW xs (e + 1) 145 16 [none, none] [] M (nPI fun z M1 => Sf 3 ac M1 M1 ∧ (0 ≤ z ∧ z ≤ 1))) := by
  have hd : (3 : Int) = 2 ∨ (3 : Int) = 3 := by decide
  have hac := hS.2.2.2.2
  intro nn
  induction nn with
  | zero => intros; omega
  | succ nn ih =>
    intro M hS hdm hnn
    refine n_iconst c_145_16 ?_
    exact n_rZ c_145_17 rfl (by omega) ⟨hS, by omega⟩
set_option maxHeartbeats 4000000 in
theorem mtear_3 {xs : List Int32} {e : Nat} {ac : Int} {M : nM} {s : Int} (hS : Sf 3 ac M M) (hdm : M 112 0 = 3) (hs : -2147483648 ≤ s ∧ s ≤ 2147483647) : nW xs (e + 1) 145 0 [some (2, 112), some (0, s)] [] M (nPI fun z M1 => Sf 3 ac M1 M1 ∧ (0 ≤ z ∧ z ≤ 1)) := by
  have hd : (3 : Int) = 2 ∨ (3 : Int) = 3 := by decide
  have hac := hS.2.2.2.2
  refine n_iload_n c_145_0 rfl (n_s1I c_145_1 rfl rfl rfl rfl (misSlot_3 (s := s) hS (by omega)) ?_)
  intro z1 M2 hP3
  obtain ⟨eM, f3, f3p0⟩ := hP3
  subst eM
  refine n_if0_eq c_145_4 (by omega) ?_ ?_
  · intro h4
    refine n_fg (le_n (le_n le_0)) ?_
    exact (mtear_3_c hS hdm hs 12)  M hS (by omega) (by omega)
  · intro h5
    refine n_aload_n c_145_7 rfl (n_getR c_145_8 sc_112.n rfl rfl rfl r_112_1 (n_iload_n c_145_11 rfl (n_ialoadV c_145_12 sc_113.n rfl rfl rfl (by omega) (t_113 hS (by omega)) ?_)))
    intro z6 ez6 f7
    refine n_if0_ne c_145_13 (by omega) ?_ ?_
    · intro h8
      refine n_aload_n c_145_18 rfl (n_getR c_145_19 sc_112.n rfl rfl rfl r_112_1 (n_iload_n c_145_22 rfl (n_iconst c_145_23 (n_iastoreM hS c_145_24 sc_113.n rfl (by omega) (m_113 (by omega) (by omega)) ?_))))
      intro M9 eM9 hS9
      have g9_0 : M9 112 0 = M 112 0 := by rw [eM9]; exact nu_a (by omega)
      refine n_iconst c_145_25 ?_
      exact n_rZ c_145_26 rfl (by omega) ⟨hS9, by omega⟩
    · intro h10
      refine n_fg (le_n (le_n le_0)) ?_
      exact (mtear_3_c hS hdm hs 12)  M hS (by omega) (by omega)

set_option maxHeartbeats 4000000 in
theorem mwrite_3_c {xs : List Int32} {e : Nat} {ac : Int} {M : nM} {s i v : Int} (hS : Sf 3 ac M M) (hdm : M 112 0 = 3) (hs : -2147483648 ≤ s ∧ s ≤ 2147483647) (hi : -2147483648 ≤ i ∧ i ≤ 2147483647) (hv : -9223372036854775808 ≤ v ∧ v ≤ 9223372036854775807) : ∀ nn : Nat, (∀ (M : nM), Sf 3 ac M M → (M 112 0 = 3) → 1 < (nn : Int) → nW xs (e + 1) 146 38 [none, none, none, none, none, none] [] M (nPI fun z M1 => Sf 3 ac M1 M1 ∧ (-2147483648 ≤ z ∧ z ≤ 2147483647))) := by
  have hd : (3 : Int) = 2 ∨ (3 : Int) = 3 := by decide
  have hac := hS.2.2.2.2
  intro nn
  induction nn with
  | zero => intros; omega
  | succ nn ih =>
    intro M hS hdm hnn
    refine n_bipush c_146_38 rfl ?_
    exact n_rI c_146_40 rfl ⟨hS, by omega⟩
set_option maxHeartbeats 4000000 in
theorem mwrite_3 {xs : List Int32} {e : Nat} {ac : Int} {M : nM} {s i v : Int} (hS : Sf 3 ac M M) (hdm : M 112 0 = 3) (hs : -2147483648 ≤ s ∧ s ≤ 2147483647) (hi : -2147483648 ≤ i ∧ i ≤ 2147483647) (hv : -9223372036854775808 ≤ v ∧ v ≤ 9223372036854775807) : nW xs (e + 1) 146 0 [some (2, 112), some (0, s), some (0, i), some (1, v), none, none] [] M (nPI fun z M1 => Sf 3 ac M1 M1 ∧ (-2147483648 ≤ z ∧ z ≤ 2147483647)) := by
  have hd : (3 : Int) = 2 ∨ (3 : Int) = 3 := by decide
  have hac := hS.2.2.2.2
  refine n_iload_n c_146_0 rfl (n_s1I c_146_1 rfl rfl rfl rfl (misSlot_3 (s := s) hS (by omega)) ?_)
  intro z1 M2 hP3
  obtain ⟨eM, f3, f3p0⟩ := hP3
  subst eM
  refine n_if0_ne c_146_4 (by omega) ?_ ?_
  · intro h4
    refine n_aload_n c_146_10 rfl (n_getR c_146_11 sc_112.n rfl rfl rfl r_112_1 (n_iload_n c_146_14 rfl (n_ialoadV c_146_15 sc_113.n rfl rfl rfl (by omega) (t_113 hS (by omega)) ?_)))
    intro z5 ez5 f6
    refine n_if0_ne c_146_16 (by omega) ?_ ?_
    · intro h7
      refine n_iload_n c_146_22 rfl ?_
      refine n_if0_lt c_146_23 (by omega) ?_ ?_
      · intro h8
        refine n_fg (le_n (le_n (le_n (le_n (le_n (le_n le_0)))))) ?_
        exact (mwrite_3_c hS hdm hs hi hv 12)  M hS (by omega) (by omega)
      · intro h9
        refine n_iload_n c_146_26 rfl (n_aload_n c_146_27 rfl (n_getR c_146_28 sc_112.n rfl rfl rfl r_112_1 (n_iload_n c_146_31 rfl (n_ialoadV c_146_32 sc_113.n rfl rfl rfl (by omega) (t_113 hS (by omega)) ?_))))
        intro z10 ez10 f11
        refine n_iconst c_146_33 (n_isub c_146_34 rfl ?_)
        refine n_if2_lt c_146_35 (by omega) (by omega) ?_ ?_
        · intro h12
          refine n_aload_n c_146_41 rfl (n_getR c_146_42 sc_112.n rfl rfl rfl r_112_2 (n_iload_n c_146_45 rfl (n_ialoadV c_146_46 sc_114.n rfl rfl rfl (by omega) (t_114 hS (by omega)) ?_)))
          intro z13 ez13 f14
          refine n_istore (L2 := [some (2, 112), some (0, s), some (0, i), some (1, v), none, some (0, z13)]) c_146_47 rfl rfl (n_aload_n c_146_49 rfl (n_getR c_146_50 sc_112.n rfl rfl rfl r_112_3 (n_bipush c_146_53 rfl (n_iload_n c_146_55 rfl (n_imul c_146_56 rfl (n_iload_n c_146_57 rfl (n_iadd c_146_58 rfl (n_iload c_146_59 rfl ?_))))))))
          refine n_if0_ne c_146_61 (by omega) ?_ ?_
          · intro h15
            refine n_iload c_146_71 rfl (n_iconst c_146_73 ?_)
            refine n_if2_ne c_146_74 (by omega) (by omega) ?_ ?_
            · intro h16
              refine n_iload c_146_84 rfl (n_iconst c_146_86 ?_)
              refine n_if2_ne c_146_87 (by omega) (by omega) ?_ ?_
              · intro h17
                refine n_lload_n c_146_96 rfl (n_lastoreM hS c_146_97 sc_115.n rfl (by omega) (m_115 (by omega) (by omega)) ?_)
                intro M18 eM18 hS18
                have g18_0 : M18 112 0 = M 112 0 := by rw [eM18]; exact nu_a (by omega)
                have g18_1 : M18 113 s = M 113 s := by rw [eM18]; exact nu_a (by omega)
                refine n_iconst c_146_98 ?_
                exact n_rI c_146_99 rfl ⟨hS18, by omega⟩
              · intro h19
                refine n_lload_n c_146_90 rfl (n_l2i c_146_91 (n_wrap ?_))
                have f20 := n_wr_r v
                generalize n_wr v = z21 at f20 ⊢
                refine n_i2l c_146_92 (by omega) ?_
                refine n_goto c_146_93 (n_lastoreM hS c_146_97 sc_115.n rfl (by omega) (m_115 (by omega) (by omega)) ?_)
                intro M22 eM22 hS22
                have g22_0 : M22 112 0 = M 112 0 := by rw [eM22]; exact nu_a (by omega)
                have g22_1 : M22 113 s = M 113 s := by rw [eM22]; exact nu_a (by omega)
                refine n_iconst c_146_98 ?_
                exact n_rI c_146_99 rfl ⟨hS22, by omega⟩
            · intro h23
              refine n_lload_n c_146_77 rfl (n_l2i c_146_78 (n_wrap ?_))
              have f24 := n_wr_r v
              generalize n_wr v = z25 at f24 ⊢
              refine n_i2s c_146_79 ?_
              have f26 := n_2s_r z25
              generalize n_2s z25 = z27 at f26 ⊢
              refine n_i2l c_146_80 (by omega) ?_
              refine n_goto c_146_81 (n_lastoreM hS c_146_97 sc_115.n rfl (by omega) (m_115 (by omega) (by omega)) ?_)
              intro M28 eM28 hS28
              have g28_0 : M28 112 0 = M 112 0 := by rw [eM28]; exact nu_a (by omega)
              have g28_1 : M28 113 s = M 113 s := by rw [eM28]; exact nu_a (by omega)
              refine n_iconst c_146_98 ?_
              exact n_rI c_146_99 rfl ⟨hS28, by omega⟩
          · intro h29
            refine n_lload_n c_146_64 rfl (n_l2i c_146_65 (n_wrap ?_))
            have f30 := n_wr_r v
            generalize n_wr v = z31 at f30 ⊢
            refine n_i2b c_146_66 ?_
            have f32 := n_2b_r z31
            generalize n_2b z31 = z33 at f32 ⊢
            refine n_i2l c_146_67 (by omega) ?_
            refine n_goto c_146_68 (n_lastoreM hS c_146_97 sc_115.n rfl (by omega) (m_115 (by omega) (by omega)) ?_)
            intro M34 eM34 hS34
            have g34_0 : M34 112 0 = M 112 0 := by rw [eM34]; exact nu_a (by omega)
            have g34_1 : M34 113 s = M 113 s := by rw [eM34]; exact nu_a (by omega)
            refine n_iconst c_146_98 ?_
            exact n_rI c_146_99 rfl ⟨hS34, by omega⟩
        · intro h35
          refine n_fg (le_n (le_n (le_n (le_n (le_n (le_n le_0)))))) ?_
          exact (mwrite_3_c hS hdm hs hi hv 12)  M hS (by omega) (by omega)
    · intro h36
      refine n_bipush c_146_19 rfl ?_
      exact n_rI c_146_21 rfl ⟨hS, by omega⟩
  · intro h37
    refine n_bipush c_146_7 rfl ?_
    exact n_rI c_146_9 rfl ⟨hS, by omega⟩

set_option maxHeartbeats 4000000 in
theorem mact_3_c {xs : List Int32} {e : Nat} {ac : Int} {M : nM} {k s : Int} (hS : Sf 3 ac M M) (hdm : M 112 0 = 3) (hk : -2147483648 ≤ k ∧ k ≤ 2147483647) (hs : -2147483648 ≤ s ∧ s ≤ 2147483647) : ∀ nn : Nat, (∀ (M : nM), Sf 3 ac M M → (M 112 0 = 3) → 42 < (nn : Int) → nW xs (e + 1) 148 17 [none, none, none, none, none, none] [] M (nPI fun z M1 => Sf 3 ac M1 M1 ∧ (-2147483648 ≤ z ∧ z ≤ 2147483647))) ∧ (∀ (x3 x4 : Int) (M : nM), Sf 3 ac M M → (1 ≤ k ∧ k ≤ 3) → (0 ≤ s ∧ s ≤ 7) → (-2147483648 ≤ x3 ∧ x3 ≤ 2147483647) → (0 ≤ x4 ∧ x4 ≤ 8) → (M 112 0 = 3) → (8 - x4) * 1 + 32 < (nn : Int) → nW xs (e + 1) 148 25 [some (2, 112), some (0, k), some (0, s), some (0, x3), some (0, x4), none] [] M (nPI fun z M1 => Sf 3 ac M1 M1 ∧ (-2147483648 ≤ z ∧ z ≤ 2147483647))) ∧ (∀ (M : nM), Sf 3 ac M M → (M 112 0 = 3) → 31 < (nn : Int) → nW xs (e + 1) 148 78 [none, none, none, none, none, none] [] M (nPI fun z M1 => Sf 3 ac M1 M1 ∧ (-2147483648 ≤ z ∧ z ≤ 2147483647))) ∧ (∀ (M : nM), Sf 3 ac M M → (1 ≤ k ∧ k ≤ 3) → (0 ≤ s ∧ s ≤ 7) → (M 112 0 = 3) → (M 112 4 ≤ 7) → 30 < (nn : Int) → nW xs (e + 1) 148 81 [some (2, 112), some (0, k), some (0, s), none, none, none] [] M (nPI fun z M1 => Sf 3 ac M1 M1 ∧ (-2147483648 ≤ z ∧ z ≤ 2147483647))) ∧ (∀ (x4 x5 : Int) (M : nM), Sf 3 ac M M → (1 ≤ k ∧ k ≤ 3) → (0 ≤ s ∧ s ≤ 7) → (1 ≤ x4 ∧ x4 ≤ 27) → (0 ≤ x5 ∧ x5 ≤ 27) → (M 112 0 = 3) → (M 112 4 ≤ 7) → (27 - x5) * 1 + 1 < (nn : Int) → nW xs (e + 1) 148 106 [some (2, 112), some (0, k), some (0, s), none, some (0, x4), some (0, x5)] [] M (nPI fun z M1 => Sf 3 ac M1 M1 ∧ (-2147483648 ≤ z ∧ z ≤ 2147483647))) := by
  have hd : (3 : Int) = 2 ∨ (3 : Int) = 3 := by decide
  have hac := hS.2.2.2.2
  intro nn
  induction nn with
  | zero => refine ⟨?_, ?_, ?_, ?_, ?_⟩ <;> (intros; omega)
  | succ nn ih =>
    refine ⟨?_, ?_, ?_, ?_, ?_⟩
    · intro M hS hdm hnn
      refine n_bipush c_148_17 rfl ?_
      exact n_rI c_148_19 rfl ⟨hS, by omega⟩
    · intro x3 x4 M hS k1 k2 k3 k4 hdm hnn
      refine n_iload c_148_25 rfl (n_aload_n c_148_27 rfl (n_getV (bi := 4) c_148_28 sc_112.n rfl rfl rfl (t_112_4 hS) ?_))
      intro z1 ez1 f2
      refine n_if2_ge c_148_31 (by omega) (by omega) ?_ ?_
      · intro h3
        refine n_aload_n c_148_59 rfl (n_getV (bi := 4) c_148_60 sc_112.n rfl rfl rfl (t_112_4 hS) ?_)
        intro z4 ez4 f5
        refine n_bipush c_148_63 rfl ?_
        refine n_if2_eq c_148_65 (by omega) (by omega) ?_ ?_
        · intro h6
          refine n_fg (le_n (le_n (le_n (le_n (le_n (le_n le_0)))))) ?_
          exact ih.2.2.1  M hS (by omega) (by omega)
        · intro h7
          refine n_iload_n c_148_68 rfl (n_iconst c_148_69 ?_)
          refine n_if2_ne c_148_70 (by omega) (by omega) ?_ ?_
          · intro h8
            refine n_fg (le_s (le_s (le_s (le_n (le_n (le_n le_0)))))) ?_
            exact ih.2.2.2.1  M hS (by omega) (by omega) (by omega) (by omega) (by omega)
          · intro h9
            refine n_iload_n c_148_73 rfl (n_iconst c_148_74 ?_)
            refine n_if2_ne c_148_75 (by omega) (by omega) ?_ ?_
            · intro h10
              refine n_fg (le_s (le_s (le_s (le_n (le_n (le_n le_0)))))) ?_
              exact ih.2.2.2.1  M hS (by omega) (by omega) (by omega) (by omega) (by omega)
            · intro h11
              refine n_fg (le_n (le_n (le_n (le_n (le_n (le_n le_0)))))) ?_
              exact ih.2.2.1  M hS (by omega) (by omega)
      · intro h12
        refine n_iload_n c_148_34 rfl (n_aload_n c_148_35 rfl (n_getR c_148_36 sc_112.n rfl rfl rfl r_112_5 (n_iload c_148_39 rfl (n_ialoadV c_148_41 sc_116.n rfl rfl rfl (by omega) (t_116 hS (by omega)) ?_))))
        intro z13 ez13 f14
        refine n_iconst c_148_42 ?_
        refine n_if2_ne c_148_43 (by omega) (by omega) ?_ ?_
        · intro h15
          refine n_iconst c_148_50 (n_iadd c_148_51 rfl (n_istore_n (L2 := [some (2, 112), some (0, k), some (0, s), some (0, (x3 + 0)), some (0, x4), none]) c_148_52 rfl rfl (n_iinc (L2 := [some (2, 112), some (0, k), some (0, s), some (0, (x3 + 0)), some (0, (x4 + 1)), none]) c_148_53 rfl rfl rfl (n_goto c_148_56 (n_fg (le_s (le_s (le_s (le_s (le_s (le_n le_0)))))) ?_)))))
          exact ih.2.1 _ _ M hS (by omega) (by omega) (by omega) (by omega) (by omega) (by omega)
        · intro h16
          refine n_iconst c_148_46 (n_goto c_148_47 (n_iadd c_148_51 rfl (n_wrap ?_)))
          have f17 := n_wr_r (x3 + 1)
          generalize n_wr (x3 + 1) = z18 at f17 ⊢
          refine n_istore_n (L2 := [some (2, 112), some (0, k), some (0, s), some (0, z18), some (0, x4), none]) c_148_52 rfl rfl (n_iinc (L2 := [some (2, 112), some (0, k), some (0, s), some (0, z18), some (0, (x4 + 1)), none]) c_148_53 rfl rfl rfl (n_goto c_148_56 (n_fg (le_s (le_s (le_s (le_s (le_s (le_n le_0)))))) ?_)))
          exact ih.2.1 _ _ M hS (by omega) (by omega) (by omega) (by omega) (by omega) (by omega)
    · intro M hS hdm hnn
      refine n_bipush c_148_78 rfl ?_
      exact n_rI c_148_80 rfl ⟨hS, by omega⟩
    · intro M hS k1 k2 hdm v0 hnn
      refine n_aload_n c_148_81 rfl (n_getR c_148_82 sc_112.n rfl rfl rfl r_112_1 (n_iload_n c_148_85 rfl (n_ialoadV c_148_86 sc_113.n rfl rfl rfl (by omega) (t_113 hS (by omega)) ?_)))
      intro z1 ez1 f2
      refine n_if0_ne c_148_87 (by omega) ?_ ?_
      · intro h3
        refine n_aload_n c_148_93 rfl (n_getV (bi := 0) c_148_94 sc_112.n rfl rfl rfl (show 3 ≤ M 112 0 ∧ M 112 0 ≤ 3 by omega) ?_)
        intro z4 ez4 f5
        obtain rfl : z4 = 3 := by omega
        refine n_iload_n c_148_97 rfl (n_s2I c_148_98 rfl rfl rfl rfl (mpowerU3_3 (n := k) hS (by omega)) ?_)
        intro z6 M7 hP8
        obtain ⟨eM, f8⟩ := hP8
        subst eM
        refine n_istore (L2 := [some (2, 112), some (0, k), some (0, s), none, some (0, z6), none]) c_148_101 rfl rfl (n_iconst c_148_103 (n_istore (L2 := [some (2, 112), some (0, k), some (0, s), none, some (0, z6), some (0, 0)]) c_148_104 rfl rfl (n_fg (le_s (le_s (le_s (le_n (le_s (le_s le_0)))))) ?_)))
        exact ih.2.2.2.2 _ _ M hS (by omega) (by omega) (by omega) (by omega) (by omega) (by omega) (by omega)
      · intro h9
        refine n_bipush c_148_90 rfl ?_
        exact n_rI c_148_92 rfl ⟨hS, by omega⟩
    · intro x4 x5 M hS k1 k2 k4 k5 hdm v0 hnn
      refine n_iload c_148_106 rfl (n_iload c_148_108 rfl ?_)
      refine n_if2_ge c_148_110 (by omega) (by omega) ?_ ?_
      · intro h1
        refine n_aload_n c_148_185 rfl (n_getR c_148_186 sc_112.n rfl rfl rfl r_112_5 (n_aload_n c_148_189 rfl (n_getV (bi := 4) c_148_190 sc_112.n rfl rfl rfl (t_112_4 hS) ?_)))
        intro z2 ez2 f3
        refine n_iload_n c_148_193 rfl (n_iastoreM hS c_148_194 sc_116.n rfl (by omega) (m_116 (by omega) (by omega)) ?_)
        intro M4 eM4 hS4
        have g4_0 : M4 112 0 = M 112 0 := by rw [eM4]; exact nu_a (by omega)
        have g4_1 : M4 112 4 = M 112 4 := by rw [eM4]; exact nu_a (by omega)
        refine n_aload_n c_148_195 rfl (n_dup2 c_148_196 (n_getV (bi := 4) c_148_197 sc_112.n rfl rfl rfl (t_112_4 hS4) ?_))
        intro z5 ez5 f6
        refine n_iconst c_148_200 (n_iadd c_148_201 rfl (n_putM (bi := 4) hS4 c_148_202 sc_112.n rfl rfl rfl rfl (m_112_4 (by omega)) ?_))
        intro M7 eM7 hS7
        have g7_0 : M7 112 0 = M4 112 0 := by rw [eM7]; exact nu_i (by omega)
        have g7_1 : M7 112 4 = (z5 + 1) := by rw [eM7]; exact nu_s _ _ _ _
        refine n_aload_n c_148_205 rfl (n_v0V c_148_206 rfl sc_112.n rfl rfl rfl rfl (changed_3  hS7 (by omega)) ?_)
        intro  M8 hP9
        have hS8 := hP9
        have hS8c := hS8.2.2.2.1.1
        have hS8 := hS8.refl
        have hS8k0 := hS8c 112 0 (by unfold core; omega)
        have hS8k1 := hS8c 112 4 (by unfold core; omega)
        refine n_aload_n c_148_209 rfl (n_getV (bi := 4) c_148_210 sc_112.n rfl rfl rfl (t_112_4 hS8) ?_)
        intro z10 ez10 f11
        refine n_iconst c_148_213 (n_isub c_148_214 rfl ?_)
        exact n_rI c_148_215 rfl ⟨hS8, by omega⟩
      · intro h12
        refine n_iload c_148_113 rfl (n_aload_n c_148_115 rfl (n_getR c_148_116 sc_112.n rfl rfl rfl r_112_1 (n_iload_n c_148_119 rfl (n_ialoadV c_148_120 sc_113.n rfl rfl rfl (by omega) (t_113 hS (by omega)) ?_))))
        intro z13 ez13 f14
        refine n_iconst c_148_121 (n_isub c_148_122 rfl ?_)
        refine n_if2_lt c_148_123 (by omega) (by omega) ?_ ?_
        · intro h15
          refine n_aload_n c_148_129 rfl (n_aload_n c_148_130 rfl (n_getR c_148_131 sc_112.n rfl rfl rfl r_112_3 (n_bipush c_148_134 rfl (n_iload_n c_148_136 rfl (n_imul c_148_137 rfl (n_iload c_148_138 rfl (n_iadd c_148_140 rfl (n_laloadV c_148_141 sc_115.n rfl rfl rfl (by omega) (t_115 hS (by omega)) ?_))))))))
          intro z16 ez16 f17
          refine n_v1I c_148_142 rfl sc_112.n rfl rfl rfl rfl (misThing_3 (v := z16) hS (by omega) (by omega)) ?_
          intro z18 M19 hP20
          obtain ⟨eM, f20, f20p0⟩ := hP20
          subst eM
          refine n_if0_ne c_148_145 (by omega) ?_ ?_
          · intro h21
            refine n_aload_n c_148_151 rfl (n_getR c_148_152 sc_112.n rfl rfl rfl r_112_6 (n_bipush c_148_155 rfl (n_aload_n c_148_157 rfl (n_getV (bi := 4) c_148_158 sc_112.n rfl rfl rfl (t_112_4 hS) ?_))))
            intro z22 ez22 f23
            refine n_imul c_148_161 rfl (n_iload c_148_162 rfl (n_iadd c_148_164 rfl (n_aload_n c_148_165 rfl (n_getR c_148_166 sc_112.n rfl rfl rfl r_112_3 (n_bipush c_148_169 rfl (n_iload_n c_148_171 rfl (n_imul c_148_172 rfl (n_iload c_148_173 rfl (n_iadd c_148_175 rfl (n_laloadV c_148_176 sc_115.n rfl rfl rfl (by omega) (t_115 hS (by omega)) ?_))))))))))
            intro z24 ez24 f25
            refine n_l2i c_148_177 (n_iastoreM hS c_148_178 sc_117.n rfl (by omega) (m_117 (by omega) (by omega)) ?_)
            intro M26 eM26 hS26
            have g26_0 : M26 112 0 = M 112 0 := by rw [eM26]; exact nu_a (by omega)
            have g26_1 : M26 112 4 = M 112 4 := by rw [eM26]; exact nu_a (by omega)
            have g26_2 : M26 115 ((40 * s) + x5) = M 115 ((40 * s) + x5) := by rw [eM26]; exact nu_a (by omega)
            refine n_iinc (L2 := [some (2, 112), some (0, k), some (0, s), none, some (0, x4), some (0, (x5 + 1))]) c_148_179 rfl rfl rfl (n_goto c_148_182 (n_fg (le_s (le_s (le_s (le_n (le_s (le_s le_0)))))) ?_))
            exact ih.2.2.2.2 _ _ M26 hS26 (by omega) (by omega) (by omega) (by omega) (by omega) (by omega) (by omega)
          · intro h27
            refine n_bipush c_148_148 rfl ?_
            exact n_rI c_148_150 rfl ⟨hS, by omega⟩
        · intro h28
          refine n_bipush c_148_126 rfl ?_
          exact n_rI c_148_128 rfl ⟨hS, by omega⟩
set_option maxHeartbeats 4000000 in
theorem mact_3 {xs : List Int32} {e : Nat} {ac : Int} {M : nM} {k s : Int} (hS : Sf 3 ac M M) (hdm : M 112 0 = 3) (hk : -2147483648 ≤ k ∧ k ≤ 2147483647) (hs : -2147483648 ≤ s ∧ s ≤ 2147483647) : nW xs (e + 1) 148 0 [some (2, 112), some (0, k), some (0, s), none, none, none] [] M (nPI fun z M1 => Sf 3 ac M1 M1 ∧ (-2147483648 ≤ z ∧ z ≤ 2147483647)) := by
  have hd : (3 : Int) = 2 ∨ (3 : Int) = 3 := by decide
  have hac := hS.2.2.2.2
  refine n_iload_n c_148_0 rfl (n_s1I c_148_1 rfl rfl rfl rfl (misSlot_3 (s := s) hS (by omega)) ?_)
  intro z1 M2 hP3
  obtain ⟨eM, f3, f3p0⟩ := hP3
  subst eM
  refine n_if0_eq c_148_4 (by omega) ?_ ?_
  · intro h4
    refine n_fg (le_n (le_n (le_n (le_n (le_n (le_n le_0)))))) ?_
    exact (mact_3_c hS hdm hk hs 94).1  M hS (by omega) (by omega)
  · intro h5
    refine n_iload_n c_148_7 rfl (n_iconst c_148_8 ?_)
    refine n_if2_lt c_148_9 (by omega) (by omega) ?_ ?_
    · intro h6
      refine n_fg (le_n (le_n (le_n (le_n (le_n (le_n le_0)))))) ?_
      exact (mact_3_c hS hdm hk hs 94).1  M hS (by omega) (by omega)
    · intro h7
      refine n_iload_n c_148_12 rfl (n_iconst c_148_13 ?_)
      refine n_if2_le c_148_14 (by omega) (by omega) ?_ ?_
      · intro h8
        refine n_iconst c_148_20 (n_istore_n (L2 := [some (2, 112), some (0, k), some (0, s), some (0, 0), none, none]) c_148_21 rfl rfl (n_iconst c_148_22 (n_istore (L2 := [some (2, 112), some (0, k), some (0, s), some (0, 0), some (0, 0), none]) c_148_23 rfl rfl (n_fg (le_s (le_s (le_s (le_s (le_s (le_n le_0)))))) ?_))))
        exact (mact_3_c hS hdm hk hs 94).2.1 _ _ M hS (by omega) (by omega) (by omega) (by omega) (by omega) (by omega)
      · intro h9
        refine n_fg (le_n (le_n (le_n (le_n (le_n (le_n le_0)))))) ?_
        exact (mact_3_c hS hdm hk hs 94).1  M hS (by omega) (by omega)

set_option maxHeartbeats 4000000 in
theorem mcount_3_c {xs : List Int32} {e : Nat} {ac : Int} {M0 M : nM} {w : Int} (hS : Sf 3 ac M0 M) (hdm : M0 112 0 = 3) (hw : -2147483648 ≤ w ∧ w ≤ 2147483647) : ∀ nn : Nat, (∀ (x2 x3 : Int), (-2147483648 ≤ x2 ∧ x2 ≤ 2147483647) → (0 ≤ x3 ∧ x3 ≤ 8) → (8 - x3) * 1 + 1 < (nn : Int) → nW xs e 201 69 [some (2, 112), none, some (0, x2), some (0, x3)] [] M (nPI fun z M1 => M = M1 ∧ (-2147483648 ≤ z ∧ z ≤ 2147483647))) := by
  have hd : (3 : Int) = 2 ∨ (3 : Int) = 3 := by decide
  have hac := hS.2.2.2.2
  intro nn
  induction nn with
  | zero => intros; omega
  | succ nn ih =>
    intro x2 x3 k2 k3 hnn
    refine n_iload_n c_201_69 rfl (n_bipush c_201_70 rfl ?_)
    refine n_if2_ge c_201_72 (by omega) (by omega) ?_ ?_
    · intro h1
      refine n_iload_n c_201_98 rfl ?_
      exact n_rI c_201_99 rfl ⟨rfl, by omega⟩
    · intro h2
      refine n_iload_n c_201_75 rfl (n_aload_n c_201_76 rfl (n_getR c_201_77 sc_112.n rfl rfl rfl r_112_1 (n_iload_n c_201_80 rfl (n_ialoadV c_201_81 sc_113.n rfl rfl rfl (by omega) (t_113 hS (by omega)) ?_))))
      intro z3 ez3 f4
      refine n_if0_ne c_201_82 (by omega) ?_ ?_
      · intro h5
        refine n_iconst c_201_89 (n_iadd c_201_90 rfl (n_wrap ?_))
        have f6 := n_wr_r (x2 + 1)
        generalize n_wr (x2 + 1) = z7 at f6 ⊢
        refine n_istore_n (L2 := [some (2, 112), none, some (0, z7), some (0, x3)]) c_201_91 rfl rfl (n_iinc (L2 := [some (2, 112), none, some (0, z7), some (0, (x3 + 1))]) c_201_92 rfl rfl rfl (n_goto c_201_95 (n_fg (le_s (le_n (le_s (le_s le_0)))) ?_)))
        exact ih _ _ (by omega) (by omega) (by omega)
      · intro h8
        refine n_iconst c_201_85 (n_goto c_201_86 (n_iadd c_201_90 rfl (n_istore_n (L2 := [some (2, 112), none, some (0, (x2 + 0)), some (0, x3)]) c_201_91 rfl rfl (n_iinc (L2 := [some (2, 112), none, some (0, (x2 + 0)), some (0, (x3 + 1))]) c_201_92 rfl rfl rfl (n_goto c_201_95 (n_fg (le_s (le_n (le_s (le_s le_0)))) ?_))))))
        exact ih _ _ (by omega) (by omega) (by omega)
set_option maxHeartbeats 4000000 in
theorem mcount_3 {xs : List Int32} {e : Nat} {ac : Int} {M0 M : nM} {w : Int} (hS : Sf 3 ac M0 M) (hdm : M0 112 0 = 3) (hw : -2147483648 ≤ w ∧ w ≤ 2147483647) : nW xs e 201 0 [some (2, 112), some (0, w), none, none] [] M (nPI fun z M1 => M = M1 ∧ (-2147483648 ≤ z ∧ z ≤ 2147483647)) := by
  have hd : (3 : Int) = 2 ∨ (3 : Int) = 3 := by decide
  have hac := hS.2.2.2.2
  refine n_iload_n c_201_0 rfl ?_
  refine n_sw c_201_1 (by omega) (by decide) ?_ ?_
  · intro h1
    refine n_pc (k2 := 100) rfl (n_iconst c_201_100 ?_)
    exact n_rI c_201_101 rfl ⟨rfl, by omega⟩
  · intro h2 h2b
    rcases (show w = 0 ∨ w = 1 ∨ w = 2 ∨ w = 3 ∨ w = 4 ∨ w = 5 by omega) with h2c | h2c | h2c | h2c | h2c | h2c
    · refine ⟨_, by rw [h2c]; rfl, by decide, ?_⟩
      refine n_pc (k2 := 40) rfl (n_aload_n c_201_40 rfl (n_getV (bi := 0) c_201_41 sc_112.n rfl rfl rfl (t_dm hS hdm) ?_))
      intro z3 ez3 f4
      obtain rfl : z3 = 3 := by omega
      exact n_rI c_201_44 rfl ⟨rfl, by omega⟩
    · refine ⟨_, by rw [h2c]; rfl, by decide, ?_⟩
      refine n_pc (k2 := 45) rfl (n_aload_n c_201_45 rfl (n_getV (bi := 4) c_201_46 sc_112.n rfl rfl rfl (t_112_4 hS) ?_))
      intro z5 ez5 f6
      exact n_rI c_201_49 rfl ⟨rfl, by omega⟩
    · refine ⟨_, by rw [h2c]; rfl, by decide, ?_⟩
      refine n_pc (k2 := 50) rfl (n_aload_n c_201_50 rfl (n_getV (bi := 7) c_201_51 sc_112.n rfl rfl rfl (t_112_7 hS) ?_))
      intro z7 ez7 f8
      exact n_rI c_201_54 rfl ⟨rfl, by omega⟩
    · refine ⟨_, by rw [h2c]; rfl, by decide, ?_⟩
      refine n_pc (k2 := 55) rfl (n_aload_n c_201_55 rfl (n_getV (bi := 10) c_201_56 sc_112.n rfl rfl rfl (t_112_10 hS) ?_))
      intro z9 ez9 f10
      exact n_rI c_201_59 rfl ⟨rfl, by omega⟩
    · refine ⟨_, by rw [h2c]; rfl, by decide, ?_⟩
      refine n_pc (k2 := 60) rfl (n_aload_n c_201_60 rfl (n_getV (bi := 11) c_201_61 sc_112.n rfl rfl rfl (t_112_11 hS) ?_))
      intro z11 ez11 f12
      exact n_rI c_201_64 rfl ⟨rfl, by omega⟩
    · refine ⟨_, by rw [h2c]; rfl, by decide, ?_⟩
      refine n_pc (k2 := 65) rfl (n_iconst c_201_65 (n_istore_n (L2 := [some (2, 112), some (0, w), some (0, 0), none]) c_201_66 rfl rfl (n_iconst c_201_67 (n_istore_n (L2 := [some (2, 112), some (0, w), some (0, 0), some (0, 0)]) c_201_68 rfl rfl (n_fg (le_s (le_n (le_s (le_s le_0)))) ?_)))))
      exact (mcount_3_c hS hdm hw 30) _ _ (by omega) (by omega) (by omega)
