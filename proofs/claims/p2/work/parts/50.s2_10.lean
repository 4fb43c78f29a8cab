/-! The methods, by program. -/
set_option maxHeartbeats 4000000 in
theorem mjoined8_2_c {xs : List Int32} {e : Nat} {ac : Int} {M0 M : nM} {a x y w s : Int} (hS : Sf 2 ac M0 M) (ha : 0 ≤ a ∧ a ≤ 7) (hx : 0 ≤ x ∧ x ≤ 256) (hy : 0 ≤ y ∧ y ≤ 256) (hw : 0 ≤ w ∧ w ≤ 256) (hs : 0 ≤ s ∧ s ≤ 1000000) : ∀ m : Nat, (∀ (x8 : Int) (M : nM), Sf 2 ac M0 M → (0 ≤ x8 ∧ x8 ≤ 510) → 2 < (m : Int) → nW xs e 163 145 [some (2, 112), none, none, none, none, none, some (0, s), none, some (0, x8), none, none] [] M (nPV fun M1 => Sf 2 ac M0 M1)) ∧ (∀ (M : nM), Sf 2 ac M0 M → 1 < (m : Int) → nW xs e 163 156 [none, none, none, none, none, none, none, none, none, none, none] [] M (nPV fun M1 => Sf 2 ac M0 M1)) := by
  have hd : (2 : Int) = 2 ∨ (2 : Int) = 3 := by decide
  have hac := hS.2.2.2.2
  intro m
  induction m with
  | zero => refine ⟨?_, ?_⟩ <;> (intros; omega)
  | succ m ih =>
    refine ⟨?_, ?_⟩
    · intro x8 M hS k8 hm
      refine n_aload_n c_163_145 rfl ?_
      refine n_getR c_163_146 sc_112.n rfl rfl rfl r_112_17 ?_
      refine n_iload c_163_149 rfl ?_
      refine n_iload c_163_151 rfl ?_
      refine n_iconst c_163_153 ?_
      refine n_iadd c_163_154 rfl ?_
      refine n_iastoreV hS c_163_155 sc_125.n rfl (by omega) (w_125 (by omega) (by omega)) ?_
      intro M1 eM1 hS1
      have g1_0 : M1 125 x8 = (s + 1) := by rw [eM1]; exact nu_s _ _ _ _
      refine n_fg (le_n (le_n (le_n (le_n (le_n (le_n (le_n (le_n (le_n (le_n (le_n le_0))))))))))) ?_
      exact ih.2  M1 hS1  (by omega)
    · intro M hS hm
      exact n_rV c_163_156 rfl hS
set_option maxHeartbeats 4000000 in
theorem mjoined8_2 {xs : List Int32} {e : Nat} {ac : Int} {M0 M : nM} {a x y w s : Int} (hS : Sf 2 ac M0 M) (ha : 0 ≤ a ∧ a ≤ 7) (hx : 0 ≤ x ∧ x ≤ 256) (hy : 0 ≤ y ∧ y ≤ 256) (hw : 0 ≤ w ∧ w ≤ 256) (hs : 0 ≤ s ∧ s ≤ 1000000) : nW xs e 163 0 [some (2, 112), some (0, a), some (0, 8), some (0, x), some (0, y), some (0, w), some (0, s), none, none, none, none] [] M (nPV fun M1 => Sf 2 ac M0 M1) := by
  have hd : (2 : Int) = 2 ∨ (2 : Int) = 3 := by decide
  have hac := hS.2.2.2.2
  refine n_aload_n c_163_0 rfl ?_
  refine n_getR c_163_1 sc_112.n rfl rfl rfl r_112_5 ?_
  refine n_iload_n c_163_4 rfl ?_
  refine n_ialoadV c_163_5 sc_116.n rfl rfl rfl (by omega) (t_116 hS (by omega)) ?_
  intro z1 ez1 f2
  refine n_istore (L2 := [some (2, 112), some (0, a), some (0, 8), some (0, x), some (0, y), some (0, w), some (0, s), some (0, z1), none, none, none]) c_163_6 rfl rfl ?_
  refine n_iconst c_163_8 ?_
  refine n_istore (L2 := [some (2, 112), some (0, a), some (0, 8), some (0, x), some (0, y), some (0, w), some (0, s), some (0, z1), some (0, 0), none, none]) c_163_9 rfl rfl ?_
  refine n_iload_n c_163_11 rfl ?_
  refine n_iconst c_163_12 ?_
  refine n_isub c_163_13 rfl ?_
  refine n_istore (L2 := [some (2, 112), some (0, a), some (0, 8), some (0, x), some (0, y), some (0, w), some (0, s), some (0, z1), some (0, 0), some (0, (8 - 1)), none]) c_163_14 rfl rfl ?_
  refine n_iload c_163_16 rfl ?_
  refine n_if0_lt c_163_18 (by omega) ?_ ?_
  · intro h3
    exfalso; omega
  · intro h4
    refine n_aload_n c_163_21 rfl ?_
    refine n_getR c_163_22 sc_112.n rfl rfl rfl r_112_18 ?_
    refine n_bipush c_163_25 rfl ?_
    refine n_iload_n c_163_27 rfl ?_
    refine n_imul c_163_28 rfl ?_
    refine n_iload c_163_29 rfl ?_
    refine n_iadd c_163_31 rfl ?_
    refine n_ialoadV c_163_32 sc_126.n rfl rfl rfl (by omega) (t_126 hS (by omega)) ?_
    intro z5 ez5 f6
    refine n_istore (L2 := [some (2, 112), some (0, a), some (0, 8), some (0, x), some (0, y), some (0, w), some (0, s), some (0, z1), some (0, 0), some (0, (8 - 1)), some (0, z5)]) c_163_33 rfl rfl ?_
    refine n_iload c_163_35 rfl ?_
    refine n_iconst c_163_37 ?_
    refine n_if2_le c_163_38 (by omega) (by omega) ?_ ?_
    · intro h7
      refine n_iload c_163_64 rfl ?_
      refine n_iconst c_163_66 ?_
      refine n_if2_le c_163_67 (by omega) (by omega) ?_ ?_
      · intro h8
        refine n_iload c_163_93 rfl ?_
        refine n_aload_n c_163_95 rfl ?_
        refine n_getV (bi := 0) c_163_96 sc_112.n rfl rfl rfl (t_112_0 hS) ?_
        intro z9 ez9 f10
        obtain rfl : z9 = 2 := by omega
        refine n_imul c_163_99 rfl ?_
        refine n_aload_n c_163_100 rfl ?_
        refine n_getR c_163_101 sc_112.n rfl rfl rfl r_112_6 ?_
        refine n_bipush c_163_104 rfl ?_
        refine n_iload_n c_163_106 rfl ?_
        refine n_imul c_163_107 rfl ?_
        refine n_iload c_163_108 rfl ?_
        refine n_iadd c_163_110 rfl ?_
        refine n_ialoadV c_163_111 sc_117.n rfl rfl rfl (by omega) (t_117 hS (by omega)) ?_
        intro z11 ez11 f12
        refine n_iadd c_163_112 rfl ?_
        refine n_istore (L2 := [some (2, 112), some (0, a), some (0, 8), some (0, x), some (0, y), some (0, w), some (0, s), some (0, z1), some (0, ((0 * 2) + z11)), some (0, (8 - 1)), some (0, z5)]) c_163_113 rfl rfl ?_
        refine n_iinc (L2 := [some (2, 112), some (0, a), some (0, 8), some (0, x), some (0, y), some (0, w), some (0, s), some (0, z1), some (0, ((0 * 2) + z11)), some (0, ((8 - 1) + (-1))), some (0, z5)]) c_163_115 rfl rfl rfl ?_
        refine n_goto c_163_118 ?_
        refine n_iload c_163_16 rfl ?_
        refine n_if0_lt c_163_18 (by omega) ?_ ?_
        · intro h13
          exfalso; omega
        · intro h14
          refine n_aload_n c_163_21 rfl ?_
          refine n_getR c_163_22 sc_112.n rfl rfl rfl r_112_18 ?_
          refine n_bipush c_163_25 rfl ?_
          refine n_iload_n c_163_27 rfl ?_
          refine n_imul c_163_28 rfl ?_
          refine n_iload c_163_29 rfl ?_
          refine n_iadd c_163_31 rfl ?_
          refine n_ialoadV c_163_32 sc_126.n rfl rfl rfl (by omega) (t_126 hS (by omega)) ?_
          intro z15 ez15 f16
          refine n_istore (L2 := [some (2, 112), some (0, a), some (0, 8), some (0, x), some (0, y), some (0, w), some (0, s), some (0, z1), some (0, ((0 * 2) + z11)), some (0, ((8 - 1) + (-1))), some (0, z15)]) c_163_33 rfl rfl ?_
          refine n_iload c_163_35 rfl ?_
          refine n_iconst c_163_37 ?_
          refine n_if2_le c_163_38 (by omega) (by omega) ?_ ?_
          · intro h17
            refine n_iload c_163_64 rfl ?_
            refine n_iconst c_163_66 ?_
            refine n_if2_le c_163_67 (by omega) (by omega) ?_ ?_
            · intro h18
              refine n_iload c_163_93 rfl ?_
              refine n_aload_n c_163_95 rfl ?_
              refine n_getV (bi := 0) c_163_96 sc_112.n rfl rfl rfl (t_112_0 hS) ?_
              intro z19 ez19 f20
              obtain rfl : z19 = 2 := by omega
              refine n_imul c_163_99 rfl ?_
              refine n_aload_n c_163_100 rfl ?_
              refine n_getR c_163_101 sc_112.n rfl rfl rfl r_112_6 ?_
              refine n_bipush c_163_104 rfl ?_
              refine n_iload_n c_163_106 rfl ?_
              refine n_imul c_163_107 rfl ?_
              refine n_iload c_163_108 rfl ?_
              refine n_iadd c_163_110 rfl ?_
              refine n_ialoadV c_163_111 sc_117.n rfl rfl rfl (by omega) (t_117 hS (by omega)) ?_
              intro z21 ez21 f22
              refine n_iadd c_163_112 rfl ?_
              refine n_istore (L2 := [some (2, 112), some (0, a), some (0, 8), some (0, x), some (0, y), some (0, w), some (0, s), some (0, z1), some (0, ((((0 * 2) + z11) * 2) + z21)), some (0, ((8 - 1) + (-1))), some (0, z15)]) c_163_113 rfl rfl ?_
              refine n_iinc (L2 := [some (2, 112), some (0, a), some (0, 8), some (0, x), some (0, y), some (0, w), some (0, s), some (0, z1), some (0, ((((0 * 2) + z11) * 2) + z21)), some (0, (((8 - 1) + (-1)) + (-1))), some (0, z15)]) c_163_115 rfl rfl rfl ?_
              refine n_goto c_163_118 ?_
              refine n_iload c_163_16 rfl ?_
              refine n_if0_lt c_163_18 (by omega) ?_ ?_
              · intro h23
                exfalso; omega
              · intro h24
                refine n_aload_n c_163_21 rfl ?_
                refine n_getR c_163_22 sc_112.n rfl rfl rfl r_112_18 ?_
                refine n_bipush c_163_25 rfl ?_
                refine n_iload_n c_163_27 rfl ?_
                refine n_imul c_163_28 rfl ?_
                refine n_iload c_163_29 rfl ?_
                refine n_iadd c_163_31 rfl ?_
                refine n_ialoadV c_163_32 sc_126.n rfl rfl rfl (by omega) (t_126 hS (by omega)) ?_
                intro z25 ez25 f26
                refine n_istore (L2 := [some (2, 112), some (0, a), some (0, 8), some (0, x), some (0, y), some (0, w), some (0, s), some (0, z1), some (0, ((((0 * 2) + z11) * 2) + z21)), some (0, (((8 - 1) + (-1)) + (-1))), some (0, z25)]) c_163_33 rfl rfl ?_
                refine n_iload c_163_35 rfl ?_
                refine n_iconst c_163_37 ?_
                refine n_if2_le c_163_38 (by omega) (by omega) ?_ ?_
                · intro h27
                  refine n_iload c_163_64 rfl ?_
                  refine n_iconst c_163_66 ?_
                  refine n_if2_le c_163_67 (by omega) (by omega) ?_ ?_
                  · intro h28
                    refine n_iload c_163_93 rfl ?_
                    refine n_aload_n c_163_95 rfl ?_
                    refine n_getV (bi := 0) c_163_96 sc_112.n rfl rfl rfl (t_112_0 hS) ?_
                    intro z29 ez29 f30
                    obtain rfl : z29 = 2 := by omega
                    refine n_imul c_163_99 rfl ?_
                    refine n_aload_n c_163_100 rfl ?_
                    refine n_getR c_163_101 sc_112.n rfl rfl rfl r_112_6 ?_
                    refine n_bipush c_163_104 rfl ?_
                    refine n_iload_n c_163_106 rfl ?_
                    refine n_imul c_163_107 rfl ?_
                    refine n_iload c_163_108 rfl ?_
                    refine n_iadd c_163_110 rfl ?_
                    refine n_ialoadV c_163_111 sc_117.n rfl rfl rfl (by omega) (t_117 hS (by omega)) ?_
                    intro z31 ez31 f32
                    refine n_iadd c_163_112 rfl ?_
                    refine n_istore (L2 := [some (2, 112), some (0, a), some (0, 8), some (0, x), some (0, y), some (0, w), some (0, s), some (0, z1), some (0, ((((((0 * 2) + z11) * 2) + z21) * 2) + z31)), some (0, (((8 - 1) + (-1)) + (-1))), some (0, z25)]) c_163_113 rfl rfl ?_
                    refine n_iinc (L2 := [some (2, 112), some (0, a), some (0, 8), some (0, x), some (0, y), some (0, w), some (0, s), some (0, z1), some (0, ((((((0 * 2) + z11) * 2) + z21) * 2) + z31)), some (0, ((((8 - 1) + (-1)) + (-1)) + (-1))), some (0, z25)]) c_163_115 rfl rfl rfl ?_
                    refine n_goto c_163_118 ?_
                    refine n_iload c_163_16 rfl ?_
                    refine n_if0_lt c_163_18 (by omega) ?_ ?_
                    · intro h33
                      exfalso; omega
                    · intro h34
                      refine n_aload_n c_163_21 rfl ?_
                      refine n_getR c_163_22 sc_112.n rfl rfl rfl r_112_18 ?_
                      refine n_bipush c_163_25 rfl ?_
                      refine n_iload_n c_163_27 rfl ?_
                      refine n_imul c_163_28 rfl ?_
                      refine n_iload c_163_29 rfl ?_
                      refine n_iadd c_163_31 rfl ?_
                      refine n_ialoadV c_163_32 sc_126.n rfl rfl rfl (by omega) (t_126 hS (by omega)) ?_
                      intro z35 ez35 f36
                      refine n_istore (L2 := [some (2, 112), some (0, a), some (0, 8), some (0, x), some (0, y), some (0, w), some (0, s), some (0, z1), some (0, ((((((0 * 2) + z11) * 2) + z21) * 2) + z31)), some (0, ((((8 - 1) + (-1)) + (-1)) + (-1))), some (0, z35)]) c_163_33 rfl rfl ?_
                      refine n_iload c_163_35 rfl ?_
                      refine n_iconst c_163_37 ?_
                      refine n_if2_le c_163_38 (by omega) (by omega) ?_ ?_
                      · intro h37
                        refine n_iload c_163_64 rfl ?_
                        refine n_iconst c_163_66 ?_
                        refine n_if2_le c_163_67 (by omega) (by omega) ?_ ?_
                        · intro h38
                          refine n_iload c_163_93 rfl ?_
                          refine n_aload_n c_163_95 rfl ?_
                          refine n_getV (bi := 0) c_163_96 sc_112.n rfl rfl rfl (t_112_0 hS) ?_
                          intro z39 ez39 f40
                          obtain rfl : z39 = 2 := by omega
                          refine n_imul c_163_99 rfl ?_
                          refine n_aload_n c_163_100 rfl ?_
                          refine n_getR c_163_101 sc_112.n rfl rfl rfl r_112_6 ?_
                          refine n_bipush c_163_104 rfl ?_
                          refine n_iload_n c_163_106 rfl ?_
                          refine n_imul c_163_107 rfl ?_
                          refine n_iload c_163_108 rfl ?_
                          refine n_iadd c_163_110 rfl ?_
                          refine n_ialoadV c_163_111 sc_117.n rfl rfl rfl (by omega) (t_117 hS (by omega)) ?_
                          intro z41 ez41 f42
                          refine n_iadd c_163_112 rfl ?_
                          refine n_istore (L2 := [some (2, 112), some (0, a), some (0, 8), some (0, x), some (0, y), some (0, w), some (0, s), some (0, z1), some (0, ((((((((0 * 2) + z11) * 2) + z21) * 2) + z31) * 2) + z41)), some (0, ((((8 - 1) + (-1)) + (-1)) + (-1))), some (0, z35)]) c_163_113 rfl rfl ?_
                          refine n_iinc (L2 := [some (2, 112), some (0, a), some (0, 8), some (0, x), some (0, y), some (0, w), some (0, s), some (0, z1), some (0, ((((((((0 * 2) + z11) * 2) + z21) * 2) + z31) * 2) + z41)), some (0, (((((8 - 1) + (-1)) + (-1)) + (-1)) + (-1))), some (0, z35)]) c_163_115 rfl rfl rfl ?_
                          refine n_goto c_163_118 ?_
                          refine n_iload c_163_16 rfl ?_
                          refine n_if0_lt c_163_18 (by omega) ?_ ?_
                          · intro h43
                            exfalso; omega
                          · intro h44
                            refine n_aload_n c_163_21 rfl ?_
                            refine n_getR c_163_22 sc_112.n rfl rfl rfl r_112_18 ?_
                            refine n_bipush c_163_25 rfl ?_
                            refine n_iload_n c_163_27 rfl ?_
                            refine n_imul c_163_28 rfl ?_
                            refine n_iload c_163_29 rfl ?_
                            refine n_iadd c_163_31 rfl ?_
                            refine n_ialoadV c_163_32 sc_126.n rfl rfl rfl (by omega) (t_126 hS (by omega)) ?_
                            intro z45 ez45 f46
                            refine n_istore (L2 := [some (2, 112), some (0, a), some (0, 8), some (0, x), some (0, y), some (0, w), some (0, s), some (0, z1), some (0, ((((((((0 * 2) + z11) * 2) + z21) * 2) + z31) * 2) + z41)), some (0, (((((8 - 1) + (-1)) + (-1)) + (-1)) + (-1))), some (0, z45)]) c_163_33 rfl rfl ?_
                            refine n_iload c_163_35 rfl ?_
                            refine n_iconst c_163_37 ?_
                            refine n_if2_le c_163_38 (by omega) (by omega) ?_ ?_
                            · intro h47
                              refine n_iload c_163_64 rfl ?_
                              refine n_iconst c_163_66 ?_
                              refine n_if2_le c_163_67 (by omega) (by omega) ?_ ?_
                              · intro h48
                                refine n_iload c_163_93 rfl ?_
                                refine n_aload_n c_163_95 rfl ?_
                                refine n_getV (bi := 0) c_163_96 sc_112.n rfl rfl rfl (t_112_0 hS) ?_
                                intro z49 ez49 f50
                                obtain rfl : z49 = 2 := by omega
                                refine n_imul c_163_99 rfl ?_
                                refine n_aload_n c_163_100 rfl ?_
                                refine n_getR c_163_101 sc_112.n rfl rfl rfl r_112_6 ?_
                                refine n_bipush c_163_104 rfl ?_
                                refine n_iload_n c_163_106 rfl ?_
                                refine n_imul c_163_107 rfl ?_
                                refine n_iload c_163_108 rfl ?_
                                refine n_iadd c_163_110 rfl ?_
                                refine n_ialoadV c_163_111 sc_117.n rfl rfl rfl (by omega) (t_117 hS (by omega)) ?_
                                intro z51 ez51 f52
                                refine n_iadd c_163_112 rfl ?_
                                refine n_istore (L2 := [some (2, 112), some (0, a), some (0, 8), some (0, x), some (0, y), some (0, w), some (0, s), some (0, z1), some (0, ((((((((((0 * 2) + z11) * 2) + z21) * 2) + z31) * 2) + z41) * 2) + z51)), some (0, (((((8 - 1) + (-1)) + (-1)) + (-1)) + (-1))), some (0, z45)]) c_163_113 rfl rfl ?_
                                refine n_iinc (L2 := [some (2, 112), some (0, a), some (0, 8), some (0, x), some (0, y), some (0, w), some (0, s), some (0, z1), some (0, ((((((((((0 * 2) + z11) * 2) + z21) * 2) + z31) * 2) + z41) * 2) + z51)), some (0, ((((((8 - 1) + (-1)) + (-1)) + (-1)) + (-1)) + (-1))), some (0, z45)]) c_163_115 rfl rfl rfl ?_
                                refine n_goto c_163_118 ?_
                                refine n_iload c_163_16 rfl ?_
                                refine n_if0_lt c_163_18 (by omega) ?_ ?_
                                · intro h53
                                  exfalso; omega
                                · intro h54
                                  refine n_aload_n c_163_21 rfl ?_
                                  refine n_getR c_163_22 sc_112.n rfl rfl rfl r_112_18 ?_
                                  refine n_bipush c_163_25 rfl ?_
                                  refine n_iload_n c_163_27 rfl ?_
                                  refine n_imul c_163_28 rfl ?_
                                  refine n_iload c_163_29 rfl ?_
                                  refine n_iadd c_163_31 rfl ?_
                                  refine n_ialoadV c_163_32 sc_126.n rfl rfl rfl (by omega) (t_126 hS (by omega)) ?_
                                  intro z55 ez55 f56
                                  refine n_istore (L2 := [some (2, 112), some (0, a), some (0, 8), some (0, x), some (0, y), some (0, w), some (0, s), some (0, z1), some (0, ((((((((((0 * 2) + z11) * 2) + z21) * 2) + z31) * 2) + z41) * 2) + z51)), some (0, ((((((8 - 1) + (-1)) + (-1)) + (-1)) + (-1)) + (-1))), some (0, z55)]) c_163_33 rfl rfl ?_
                                  refine n_iload c_163_35 rfl ?_
                                  refine n_iconst c_163_37 ?_
                                  refine n_if2_le c_163_38 (by omega) (by omega) ?_ ?_
                                  · intro h57
                                    refine n_iload c_163_64 rfl ?_
                                    refine n_iconst c_163_66 ?_
                                    refine n_if2_le c_163_67 (by omega) (by omega) ?_ ?_
                                    · intro h58
                                      refine n_iload c_163_93 rfl ?_
                                      refine n_aload_n c_163_95 rfl ?_
                                      refine n_getV (bi := 0) c_163_96 sc_112.n rfl rfl rfl (t_112_0 hS) ?_
                                      intro z59 ez59 f60
                                      obtain rfl : z59 = 2 := by omega
                                      refine n_imul c_163_99 rfl ?_
                                      refine n_aload_n c_163_100 rfl ?_
                                      refine n_getR c_163_101 sc_112.n rfl rfl rfl r_112_6 ?_
                                      refine n_bipush c_163_104 rfl ?_
                                      refine n_iload_n c_163_106 rfl ?_
                                      refine n_imul c_163_107 rfl ?_
                                      refine n_iload c_163_108 rfl ?_
                                      refine n_iadd c_163_110 rfl ?_
                                      refine n_ialoadV c_163_111 sc_117.n rfl rfl rfl (by omega) (t_117 hS (by omega)) ?_
                                      intro z61 ez61 f62
                                      refine n_iadd c_163_112 rfl ?_
                                      refine n_istore (L2 := [some (2, 112), some (0, a), some (0, 8), some (0, x), some (0, y), some (0, w), some (0, s), some (0, z1), some (0, ((((((((((((0 * 2) + z11) * 2) + z21) * 2) + z31) * 2) + z41) * 2) + z51) * 2) + z61)), some (0, ((((((8 - 1) + (-1)) + (-1)) + (-1)) + (-1)) + (-1))), some (0, z55)]) c_163_113 rfl rfl ?_
                                      refine n_iinc (L2 := [some (2, 112), some (0, a), some (0, 8), some (0, x), some (0, y), some (0, w), some (0, s), some (0, z1), some (0, ((((((((((((0 * 2) + z11) * 2) + z21) * 2) + z31) * 2) + z41) * 2) + z51) * 2) + z61)), some (0, (((((((8 - 1) + (-1)) + (-1)) + (-1)) + (-1)) + (-1)) + (-1))), some (0, z55)]) c_163_115 rfl rfl rfl ?_
                                      refine n_goto c_163_118 ?_
                                      refine n_iload c_163_16 rfl ?_
                                      refine n_if0_lt c_163_18 (by omega) ?_ ?_
                                      · intro h63
                                        exfalso; omega
                                      · intro h64
                                        refine n_aload_n c_163_21 rfl ?_
                                        refine n_getR c_163_22 sc_112.n rfl rfl rfl r_112_18 ?_
                                        refine n_bipush c_163_25 rfl ?_
                                        refine n_iload_n c_163_27 rfl ?_
                                        refine n_imul c_163_28 rfl ?_
                                        refine n_iload c_163_29 rfl ?_
                                        refine n_iadd c_163_31 rfl ?_
                                        refine n_ialoadV c_163_32 sc_126.n rfl rfl rfl (by omega) (t_126 hS (by omega)) ?_
                                        intro z65 ez65 f66
                                        refine n_istore (L2 := [some (2, 112), some (0, a), some (0, 8), some (0, x), some (0, y), some (0, w), some (0, s), some (0, z1), some (0, ((((((((((((0 * 2) + z11) * 2) + z21) * 2) + z31) * 2) + z41) * 2) + z51) * 2) + z61)), some (0, (((((((8 - 1) + (-1)) + (-1)) + (-1)) + (-1)) + (-1)) + (-1))), some (0, z65)]) c_163_33 rfl rfl ?_
                                        refine n_iload c_163_35 rfl ?_
                                        refine n_iconst c_163_37 ?_
                                        refine n_if2_le c_163_38 (by omega) (by omega) ?_ ?_
                                        · intro h67
                                          refine n_iload c_163_64 rfl ?_
                                          refine n_iconst c_163_66 ?_
                                          refine n_if2_le c_163_67 (by omega) (by omega) ?_ ?_
                                          · intro h68
                                            refine n_iload c_163_93 rfl ?_
                                            refine n_aload_n c_163_95 rfl ?_
                                            refine n_getV (bi := 0) c_163_96 sc_112.n rfl rfl rfl (t_112_0 hS) ?_
                                            intro z69 ez69 f70
                                            obtain rfl : z69 = 2 := by omega
                                            refine n_imul c_163_99 rfl ?_
                                            refine n_aload_n c_163_100 rfl ?_
                                            refine n_getR c_163_101 sc_112.n rfl rfl rfl r_112_6 ?_
                                            refine n_bipush c_163_104 rfl ?_
                                            refine n_iload_n c_163_106 rfl ?_
                                            refine n_imul c_163_107 rfl ?_
                                            refine n_iload c_163_108 rfl ?_
                                            refine n_iadd c_163_110 rfl ?_
                                            refine n_ialoadV c_163_111 sc_117.n rfl rfl rfl (by omega) (t_117 hS (by omega)) ?_
                                            intro z71 ez71 f72
                                            refine n_iadd c_163_112 rfl ?_
                                            refine n_istore (L2 := [some (2, 112), some (0, a), some (0, 8), some (0, x), some (0, y), some (0, w), some (0, s), some (0, z1), some (0, ((((((((((((((0 * 2) + z11) * 2) + z21) * 2) + z31) * 2) + z41) * 2) + z51) * 2) + z61) * 2) + z71)), some (0, (((((((8 - 1) + (-1)) + (-1)) + (-1)) + (-1)) + (-1)) + (-1))), some (0, z65)]) c_163_113 rfl rfl ?_
                                            refine n_iinc (L2 := [some (2, 112), some (0, a), some (0, 8), some (0, x), some (0, y), some (0, w), some (0, s), some (0, z1), some (0, ((((((((((((((0 * 2) + z11) * 2) + z21) * 2) + z31) * 2) + z41) * 2) + z51) * 2) + z61) * 2) + z71)), some (0, ((((((((8 - 1) + (-1)) + (-1)) + (-1)) + (-1)) + (-1)) + (-1)) + (-1))), some (0, z65)]) c_163_115 rfl rfl rfl ?_
                                            refine n_goto c_163_118 ?_
                                            refine n_iload c_163_16 rfl ?_
                                            refine n_if0_lt c_163_18 (by omega) ?_ ?_
                                            · intro h73
                                              exfalso; omega
                                            · intro h74
                                              refine n_aload_n c_163_21 rfl ?_
                                              refine n_getR c_163_22 sc_112.n rfl rfl rfl r_112_18 ?_
                                              refine n_bipush c_163_25 rfl ?_
                                              refine n_iload_n c_163_27 rfl ?_
                                              refine n_imul c_163_28 rfl ?_
                                              refine n_iload c_163_29 rfl ?_
                                              refine n_iadd c_163_31 rfl ?_
                                              refine n_ialoadV c_163_32 sc_126.n rfl rfl rfl (by omega) (t_126 hS (by omega)) ?_
                                              intro z75 ez75 f76
                                              refine n_istore (L2 := [some (2, 112), some (0, a), some (0, 8), some (0, x), some (0, y), some (0, w), some (0, s), some (0, z1), some (0, ((((((((((((((0 * 2) + z11) * 2) + z21) * 2) + z31) * 2) + z41) * 2) + z51) * 2) + z61) * 2) + z71)), some (0, ((((((((8 - 1) + (-1)) + (-1)) + (-1)) + (-1)) + (-1)) + (-1)) + (-1))), some (0, z75)]) c_163_33 rfl rfl ?_
                                              refine n_iload c_163_35 rfl ?_
                                              refine n_iconst c_163_37 ?_
                                              refine n_if2_le c_163_38 (by omega) (by omega) ?_ ?_
                                              · intro h77
                                                refine n_iload c_163_64 rfl ?_
                                                refine n_iconst c_163_66 ?_
                                                refine n_if2_le c_163_67 (by omega) (by omega) ?_ ?_
                                                · intro h78
                                                  refine n_iload c_163_93 rfl ?_
                                                  refine n_aload_n c_163_95 rfl ?_
                                                  refine n_getV (bi := 0) c_163_96 sc_112.n rfl rfl rfl (t_112_0 hS) ?_
                                                  intro z79 ez79 f80
                                                  obtain rfl : z79 = 2 := by omega
                                                  refine n_imul c_163_99 rfl ?_
                                                  refine n_aload_n c_163_100 rfl ?_
                                                  refine n_getR c_163_101 sc_112.n rfl rfl rfl r_112_6 ?_
                                                  refine n_bipush c_163_104 rfl ?_
                                                  refine n_iload_n c_163_106 rfl ?_
                                                  refine n_imul c_163_107 rfl ?_
                                                  refine n_iload c_163_108 rfl ?_
                                                  refine n_iadd c_163_110 rfl ?_
                                                  refine n_ialoadV c_163_111 sc_117.n rfl rfl rfl (by omega) (t_117 hS (by omega)) ?_
                                                  intro z81 ez81 f82
                                                  refine n_iadd c_163_112 rfl ?_
                                                  refine n_istore (L2 := [some (2, 112), some (0, a), some (0, 8), some (0, x), some (0, y), some (0, w), some (0, s), some (0, z1), some (0, ((((((((((((((((0 * 2) + z11) * 2) + z21) * 2) + z31) * 2) + z41) * 2) + z51) * 2) + z61) * 2) + z71) * 2) + z81)), some (0, ((((((((8 - 1) + (-1)) + (-1)) + (-1)) + (-1)) + (-1)) + (-1)) + (-1))), some (0, z75)]) c_163_113 rfl rfl ?_
                                                  refine n_iinc (L2 := [some (2, 112), some (0, a), some (0, 8), some (0, x), some (0, y), some (0, w), some (0, s), some (0, z1), some (0, ((((((((((((((((0 * 2) + z11) * 2) + z21) * 2) + z31) * 2) + z41) * 2) + z51) * 2) + z61) * 2) + z71) * 2) + z81)), some (0, (((((((((8 - 1) + (-1)) + (-1)) + (-1)) + (-1)) + (-1)) + (-1)) + (-1)) + (-1))), some (0, z75)]) c_163_115 rfl rfl rfl ?_
                                                  refine n_goto c_163_118 ?_
                                                  refine n_iload c_163_16 rfl ?_
                                                  refine n_if0_lt c_163_18 (by omega) ?_ ?_
                                                  · intro h83
                                                    refine n_aload_n c_163_121 rfl ?_
                                                    refine n_getR c_163_122 sc_112.n rfl rfl rfl r_112_17 ?_
                                                    refine n_iload c_163_125 rfl ?_
                                                    refine n_ialoadV c_163_127 sc_125.n rfl rfl rfl (by omega) (t_125 hS (by omega)) ?_
                                                    intro z84 ez84 f85
                                                    refine n_if0_eq c_163_128 (by omega) ?_ ?_
                                                    · intro h86
                                                      refine n_fg (le_s (le_n (le_n (le_n (le_n (le_n (le_s (le_n (le_s (le_n (le_n le_0))))))))))) ?_
                                                      exact (mjoined8_2_c hS ha hx hy hw hs 14).1 _ M hS (by omega) (by omega)
                                                    · intro h87
                                                      refine n_aload_n c_163_131 rfl ?_
                                                      refine n_getR c_163_132 sc_112.n rfl rfl rfl r_112_17 ?_
                                                      refine n_iload c_163_135 rfl ?_
                                                      refine n_ialoadV c_163_137 sc_125.n rfl rfl rfl (by omega) (t_125 hS (by omega)) ?_
                                                      intro z88 ez88 f89
                                                      refine n_iload c_163_138 rfl ?_
                                                      refine n_iconst c_163_140 ?_
                                                      refine n_iadd c_163_141 rfl ?_
                                                      refine n_if2_le c_163_142 (by omega) (by omega) ?_ ?_
                                                      · intro h90
                                                        refine n_fg (le_n (le_n (le_n (le_n (le_n (le_n (le_n (le_n (le_n (le_n (le_n le_0))))))))))) ?_
                                                        exact (mjoined8_2_c hS ha hx hy hw hs 14).2  M hS  (by omega)
                                                      · intro h91
                                                        refine n_fg (le_s (le_n (le_n (le_n (le_n (le_n (le_s (le_n (le_s (le_n (le_n le_0))))))))))) ?_
                                                        exact (mjoined8_2_c hS ha hx hy hw hs 14).1 _ M hS (by omega) (by omega)
                                                  · intro h92
                                                    exfalso; omega
                                                · intro h93
                                                  exfalso; omega
                                              · intro h94
                                                exfalso; omega
                                          · intro h95
                                            exfalso; omega
                                        · intro h96
                                          exfalso; omega
                                    · intro h97
                                      exfalso; omega
                                  · intro h98
                                    exfalso; omega
                              · intro h99
                                exfalso; omega
                            · intro h100
                              exfalso; omega
                        · intro h101
                          exfalso; omega
                      · intro h102
                        exfalso; omega
                  · intro h103
                    exfalso; omega
                · intro h104
                  exfalso; omega
            · intro h105
              exfalso; omega
          · intro h106
            exfalso; omega
      · intro h107
        exfalso; omega
    · intro h108
      refine n_iload c_163_41 rfl ?_
      refine n_aload_n c_163_43 rfl ?_
      refine n_getV (bi := 0) c_163_44 sc_112.n rfl rfl rfl (t_112_0 hS) ?_
      intro z109 ez109 f110
      obtain rfl : z109 = 2 := by omega
      refine n_imul c_163_47 rfl ?_
      refine n_aload_n c_163_48 rfl ?_
      refine n_getR c_163_49 sc_112.n rfl rfl rfl r_112_18 ?_
      refine n_bipush c_163_52 rfl ?_
      refine n_iload c_163_54 rfl ?_
      refine n_imul c_163_56 rfl ?_
      refine n_iload c_163_57 rfl ?_
      refine n_iadd c_163_59 rfl ?_
      refine n_ialoadV c_163_60 sc_126.n rfl rfl rfl (by omega) (t_126 hS (by omega)) ?_
      intro z111 ez111 f112
      refine n_iadd c_163_61 rfl ?_
      refine n_istore (L2 := [some (2, 112), some (0, a), some (0, 8), some (0, x), some (0, y), some (0, w), some (0, s), some (0, z1), some (0, 0), some (0, (8 - 1)), some (0, ((z5 * 2) + z111))]) c_163_62 rfl rfl ?_
      refine n_iload c_163_64 rfl ?_
      refine n_iconst c_163_66 ?_
      refine n_if2_le c_163_67 (by omega) (by omega) ?_ ?_
      · intro h113
        refine n_iload c_163_93 rfl ?_
        refine n_aload_n c_163_95 rfl ?_
        refine n_getV (bi := 0) c_163_96 sc_112.n rfl rfl rfl (t_112_0 hS) ?_
        intro z114 ez114 f115
        obtain rfl : z114 = 2 := by omega
        refine n_imul c_163_99 rfl ?_
        refine n_aload_n c_163_100 rfl ?_
        refine n_getR c_163_101 sc_112.n rfl rfl rfl r_112_6 ?_
        refine n_bipush c_163_104 rfl ?_
        refine n_iload_n c_163_106 rfl ?_
        refine n_imul c_163_107 rfl ?_
        refine n_iload c_163_108 rfl ?_
        refine n_iadd c_163_110 rfl ?_
        refine n_ialoadV c_163_111 sc_117.n rfl rfl rfl (by omega) (t_117 hS (by omega)) ?_
        intro z116 ez116 f117
        refine n_iadd c_163_112 rfl ?_
        refine n_istore (L2 := [some (2, 112), some (0, a), some (0, 8), some (0, x), some (0, y), some (0, w), some (0, s), some (0, z1), some (0, ((0 * 2) + z116)), some (0, (8 - 1)), some (0, ((z5 * 2) + z111))]) c_163_113 rfl rfl ?_
        refine n_iinc (L2 := [some (2, 112), some (0, a), some (0, 8), some (0, x), some (0, y), some (0, w), some (0, s), some (0, z1), some (0, ((0 * 2) + z116)), some (0, ((8 - 1) + (-1))), some (0, ((z5 * 2) + z111))]) c_163_115 rfl rfl rfl ?_
        refine n_goto c_163_118 ?_
        refine n_iload c_163_16 rfl ?_
        refine n_if0_lt c_163_18 (by omega) ?_ ?_
        · intro h118
          exfalso; omega
        · intro h119
          refine n_aload_n c_163_21 rfl ?_
          refine n_getR c_163_22 sc_112.n rfl rfl rfl r_112_18 ?_
          refine n_bipush c_163_25 rfl ?_
          refine n_iload_n c_163_27 rfl ?_
          refine n_imul c_163_28 rfl ?_
          refine n_iload c_163_29 rfl ?_
          refine n_iadd c_163_31 rfl ?_
          refine n_ialoadV c_163_32 sc_126.n rfl rfl rfl (by omega) (t_126 hS (by omega)) ?_
          intro z120 ez120 f121
          refine n_istore (L2 := [some (2, 112), some (0, a), some (0, 8), some (0, x), some (0, y), some (0, w), some (0, s), some (0, z1), some (0, ((0 * 2) + z116)), some (0, ((8 - 1) + (-1))), some (0, z120)]) c_163_33 rfl rfl ?_
          refine n_iload c_163_35 rfl ?_
          refine n_iconst c_163_37 ?_
          refine n_if2_le c_163_38 (by omega) (by omega) ?_ ?_
          · intro h122
            exfalso; omega
          · intro h123
            refine n_iload c_163_41 rfl ?_
            refine n_aload_n c_163_43 rfl ?_
            refine n_getV (bi := 0) c_163_44 sc_112.n rfl rfl rfl (t_112_0 hS) ?_
            intro z124 ez124 f125
            obtain rfl : z124 = 2 := by omega
            refine n_imul c_163_47 rfl ?_
            refine n_aload_n c_163_48 rfl ?_
            refine n_getR c_163_49 sc_112.n rfl rfl rfl r_112_18 ?_
            refine n_bipush c_163_52 rfl ?_
            refine n_iload c_163_54 rfl ?_
            refine n_imul c_163_56 rfl ?_
            refine n_iload c_163_57 rfl ?_
            refine n_iadd c_163_59 rfl ?_
            refine n_ialoadV c_163_60 sc_126.n rfl rfl rfl (by omega) (t_126 hS (by omega)) ?_
            intro z126 ez126 f127
            refine n_iadd c_163_61 rfl ?_
            refine n_istore (L2 := [some (2, 112), some (0, a), some (0, 8), some (0, x), some (0, y), some (0, w), some (0, s), some (0, z1), some (0, ((0 * 2) + z116)), some (0, ((8 - 1) + (-1))), some (0, ((z120 * 2) + z126))]) c_163_62 rfl rfl ?_
            refine n_iload c_163_64 rfl ?_
            refine n_iconst c_163_66 ?_
            refine n_if2_le c_163_67 (by omega) (by omega) ?_ ?_
            · intro h128
              refine n_iload c_163_93 rfl ?_
              refine n_aload_n c_163_95 rfl ?_
              refine n_getV (bi := 0) c_163_96 sc_112.n rfl rfl rfl (t_112_0 hS) ?_
              intro z129 ez129 f130
              obtain rfl : z129 = 2 := by omega
              refine n_imul c_163_99 rfl ?_
              refine n_aload_n c_163_100 rfl ?_
              refine n_getR c_163_101 sc_112.n rfl rfl rfl r_112_6 ?_
              refine n_bipush c_163_104 rfl ?_
              refine n_iload_n c_163_106 rfl ?_
              refine n_imul c_163_107 rfl ?_
              refine n_iload c_163_108 rfl ?_
              refine n_iadd c_163_110 rfl ?_
              refine n_ialoadV c_163_111 sc_117.n rfl rfl rfl (by omega) (t_117 hS (by omega)) ?_
              intro z131 ez131 f132
              refine n_iadd c_163_112 rfl ?_
              refine n_istore (L2 := [some (2, 112), some (0, a), some (0, 8), some (0, x), some (0, y), some (0, w), some (0, s), some (0, z1), some (0, ((((0 * 2) + z116) * 2) + z131)), some (0, ((8 - 1) + (-1))), some (0, ((z120 * 2) + z126))]) c_163_113 rfl rfl ?_
              refine n_iinc (L2 := [some (2, 112), some (0, a), some (0, 8), some (0, x), some (0, y), some (0, w), some (0, s), some (0, z1), some (0, ((((0 * 2) + z116) * 2) + z131)), some (0, (((8 - 1) + (-1)) + (-1))), some (0, ((z120 * 2) + z126))]) c_163_115 rfl rfl rfl ?_
              refine n_goto c_163_118 ?_
              refine n_iload c_163_16 rfl ?_
              refine n_if0_lt c_163_18 (by omega) ?_ ?_
              · intro h133
                exfalso; omega
              · intro h134
                refine n_aload_n c_163_21 rfl ?_
                refine n_getR c_163_22 sc_112.n rfl rfl rfl r_112_18 ?_
                refine n_bipush c_163_25 rfl ?_
                refine n_iload_n c_163_27 rfl ?_
                refine n_imul c_163_28 rfl ?_
                refine n_iload c_163_29 rfl ?_
                refine n_iadd c_163_31 rfl ?_
                refine n_ialoadV c_163_32 sc_126.n rfl rfl rfl (by omega) (t_126 hS (by omega)) ?_
                intro z135 ez135 f136
                refine n_istore (L2 := [some (2, 112), some (0, a), some (0, 8), some (0, x), some (0, y), some (0, w), some (0, s), some (0, z1), some (0, ((((0 * 2) + z116) * 2) + z131)), some (0, (((8 - 1) + (-1)) + (-1))), some (0, z135)]) c_163_33 rfl rfl ?_
                refine n_iload c_163_35 rfl ?_
                refine n_iconst c_163_37 ?_
                refine n_if2_le c_163_38 (by omega) (by omega) ?_ ?_
                · intro h137
                  exfalso; omega
                · intro h138
                  refine n_iload c_163_41 rfl ?_
                  refine n_aload_n c_163_43 rfl ?_
                  refine n_getV (bi := 0) c_163_44 sc_112.n rfl rfl rfl (t_112_0 hS) ?_
                  intro z139 ez139 f140
                  obtain rfl : z139 = 2 := by omega
                  refine n_imul c_163_47 rfl ?_
                  refine n_aload_n c_163_48 rfl ?_
                  refine n_getR c_163_49 sc_112.n rfl rfl rfl r_112_18 ?_
                  refine n_bipush c_163_52 rfl ?_
                  refine n_iload c_163_54 rfl ?_
                  refine n_imul c_163_56 rfl ?_
                  refine n_iload c_163_57 rfl ?_
                  refine n_iadd c_163_59 rfl ?_
                  refine n_ialoadV c_163_60 sc_126.n rfl rfl rfl (by omega) (t_126 hS (by omega)) ?_
                  intro z141 ez141 f142
                  refine n_iadd c_163_61 rfl ?_
                  refine n_istore (L2 := [some (2, 112), some (0, a), some (0, 8), some (0, x), some (0, y), some (0, w), some (0, s), some (0, z1), some (0, ((((0 * 2) + z116) * 2) + z131)), some (0, (((8 - 1) + (-1)) + (-1))), some (0, ((z135 * 2) + z141))]) c_163_62 rfl rfl ?_
                  refine n_iload c_163_64 rfl ?_
                  refine n_iconst c_163_66 ?_
                  refine n_if2_le c_163_67 (by omega) (by omega) ?_ ?_
                  · intro h143
                    refine n_iload c_163_93 rfl ?_
                    refine n_aload_n c_163_95 rfl ?_
                    refine n_getV (bi := 0) c_163_96 sc_112.n rfl rfl rfl (t_112_0 hS) ?_
                    intro z144 ez144 f145
                    obtain rfl : z144 = 2 := by omega
                    refine n_imul c_163_99 rfl ?_
                    refine n_aload_n c_163_100 rfl ?_
                    refine n_getR c_163_101 sc_112.n rfl rfl rfl r_112_6 ?_
                    refine n_bipush c_163_104 rfl ?_
                    refine n_iload_n c_163_106 rfl ?_
                    refine n_imul c_163_107 rfl ?_
                    refine n_iload c_163_108 rfl ?_
                    refine n_iadd c_163_110 rfl ?_
                    refine n_ialoadV c_163_111 sc_117.n rfl rfl rfl (by omega) (t_117 hS (by omega)) ?_
                    intro z146 ez146 f147
                    refine n_iadd c_163_112 rfl ?_
                    refine n_istore (L2 := [some (2, 112), some (0, a), some (0, 8), some (0, x), some (0, y), some (0, w), some (0, s), some (0, z1), some (0, ((((((0 * 2) + z116) * 2) + z131) * 2) + z146)), some (0, (((8 - 1) + (-1)) + (-1))), some (0, ((z135 * 2) + z141))]) c_163_113 rfl rfl ?_
                    refine n_iinc (L2 := [some (2, 112), some (0, a), some (0, 8), some (0, x), some (0, y), some (0, w), some (0, s), some (0, z1), some (0, ((((((0 * 2) + z116) * 2) + z131) * 2) + z146)), some (0, ((((8 - 1) + (-1)) + (-1)) + (-1))), some (0, ((z135 * 2) + z141))]) c_163_115 rfl rfl rfl ?_
                    refine n_goto c_163_118 ?_
                    refine n_iload c_163_16 rfl ?_
                    refine n_if0_lt c_163_18 (by omega) ?_ ?_
                    · intro h148
                      exfalso; omega
                    · intro h149
                      refine n_aload_n c_163_21 rfl ?_
                      refine n_getR c_163_22 sc_112.n rfl rfl rfl r_112_18 ?_
                      refine n_bipush c_163_25 rfl ?_
                      refine n_iload_n c_163_27 rfl ?_
                      refine n_imul c_163_28 rfl ?_
                      refine n_iload c_163_29 rfl ?_
                      refine n_iadd c_163_31 rfl ?_
                      refine n_ialoadV c_163_32 sc_126.n rfl rfl rfl (by omega) (t_126 hS (by omega)) ?_
                      intro z150 ez150 f151
                      refine n_istore (L2 := [some (2, 112), some (0, a), some (0, 8), some (0, x), some (0, y), some (0, w), some (0, s), some (0, z1), some (0, ((((((0 * 2) + z116) * 2) + z131) * 2) + z146)), some (0, ((((8 - 1) + (-1)) + (-1)) + (-1))), some (0, z150)]) c_163_33 rfl rfl ?_
                      refine n_iload c_163_35 rfl ?_
                      refine n_iconst c_163_37 ?_
                      refine n_if2_le c_163_38 (by omega) (by omega) ?_ ?_
                      · intro h152
                        exfalso; omega
                      · intro h153
                        refine n_iload c_163_41 rfl ?_
                        refine n_aload_n c_163_43 rfl ?_
                        refine n_getV (bi := 0) c_163_44 sc_112.n rfl rfl rfl (t_112_0 hS) ?_
                        intro z154 ez154 f155
                        obtain rfl : z154 = 2 := by omega
                        refine n_imul c_163_47 rfl ?_
                        refine n_aload_n c_163_48 rfl ?_
                        refine n_getR c_163_49 sc_112.n rfl rfl rfl r_112_18 ?_
                        refine n_bipush c_163_52 rfl ?_
                        refine n_iload c_163_54 rfl ?_
                        refine n_imul c_163_56 rfl ?_
                        refine n_iload c_163_57 rfl ?_
                        refine n_iadd c_163_59 rfl ?_
                        refine n_ialoadV c_163_60 sc_126.n rfl rfl rfl (by omega) (t_126 hS (by omega)) ?_
                        intro z156 ez156 f157
                        refine n_iadd c_163_61 rfl ?_
                        refine n_istore (L2 := [some (2, 112), some (0, a), some (0, 8), some (0, x), some (0, y), some (0, w), some (0, s), some (0, z1), some (0, ((((((0 * 2) + z116) * 2) + z131) * 2) + z146)), some (0, ((((8 - 1) + (-1)) + (-1)) + (-1))), some (0, ((z150 * 2) + z156))]) c_163_62 rfl rfl ?_
                        refine n_iload c_163_64 rfl ?_
                        refine n_iconst c_163_66 ?_
                        refine n_if2_le c_163_67 (by omega) (by omega) ?_ ?_
                        · intro h158
                          refine n_iload c_163_93 rfl ?_
                          refine n_aload_n c_163_95 rfl ?_
                          refine n_getV (bi := 0) c_163_96 sc_112.n rfl rfl rfl (t_112_0 hS) ?_
                          intro z159 ez159 f160
                          obtain rfl : z159 = 2 := by omega
                          refine n_imul c_163_99 rfl ?_
                          refine n_aload_n c_163_100 rfl ?_
                          refine n_getR c_163_101 sc_112.n rfl rfl rfl r_112_6 ?_
                          refine n_bipush c_163_104 rfl ?_
                          refine n_iload_n c_163_106 rfl ?_
                          refine n_imul c_163_107 rfl ?_
                          refine n_iload c_163_108 rfl ?_
                          refine n_iadd c_163_110 rfl ?_
                          refine n_ialoadV c_163_111 sc_117.n rfl rfl rfl (by omega) (t_117 hS (by omega)) ?_
                          intro z161 ez161 f162
                          refine n_iadd c_163_112 rfl ?_
                          refine n_istore (L2 := [some (2, 112), some (0, a), some (0, 8), some (0, x), some (0, y), some (0, w), some (0, s), some (0, z1), some (0, ((((((((0 * 2) + z116) * 2) + z131) * 2) + z146) * 2) + z161)), some (0, ((((8 - 1) + (-1)) + (-1)) + (-1))), some (0, ((z150 * 2) + z156))]) c_163_113 rfl rfl ?_
                          refine n_iinc (L2 := [some (2, 112), some (0, a), some (0, 8), some (0, x), some (0, y), some (0, w), some (0, s), some (0, z1), some (0, ((((((((0 * 2) + z116) * 2) + z131) * 2) + z146) * 2) + z161)), some (0, (((((8 - 1) + (-1)) + (-1)) + (-1)) + (-1))), some (0, ((z150 * 2) + z156))]) c_163_115 rfl rfl rfl ?_
                          refine n_goto c_163_118 ?_
                          refine n_iload c_163_16 rfl ?_
                          refine n_if0_lt c_163_18 (by omega) ?_ ?_
                          · intro h163
                            exfalso; omega
                          · intro h164
                            refine n_aload_n c_163_21 rfl ?_
                            refine n_getR c_163_22 sc_112.n rfl rfl rfl r_112_18 ?_
                            refine n_bipush c_163_25 rfl ?_
                            refine n_iload_n c_163_27 rfl ?_
                            refine n_imul c_163_28 rfl ?_
                            refine n_iload c_163_29 rfl ?_
                            refine n_iadd c_163_31 rfl ?_
                            refine n_ialoadV c_163_32 sc_126.n rfl rfl rfl (by omega) (t_126 hS (by omega)) ?_
                            intro z165 ez165 f166
                            refine n_istore (L2 := [some (2, 112), some (0, a), some (0, 8), some (0, x), some (0, y), some (0, w), some (0, s), some (0, z1), some (0, ((((((((0 * 2) + z116) * 2) + z131) * 2) + z146) * 2) + z161)), some (0, (((((8 - 1) + (-1)) + (-1)) + (-1)) + (-1))), some (0, z165)]) c_163_33 rfl rfl ?_
                            refine n_iload c_163_35 rfl ?_
                            refine n_iconst c_163_37 ?_
                            refine n_if2_le c_163_38 (by omega) (by omega) ?_ ?_
                            · intro h167
                              exfalso; omega
                            · intro h168
                              refine n_iload c_163_41 rfl ?_
                              refine n_aload_n c_163_43 rfl ?_
                              refine n_getV (bi := 0) c_163_44 sc_112.n rfl rfl rfl (t_112_0 hS) ?_
                              intro z169 ez169 f170
                              obtain rfl : z169 = 2 := by omega
                              refine n_imul c_163_47 rfl ?_
                              refine n_aload_n c_163_48 rfl ?_
                              refine n_getR c_163_49 sc_112.n rfl rfl rfl r_112_18 ?_
                              refine n_bipush c_163_52 rfl ?_
                              refine n_iload c_163_54 rfl ?_
                              refine n_imul c_163_56 rfl ?_
                              refine n_iload c_163_57 rfl ?_
                              refine n_iadd c_163_59 rfl ?_
                              refine n_ialoadV c_163_60 sc_126.n rfl rfl rfl (by omega) (t_126 hS (by omega)) ?_
                              intro z171 ez171 f172
                              refine n_iadd c_163_61 rfl ?_
                              refine n_istore (L2 := [some (2, 112), some (0, a), some (0, 8), some (0, x), some (0, y), some (0, w), some (0, s), some (0, z1), some (0, ((((((((0 * 2) + z116) * 2) + z131) * 2) + z146) * 2) + z161)), some (0, (((((8 - 1) + (-1)) + (-1)) + (-1)) + (-1))), some (0, ((z165 * 2) + z171))]) c_163_62 rfl rfl ?_
                              refine n_iload c_163_64 rfl ?_
                              refine n_iconst c_163_66 ?_
                              refine n_if2_le c_163_67 (by omega) (by omega) ?_ ?_
                              · intro h173
                                refine n_iload c_163_93 rfl ?_
                                refine n_aload_n c_163_95 rfl ?_
                                refine n_getV (bi := 0) c_163_96 sc_112.n rfl rfl rfl (t_112_0 hS) ?_
                                intro z174 ez174 f175
                                obtain rfl : z174 = 2 := by omega
                                refine n_imul c_163_99 rfl ?_
                                refine n_aload_n c_163_100 rfl ?_
                                refine n_getR c_163_101 sc_112.n rfl rfl rfl r_112_6 ?_
                                refine n_bipush c_163_104 rfl ?_
                                refine n_iload_n c_163_106 rfl ?_
                                refine n_imul c_163_107 rfl ?_
                                refine n_iload c_163_108 rfl ?_
                                refine n_iadd c_163_110 rfl ?_
                                refine n_ialoadV c_163_111 sc_117.n rfl rfl rfl (by omega) (t_117 hS (by omega)) ?_
                                intro z176 ez176 f177
                                refine n_iadd c_163_112 rfl ?_
                                refine n_istore (L2 := [some (2, 112), some (0, a), some (0, 8), some (0, x), some (0, y), some (0, w), some (0, s), some (0, z1), some (0, ((((((((((0 * 2) + z116) * 2) + z131) * 2) + z146) * 2) + z161) * 2) + z176)), some (0, (((((8 - 1) + (-1)) + (-1)) + (-1)) + (-1))), some (0, ((z165 * 2) + z171))]) c_163_113 rfl rfl ?_
                                refine n_iinc (L2 := [some (2, 112), some (0, a), some (0, 8), some (0, x), some (0, y), some (0, w), some (0, s), some (0, z1), some (0, ((((((((((0 * 2) + z116) * 2) + z131) * 2) + z146) * 2) + z161) * 2) + z176)), some (0, ((((((8 - 1) + (-1)) + (-1)) + (-1)) + (-1)) + (-1))), some (0, ((z165 * 2) + z171))]) c_163_115 rfl rfl rfl ?_
                                refine n_goto c_163_118 ?_
                                refine n_iload c_163_16 rfl ?_
                                refine n_if0_lt c_163_18 (by omega) ?_ ?_
                                · intro h178
                                  exfalso; omega
                                · intro h179
                                  refine n_aload_n c_163_21 rfl ?_
                                  refine n_getR c_163_22 sc_112.n rfl rfl rfl r_112_18 ?_
                                  refine n_bipush c_163_25 rfl ?_
                                  refine n_iload_n c_163_27 rfl ?_
                                  refine n_imul c_163_28 rfl ?_
                                  refine n_iload c_163_29 rfl ?_
                                  refine n_iadd c_163_31 rfl ?_
                                  refine n_ialoadV c_163_32 sc_126.n rfl rfl rfl (by omega) (t_126 hS (by omega)) ?_
                                  intro z180 ez180 f181
                                  refine n_istore (L2 := [some (2, 112), some (0, a), some (0, 8), some (0, x), some (0, y), some (0, w), some (0, s), some (0, z1), some (0, ((((((((((0 * 2) + z116) * 2) + z131) * 2) + z146) * 2) + z161) * 2) + z176)), some (0, ((((((8 - 1) + (-1)) + (-1)) + (-1)) + (-1)) + (-1))), some (0, z180)]) c_163_33 rfl rfl ?_
                                  refine n_iload c_163_35 rfl ?_
                                  refine n_iconst c_163_37 ?_
                                  refine n_if2_le c_163_38 (by omega) (by omega) ?_ ?_
                                  · intro h182
                                    exfalso; omega
                                  · intro h183
                                    refine n_iload c_163_41 rfl ?_
                                    refine n_aload_n c_163_43 rfl ?_
                                    refine n_getV (bi := 0) c_163_44 sc_112.n rfl rfl rfl (t_112_0 hS) ?_
                                    intro z184 ez184 f185
                                    obtain rfl : z184 = 2 := by omega
                                    refine n_imul c_163_47 rfl ?_
                                    refine n_aload_n c_163_48 rfl ?_
                                    refine n_getR c_163_49 sc_112.n rfl rfl rfl r_112_18 ?_
                                    refine n_bipush c_163_52 rfl ?_
                                    refine n_iload c_163_54 rfl ?_
                                    refine n_imul c_163_56 rfl ?_
                                    refine n_iload c_163_57 rfl ?_
                                    refine n_iadd c_163_59 rfl ?_
                                    refine n_ialoadV c_163_60 sc_126.n rfl rfl rfl (by omega) (t_126 hS (by omega)) ?_
                                    intro z186 ez186 f187
                                    refine n_iadd c_163_61 rfl ?_
                                    refine n_istore (L2 := [some (2, 112), some (0, a), some (0, 8), some (0, x), some (0, y), some (0, w), some (0, s), some (0, z1), some (0, ((((((((((0 * 2) + z116) * 2) + z131) * 2) + z146) * 2) + z161) * 2) + z176)), some (0, ((((((8 - 1) + (-1)) + (-1)) + (-1)) + (-1)) + (-1))), some (0, ((z180 * 2) + z186))]) c_163_62 rfl rfl ?_
                                    refine n_iload c_163_64 rfl ?_
                                    refine n_iconst c_163_66 ?_
                                    refine n_if2_le c_163_67 (by omega) (by omega) ?_ ?_
                                    · intro h188
                                      refine n_iload c_163_93 rfl ?_
                                      refine n_aload_n c_163_95 rfl ?_
                                      refine n_getV (bi := 0) c_163_96 sc_112.n rfl rfl rfl (t_112_0 hS) ?_
                                      intro z189 ez189 f190
                                      obtain rfl : z189 = 2 := by omega
                                      refine n_imul c_163_99 rfl ?_
                                      refine n_aload_n c_163_100 rfl ?_
                                      refine n_getR c_163_101 sc_112.n rfl rfl rfl r_112_6 ?_
                                      refine n_bipush c_163_104 rfl ?_
                                      refine n_iload_n c_163_106 rfl ?_
                                      refine n_imul c_163_107 rfl ?_
                                      refine n_iload c_163_108 rfl ?_
                                      refine n_iadd c_163_110 rfl ?_
                                      refine n_ialoadV c_163_111 sc_117.n rfl rfl rfl (by omega) (t_117 hS (by omega)) ?_
                                      intro z191 ez191 f192
                                      refine n_iadd c_163_112 rfl ?_
                                      refine n_istore (L2 := [some (2, 112), some (0, a), some (0, 8), some (0, x), some (0, y), some (0, w), some (0, s), some (0, z1), some (0, ((((((((((((0 * 2) + z116) * 2) + z131) * 2) + z146) * 2) + z161) * 2) + z176) * 2) + z191)), some (0, ((((((8 - 1) + (-1)) + (-1)) + (-1)) + (-1)) + (-1))), some (0, ((z180 * 2) + z186))]) c_163_113 rfl rfl ?_
                                      refine n_iinc (L2 := [some (2, 112), some (0, a), some (0, 8), some (0, x), some (0, y), some (0, w), some (0, s), some (0, z1), some (0, ((((((((((((0 * 2) + z116) * 2) + z131) * 2) + z146) * 2) + z161) * 2) + z176) * 2) + z191)), some (0, (((((((8 - 1) + (-1)) + (-1)) + (-1)) + (-1)) + (-1)) + (-1))), some (0, ((z180 * 2) + z186))]) c_163_115 rfl rfl rfl ?_
                                      refine n_goto c_163_118 ?_
                                      refine n_iload c_163_16 rfl ?_
                                      refine n_if0_lt c_163_18 (by omega) ?_ ?_
                                      · intro h193
                                        exfalso; omega
                                      · intro h194
                                        refine n_aload_n c_163_21 rfl ?_
                                        refine n_getR c_163_22 sc_112.n rfl rfl rfl r_112_18 ?_
                                        refine n_bipush c_163_25 rfl ?_
                                        refine n_iload_n c_163_27 rfl ?_
                                        refine n_imul c_163_28 rfl ?_
                                        refine n_iload c_163_29 rfl ?_
                                        refine n_iadd c_163_31 rfl ?_
                                        refine n_ialoadV c_163_32 sc_126.n rfl rfl rfl (by omega) (t_126 hS (by omega)) ?_
                                        intro z195 ez195 f196
                                        refine n_istore (L2 := [some (2, 112), some (0, a), some (0, 8), some (0, x), some (0, y), some (0, w), some (0, s), some (0, z1), some (0, ((((((((((((0 * 2) + z116) * 2) + z131) * 2) + z146) * 2) + z161) * 2) + z176) * 2) + z191)), some (0, (((((((8 - 1) + (-1)) + (-1)) + (-1)) + (-1)) + (-1)) + (-1))), some (0, z195)]) c_163_33 rfl rfl ?_
                                        refine n_iload c_163_35 rfl ?_
                                        refine n_iconst c_163_37 ?_
                                        refine n_if2_le c_163_38 (by omega) (by omega) ?_ ?_
                                        · intro h197
                                          exfalso; omega
                                        · intro h198
                                          refine n_iload c_163_41 rfl ?_
                                          refine n_aload_n c_163_43 rfl ?_
                                          refine n_getV (bi := 0) c_163_44 sc_112.n rfl rfl rfl (t_112_0 hS) ?_
                                          intro z199 ez199 f200
                                          obtain rfl : z199 = 2 := by omega
                                          refine n_imul c_163_47 rfl ?_
                                          refine n_aload_n c_163_48 rfl ?_
                                          refine n_getR c_163_49 sc_112.n rfl rfl rfl r_112_18 ?_
                                          refine n_bipush c_163_52 rfl ?_
                                          refine n_iload c_163_54 rfl ?_
                                          refine n_imul c_163_56 rfl ?_
                                          refine n_iload c_163_57 rfl ?_
                                          refine n_iadd c_163_59 rfl ?_
                                          refine n_ialoadV c_163_60 sc_126.n rfl rfl rfl (by omega) (t_126 hS (by omega)) ?_
                                          intro z201 ez201 f202
                                          refine n_iadd c_163_61 rfl ?_
                                          refine n_istore (L2 := [some (2, 112), some (0, a), some (0, 8), some (0, x), some (0, y), some (0, w), some (0, s), some (0, z1), some (0, ((((((((((((0 * 2) + z116) * 2) + z131) * 2) + z146) * 2) + z161) * 2) + z176) * 2) + z191)), some (0, (((((((8 - 1) + (-1)) + (-1)) + (-1)) + (-1)) + (-1)) + (-1))), some (0, ((z195 * 2) + z201))]) c_163_62 rfl rfl ?_
                                          refine n_iload c_163_64 rfl ?_
                                          refine n_iconst c_163_66 ?_
                                          refine n_if2_le c_163_67 (by omega) (by omega) ?_ ?_
                                          · intro h203
                                            refine n_iload c_163_93 rfl ?_
                                            refine n_aload_n c_163_95 rfl ?_
                                            refine n_getV (bi := 0) c_163_96 sc_112.n rfl rfl rfl (t_112_0 hS) ?_
                                            intro z204 ez204 f205
                                            obtain rfl : z204 = 2 := by omega
                                            refine n_imul c_163_99 rfl ?_
                                            refine n_aload_n c_163_100 rfl ?_
                                            refine n_getR c_163_101 sc_112.n rfl rfl rfl r_112_6 ?_
                                            refine n_bipush c_163_104 rfl ?_
                                            refine n_iload_n c_163_106 rfl ?_
                                            refine n_imul c_163_107 rfl ?_
                                            refine n_iload c_163_108 rfl ?_
                                            refine n_iadd c_163_110 rfl ?_
                                            refine n_ialoadV c_163_111 sc_117.n rfl rfl rfl (by omega) (t_117 hS (by omega)) ?_
                                            intro z206 ez206 f207
                                            refine n_iadd c_163_112 rfl ?_
                                            refine n_istore (L2 := [some (2, 112), some (0, a), some (0, 8), some (0, x), some (0, y), some (0, w), some (0, s), some (0, z1), some (0, ((((((((((((((0 * 2) + z116) * 2) + z131) * 2) + z146) * 2) + z161) * 2) + z176) * 2) + z191) * 2) + z206)), some (0, (((((((8 - 1) + (-1)) + (-1)) + (-1)) + (-1)) + (-1)) + (-1))), some (0, ((z195 * 2) + z201))]) c_163_113 rfl rfl ?_
                                            refine n_iinc (L2 := [some (2, 112), some (0, a), some (0, 8), some (0, x), some (0, y), some (0, w), some (0, s), some (0, z1), some (0, ((((((((((((((0 * 2) + z116) * 2) + z131) * 2) + z146) * 2) + z161) * 2) + z176) * 2) + z191) * 2) + z206)), some (0, ((((((((8 - 1) + (-1)) + (-1)) + (-1)) + (-1)) + (-1)) + (-1)) + (-1))), some (0, ((z195 * 2) + z201))]) c_163_115 rfl rfl rfl ?_
                                            refine n_goto c_163_118 ?_
                                            refine n_iload c_163_16 rfl ?_
                                            refine n_if0_lt c_163_18 (by omega) ?_ ?_
                                            · intro h208
                                              exfalso; omega
                                            · intro h209
                                              refine n_aload_n c_163_21 rfl ?_
                                              refine n_getR c_163_22 sc_112.n rfl rfl rfl r_112_18 ?_
                                              refine n_bipush c_163_25 rfl ?_
                                              refine n_iload_n c_163_27 rfl ?_
                                              refine n_imul c_163_28 rfl ?_
                                              refine n_iload c_163_29 rfl ?_
                                              refine n_iadd c_163_31 rfl ?_
                                              refine n_ialoadV c_163_32 sc_126.n rfl rfl rfl (by omega) (t_126 hS (by omega)) ?_
                                              intro z210 ez210 f211
                                              refine n_istore (L2 := [some (2, 112), some (0, a), some (0, 8), some (0, x), some (0, y), some (0, w), some (0, s), some (0, z1), some (0, ((((((((((((((0 * 2) + z116) * 2) + z131) * 2) + z146) * 2) + z161) * 2) + z176) * 2) + z191) * 2) + z206)), some (0, ((((((((8 - 1) + (-1)) + (-1)) + (-1)) + (-1)) + (-1)) + (-1)) + (-1))), some (0, z210)]) c_163_33 rfl rfl ?_
                                              refine n_iload c_163_35 rfl ?_
                                              refine n_iconst c_163_37 ?_
                                              refine n_if2_le c_163_38 (by omega) (by omega) ?_ ?_
                                              · intro h212
                                                exfalso; omega
                                              · intro h213
                                                refine n_iload c_163_41 rfl ?_
                                                refine n_aload_n c_163_43 rfl ?_
                                                refine n_getV (bi := 0) c_163_44 sc_112.n rfl rfl rfl (t_112_0 hS) ?_
                                                intro z214 ez214 f215
                                                obtain rfl : z214 = 2 := by omega
                                                refine n_imul c_163_47 rfl ?_
                                                refine n_aload_n c_163_48 rfl ?_
                                                refine n_getR c_163_49 sc_112.n rfl rfl rfl r_112_18 ?_
                                                refine n_bipush c_163_52 rfl ?_
                                                refine n_iload c_163_54 rfl ?_
                                                refine n_imul c_163_56 rfl ?_
                                                refine n_iload c_163_57 rfl ?_
                                                refine n_iadd c_163_59 rfl ?_
                                                refine n_ialoadV c_163_60 sc_126.n rfl rfl rfl (by omega) (t_126 hS (by omega)) ?_
                                                intro z216 ez216 f217
                                                refine n_iadd c_163_61 rfl ?_
                                                refine n_istore (L2 := [some (2, 112), some (0, a), some (0, 8), some (0, x), some (0, y), some (0, w), some (0, s), some (0, z1), some (0, ((((((((((((((0 * 2) + z116) * 2) + z131) * 2) + z146) * 2) + z161) * 2) + z176) * 2) + z191) * 2) + z206)), some (0, ((((((((8 - 1) + (-1)) + (-1)) + (-1)) + (-1)) + (-1)) + (-1)) + (-1))), some (0, ((z210 * 2) + z216))]) c_163_62 rfl rfl ?_
                                                refine n_iload c_163_64 rfl ?_
                                                refine n_iconst c_163_66 ?_
                                                refine n_if2_le c_163_67 (by omega) (by omega) ?_ ?_
                                                · intro h218
                                                  refine n_iload c_163_93 rfl ?_
                                                  refine n_aload_n c_163_95 rfl ?_
                                                  refine n_getV (bi := 0) c_163_96 sc_112.n rfl rfl rfl (t_112_0 hS) ?_
                                                  intro z219 ez219 f220
                                                  obtain rfl : z219 = 2 := by omega
                                                  refine n_imul c_163_99 rfl ?_
                                                  refine n_aload_n c_163_100 rfl ?_
                                                  refine n_getR c_163_101 sc_112.n rfl rfl rfl r_112_6 ?_
                                                  refine n_bipush c_163_104 rfl ?_
                                                  refine n_iload_n c_163_106 rfl ?_
                                                  refine n_imul c_163_107 rfl ?_
                                                  refine n_iload c_163_108 rfl ?_
                                                  refine n_iadd c_163_110 rfl ?_
                                                  refine n_ialoadV c_163_111 sc_117.n rfl rfl rfl (by omega) (t_117 hS (by omega)) ?_
                                                  intro z221 ez221 f222
                                                  refine n_iadd c_163_112 rfl ?_
                                                  refine n_istore (L2 := [some (2, 112), some (0, a), some (0, 8), some (0, x), some (0, y), some (0, w), some (0, s), some (0, z1), some (0, ((((((((((((((((0 * 2) + z116) * 2) + z131) * 2) + z146) * 2) + z161) * 2) + z176) * 2) + z191) * 2) + z206) * 2) + z221)), some (0, ((((((((8 - 1) + (-1)) + (-1)) + (-1)) + (-1)) + (-1)) + (-1)) + (-1))), some (0, ((z210 * 2) + z216))]) c_163_113 rfl rfl ?_
                                                  refine n_iinc (L2 := [some (2, 112), some (0, a), some (0, 8), some (0, x), some (0, y), some (0, w), some (0, s), some (0, z1), some (0, ((((((((((((((((0 * 2) + z116) * 2) + z131) * 2) + z146) * 2) + z161) * 2) + z176) * 2) + z191) * 2) + z206) * 2) + z221)), some (0, (((((((((8 - 1) + (-1)) + (-1)) + (-1)) + (-1)) + (-1)) + (-1)) + (-1)) + (-1))), some (0, ((z210 * 2) + z216))]) c_163_115 rfl rfl rfl ?_
                                                  refine n_goto c_163_118 ?_
                                                  refine n_iload c_163_16 rfl ?_
                                                  refine n_if0_lt c_163_18 (by omega) ?_ ?_
                                                  · intro h223
                                                    refine n_aload_n c_163_121 rfl ?_
                                                    refine n_getR c_163_122 sc_112.n rfl rfl rfl r_112_17 ?_
                                                    refine n_iload c_163_125 rfl ?_
                                                    refine n_ialoadV c_163_127 sc_125.n rfl rfl rfl (by omega) (t_125 hS (by omega)) ?_
                                                    intro z224 ez224 f225
                                                    refine n_if0_eq c_163_128 (by omega) ?_ ?_
                                                    · intro h226
                                                      refine n_fg (le_s (le_n (le_n (le_n (le_n (le_n (le_s (le_n (le_s (le_n (le_n le_0))))))))))) ?_
                                                      exact (mjoined8_2_c hS ha hx hy hw hs 14).1 _ M hS (by omega) (by omega)
                                                    · intro h227
                                                      refine n_aload_n c_163_131 rfl ?_
                                                      refine n_getR c_163_132 sc_112.n rfl rfl rfl r_112_17 ?_
                                                      refine n_iload c_163_135 rfl ?_
                                                      refine n_ialoadV c_163_137 sc_125.n rfl rfl rfl (by omega) (t_125 hS (by omega)) ?_
                                                      intro z228 ez228 f229
                                                      refine n_iload c_163_138 rfl ?_
                                                      refine n_iconst c_163_140 ?_
                                                      refine n_iadd c_163_141 rfl ?_
                                                      refine n_if2_le c_163_142 (by omega) (by omega) ?_ ?_
                                                      · intro h230
                                                        refine n_fg (le_n (le_n (le_n (le_n (le_n (le_n (le_n (le_n (le_n (le_n (le_n le_0))))))))))) ?_
                                                        exact (mjoined8_2_c hS ha hx hy hw hs 14).2  M hS  (by omega)
                                                      · intro h231
                                                        refine n_fg (le_s (le_n (le_n (le_n (le_n (le_n (le_s (le_n (le_s (le_n (le_n le_0))))))))))) ?_
                                                        exact (mjoined8_2_c hS ha hx hy hw hs 14).1 _ M hS (by omega) (by omega)
                                                  · intro h232
                                                    exfalso; omega
                                                · intro h233
                                                  exfalso; omega
                                          · intro h234
                                            exfalso; omega
                                    · intro h235
                                      exfalso; omega
                              · intro h236
                                exfalso; omega
                        · intro h237
                          exfalso; omega
                  · intro h238
                    exfalso; omega
            · intro h239
              exfalso; omega
      · intro h240
        refine n_iload c_163_70 rfl ?_
        refine n_aload_n c_163_72 rfl ?_
        refine n_getV (bi := 0) c_163_73 sc_112.n rfl rfl rfl (t_112_0 hS) ?_
        intro z241 ez241 f242
        obtain rfl : z241 = 2 := by omega
        refine n_imul c_163_76 rfl ?_
        refine n_aload_n c_163_77 rfl ?_
        refine n_getR c_163_78 sc_112.n rfl rfl rfl r_112_18 ?_
        refine n_bipush c_163_81 rfl ?_
        refine n_iload c_163_83 rfl ?_
        refine n_imul c_163_85 rfl ?_
        refine n_iload c_163_86 rfl ?_
        refine n_iadd c_163_88 rfl ?_
        refine n_ialoadV c_163_89 sc_126.n rfl rfl rfl (by omega) (t_126 hS (by omega)) ?_
        intro z243 ez243 f244
        refine n_iadd c_163_90 rfl ?_
        refine n_istore (L2 := [some (2, 112), some (0, a), some (0, 8), some (0, x), some (0, y), some (0, w), some (0, s), some (0, z1), some (0, 0), some (0, (8 - 1)), some (0, ((((z5 * 2) + z111) * 2) + z243))]) c_163_91 rfl rfl ?_
        refine n_iload c_163_93 rfl ?_
        refine n_aload_n c_163_95 rfl ?_
        refine n_getV (bi := 0) c_163_96 sc_112.n rfl rfl rfl (t_112_0 hS) ?_
        intro z245 ez245 f246
        obtain rfl : z245 = 2 := by omega
        refine n_imul c_163_99 rfl ?_
        refine n_aload_n c_163_100 rfl ?_
        refine n_getR c_163_101 sc_112.n rfl rfl rfl r_112_6 ?_
        refine n_bipush c_163_104 rfl ?_
        refine n_iload_n c_163_106 rfl ?_
        refine n_imul c_163_107 rfl ?_
        refine n_iload c_163_108 rfl ?_
        refine n_iadd c_163_110 rfl ?_
        refine n_ialoadV c_163_111 sc_117.n rfl rfl rfl (by omega) (t_117 hS (by omega)) ?_
        intro z247 ez247 f248
        refine n_iadd c_163_112 rfl ?_
        refine n_istore (L2 := [some (2, 112), some (0, a), some (0, 8), some (0, x), some (0, y), some (0, w), some (0, s), some (0, z1), some (0, ((0 * 2) + z247)), some (0, (8 - 1)), some (0, ((((z5 * 2) + z111) * 2) + z243))]) c_163_113 rfl rfl ?_
        refine n_iinc (L2 := [some (2, 112), some (0, a), some (0, 8), some (0, x), some (0, y), some (0, w), some (0, s), some (0, z1), some (0, ((0 * 2) + z247)), some (0, ((8 - 1) + (-1))), some (0, ((((z5 * 2) + z111) * 2) + z243))]) c_163_115 rfl rfl rfl ?_
        refine n_goto c_163_118 ?_
        refine n_iload c_163_16 rfl ?_
        refine n_if0_lt c_163_18 (by omega) ?_ ?_
        · intro h249
          exfalso; omega
        · intro h250
          refine n_aload_n c_163_21 rfl ?_
          refine n_getR c_163_22 sc_112.n rfl rfl rfl r_112_18 ?_
          refine n_bipush c_163_25 rfl ?_
          refine n_iload_n c_163_27 rfl ?_
          refine n_imul c_163_28 rfl ?_
          refine n_iload c_163_29 rfl ?_
          refine n_iadd c_163_31 rfl ?_
          refine n_ialoadV c_163_32 sc_126.n rfl rfl rfl (by omega) (t_126 hS (by omega)) ?_
          intro z251 ez251 f252
          refine n_istore (L2 := [some (2, 112), some (0, a), some (0, 8), some (0, x), some (0, y), some (0, w), some (0, s), some (0, z1), some (0, ((0 * 2) + z247)), some (0, ((8 - 1) + (-1))), some (0, z251)]) c_163_33 rfl rfl ?_
          refine n_iload c_163_35 rfl ?_
          refine n_iconst c_163_37 ?_
          refine n_if2_le c_163_38 (by omega) (by omega) ?_ ?_
          · intro h253
            exfalso; omega
          · intro h254
            refine n_iload c_163_41 rfl ?_
            refine n_aload_n c_163_43 rfl ?_
            refine n_getV (bi := 0) c_163_44 sc_112.n rfl rfl rfl (t_112_0 hS) ?_
            intro z255 ez255 f256
            obtain rfl : z255 = 2 := by omega
            refine n_imul c_163_47 rfl ?_
            refine n_aload_n c_163_48 rfl ?_
            refine n_getR c_163_49 sc_112.n rfl rfl rfl r_112_18 ?_
            refine n_bipush c_163_52 rfl ?_
            refine n_iload c_163_54 rfl ?_
            refine n_imul c_163_56 rfl ?_
            refine n_iload c_163_57 rfl ?_
            refine n_iadd c_163_59 rfl ?_
            refine n_ialoadV c_163_60 sc_126.n rfl rfl rfl (by omega) (t_126 hS (by omega)) ?_
            intro z257 ez257 f258
            refine n_iadd c_163_61 rfl ?_
            refine n_istore (L2 := [some (2, 112), some (0, a), some (0, 8), some (0, x), some (0, y), some (0, w), some (0, s), some (0, z1), some (0, ((0 * 2) + z247)), some (0, ((8 - 1) + (-1))), some (0, ((z251 * 2) + z257))]) c_163_62 rfl rfl ?_
            refine n_iload c_163_64 rfl ?_
            refine n_iconst c_163_66 ?_
            refine n_if2_le c_163_67 (by omega) (by omega) ?_ ?_
            · intro h259
              exfalso; omega
            · intro h260
              refine n_iload c_163_70 rfl ?_
              refine n_aload_n c_163_72 rfl ?_
              refine n_getV (bi := 0) c_163_73 sc_112.n rfl rfl rfl (t_112_0 hS) ?_
              intro z261 ez261 f262
              obtain rfl : z261 = 2 := by omega
              refine n_imul c_163_76 rfl ?_
              refine n_aload_n c_163_77 rfl ?_
              refine n_getR c_163_78 sc_112.n rfl rfl rfl r_112_18 ?_
              refine n_bipush c_163_81 rfl ?_
              refine n_iload c_163_83 rfl ?_
              refine n_imul c_163_85 rfl ?_
              refine n_iload c_163_86 rfl ?_
              refine n_iadd c_163_88 rfl ?_
              refine n_ialoadV c_163_89 sc_126.n rfl rfl rfl (by omega) (t_126 hS (by omega)) ?_
              intro z263 ez263 f264
              refine n_iadd c_163_90 rfl ?_
              refine n_istore (L2 := [some (2, 112), some (0, a), some (0, 8), some (0, x), some (0, y), some (0, w), some (0, s), some (0, z1), some (0, ((0 * 2) + z247)), some (0, ((8 - 1) + (-1))), some (0, ((((z251 * 2) + z257) * 2) + z263))]) c_163_91 rfl rfl ?_
              refine n_iload c_163_93 rfl ?_
              refine n_aload_n c_163_95 rfl ?_
              refine n_getV (bi := 0) c_163_96 sc_112.n rfl rfl rfl (t_112_0 hS) ?_
              intro z265 ez265 f266
              obtain rfl : z265 = 2 := by omega
              refine n_imul c_163_99 rfl ?_
              refine n_aload_n c_163_100 rfl ?_
              refine n_getR c_163_101 sc_112.n rfl rfl rfl r_112_6 ?_
              refine n_bipush c_163_104 rfl ?_
              refine n_iload_n c_163_106 rfl ?_
              refine n_imul c_163_107 rfl ?_
              refine n_iload c_163_108 rfl ?_
              refine n_iadd c_163_110 rfl ?_
              refine n_ialoadV c_163_111 sc_117.n rfl rfl rfl (by omega) (t_117 hS (by omega)) ?_
              intro z267 ez267 f268
              refine n_iadd c_163_112 rfl ?_
              refine n_istore (L2 := [some (2, 112), some (0, a), some (0, 8), some (0, x), some (0, y), some (0, w), some (0, s), some (0, z1), some (0, ((((0 * 2) + z247) * 2) + z267)), some (0, ((8 - 1) + (-1))), some (0, ((((z251 * 2) + z257) * 2) + z263))]) c_163_113 rfl rfl ?_
              refine n_iinc (L2 := [some (2, 112), some (0, a), some (0, 8), some (0, x), some (0, y), some (0, w), some (0, s), some (0, z1), some (0, ((((0 * 2) + z247) * 2) + z267)), some (0, (((8 - 1) + (-1)) + (-1))), some (0, ((((z251 * 2) + z257) * 2) + z263))]) c_163_115 rfl rfl rfl ?_
              refine n_goto c_163_118 ?_
              refine n_iload c_163_16 rfl ?_
              refine n_if0_lt c_163_18 (by omega) ?_ ?_
              · intro h269
                exfalso; omega
              · intro h270
                refine n_aload_n c_163_21 rfl ?_
                refine n_getR c_163_22 sc_112.n rfl rfl rfl r_112_18 ?_
                refine n_bipush c_163_25 rfl ?_
                refine n_iload_n c_163_27 rfl ?_
                refine n_imul c_163_28 rfl ?_
                refine n_iload c_163_29 rfl ?_
                refine n_iadd c_163_31 rfl ?_
                refine n_ialoadV c_163_32 sc_126.n rfl rfl rfl (by omega) (t_126 hS (by omega)) ?_
                intro z271 ez271 f272
                refine n_istore (L2 := [some (2, 112), some (0, a), some (0, 8), some (0, x), some (0, y), some (0, w), some (0, s), some (0, z1), some (0, ((((0 * 2) + z247) * 2) + z267)), some (0, (((8 - 1) + (-1)) + (-1))), some (0, z271)]) c_163_33 rfl rfl ?_
                refine n_iload c_163_35 rfl ?_
                refine n_iconst c_163_37 ?_
                refine n_if2_le c_163_38 (by omega) (by omega) ?_ ?_
                · intro h273
                  exfalso; omega
                · intro h274
                  refine n_iload c_163_41 rfl ?_
                  refine n_aload_n c_163_43 rfl ?_
                  refine n_getV (bi := 0) c_163_44 sc_112.n rfl rfl rfl (t_112_0 hS) ?_
                  intro z275 ez275 f276
                  obtain rfl : z275 = 2 := by omega
                  refine n_imul c_163_47 rfl ?_
                  refine n_aload_n c_163_48 rfl ?_
                  refine n_getR c_163_49 sc_112.n rfl rfl rfl r_112_18 ?_
                  refine n_bipush c_163_52 rfl ?_
                  refine n_iload c_163_54 rfl ?_
                  refine n_imul c_163_56 rfl ?_
                  refine n_iload c_163_57 rfl ?_
                  refine n_iadd c_163_59 rfl ?_
                  refine n_ialoadV c_163_60 sc_126.n rfl rfl rfl (by omega) (t_126 hS (by omega)) ?_
                  intro z277 ez277 f278
                  refine n_iadd c_163_61 rfl ?_
                  refine n_istore (L2 := [some (2, 112), some (0, a), some (0, 8), some (0, x), some (0, y), some (0, w), some (0, s), some (0, z1), some (0, ((((0 * 2) + z247) * 2) + z267)), some (0, (((8 - 1) + (-1)) + (-1))), some (0, ((z271 * 2) + z277))]) c_163_62 rfl rfl ?_
                  refine n_iload c_163_64 rfl ?_
                  refine n_iconst c_163_66 ?_
                  refine n_if2_le c_163_67 (by omega) (by omega) ?_ ?_
                  · intro h279
                    exfalso; omega
                  · intro h280
                    refine n_iload c_163_70 rfl ?_
                    refine n_aload_n c_163_72 rfl ?_
                    refine n_getV (bi := 0) c_163_73 sc_112.n rfl rfl rfl (t_112_0 hS) ?_
                    intro z281 ez281 f282
                    obtain rfl : z281 = 2 := by omega
                    refine n_imul c_163_76 rfl ?_
                    refine n_aload_n c_163_77 rfl ?_
                    refine n_getR c_163_78 sc_112.n rfl rfl rfl r_112_18 ?_
                    refine n_bipush c_163_81 rfl ?_
                    refine n_iload c_163_83 rfl ?_
                    refine n_imul c_163_85 rfl ?_
                    refine n_iload c_163_86 rfl ?_
                    refine n_iadd c_163_88 rfl ?_
                    refine n_ialoadV c_163_89 sc_126.n rfl rfl rfl (by omega) (t_126 hS (by omega)) ?_
                    intro z283 ez283 f284
                    refine n_iadd c_163_90 rfl ?_
                    refine n_istore (L2 := [some (2, 112), some (0, a), some (0, 8), some (0, x), some (0, y), some (0, w), some (0, s), some (0, z1), some (0, ((((0 * 2) + z247) * 2) + z267)), some (0, (((8 - 1) + (-1)) + (-1))), some (0, ((((z271 * 2) + z277) * 2) + z283))]) c_163_91 rfl rfl ?_
                    refine n_iload c_163_93 rfl ?_
                    refine n_aload_n c_163_95 rfl ?_
                    refine n_getV (bi := 0) c_163_96 sc_112.n rfl rfl rfl (t_112_0 hS) ?_
                    intro z285 ez285 f286
                    obtain rfl : z285 = 2 := by omega
                    refine n_imul c_163_99 rfl ?_
                    refine n_aload_n c_163_100 rfl ?_
                    refine n_getR c_163_101 sc_112.n rfl rfl rfl r_112_6 ?_
                    refine n_bipush c_163_104 rfl ?_
                    refine n_iload_n c_163_106 rfl ?_
                    refine n_imul c_163_107 rfl ?_
                    refine n_iload c_163_108 rfl ?_
                    refine n_iadd c_163_110 rfl ?_
                    refine n_ialoadV c_163_111 sc_117.n rfl rfl rfl (by omega) (t_117 hS (by omega)) ?_
                    intro z287 ez287 f288
                    refine n_iadd c_163_112 rfl ?_
                    refine n_istore (L2 := [some (2, 112), some (0, a), some (0, 8), some (0, x), some (0, y), some (0, w), some (0, s), some (0, z1), some (0, ((((((0 * 2) + z247) * 2) + z267) * 2) + z287)), some (0, (((8 - 1) + (-1)) + (-1))), some (0, ((((z271 * 2) + z277) * 2) + z283))]) c_163_113 rfl rfl ?_
                    refine n_iinc (L2 := [some (2, 112), some (0, a), some (0, 8), some (0, x), some (0, y), some (0, w), some (0, s), some (0, z1), some (0, ((((((0 * 2) + z247) * 2) + z267) * 2) + z287)), some (0, ((((8 - 1) + (-1)) + (-1)) + (-1))), some (0, ((((z271 * 2) + z277) * 2) + z283))]) c_163_115 rfl rfl rfl ?_
                    refine n_goto c_163_118 ?_
                    refine n_iload c_163_16 rfl ?_
                    refine n_if0_lt c_163_18 (by omega) ?_ ?_
                    · intro h289
                      exfalso; omega
                    · intro h290
                      refine n_aload_n c_163_21 rfl ?_
                      refine n_getR c_163_22 sc_112.n rfl rfl rfl r_112_18 ?_
                      refine n_bipush c_163_25 rfl ?_
                      refine n_iload_n c_163_27 rfl ?_
                      refine n_imul c_163_28 rfl ?_
                      refine n_iload c_163_29 rfl ?_
                      refine n_iadd c_163_31 rfl ?_
                      refine n_ialoadV c_163_32 sc_126.n rfl rfl rfl (by omega) (t_126 hS (by omega)) ?_
                      intro z291 ez291 f292
                      refine n_istore (L2 := [some (2, 112), some (0, a), some (0, 8), some (0, x), some (0, y), some (0, w), some (0, s), some (0, z1), some (0, ((((((0 * 2) + z247) * 2) + z267) * 2) + z287)), some (0, ((((8 - 1) + (-1)) + (-1)) + (-1))), some (0, z291)]) c_163_33 rfl rfl ?_
                      refine n_iload c_163_35 rfl ?_
                      refine n_iconst c_163_37 ?_
                      refine n_if2_le c_163_38 (by omega) (by omega) ?_ ?_
                      · intro h293
                        exfalso; omega
                      · intro h294
                        refine n_iload c_163_41 rfl ?_
                        refine n_aload_n c_163_43 rfl ?_
                        refine n_getV (bi := 0) c_163_44 sc_112.n rfl rfl rfl (t_112_0 hS) ?_
                        intro z295 ez295 f296
                        obtain rfl : z295 = 2 := by omega
                        refine n_imul c_163_47 rfl ?_
                        refine n_aload_n c_163_48 rfl ?_
                        refine n_getR c_163_49 sc_112.n rfl rfl rfl r_112_18 ?_
                        refine n_bipush c_163_52 rfl ?_
                        refine n_iload c_163_54 rfl ?_
                        refine n_imul c_163_56 rfl ?_
                        refine n_iload c_163_57 rfl ?_
                        refine n_iadd c_163_59 rfl ?_
                        refine n_ialoadV c_163_60 sc_126.n rfl rfl rfl (by omega) (t_126 hS (by omega)) ?_
                        intro z297 ez297 f298
                        refine n_iadd c_163_61 rfl ?_
                        refine n_istore (L2 := [some (2, 112), some (0, a), some (0, 8), some (0, x), some (0, y), some (0, w), some (0, s), some (0, z1), some (0, ((((((0 * 2) + z247) * 2) + z267) * 2) + z287)), some (0, ((((8 - 1) + (-1)) + (-1)) + (-1))), some (0, ((z291 * 2) + z297))]) c_163_62 rfl rfl ?_
                        refine n_iload c_163_64 rfl ?_
                        refine n_iconst c_163_66 ?_
                        refine n_if2_le c_163_67 (by omega) (by omega) ?_ ?_
                        · intro h299
                          exfalso; omega
                        · intro h300
                          refine n_iload c_163_70 rfl ?_
                          refine n_aload_n c_163_72 rfl ?_
                          refine n_getV (bi := 0) c_163_73 sc_112.n rfl rfl rfl (t_112_0 hS) ?_
                          intro z301 ez301 f302
                          obtain rfl : z301 = 2 := by omega
                          refine n_imul c_163_76 rfl ?_
                          refine n_aload_n c_163_77 rfl ?_
                          refine n_getR c_163_78 sc_112.n rfl rfl rfl r_112_18 ?_
                          refine n_bipush c_163_81 rfl ?_
                          refine n_iload c_163_83 rfl ?_
                          refine n_imul c_163_85 rfl ?_
                          refine n_iload c_163_86 rfl ?_
                          refine n_iadd c_163_88 rfl ?_
                          refine n_ialoadV c_163_89 sc_126.n rfl rfl rfl (by omega) (t_126 hS (by omega)) ?_
                          intro z303 ez303 f304
                          refine n_iadd c_163_90 rfl ?_
                          refine n_istore (L2 := [some (2, 112), some (0, a), some (0, 8), some (0, x), some (0, y), some (0, w), some (0, s), some (0, z1), some (0, ((((((0 * 2) + z247) * 2) + z267) * 2) + z287)), some (0, ((((8 - 1) + (-1)) + (-1)) + (-1))), some (0, ((((z291 * 2) + z297) * 2) + z303))]) c_163_91 rfl rfl ?_
                          refine n_iload c_163_93 rfl ?_
                          refine n_aload_n c_163_95 rfl ?_
                          refine n_getV (bi := 0) c_163_96 sc_112.n rfl rfl rfl (t_112_0 hS) ?_
                          intro z305 ez305 f306
                          obtain rfl : z305 = 2 := by omega
                          refine n_imul c_163_99 rfl ?_
                          refine n_aload_n c_163_100 rfl ?_
                          refine n_getR c_163_101 sc_112.n rfl rfl rfl r_112_6 ?_
                          refine n_bipush c_163_104 rfl ?_
                          refine n_iload_n c_163_106 rfl ?_
                          refine n_imul c_163_107 rfl ?_
                          refine n_iload c_163_108 rfl ?_
                          refine n_iadd c_163_110 rfl ?_
                          refine n_ialoadV c_163_111 sc_117.n rfl rfl rfl (by omega) (t_117 hS (by omega)) ?_
                          intro z307 ez307 f308
                          refine n_iadd c_163_112 rfl ?_
                          refine n_istore (L2 := [some (2, 112), some (0, a), some (0, 8), some (0, x), some (0, y), some (0, w), some (0, s), some (0, z1), some (0, ((((((((0 * 2) + z247) * 2) + z267) * 2) + z287) * 2) + z307)), some (0, ((((8 - 1) + (-1)) + (-1)) + (-1))), some (0, ((((z291 * 2) + z297) * 2) + z303))]) c_163_113 rfl rfl ?_
                          refine n_iinc (L2 := [some (2, 112), some (0, a), some (0, 8), some (0, x), some (0, y), some (0, w), some (0, s), some (0, z1), some (0, ((((((((0 * 2) + z247) * 2) + z267) * 2) + z287) * 2) + z307)), some (0, (((((8 - 1) + (-1)) + (-1)) + (-1)) + (-1))), some (0, ((((z291 * 2) + z297) * 2) + z303))]) c_163_115 rfl rfl rfl ?_
                          refine n_goto c_163_118 ?_
                          refine n_iload c_163_16 rfl ?_
                          refine n_if0_lt c_163_18 (by omega) ?_ ?_
                          · intro h309
                            exfalso; omega
                          · intro h310
                            refine n_aload_n c_163_21 rfl ?_
                            refine n_getR c_163_22 sc_112.n rfl rfl rfl r_112_18 ?_
                            refine n_bipush c_163_25 rfl ?_
                            refine n_iload_n c_163_27 rfl ?_
                            refine n_imul c_163_28 rfl ?_
                            refine n_iload c_163_29 rfl ?_
                            refine n_iadd c_163_31 rfl ?_
                            refine n_ialoadV c_163_32 sc_126.n rfl rfl rfl (by omega) (t_126 hS (by omega)) ?_
                            intro z311 ez311 f312
                            refine n_istore (L2 := [some (2, 112), some (0, a), some (0, 8), some (0, x), some (0, y), some (0, w), some (0, s), some (0, z1), some (0, ((((((((0 * 2) + z247) * 2) + z267) * 2) + z287) * 2) + z307)), some (0, (((((8 - 1) + (-1)) + (-1)) + (-1)) + (-1))), some (0, z311)]) c_163_33 rfl rfl ?_
                            refine n_iload c_163_35 rfl ?_
                            refine n_iconst c_163_37 ?_
                            refine n_if2_le c_163_38 (by omega) (by omega) ?_ ?_
                            · intro h313
                              exfalso; omega
                            · intro h314
                              refine n_iload c_163_41 rfl ?_
                              refine n_aload_n c_163_43 rfl ?_
                              refine n_getV (bi := 0) c_163_44 sc_112.n rfl rfl rfl (t_112_0 hS) ?_
                              intro z315 ez315 f316
                              obtain rfl : z315 = 2 := by omega
                              refine n_imul c_163_47 rfl ?_
                              refine n_aload_n c_163_48 rfl ?_
                              refine n_getR c_163_49 sc_112.n rfl rfl rfl r_112_18 ?_
                              refine n_bipush c_163_52 rfl ?_
                              refine n_iload c_163_54 rfl ?_
                              refine n_imul c_163_56 rfl ?_
                              refine n_iload c_163_57 rfl ?_
                              refine n_iadd c_163_59 rfl ?_
                              refine n_ialoadV c_163_60 sc_126.n rfl rfl rfl (by omega) (t_126 hS (by omega)) ?_
                              intro z317 ez317 f318
                              refine n_iadd c_163_61 rfl ?_
                              refine n_istore (L2 := [some (2, 112), some (0, a), some (0, 8), some (0, x), some (0, y), some (0, w), some (0, s), some (0, z1), some (0, ((((((((0 * 2) + z247) * 2) + z267) * 2) + z287) * 2) + z307)), some (0, (((((8 - 1) + (-1)) + (-1)) + (-1)) + (-1))), some (0, ((z311 * 2) + z317))]) c_163_62 rfl rfl ?_
                              refine n_iload c_163_64 rfl ?_
                              refine n_iconst c_163_66 ?_
                              refine n_if2_le c_163_67 (by omega) (by omega) ?_ ?_
                              · intro h319
                                exfalso; omega
                              · intro h320
                                refine n_iload c_163_70 rfl ?_
                                refine n_aload_n c_163_72 rfl ?_
                                refine n_getV (bi := 0) c_163_73 sc_112.n rfl rfl rfl (t_112_0 hS) ?_
                                intro z321 ez321 f322
                                obtain rfl : z321 = 2 := by omega
                                refine n_imul c_163_76 rfl ?_
                                refine n_aload_n c_163_77 rfl ?_
                                refine n_getR c_163_78 sc_112.n rfl rfl rfl r_112_18 ?_
                                refine n_bipush c_163_81 rfl ?_
                                refine n_iload c_163_83 rfl ?_
                                refine n_imul c_163_85 rfl ?_
                                refine n_iload c_163_86 rfl ?_
                                refine n_iadd c_163_88 rfl ?_
                                refine n_ialoadV c_163_89 sc_126.n rfl rfl rfl (by omega) (t_126 hS (by omega)) ?_
                                intro z323 ez323 f324
                                refine n_iadd c_163_90 rfl ?_
                                refine n_istore (L2 := [some (2, 112), some (0, a), some (0, 8), some (0, x), some (0, y), some (0, w), some (0, s), some (0, z1), some (0, ((((((((0 * 2) + z247) * 2) + z267) * 2) + z287) * 2) + z307)), some (0, (((((8 - 1) + (-1)) + (-1)) + (-1)) + (-1))), some (0, ((((z311 * 2) + z317) * 2) + z323))]) c_163_91 rfl rfl ?_
                                refine n_iload c_163_93 rfl ?_
                                refine n_aload_n c_163_95 rfl ?_
                                refine n_getV (bi := 0) c_163_96 sc_112.n rfl rfl rfl (t_112_0 hS) ?_
                                intro z325 ez325 f326
                                obtain rfl : z325 = 2 := by omega
                                refine n_imul c_163_99 rfl ?_
                                refine n_aload_n c_163_100 rfl ?_
                                refine n_getR c_163_101 sc_112.n rfl rfl rfl r_112_6 ?_
                                refine n_bipush c_163_104 rfl ?_
                                refine n_iload_n c_163_106 rfl ?_
                                refine n_imul c_163_107 rfl ?_
                                refine n_iload c_163_108 rfl ?_
                                refine n_iadd c_163_110 rfl ?_
                                refine n_ialoadV c_163_111 sc_117.n rfl rfl rfl (by omega) (t_117 hS (by omega)) ?_
                                intro z327 ez327 f328
                                refine n_iadd c_163_112 rfl ?_
                                refine n_istore (L2 := [some (2, 112), some (0, a), some (0, 8), some (0, x), some (0, y), some (0, w), some (0, s), some (0, z1), some (0, ((((((((((0 * 2) + z247) * 2) + z267) * 2) + z287) * 2) + z307) * 2) + z327)), some (0, (((((8 - 1) + (-1)) + (-1)) + (-1)) + (-1))), some (0, ((((z311 * 2) + z317) * 2) + z323))]) c_163_113 rfl rfl ?_
                                refine n_iinc (L2 := [some (2, 112), some (0, a), some (0, 8), some (0, x), some (0, y), some (0, w), some (0, s), some (0, z1), some (0, ((((((((((0 * 2) + z247) * 2) + z267) * 2) + z287) * 2) + z307) * 2) + z327)), some (0, ((((((8 - 1) + (-1)) + (-1)) + (-1)) + (-1)) + (-1))), some (0, ((((z311 * 2) + z317) * 2) + z323))]) c_163_115 rfl rfl rfl ?_
                                refine n_goto c_163_118 ?_
                                refine n_iload c_163_16 rfl ?_
                                refine n_if0_lt c_163_18 (by omega) ?_ ?_
                                · intro h329
                                  exfalso; omega
                                · intro h330
                                  refine n_aload_n c_163_21 rfl ?_
                                  refine n_getR c_163_22 sc_112.n rfl rfl rfl r_112_18 ?_
                                  refine n_bipush c_163_25 rfl ?_
                                  refine n_iload_n c_163_27 rfl ?_
                                  refine n_imul c_163_28 rfl ?_
                                  refine n_iload c_163_29 rfl ?_
                                  refine n_iadd c_163_31 rfl ?_
                                  refine n_ialoadV c_163_32 sc_126.n rfl rfl rfl (by omega) (t_126 hS (by omega)) ?_
                                  intro z331 ez331 f332
                                  refine n_istore (L2 := [some (2, 112), some (0, a), some (0, 8), some (0, x), some (0, y), some (0, w), some (0, s), some (0, z1), some (0, ((((((((((0 * 2) + z247) * 2) + z267) * 2) + z287) * 2) + z307) * 2) + z327)), some (0, ((((((8 - 1) + (-1)) + (-1)) + (-1)) + (-1)) + (-1))), some (0, z331)]) c_163_33 rfl rfl ?_
                                  refine n_iload c_163_35 rfl ?_
                                  refine n_iconst c_163_37 ?_
                                  refine n_if2_le c_163_38 (by omega) (by omega) ?_ ?_
                                  · intro h333
                                    exfalso; omega
                                  · intro h334
                                    refine n_iload c_163_41 rfl ?_
                                    refine n_aload_n c_163_43 rfl ?_
                                    refine n_getV (bi := 0) c_163_44 sc_112.n rfl rfl rfl (t_112_0 hS) ?_
                                    intro z335 ez335 f336
                                    obtain rfl : z335 = 2 := by omega
                                    refine n_imul c_163_47 rfl ?_
                                    refine n_aload_n c_163_48 rfl ?_
                                    refine n_getR c_163_49 sc_112.n rfl rfl rfl r_112_18 ?_
                                    refine n_bipush c_163_52 rfl ?_
                                    refine n_iload c_163_54 rfl ?_
                                    refine n_imul c_163_56 rfl ?_
                                    refine n_iload c_163_57 rfl ?_
                                    refine n_iadd c_163_59 rfl ?_
                                    refine n_ialoadV c_163_60 sc_126.n rfl rfl rfl (by omega) (t_126 hS (by omega)) ?_
                                    intro z337 ez337 f338
                                    refine n_iadd c_163_61 rfl ?_
                                    refine n_istore (L2 := [some (2, 112), some (0, a), some (0, 8), some (0, x), some (0, y), some (0, w), some (0, s), some (0, z1), some (0, ((((((((((0 * 2) + z247) * 2) + z267) * 2) + z287) * 2) + z307) * 2) + z327)), some (0, ((((((8 - 1) + (-1)) + (-1)) + (-1)) + (-1)) + (-1))), some (0, ((z331 * 2) + z337))]) c_163_62 rfl rfl ?_
                                    refine n_iload c_163_64 rfl ?_
                                    refine n_iconst c_163_66 ?_
                                    refine n_if2_le c_163_67 (by omega) (by omega) ?_ ?_
                                    · intro h339
                                      exfalso; omega
                                    · intro h340
                                      refine n_iload c_163_70 rfl ?_
                                      refine n_aload_n c_163_72 rfl ?_
                                      refine n_getV (bi := 0) c_163_73 sc_112.n rfl rfl rfl (t_112_0 hS) ?_
                                      intro z341 ez341 f342
                                      obtain rfl : z341 = 2 := by omega
                                      refine n_imul c_163_76 rfl ?_
                                      refine n_aload_n c_163_77 rfl ?_
                                      refine n_getR c_163_78 sc_112.n rfl rfl rfl r_112_18 ?_
                                      refine n_bipush c_163_81 rfl ?_
                                      refine n_iload c_163_83 rfl ?_
                                      refine n_imul c_163_85 rfl ?_
                                      refine n_iload c_163_86 rfl ?_
                                      refine n_iadd c_163_88 rfl ?_
                                      refine n_ialoadV c_163_89 sc_126.n rfl rfl rfl (by omega) (t_126 hS (by omega)) ?_
                                      intro z343 ez343 f344
                                      refine n_iadd c_163_90 rfl ?_
                                      refine n_istore (L2 := [some (2, 112), some (0, a), some (0, 8), some (0, x), some (0, y), some (0, w), some (0, s), some (0, z1), some (0, ((((((((((0 * 2) + z247) * 2) + z267) * 2) + z287) * 2) + z307) * 2) + z327)), some (0, ((((((8 - 1) + (-1)) + (-1)) + (-1)) + (-1)) + (-1))), some (0, ((((z331 * 2) + z337) * 2) + z343))]) c_163_91 rfl rfl ?_
                                      refine n_iload c_163_93 rfl ?_
                                      refine n_aload_n c_163_95 rfl ?_
                                      refine n_getV (bi := 0) c_163_96 sc_112.n rfl rfl rfl (t_112_0 hS) ?_
                                      intro z345 ez345 f346
                                      obtain rfl : z345 = 2 := by omega
                                      refine n_imul c_163_99 rfl ?_
                                      refine n_aload_n c_163_100 rfl ?_
                                      refine n_getR c_163_101 sc_112.n rfl rfl rfl r_112_6 ?_
                                      refine n_bipush c_163_104 rfl ?_
                                      refine n_iload_n c_163_106 rfl ?_
                                      refine n_imul c_163_107 rfl ?_
                                      refine n_iload c_163_108 rfl ?_
                                      refine n_iadd c_163_110 rfl ?_
                                      refine n_ialoadV c_163_111 sc_117.n rfl rfl rfl (by omega) (t_117 hS (by omega)) ?_
                                      intro z347 ez347 f348
                                      refine n_iadd c_163_112 rfl ?_
                                      refine n_istore (L2 := [some (2, 112), some (0, a), some (0, 8), some (0, x), some (0, y), some (0, w), some (0, s), some (0, z1), some (0, ((((((((((((0 * 2) + z247) * 2) + z267) * 2) + z287) * 2) + z307) * 2) + z327) * 2) + z347)), some (0, ((((((8 - 1) + (-1)) + (-1)) + (-1)) + (-1)) + (-1))), some (0, ((((z331 * 2) + z337) * 2) + z343))]) c_163_113 rfl rfl ?_
                                      refine n_iinc (L2 := [some (2, 112), some (0, a), some (0, 8), some (0, x), some (0, y), some (0, w), some (0, s), some (0, z1), some (0, ((((((((((((0 * 2) + z247) * 2) + z267) * 2) + z287) * 2) + z307) * 2) + z327) * 2) + z347)), some (0, (((((((8 - 1) + (-1)) + (-1)) + (-1)) + (-1)) + (-1)) + (-1))), some (0, ((((z331 * 2) + z337) * 2) + z343))]) c_163_115 rfl rfl rfl ?_
                                      refine n_goto c_163_118 ?_
                                      refine n_iload c_163_16 rfl ?_
                                      refine n_if0_lt c_163_18 (by omega) ?_ ?_
                                      · intro h349
                                        exfalso; omega
                                      · intro h350
                                        refine n_aload_n c_163_21 rfl ?_
                                        refine n_getR c_163_22 sc_112.n rfl rfl rfl r_112_18 ?_
                                        refine n_bipush c_163_25 rfl ?_
                                        refine n_iload_n c_163_27 rfl ?_
                                        refine n_imul c_163_28 rfl ?_
                                        refine n_iload c_163_29 rfl ?_
                                        refine n_iadd c_163_31 rfl ?_
                                        refine n_ialoadV c_163_32 sc_126.n rfl rfl rfl (by omega) (t_126 hS (by omega)) ?_
                                        intro z351 ez351 f352
                                        refine n_istore (L2 := [some (2, 112), some (0, a), some (0, 8), some (0, x), some (0, y), some (0, w), some (0, s), some (0, z1), some (0, ((((((((((((0 * 2) + z247) * 2) + z267) * 2) + z287) * 2) + z307) * 2) + z327) * 2) + z347)), some (0, (((((((8 - 1) + (-1)) + (-1)) + (-1)) + (-1)) + (-1)) + (-1))), some (0, z351)]) c_163_33 rfl rfl ?_
                                        refine n_iload c_163_35 rfl ?_
                                        refine n_iconst c_163_37 ?_
                                        refine n_if2_le c_163_38 (by omega) (by omega) ?_ ?_
                                        · intro h353
                                          exfalso; omega
                                        · intro h354
                                          refine n_iload c_163_41 rfl ?_
                                          refine n_aload_n c_163_43 rfl ?_
                                          refine n_getV (bi := 0) c_163_44 sc_112.n rfl rfl rfl (t_112_0 hS) ?_
                                          intro z355 ez355 f356
                                          obtain rfl : z355 = 2 := by omega
                                          refine n_imul c_163_47 rfl ?_
                                          refine n_aload_n c_163_48 rfl ?_
                                          refine n_getR c_163_49 sc_112.n rfl rfl rfl r_112_18 ?_
                                          refine n_bipush c_163_52 rfl ?_
                                          refine n_iload c_163_54 rfl ?_
                                          refine n_imul c_163_56 rfl ?_
                                          refine n_iload c_163_57 rfl ?_
                                          refine n_iadd c_163_59 rfl ?_
                                          refine n_ialoadV c_163_60 sc_126.n rfl rfl rfl (by omega) (t_126 hS (by omega)) ?_
                                          intro z357 ez357 f358
                                          refine n_iadd c_163_61 rfl ?_
                                          refine n_istore (L2 := [some (2, 112), some (0, a), some (0, 8), some (0, x), some (0, y), some (0, w), some (0, s), some (0, z1), some (0, ((((((((((((0 * 2) + z247) * 2) + z267) * 2) + z287) * 2) + z307) * 2) + z327) * 2) + z347)), some (0, (((((((8 - 1) + (-1)) + (-1)) + (-1)) + (-1)) + (-1)) + (-1))), some (0, ((z351 * 2) + z357))]) c_163_62 rfl rfl ?_
                                          refine n_iload c_163_64 rfl ?_
                                          refine n_iconst c_163_66 ?_
                                          refine n_if2_le c_163_67 (by omega) (by omega) ?_ ?_
                                          · intro h359
                                            exfalso; omega
                                          · intro h360
                                            refine n_iload c_163_70 rfl ?_
                                            refine n_aload_n c_163_72 rfl ?_
                                            refine n_getV (bi := 0) c_163_73 sc_112.n rfl rfl rfl (t_112_0 hS) ?_
                                            intro z361 ez361 f362
                                            obtain rfl : z361 = 2 := by omega
                                            refine n_imul c_163_76 rfl ?_
                                            refine n_aload_n c_163_77 rfl ?_
                                            refine n_getR c_163_78 sc_112.n rfl rfl rfl r_112_18 ?_
                                            refine n_bipush c_163_81 rfl ?_
                                            refine n_iload c_163_83 rfl ?_
                                            refine n_imul c_163_85 rfl ?_
                                            refine n_iload c_163_86 rfl ?_
                                            refine n_iadd c_163_88 rfl ?_
                                            refine n_ialoadV c_163_89 sc_126.n rfl rfl rfl (by omega) (t_126 hS (by omega)) ?_
                                            intro z363 ez363 f364
                                            refine n_iadd c_163_90 rfl ?_
                                            refine n_istore (L2 := [some (2, 112), some (0, a), some (0, 8), some (0, x), some (0, y), some (0, w), some (0, s), some (0, z1), some (0, ((((((((((((0 * 2) + z247) * 2) + z267) * 2) + z287) * 2) + z307) * 2) + z327) * 2) + z347)), some (0, (((((((8 - 1) + (-1)) + (-1)) + (-1)) + (-1)) + (-1)) + (-1))), some (0, ((((z351 * 2) + z357) * 2) + z363))]) c_163_91 rfl rfl ?_
                                            refine n_iload c_163_93 rfl ?_
                                            refine n_aload_n c_163_95 rfl ?_
                                            refine n_getV (bi := 0) c_163_96 sc_112.n rfl rfl rfl (t_112_0 hS) ?_
                                            intro z365 ez365 f366
                                            obtain rfl : z365 = 2 := by omega
                                            refine n_imul c_163_99 rfl ?_
                                            refine n_aload_n c_163_100 rfl ?_
                                            refine n_getR c_163_101 sc_112.n rfl rfl rfl r_112_6 ?_
                                            refine n_bipush c_163_104 rfl ?_
                                            refine n_iload_n c_163_106 rfl ?_
                                            refine n_imul c_163_107 rfl ?_
                                            refine n_iload c_163_108 rfl ?_
                                            refine n_iadd c_163_110 rfl ?_
                                            refine n_ialoadV c_163_111 sc_117.n rfl rfl rfl (by omega) (t_117 hS (by omega)) ?_
                                            intro z367 ez367 f368
                                            refine n_iadd c_163_112 rfl ?_
                                            refine n_istore (L2 := [some (2, 112), some (0, a), some (0, 8), some (0, x), some (0, y), some (0, w), some (0, s), some (0, z1), some (0, ((((((((((((((0 * 2) + z247) * 2) + z267) * 2) + z287) * 2) + z307) * 2) + z327) * 2) + z347) * 2) + z367)), some (0, (((((((8 - 1) + (-1)) + (-1)) + (-1)) + (-1)) + (-1)) + (-1))), some (0, ((((z351 * 2) + z357) * 2) + z363))]) c_163_113 rfl rfl ?_
                                            refine n_iinc (L2 := [some (2, 112), some (0, a), some (0, 8), some (0, x), some (0, y), some (0, w), some (0, s), some (0, z1), some (0, ((((((((((((((0 * 2) + z247) * 2) + z267) * 2) + z287) * 2) + z307) * 2) + z327) * 2) + z347) * 2) + z367)), some (0, ((((((((8 - 1) + (-1)) + (-1)) + (-1)) + (-1)) + (-1)) + (-1)) + (-1))), some (0, ((((z351 * 2) + z357) * 2) + z363))]) c_163_115 rfl rfl rfl ?_
                                            refine n_goto c_163_118 ?_
                                            refine n_iload c_163_16 rfl ?_
                                            refine n_if0_lt c_163_18 (by omega) ?_ ?_
                                            · intro h369
                                              exfalso; omega
                                            · intro h370
                                              refine n_aload_n c_163_21 rfl ?_
                                              refine n_getR c_163_22 sc_112.n rfl rfl rfl r_112_18 ?_
                                              refine n_bipush c_163_25 rfl ?_
                                              refine n_iload_n c_163_27 rfl ?_
                                              refine n_imul c_163_28 rfl ?_
                                              refine n_iload c_163_29 rfl ?_
                                              refine n_iadd c_163_31 rfl ?_
                                              refine n_ialoadV c_163_32 sc_126.n rfl rfl rfl (by omega) (t_126 hS (by omega)) ?_
                                              intro z371 ez371 f372
                                              refine n_istore (L2 := [some (2, 112), some (0, a), some (0, 8), some (0, x), some (0, y), some (0, w), some (0, s), some (0, z1), some (0, ((((((((((((((0 * 2) + z247) * 2) + z267) * 2) + z287) * 2) + z307) * 2) + z327) * 2) + z347) * 2) + z367)), some (0, ((((((((8 - 1) + (-1)) + (-1)) + (-1)) + (-1)) + (-1)) + (-1)) + (-1))), some (0, z371)]) c_163_33 rfl rfl ?_
                                              refine n_iload c_163_35 rfl ?_
                                              refine n_iconst c_163_37 ?_
                                              refine n_if2_le c_163_38 (by omega) (by omega) ?_ ?_
                                              · intro h373
                                                exfalso; omega
                                              · intro h374
                                                refine n_iload c_163_41 rfl ?_
                                                refine n_aload_n c_163_43 rfl ?_
                                                refine n_getV (bi := 0) c_163_44 sc_112.n rfl rfl rfl (t_112_0 hS) ?_
                                                intro z375 ez375 f376
                                                obtain rfl : z375 = 2 := by omega
                                                refine n_imul c_163_47 rfl ?_
                                                refine n_aload_n c_163_48 rfl ?_
                                                refine n_getR c_163_49 sc_112.n rfl rfl rfl r_112_18 ?_
                                                refine n_bipush c_163_52 rfl ?_
                                                refine n_iload c_163_54 rfl ?_
                                                refine n_imul c_163_56 rfl ?_
                                                refine n_iload c_163_57 rfl ?_
                                                refine n_iadd c_163_59 rfl ?_
                                                refine n_ialoadV c_163_60 sc_126.n rfl rfl rfl (by omega) (t_126 hS (by omega)) ?_
                                                intro z377 ez377 f378
                                                refine n_iadd c_163_61 rfl ?_
                                                refine n_istore (L2 := [some (2, 112), some (0, a), some (0, 8), some (0, x), some (0, y), some (0, w), some (0, s), some (0, z1), some (0, ((((((((((((((0 * 2) + z247) * 2) + z267) * 2) + z287) * 2) + z307) * 2) + z327) * 2) + z347) * 2) + z367)), some (0, ((((((((8 - 1) + (-1)) + (-1)) + (-1)) + (-1)) + (-1)) + (-1)) + (-1))), some (0, ((z371 * 2) + z377))]) c_163_62 rfl rfl ?_
                                                refine n_iload c_163_64 rfl ?_
                                                refine n_iconst c_163_66 ?_
                                                refine n_if2_le c_163_67 (by omega) (by omega) ?_ ?_
                                                · intro h379
                                                  exfalso; omega
                                                · intro h380
                                                  refine n_iload c_163_70 rfl ?_
                                                  refine n_aload_n c_163_72 rfl ?_
                                                  refine n_getV (bi := 0) c_163_73 sc_112.n rfl rfl rfl (t_112_0 hS) ?_
                                                  intro z381 ez381 f382
                                                  obtain rfl : z381 = 2 := by omega
                                                  refine n_imul c_163_76 rfl ?_
                                                  refine n_aload_n c_163_77 rfl ?_
                                                  refine n_getR c_163_78 sc_112.n rfl rfl rfl r_112_18 ?_
                                                  refine n_bipush c_163_81 rfl ?_
                                                  refine n_iload c_163_83 rfl ?_
                                                  refine n_imul c_163_85 rfl ?_
                                                  refine n_iload c_163_86 rfl ?_
                                                  refine n_iadd c_163_88 rfl ?_
                                                  refine n_ialoadV c_163_89 sc_126.n rfl rfl rfl (by omega) (t_126 hS (by omega)) ?_
                                                  intro z383 ez383 f384
                                                  refine n_iadd c_163_90 rfl ?_
                                                  refine n_istore (L2 := [some (2, 112), some (0, a), some (0, 8), some (0, x), some (0, y), some (0, w), some (0, s), some (0, z1), some (0, ((((((((((((((0 * 2) + z247) * 2) + z267) * 2) + z287) * 2) + z307) * 2) + z327) * 2) + z347) * 2) + z367)), some (0, ((((((((8 - 1) + (-1)) + (-1)) + (-1)) + (-1)) + (-1)) + (-1)) + (-1))), some (0, ((((z371 * 2) + z377) * 2) + z383))]) c_163_91 rfl rfl ?_
                                                  refine n_iload c_163_93 rfl ?_
                                                  refine n_aload_n c_163_95 rfl ?_
                                                  refine n_getV (bi := 0) c_163_96 sc_112.n rfl rfl rfl (t_112_0 hS) ?_
                                                  intro z385 ez385 f386
                                                  obtain rfl : z385 = 2 := by omega
                                                  refine n_imul c_163_99 rfl ?_
                                                  refine n_aload_n c_163_100 rfl ?_
                                                  refine n_getR c_163_101 sc_112.n rfl rfl rfl r_112_6 ?_
                                                  refine n_bipush c_163_104 rfl ?_
                                                  refine n_iload_n c_163_106 rfl ?_
                                                  refine n_imul c_163_107 rfl ?_
                                                  refine n_iload c_163_108 rfl ?_
                                                  refine n_iadd c_163_110 rfl ?_
                                                  refine n_ialoadV c_163_111 sc_117.n rfl rfl rfl (by omega) (t_117 hS (by omega)) ?_
                                                  intro z387 ez387 f388
                                                  refine n_iadd c_163_112 rfl ?_
                                                  refine n_istore (L2 := [some (2, 112), some (0, a), some (0, 8), some (0, x), some (0, y), some (0, w), some (0, s), some (0, z1), some (0, ((((((((((((((((0 * 2) + z247) * 2) + z267) * 2) + z287) * 2) + z307) * 2) + z327) * 2) + z347) * 2) + z367) * 2) + z387)), some (0, ((((((((8 - 1) + (-1)) + (-1)) + (-1)) + (-1)) + (-1)) + (-1)) + (-1))), some (0, ((((z371 * 2) + z377) * 2) + z383))]) c_163_113 rfl rfl ?_
                                                  refine n_iinc (L2 := [some (2, 112), some (0, a), some (0, 8), some (0, x), some (0, y), some (0, w), some (0, s), some (0, z1), some (0, ((((((((((((((((0 * 2) + z247) * 2) + z267) * 2) + z287) * 2) + z307) * 2) + z327) * 2) + z347) * 2) + z367) * 2) + z387)), some (0, (((((((((8 - 1) + (-1)) + (-1)) + (-1)) + (-1)) + (-1)) + (-1)) + (-1)) + (-1))), some (0, ((((z371 * 2) + z377) * 2) + z383))]) c_163_115 rfl rfl rfl ?_
                                                  refine n_goto c_163_118 ?_
                                                  refine n_iload c_163_16 rfl ?_
                                                  refine n_if0_lt c_163_18 (by omega) ?_ ?_
                                                  · intro h389
                                                    refine n_aload_n c_163_121 rfl ?_
                                                    refine n_getR c_163_122 sc_112.n rfl rfl rfl r_112_17 ?_
                                                    refine n_iload c_163_125 rfl ?_
                                                    refine n_ialoadV c_163_127 sc_125.n rfl rfl rfl (by omega) (t_125 hS (by omega)) ?_
                                                    intro z390 ez390 f391
                                                    refine n_if0_eq c_163_128 (by omega) ?_ ?_
                                                    · intro h392
                                                      refine n_fg (le_s (le_n (le_n (le_n (le_n (le_n (le_s (le_n (le_s (le_n (le_n le_0))))))))))) ?_
                                                      exact (mjoined8_2_c hS ha hx hy hw hs 14).1 _ M hS (by omega) (by omega)
                                                    · intro h393
                                                      refine n_aload_n c_163_131 rfl ?_
                                                      refine n_getR c_163_132 sc_112.n rfl rfl rfl r_112_17 ?_
                                                      refine n_iload c_163_135 rfl ?_
                                                      refine n_ialoadV c_163_137 sc_125.n rfl rfl rfl (by omega) (t_125 hS (by omega)) ?_
                                                      intro z394 ez394 f395
                                                      refine n_iload c_163_138 rfl ?_
                                                      refine n_iconst c_163_140 ?_
                                                      refine n_iadd c_163_141 rfl ?_
                                                      refine n_if2_le c_163_142 (by omega) (by omega) ?_ ?_
                                                      · intro h396
                                                        refine n_fg (le_n (le_n (le_n (le_n (le_n (le_n (le_n (le_n (le_n (le_n (le_n le_0))))))))))) ?_
                                                        exact (mjoined8_2_c hS ha hx hy hw hs 14).2  M hS  (by omega)
                                                      · intro h397
                                                        refine n_fg (le_s (le_n (le_n (le_n (le_n (le_n (le_s (le_n (le_s (le_n (le_n le_0))))))))))) ?_
                                                        exact (mjoined8_2_c hS ha hx hy hw hs 14).1 _ M hS (by omega) (by omega)
                                                  · intro h398
                                                    exfalso; omega

set_option maxHeartbeats 4000000 in
theorem mjoins2_2_c {xs : List Int32} {e : Nat} {ac : Int} {M0 M : nM} {n t : Int} (hS : Sf 2 ac M0 M) (hn : 1 ≤ n ∧ n ≤ 3) (ht : 0 ≤ t ∧ t ≤ 255) : ∀ m : Nat, (∀ (x4 x5 : Int) (M : nM), Sf 2 ac M0 M → (0 ≤ x4 ∧ x4 ≤ 1000000) → (0 ≤ x5 ∧ x5 ≤ 8) → (8 - x5) * 67082 + 67082 < (m : Int) → nW xs (e + 1) 165 11 [some (2, 112), some (0, n), some (0, 2), some (0, t), some (0, x4), some (0, x5), none, none, none, none] [] M (nPV fun M1 => Sf 2 ac M0 M1)) ∧ (∀ (x4 x5 x6 : Int) (M : nM), Sf 2 ac M0 M → (0 ≤ x4 ∧ x4 ≤ 1000000) → (0 ≤ x5 ∧ x5 ≤ 7) → (0 ≤ x6 ∧ x6 ≤ 256) → (8 - x5) * 67082 + (256 - x6) * 260 + 261 < (m : Int) → nW xs (e + 1) 165 56 [some (2, 112), some (0, n), some (0, 2), some (0, t), some (0, x4), some (0, x5), some (0, x6), none, none, none] [] M (nPV fun M1 => Sf 2 ac M0 M1)) ∧ (∀ (x4 x5 x6 x7 x8 : Int) (M : nM), Sf 2 ac M0 M → (0 ≤ x4 ∧ x4 ≤ 1000000) → (0 ≤ x5 ∧ x5 ≤ 7) → (0 ≤ x6 ∧ x6 ≤ 255) → (1 ≤ x7 ∧ x7 ≤ 1000000) → (0 ≤ x8 ∧ x8 ≤ 256) → (8 - x5) * 67082 + (256 - x6) * 260 + (256 - x8) * 1 + 3 < (m : Int) → nW xs (e + 1) 165 124 [some (2, 112), some (0, n), some (0, 2), some (0, t), some (0, x4), some (0, x5), some (0, x6), some (0, x7), some (0, x8), none] [] M (nPV fun M1 => Sf 2 ac M0 M1)) ∧ (∀ (x4 x5 x6 : Int) (M : nM), Sf 2 ac M0 M → (0 ≤ x4 ∧ x4 ≤ 1000000) → (0 ≤ x5 ∧ x5 ≤ 7) → (0 ≤ x6 ∧ x6 ≤ 255) → (8 - x5) * 67082 + (256 - x6) * 260 + 2 < (m : Int) → nW xs (e + 1) 165 195 [some (2, 112), some (0, n), some (0, 2), some (0, t), some (0, x4), some (0, x5), some (0, x6), none, none, none] [] M (nPV fun M1 => Sf 2 ac M0 M1)) ∧ (∀ (x4 x5 : Int) (M : nM), Sf 2 ac M0 M → (0 ≤ x4 ∧ x4 ≤ 1000000) → (0 ≤ x5 ∧ x5 ≤ 7) → (8 - x5) * 67082 + 1 < (m : Int) → nW xs (e + 1) 165 201 [some (2, 112), some (0, n), some (0, 2), some (0, t), some (0, x4), some (0, x5), none, none, none, none] [] M (nPV fun M1 => Sf 2 ac M0 M1)) := by
  have hd : (2 : Int) = 2 ∨ (2 : Int) = 3 := by decide
  have hac := hS.2.2.2.2
  intro m
  induction m with
  | zero => refine ⟨?_, ?_, ?_, ?_, ?_⟩ <;> (intros; omega)
  | succ m ih =>
    refine ⟨?_, ?_, ?_, ?_, ?_⟩
    · intro x4 x5 M hS k4 k5 hm
      refine n_iload c_165_11 rfl ?_
      refine n_aload_n c_165_13 rfl ?_
      refine n_getV (bi := 4) c_165_14 sc_112.n rfl rfl rfl (t_112_4 hS) ?_
      intro z1 ez1 f2
      refine n_if2_ge c_165_17 (by omega) (by omega) ?_ ?_
      · intro h3
        exact n_rV c_165_207 rfl hS
      · intro h4
        refine n_aload_n c_165_20 rfl ?_
        refine n_getR c_165_21 sc_112.n rfl rfl rfl r_112_5 ?_
        refine n_iload c_165_24 rfl ?_
        refine n_ialoadV c_165_26 sc_116.n rfl rfl rfl (by omega) (t_116 hS (by omega)) ?_
        intro z5 ez5 f6
        refine n_iconst c_165_27 ?_
        refine n_if2_ne c_165_28 (by omega) (by omega) ?_ ?_
        · intro h7
          refine n_iconst c_165_53 ?_
          refine n_istore (L2 := [some (2, 112), some (0, n), some (0, 2), some (0, t), some (0, x4), some (0, x5), some (0, 0), none, none, none]) c_165_54 rfl rfl ?_
          refine n_fg (le_s (le_s (le_s (le_s (le_s (le_s (le_s (le_n (le_n (le_n le_0)))))))))) ?_
          exact ih.2.1 _ _ _ M hS (by omega) (by omega) (by omega) (by omega)
        · intro h8
          refine n_aload_n c_165_31 rfl ?_
          refine n_iload c_165_32 rfl ?_
          refine n_iload_n c_165_34 rfl ?_
          refine n_iload_n c_165_35 rfl ?_
          refine n_iconst c_165_36 ?_
          refine n_iconst c_165_37 ?_
          refine n_ldc (n := 1000000) c_165_38 rfl ?_
          refine n_iload c_165_40 rfl ?_
          refine n_iconst c_165_42 ?_
          refine n_iadd c_165_43 rfl ?_
          refine n_s2I c_165_44 rfl rfl rfl rfl (imin_2 (x := 1000000) (y := (x4 + 1)) hS (by omega) (by omega)) ?_
          intro z9 M10 hP11
          obtain ⟨eM, f11, f11p0⟩ := hP11
          subst eM
          refine n_v6V c_165_47 rfl sc_112.n rfl rfl rfl rfl (mjoined2_2 (a := x5) (x := t) (y := 0) (w := 0) (s := z9) hS (by omega) (by omega) (by omega) (by omega) (by omega)) ?_
          intro  M12 hP13
          obtain hS12 := hP13
          refine n_goto c_165_50 ?_
          refine n_fg (le_s (le_s (le_s (le_s (le_s (le_s (le_n (le_n (le_n (le_n le_0)))))))))) ?_
          exact ih.2.2.2.2 _ _ M12 hS12 (by omega) (by omega) (by omega)
    · intro x4 x5 x6 M hS k4 k5 k6 hm
      refine n_iload c_165_56 rfl ?_
      refine n_iload_n c_165_58 rfl ?_
      refine n_if2_gt c_165_59 (by omega) (by omega) ?_ ?_
      · intro h1
        refine n_fg (le_s (le_s (le_s (le_s (le_s (le_s (le_n (le_n (le_n (le_n le_0)))))))))) ?_
        exact ih.2.2.2.2 _ _ M hS (by omega) (by omega) (by omega)
      · intro h2
        refine n_ldc (n := 1000000) c_165_62 rfl ?_
        refine n_iload c_165_64 rfl ?_
        refine n_aload_n c_165_66 rfl ?_
        refine n_iload_n c_165_67 rfl ?_
        refine n_iload c_165_68 rfl ?_
        refine n_v2I c_165_70 rfl sc_112.n rfl rfl rfl rfl (msizeOf_2 (n := n) (i := x6) hS (by omega) (by omega)) ?_
        intro z3 M4 hP5
        obtain ⟨eM, f5⟩ := hP5
        subst eM
        refine n_iadd c_165_73 rfl ?_
        refine n_iconst c_165_74 ?_
        refine n_iadd c_165_75 rfl ?_
        refine n_s2I c_165_76 rfl rfl rfl rfl (imin_2 (x := 1000000) (y := ((x4 + z3) + 1)) hS (by omega) (by omega)) ?_
        intro z6 M7 hP8
        obtain ⟨eM, f8, f8p0⟩ := hP8
        subst eM
        refine n_istore (L2 := [some (2, 112), some (0, n), some (0, 2), some (0, t), some (0, x4), some (0, x5), some (0, x6), some (0, z6), none, none]) c_165_79 rfl rfl ?_
        refine n_aload_n c_165_81 rfl ?_
        refine n_getR c_165_82 sc_112.n rfl rfl rfl r_112_5 ?_
        refine n_iload c_165_85 rfl ?_
        refine n_ialoadV c_165_87 sc_116.n rfl rfl rfl (by omega) (t_116 hS (by omega)) ?_
        intro z9 ez9 f10
        refine n_iconst c_165_88 ?_
        refine n_if2_ne c_165_89 (by omega) (by omega) ?_ ?_
        · intro h11
          refine n_iconst c_165_121 ?_
          refine n_istore (L2 := [some (2, 112), some (0, n), some (0, 2), some (0, t), some (0, x4), some (0, x5), some (0, x6), some (0, z6), some (0, 0), none]) c_165_122 rfl rfl ?_
          refine n_fg (le_s (le_s (le_s (le_s (le_s (le_s (le_s (le_s (le_s (le_n le_0)))))))))) ?_
          exact ih.2.2.1 _ _ _ _ _ M hS (by omega) (by omega) (by omega) (by omega) (by omega) (by omega)
        · intro h12
          refine n_aload_n c_165_92 rfl ?_
          refine n_iload c_165_93 rfl ?_
          refine n_iload_n c_165_95 rfl ?_
          refine n_iload_n c_165_96 rfl ?_
          refine n_iload c_165_97 rfl ?_
          refine n_iconst c_165_99 ?_
          refine n_iload c_165_100 rfl ?_
          refine n_v6V c_165_102 rfl sc_112.n rfl rfl rfl rfl (mjoined2_2 (a := x5) (x := t) (y := x6) (w := 0) (s := z6) hS (by omega) (by omega) (by omega) (by omega) (by omega)) ?_
          intro  M13 hP14
          obtain hS13 := hP14
          refine n_aload_n c_165_105 rfl ?_
          refine n_iload c_165_106 rfl ?_
          refine n_iload_n c_165_108 rfl ?_
          refine n_iload c_165_109 rfl ?_
          refine n_iload_n c_165_111 rfl ?_
          refine n_iconst c_165_112 ?_
          refine n_iload c_165_113 rfl ?_
          refine n_v6V c_165_115 rfl sc_112.n rfl rfl rfl rfl (mjoined2_2 (a := x5) (x := x6) (y := t) (w := 0) (s := z6) hS13 (by omega) (by omega) (by omega) (by omega) (by omega)) ?_
          intro  M15 hP16
          obtain hS15 := hP16
          refine n_goto c_165_118 ?_
          refine n_fg (le_s (le_s (le_s (le_s (le_s (le_s (le_s (le_n (le_n (le_n le_0)))))))))) ?_
          exact ih.2.2.2.1 _ _ _ M15 hS15 (by omega) (by omega) (by omega) (by omega)
    · intro x4 x5 x6 x7 x8 M hS k4 k5 k6 k7 k8 hm
      refine n_iload c_165_124 rfl ?_
      refine n_iload_n c_165_126 rfl ?_
      refine n_if2_gt c_165_127 (by omega) (by omega) ?_ ?_
      · intro h1
        refine n_fg (le_s (le_s (le_s (le_s (le_s (le_s (le_s (le_n (le_n (le_n le_0)))))))))) ?_
        exact ih.2.2.2.1 _ _ _ M hS (by omega) (by omega) (by omega) (by omega)
      · intro h2
        refine n_ldc (n := 1000000) c_165_130 rfl ?_
        refine n_iload c_165_132 rfl ?_
        refine n_aload_n c_165_134 rfl ?_
        refine n_iload_n c_165_135 rfl ?_
        refine n_iload c_165_136 rfl ?_
        refine n_v2I c_165_138 rfl sc_112.n rfl rfl rfl rfl (msizeOf_2 (n := n) (i := x8) hS (by omega) (by omega)) ?_
        intro z3 M4 hP5
        obtain ⟨eM, f5⟩ := hP5
        subst eM
        refine n_iadd c_165_141 rfl ?_
        refine n_s2I c_165_142 rfl rfl rfl rfl (imin_2 (x := 1000000) (y := (x7 + z3)) hS (by omega) (by omega)) ?_
        intro z6 M7 hP8
        obtain ⟨eM, f8, f8p0⟩ := hP8
        subst eM
        refine n_istore (L2 := [some (2, 112), some (0, n), some (0, 2), some (0, t), some (0, x4), some (0, x5), some (0, x6), some (0, x7), some (0, x8), some (0, z6)]) c_165_145 rfl rfl ?_
        refine n_aload_n c_165_147 rfl ?_
        refine n_iload c_165_148 rfl ?_
        refine n_iload_n c_165_150 rfl ?_
        refine n_iload_n c_165_151 rfl ?_
        refine n_iload c_165_152 rfl ?_
        refine n_iload c_165_154 rfl ?_
        refine n_iload c_165_156 rfl ?_
        refine n_v6V c_165_158 rfl sc_112.n rfl rfl rfl rfl (mjoined2_2 (a := x5) (x := t) (y := x6) (w := x8) (s := z6) hS (by omega) (by omega) (by omega) (by omega) (by omega)) ?_
        intro  M9 hP10
        obtain hS9 := hP10
        refine n_aload_n c_165_161 rfl ?_
        refine n_iload c_165_162 rfl ?_
        refine n_iload_n c_165_164 rfl ?_
        refine n_iload c_165_165 rfl ?_
        refine n_iload_n c_165_167 rfl ?_
        refine n_iload c_165_168 rfl ?_
        refine n_iload c_165_170 rfl ?_
        refine n_v6V c_165_172 rfl sc_112.n rfl rfl rfl rfl (mjoined2_2 (a := x5) (x := x6) (y := t) (w := x8) (s := z6) hS9 (by omega) (by omega) (by omega) (by omega) (by omega)) ?_
        intro  M11 hP12
        obtain hS11 := hP12
        refine n_aload_n c_165_175 rfl ?_
        refine n_iload c_165_176 rfl ?_
        refine n_iload_n c_165_178 rfl ?_
        refine n_iload c_165_179 rfl ?_
        refine n_iload c_165_181 rfl ?_
        refine n_iload_n c_165_183 rfl ?_
        refine n_iload c_165_184 rfl ?_
        refine n_v6V c_165_186 rfl sc_112.n rfl rfl rfl rfl (mjoined2_2 (a := x5) (x := x6) (y := x8) (w := t) (s := z6) hS11 (by omega) (by omega) (by omega) (by omega) (by omega)) ?_
        intro  M13 hP14
        obtain hS13 := hP14
        refine n_iinc (L2 := [some (2, 112), some (0, n), some (0, 2), some (0, t), some (0, x4), some (0, x5), some (0, x6), some (0, x7), some (0, (x8 + 1)), some (0, z6)]) c_165_189 rfl rfl rfl ?_
        refine n_goto c_165_192 ?_
        refine n_fg (le_s (le_s (le_s (le_s (le_s (le_s (le_s (le_s (le_s (le_n le_0)))))))))) ?_
        exact ih.2.2.1 _ _ _ _ _ M13 hS13 (by omega) (by omega) (by omega) (by omega) (by omega) (by omega)
    · intro x4 x5 x6 M hS k4 k5 k6 hm
      refine n_iinc (L2 := [some (2, 112), some (0, n), some (0, 2), some (0, t), some (0, x4), some (0, x5), some (0, (x6 + 1)), none, none, none]) c_165_195 rfl rfl rfl ?_
      refine n_goto c_165_198 ?_
      refine n_fg (le_s (le_s (le_s (le_s (le_s (le_s (le_s (le_n (le_n (le_n le_0)))))))))) ?_
      exact ih.2.1 _ _ _ M hS (by omega) (by omega) (by omega) (by omega)
    · intro x4 x5 M hS k4 k5 hm
      refine n_iinc (L2 := [some (2, 112), some (0, n), some (0, 2), some (0, t), some (0, x4), some (0, (x5 + 1)), none, none, none, none]) c_165_201 rfl rfl rfl ?_
      refine n_goto c_165_204 ?_
      refine n_fg (le_s (le_s (le_s (le_s (le_s (le_s (le_n (le_n (le_n (le_n le_0)))))))))) ?_
      exact ih.1 _ _ M hS (by omega) (by omega) (by omega)
set_option maxHeartbeats 4000000 in
theorem mjoins2_2 {xs : List Int32} {e : Nat} {ac : Int} {M0 M : nM} {n t : Int} (hS : Sf 2 ac M0 M) (hn : 1 ≤ n ∧ n ≤ 3) (ht : 0 ≤ t ∧ t ≤ 255) : nW xs (e + 1) 165 0 [some (2, 112), some (0, n), some (0, 2), some (0, t), none, none, none, none, none, none] [] M (nPV fun M1 => Sf 2 ac M0 M1) := by
  have hd : (2 : Int) = 2 ∨ (2 : Int) = 3 := by decide
  have hac := hS.2.2.2.2
  refine n_aload_n c_165_0 rfl ?_
  refine n_iload_n c_165_1 rfl ?_
  refine n_iload_n c_165_2 rfl ?_
  refine n_v2I c_165_3 rfl sc_112.n rfl rfl rfl rfl (msizeOf_2 (n := n) (i := t) hS (by omega) (by omega)) ?_
  intro z1 M2 hP3
  obtain ⟨eM, f3⟩ := hP3
  subst eM
  refine n_istore (L2 := [some (2, 112), some (0, n), some (0, 2), some (0, t), some (0, z1), none, none, none, none, none]) c_165_6 rfl rfl ?_
  refine n_iconst c_165_8 ?_
  refine n_istore (L2 := [some (2, 112), some (0, n), some (0, 2), some (0, t), some (0, z1), some (0, 0), none, none, none, none]) c_165_9 rfl rfl ?_
  refine n_fg (le_s (le_s (le_s (le_s (le_s (le_s (le_n (le_n (le_n (le_n le_0)))))))))) ?_
  exact (mjoins2_2_c hS hn ht 1341650).1 _ _ M hS (by omega) (by omega) (by omega)

set_option maxHeartbeats 4000000 in
theorem mjoins4_2_c {xs : List Int32} {e : Nat} {ac : Int} {M0 M : nM} {n t : Int} (hS : Sf 2 ac M0 M) (hn : 1 ≤ n ∧ n ≤ 3) (ht : 0 ≤ t ∧ t ≤ 255) : ∀ m : Nat, (∀ (x4 x5 : Int) (M : nM), Sf 2 ac M0 M → (0 ≤ x4 ∧ x4 ≤ 1000000) → (0 ≤ x5 ∧ x5 ≤ 8) → (8 - x5) * 67082 + 67082 < (m : Int) → nW xs (e + 1) 165 11 [some (2, 112), some (0, n), some (0, 4), some (0, t), some (0, x4), some (0, x5), none, none, none, none] [] M (nPV fun M1 => Sf 2 ac M0 M1)) ∧ (∀ (x4 x5 x6 : Int) (M : nM), Sf 2 ac M0 M → (0 ≤ x4 ∧ x4 ≤ 1000000) → (0 ≤ x5 ∧ x5 ≤ 7) → (0 ≤ x6 ∧ x6 ≤ 256) → (8 - x5) * 67082 + (256 - x6) * 260 + 261 < (m : Int) → nW xs (e + 1) 165 56 [some (2, 112), some (0, n), some (0, 4), some (0, t), some (0, x4), some (0, x5), some (0, x6), none, none, none] [] M (nPV fun M1 => Sf 2 ac M0 M1)) ∧ (∀ (x4 x5 x6 x7 x8 : Int) (M : nM), Sf 2 ac M0 M → (0 ≤ x4 ∧ x4 ≤ 1000000) → (0 ≤ x5 ∧ x5 ≤ 7) → (0 ≤ x6 ∧ x6 ≤ 255) → (1 ≤ x7 ∧ x7 ≤ 1000000) → (0 ≤ x8 ∧ x8 ≤ 256) → (8 - x5) * 67082 + (256 - x6) * 260 + (256 - x8) * 1 + 3 < (m : Int) → nW xs (e + 1) 165 124 [some (2, 112), some (0, n), some (0, 4), some (0, t), some (0, x4), some (0, x5), some (0, x6), some (0, x7), some (0, x8), none] [] M (nPV fun M1 => Sf 2 ac M0 M1)) ∧ (∀ (x4 x5 x6 : Int) (M : nM), Sf 2 ac M0 M → (0 ≤ x4 ∧ x4 ≤ 1000000) → (0 ≤ x5 ∧ x5 ≤ 7) → (0 ≤ x6 ∧ x6 ≤ 255) → (8 - x5) * 67082 + (256 - x6) * 260 + 2 < (m : Int) → nW xs (e + 1) 165 195 [some (2, 112), some (0, n), some (0, 4), some (0, t), some (0, x4), some (0, x5), some (0, x6), none, none, none] [] M (nPV fun M1 => Sf 2 ac M0 M1)) ∧ (∀ (x4 x5 : Int) (M : nM), Sf 2 ac M0 M → (0 ≤ x4 ∧ x4 ≤ 1000000) → (0 ≤ x5 ∧ x5 ≤ 7) → (8 - x5) * 67082 + 1 < (m : Int) → nW xs (e + 1) 165 201 [some (2, 112), some (0, n), some (0, 4), some (0, t), some (0, x4), some (0, x5), none, none, none, none] [] M (nPV fun M1 => Sf 2 ac M0 M1)) := by
  have hd : (2 : Int) = 2 ∨ (2 : Int) = 3 := by decide
  have hac := hS.2.2.2.2
  intro m
  induction m with
  | zero => refine ⟨?_, ?_, ?_, ?_, ?_⟩ <;> (intros; omega)
  | succ m ih =>
    refine ⟨?_, ?_, ?_, ?_, ?_⟩
    · intro x4 x5 M hS k4 k5 hm
      refine n_iload c_165_11 rfl ?_
      refine n_aload_n c_165_13 rfl ?_
      refine n_getV (bi := 4) c_165_14 sc_112.n rfl rfl rfl (t_112_4 hS) ?_
      intro z1 ez1 f2
      refine n_if2_ge c_165_17 (by omega) (by omega) ?_ ?_
      · intro h3
        exact n_rV c_165_207 rfl hS
      · intro h4
        refine n_aload_n c_165_20 rfl ?_
        refine n_getR c_165_21 sc_112.n rfl rfl rfl r_112_5 ?_
        refine n_iload c_165_24 rfl ?_
        refine n_ialoadV c_165_26 sc_116.n rfl rfl rfl (by omega) (t_116 hS (by omega)) ?_
        intro z5 ez5 f6
        refine n_iconst c_165_27 ?_
        refine n_if2_ne c_165_28 (by omega) (by omega) ?_ ?_
        · intro h7
          refine n_iconst c_165_53 ?_
          refine n_istore (L2 := [some (2, 112), some (0, n), some (0, 4), some (0, t), some (0, x4), some (0, x5), some (0, 0), none, none, none]) c_165_54 rfl rfl ?_
          refine n_fg (le_s (le_s (le_s (le_s (le_s (le_s (le_s (le_n (le_n (le_n le_0)))))))))) ?_
          exact ih.2.1 _ _ _ M hS (by omega) (by omega) (by omega) (by omega)
        · intro h8
          refine n_aload_n c_165_31 rfl ?_
          refine n_iload c_165_32 rfl ?_
          refine n_iload_n c_165_34 rfl ?_
          refine n_iload_n c_165_35 rfl ?_
          refine n_iconst c_165_36 ?_
          refine n_iconst c_165_37 ?_
          refine n_ldc (n := 1000000) c_165_38 rfl ?_
          refine n_iload c_165_40 rfl ?_
          refine n_iconst c_165_42 ?_
          refine n_iadd c_165_43 rfl ?_
          refine n_s2I c_165_44 rfl rfl rfl rfl (imin_2 (x := 1000000) (y := (x4 + 1)) hS (by omega) (by omega)) ?_
          intro z9 M10 hP11
          obtain ⟨eM, f11, f11p0⟩ := hP11
          subst eM
          refine n_v6V c_165_47 rfl sc_112.n rfl rfl rfl rfl (mjoined4_2 (a := x5) (x := t) (y := 0) (w := 0) (s := z9) hS (by omega) (by omega) (by omega) (by omega) (by omega)) ?_
          intro  M12 hP13
          obtain hS12 := hP13
          refine n_goto c_165_50 ?_
          refine n_fg (le_s (le_s (le_s (le_s (le_s (le_s (le_n (le_n (le_n (le_n le_0)))))))))) ?_
          exact ih.2.2.2.2 _ _ M12 hS12 (by omega) (by omega) (by omega)
    · intro x4 x5 x6 M hS k4 k5 k6 hm
      refine n_iload c_165_56 rfl ?_
      refine n_iload_n c_165_58 rfl ?_
      refine n_if2_gt c_165_59 (by omega) (by omega) ?_ ?_
      · intro h1
        refine n_fg (le_s (le_s (le_s (le_s (le_s (le_s (le_n (le_n (le_n (le_n le_0)))))))))) ?_
        exact ih.2.2.2.2 _ _ M hS (by omega) (by omega) (by omega)
      · intro h2
        refine n_ldc (n := 1000000) c_165_62 rfl ?_
        refine n_iload c_165_64 rfl ?_
        refine n_aload_n c_165_66 rfl ?_
        refine n_iload_n c_165_67 rfl ?_
        refine n_iload c_165_68 rfl ?_
        refine n_v2I c_165_70 rfl sc_112.n rfl rfl rfl rfl (msizeOf_2 (n := n) (i := x6) hS (by omega) (by omega)) ?_
        intro z3 M4 hP5
        obtain ⟨eM, f5⟩ := hP5
        subst eM
        refine n_iadd c_165_73 rfl ?_
        refine n_iconst c_165_74 ?_
        refine n_iadd c_165_75 rfl ?_
        refine n_s2I c_165_76 rfl rfl rfl rfl (imin_2 (x := 1000000) (y := ((x4 + z3) + 1)) hS (by omega) (by omega)) ?_
        intro z6 M7 hP8
        obtain ⟨eM, f8, f8p0⟩ := hP8
        subst eM
        refine n_istore (L2 := [some (2, 112), some (0, n), some (0, 4), some (0, t), some (0, x4), some (0, x5), some (0, x6), some (0, z6), none, none]) c_165_79 rfl rfl ?_
        refine n_aload_n c_165_81 rfl ?_
        refine n_getR c_165_82 sc_112.n rfl rfl rfl r_112_5 ?_
        refine n_iload c_165_85 rfl ?_
        refine n_ialoadV c_165_87 sc_116.n rfl rfl rfl (by omega) (t_116 hS (by omega)) ?_
        intro z9 ez9 f10
        refine n_iconst c_165_88 ?_
        refine n_if2_ne c_165_89 (by omega) (by omega) ?_ ?_
        · intro h11
          refine n_iconst c_165_121 ?_
          refine n_istore (L2 := [some (2, 112), some (0, n), some (0, 4), some (0, t), some (0, x4), some (0, x5), some (0, x6), some (0, z6), some (0, 0), none]) c_165_122 rfl rfl ?_
          refine n_fg (le_s (le_s (le_s (le_s (le_s (le_s (le_s (le_s (le_s (le_n le_0)))))))))) ?_
          exact ih.2.2.1 _ _ _ _ _ M hS (by omega) (by omega) (by omega) (by omega) (by omega) (by omega)
        · intro h12
          refine n_aload_n c_165_92 rfl ?_
          refine n_iload c_165_93 rfl ?_
          refine n_iload_n c_165_95 rfl ?_
          refine n_iload_n c_165_96 rfl ?_
          refine n_iload c_165_97 rfl ?_
          refine n_iconst c_165_99 ?_
          refine n_iload c_165_100 rfl ?_
          refine n_v6V c_165_102 rfl sc_112.n rfl rfl rfl rfl (mjoined4_2 (a := x5) (x := t) (y := x6) (w := 0) (s := z6) hS (by omega) (by omega) (by omega) (by omega) (by omega)) ?_
          intro  M13 hP14
          obtain hS13 := hP14
          refine n_aload_n c_165_105 rfl ?_
          refine n_iload c_165_106 rfl ?_
          refine n_iload_n c_165_108 rfl ?_
          refine n_iload c_165_109 rfl ?_
          refine n_iload_n c_165_111 rfl ?_
          refine n_iconst c_165_112 ?_
          refine n_iload c_165_113 rfl ?_
          refine n_v6V c_165_115 rfl sc_112.n rfl rfl rfl rfl (mjoined4_2 (a := x5) (x := x6) (y := t) (w := 0) (s := z6) hS13 (by omega) (by omega) (by omega) (by omega) (by omega)) ?_
          intro  M15 hP16
          obtain hS15 := hP16
          refine n_goto c_165_118 ?_
          refine n_fg (le_s (le_s (le_s (le_s (le_s (le_s (le_s (le_n (le_n (le_n le_0)))))))))) ?_
          exact ih.2.2.2.1 _ _ _ M15 hS15 (by omega) (by omega) (by omega) (by omega)
    · intro x4 x5 x6 x7 x8 M hS k4 k5 k6 k7 k8 hm
      refine n_iload c_165_124 rfl ?_
      refine n_iload_n c_165_126 rfl ?_
      refine n_if2_gt c_165_127 (by omega) (by omega) ?_ ?_
      · intro h1
        refine n_fg (le_s (le_s (le_s (le_s (le_s (le_s (le_s (le_n (le_n (le_n le_0)))))))))) ?_
        exact ih.2.2.2.1 _ _ _ M hS (by omega) (by omega) (by omega) (by omega)
      · intro h2
        refine n_ldc (n := 1000000) c_165_130 rfl ?_
        refine n_iload c_165_132 rfl ?_
        refine n_aload_n c_165_134 rfl ?_
        refine n_iload_n c_165_135 rfl ?_
        refine n_iload c_165_136 rfl ?_
        refine n_v2I c_165_138 rfl sc_112.n rfl rfl rfl rfl (msizeOf_2 (n := n) (i := x8) hS (by omega) (by omega)) ?_
        intro z3 M4 hP5
        obtain ⟨eM, f5⟩ := hP5
        subst eM
        refine n_iadd c_165_141 rfl ?_
        refine n_s2I c_165_142 rfl rfl rfl rfl (imin_2 (x := 1000000) (y := (x7 + z3)) hS (by omega) (by omega)) ?_
        intro z6 M7 hP8
        obtain ⟨eM, f8, f8p0⟩ := hP8
        subst eM
        refine n_istore (L2 := [some (2, 112), some (0, n), some (0, 4), some (0, t), some (0, x4), some (0, x5), some (0, x6), some (0, x7), some (0, x8), some (0, z6)]) c_165_145 rfl rfl ?_
        refine n_aload_n c_165_147 rfl ?_
        refine n_iload c_165_148 rfl ?_
        refine n_iload_n c_165_150 rfl ?_
        refine n_iload_n c_165_151 rfl ?_
        refine n_iload c_165_152 rfl ?_
        refine n_iload c_165_154 rfl ?_
        refine n_iload c_165_156 rfl ?_
        refine n_v6V c_165_158 rfl sc_112.n rfl rfl rfl rfl (mjoined4_2 (a := x5) (x := t) (y := x6) (w := x8) (s := z6) hS (by omega) (by omega) (by omega) (by omega) (by omega)) ?_
        intro  M9 hP10
        obtain hS9 := hP10
        refine n_aload_n c_165_161 rfl ?_
        refine n_iload c_165_162 rfl ?_
        refine n_iload_n c_165_164 rfl ?_
        refine n_iload c_165_165 rfl ?_
        refine n_iload_n c_165_167 rfl ?_
        refine n_iload c_165_168 rfl ?_
        refine n_iload c_165_170 rfl ?_
        refine n_v6V c_165_172 rfl sc_112.n rfl rfl rfl rfl (mjoined4_2 (a := x5) (x := x6) (y := t) (w := x8) (s := z6) hS9 (by omega) (by omega) (by omega) (by omega) (by omega)) ?_
        intro  M11 hP12
        obtain hS11 := hP12
        refine n_aload_n c_165_175 rfl ?_
        refine n_iload c_165_176 rfl ?_
        refine n_iload_n c_165_178 rfl ?_
        refine n_iload c_165_179 rfl ?_
        refine n_iload c_165_181 rfl ?_
        refine n_iload_n c_165_183 rfl ?_
        refine n_iload c_165_184 rfl ?_
        refine n_v6V c_165_186 rfl sc_112.n rfl rfl rfl rfl (mjoined4_2 (a := x5) (x := x6) (y := x8) (w := t) (s := z6) hS11 (by omega) (by omega) (by omega) (by omega) (by omega)) ?_
        intro  M13 hP14
        obtain hS13 := hP14
        refine n_iinc (L2 := [some (2, 112), some (0, n), some (0, 4), some (0, t), some (0, x4), some (0, x5), some (0, x6), some (0, x7), some (0, (x8 + 1)), some (0, z6)]) c_165_189 rfl rfl rfl ?_
        refine n_goto c_165_192 ?_
        refine n_fg (le_s (le_s (le_s (le_s (le_s (le_s (le_s (le_s (le_s (le_n le_0)))))))))) ?_
        exact ih.2.2.1 _ _ _ _ _ M13 hS13 (by omega) (by omega) (by omega) (by omega) (by omega) (by omega)
    · intro x4 x5 x6 M hS k4 k5 k6 hm
      refine n_iinc (L2 := [some (2, 112), some (0, n), some (0, 4), some (0, t), some (0, x4), some (0, x5), some (0, (x6 + 1)), none, none, none]) c_165_195 rfl rfl rfl ?_
      refine n_goto c_165_198 ?_
      refine n_fg (le_s (le_s (le_s (le_s (le_s (le_s (le_s (le_n (le_n (le_n le_0)))))))))) ?_
      exact ih.2.1 _ _ _ M hS (by omega) (by omega) (by omega) (by omega)
    · intro x4 x5 M hS k4 k5 hm
      refine n_iinc (L2 := [some (2, 112), some (0, n), some (0, 4), some (0, t), some (0, x4), some (0, (x5 + 1)), none, none, none, none]) c_165_201 rfl rfl rfl ?_
      refine n_goto c_165_204 ?_
      refine n_fg (le_s (le_s (le_s (le_s (le_s (le_s (le_n (le_n (le_n (le_n le_0)))))))))) ?_
      exact ih.1 _ _ M hS (by omega) (by omega) (by omega)
set_option maxHeartbeats 4000000 in
theorem mjoins4_2 {xs : List Int32} {e : Nat} {ac : Int} {M0 M : nM} {n t : Int} (hS : Sf 2 ac M0 M) (hn : 1 ≤ n ∧ n ≤ 3) (ht : 0 ≤ t ∧ t ≤ 255) : nW xs (e + 1) 165 0 [some (2, 112), some (0, n), some (0, 4), some (0, t), none, none, none, none, none, none] [] M (nPV fun M1 => Sf 2 ac M0 M1) := by
  have hd : (2 : Int) = 2 ∨ (2 : Int) = 3 := by decide
  have hac := hS.2.2.2.2
  refine n_aload_n c_165_0 rfl ?_
  refine n_iload_n c_165_1 rfl ?_
  refine n_iload_n c_165_2 rfl ?_
  refine n_v2I c_165_3 rfl sc_112.n rfl rfl rfl rfl (msizeOf_2 (n := n) (i := t) hS (by omega) (by omega)) ?_
  intro z1 M2 hP3
  obtain ⟨eM, f3⟩ := hP3
  subst eM
  refine n_istore (L2 := [some (2, 112), some (0, n), some (0, 4), some (0, t), some (0, z1), none, none, none, none, none]) c_165_6 rfl rfl ?_
  refine n_iconst c_165_8 ?_
  refine n_istore (L2 := [some (2, 112), some (0, n), some (0, 4), some (0, t), some (0, z1), some (0, 0), none, none, none, none]) c_165_9 rfl rfl ?_
  refine n_fg (le_s (le_s (le_s (le_s (le_s (le_s (le_n (le_n (le_n (le_n le_0)))))))))) ?_
  exact (mjoins4_2_c hS hn ht 1341650).1 _ _ M hS (by omega) (by omega) (by omega)

set_option maxHeartbeats 4000000 in
theorem mjoins8_2_c {xs : List Int32} {e : Nat} {ac : Int} {M0 M : nM} {n t : Int} (hS : Sf 2 ac M0 M) (hn : 1 ≤ n ∧ n ≤ 3) (ht : 0 ≤ t ∧ t ≤ 255) : ∀ m : Nat, (∀ (x4 x5 : Int) (M : nM), Sf 2 ac M0 M → (0 ≤ x4 ∧ x4 ≤ 1000000) → (0 ≤ x5 ∧ x5 ≤ 8) → (8 - x5) * 67082 + 67082 < (m : Int) → nW xs (e + 1) 165 11 [some (2, 112), some (0, n), some (0, 8), some (0, t), some (0, x4), some (0, x5), none, none, none, none] [] M (nPV fun M1 => Sf 2 ac M0 M1)) ∧ (∀ (x4 x5 x6 : Int) (M : nM), Sf 2 ac M0 M → (0 ≤ x4 ∧ x4 ≤ 1000000) → (0 ≤ x5 ∧ x5 ≤ 7) → (0 ≤ x6 ∧ x6 ≤ 256) → (8 - x5) * 67082 + (256 - x6) * 260 + 261 < (m : Int) → nW xs (e + 1) 165 56 [some (2, 112), some (0, n), some (0, 8), some (0, t), some (0, x4), some (0, x5), some (0, x6), none, none, none] [] M (nPV fun M1 => Sf 2 ac M0 M1)) ∧ (∀ (x4 x5 x6 x7 x8 : Int) (M : nM), Sf 2 ac M0 M → (0 ≤ x4 ∧ x4 ≤ 1000000) → (0 ≤ x5 ∧ x5 ≤ 7) → (0 ≤ x6 ∧ x6 ≤ 255) → (1 ≤ x7 ∧ x7 ≤ 1000000) → (0 ≤ x8 ∧ x8 ≤ 256) → (8 - x5) * 67082 + (256 - x6) * 260 + (256 - x8) * 1 + 3 < (m : Int) → nW xs (e + 1) 165 124 [some (2, 112), some (0, n), some (0, 8), some (0, t), some (0, x4), some (0, x5), some (0, x6), some (0, x7), some (0, x8), none] [] M (nPV fun M1 => Sf 2 ac M0 M1)) ∧ (∀ (x4 x5 x6 : Int) (M : nM), Sf 2 ac M0 M → (0 ≤ x4 ∧ x4 ≤ 1000000) → (0 ≤ x5 ∧ x5 ≤ 7) → (0 ≤ x6 ∧ x6 ≤ 255) → (8 - x5) * 67082 + (256 - x6) * 260 + 2 < (m : Int) → nW xs (e + 1) 165 195 [some (2, 112), some (0, n), some (0, 8), some (0, t), some (0, x4), some (0, x5), some (0, x6), none, none, none] [] M (nPV fun M1 => Sf 2 ac M0 M1)) ∧ (∀ (x4 x5 : Int) (M : nM), Sf 2 ac M0 M → (0 ≤ x4 ∧ x4 ≤ 1000000) → (0 ≤ x5 ∧ x5 ≤ 7) → (8 - x5) * 67082 + 1 < (m : Int) → nW xs (e + 1) 165 201 [some (2, 112), some (0, n), some (0, 8), some (0, t), some (0, x4), some (0, x5), none, none, none, none] [] M (nPV fun M1 => Sf 2 ac M0 M1)) := by
  have hd : (2 : Int) = 2 ∨ (2 : Int) = 3 := by decide
  have hac := hS.2.2.2.2
  intro m
  induction m with
  | zero => refine ⟨?_, ?_, ?_, ?_, ?_⟩ <;> (intros; omega)
  | succ m ih =>
    refine ⟨?_, ?_, ?_, ?_, ?_⟩
    · intro x4 x5 M hS k4 k5 hm
      refine n_iload c_165_11 rfl ?_
      refine n_aload_n c_165_13 rfl ?_
      refine n_getV (bi := 4) c_165_14 sc_112.n rfl rfl rfl (t_112_4 hS) ?_
      intro z1 ez1 f2
      refine n_if2_ge c_165_17 (by omega) (by omega) ?_ ?_
      · intro h3
        exact n_rV c_165_207 rfl hS
      · intro h4
        refine n_aload_n c_165_20 rfl ?_
        refine n_getR c_165_21 sc_112.n rfl rfl rfl r_112_5 ?_
        refine n_iload c_165_24 rfl ?_
        refine n_ialoadV c_165_26 sc_116.n rfl rfl rfl (by omega) (t_116 hS (by omega)) ?_
        intro z5 ez5 f6
        refine n_iconst c_165_27 ?_
        refine n_if2_ne c_165_28 (by omega) (by omega) ?_ ?_
        · intro h7
          refine n_iconst c_165_53 ?_
          refine n_istore (L2 := [some (2, 112), some (0, n), some (0, 8), some (0, t), some (0, x4), some (0, x5), some (0, 0), none, none, none]) c_165_54 rfl rfl ?_
          refine n_fg (le_s (le_s (le_s (le_s (le_s (le_s (le_s (le_n (le_n (le_n le_0)))))))))) ?_
          exact ih.2.1 _ _ _ M hS (by omega) (by omega) (by omega) (by omega)
        · intro h8
          refine n_aload_n c_165_31 rfl ?_
          refine n_iload c_165_32 rfl ?_
          refine n_iload_n c_165_34 rfl ?_
          refine n_iload_n c_165_35 rfl ?_
          refine n_iconst c_165_36 ?_
          refine n_iconst c_165_37 ?_
          refine n_ldc (n := 1000000) c_165_38 rfl ?_
          refine n_iload c_165_40 rfl ?_
          refine n_iconst c_165_42 ?_
          refine n_iadd c_165_43 rfl ?_
          refine n_s2I c_165_44 rfl rfl rfl rfl (imin_2 (x := 1000000) (y := (x4 + 1)) hS (by omega) (by omega)) ?_
          intro z9 M10 hP11
          obtain ⟨eM, f11, f11p0⟩ := hP11
          subst eM
          refine n_v6V c_165_47 rfl sc_112.n rfl rfl rfl rfl (mjoined8_2 (a := x5) (x := t) (y := 0) (w := 0) (s := z9) hS (by omega) (by omega) (by omega) (by omega) (by omega)) ?_
          intro  M12 hP13
          obtain hS12 := hP13
          refine n_goto c_165_50 ?_
          refine n_fg (le_s (le_s (le_s (le_s (le_s (le_s (le_n (le_n (le_n (le_n le_0)))))))))) ?_
          exact ih.2.2.2.2 _ _ M12 hS12 (by omega) (by omega) (by omega)
    · intro x4 x5 x6 M hS k4 k5 k6 hm
      refine n_iload c_165_56 rfl ?_
      refine n_iload_n c_165_58 rfl ?_
      refine n_if2_gt c_165_59 (by omega) (by omega) ?_ ?_
      · intro h1
        refine n_fg (le_s (le_s (le_s (le_s (le_s (le_s (le_n (le_n (le_n (le_n le_0)))))))))) ?_
        exact ih.2.2.2.2 _ _ M hS (by omega) (by omega) (by omega)
      · intro h2
        refine n_ldc (n := 1000000) c_165_62 rfl ?_
        refine n_iload c_165_64 rfl ?_
        refine n_aload_n c_165_66 rfl ?_
        refine n_iload_n c_165_67 rfl ?_
        refine n_iload c_165_68 rfl ?_
        refine n_v2I c_165_70 rfl sc_112.n rfl rfl rfl rfl (msizeOf_2 (n := n) (i := x6) hS (by omega) (by omega)) ?_
        intro z3 M4 hP5
        obtain ⟨eM, f5⟩ := hP5
        subst eM
        refine n_iadd c_165_73 rfl ?_
        refine n_iconst c_165_74 ?_
        refine n_iadd c_165_75 rfl ?_
        refine n_s2I c_165_76 rfl rfl rfl rfl (imin_2 (x := 1000000) (y := ((x4 + z3) + 1)) hS (by omega) (by omega)) ?_
        intro z6 M7 hP8
        obtain ⟨eM, f8, f8p0⟩ := hP8
        subst eM
        refine n_istore (L2 := [some (2, 112), some (0, n), some (0, 8), some (0, t), some (0, x4), some (0, x5), some (0, x6), some (0, z6), none, none]) c_165_79 rfl rfl ?_
        refine n_aload_n c_165_81 rfl ?_
        refine n_getR c_165_82 sc_112.n rfl rfl rfl r_112_5 ?_
        refine n_iload c_165_85 rfl ?_
        refine n_ialoadV c_165_87 sc_116.n rfl rfl rfl (by omega) (t_116 hS (by omega)) ?_
        intro z9 ez9 f10
        refine n_iconst c_165_88 ?_
        refine n_if2_ne c_165_89 (by omega) (by omega) ?_ ?_
        · intro h11
          refine n_iconst c_165_121 ?_
          refine n_istore (L2 := [some (2, 112), some (0, n), some (0, 8), some (0, t), some (0, x4), some (0, x5), some (0, x6), some (0, z6), some (0, 0), none]) c_165_122 rfl rfl ?_
          refine n_fg (le_s (le_s (le_s (le_s (le_s (le_s (le_s (le_s (le_s (le_n le_0)))))))))) ?_
          exact ih.2.2.1 _ _ _ _ _ M hS (by omega) (by omega) (by omega) (by omega) (by omega) (by omega)
        · intro h12
          refine n_aload_n c_165_92 rfl ?_
          refine n_iload c_165_93 rfl ?_
          refine n_iload_n c_165_95 rfl ?_
          refine n_iload_n c_165_96 rfl ?_
          refine n_iload c_165_97 rfl ?_
          refine n_iconst c_165_99 ?_
          refine n_iload c_165_100 rfl ?_
          refine n_v6V c_165_102 rfl sc_112.n rfl rfl rfl rfl (mjoined8_2 (a := x5) (x := t) (y := x6) (w := 0) (s := z6) hS (by omega) (by omega) (by omega) (by omega) (by omega)) ?_
          intro  M13 hP14
          obtain hS13 := hP14
          refine n_aload_n c_165_105 rfl ?_
          refine n_iload c_165_106 rfl ?_
          refine n_iload_n c_165_108 rfl ?_
          refine n_iload c_165_109 rfl ?_
          refine n_iload_n c_165_111 rfl ?_
          refine n_iconst c_165_112 ?_
          refine n_iload c_165_113 rfl ?_
          refine n_v6V c_165_115 rfl sc_112.n rfl rfl rfl rfl (mjoined8_2 (a := x5) (x := x6) (y := t) (w := 0) (s := z6) hS13 (by omega) (by omega) (by omega) (by omega) (by omega)) ?_
          intro  M15 hP16
          obtain hS15 := hP16
          refine n_goto c_165_118 ?_
          refine n_fg (le_s (le_s (le_s (le_s (le_s (le_s (le_s (le_n (le_n (le_n le_0)))))))))) ?_
          exact ih.2.2.2.1 _ _ _ M15 hS15 (by omega) (by omega) (by omega) (by omega)
    · intro x4 x5 x6 x7 x8 M hS k4 k5 k6 k7 k8 hm
      refine n_iload c_165_124 rfl ?_
      refine n_iload_n c_165_126 rfl ?_
      refine n_if2_gt c_165_127 (by omega) (by omega) ?_ ?_
      · intro h1
        refine n_fg (le_s (le_s (le_s (le_s (le_s (le_s (le_s (le_n (le_n (le_n le_0)))))))))) ?_
        exact ih.2.2.2.1 _ _ _ M hS (by omega) (by omega) (by omega) (by omega)
      · intro h2
        refine n_ldc (n := 1000000) c_165_130 rfl ?_
        refine n_iload c_165_132 rfl ?_
        refine n_aload_n c_165_134 rfl ?_
        refine n_iload_n c_165_135 rfl ?_
        refine n_iload c_165_136 rfl ?_
        refine n_v2I c_165_138 rfl sc_112.n rfl rfl rfl rfl (msizeOf_2 (n := n) (i := x8) hS (by omega) (by omega)) ?_
        intro z3 M4 hP5
        obtain ⟨eM, f5⟩ := hP5
        subst eM
        refine n_iadd c_165_141 rfl ?_
        refine n_s2I c_165_142 rfl rfl rfl rfl (imin_2 (x := 1000000) (y := (x7 + z3)) hS (by omega) (by omega)) ?_
        intro z6 M7 hP8
        obtain ⟨eM, f8, f8p0⟩ := hP8
        subst eM
        refine n_istore (L2 := [some (2, 112), some (0, n), some (0, 8), some (0, t), some (0, x4), some (0, x5), some (0, x6), some (0, x7), some (0, x8), some (0, z6)]) c_165_145 rfl rfl ?_
        refine n_aload_n c_165_147 rfl ?_
        refine n_iload c_165_148 rfl ?_
        refine n_iload_n c_165_150 rfl ?_
        refine n_iload_n c_165_151 rfl ?_
        refine n_iload c_165_152 rfl ?_
        refine n_iload c_165_154 rfl ?_
        refine n_iload c_165_156 rfl ?_
        refine n_v6V c_165_158 rfl sc_112.n rfl rfl rfl rfl (mjoined8_2 (a := x5) (x := t) (y := x6) (w := x8) (s := z6) hS (by omega) (by omega) (by omega) (by omega) (by omega)) ?_
        intro  M9 hP10
        obtain hS9 := hP10
        refine n_aload_n c_165_161 rfl ?_
        refine n_iload c_165_162 rfl ?_
        refine n_iload_n c_165_164 rfl ?_
        refine n_iload c_165_165 rfl ?_
        refine n_iload_n c_165_167 rfl ?_
        refine n_iload c_165_168 rfl ?_
        refine n_iload c_165_170 rfl ?_
        refine n_v6V c_165_172 rfl sc_112.n rfl rfl rfl rfl (mjoined8_2 (a := x5) (x := x6) (y := t) (w := x8) (s := z6) hS9 (by omega) (by omega) (by omega) (by omega) (by omega)) ?_
        intro  M11 hP12
        obtain hS11 := hP12
        refine n_aload_n c_165_175 rfl ?_
        refine n_iload c_165_176 rfl ?_
        refine n_iload_n c_165_178 rfl ?_
        refine n_iload c_165_179 rfl ?_
        refine n_iload c_165_181 rfl ?_
        refine n_iload_n c_165_183 rfl ?_
        refine n_iload c_165_184 rfl ?_
        refine n_v6V c_165_186 rfl sc_112.n rfl rfl rfl rfl (mjoined8_2 (a := x5) (x := x6) (y := x8) (w := t) (s := z6) hS11 (by omega) (by omega) (by omega) (by omega) (by omega)) ?_
        intro  M13 hP14
        obtain hS13 := hP14
        refine n_iinc (L2 := [some (2, 112), some (0, n), some (0, 8), some (0, t), some (0, x4), some (0, x5), some (0, x6), some (0, x7), some (0, (x8 + 1)), some (0, z6)]) c_165_189 rfl rfl rfl ?_
        refine n_goto c_165_192 ?_
        refine n_fg (le_s (le_s (le_s (le_s (le_s (le_s (le_s (le_s (le_s (le_n le_0)))))))))) ?_
        exact ih.2.2.1 _ _ _ _ _ M13 hS13 (by omega) (by omega) (by omega) (by omega) (by omega) (by omega)
    · intro x4 x5 x6 M hS k4 k5 k6 hm
      refine n_iinc (L2 := [some (2, 112), some (0, n), some (0, 8), some (0, t), some (0, x4), some (0, x5), some (0, (x6 + 1)), none, none, none]) c_165_195 rfl rfl rfl ?_
      refine n_goto c_165_198 ?_
      refine n_fg (le_s (le_s (le_s (le_s (le_s (le_s (le_s (le_n (le_n (le_n le_0)))))))))) ?_
      exact ih.2.1 _ _ _ M hS (by omega) (by omega) (by omega) (by omega)
    · intro x4 x5 M hS k4 k5 hm
      refine n_iinc (L2 := [some (2, 112), some (0, n), some (0, 8), some (0, t), some (0, x4), some (0, (x5 + 1)), none, none, none, none]) c_165_201 rfl rfl rfl ?_
      refine n_goto c_165_204 ?_
      refine n_fg (le_s (le_s (le_s (le_s (le_s (le_s (le_n (le_n (le_n (le_n le_0)))))))))) ?_
      exact ih.1 _ _ M hS (by omega) (by omega) (by omega)
set_option maxHeartbeats 4000000 in
theorem mjoins8_2 {xs : List Int32} {e : Nat} {ac : Int} {M0 M : nM} {n t : Int} (hS : Sf 2 ac M0 M) (hn : 1 ≤ n ∧ n ≤ 3) (ht : 0 ≤ t ∧ t ≤ 255) : nW xs (e + 1) 165 0 [some (2, 112), some (0, n), some (0, 8), some (0, t), none, none, none, none, none, none] [] M (nPV fun M1 => Sf 2 ac M0 M1) := by
  have hd : (2 : Int) = 2 ∨ (2 : Int) = 3 := by decide
  have hac := hS.2.2.2.2
  refine n_aload_n c_165_0 rfl ?_
  refine n_iload_n c_165_1 rfl ?_
  refine n_iload_n c_165_2 rfl ?_
  refine n_v2I c_165_3 rfl sc_112.n rfl rfl rfl rfl (msizeOf_2 (n := n) (i := t) hS (by omega) (by omega)) ?_
  intro z1 M2 hP3
  obtain ⟨eM, f3⟩ := hP3
  subst eM
  refine n_istore (L2 := [some (2, 112), some (0, n), some (0, 8), some (0, t), some (0, z1), none, none, none, none, none]) c_165_6 rfl rfl ?_
  refine n_iconst c_165_8 ?_
  refine n_istore (L2 := [some (2, 112), some (0, n), some (0, 8), some (0, t), some (0, z1), some (0, 0), none, none, none, none]) c_165_9 rfl rfl ?_
  refine n_fg (le_s (le_s (le_s (le_s (le_s (le_s (le_n (le_n (le_n (le_n le_0)))))))))) ?_
  exact (mjoins8_2_c hS hn ht 1341650).1 _ _ M hS (by omega) (by omega) (by omega)
