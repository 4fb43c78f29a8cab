/-! The methods, by program. -/
set_option maxHeartbeats 4000000 in
theorem mordered_3_c {xs : List Int32} {e : Nat} {ac : Int} {M0 M : nM} {n m : Int} (hS : Sf 3 ac M0 M) (hdm : M0 112 0 = 3) (hn : 1 ≤ n ∧ n ≤ 2) (hm : 0 ≤ m ∧ m ≤ 256) : ∀ nn : Nat, (∀ (x3 : Int) (M : nM), Sf 3 ac M0 M → (1 ≤ x3 ∧ x3 ≤ 256) → (256 - x3) * 516 + 516 < (nn : Int) → nW xs (e + 1) 166 2 [some (2, 112), some (0, n), some (0, m), some (0, x3), none, none, none] [] M (nPV fun M1 => Sf 3 ac M0 M1)) ∧ (∀ (x3 x4 x5 x6 : Int) (M : nM), Sf 3 ac M0 M → (2 ≤ m ∧ m ≤ 256) → (1 ≤ x3 ∧ x3 ≤ 255) → (0 ≤ x4 ∧ x4 ≤ 19682) → (0 ≤ x5 ∧ x5 ≤ 1000000) → (0 ≤ x6 ∧ x6 ≤ 255) → (256 - x3) * 516 + (x6 - 0) * 2 + 3 < (nn : Int) → nW xs (e + 1) 166 38 [some (2, 112), some (0, n), some (0, m), some (0, x3), some (0, x4), some (0, x5), some (0, x6)] [] M (nPV fun M1 => Sf 3 ac M0 M1)) ∧ (∀ (x3 x4 x5 x6 : Int) (M : nM), Sf 3 ac M0 M → (2 ≤ m ∧ m ≤ 256) → (1 ≤ x3 ∧ x3 ≤ 255) → (0 ≤ x4 ∧ x4 ≤ 19682) → (0 ≤ x5 ∧ x5 ≤ 1000000) → (1 ≤ x6 ∧ x6 ≤ 255) → (256 - x3) * 516 + (x6 - 0) * 2 + 2 < (nn : Int) → nW xs (e + 1) 166 91 [some (2, 112), some (0, n), some (0, m), some (0, x3), some (0, x4), some (0, x5), some (0, x6)] [] M (nPV fun M1 => Sf 3 ac M0 M1)) ∧ (∀ (x3 x4 x5 x6 : Int) (M : nM), Sf 3 ac M0 M → (2 ≤ m ∧ m ≤ 256) → (1 ≤ x3 ∧ x3 ≤ 255) → (0 ≤ x4 ∧ x4 ≤ 19682) → (0 ≤ x5 ∧ x5 ≤ 1000000) → (0 ≤ x6 ∧ x6 ≤ 255) → (256 - x3) * 516 + 1 < (nn : Int) → nW xs (e + 1) 166 153 [some (2, 112), some (0, n), some (0, m), some (0, x3), some (0, x4), some (0, x5), some (0, x6)] [] M (nPV fun M1 => Sf 3 ac M0 M1)) := by
  have hd : (3 : Int) = 2 ∨ (3 : Int) = 3 := by decide
  have hac := hS.2.2.2.2
  intro nn
  induction nn with
  | zero => refine ⟨?_, ?_, ?_, ?_⟩ <;> (intros; omega)
  | succ nn ih =>
    refine ⟨?_, ?_, ?_, ?_⟩
    · intro x3 M hS k3 hnn
      refine n_iload_n c_166_2 rfl ?_
      refine n_iload_n c_166_3 rfl ?_
      refine n_if2_ge c_166_4 (by omega) (by omega) ?_ ?_
      · intro h1
        exact n_rV c_166_189 rfl hS
      · intro h2
        refine n_aload_n c_166_7 rfl ?_
        refine n_getR c_166_8 sc_112.n rfl rfl rfl r_112_14 ?_
        refine n_sipush c_166_11 rfl ?_
        refine n_iload_n c_166_14 rfl ?_
        refine n_imul c_166_15 rfl ?_
        refine n_iload_n c_166_16 rfl ?_
        refine n_iadd c_166_17 rfl ?_
        refine n_ialoadV c_166_18 sc_122.n rfl rfl rfl (by omega) (t_122 hS (by omega)) ?_
        intro z3 ez3 f4
        refine n_istore (L2 := [some (2, 112), some (0, n), some (0, m), some (0, x3), some (0, z3), none, none]) c_166_19 rfl rfl ?_
        refine n_aload_n c_166_21 rfl ?_
        refine n_getR c_166_22 sc_112.n rfl rfl rfl r_112_15 ?_
        refine n_sipush c_166_25 rfl ?_
        refine n_iload_n c_166_28 rfl ?_
        refine n_imul c_166_29 rfl ?_
        refine n_iload_n c_166_30 rfl ?_
        refine n_iadd c_166_31 rfl ?_
        refine n_ialoadV c_166_32 sc_123.n rfl rfl rfl (by omega) (t_123 hS (by omega)) ?_
        intro z5 ez5 f6
        refine n_istore (L2 := [some (2, 112), some (0, n), some (0, m), some (0, x3), some (0, z3), some (0, z5), none]) c_166_33 rfl rfl ?_
        refine n_iload_n c_166_35 rfl ?_
        refine n_istore (L2 := [some (2, 112), some (0, n), some (0, m), some (0, x3), some (0, z3), some (0, z5), some (0, x3)]) c_166_36 rfl rfl ?_
        refine n_fg (le_s (le_s (le_s (le_s (le_s (le_s (le_s le_0))))))) ?_
        exact ih.2.1 _ _ _ _ M hS (by omega) (by omega) (by omega) (by omega) (by omega) (by omega)
    · intro x3 x4 x5 x6 M hS k2 k3 k4 k5 k6 hnn
      refine n_iload c_166_38 rfl ?_
      refine n_if0_le c_166_40 (by omega) ?_ ?_
      · intro h1
        refine n_fg (le_s (le_s (le_s (le_s (le_s (le_s (le_s le_0))))))) ?_
        exact ih.2.2.2 _ _ _ _ M hS (by omega) (by omega) (by omega) (by omega) (by omega) (by omega)
      · intro h2
        refine n_aload_n c_166_43 rfl ?_
        refine n_iload_n c_166_44 rfl ?_
        refine n_iload c_166_45 rfl ?_
        refine n_iconst c_166_47 ?_
        refine n_isub c_166_48 rfl ?_
        refine n_v2I c_166_49 rfl sc_112.n rfl rfl rfl rfl (msizeOf_3 (n := n) (i := (x6 - 1)) hS hdm (by omega) (by omega)) ?_
        intro z3 M4 hP5
        obtain ⟨eM, f5⟩ := hP5
        subst eM
        refine n_iload c_166_52 rfl ?_
        refine n_if2_gt c_166_54 (by omega) (by omega) ?_ ?_
        · intro h6
          refine n_fg (le_s (le_s (le_s (le_s (le_s (le_s (le_s le_0))))))) ?_
          exact ih.2.2.1 _ _ _ _ M hS (by omega) (by omega) (by omega) (by omega) (by omega) (by omega)
        · intro h7
          refine n_aload_n c_166_57 rfl ?_
          refine n_iload_n c_166_58 rfl ?_
          refine n_iload c_166_59 rfl ?_
          refine n_iconst c_166_61 ?_
          refine n_isub c_166_62 rfl ?_
          refine n_v2I c_166_63 rfl sc_112.n rfl rfl rfl rfl (msizeOf_3 (n := n) (i := (x6 - 1)) hS hdm (by omega) (by omega)) ?_
          intro z8 M9 hP10
          obtain ⟨eM, f10⟩ := hP10
          subst eM
          refine n_iload c_166_66 rfl ?_
          refine n_if2_ne c_166_68 (by omega) (by omega) ?_ ?_
          · intro h11
            refine n_fg (le_s (le_s (le_s (le_s (le_s (le_s (le_s le_0))))))) ?_
            exact ih.2.2.2 _ _ _ _ M hS (by omega) (by omega) (by omega) (by omega) (by omega) (by omega)
          · intro h12
            refine n_aload_n c_166_71 rfl ?_
            refine n_getR c_166_72 sc_112.n rfl rfl rfl r_112_14 ?_
            refine n_sipush c_166_75 rfl ?_
            refine n_iload_n c_166_78 rfl ?_
            refine n_imul c_166_79 rfl ?_
            refine n_iload c_166_80 rfl ?_
            refine n_iadd c_166_82 rfl ?_
            refine n_iconst c_166_83 ?_
            refine n_isub c_166_84 rfl ?_
            refine n_ialoadV c_166_85 sc_122.n rfl rfl rfl (by omega) (t_122 hS (by omega)) ?_
            intro z13 ez13 f14
            refine n_iload c_166_86 rfl ?_
            refine n_if2_le c_166_88 (by omega) (by omega) ?_ ?_
            · intro h15
              refine n_fg (le_s (le_s (le_s (le_s (le_s (le_s (le_s le_0))))))) ?_
              exact ih.2.2.2 _ _ _ _ M hS (by omega) (by omega) (by omega) (by omega) (by omega) (by omega)
            · intro h16
              refine n_fg (le_s (le_s (le_s (le_s (le_s (le_s (le_s le_0))))))) ?_
              exact ih.2.2.1 _ _ _ _ M hS (by omega) (by omega) (by omega) (by omega) (by omega) (by omega)
    · intro x3 x4 x5 x6 M hS k2 k3 k4 k5 k6 hnn
      refine n_aload_n c_166_91 rfl ?_
      refine n_getR c_166_92 sc_112.n rfl rfl rfl r_112_14 ?_
      refine n_sipush c_166_95 rfl ?_
      refine n_iload_n c_166_98 rfl ?_
      refine n_imul c_166_99 rfl ?_
      refine n_iload c_166_100 rfl ?_
      refine n_iadd c_166_102 rfl ?_
      refine n_aload_n c_166_103 rfl ?_
      refine n_getR c_166_104 sc_112.n rfl rfl rfl r_112_14 ?_
      refine n_sipush c_166_107 rfl ?_
      refine n_iload_n c_166_110 rfl ?_
      refine n_imul c_166_111 rfl ?_
      refine n_iload c_166_112 rfl ?_
      refine n_iadd c_166_114 rfl ?_
      refine n_iconst c_166_115 ?_
      refine n_isub c_166_116 rfl ?_
      refine n_ialoadV c_166_117 sc_122.n rfl rfl rfl (by omega) (t_122 hS (by omega)) ?_
      intro z1 ez1 f2
      refine n_iastoreV hS c_166_118 sc_122.n rfl (by omega) (w_122 (by omega) (by omega)) ?_
      intro M3 eM3 hS3
      refine n_aload_n c_166_119 rfl ?_
      refine n_getR c_166_120 sc_112.n rfl rfl rfl r_112_15 ?_
      refine n_sipush c_166_123 rfl ?_
      refine n_iload_n c_166_126 rfl ?_
      refine n_imul c_166_127 rfl ?_
      refine n_iload c_166_128 rfl ?_
      refine n_iadd c_166_130 rfl ?_
      refine n_aload_n c_166_131 rfl ?_
      refine n_getR c_166_132 sc_112.n rfl rfl rfl r_112_15 ?_
      refine n_sipush c_166_135 rfl ?_
      refine n_iload_n c_166_138 rfl ?_
      refine n_imul c_166_139 rfl ?_
      refine n_iload c_166_140 rfl ?_
      refine n_iadd c_166_142 rfl ?_
      refine n_iconst c_166_143 ?_
      refine n_isub c_166_144 rfl ?_
      refine n_ialoadV c_166_145 sc_123.n rfl rfl rfl (by omega) (t_123 hS3 (by omega)) ?_
      intro z4 ez4 f5
      refine n_iastoreV hS3 c_166_146 sc_123.n rfl (by omega) (w_123 (by omega) (by omega)) ?_
      intro M6 eM6 hS6
      refine n_iinc (L2 := [some (2, 112), some (0, n), some (0, m), some (0, x3), some (0, x4), some (0, x5), some (0, (x6 + (-1)))]) c_166_147 rfl rfl rfl ?_
      refine n_goto c_166_150 ?_
      refine n_fg (le_s (le_s (le_s (le_s (le_s (le_s (le_s le_0))))))) ?_
      exact ih.2.1 _ _ _ _ M6 hS6 (by omega) (by omega) (by omega) (by omega) (by omega) (by omega)
    · intro x3 x4 x5 x6 M hS k2 k3 k4 k5 k6 hnn
      refine n_aload_n c_166_153 rfl ?_
      refine n_getR c_166_154 sc_112.n rfl rfl rfl r_112_14 ?_
      refine n_sipush c_166_157 rfl ?_
      refine n_iload_n c_166_160 rfl ?_
      refine n_imul c_166_161 rfl ?_
      refine n_iload c_166_162 rfl ?_
      refine n_iadd c_166_164 rfl ?_
      refine n_iload c_166_165 rfl ?_
      refine n_iastoreV hS c_166_167 sc_122.n rfl (by omega) (w_122 (by omega) (by omega)) ?_
      intro M1 eM1 hS1
      refine n_aload_n c_166_168 rfl ?_
      refine n_getR c_166_169 sc_112.n rfl rfl rfl r_112_15 ?_
      refine n_sipush c_166_172 rfl ?_
      refine n_iload_n c_166_175 rfl ?_
      refine n_imul c_166_176 rfl ?_
      refine n_iload c_166_177 rfl ?_
      refine n_iadd c_166_179 rfl ?_
      refine n_iload c_166_180 rfl ?_
      refine n_iastoreV hS1 c_166_182 sc_123.n rfl (by omega) (w_123 (by omega) (by omega)) ?_
      intro M2 eM2 hS2
      refine n_iinc (L2 := [some (2, 112), some (0, n), some (0, m), some (0, (x3 + 1)), some (0, x4), some (0, x5), some (0, x6)]) c_166_183 rfl rfl rfl ?_
      refine n_goto c_166_186 ?_
      refine n_fg (le_s (le_s (le_s (le_s (le_n (le_n (le_n le_0))))))) ?_
      exact ih.1 _ M2 hS2 (by omega) (by omega)
set_option maxHeartbeats 4000000 in
theorem mordered_3 {xs : List Int32} {e : Nat} {ac : Int} {M0 M : nM} {n m : Int} (hS : Sf 3 ac M0 M) (hdm : M0 112 0 = 3) (hn : 1 ≤ n ∧ n ≤ 2) (hm : 0 ≤ m ∧ m ≤ 256) : nW xs (e + 1) 166 0 [some (2, 112), some (0, n), some (0, m), none, none, none, none] [] M (nPV fun M1 => Sf 3 ac M0 M1) := by
  have hd : (3 : Int) = 2 ∨ (3 : Int) = 3 := by decide
  have hac := hS.2.2.2.2
  refine n_iconst c_166_0 ?_
  refine n_istore_n (L2 := [some (2, 112), some (0, n), some (0, m), some (0, 1), none, none, none]) c_166_1 rfl rfl ?_
  refine n_fg (le_s (le_s (le_s (le_s (le_n (le_n (le_n le_0))))))) ?_
  exact (mordered_3_c hS hdm hn hm 265234).1 _ M hS (by omega) (by omega)

set_option maxHeartbeats 4000000 in
theorem mmakes1_3_c {xs : List Int32} {e : Nat} {ac : Int} {M0 M : nM} (hS : Sf 3 ac M0 M) (hdm : M0 112 0 = 3) : ∀ nn : Nat, (∀ (x2 x3 x4 : Int) (M : nM), Sf 3 ac M0 M → (3 ≤ x2 ∧ x2 ≤ 3) → (27 ≤ x3 ∧ x3 ≤ 27) → (0 ≤ x4 ∧ x4 ≤ 27) → (27 - x4) * 1 + 90817 < (nn : Int) → nW xs (e + 2) 167 29 [some (2, 112), some (0, 1), some (0, x2), some (0, x3), some (0, x4), none, none, none] [] M (nPV fun M1 => Sf 3 ac M0 M1)) ∧ (∀ (x2 x3 x4 : Int) (M : nM), Sf 3 ac M0 M → (3 ≤ x2 ∧ x2 ≤ 3) → (27 ≤ x3 ∧ x3 ≤ 27) → (0 ≤ x4 ∧ x4 ≤ 256) → (256 - x4) * 352 + 352 < (nn : Int) → nW xs (e + 2) 167 113 [some (2, 112), some (0, 1), some (0, x2), some (0, x3), some (0, x4), none, none, none] [] M (nPV fun M1 => Sf 3 ac M0 M1)) ∧ (∀ (x2 x3 x4 x5 x6 : Int) (M : nM), Sf 3 ac M0 M → (3 ≤ x2 ∧ x2 ≤ 3) → (27 ≤ x3 ∧ x3 ≤ 27) → (0 ≤ x4 ∧ x4 ≤ 256) → (-1 ≤ x5 ∧ x5 ≤ 26) → (0 ≤ x6 ∧ x6 ≤ 27) → (x5 = -1 ∨ 1 ≤ M 125 x5) → (256 - x4) * 352 + (27 - x6) * 3 + 267 < (nn : Int) → nW xs (e + 2) 167 119 [some (2, 112), some (0, 1), some (0, x2), some (0, x3), some (0, x4), some (0, x5), some (0, x6), none] [] M (nPV fun M1 => Sf 3 ac M0 M1)) ∧ (∀ (x2 x3 x4 x6 : Int) (M : nM), Sf 3 ac M0 M → (3 ≤ x2 ∧ x2 ≤ 3) → (27 ≤ x3 ∧ x3 ≤ 27) → (0 ≤ x4 ∧ x4 ≤ 256) → (0 ≤ x6 ∧ x6 ≤ 26) → (1 ≤ M 125 x6) → (256 - x4) * 352 + (27 - x6) * 3 + 266 < (nn : Int) → nW xs (e + 2) 167 158 [some (2, 112), some (0, 1), some (0, x2), some (0, x3), some (0, x4), none, some (0, x6), none] [] M (nPV fun M1 => Sf 3 ac M0 M1)) ∧ (∀ (x2 x3 x4 x5 x6 : Int) (M : nM), Sf 3 ac M0 M → (3 ≤ x2 ∧ x2 ≤ 3) → (27 ≤ x3 ∧ x3 ≤ 27) → (0 ≤ x4 ∧ x4 ≤ 256) → (-1 ≤ x5 ∧ x5 ≤ 26) → (0 ≤ x6 ∧ x6 ≤ 26) → (x5 = -1 ∨ 1 ≤ M 125 x5) → (256 - x4) * 352 + (27 - x6) * 3 + 265 < (nn : Int) → nW xs (e + 2) 167 162 [some (2, 112), some (0, 1), some (0, x2), some (0, x3), some (0, x4), some (0, x5), some (0, x6), none] [] M (nPV fun M1 => Sf 3 ac M0 M1)) ∧ (∀ (x2 x3 x4 x6 x7 : Int) (M : nM), Sf 3 ac M0 M → (3 ≤ x2 ∧ x2 ≤ 3) → (27 ≤ x3 ∧ x3 ≤ 27) → (0 ≤ x4 ∧ x4 ≤ 255) → (0 ≤ x6 ∧ x6 ≤ 26) → (0 ≤ x7 ∧ x7 ≤ 3) → (256 - x4) * 352 + (3 - x7) * 1 + 260 < (nn : Int) → nW xs (e + 2) 167 251 [some (2, 112), some (0, 1), some (0, x2), some (0, x3), some (0, x4), none, some (0, x6), some (0, x7)] [] M (nPV fun M1 => Sf 3 ac M0 M1)) ∧ (∀ (x2 x3 x4 : Int) (M : nM), Sf 3 ac M0 M → (3 ≤ x2 ∧ x2 ≤ 3) → (27 ≤ x3 ∧ x3 ≤ 27) → (0 ≤ x4 ∧ x4 ≤ 255) → (256 - x4) * 352 + 259 < (nn : Int) → nW xs (e + 2) 167 308 [some (2, 112), some (0, 1), some (0, x2), some (0, x3), some (0, x4), none, none, none] [] M (nPV fun M1 => Sf 3 ac M0 M1)) ∧ (∀ (x2 x3 x4 x7 : Int) (M : nM), Sf 3 ac M0 M → (3 ≤ x2 ∧ x2 ≤ 3) → (27 ≤ x3 ∧ x3 ≤ 27) → (1 ≤ x4 ∧ x4 ≤ 256) → (0 ≤ x7 ∧ x7 ≤ 256) → (256 - (x4 - 1)) * 352 + (256 - x7) * 1 + 1 < (nn : Int) → nW xs (e + 2) 167 314 [some (2, 112), some (0, 1), some (0, x2), some (0, x3), some (0, x4), none, none, some (0, x7)] [] M (nPV fun M1 => Sf 3 ac M0 M1)) := by
  have hd : (3 : Int) = 2 ∨ (3 : Int) = 3 := by decide
  have hac := hS.2.2.2.2
  intro nn
  induction nn with
  | zero => refine ⟨?_, ?_, ?_, ?_, ?_, ?_, ?_, ?_⟩ <;> (intros; omega)
  | succ nn ih =>
    refine ⟨?_, ?_, ?_, ?_, ?_, ?_, ?_, ?_⟩
    · intro x2 x3 x4 M hS k2 k3 k4 hnn
      refine n_iload c_167_29 rfl ?_
      refine n_iload_n c_167_31 rfl ?_
      refine n_if2_ge c_167_32 (by omega) (by omega) ?_ ?_
      · intro h1
        refine n_iconst c_167_49 ?_
        refine n_istore (L2 := [some (2, 112), some (0, 1), some (0, x2), some (0, x3), some (0, 0), none, none, none]) c_167_50 rfl rfl ?_
        refine n_iload c_167_52 rfl ?_
        refine n_iload_n c_167_54 rfl ?_
        refine n_if2_ge c_167_55 (by omega) (by omega) ?_ ?_
        · intro h2
          exfalso; omega
        · intro h3
          refine n_iconst c_167_58 ?_
          refine n_istore (L2 := [some (2, 112), some (0, 1), some (0, x2), some (0, x3), some (0, 0), some (0, 0), none, none]) c_167_59 rfl rfl ?_
          refine n_iload_n c_167_61 rfl ?_
          refine n_iconst c_167_62 ?_
          refine n_isub c_167_63 rfl ?_
          refine n_istore (L2 := [some (2, 112), some (0, 1), some (0, x2), some (0, x3), some (0, 0), some (0, 0), some (0, (x2 - 1)), none]) c_167_64 rfl rfl ?_
          refine n_iload c_167_66 rfl ?_
          refine n_if0_lt c_167_68 (by omega) ?_ ?_
          · intro h4
            exfalso; omega
          · intro h5
            refine n_iload c_167_71 rfl ?_
            refine n_aload_n c_167_73 rfl ?_
            refine n_getV (bi := 0) c_167_74 sc_112.n rfl rfl rfl (t_dm hS hdm) ?_
            intro z6 ez6 f7
            obtain rfl : z6 = 3 := by omega
            refine n_imul c_167_77 rfl ?_
            refine n_aload_n c_167_78 rfl ?_
            refine n_iload c_167_79 rfl ?_
            refine n_iload_n c_167_81 rfl ?_
            refine n_iload c_167_82 rfl ?_
            refine n_v3I c_167_84 rfl sc_112.n rfl rfl rfl rfl (mdigit_3 (r := (x2 - 1)) (k := 1) (j := 0) hS hdm (by omega) (by omega) (by omega) (by omega)) ?_
            intro z8 M9 hP10
            obtain ⟨eM, f10⟩ := hP10
            subst eM
            refine n_iadd c_167_87 rfl ?_
            refine n_istore (L2 := [some (2, 112), some (0, 1), some (0, x2), some (0, x3), some (0, 0), some (0, ((0 * 3) + z8)), some (0, (x2 - 1)), none]) c_167_88 rfl rfl ?_
            refine n_iinc (L2 := [some (2, 112), some (0, 1), some (0, x2), some (0, x3), some (0, 0), some (0, ((0 * 3) + z8)), some (0, ((x2 - 1) + (-1))), none]) c_167_90 rfl rfl rfl ?_
            refine n_goto c_167_93 ?_
            refine n_iload c_167_66 rfl ?_
            refine n_if0_lt c_167_68 (by omega) ?_ ?_
            · intro h11
              exfalso; omega
            · intro h12
              refine n_iload c_167_71 rfl ?_
              refine n_aload_n c_167_73 rfl ?_
              refine n_getV (bi := 0) c_167_74 sc_112.n rfl rfl rfl (t_dm hS hdm) ?_
              intro z13 ez13 f14
              obtain rfl : z13 = 3 := by omega
              refine n_imul c_167_77 rfl ?_
              refine n_aload_n c_167_78 rfl ?_
              refine n_iload c_167_79 rfl ?_
              refine n_iload_n c_167_81 rfl ?_
              refine n_iload c_167_82 rfl ?_
              refine n_v3I c_167_84 rfl sc_112.n rfl rfl rfl rfl (mdigit_3 (r := ((x2 - 1) + (-1))) (k := 1) (j := 0) hS hdm (by omega) (by omega) (by omega) (by omega)) ?_
              intro z15 M16 hP17
              obtain ⟨eM, f17⟩ := hP17
              subst eM
              refine n_iadd c_167_87 rfl ?_
              refine n_istore (L2 := [some (2, 112), some (0, 1), some (0, x2), some (0, x3), some (0, 0), some (0, ((((0 * 3) + z8) * 3) + z15)), some (0, ((x2 - 1) + (-1))), none]) c_167_88 rfl rfl ?_
              refine n_iinc (L2 := [some (2, 112), some (0, 1), some (0, x2), some (0, x3), some (0, 0), some (0, ((((0 * 3) + z8) * 3) + z15)), some (0, (((x2 - 1) + (-1)) + (-1))), none]) c_167_90 rfl rfl rfl ?_
              refine n_goto c_167_93 ?_
              refine n_iload c_167_66 rfl ?_
              refine n_if0_lt c_167_68 (by omega) ?_ ?_
              · intro h18
                exfalso; omega
              · intro h19
                refine n_iload c_167_71 rfl ?_
                refine n_aload_n c_167_73 rfl ?_
                refine n_getV (bi := 0) c_167_74 sc_112.n rfl rfl rfl (t_dm hS hdm) ?_
                intro z20 ez20 f21
                obtain rfl : z20 = 3 := by omega
                refine n_imul c_167_77 rfl ?_
                refine n_aload_n c_167_78 rfl ?_
                refine n_iload c_167_79 rfl ?_
                refine n_iload_n c_167_81 rfl ?_
                refine n_iload c_167_82 rfl ?_
                refine n_v3I c_167_84 rfl sc_112.n rfl rfl rfl rfl (mdigit_3 (r := (((x2 - 1) + (-1)) + (-1))) (k := 1) (j := 0) hS hdm (by omega) (by omega) (by omega) (by omega)) ?_
                intro z22 M23 hP24
                obtain ⟨eM, f24⟩ := hP24
                subst eM
                refine n_iadd c_167_87 rfl ?_
                refine n_istore (L2 := [some (2, 112), some (0, 1), some (0, x2), some (0, x3), some (0, 0), some (0, ((((((0 * 3) + z8) * 3) + z15) * 3) + z22)), some (0, (((x2 - 1) + (-1)) + (-1))), none]) c_167_88 rfl rfl ?_
                refine n_iinc (L2 := [some (2, 112), some (0, 1), some (0, x2), some (0, x3), some (0, 0), some (0, ((((((0 * 3) + z8) * 3) + z15) * 3) + z22)), some (0, ((((x2 - 1) + (-1)) + (-1)) + (-1))), none]) c_167_90 rfl rfl rfl ?_
                refine n_goto c_167_93 ?_
                refine n_iload c_167_66 rfl ?_
                refine n_if0_lt c_167_68 (by omega) ?_ ?_
                · intro h25
                  refine n_aload_n c_167_96 rfl ?_
                  refine n_getR c_167_97 sc_112.n rfl rfl rfl r_112_17 ?_
                  refine n_iload c_167_100 rfl ?_
                  refine n_iconst c_167_102 ?_
                  refine n_iastoreV hS c_167_103 sc_125.n rfl (by omega) (w_125 (by omega) (by omega)) ?_
                  intro M26 eM26 hS26
                  refine n_iinc (L2 := [some (2, 112), some (0, 1), some (0, x2), some (0, x3), some (0, (0 + 1)), some (0, ((((((0 * 3) + z8) * 3) + z15) * 3) + z22)), some (0, ((((x2 - 1) + (-1)) + (-1)) + (-1))), none]) c_167_104 rfl rfl rfl ?_
                  refine n_goto c_167_107 ?_
                  refine n_iload c_167_52 rfl ?_
                  refine n_iload_n c_167_54 rfl ?_
                  refine n_if2_ge c_167_55 (by omega) (by omega) ?_ ?_
                  · intro h27
                    refine n_iconst c_167_110 ?_
                    refine n_istore (L2 := [some (2, 112), some (0, 1), some (0, x2), some (0, x3), some (0, 0), some (0, ((((((0 * 3) + z8) * 3) + z15) * 3) + z22)), some (0, ((((x2 - 1) + (-1)) + (-1)) + (-1))), none]) c_167_111 rfl rfl ?_
                    refine n_fg (le_s (le_s (le_s (le_s (le_s (le_n (le_n (le_n le_0)))))))) ?_
                    exact ih.2.1 _ _ _ M26 hS26 (by omega) (by omega) (by omega) (by omega)
                  · intro h28
                    exfalso; omega
                · intro h29
                  exfalso; omega
      · intro h30
        refine n_aload_n c_167_35 rfl ?_
        refine n_getR c_167_36 sc_112.n rfl rfl rfl r_112_17 ?_
        refine n_iload c_167_39 rfl ?_
        refine n_iconst c_167_41 ?_
        refine n_iastoreV hS c_167_42 sc_125.n rfl (by omega) (w_125 (by omega) (by omega)) ?_
        intro M31 eM31 hS31
        refine n_iinc (L2 := [some (2, 112), some (0, 1), some (0, x2), some (0, x3), some (0, (x4 + 1)), none, none, none]) c_167_43 rfl rfl rfl ?_
        refine n_goto c_167_46 ?_
        refine n_fg (le_s (le_s (le_s (le_s (le_s (le_n (le_n (le_n le_0)))))))) ?_
        exact ih.1 _ _ _ M31 hS31 (by omega) (by omega) (by omega) (by omega)
    · intro x2 x3 x4 M hS k2 k3 k4 hnn
      refine n_iconst c_167_113 ?_
      refine n_istore (L2 := [some (2, 112), some (0, 1), some (0, x2), some (0, x3), some (0, x4), some (0, (-1)), none, none]) c_167_114 rfl rfl ?_
      refine n_iconst c_167_116 ?_
      refine n_istore (L2 := [some (2, 112), some (0, 1), some (0, x2), some (0, x3), some (0, x4), some (0, (-1)), some (0, 0), none]) c_167_117 rfl rfl ?_
      refine n_fg (le_s (le_s (le_s (le_s (le_s (le_s (le_s (le_n le_0)))))))) ?_
      exact ih.2.2.1 _ _ _ _ _ M hS (by omega) (by omega) (by omega) (by omega) (by omega) (by omega) (by omega)
    · intro x2 x3 x4 x5 x6 M hS k2 k3 k4 k5 k6 v0 hnn
      refine n_iload c_167_119 rfl ?_
      refine n_iload_n c_167_121 rfl ?_
      refine n_if2_ge c_167_122 (by omega) (by omega) ?_ ?_
      · intro h1
        refine n_iload c_167_168 rfl ?_
        refine n_iconst c_167_170 ?_
        refine n_if2_ne c_167_171 (by omega) (by omega) ?_ ?_
        · intro h2
          refine n_iload c_167_190 rfl ?_
          refine n_sipush c_167_192 rfl ?_
          refine n_if2_ne c_167_195 (by omega) (by omega) ?_ ?_
          · intro h3
            refine n_aload_n c_167_207 rfl ?_
            refine n_getR c_167_208 sc_112.n rfl rfl rfl r_112_14 ?_
            refine n_sipush c_167_211 rfl ?_
            refine n_iload_n c_167_214 rfl ?_
            refine n_imul c_167_215 rfl ?_
            refine n_iload c_167_216 rfl ?_
            refine n_iadd c_167_218 rfl ?_
            refine n_iload c_167_219 rfl ?_
            refine n_iastoreV hS c_167_221 sc_122.n rfl (by omega) (w_122 (by omega) (by omega)) ?_
            intro M4 eM4 hS4
            have g4_0 : M4 125 x5 = M 125 x5 := by rw [eM4]; exact nu_a (by omega)
            refine n_aload_n c_167_222 rfl ?_
            refine n_getR c_167_223 sc_112.n rfl rfl rfl r_112_15 ?_
            refine n_sipush c_167_226 rfl ?_
            refine n_iload_n c_167_229 rfl ?_
            refine n_imul c_167_230 rfl ?_
            refine n_iload c_167_231 rfl ?_
            refine n_iadd c_167_233 rfl ?_
            refine n_aload_n c_167_234 rfl ?_
            refine n_getR c_167_235 sc_112.n rfl rfl rfl r_112_17 ?_
            refine n_iload c_167_238 rfl ?_
            refine n_ialoadV c_167_240 sc_125.n rfl rfl rfl (by omega) (t_125 hS4 (by omega)) ?_
            intro z5 ez5 f6
            refine n_iconst c_167_241 ?_
            refine n_isub c_167_242 rfl ?_
            refine n_iastoreV hS4 c_167_243 sc_123.n rfl (by omega) (w_123 (by omega) (by omega)) ?_
            intro M7 eM7 hS7
            have g7_0 : M7 125 x5 = M4 125 x5 := by rw [eM7]; exact nu_a (by omega)
            refine n_iload c_167_244 rfl ?_
            refine n_istore (L2 := [some (2, 112), some (0, 1), some (0, x2), some (0, x3), some (0, x4), some (0, x5), some (0, x5), none]) c_167_246 rfl rfl ?_
            refine n_iconst c_167_248 ?_
            refine n_istore (L2 := [some (2, 112), some (0, 1), some (0, x2), some (0, x3), some (0, x4), some (0, x5), some (0, x5), some (0, 0)]) c_167_249 rfl rfl ?_
            refine n_fg (le_s (le_s (le_s (le_s (le_s (le_n (le_s (le_s le_0)))))))) ?_
            exact ih.2.2.2.2.2.1 _ _ _ _ _ M7 hS7 (by omega) (by omega) (by omega) (by omega) (by omega) (by omega)
          · intro h8
            refine n_aload_n c_167_198 rfl ?_
            refine n_getR c_167_199 sc_112.n rfl rfl rfl r_112_16 ?_
            refine n_iload_n c_167_202 rfl ?_
            refine n_bipush c_167_203 rfl ?_
            refine n_iastoreV hS c_167_205 sc_124.n rfl (by omega) (w_124 (by omega) (by omega)) ?_
            intro M9 eM9 hS9
            have g9_0 : M9 125 x5 = M 125 x5 := by rw [eM9]; exact nu_a (by omega)
            exact n_rV c_167_206 rfl hS9
        · intro h10
          refine n_aload_n c_167_174 rfl ?_
          refine n_getR c_167_175 sc_112.n rfl rfl rfl r_112_16 ?_
          refine n_iload_n c_167_178 rfl ?_
          refine n_iload c_167_179 rfl ?_
          refine n_iastoreV hS c_167_181 sc_124.n rfl (by omega) (w_124 (by omega) (by omega)) ?_
          intro M11 eM11 hS11
          have g11_0 : M11 125 x5 = M 125 x5 := by rw [eM11]; exact nu_a (by omega)
          refine n_aload_n c_167_182 rfl ?_
          refine n_iload_n c_167_183 rfl ?_
          refine n_iload c_167_184 rfl ?_
          refine n_v2V c_167_186 rfl sc_112.n rfl rfl rfl rfl (mordered_3 (n := 1) (m := x4) hS11 hdm (by omega) (by omega)) ?_
          intro  M12 hP13
          have hS12 := hP13
          exact n_rV c_167_189 rfl hS12
      · intro h14
        refine n_aload_n c_167_125 rfl ?_
        refine n_getR c_167_126 sc_112.n rfl rfl rfl r_112_17 ?_
        refine n_iload c_167_129 rfl ?_
        refine n_ialoadV c_167_131 sc_125.n rfl rfl rfl (by omega) (t_125 hS (by omega)) ?_
        intro z15 ez15 f16
        refine n_if0_le c_167_132 (by omega) ?_ ?_
        · intro h17
          refine n_fg (le_s (le_s (le_s (le_s (le_s (le_s (le_s (le_n le_0)))))))) ?_
          exact ih.2.2.2.2.1 _ _ _ _ _ M hS (by omega) (by omega) (by omega) (by omega) (by omega) (by omega) (by omega)
        · intro h18
          refine n_iload c_167_135 rfl ?_
          refine n_iconst c_167_137 ?_
          refine n_if2_eq c_167_138 (by omega) (by omega) ?_ ?_
          · intro h19
            refine n_fg (le_s (le_s (le_s (le_s (le_s (le_n (le_s (le_n le_0)))))))) ?_
            exact ih.2.2.2.1 _ _ _ _ M hS (by omega) (by omega) (by omega) (by omega) (by omega) (by omega)
          · intro h20
            refine n_aload_n c_167_141 rfl ?_
            refine n_getR c_167_142 sc_112.n rfl rfl rfl r_112_17 ?_
            refine n_iload c_167_145 rfl ?_
            refine n_ialoadV c_167_147 sc_125.n rfl rfl rfl (by omega) (t_125 hS (by omega)) ?_
            intro z21 ez21 f22
            refine n_aload_n c_167_148 rfl ?_
            refine n_getR c_167_149 sc_112.n rfl rfl rfl r_112_17 ?_
            refine n_iload c_167_152 rfl ?_
            refine n_ialoadV c_167_154 sc_125.n rfl rfl rfl (by omega) (t_125 hS (by omega)) ?_
            intro z23 ez23 f24
            refine n_if2_ge c_167_155 (by omega) (by omega) ?_ ?_
            · intro h25
              refine n_fg (le_s (le_s (le_s (le_s (le_s (le_s (le_s (le_n le_0)))))))) ?_
              exact ih.2.2.2.2.1 _ _ _ _ _ M hS (by omega) (by omega) (by omega) (by omega) (by omega) (by omega) (by omega)
            · intro h26
              refine n_fg (le_s (le_s (le_s (le_s (le_s (le_n (le_s (le_n le_0)))))))) ?_
              exact ih.2.2.2.1 _ _ _ _ M hS (by omega) (by omega) (by omega) (by omega) (by omega) (by omega)
    · intro x2 x3 x4 x6 M hS k2 k3 k4 k6 v0 hnn
      refine n_iload c_167_158 rfl ?_
      refine n_istore (L2 := [some (2, 112), some (0, 1), some (0, x2), some (0, x3), some (0, x4), some (0, x6), some (0, x6), none]) c_167_160 rfl rfl ?_
      refine n_fg (le_s (le_s (le_s (le_s (le_s (le_s (le_s (le_n le_0)))))))) ?_
      exact ih.2.2.2.2.1 _ _ _ _ _ M hS (by omega) (by omega) (by omega) (by omega) (by omega) (by omega) (by omega)
    · intro x2 x3 x4 x5 x6 M hS k2 k3 k4 k5 k6 v0 hnn
      refine n_iinc (L2 := [some (2, 112), some (0, 1), some (0, x2), some (0, x3), some (0, x4), some (0, x5), some (0, (x6 + 1)), none]) c_167_162 rfl rfl rfl ?_
      refine n_goto c_167_165 ?_
      refine n_fg (le_s (le_s (le_s (le_s (le_s (le_s (le_s (le_n le_0)))))))) ?_
      exact ih.2.2.1 _ _ _ _ _ M hS (by omega) (by omega) (by omega) (by omega) (by omega) (by omega) (by omega)
    · intro x2 x3 x4 x6 x7 M hS k2 k3 k4 k6 k7 hnn
      refine n_iload c_167_251 rfl ?_
      refine n_iload_n c_167_253 rfl ?_
      refine n_if2_ge c_167_254 (by omega) (by omega) ?_ ?_
      · intro h1
        refine n_iload c_167_292 rfl ?_
        refine n_iconst c_167_294 ?_
        refine n_iadd c_167_295 rfl ?_
        refine n_iload_n c_167_296 rfl ?_
        refine n_if2_ge c_167_297 (by omega) (by omega) ?_ ?_
        · intro h2
          refine n_fg (le_s (le_s (le_s (le_s (le_s (le_n (le_n (le_n le_0)))))))) ?_
          exact ih.2.2.2.2.2.2.1 _ _ _ M hS (by omega) (by omega) (by omega) (by omega)
        · intro h3
          refine n_aload_n c_167_300 rfl ?_
          refine n_iload_n c_167_301 rfl ?_
          refine n_iload_n c_167_302 rfl ?_
          refine n_iload c_167_303 rfl ?_
          have hcst : (x2 : Int) = 3 := by omega
          rw [hcst]
          refine n_v3V c_167_305 rfl sc_112.n rfl rfl rfl rfl (mjoins3_3 (n := 1) (t := x4) hS hdm (by omega) (by omega)) ?_
          intro  M4 hP5
          have hS4 := hP5
          refine n_fg (le_s (le_s (le_s (le_s (le_s (le_n (le_n (le_n le_0)))))))) ?_
          exact ih.2.2.2.2.2.2.1 _ _ _ M4 hS4 (by omega) (by omega) (by omega) (by omega)
      · intro h6
        refine n_aload_n c_167_257 rfl ?_
        refine n_getR c_167_258 sc_112.n rfl rfl rfl r_112_18 ?_
        refine n_bipush c_167_261 rfl ?_
        refine n_iload c_167_263 rfl ?_
        refine n_imul c_167_265 rfl ?_
        refine n_iload c_167_266 rfl ?_
        refine n_iadd c_167_268 rfl ?_
        refine n_iload c_167_269 rfl ?_
        refine n_aload_n c_167_271 rfl ?_
        refine n_getV (bi := 0) c_167_272 sc_112.n rfl rfl rfl (t_dm hS hdm) ?_
        intro z7 ez7 f8
        obtain rfl : z7 = 3 := by omega
        refine n_iremV c_167_275 (by omega) (by omega) ?_
        intro z9 _ f10
        refine n_iastoreV hS c_167_276 sc_126.n rfl (by omega) (w_126 (by omega) (by omega)) ?_
        intro M11 eM11 hS11
        refine n_iload c_167_277 rfl ?_
        refine n_aload_n c_167_279 rfl ?_
        refine n_getV (bi := 0) c_167_280 sc_112.n rfl rfl rfl (t_dm hS11 hdm) ?_
        intro z12 ez12 f13
        obtain rfl : z12 = 3 := by omega
        refine n_idivV c_167_283 (by omega) (by omega) ?_
        intro z14 _ f15
        refine n_istore (L2 := [some (2, 112), some (0, 1), some (0, x2), some (0, x3), some (0, x4), none, some (0, z14), some (0, x7)]) c_167_284 rfl rfl ?_
        refine n_iinc (L2 := [some (2, 112), some (0, 1), some (0, x2), some (0, x3), some (0, x4), none, some (0, z14), some (0, (x7 + 1))]) c_167_286 rfl rfl rfl ?_
        refine n_goto c_167_289 ?_
        refine n_fg (le_s (le_s (le_s (le_s (le_s (le_n (le_s (le_s le_0)))))))) ?_
        exact ih.2.2.2.2.2.1 _ _ _ _ _ M11 hS11 (by omega) (by omega) (by omega) (by omega) (by omega) (by omega)
    · intro x2 x3 x4 M hS k2 k3 k4 hnn
      refine n_iinc (L2 := [some (2, 112), some (0, 1), some (0, x2), some (0, x3), some (0, (x4 + 1)), none, none, none]) c_167_308 rfl rfl rfl ?_
      refine n_iconst c_167_311 ?_
      refine n_istore (L2 := [some (2, 112), some (0, 1), some (0, x2), some (0, x3), some (0, (x4 + 1)), none, none, some (0, 0)]) c_167_312 rfl rfl ?_
      refine n_fg (le_s (le_s (le_s (le_s (le_s (le_n (le_n (le_s le_0)))))))) ?_
      exact ih.2.2.2.2.2.2.2 _ _ _ _ M hS (by omega) (by omega) (by omega) (by omega) (by omega)
    · intro x2 x3 x4 x7 M hS k2 k3 k4 k7 hnn
      refine n_iload c_167_314 rfl ?_
      refine n_iload c_167_316 rfl ?_
      refine n_if2_ge c_167_318 (by omega) (by omega) ?_ ?_
      · intro h1
        refine n_goto c_167_346 ?_
        refine n_fg (le_s (le_s (le_s (le_s (le_s (le_n (le_n (le_n le_0)))))))) ?_
        exact ih.2.1 _ _ _ M hS (by omega) (by omega) (by omega) (by omega)
      · intro h2
        refine n_aload_n c_167_321 rfl ?_
        refine n_getR c_167_322 sc_112.n rfl rfl rfl r_112_17 ?_
        refine n_aload_n c_167_325 rfl ?_
        refine n_getR c_167_326 sc_112.n rfl rfl rfl r_112_14 ?_
        refine n_sipush c_167_329 rfl ?_
        refine n_iload_n c_167_332 rfl ?_
        refine n_imul c_167_333 rfl ?_
        refine n_iload c_167_334 rfl ?_
        refine n_iadd c_167_336 rfl ?_
        refine n_ialoadV c_167_337 sc_122.n rfl rfl rfl (by omega) (t_122 hS (by omega)) ?_
        intro z3 ez3 f4
        refine n_iconst c_167_338 ?_
        refine n_iastoreV hS c_167_339 sc_125.n rfl (by omega) (w_125 (by omega) (by omega)) ?_
        intro M5 eM5 hS5
        refine n_iinc (L2 := [some (2, 112), some (0, 1), some (0, x2), some (0, x3), some (0, x4), none, none, some (0, (x7 + 1))]) c_167_340 rfl rfl rfl ?_
        refine n_goto c_167_343 ?_
        refine n_fg (le_s (le_s (le_s (le_s (le_s (le_n (le_n (le_s le_0)))))))) ?_
        exact ih.2.2.2.2.2.2.2 _ _ _ _ M5 hS5 (by omega) (by omega) (by omega) (by omega) (by omega)
set_option maxHeartbeats 4000000 in
theorem mmakes1_3 {xs : List Int32} {e : Nat} {ac : Int} {M0 M : nM} (hS : Sf 3 ac M0 M) (hdm : M0 112 0 = 3) : nW xs (e + 2) 167 0 [some (2, 112), some (0, 1), none, none, none, none, none, none] [] M (nPV fun M1 => Sf 3 ac M0 M1) := by
  have hd : (3 : Int) = 2 ∨ (3 : Int) = 3 := by decide
  have hac := hS.2.2.2.2
  refine n_aload_n c_167_0 rfl ?_
  refine n_getR c_167_1 sc_112.n rfl rfl rfl r_112_16 ?_
  refine n_iload_n c_167_4 rfl ?_
  refine n_ialoadV c_167_5 sc_124.n rfl rfl rfl (by omega) (t_124 hS (by omega)) ?_
  intro z1 ez1 f2
  refine n_iconst c_167_6 ?_
  refine n_if2_eq c_167_7 (by omega) (by omega) ?_ ?_
  · intro h3
    refine n_aload_n c_167_11 rfl ?_
    refine n_iload_n c_167_12 rfl ?_
    refine n_v1I c_167_13 rfl sc_112.n rfl rfl rfl rfl (mrowsOf1_3  hS hdm) ?_
    intro z4 M5 hP6
    obtain ⟨eM, f6⟩ := hP6
    subst eM
    obtain rfl : z4 = 3 := by omega
    refine n_istore_n (L2 := [some (2, 112), some (0, 1), some (0, 3), none, none, none, none, none]) c_167_16 rfl rfl ?_
    refine n_aload_n c_167_17 rfl ?_
    refine n_getV (bi := 0) c_167_18 sc_112.n rfl rfl rfl (t_dm hS hdm) ?_
    intro z7 ez7 f8
    obtain rfl : z7 = 3 := by omega
    refine n_iload_n c_167_21 rfl ?_
    refine n_s2I c_167_22 rfl rfl rfl rfl (mpower3_3  hS ) ?_
    intro z9 M10 hP11
    obtain ⟨eM, f11⟩ := hP11
    subst eM
    obtain rfl : z9 = 27 := by omega
    refine n_istore_n (L2 := [some (2, 112), some (0, 1), some (0, 3), some (0, 27), none, none, none, none]) c_167_25 rfl rfl ?_
    refine n_iconst c_167_26 ?_
    refine n_istore (L2 := [some (2, 112), some (0, 1), some (0, 3), some (0, 27), some (0, 0), none, none, none]) c_167_27 rfl rfl ?_
    refine n_fg (le_s (le_s (le_s (le_s (le_s (le_n (le_n (le_n le_0)))))))) ?_
    exact (mmakes1_3_c hS hdm 181700).1 _ _ _ M hS (by omega) (by omega) (by omega) (by omega)
  · intro h12
    exact n_rV c_167_10 rfl hS

set_option maxHeartbeats 4000000 in
theorem mmakes2_3_c {xs : List Int32} {e : Nat} {ac : Int} {M0 M : nM} (hS : Sf 3 ac M0 M) (hdm : M0 112 0 = 3) : ∀ nn : Nat, (∀ (x2 x3 x4 : Int) (M : nM), Sf 3 ac M0 M → (9 ≤ x2 ∧ x2 ≤ 9) → (19683 ≤ x3 ∧ x3 ≤ 19683) → (0 ≤ x4 ∧ x4 ≤ 19683) → (19683 - x4) * 1 + 15306109 < (nn : Int) → nW xs (e + 2) 167 29 [some (2, 112), some (0, 2), some (0, x2), some (0, x3), some (0, x4), none, none, none] [] M (nPV fun M1 => Sf 3 ac M0 M1)) ∧ (∀ (x2 x3 x4 : Int) (M : nM), Sf 3 ac M0 M → (9 ≤ x2 ∧ x2 ≤ 9) → (19683 ≤ x3 ∧ x3 ≤ 19683) → (0 ≤ x4 ∧ x4 ≤ 256) → (256 - x4) * 59326 + 59326 < (nn : Int) → nW xs (e + 2) 167 113 [some (2, 112), some (0, 2), some (0, x2), some (0, x3), some (0, x4), none, none, none] [] M (nPV fun M1 => Sf 3 ac M0 M1)) ∧ (∀ (x2 x3 x4 x5 x6 : Int) (M : nM), Sf 3 ac M0 M → (9 ≤ x2 ∧ x2 ≤ 9) → (19683 ≤ x3 ∧ x3 ≤ 19683) → (0 ≤ x4 ∧ x4 ≤ 256) → (-1 ≤ x5 ∧ x5 ≤ 19682) → (0 ≤ x6 ∧ x6 ≤ 19683) → (x5 = -1 ∨ 1 ≤ M 125 x5) → (256 - x4) * 59326 + (19683 - x6) * 3 + 273 < (nn : Int) → nW xs (e + 2) 167 119 [some (2, 112), some (0, 2), some (0, x2), some (0, x3), some (0, x4), some (0, x5), some (0, x6), none] [] M (nPV fun M1 => Sf 3 ac M0 M1)) ∧ (∀ (x2 x3 x4 x6 : Int) (M : nM), Sf 3 ac M0 M → (9 ≤ x2 ∧ x2 ≤ 9) → (19683 ≤ x3 ∧ x3 ≤ 19683) → (0 ≤ x4 ∧ x4 ≤ 256) → (0 ≤ x6 ∧ x6 ≤ 19682) → (1 ≤ M 125 x6) → (256 - x4) * 59326 + (19683 - x6) * 3 + 272 < (nn : Int) → nW xs (e + 2) 167 158 [some (2, 112), some (0, 2), some (0, x2), some (0, x3), some (0, x4), none, some (0, x6), none] [] M (nPV fun M1 => Sf 3 ac M0 M1)) ∧ (∀ (x2 x3 x4 x5 x6 : Int) (M : nM), Sf 3 ac M0 M → (9 ≤ x2 ∧ x2 ≤ 9) → (19683 ≤ x3 ∧ x3 ≤ 19683) → (0 ≤ x4 ∧ x4 ≤ 256) → (-1 ≤ x5 ∧ x5 ≤ 19682) → (0 ≤ x6 ∧ x6 ≤ 19682) → (x5 = -1 ∨ 1 ≤ M 125 x5) → (256 - x4) * 59326 + (19683 - x6) * 3 + 271 < (nn : Int) → nW xs (e + 2) 167 162 [some (2, 112), some (0, 2), some (0, x2), some (0, x3), some (0, x4), some (0, x5), some (0, x6), none] [] M (nPV fun M1 => Sf 3 ac M0 M1)) ∧ (∀ (x2 x3 x4 x6 x7 : Int) (M : nM), Sf 3 ac M0 M → (9 ≤ x2 ∧ x2 ≤ 9) → (19683 ≤ x3 ∧ x3 ≤ 19683) → (0 ≤ x4 ∧ x4 ≤ 255) → (0 ≤ x6 ∧ x6 ≤ 19682) → (0 ≤ x7 ∧ x7 ≤ 9) → (256 - x4) * 59326 + (9 - x7) * 1 + 260 < (nn : Int) → nW xs (e + 2) 167 251 [some (2, 112), some (0, 2), some (0, x2), some (0, x3), some (0, x4), none, some (0, x6), some (0, x7)] [] M (nPV fun M1 => Sf 3 ac M0 M1)) ∧ (∀ (x2 x3 x4 : Int) (M : nM), Sf 3 ac M0 M → (9 ≤ x2 ∧ x2 ≤ 9) → (19683 ≤ x3 ∧ x3 ≤ 19683) → (0 ≤ x4 ∧ x4 ≤ 255) → (256 - x4) * 59326 + 259 < (nn : Int) → nW xs (e + 2) 167 308 [some (2, 112), some (0, 2), some (0, x2), some (0, x3), some (0, x4), none, none, none] [] M (nPV fun M1 => Sf 3 ac M0 M1)) ∧ (∀ (x2 x3 x4 x7 : Int) (M : nM), Sf 3 ac M0 M → (9 ≤ x2 ∧ x2 ≤ 9) → (19683 ≤ x3 ∧ x3 ≤ 19683) → (1 ≤ x4 ∧ x4 ≤ 256) → (0 ≤ x7 ∧ x7 ≤ 256) → (256 - (x4 - 1)) * 59326 + (256 - x7) * 1 + 1 < (nn : Int) → nW xs (e + 2) 167 314 [some (2, 112), some (0, 2), some (0, x2), some (0, x3), some (0, x4), none, none, some (0, x7)] [] M (nPV fun M1 => Sf 3 ac M0 M1)) := by
  have hd : (3 : Int) = 2 ∨ (3 : Int) = 3 := by decide
  have hac := hS.2.2.2.2
  intro nn
  induction nn with
  | zero => refine ⟨?_, ?_, ?_, ?_, ?_, ?_, ?_, ?_⟩ <;> (intros; omega)
  | succ nn ih =>
    refine ⟨?_, ?_, ?_, ?_, ?_, ?_, ?_, ?_⟩
    · intro x2 x3 x4 M hS k2 k3 k4 hnn
      refine n_iload c_167_29 rfl ?_
      refine n_iload_n c_167_31 rfl ?_
      refine n_if2_ge c_167_32 (by omega) (by omega) ?_ ?_
      · intro h1
        refine n_iconst c_167_49 ?_
        refine n_istore (L2 := [some (2, 112), some (0, 2), some (0, x2), some (0, x3), some (0, 0), none, none, none]) c_167_50 rfl rfl ?_
        refine n_iload c_167_52 rfl ?_
        refine n_iload_n c_167_54 rfl ?_
        refine n_if2_ge c_167_55 (by omega) (by omega) ?_ ?_
        · intro h2
          exfalso; omega
        · intro h3
          refine n_iconst c_167_58 ?_
          refine n_istore (L2 := [some (2, 112), some (0, 2), some (0, x2), some (0, x3), some (0, 0), some (0, 0), none, none]) c_167_59 rfl rfl ?_
          refine n_iload_n c_167_61 rfl ?_
          refine n_iconst c_167_62 ?_
          refine n_isub c_167_63 rfl ?_
          refine n_istore (L2 := [some (2, 112), some (0, 2), some (0, x2), some (0, x3), some (0, 0), some (0, 0), some (0, (x2 - 1)), none]) c_167_64 rfl rfl ?_
          refine n_iload c_167_66 rfl ?_
          refine n_if0_lt c_167_68 (by omega) ?_ ?_
          · intro h4
            exfalso; omega
          · intro h5
            refine n_iload c_167_71 rfl ?_
            refine n_aload_n c_167_73 rfl ?_
            refine n_getV (bi := 0) c_167_74 sc_112.n rfl rfl rfl (t_dm hS hdm) ?_
            intro z6 ez6 f7
            obtain rfl : z6 = 3 := by omega
            refine n_imul c_167_77 rfl ?_
            refine n_aload_n c_167_78 rfl ?_
            refine n_iload c_167_79 rfl ?_
            refine n_iload_n c_167_81 rfl ?_
            refine n_iload c_167_82 rfl ?_
            refine n_v3I c_167_84 rfl sc_112.n rfl rfl rfl rfl (mdigit_3 (r := (x2 - 1)) (k := 2) (j := 0) hS hdm (by omega) (by omega) (by omega) (by omega)) ?_
            intro z8 M9 hP10
            obtain ⟨eM, f10⟩ := hP10
            subst eM
            refine n_iadd c_167_87 rfl ?_
            refine n_istore (L2 := [some (2, 112), some (0, 2), some (0, x2), some (0, x3), some (0, 0), some (0, ((0 * 3) + z8)), some (0, (x2 - 1)), none]) c_167_88 rfl rfl ?_
            refine n_iinc (L2 := [some (2, 112), some (0, 2), some (0, x2), some (0, x3), some (0, 0), some (0, ((0 * 3) + z8)), some (0, ((x2 - 1) + (-1))), none]) c_167_90 rfl rfl rfl ?_
            refine n_goto c_167_93 ?_
            refine n_iload c_167_66 rfl ?_
            refine n_if0_lt c_167_68 (by omega) ?_ ?_
            · intro h11
              exfalso; omega
            · intro h12
              refine n_iload c_167_71 rfl ?_
              refine n_aload_n c_167_73 rfl ?_
              refine n_getV (bi := 0) c_167_74 sc_112.n rfl rfl rfl (t_dm hS hdm) ?_
              intro z13 ez13 f14
              obtain rfl : z13 = 3 := by omega
              refine n_imul c_167_77 rfl ?_
              refine n_aload_n c_167_78 rfl ?_
              refine n_iload c_167_79 rfl ?_
              refine n_iload_n c_167_81 rfl ?_
              refine n_iload c_167_82 rfl ?_
              refine n_v3I c_167_84 rfl sc_112.n rfl rfl rfl rfl (mdigit_3 (r := ((x2 - 1) + (-1))) (k := 2) (j := 0) hS hdm (by omega) (by omega) (by omega) (by omega)) ?_
              intro z15 M16 hP17
              obtain ⟨eM, f17⟩ := hP17
              subst eM
              refine n_iadd c_167_87 rfl ?_
              refine n_istore (L2 := [some (2, 112), some (0, 2), some (0, x2), some (0, x3), some (0, 0), some (0, ((((0 * 3) + z8) * 3) + z15)), some (0, ((x2 - 1) + (-1))), none]) c_167_88 rfl rfl ?_
              refine n_iinc (L2 := [some (2, 112), some (0, 2), some (0, x2), some (0, x3), some (0, 0), some (0, ((((0 * 3) + z8) * 3) + z15)), some (0, (((x2 - 1) + (-1)) + (-1))), none]) c_167_90 rfl rfl rfl ?_
              refine n_goto c_167_93 ?_
              refine n_iload c_167_66 rfl ?_
              refine n_if0_lt c_167_68 (by omega) ?_ ?_
              · intro h18
                exfalso; omega
              · intro h19
                refine n_iload c_167_71 rfl ?_
                refine n_aload_n c_167_73 rfl ?_
                refine n_getV (bi := 0) c_167_74 sc_112.n rfl rfl rfl (t_dm hS hdm) ?_
                intro z20 ez20 f21
                obtain rfl : z20 = 3 := by omega
                refine n_imul c_167_77 rfl ?_
                refine n_aload_n c_167_78 rfl ?_
                refine n_iload c_167_79 rfl ?_
                refine n_iload_n c_167_81 rfl ?_
                refine n_iload c_167_82 rfl ?_
                refine n_v3I c_167_84 rfl sc_112.n rfl rfl rfl rfl (mdigit_3 (r := (((x2 - 1) + (-1)) + (-1))) (k := 2) (j := 0) hS hdm (by omega) (by omega) (by omega) (by omega)) ?_
                intro z22 M23 hP24
                obtain ⟨eM, f24⟩ := hP24
                subst eM
                refine n_iadd c_167_87 rfl ?_
                refine n_istore (L2 := [some (2, 112), some (0, 2), some (0, x2), some (0, x3), some (0, 0), some (0, ((((((0 * 3) + z8) * 3) + z15) * 3) + z22)), some (0, (((x2 - 1) + (-1)) + (-1))), none]) c_167_88 rfl rfl ?_
                refine n_iinc (L2 := [some (2, 112), some (0, 2), some (0, x2), some (0, x3), some (0, 0), some (0, ((((((0 * 3) + z8) * 3) + z15) * 3) + z22)), some (0, ((((x2 - 1) + (-1)) + (-1)) + (-1))), none]) c_167_90 rfl rfl rfl ?_
                refine n_goto c_167_93 ?_
                refine n_iload c_167_66 rfl ?_
                refine n_if0_lt c_167_68 (by omega) ?_ ?_
                · intro h25
                  exfalso; omega
                · intro h26
                  refine n_iload c_167_71 rfl ?_
                  refine n_aload_n c_167_73 rfl ?_
                  refine n_getV (bi := 0) c_167_74 sc_112.n rfl rfl rfl (t_dm hS hdm) ?_
                  intro z27 ez27 f28
                  obtain rfl : z27 = 3 := by omega
                  refine n_imul c_167_77 rfl ?_
                  refine n_aload_n c_167_78 rfl ?_
                  refine n_iload c_167_79 rfl ?_
                  refine n_iload_n c_167_81 rfl ?_
                  refine n_iload c_167_82 rfl ?_
                  refine n_v3I c_167_84 rfl sc_112.n rfl rfl rfl rfl (mdigit_3 (r := ((((x2 - 1) + (-1)) + (-1)) + (-1))) (k := 2) (j := 0) hS hdm (by omega) (by omega) (by omega) (by omega)) ?_
                  intro z29 M30 hP31
                  obtain ⟨eM, f31⟩ := hP31
                  subst eM
                  refine n_iadd c_167_87 rfl ?_
                  refine n_istore (L2 := [some (2, 112), some (0, 2), some (0, x2), some (0, x3), some (0, 0), some (0, ((((((((0 * 3) + z8) * 3) + z15) * 3) + z22) * 3) + z29)), some (0, ((((x2 - 1) + (-1)) + (-1)) + (-1))), none]) c_167_88 rfl rfl ?_
                  refine n_iinc (L2 := [some (2, 112), some (0, 2), some (0, x2), some (0, x3), some (0, 0), some (0, ((((((((0 * 3) + z8) * 3) + z15) * 3) + z22) * 3) + z29)), some (0, (((((x2 - 1) + (-1)) + (-1)) + (-1)) + (-1))), none]) c_167_90 rfl rfl rfl ?_
                  refine n_goto c_167_93 ?_
                  refine n_iload c_167_66 rfl ?_
                  refine n_if0_lt c_167_68 (by omega) ?_ ?_
                  · intro h32
                    exfalso; omega
                  · intro h33
                    refine n_iload c_167_71 rfl ?_
                    refine n_aload_n c_167_73 rfl ?_
                    refine n_getV (bi := 0) c_167_74 sc_112.n rfl rfl rfl (t_dm hS hdm) ?_
                    intro z34 ez34 f35
                    obtain rfl : z34 = 3 := by omega
                    refine n_imul c_167_77 rfl ?_
                    refine n_aload_n c_167_78 rfl ?_
                    refine n_iload c_167_79 rfl ?_
                    refine n_iload_n c_167_81 rfl ?_
                    refine n_iload c_167_82 rfl ?_
                    refine n_v3I c_167_84 rfl sc_112.n rfl rfl rfl rfl (mdigit_3 (r := (((((x2 - 1) + (-1)) + (-1)) + (-1)) + (-1))) (k := 2) (j := 0) hS hdm (by omega) (by omega) (by omega) (by omega)) ?_
                    intro z36 M37 hP38
                    obtain ⟨eM, f38⟩ := hP38
                    subst eM
                    refine n_iadd c_167_87 rfl ?_
                    refine n_istore (L2 := [some (2, 112), some (0, 2), some (0, x2), some (0, x3), some (0, 0), some (0, ((((((((((0 * 3) + z8) * 3) + z15) * 3) + z22) * 3) + z29) * 3) + z36)), some (0, (((((x2 - 1) + (-1)) + (-1)) + (-1)) + (-1))), none]) c_167_88 rfl rfl ?_
                    refine n_iinc (L2 := [some (2, 112), some (0, 2), some (0, x2), some (0, x3), some (0, 0), some (0, ((((((((((0 * 3) + z8) * 3) + z15) * 3) + z22) * 3) + z29) * 3) + z36)), some (0, ((((((x2 - 1) + (-1)) + (-1)) + (-1)) + (-1)) + (-1))), none]) c_167_90 rfl rfl rfl ?_
                    refine n_goto c_167_93 ?_
                    refine n_iload c_167_66 rfl ?_
                    refine n_if0_lt c_167_68 (by omega) ?_ ?_
                    · intro h39
                      exfalso; omega
                    · intro h40
                      refine n_iload c_167_71 rfl ?_
                      refine n_aload_n c_167_73 rfl ?_
                      refine n_getV (bi := 0) c_167_74 sc_112.n rfl rfl rfl (t_dm hS hdm) ?_
                      intro z41 ez41 f42
                      obtain rfl : z41 = 3 := by omega
                      refine n_imul c_167_77 rfl ?_
                      refine n_aload_n c_167_78 rfl ?_
                      refine n_iload c_167_79 rfl ?_
                      refine n_iload_n c_167_81 rfl ?_
                      refine n_iload c_167_82 rfl ?_
                      refine n_v3I c_167_84 rfl sc_112.n rfl rfl rfl rfl (mdigit_3 (r := ((((((x2 - 1) + (-1)) + (-1)) + (-1)) + (-1)) + (-1))) (k := 2) (j := 0) hS hdm (by omega) (by omega) (by omega) (by omega)) ?_
                      intro z43 M44 hP45
                      obtain ⟨eM, f45⟩ := hP45
                      subst eM
                      refine n_iadd c_167_87 rfl ?_
                      refine n_istore (L2 := [some (2, 112), some (0, 2), some (0, x2), some (0, x3), some (0, 0), some (0, ((((((((((((0 * 3) + z8) * 3) + z15) * 3) + z22) * 3) + z29) * 3) + z36) * 3) + z43)), some (0, ((((((x2 - 1) + (-1)) + (-1)) + (-1)) + (-1)) + (-1))), none]) c_167_88 rfl rfl ?_
                      refine n_iinc (L2 := [some (2, 112), some (0, 2), some (0, x2), some (0, x3), some (0, 0), some (0, ((((((((((((0 * 3) + z8) * 3) + z15) * 3) + z22) * 3) + z29) * 3) + z36) * 3) + z43)), some (0, (((((((x2 - 1) + (-1)) + (-1)) + (-1)) + (-1)) + (-1)) + (-1))), none]) c_167_90 rfl rfl rfl ?_
                      refine n_goto c_167_93 ?_
                      refine n_iload c_167_66 rfl ?_
                      refine n_if0_lt c_167_68 (by omega) ?_ ?_
                      · intro h46
                        exfalso; omega
                      · intro h47
                        refine n_iload c_167_71 rfl ?_
                        refine n_aload_n c_167_73 rfl ?_
                        refine n_getV (bi := 0) c_167_74 sc_112.n rfl rfl rfl (t_dm hS hdm) ?_
                        intro z48 ez48 f49
                        obtain rfl : z48 = 3 := by omega
                        refine n_imul c_167_77 rfl ?_
                        refine n_aload_n c_167_78 rfl ?_
                        refine n_iload c_167_79 rfl ?_
                        refine n_iload_n c_167_81 rfl ?_
                        refine n_iload c_167_82 rfl ?_
                        refine n_v3I c_167_84 rfl sc_112.n rfl rfl rfl rfl (mdigit_3 (r := (((((((x2 - 1) + (-1)) + (-1)) + (-1)) + (-1)) + (-1)) + (-1))) (k := 2) (j := 0) hS hdm (by omega) (by omega) (by omega) (by omega)) ?_
                        intro z50 M51 hP52
                        obtain ⟨eM, f52⟩ := hP52
                        subst eM
                        refine n_iadd c_167_87 rfl ?_
                        refine n_istore (L2 := [some (2, 112), some (0, 2), some (0, x2), some (0, x3), some (0, 0), some (0, ((((((((((((((0 * 3) + z8) * 3) + z15) * 3) + z22) * 3) + z29) * 3) + z36) * 3) + z43) * 3) + z50)), some (0, (((((((x2 - 1) + (-1)) + (-1)) + (-1)) + (-1)) + (-1)) + (-1))), none]) c_167_88 rfl rfl ?_
                        refine n_iinc (L2 := [some (2, 112), some (0, 2), some (0, x2), some (0, x3), some (0, 0), some (0, ((((((((((((((0 * 3) + z8) * 3) + z15) * 3) + z22) * 3) + z29) * 3) + z36) * 3) + z43) * 3) + z50)), some (0, ((((((((x2 - 1) + (-1)) + (-1)) + (-1)) + (-1)) + (-1)) + (-1)) + (-1))), none]) c_167_90 rfl rfl rfl ?_
                        refine n_goto c_167_93 ?_
                        refine n_iload c_167_66 rfl ?_
                        refine n_if0_lt c_167_68 (by omega) ?_ ?_
                        · intro h53
                          exfalso; omega
                        · intro h54
                          refine n_iload c_167_71 rfl ?_
                          refine n_aload_n c_167_73 rfl ?_
                          refine n_getV (bi := 0) c_167_74 sc_112.n rfl rfl rfl (t_dm hS hdm) ?_
                          intro z55 ez55 f56
                          obtain rfl : z55 = 3 := by omega
                          refine n_imul c_167_77 rfl ?_
                          refine n_aload_n c_167_78 rfl ?_
                          refine n_iload c_167_79 rfl ?_
                          refine n_iload_n c_167_81 rfl ?_
                          refine n_iload c_167_82 rfl ?_
                          refine n_v3I c_167_84 rfl sc_112.n rfl rfl rfl rfl (mdigit_3 (r := ((((((((x2 - 1) + (-1)) + (-1)) + (-1)) + (-1)) + (-1)) + (-1)) + (-1))) (k := 2) (j := 0) hS hdm (by omega) (by omega) (by omega) (by omega)) ?_
                          intro z57 M58 hP59
                          obtain ⟨eM, f59⟩ := hP59
                          subst eM
                          refine n_iadd c_167_87 rfl ?_
                          refine n_istore (L2 := [some (2, 112), some (0, 2), some (0, x2), some (0, x3), some (0, 0), some (0, ((((((((((((((((0 * 3) + z8) * 3) + z15) * 3) + z22) * 3) + z29) * 3) + z36) * 3) + z43) * 3) + z50) * 3) + z57)), some (0, ((((((((x2 - 1) + (-1)) + (-1)) + (-1)) + (-1)) + (-1)) + (-1)) + (-1))), none]) c_167_88 rfl rfl ?_
                          refine n_iinc (L2 := [some (2, 112), some (0, 2), some (0, x2), some (0, x3), some (0, 0), some (0, ((((((((((((((((0 * 3) + z8) * 3) + z15) * 3) + z22) * 3) + z29) * 3) + z36) * 3) + z43) * 3) + z50) * 3) + z57)), some (0, (((((((((x2 - 1) + (-1)) + (-1)) + (-1)) + (-1)) + (-1)) + (-1)) + (-1)) + (-1))), none]) c_167_90 rfl rfl rfl ?_
                          refine n_goto c_167_93 ?_
                          refine n_iload c_167_66 rfl ?_
                          refine n_if0_lt c_167_68 (by omega) ?_ ?_
                          · intro h60
                            exfalso; omega
                          · intro h61
                            refine n_iload c_167_71 rfl ?_
                            refine n_aload_n c_167_73 rfl ?_
                            refine n_getV (bi := 0) c_167_74 sc_112.n rfl rfl rfl (t_dm hS hdm) ?_
                            intro z62 ez62 f63
                            obtain rfl : z62 = 3 := by omega
                            refine n_imul c_167_77 rfl ?_
                            refine n_aload_n c_167_78 rfl ?_
                            refine n_iload c_167_79 rfl ?_
                            refine n_iload_n c_167_81 rfl ?_
                            refine n_iload c_167_82 rfl ?_
                            refine n_v3I c_167_84 rfl sc_112.n rfl rfl rfl rfl (mdigit_3 (r := (((((((((x2 - 1) + (-1)) + (-1)) + (-1)) + (-1)) + (-1)) + (-1)) + (-1)) + (-1))) (k := 2) (j := 0) hS hdm (by omega) (by omega) (by omega) (by omega)) ?_
                            intro z64 M65 hP66
                            obtain ⟨eM, f66⟩ := hP66
                            subst eM
                            refine n_iadd c_167_87 rfl ?_
                            refine n_istore (L2 := [some (2, 112), some (0, 2), some (0, x2), some (0, x3), some (0, 0), some (0, ((((((((((((((((((0 * 3) + z8) * 3) + z15) * 3) + z22) * 3) + z29) * 3) + z36) * 3) + z43) * 3) + z50) * 3) + z57) * 3) + z64)), some (0, (((((((((x2 - 1) + (-1)) + (-1)) + (-1)) + (-1)) + (-1)) + (-1)) + (-1)) + (-1))), none]) c_167_88 rfl rfl ?_
                            refine n_iinc (L2 := [some (2, 112), some (0, 2), some (0, x2), some (0, x3), some (0, 0), some (0, ((((((((((((((((((0 * 3) + z8) * 3) + z15) * 3) + z22) * 3) + z29) * 3) + z36) * 3) + z43) * 3) + z50) * 3) + z57) * 3) + z64)), some (0, ((((((((((x2 - 1) + (-1)) + (-1)) + (-1)) + (-1)) + (-1)) + (-1)) + (-1)) + (-1)) + (-1))), none]) c_167_90 rfl rfl rfl ?_
                            refine n_goto c_167_93 ?_
                            refine n_iload c_167_66 rfl ?_
                            refine n_if0_lt c_167_68 (by omega) ?_ ?_
                            · intro h67
                              refine n_aload_n c_167_96 rfl ?_
                              refine n_getR c_167_97 sc_112.n rfl rfl rfl r_112_17 ?_
                              refine n_iload c_167_100 rfl ?_
                              refine n_iconst c_167_102 ?_
                              refine n_iastoreV hS c_167_103 sc_125.n rfl (by omega) (w_125 (by omega) (by omega)) ?_
                              intro M68 eM68 hS68
                              refine n_iinc (L2 := [some (2, 112), some (0, 2), some (0, x2), some (0, x3), some (0, (0 + 1)), some (0, ((((((((((((((((((0 * 3) + z8) * 3) + z15) * 3) + z22) * 3) + z29) * 3) + z36) * 3) + z43) * 3) + z50) * 3) + z57) * 3) + z64)), some (0, ((((((((((x2 - 1) + (-1)) + (-1)) + (-1)) + (-1)) + (-1)) + (-1)) + (-1)) + (-1)) + (-1))), none]) c_167_104 rfl rfl rfl ?_
                              refine n_goto c_167_107 ?_
                              refine n_iload c_167_52 rfl ?_
                              refine n_iload_n c_167_54 rfl ?_
                              refine n_if2_ge c_167_55 (by omega) (by omega) ?_ ?_
                              · intro h69
                                exfalso; omega
                              · intro h70
                                refine n_iconst c_167_58 ?_
                                refine n_istore (L2 := [some (2, 112), some (0, 2), some (0, x2), some (0, x3), some (0, (0 + 1)), some (0, 0), some (0, ((((((((((x2 - 1) + (-1)) + (-1)) + (-1)) + (-1)) + (-1)) + (-1)) + (-1)) + (-1)) + (-1))), none]) c_167_59 rfl rfl ?_
                                refine n_iload_n c_167_61 rfl ?_
                                refine n_iconst c_167_62 ?_
                                refine n_isub c_167_63 rfl ?_
                                refine n_istore (L2 := [some (2, 112), some (0, 2), some (0, x2), some (0, x3), some (0, (0 + 1)), some (0, 0), some (0, (x2 - 1)), none]) c_167_64 rfl rfl ?_
                                refine n_iload c_167_66 rfl ?_
                                refine n_if0_lt c_167_68 (by omega) ?_ ?_
                                · intro h71
                                  exfalso; omega
                                · intro h72
                                  refine n_iload c_167_71 rfl ?_
                                  refine n_aload_n c_167_73 rfl ?_
                                  refine n_getV (bi := 0) c_167_74 sc_112.n rfl rfl rfl (t_dm hS68 hdm) ?_
                                  intro z73 ez73 f74
                                  obtain rfl : z73 = 3 := by omega
                                  refine n_imul c_167_77 rfl ?_
                                  refine n_aload_n c_167_78 rfl ?_
                                  refine n_iload c_167_79 rfl ?_
                                  refine n_iload_n c_167_81 rfl ?_
                                  refine n_iload c_167_82 rfl ?_
                                  refine n_v3I c_167_84 rfl sc_112.n rfl rfl rfl rfl (mdigit_3 (r := (x2 - 1)) (k := 2) (j := (0 + 1)) hS68 hdm (by omega) (by omega) (by omega) (by omega)) ?_
                                  intro z75 M76 hP77
                                  obtain ⟨eM, f77⟩ := hP77
                                  subst eM
                                  refine n_iadd c_167_87 rfl ?_
                                  refine n_istore (L2 := [some (2, 112), some (0, 2), some (0, x2), some (0, x3), some (0, (0 + 1)), some (0, ((0 * 3) + z75)), some (0, (x2 - 1)), none]) c_167_88 rfl rfl ?_
                                  refine n_iinc (L2 := [some (2, 112), some (0, 2), some (0, x2), some (0, x3), some (0, (0 + 1)), some (0, ((0 * 3) + z75)), some (0, ((x2 - 1) + (-1))), none]) c_167_90 rfl rfl rfl ?_
                                  refine n_goto c_167_93 ?_
                                  refine n_iload c_167_66 rfl ?_
                                  refine n_if0_lt c_167_68 (by omega) ?_ ?_
                                  · intro h78
                                    exfalso; omega
                                  · intro h79
                                    refine n_iload c_167_71 rfl ?_
                                    refine n_aload_n c_167_73 rfl ?_
                                    refine n_getV (bi := 0) c_167_74 sc_112.n rfl rfl rfl (t_dm hS68 hdm) ?_
                                    intro z80 ez80 f81
                                    obtain rfl : z80 = 3 := by omega
                                    refine n_imul c_167_77 rfl ?_
                                    refine n_aload_n c_167_78 rfl ?_
                                    refine n_iload c_167_79 rfl ?_
                                    refine n_iload_n c_167_81 rfl ?_
                                    refine n_iload c_167_82 rfl ?_
                                    refine n_v3I c_167_84 rfl sc_112.n rfl rfl rfl rfl (mdigit_3 (r := ((x2 - 1) + (-1))) (k := 2) (j := (0 + 1)) hS68 hdm (by omega) (by omega) (by omega) (by omega)) ?_
                                    intro z82 M83 hP84
                                    obtain ⟨eM, f84⟩ := hP84
                                    subst eM
                                    refine n_iadd c_167_87 rfl ?_
                                    refine n_istore (L2 := [some (2, 112), some (0, 2), some (0, x2), some (0, x3), some (0, (0 + 1)), some (0, ((((0 * 3) + z75) * 3) + z82)), some (0, ((x2 - 1) + (-1))), none]) c_167_88 rfl rfl ?_
                                    refine n_iinc (L2 := [some (2, 112), some (0, 2), some (0, x2), some (0, x3), some (0, (0 + 1)), some (0, ((((0 * 3) + z75) * 3) + z82)), some (0, (((x2 - 1) + (-1)) + (-1))), none]) c_167_90 rfl rfl rfl ?_
                                    refine n_goto c_167_93 ?_
                                    refine n_iload c_167_66 rfl ?_
                                    refine n_if0_lt c_167_68 (by omega) ?_ ?_
                                    · intro h85
                                      exfalso; omega
                                    · intro h86
                                      refine n_iload c_167_71 rfl ?_
                                      refine n_aload_n c_167_73 rfl ?_
                                      refine n_getV (bi := 0) c_167_74 sc_112.n rfl rfl rfl (t_dm hS68 hdm) ?_
                                      intro z87 ez87 f88
                                      obtain rfl : z87 = 3 := by omega
                                      refine n_imul c_167_77 rfl ?_
                                      refine n_aload_n c_167_78 rfl ?_
                                      refine n_iload c_167_79 rfl ?_
                                      refine n_iload_n c_167_81 rfl ?_
                                      refine n_iload c_167_82 rfl ?_
                                      refine n_v3I c_167_84 rfl sc_112.n rfl rfl rfl rfl (mdigit_3 (r := (((x2 - 1) + (-1)) + (-1))) (k := 2) (j := (0 + 1)) hS68 hdm (by omega) (by omega) (by omega) (by omega)) ?_
                                      intro z89 M90 hP91
                                      obtain ⟨eM, f91⟩ := hP91
                                      subst eM
                                      refine n_iadd c_167_87 rfl ?_
                                      refine n_istore (L2 := [some (2, 112), some (0, 2), some (0, x2), some (0, x3), some (0, (0 + 1)), some (0, ((((((0 * 3) + z75) * 3) + z82) * 3) + z89)), some (0, (((x2 - 1) + (-1)) + (-1))), none]) c_167_88 rfl rfl ?_
                                      refine n_iinc (L2 := [some (2, 112), some (0, 2), some (0, x2), some (0, x3), some (0, (0 + 1)), some (0, ((((((0 * 3) + z75) * 3) + z82) * 3) + z89)), some (0, ((((x2 - 1) + (-1)) + (-1)) + (-1))), none]) c_167_90 rfl rfl rfl ?_
                                      refine n_goto c_167_93 ?_
                                      refine n_iload c_167_66 rfl ?_
                                      refine n_if0_lt c_167_68 (by omega) ?_ ?_
                                      · intro h92
                                        exfalso; omega
                                      · intro h93
                                        refine n_iload c_167_71 rfl ?_
                                        refine n_aload_n c_167_73 rfl ?_
                                        refine n_getV (bi := 0) c_167_74 sc_112.n rfl rfl rfl (t_dm hS68 hdm) ?_
                                        intro z94 ez94 f95
                                        obtain rfl : z94 = 3 := by omega
                                        refine n_imul c_167_77 rfl ?_
                                        refine n_aload_n c_167_78 rfl ?_
                                        refine n_iload c_167_79 rfl ?_
                                        refine n_iload_n c_167_81 rfl ?_
                                        refine n_iload c_167_82 rfl ?_
                                        refine n_v3I c_167_84 rfl sc_112.n rfl rfl rfl rfl (mdigit_3 (r := ((((x2 - 1) + (-1)) + (-1)) + (-1))) (k := 2) (j := (0 + 1)) hS68 hdm (by omega) (by omega) (by omega) (by omega)) ?_
                                        intro z96 M97 hP98
                                        obtain ⟨eM, f98⟩ := hP98
                                        subst eM
                                        refine n_iadd c_167_87 rfl ?_
                                        refine n_istore (L2 := [some (2, 112), some (0, 2), some (0, x2), some (0, x3), some (0, (0 + 1)), some (0, ((((((((0 * 3) + z75) * 3) + z82) * 3) + z89) * 3) + z96)), some (0, ((((x2 - 1) + (-1)) + (-1)) + (-1))), none]) c_167_88 rfl rfl ?_
                                        refine n_iinc (L2 := [some (2, 112), some (0, 2), some (0, x2), some (0, x3), some (0, (0 + 1)), some (0, ((((((((0 * 3) + z75) * 3) + z82) * 3) + z89) * 3) + z96)), some (0, (((((x2 - 1) + (-1)) + (-1)) + (-1)) + (-1))), none]) c_167_90 rfl rfl rfl ?_
                                        refine n_goto c_167_93 ?_
                                        refine n_iload c_167_66 rfl ?_
                                        refine n_if0_lt c_167_68 (by omega) ?_ ?_
                                        · intro h99
                                          exfalso; omega
                                        · intro h100
                                          refine n_iload c_167_71 rfl ?_
                                          refine n_aload_n c_167_73 rfl ?_
                                          refine n_getV (bi := 0) c_167_74 sc_112.n rfl rfl rfl (t_dm hS68 hdm) ?_
                                          intro z101 ez101 f102
                                          obtain rfl : z101 = 3 := by omega
                                          refine n_imul c_167_77 rfl ?_
                                          refine n_aload_n c_167_78 rfl ?_
                                          refine n_iload c_167_79 rfl ?_
                                          refine n_iload_n c_167_81 rfl ?_
                                          refine n_iload c_167_82 rfl ?_
                                          refine n_v3I c_167_84 rfl sc_112.n rfl rfl rfl rfl (mdigit_3 (r := (((((x2 - 1) + (-1)) + (-1)) + (-1)) + (-1))) (k := 2) (j := (0 + 1)) hS68 hdm (by omega) (by omega) (by omega) (by omega)) ?_
                                          intro z103 M104 hP105
                                          obtain ⟨eM, f105⟩ := hP105
                                          subst eM
                                          refine n_iadd c_167_87 rfl ?_
                                          refine n_istore (L2 := [some (2, 112), some (0, 2), some (0, x2), some (0, x3), some (0, (0 + 1)), some (0, ((((((((((0 * 3) + z75) * 3) + z82) * 3) + z89) * 3) + z96) * 3) + z103)), some (0, (((((x2 - 1) + (-1)) + (-1)) + (-1)) + (-1))), none]) c_167_88 rfl rfl ?_
                                          refine n_iinc (L2 := [some (2, 112), some (0, 2), some (0, x2), some (0, x3), some (0, (0 + 1)), some (0, ((((((((((0 * 3) + z75) * 3) + z82) * 3) + z89) * 3) + z96) * 3) + z103)), some (0, ((((((x2 - 1) + (-1)) + (-1)) + (-1)) + (-1)) + (-1))), none]) c_167_90 rfl rfl rfl ?_
                                          refine n_goto c_167_93 ?_
                                          refine n_iload c_167_66 rfl ?_
                                          refine n_if0_lt c_167_68 (by omega) ?_ ?_
                                          · intro h106
                                            exfalso; omega
                                          · intro h107
                                            refine n_iload c_167_71 rfl ?_
                                            refine n_aload_n c_167_73 rfl ?_
                                            refine n_getV (bi := 0) c_167_74 sc_112.n rfl rfl rfl (t_dm hS68 hdm) ?_
                                            intro z108 ez108 f109
                                            obtain rfl : z108 = 3 := by omega
                                            refine n_imul c_167_77 rfl ?_
                                            refine n_aload_n c_167_78 rfl ?_
                                            refine n_iload c_167_79 rfl ?_
                                            refine n_iload_n c_167_81 rfl ?_
                                            refine n_iload c_167_82 rfl ?_
                                            refine n_v3I c_167_84 rfl sc_112.n rfl rfl rfl rfl (mdigit_3 (r := ((((((x2 - 1) + (-1)) + (-1)) + (-1)) + (-1)) + (-1))) (k := 2) (j := (0 + 1)) hS68 hdm (by omega) (by omega) (by omega) (by omega)) ?_
                                            intro z110 M111 hP112
                                            obtain ⟨eM, f112⟩ := hP112
                                            subst eM
                                            refine n_iadd c_167_87 rfl ?_
                                            refine n_istore (L2 := [some (2, 112), some (0, 2), some (0, x2), some (0, x3), some (0, (0 + 1)), some (0, ((((((((((((0 * 3) + z75) * 3) + z82) * 3) + z89) * 3) + z96) * 3) + z103) * 3) + z110)), some (0, ((((((x2 - 1) + (-1)) + (-1)) + (-1)) + (-1)) + (-1))), none]) c_167_88 rfl rfl ?_
                                            refine n_iinc (L2 := [some (2, 112), some (0, 2), some (0, x2), some (0, x3), some (0, (0 + 1)), some (0, ((((((((((((0 * 3) + z75) * 3) + z82) * 3) + z89) * 3) + z96) * 3) + z103) * 3) + z110)), some (0, (((((((x2 - 1) + (-1)) + (-1)) + (-1)) + (-1)) + (-1)) + (-1))), none]) c_167_90 rfl rfl rfl ?_
                                            refine n_goto c_167_93 ?_
                                            refine n_iload c_167_66 rfl ?_
                                            refine n_if0_lt c_167_68 (by omega) ?_ ?_
                                            · intro h113
                                              exfalso; omega
                                            · intro h114
                                              refine n_iload c_167_71 rfl ?_
                                              refine n_aload_n c_167_73 rfl ?_
                                              refine n_getV (bi := 0) c_167_74 sc_112.n rfl rfl rfl (t_dm hS68 hdm) ?_
                                              intro z115 ez115 f116
                                              obtain rfl : z115 = 3 := by omega
                                              refine n_imul c_167_77 rfl ?_
                                              refine n_aload_n c_167_78 rfl ?_
                                              refine n_iload c_167_79 rfl ?_
                                              refine n_iload_n c_167_81 rfl ?_
                                              refine n_iload c_167_82 rfl ?_
                                              refine n_v3I c_167_84 rfl sc_112.n rfl rfl rfl rfl (mdigit_3 (r := (((((((x2 - 1) + (-1)) + (-1)) + (-1)) + (-1)) + (-1)) + (-1))) (k := 2) (j := (0 + 1)) hS68 hdm (by omega) (by omega) (by omega) (by omega)) ?_
                                              intro z117 M118 hP119
                                              obtain ⟨eM, f119⟩ := hP119
                                              subst eM
                                              refine n_iadd c_167_87 rfl ?_
                                              refine n_istore (L2 := [some (2, 112), some (0, 2), some (0, x2), some (0, x3), some (0, (0 + 1)), some (0, ((((((((((((((0 * 3) + z75) * 3) + z82) * 3) + z89) * 3) + z96) * 3) + z103) * 3) + z110) * 3) + z117)), some (0, (((((((x2 - 1) + (-1)) + (-1)) + (-1)) + (-1)) + (-1)) + (-1))), none]) c_167_88 rfl rfl ?_
                                              refine n_iinc (L2 := [some (2, 112), some (0, 2), some (0, x2), some (0, x3), some (0, (0 + 1)), some (0, ((((((((((((((0 * 3) + z75) * 3) + z82) * 3) + z89) * 3) + z96) * 3) + z103) * 3) + z110) * 3) + z117)), some (0, ((((((((x2 - 1) + (-1)) + (-1)) + (-1)) + (-1)) + (-1)) + (-1)) + (-1))), none]) c_167_90 rfl rfl rfl ?_
                                              refine n_goto c_167_93 ?_
                                              refine n_iload c_167_66 rfl ?_
                                              refine n_if0_lt c_167_68 (by omega) ?_ ?_
                                              · intro h120
                                                exfalso; omega
                                              · intro h121
                                                refine n_iload c_167_71 rfl ?_
                                                refine n_aload_n c_167_73 rfl ?_
                                                refine n_getV (bi := 0) c_167_74 sc_112.n rfl rfl rfl (t_dm hS68 hdm) ?_
                                                intro z122 ez122 f123
                                                obtain rfl : z122 = 3 := by omega
                                                refine n_imul c_167_77 rfl ?_
                                                refine n_aload_n c_167_78 rfl ?_
                                                refine n_iload c_167_79 rfl ?_
                                                refine n_iload_n c_167_81 rfl ?_
                                                refine n_iload c_167_82 rfl ?_
                                                refine n_v3I c_167_84 rfl sc_112.n rfl rfl rfl rfl (mdigit_3 (r := ((((((((x2 - 1) + (-1)) + (-1)) + (-1)) + (-1)) + (-1)) + (-1)) + (-1))) (k := 2) (j := (0 + 1)) hS68 hdm (by omega) (by omega) (by omega) (by omega)) ?_
                                                intro z124 M125 hP126
                                                obtain ⟨eM, f126⟩ := hP126
                                                subst eM
                                                refine n_iadd c_167_87 rfl ?_
                                                refine n_istore (L2 := [some (2, 112), some (0, 2), some (0, x2), some (0, x3), some (0, (0 + 1)), some (0, ((((((((((((((((0 * 3) + z75) * 3) + z82) * 3) + z89) * 3) + z96) * 3) + z103) * 3) + z110) * 3) + z117) * 3) + z124)), some (0, ((((((((x2 - 1) + (-1)) + (-1)) + (-1)) + (-1)) + (-1)) + (-1)) + (-1))), none]) c_167_88 rfl rfl ?_
                                                refine n_iinc (L2 := [some (2, 112), some (0, 2), some (0, x2), some (0, x3), some (0, (0 + 1)), some (0, ((((((((((((((((0 * 3) + z75) * 3) + z82) * 3) + z89) * 3) + z96) * 3) + z103) * 3) + z110) * 3) + z117) * 3) + z124)), some (0, (((((((((x2 - 1) + (-1)) + (-1)) + (-1)) + (-1)) + (-1)) + (-1)) + (-1)) + (-1))), none]) c_167_90 rfl rfl rfl ?_
                                                refine n_goto c_167_93 ?_
                                                refine n_iload c_167_66 rfl ?_
                                                refine n_if0_lt c_167_68 (by omega) ?_ ?_
                                                · intro h127
                                                  exfalso; omega
                                                · intro h128
                                                  refine n_iload c_167_71 rfl ?_
                                                  refine n_aload_n c_167_73 rfl ?_
                                                  refine n_getV (bi := 0) c_167_74 sc_112.n rfl rfl rfl (t_dm hS68 hdm) ?_
                                                  intro z129 ez129 f130
                                                  obtain rfl : z129 = 3 := by omega
                                                  refine n_imul c_167_77 rfl ?_
                                                  refine n_aload_n c_167_78 rfl ?_
                                                  refine n_iload c_167_79 rfl ?_
                                                  refine n_iload_n c_167_81 rfl ?_
                                                  refine n_iload c_167_82 rfl ?_
                                                  refine n_v3I c_167_84 rfl sc_112.n rfl rfl rfl rfl (mdigit_3 (r := (((((((((x2 - 1) + (-1)) + (-1)) + (-1)) + (-1)) + (-1)) + (-1)) + (-1)) + (-1))) (k := 2) (j := (0 + 1)) hS68 hdm (by omega) (by omega) (by omega) (by omega)) ?_
                                                  intro z131 M132 hP133
                                                  obtain ⟨eM, f133⟩ := hP133
                                                  subst eM
                                                  refine n_iadd c_167_87 rfl ?_
                                                  refine n_istore (L2 := [some (2, 112), some (0, 2), some (0, x2), some (0, x3), some (0, (0 + 1)), some (0, ((((((((((((((((((0 * 3) + z75) * 3) + z82) * 3) + z89) * 3) + z96) * 3) + z103) * 3) + z110) * 3) + z117) * 3) + z124) * 3) + z131)), some (0, (((((((((x2 - 1) + (-1)) + (-1)) + (-1)) + (-1)) + (-1)) + (-1)) + (-1)) + (-1))), none]) c_167_88 rfl rfl ?_
                                                  refine n_iinc (L2 := [some (2, 112), some (0, 2), some (0, x2), some (0, x3), some (0, (0 + 1)), some (0, ((((((((((((((((((0 * 3) + z75) * 3) + z82) * 3) + z89) * 3) + z96) * 3) + z103) * 3) + z110) * 3) + z117) * 3) + z124) * 3) + z131)), some (0, ((((((((((x2 - 1) + (-1)) + (-1)) + (-1)) + (-1)) + (-1)) + (-1)) + (-1)) + (-1)) + (-1))), none]) c_167_90 rfl rfl rfl ?_
                                                  refine n_goto c_167_93 ?_
                                                  refine n_iload c_167_66 rfl ?_
                                                  refine n_if0_lt c_167_68 (by omega) ?_ ?_
                                                  · intro h134
                                                    refine n_aload_n c_167_96 rfl ?_
                                                    refine n_getR c_167_97 sc_112.n rfl rfl rfl r_112_17 ?_
                                                    refine n_iload c_167_100 rfl ?_
                                                    refine n_iconst c_167_102 ?_
                                                    refine n_iastoreV hS68 c_167_103 sc_125.n rfl (by omega) (w_125 (by omega) (by omega)) ?_
                                                    intro M135 eM135 hS135
                                                    refine n_iinc (L2 := [some (2, 112), some (0, 2), some (0, x2), some (0, x3), some (0, ((0 + 1) + 1)), some (0, ((((((((((((((((((0 * 3) + z75) * 3) + z82) * 3) + z89) * 3) + z96) * 3) + z103) * 3) + z110) * 3) + z117) * 3) + z124) * 3) + z131)), some (0, ((((((((((x2 - 1) + (-1)) + (-1)) + (-1)) + (-1)) + (-1)) + (-1)) + (-1)) + (-1)) + (-1))), none]) c_167_104 rfl rfl rfl ?_
                                                    refine n_goto c_167_107 ?_
                                                    refine n_iload c_167_52 rfl ?_
                                                    refine n_iload_n c_167_54 rfl ?_
                                                    refine n_if2_ge c_167_55 (by omega) (by omega) ?_ ?_
                                                    · intro h136
                                                      refine n_iconst c_167_110 ?_
                                                      refine n_istore (L2 := [some (2, 112), some (0, 2), some (0, x2), some (0, x3), some (0, 0), some (0, ((((((((((((((((((0 * 3) + z75) * 3) + z82) * 3) + z89) * 3) + z96) * 3) + z103) * 3) + z110) * 3) + z117) * 3) + z124) * 3) + z131)), some (0, ((((((((((x2 - 1) + (-1)) + (-1)) + (-1)) + (-1)) + (-1)) + (-1)) + (-1)) + (-1)) + (-1))), none]) c_167_111 rfl rfl ?_
                                                      refine n_fg (le_s (le_s (le_s (le_s (le_s (le_n (le_n (le_n le_0)))))))) ?_
                                                      exact ih.2.1 _ _ _ M135 hS135 (by omega) (by omega) (by omega) (by omega)
                                                    · intro h137
                                                      exfalso; omega
                                                  · intro h138
                                                    exfalso; omega
                            · intro h139
                              exfalso; omega
      · intro h140
        refine n_aload_n c_167_35 rfl ?_
        refine n_getR c_167_36 sc_112.n rfl rfl rfl r_112_17 ?_
        refine n_iload c_167_39 rfl ?_
        refine n_iconst c_167_41 ?_
        refine n_iastoreV hS c_167_42 sc_125.n rfl (by omega) (w_125 (by omega) (by omega)) ?_
        intro M141 eM141 hS141
        refine n_iinc (L2 := [some (2, 112), some (0, 2), some (0, x2), some (0, x3), some (0, (x4 + 1)), none, none, none]) c_167_43 rfl rfl rfl ?_
        refine n_goto c_167_46 ?_
        refine n_fg (le_s (le_s (le_s (le_s (le_s (le_n (le_n (le_n le_0)))))))) ?_
        exact ih.1 _ _ _ M141 hS141 (by omega) (by omega) (by omega) (by omega)
    · intro x2 x3 x4 M hS k2 k3 k4 hnn
      refine n_iconst c_167_113 ?_
      refine n_istore (L2 := [some (2, 112), some (0, 2), some (0, x2), some (0, x3), some (0, x4), some (0, (-1)), none, none]) c_167_114 rfl rfl ?_
      refine n_iconst c_167_116 ?_
      refine n_istore (L2 := [some (2, 112), some (0, 2), some (0, x2), some (0, x3), some (0, x4), some (0, (-1)), some (0, 0), none]) c_167_117 rfl rfl ?_
      refine n_fg (le_s (le_s (le_s (le_s (le_s (le_s (le_s (le_n le_0)))))))) ?_
      exact ih.2.2.1 _ _ _ _ _ M hS (by omega) (by omega) (by omega) (by omega) (by omega) (by omega) (by omega)
    · intro x2 x3 x4 x5 x6 M hS k2 k3 k4 k5 k6 v0 hnn
      refine n_iload c_167_119 rfl ?_
      refine n_iload_n c_167_121 rfl ?_
      refine n_if2_ge c_167_122 (by omega) (by omega) ?_ ?_
      · intro h1
        refine n_iload c_167_168 rfl ?_
        refine n_iconst c_167_170 ?_
        refine n_if2_ne c_167_171 (by omega) (by omega) ?_ ?_
        · intro h2
          refine n_iload c_167_190 rfl ?_
          refine n_sipush c_167_192 rfl ?_
          refine n_if2_ne c_167_195 (by omega) (by omega) ?_ ?_
          · intro h3
            refine n_aload_n c_167_207 rfl ?_
            refine n_getR c_167_208 sc_112.n rfl rfl rfl r_112_14 ?_
            refine n_sipush c_167_211 rfl ?_
            refine n_iload_n c_167_214 rfl ?_
            refine n_imul c_167_215 rfl ?_
            refine n_iload c_167_216 rfl ?_
            refine n_iadd c_167_218 rfl ?_
            refine n_iload c_167_219 rfl ?_
            refine n_iastoreV hS c_167_221 sc_122.n rfl (by omega) (w_122 (by omega) (by omega)) ?_
            intro M4 eM4 hS4
            have g4_0 : M4 125 x5 = M 125 x5 := by rw [eM4]; exact nu_a (by omega)
            refine n_aload_n c_167_222 rfl ?_
            refine n_getR c_167_223 sc_112.n rfl rfl rfl r_112_15 ?_
            refine n_sipush c_167_226 rfl ?_
            refine n_iload_n c_167_229 rfl ?_
            refine n_imul c_167_230 rfl ?_
            refine n_iload c_167_231 rfl ?_
            refine n_iadd c_167_233 rfl ?_
            refine n_aload_n c_167_234 rfl ?_
            refine n_getR c_167_235 sc_112.n rfl rfl rfl r_112_17 ?_
            refine n_iload c_167_238 rfl ?_
            refine n_ialoadV c_167_240 sc_125.n rfl rfl rfl (by omega) (t_125 hS4 (by omega)) ?_
            intro z5 ez5 f6
            refine n_iconst c_167_241 ?_
            refine n_isub c_167_242 rfl ?_
            refine n_iastoreV hS4 c_167_243 sc_123.n rfl (by omega) (w_123 (by omega) (by omega)) ?_
            intro M7 eM7 hS7
            have g7_0 : M7 125 x5 = M4 125 x5 := by rw [eM7]; exact nu_a (by omega)
            refine n_iload c_167_244 rfl ?_
            refine n_istore (L2 := [some (2, 112), some (0, 2), some (0, x2), some (0, x3), some (0, x4), some (0, x5), some (0, x5), none]) c_167_246 rfl rfl ?_
            refine n_iconst c_167_248 ?_
            refine n_istore (L2 := [some (2, 112), some (0, 2), some (0, x2), some (0, x3), some (0, x4), some (0, x5), some (0, x5), some (0, 0)]) c_167_249 rfl rfl ?_
            refine n_fg (le_s (le_s (le_s (le_s (le_s (le_n (le_s (le_s le_0)))))))) ?_
            exact ih.2.2.2.2.2.1 _ _ _ _ _ M7 hS7 (by omega) (by omega) (by omega) (by omega) (by omega) (by omega)
          · intro h8
            refine n_aload_n c_167_198 rfl ?_
            refine n_getR c_167_199 sc_112.n rfl rfl rfl r_112_16 ?_
            refine n_iload_n c_167_202 rfl ?_
            refine n_bipush c_167_203 rfl ?_
            refine n_iastoreV hS c_167_205 sc_124.n rfl (by omega) (w_124 (by omega) (by omega)) ?_
            intro M9 eM9 hS9
            have g9_0 : M9 125 x5 = M 125 x5 := by rw [eM9]; exact nu_a (by omega)
            exact n_rV c_167_206 rfl hS9
        · intro h10
          refine n_aload_n c_167_174 rfl ?_
          refine n_getR c_167_175 sc_112.n rfl rfl rfl r_112_16 ?_
          refine n_iload_n c_167_178 rfl ?_
          refine n_iload c_167_179 rfl ?_
          refine n_iastoreV hS c_167_181 sc_124.n rfl (by omega) (w_124 (by omega) (by omega)) ?_
          intro M11 eM11 hS11
          have g11_0 : M11 125 x5 = M 125 x5 := by rw [eM11]; exact nu_a (by omega)
          refine n_aload_n c_167_182 rfl ?_
          refine n_iload_n c_167_183 rfl ?_
          refine n_iload c_167_184 rfl ?_
          refine n_v2V c_167_186 rfl sc_112.n rfl rfl rfl rfl (mordered_3 (n := 2) (m := x4) hS11 hdm (by omega) (by omega)) ?_
          intro  M12 hP13
          have hS12 := hP13
          exact n_rV c_167_189 rfl hS12
      · intro h14
        refine n_aload_n c_167_125 rfl ?_
        refine n_getR c_167_126 sc_112.n rfl rfl rfl r_112_17 ?_
        refine n_iload c_167_129 rfl ?_
        refine n_ialoadV c_167_131 sc_125.n rfl rfl rfl (by omega) (t_125 hS (by omega)) ?_
        intro z15 ez15 f16
        refine n_if0_le c_167_132 (by omega) ?_ ?_
        · intro h17
          refine n_fg (le_s (le_s (le_s (le_s (le_s (le_s (le_s (le_n le_0)))))))) ?_
          exact ih.2.2.2.2.1 _ _ _ _ _ M hS (by omega) (by omega) (by omega) (by omega) (by omega) (by omega) (by omega)
        · intro h18
          refine n_iload c_167_135 rfl ?_
          refine n_iconst c_167_137 ?_
          refine n_if2_eq c_167_138 (by omega) (by omega) ?_ ?_
          · intro h19
            refine n_fg (le_s (le_s (le_s (le_s (le_s (le_n (le_s (le_n le_0)))))))) ?_
            exact ih.2.2.2.1 _ _ _ _ M hS (by omega) (by omega) (by omega) (by omega) (by omega) (by omega)
          · intro h20
            refine n_aload_n c_167_141 rfl ?_
            refine n_getR c_167_142 sc_112.n rfl rfl rfl r_112_17 ?_
            refine n_iload c_167_145 rfl ?_
            refine n_ialoadV c_167_147 sc_125.n rfl rfl rfl (by omega) (t_125 hS (by omega)) ?_
            intro z21 ez21 f22
            refine n_aload_n c_167_148 rfl ?_
            refine n_getR c_167_149 sc_112.n rfl rfl rfl r_112_17 ?_
            refine n_iload c_167_152 rfl ?_
            refine n_ialoadV c_167_154 sc_125.n rfl rfl rfl (by omega) (t_125 hS (by omega)) ?_
            intro z23 ez23 f24
            refine n_if2_ge c_167_155 (by omega) (by omega) ?_ ?_
            · intro h25
              refine n_fg (le_s (le_s (le_s (le_s (le_s (le_s (le_s (le_n le_0)))))))) ?_
              exact ih.2.2.2.2.1 _ _ _ _ _ M hS (by omega) (by omega) (by omega) (by omega) (by omega) (by omega) (by omega)
            · intro h26
              refine n_fg (le_s (le_s (le_s (le_s (le_s (le_n (le_s (le_n le_0)))))))) ?_
              exact ih.2.2.2.1 _ _ _ _ M hS (by omega) (by omega) (by omega) (by omega) (by omega) (by omega)
    · intro x2 x3 x4 x6 M hS k2 k3 k4 k6 v0 hnn
      refine n_iload c_167_158 rfl ?_
      refine n_istore (L2 := [some (2, 112), some (0, 2), some (0, x2), some (0, x3), some (0, x4), some (0, x6), some (0, x6), none]) c_167_160 rfl rfl ?_
      refine n_fg (le_s (le_s (le_s (le_s (le_s (le_s (le_s (le_n le_0)))))))) ?_
      exact ih.2.2.2.2.1 _ _ _ _ _ M hS (by omega) (by omega) (by omega) (by omega) (by omega) (by omega) (by omega)
    · intro x2 x3 x4 x5 x6 M hS k2 k3 k4 k5 k6 v0 hnn
      refine n_iinc (L2 := [some (2, 112), some (0, 2), some (0, x2), some (0, x3), some (0, x4), some (0, x5), some (0, (x6 + 1)), none]) c_167_162 rfl rfl rfl ?_
      refine n_goto c_167_165 ?_
      refine n_fg (le_s (le_s (le_s (le_s (le_s (le_s (le_s (le_n le_0)))))))) ?_
      exact ih.2.2.1 _ _ _ _ _ M hS (by omega) (by omega) (by omega) (by omega) (by omega) (by omega) (by omega)
    · intro x2 x3 x4 x6 x7 M hS k2 k3 k4 k6 k7 hnn
      refine n_iload c_167_251 rfl ?_
      refine n_iload_n c_167_253 rfl ?_
      refine n_if2_ge c_167_254 (by omega) (by omega) ?_ ?_
      · intro h1
        refine n_iload c_167_292 rfl ?_
        refine n_iconst c_167_294 ?_
        refine n_iadd c_167_295 rfl ?_
        refine n_iload_n c_167_296 rfl ?_
        refine n_if2_ge c_167_297 (by omega) (by omega) ?_ ?_
        · intro h2
          exfalso; omega
        · intro h3
          refine n_aload_n c_167_300 rfl ?_
          refine n_iload_n c_167_301 rfl ?_
          refine n_iload_n c_167_302 rfl ?_
          refine n_iload c_167_303 rfl ?_
          have hcst : (x2 : Int) = 9 := by omega
          rw [hcst]
          refine n_v3V c_167_305 rfl sc_112.n rfl rfl rfl rfl (mjoins9_3 (n := 2) (t := x4) hS hdm (by omega) (by omega)) ?_
          intro  M4 hP5
          have hS4 := hP5
          refine n_fg (le_s (le_s (le_s (le_s (le_s (le_n (le_n (le_n le_0)))))))) ?_
          exact ih.2.2.2.2.2.2.1 _ _ _ M4 hS4 (by omega) (by omega) (by omega) (by omega)
      · intro h6
        refine n_aload_n c_167_257 rfl ?_
        refine n_getR c_167_258 sc_112.n rfl rfl rfl r_112_18 ?_
        refine n_bipush c_167_261 rfl ?_
        refine n_iload c_167_263 rfl ?_
        refine n_imul c_167_265 rfl ?_
        refine n_iload c_167_266 rfl ?_
        refine n_iadd c_167_268 rfl ?_
        refine n_iload c_167_269 rfl ?_
        refine n_aload_n c_167_271 rfl ?_
        refine n_getV (bi := 0) c_167_272 sc_112.n rfl rfl rfl (t_dm hS hdm) ?_
        intro z7 ez7 f8
        obtain rfl : z7 = 3 := by omega
        refine n_iremV c_167_275 (by omega) (by omega) ?_
        intro z9 _ f10
        refine n_iastoreV hS c_167_276 sc_126.n rfl (by omega) (w_126 (by omega) (by omega)) ?_
        intro M11 eM11 hS11
        refine n_iload c_167_277 rfl ?_
        refine n_aload_n c_167_279 rfl ?_
        refine n_getV (bi := 0) c_167_280 sc_112.n rfl rfl rfl (t_dm hS11 hdm) ?_
        intro z12 ez12 f13
        obtain rfl : z12 = 3 := by omega
        refine n_idivV c_167_283 (by omega) (by omega) ?_
        intro z14 _ f15
        refine n_istore (L2 := [some (2, 112), some (0, 2), some (0, x2), some (0, x3), some (0, x4), none, some (0, z14), some (0, x7)]) c_167_284 rfl rfl ?_
        refine n_iinc (L2 := [some (2, 112), some (0, 2), some (0, x2), some (0, x3), some (0, x4), none, some (0, z14), some (0, (x7 + 1))]) c_167_286 rfl rfl rfl ?_
        refine n_goto c_167_289 ?_
        refine n_fg (le_s (le_s (le_s (le_s (le_s (le_n (le_s (le_s le_0)))))))) ?_
        exact ih.2.2.2.2.2.1 _ _ _ _ _ M11 hS11 (by omega) (by omega) (by omega) (by omega) (by omega) (by omega)
    · intro x2 x3 x4 M hS k2 k3 k4 hnn
      refine n_iinc (L2 := [some (2, 112), some (0, 2), some (0, x2), some (0, x3), some (0, (x4 + 1)), none, none, none]) c_167_308 rfl rfl rfl ?_
      refine n_iconst c_167_311 ?_
      refine n_istore (L2 := [some (2, 112), some (0, 2), some (0, x2), some (0, x3), some (0, (x4 + 1)), none, none, some (0, 0)]) c_167_312 rfl rfl ?_
      refine n_fg (le_s (le_s (le_s (le_s (le_s (le_n (le_n (le_s le_0)))))))) ?_
      exact ih.2.2.2.2.2.2.2 _ _ _ _ M hS (by omega) (by omega) (by omega) (by omega) (by omega)
    · intro x2 x3 x4 x7 M hS k2 k3 k4 k7 hnn
      refine n_iload c_167_314 rfl ?_
      refine n_iload c_167_316 rfl ?_
      refine n_if2_ge c_167_318 (by omega) (by omega) ?_ ?_
      · intro h1
        refine n_goto c_167_346 ?_
        refine n_fg (le_s (le_s (le_s (le_s (le_s (le_n (le_n (le_n le_0)))))))) ?_
        exact ih.2.1 _ _ _ M hS (by omega) (by omega) (by omega) (by omega)
      · intro h2
        refine n_aload_n c_167_321 rfl ?_
        refine n_getR c_167_322 sc_112.n rfl rfl rfl r_112_17 ?_
        refine n_aload_n c_167_325 rfl ?_
        refine n_getR c_167_326 sc_112.n rfl rfl rfl r_112_14 ?_
        refine n_sipush c_167_329 rfl ?_
        refine n_iload_n c_167_332 rfl ?_
        refine n_imul c_167_333 rfl ?_
        refine n_iload c_167_334 rfl ?_
        refine n_iadd c_167_336 rfl ?_
        refine n_ialoadV c_167_337 sc_122.n rfl rfl rfl (by omega) (t_122 hS (by omega)) ?_
        intro z3 ez3 f4
        refine n_iconst c_167_338 ?_
        refine n_iastoreV hS c_167_339 sc_125.n rfl (by omega) (w_125 (by omega) (by omega)) ?_
        intro M5 eM5 hS5
        refine n_iinc (L2 := [some (2, 112), some (0, 2), some (0, x2), some (0, x3), some (0, x4), none, none, some (0, (x7 + 1))]) c_167_340 rfl rfl rfl ?_
        refine n_goto c_167_343 ?_
        refine n_fg (le_s (le_s (le_s (le_s (le_s (le_n (le_n (le_s le_0)))))))) ?_
        exact ih.2.2.2.2.2.2.2 _ _ _ _ M5 hS5 (by omega) (by omega) (by omega) (by omega) (by omega)
set_option maxHeartbeats 4000000 in
theorem mmakes2_3 {xs : List Int32} {e : Nat} {ac : Int} {M0 M : nM} (hS : Sf 3 ac M0 M) (hdm : M0 112 0 = 3) : nW xs (e + 2) 167 0 [some (2, 112), some (0, 2), none, none, none, none, none, none] [] M (nPV fun M1 => Sf 3 ac M0 M1) := by
  have hd : (3 : Int) = 2 ∨ (3 : Int) = 3 := by decide
  have hac := hS.2.2.2.2
  refine n_aload_n c_167_0 rfl ?_
  refine n_getR c_167_1 sc_112.n rfl rfl rfl r_112_16 ?_
  refine n_iload_n c_167_4 rfl ?_
  refine n_ialoadV c_167_5 sc_124.n rfl rfl rfl (by omega) (t_124 hS (by omega)) ?_
  intro z1 ez1 f2
  refine n_iconst c_167_6 ?_
  refine n_if2_eq c_167_7 (by omega) (by omega) ?_ ?_
  · intro h3
    refine n_aload_n c_167_11 rfl ?_
    refine n_iload_n c_167_12 rfl ?_
    refine n_v1I c_167_13 rfl sc_112.n rfl rfl rfl rfl (mrowsOf2_3  hS hdm) ?_
    intro z4 M5 hP6
    obtain ⟨eM, f6⟩ := hP6
    subst eM
    obtain rfl : z4 = 9 := by omega
    refine n_istore_n (L2 := [some (2, 112), some (0, 2), some (0, 9), none, none, none, none, none]) c_167_16 rfl rfl ?_
    refine n_aload_n c_167_17 rfl ?_
    refine n_getV (bi := 0) c_167_18 sc_112.n rfl rfl rfl (t_dm hS hdm) ?_
    intro z7 ez7 f8
    obtain rfl : z7 = 3 := by omega
    refine n_iload_n c_167_21 rfl ?_
    refine n_s2I c_167_22 rfl rfl rfl rfl (mpower9_3  hS ) ?_
    intro z9 M10 hP11
    obtain ⟨eM, f11⟩ := hP11
    subst eM
    obtain rfl : z9 = 19683 := by omega
    refine n_istore_n (L2 := [some (2, 112), some (0, 2), some (0, 9), some (0, 19683), none, none, none, none]) c_167_25 rfl rfl ?_
    refine n_iconst c_167_26 ?_
    refine n_istore (L2 := [some (2, 112), some (0, 2), some (0, 9), some (0, 19683), some (0, 0), none, none, none]) c_167_27 rfl rfl ?_
    refine n_fg (le_s (le_s (le_s (le_s (le_s (le_n (le_n (le_n le_0)))))))) ?_
    exact (mmakes2_3_c hS hdm 30651596).1 _ _ _ M hS (by omega) (by omega) (by omega) (by omega)
  · intro h12
    exact n_rV c_167_10 rfl hS

set_option maxHeartbeats 4000000 in
theorem mmakes_3 {xs : List Int32} {e : Nat} {ac : Int} {M0 M : nM} {n : Int} (hS : Sf 3 ac M0 M) (hdm : M0 112 0 = 3) (hn : 1 ≤ n ∧ n ≤ 2) : nW xs (e + 2) 167 0 [some (2, 112), some (0, n), none, none, none, none, none, none] [] M (nPV fun M1 => Sf 3 ac M0 M1) := by
  rcases (show n = 1 ∨ n = 2 by omega) with rfl | rfl
  · exact n_post (mmakes1_3 hS hdm) (fun w M1 h => h)
  · exact n_post (mmakes2_3 hS hdm) (fun w M1 h => h)

set_option maxHeartbeats 4000000 in
theorem mmade_3 {xs : List Int32} {e : Nat} {ac : Int} {M0 M : nM} {n : Int} (hS : Sf 3 ac M0 M) (hdm : M0 112 0 = 3) (hn : -2147483648 ≤ n ∧ n ≤ 2147483647) : nW xs (e + 3) 168 0 [some (2, 112), some (0, n)] [] M (nPI fun z M1 => Sf 3 ac M0 M1 ∧ (-2147483648 ≤ z ∧ z ≤ 2147483647)) := by
  have hd : (3 : Int) = 2 ∨ (3 : Int) = 3 := by decide
  have hac := hS.2.2.2.2
  refine n_aload_n c_168_0 rfl ?_
  refine n_iload_n c_168_1 rfl ?_
  refine n_v1I c_168_2 rfl sc_112.n rfl rfl rfl rfl (misMaking_3 (n := n) hS hdm (by omega)) ?_
  intro z1 M2 hP3
  obtain ⟨eM, f3, f3p0⟩ := hP3
  subst eM
  refine n_if0_ne c_168_5 (by omega) ?_ ?_
  · intro h4
    refine n_aload_n c_168_10 rfl ?_
    refine n_iload_n c_168_11 rfl ?_
    refine n_v1V c_168_12 rfl sc_112.n rfl rfl rfl rfl (mmakes_3 (n := n) hS hdm (by omega)) ?_
    intro  M5 hP6
    have hS5 := hP6
    refine n_aload_n c_168_15 rfl ?_
    refine n_getR c_168_16 sc_112.n rfl rfl rfl r_112_16 ?_
    refine n_iload_n c_168_19 rfl ?_
    refine n_ialoadV c_168_20 sc_124.n rfl rfl rfl (by omega) (t_124 hS5 (by omega)) ?_
    intro z7 ez7 f8
    exact n_rI c_168_21 rfl ⟨hS5, by omega⟩
  · intro h9
    refine n_iconst c_168_8 ?_
    exact n_rI c_168_9 rfl ⟨hS, by omega⟩

set_option maxHeartbeats 4000000 in
theorem mmadeOf_3_c {xs : List Int32} {e : Nat} {ac : Int} {M0 M : nM} {n i w : Int} (hS : Sf 3 ac M0 M) (hdm : M0 112 0 = 3) (hn : -2147483648 ≤ n ∧ n ≤ 2147483647) (hi : -2147483648 ≤ i ∧ i ≤ 2147483647) (hw : -2147483648 ≤ w ∧ w ≤ 2147483647) : ∀ nn : Nat, (∀ (M : nM), Sf 3 ac M0 M → 1 < (nn : Int) → nW xs (e + 3) 169 29 [none, none, none, none] [] M (nPI fun z M1 => Sf 3 ac M0 M1 ∧ (-2147483648 ≤ z ∧ z ≤ 2147483647))) := by
  have hd : (3 : Int) = 2 ∨ (3 : Int) = 3 := by decide
  have hac := hS.2.2.2.2
  intro nn
  induction nn with
  | zero => intros; omega
  | succ nn ih =>
    intro M hS hnn
    refine n_iconst c_169_29 ?_
    exact n_rI c_169_30 rfl ⟨hS, by omega⟩
set_option maxHeartbeats 4000000 in
theorem mmadeOf_3 {xs : List Int32} {e : Nat} {ac : Int} {M0 M : nM} {n i w : Int} (hS : Sf 3 ac M0 M) (hdm : M0 112 0 = 3) (hn : -2147483648 ≤ n ∧ n ≤ 2147483647) (hi : -2147483648 ≤ i ∧ i ≤ 2147483647) (hw : -2147483648 ≤ w ∧ w ≤ 2147483647) : nW xs (e + 3) 169 0 [some (2, 112), some (0, n), some (0, i), some (0, w)] [] M (nPI fun z M1 => Sf 3 ac M0 M1 ∧ (-2147483648 ≤ z ∧ z ≤ 2147483647)) := by
  have hd : (3 : Int) = 2 ∨ (3 : Int) = 3 := by decide
  have hac := hS.2.2.2.2
  refine n_aload_n c_169_0 rfl ?_
  refine n_iload_n c_169_1 rfl ?_
  refine n_v1I c_169_2 rfl sc_112.n rfl rfl rfl rfl (misMaking_3 (n := n) hS hdm (by omega)) ?_
  intro z1 M2 hP3
  obtain ⟨eM, f3, f3p0⟩ := hP3
  subst eM
  refine n_if0_ne c_169_5 (by omega) ?_ ?_
  · intro h4
    refine n_aload_n c_169_10 rfl ?_
    refine n_iload_n c_169_11 rfl ?_
    refine n_v1V c_169_12 rfl sc_112.n rfl rfl rfl rfl (mmakes_3 (n := n) hS hdm (by omega)) ?_
    intro  M5 hP6
    have hS5 := hP6
    refine n_iload_n c_169_15 rfl ?_
    refine n_if0_lt c_169_16 (by omega) ?_ ?_
    · intro h7
      refine n_fg (le_n (le_n (le_n (le_n le_0)))) ?_
      exact (mmadeOf_3_c hS hdm hn hi hw 12)  M5 hS5  (by omega)
    · intro h8
      refine n_iload_n c_169_19 rfl ?_
      refine n_aload_n c_169_20 rfl ?_
      refine n_getR c_169_21 sc_112.n rfl rfl rfl r_112_16 ?_
      refine n_iload_n c_169_24 rfl ?_
      refine n_ialoadV c_169_25 sc_124.n rfl rfl rfl (by omega) (t_124 hS5 (by omega)) ?_
      intro z9 ez9 f10
      refine n_if2_lt c_169_26 (by omega) (by omega) ?_ ?_
      · intro h11
        refine n_iload_n c_169_31 rfl ?_
        refine n_if0_ne c_169_32 (by omega) ?_ ?_
        · intro h12
          refine n_iload_n c_169_50 rfl ?_
          refine n_iconst c_169_51 ?_
          refine n_if2_ne c_169_52 (by omega) (by omega) ?_ ?_
          · intro h13
            refine n_iconst c_169_64 ?_
            exact n_rI c_169_65 rfl ⟨hS5, by omega⟩
          · intro h14
            refine n_aload_n c_169_55 rfl ?_
            refine n_iload_n c_169_56 rfl ?_
            refine n_iload_n c_169_57 rfl ?_
            refine n_v2I c_169_58 rfl sc_112.n rfl rfl rfl rfl (msizeOf_3 (n := n) (i := i) hS5 hdm (by omega) (by omega)) ?_
            intro z15 M16 hP17
            obtain ⟨eM, f17⟩ := hP17
            subst eM
            refine n_goto c_169_61 ?_
            exact n_rI c_169_65 rfl ⟨hS5, by omega⟩
        · intro h18
          refine n_aload_n c_169_35 rfl ?_
          refine n_getR c_169_36 sc_112.n rfl rfl rfl r_112_14 ?_
          refine n_sipush c_169_39 rfl ?_
          refine n_iload_n c_169_42 rfl ?_
          refine n_imul c_169_43 rfl ?_
          refine n_iload_n c_169_44 rfl ?_
          refine n_iadd c_169_45 rfl ?_
          refine n_ialoadV c_169_46 sc_122.n rfl rfl rfl (by omega) (t_122 hS5 (by omega)) ?_
          intro z19 ez19 f20
          refine n_goto c_169_47 ?_
          exact n_rI c_169_65 rfl ⟨hS5, by omega⟩
      · intro h21
        refine n_fg (le_n (le_n (le_n (le_n le_0)))) ?_
        exact (mmadeOf_3_c hS hdm hn hi hw 12)  M5 hS5  (by omega)
  · intro h22
    refine n_iconst c_169_8 ?_
    exact n_rI c_169_9 rfl ⟨hS, by omega⟩

set_option maxHeartbeats 4000000 in
theorem msize_3_c {xs : List Int32} {e : Nat} {ac : Int} {M0 M : nM} {n c : Int} (hS : Sf 3 ac M0 M) (hdm : M0 112 0 = 3) (hn : -2147483648 ≤ n ∧ n ≤ 2147483647) (hc : -2147483648 ≤ c ∧ c ≤ 2147483647) : ∀ nn : Nat, (∀ (M : nM), Sf 3 ac M0 M → 259 < (nn : Int) → nW xs (e + 3) 170 28 [none, none, none, none] [] M (nPI fun z M1 => Sf 3 ac M0 M1 ∧ (-2147483648 ≤ z ∧ z ≤ 2147483647))) ∧ (∀ (x3 : Int) (M : nM), Sf 3 ac M0 M → (1 ≤ n ∧ n ≤ 2) → (0 ≤ c ∧ c ≤ 19682) → (0 ≤ x3 ∧ x3 ≤ 256) → (256 - x3) * 1 + 1 < (nn : Int) → nW xs (e + 3) 170 51 [some (2, 112), some (0, n), some (0, c), some (0, x3)] [] M (nPI fun z M1 => Sf 3 ac M0 M1 ∧ (-2147483648 ≤ z ∧ z ≤ 2147483647))) := by
  have hd : (3 : Int) = 2 ∨ (3 : Int) = 3 := by decide
  have hac := hS.2.2.2.2
  intro nn
  induction nn with
  | zero => refine ⟨?_, ?_⟩ <;> (intros; omega)
  | succ nn ih =>
    refine ⟨?_, ?_⟩
    · intro M hS hnn
      refine n_iconst c_170_28 ?_
      exact n_rI c_170_29 rfl ⟨hS, by omega⟩
    · intro x3 M hS k1 k2 k3 hnn
      refine n_iload_n c_170_51 rfl ?_
      refine n_aload_n c_170_52 rfl ?_
      refine n_getR c_170_53 sc_112.n rfl rfl rfl r_112_16 ?_
      refine n_iload_n c_170_56 rfl ?_
      refine n_ialoadV c_170_57 sc_124.n rfl rfl rfl (by omega) (t_124 hS (by omega)) ?_
      intro z1 ez1 f2
      refine n_if2_ge c_170_58 (by omega) (by omega) ?_ ?_
      · intro h3
        refine n_bipush c_170_90 rfl ?_
        exact n_rI c_170_92 rfl ⟨hS, by omega⟩
      · intro h4
        refine n_aload_n c_170_61 rfl ?_
        refine n_getR c_170_62 sc_112.n rfl rfl rfl r_112_14 ?_
        refine n_sipush c_170_65 rfl ?_
        refine n_iload_n c_170_68 rfl ?_
        refine n_imul c_170_69 rfl ?_
        refine n_iload_n c_170_70 rfl ?_
        refine n_iadd c_170_71 rfl ?_
        refine n_ialoadV c_170_72 sc_122.n rfl rfl rfl (by omega) (t_122 hS (by omega)) ?_
        intro z5 ez5 f6
        refine n_iload_n c_170_73 rfl ?_
        refine n_if2_ne c_170_74 (by omega) (by omega) ?_ ?_
        · intro h7
          refine n_iinc (L2 := [some (2, 112), some (0, n), some (0, c), some (0, (x3 + 1))]) c_170_84 rfl rfl rfl ?_
          refine n_goto c_170_87 ?_
          refine n_fg (le_s (le_s (le_s (le_s le_0)))) ?_
          exact ih.2 _ M hS (by omega) (by omega) (by omega) (by omega)
        · intro h8
          refine n_aload_n c_170_77 rfl ?_
          refine n_iload_n c_170_78 rfl ?_
          refine n_iload_n c_170_79 rfl ?_
          refine n_v2I c_170_80 rfl sc_112.n rfl rfl rfl rfl (msizeOf_3 (n := n) (i := x3) hS hdm (by omega) (by omega)) ?_
          intro z9 M10 hP11
          obtain ⟨eM, f11⟩ := hP11
          subst eM
          exact n_rI c_170_83 rfl ⟨hS, by omega⟩
set_option maxHeartbeats 4000000 in
theorem msize_3 {xs : List Int32} {e : Nat} {ac : Int} {M0 M : nM} {n c : Int} (hS : Sf 3 ac M0 M) (hdm : M0 112 0 = 3) (hn : -2147483648 ≤ n ∧ n ≤ 2147483647) (hc : -2147483648 ≤ c ∧ c ≤ 2147483647) : nW xs (e + 3) 170 0 [some (2, 112), some (0, n), some (0, c), none] [] M (nPI fun z M1 => Sf 3 ac M0 M1 ∧ (-2147483648 ≤ z ∧ z ≤ 2147483647)) := by
  have hd : (3 : Int) = 2 ∨ (3 : Int) = 3 := by decide
  have hac := hS.2.2.2.2
  refine n_aload_n c_170_0 rfl ?_
  refine n_iload_n c_170_1 rfl ?_
  refine n_v1I c_170_2 rfl sc_112.n rfl rfl rfl rfl (misMaking_3 (n := n) hS hdm (by omega)) ?_
  intro z1 M2 hP3
  obtain ⟨eM, f3, f3p0⟩ := hP3
  subst eM
  refine n_if0_eq c_170_5 (by omega) ?_ ?_
  · intro h4
    refine n_fg (le_n (le_n (le_n (le_n le_0)))) ?_
    exact (msize_3_c hS hdm hn hc 528).1  M hS  (by omega)
  · intro h5
    refine n_iload_n c_170_8 rfl ?_
    refine n_if0_lt c_170_9 (by omega) ?_ ?_
    · intro h6
      refine n_fg (le_n (le_n (le_n (le_n le_0)))) ?_
      exact (msize_3_c hS hdm hn hc 528).1  M hS  (by omega)
    · intro h7
      refine n_iload_n c_170_12 rfl ?_
      refine n_aload_n c_170_13 rfl ?_
      refine n_getV (bi := 0) c_170_14 sc_112.n rfl rfl rfl (t_dm hS hdm) ?_
      intro z8 ez8 f9
      obtain rfl : z8 = 3 := by omega
      refine n_aload_n c_170_17 rfl ?_
      refine n_iload_n c_170_18 rfl ?_
      refine n_v1I c_170_19 rfl sc_112.n rfl rfl rfl rfl (mrowsOf_3 (n := n) hS hdm (by omega)) ?_
      intro z10 M11 hP12
      obtain ⟨eM, f12⟩ := hP12
      subst eM
      refine n_s2I c_170_22 rfl rfl rfl rfl (mpowerU_3 (n := z10) hS (by omega)) ?_
      intro z13 M14 hP15
      obtain ⟨eM, f15⟩ := hP15
      subst eM
      refine n_if2_lt c_170_25 (by omega) (by omega) ?_ ?_
      · intro h16
        refine n_aload_n c_170_30 rfl ?_
        refine n_iload_n c_170_31 rfl ?_
        refine n_v1V c_170_32 rfl sc_112.n rfl rfl rfl rfl (mmakes_3 (n := n) hS hdm (by omega)) ?_
        intro  M17 hP18
        have hS17 := hP18
        refine n_aload_n c_170_35 rfl ?_
        refine n_getR c_170_36 sc_112.n rfl rfl rfl r_112_16 ?_
        refine n_iload_n c_170_39 rfl ?_
        refine n_ialoadV c_170_40 sc_124.n rfl rfl rfl (by omega) (t_124 hS17 (by omega)) ?_
        intro z19 ez19 f20
        refine n_bipush c_170_41 rfl ?_
        refine n_if2_ne c_170_43 (by omega) (by omega) ?_ ?_
        · intro h21
          refine n_iconst c_170_49 ?_
          refine n_istore_n (L2 := [some (2, 112), some (0, n), some (0, c), some (0, 0)]) c_170_50 rfl rfl ?_
          refine n_fg (le_s (le_s (le_s (le_s le_0)))) ?_
          exact (msize_3_c hS hdm hn hc 528).2 _ M17 hS17 (by omega) (by omega) (by omega) (by omega)
        · intro h22
          refine n_bipush c_170_46 rfl ?_
          exact n_rI c_170_48 rfl ⟨hS17, by omega⟩
      · intro h23
        refine n_fg (le_n (le_n (le_n (le_n le_0)))) ?_
        exact (msize_3_c hS hdm hn hc 528).1  M hS  (by omega)

set_option maxHeartbeats 4000000 in
theorem mlayMost_3_c {xs : List Int32} {e : Nat} {ac : Int} {M0 M : nM} {k : Int} (hS : Sf 3 ac M0 M) (hdm : M0 112 0 = 3) (hk : 0 ≤ k ∧ k ≤ 728) : ∀ nn : Nat, (∀ (x2 x3 : Int) (M : nM), Sf 3 ac M0 M → (0 ≤ x2 ∧ x2 ≤ 728) → (0 ≤ x3 ∧ x3 ≤ 27) → (27 - x3) * 3 + 3 < (nn : Int) → nW xs (e + 2) 199 4 [some (2, 112), none, some (0, x2), some (0, x3), none, none, none] [] M (nPV fun M1 => Sf 3 ac M0 M1)) ∧ (∀ (x2 x3 x4 : Int) (M : nM), Sf 3 ac M0 M → (0 ≤ x2 ∧ x2 ≤ 728) → (0 ≤ x3 ∧ x3 ≤ 26) → (0 ≤ x4 ∧ x4 ≤ 2) → (27 - x3) * 3 + 2 < (nn : Int) → nW xs (e + 2) 199 57 [some (2, 112), none, some (0, x2), some (0, x3), some (0, x4), none, none] [] M (nPV fun M1 => Sf 3 ac M0 M1)) ∧ (∀ (x2 x3 : Int) (M : nM), Sf 3 ac M0 M → (0 ≤ x2 ∧ x2 ≤ 728) → (0 ≤ x3 ∧ x3 ≤ 26) → (27 - x3) * 3 + 1 < (nn : Int) → nW xs (e + 2) 199 105 [some (2, 112), none, some (0, x2), some (0, x3), none, none, none] [] M (nPV fun M1 => Sf 3 ac M0 M1)) := by
  have hd : (3 : Int) = 2 ∨ (3 : Int) = 3 := by decide
  have hac := hS.2.2.2.2
  intro nn
  induction nn with
  | zero => refine ⟨?_, ?_, ?_⟩ <;> (intros; omega)
  | succ nn ih =>
    refine ⟨?_, ?_, ?_⟩
    · intro x2 x3 M hS k2 k3 hnn
      refine n_iload_n c_199_4 rfl ?_
      refine n_aload_n c_199_5 rfl ?_
      refine n_getV (bi := 0) c_199_6 sc_112.n rfl rfl rfl (t_dm hS hdm) ?_
      intro z1 ez1 f2
      obtain rfl : z1 = 3 := by omega
      refine n_iconst c_199_9 ?_
      refine n_s2I c_199_10 rfl rfl rfl rfl (mpower3_3  hS ) ?_
      intro z3 M4 hP5
      obtain ⟨eM, f5⟩ := hP5
      subst eM
      obtain rfl : z3 = 27 := by omega
      refine n_if2_ge c_199_13 (by omega) (by omega) ?_ ?_
      · intro h6
        exact n_rV c_199_111 rfl hS
      · intro h7
        refine n_aload_n c_199_16 rfl ?_
        refine n_iload_n c_199_17 rfl ?_
        refine n_iconst c_199_18 ?_
        refine n_iconst c_199_19 ?_
        refine n_v3I c_199_20 rfl sc_112.n rfl rfl rfl rfl (mdigit_3 (r := x3) (k := 3) (j := 0) hS hdm (by omega) (by omega) (by omega) (by omega)) ?_
        intro z8 M9 hP10
        obtain ⟨eM, f10⟩ := hP10
        subst eM
        refine n_istore (L2 := [some (2, 112), none, some (0, x2), some (0, x3), some (0, z8), none, none]) c_199_23 rfl rfl ?_
        refine n_aload_n c_199_25 rfl ?_
        refine n_iload_n c_199_26 rfl ?_
        refine n_iconst c_199_27 ?_
        refine n_iconst c_199_28 ?_
        refine n_v3I c_199_29 rfl sc_112.n rfl rfl rfl rfl (mdigit_3 (r := x3) (k := 3) (j := 1) hS hdm (by omega) (by omega) (by omega) (by omega)) ?_
        intro z11 M12 hP13
        obtain ⟨eM, f13⟩ := hP13
        subst eM
        refine n_istore (L2 := [some (2, 112), none, some (0, x2), some (0, x3), some (0, z8), some (0, z11), none]) c_199_32 rfl rfl ?_
        refine n_aload_n c_199_34 rfl ?_
        refine n_iload_n c_199_35 rfl ?_
        refine n_iconst c_199_36 ?_
        refine n_iconst c_199_37 ?_
        refine n_v3I c_199_38 rfl sc_112.n rfl rfl rfl rfl (mdigit_3 (r := x3) (k := 3) (j := 2) hS hdm (by omega) (by omega) (by omega) (by omega)) ?_
        intro z14 M15 hP16
        obtain ⟨eM, f16⟩ := hP16
        subst eM
        refine n_istore (L2 := [some (2, 112), none, some (0, x2), some (0, x3), some (0, z8), some (0, z11), some (0, z14)]) c_199_41 rfl rfl ?_
        refine n_iload c_199_43 rfl ?_
        refine n_iload c_199_45 rfl ?_
        refine n_if2_eq c_199_47 (by omega) (by omega) ?_ ?_
        · intro h17
          refine n_fg (le_s (le_n (le_s (le_s (le_s (le_n (le_n le_0))))))) ?_
          exact ih.2.1 _ _ _ M hS (by omega) (by omega) (by omega) (by omega)
        · intro h18
          refine n_iload c_199_50 rfl ?_
          refine n_iload c_199_52 rfl ?_
          refine n_if2_ne c_199_54 (by omega) (by omega) ?_ ?_
          · intro h19
            refine n_iload c_199_68 rfl ?_
            refine n_iload c_199_70 rfl ?_
            refine n_if2_ne c_199_72 (by omega) (by omega) ?_ ?_
            · intro h20
              refine n_aload_n c_199_86 rfl ?_
              refine n_getR c_199_87 sc_112.n rfl rfl rfl r_112_19 ?_
              refine n_iload_n c_199_90 rfl ?_
              refine n_iload_n c_199_91 rfl ?_
              refine n_aload_n c_199_92 rfl ?_
              refine n_getV (bi := 0) c_199_93 sc_112.n rfl rfl rfl (t_dm hS hdm) ?_
              intro z21 ez21 f22
              obtain rfl : z21 = 3 := by omega
              refine n_iremV c_199_96 (by omega) (by omega) ?_
              intro z23 _ f24
              refine n_iastoreV hS c_199_97 sc_127.n rfl (by omega) (w_127 (by omega) (by omega)) ?_
              intro M25 eM25 hS25
              refine n_iload_n c_199_98 rfl ?_
              refine n_aload_n c_199_99 rfl ?_
              refine n_getV (bi := 0) c_199_100 sc_112.n rfl rfl rfl (t_dm hS25 hdm) ?_
              intro z26 ez26 f27
              obtain rfl : z26 = 3 := by omega
              refine n_idivV c_199_103 (by omega) (by omega) ?_
              intro z28 _ f29
              refine n_istore_n (L2 := [some (2, 112), none, some (0, z28), some (0, x3), some (0, z8), some (0, z11), some (0, z14)]) c_199_104 rfl rfl ?_
              refine n_fg (le_s (le_n (le_s (le_s (le_n (le_n (le_n le_0))))))) ?_
              exact ih.2.2 _ _ M25 hS25 (by omega) (by omega) (by omega)
            · intro h30
              refine n_aload_n c_199_75 rfl ?_
              refine n_getR c_199_76 sc_112.n rfl rfl rfl r_112_19 ?_
              refine n_iload_n c_199_79 rfl ?_
              refine n_iload c_199_80 rfl ?_
              refine n_iastoreV hS c_199_82 sc_127.n rfl (by omega) (w_127 (by omega) (by omega)) ?_
              intro M31 eM31 hS31
              refine n_goto c_199_83 ?_
              refine n_fg (le_s (le_n (le_s (le_s (le_n (le_n (le_n le_0))))))) ?_
              exact ih.2.2 _ _ M31 hS31 (by omega) (by omega) (by omega)
          · intro h32
            refine n_fg (le_s (le_n (le_s (le_s (le_s (le_n (le_n le_0))))))) ?_
            exact ih.2.1 _ _ _ M hS (by omega) (by omega) (by omega) (by omega)
    · intro x2 x3 x4 M hS k2 k3 k4 hnn
      refine n_aload_n c_199_57 rfl ?_
      refine n_getR c_199_58 sc_112.n rfl rfl rfl r_112_19 ?_
      refine n_iload_n c_199_61 rfl ?_
      refine n_iload c_199_62 rfl ?_
      refine n_iastoreV hS c_199_64 sc_127.n rfl (by omega) (w_127 (by omega) (by omega)) ?_
      intro M1 eM1 hS1
      refine n_goto c_199_65 ?_
      refine n_fg (le_s (le_n (le_s (le_s (le_n (le_n (le_n le_0))))))) ?_
      exact ih.2.2 _ _ M1 hS1 (by omega) (by omega) (by omega)
    · intro x2 x3 M hS k2 k3 hnn
      refine n_iinc (L2 := [some (2, 112), none, some (0, x2), some (0, (x3 + 1)), none, none, none]) c_199_105 rfl rfl rfl ?_
      refine n_goto c_199_108 ?_
      refine n_fg (le_s (le_n (le_s (le_s (le_n (le_n (le_n le_0))))))) ?_
      exact ih.1 _ _ M hS (by omega) (by omega) (by omega)
set_option maxHeartbeats 4000000 in
theorem mlayMost_3 {xs : List Int32} {e : Nat} {ac : Int} {M0 M : nM} {k : Int} (hS : Sf 3 ac M0 M) (hdm : M0 112 0 = 3) (hk : 0 ≤ k ∧ k ≤ 728) : nW xs (e + 2) 199 0 [some (2, 112), some (0, k), none, none, none, none, none] [] M (nPV fun M1 => Sf 3 ac M0 M1) := by
  have hd : (3 : Int) = 2 ∨ (3 : Int) = 3 := by decide
  have hac := hS.2.2.2.2
  refine n_iload_n c_199_0 rfl ?_
  refine n_istore_n (L2 := [some (2, 112), some (0, k), some (0, k), none, none, none, none]) c_199_1 rfl rfl ?_
  refine n_iconst c_199_2 ?_
  refine n_istore_n (L2 := [some (2, 112), some (0, k), some (0, k), some (0, 0), none, none, none]) c_199_3 rfl rfl ?_
  refine n_fg (le_s (le_n (le_s (le_s (le_n (le_n (le_n le_0))))))) ?_
  exact (mlayMost_3_c hS hdm hk 184).1 _ _ M hS (by omega) (by omega) (by omega)

set_option maxHeartbeats 4000000 in
theorem mquick_3_c {xs : List Int32} {e : Nat} {ac : Int} {M0 M : nM} {k : Int} (hS : Sf 3 ac M0 M) (hdm : M0 112 0 = 3) (hk : -2147483648 ≤ k ∧ k ≤ 2147483647) : ∀ nn : Nat, (∀ (x2 x3 : Int) (M : nM), Sf 3 ac M0 M → (-2147483648 ≤ x2 ∧ x2 ≤ 2147483647) → (0 ≤ x3 ∧ x3 ≤ 19683) → (19683 - x3) * 2 + 762 < (nn : Int) → nW xs (e + 4) 200 34 [some (2, 112), none, some (0, x2), some (0, x3)] [] M (nPJ fun z M1 => Sf 3 ac M0 M1 ∧ (-9223372036854775808 ≤ z ∧ z ≤ 9223372036854775807))) ∧ (∀ (x2 x3 : Int) (M : nM), Sf 3 ac M0 M → (-2147483648 ≤ x2 ∧ x2 ≤ 2147483647) → (0 ≤ x3 ∧ x3 ≤ 19682) → (19683 - x3) * 2 + 761 < (nn : Int) → nW xs (e + 4) 200 80 [some (2, 112), none, some (0, x2), some (0, x3)] [] M (nPJ fun z M1 => Sf 3 ac M0 M1 ∧ (-9223372036854775808 ≤ z ∧ z ≤ 9223372036854775807))) ∧ (∀ (x2 x3 : Int) (M : nM), Sf 3 ac M0 M → (-2147483648 ≤ x2 ∧ x2 ≤ 2147483647) → (0 ≤ x3 ∧ x3 ≤ 729) → (729 - x3) * 1 + 30 < (nn : Int) → nW xs (e + 4) 200 92 [some (2, 112), none, some (0, x2), some (0, x3)] [] M (nPJ fun z M1 => Sf 3 ac M0 M1 ∧ (-9223372036854775808 ≤ z ∧ z ≤ 9223372036854775807))) ∧ (∀ (x2 x3 : Int) (M : nM), Sf 3 ac M0 M → (-2147483648 ≤ x2 ∧ x2 ≤ 2147483647) → (0 ≤ x3 ∧ x3 ≤ 27) → (27 - x3) * 1 + 1 < (nn : Int) → nW xs (e + 4) 200 142 [some (2, 112), none, some (0, x2), some (0, x3)] [] M (nPJ fun z M1 => Sf 3 ac M0 M1 ∧ (-9223372036854775808 ≤ z ∧ z ≤ 9223372036854775807))) := by
  have hd : (3 : Int) = 2 ∨ (3 : Int) = 3 := by decide
  have hac := hS.2.2.2.2
  intro nn
  induction nn with
  | zero => refine ⟨?_, ?_, ?_, ?_⟩ <;> (intros; omega)
  | succ nn ih =>
    refine ⟨?_, ?_, ?_, ?_⟩
    · intro x2 x3 M hS k2 k3 hnn
      refine n_iload_n c_200_34 rfl ?_
      refine n_aload_n c_200_35 rfl ?_
      refine n_getV (bi := 0) c_200_36 sc_112.n rfl rfl rfl (t_dm hS hdm) ?_
      intro z1 ez1 f2
      obtain rfl : z1 = 3 := by omega
      refine n_aload_n c_200_39 rfl ?_
      refine n_iconst c_200_40 ?_
      refine n_v1I c_200_41 rfl sc_112.n rfl rfl rfl rfl (mrowsOf2_3  hS hdm) ?_
      intro z3 M4 hP5
      obtain ⟨eM, f5⟩ := hP5
      subst eM
      obtain rfl : z3 = 9 := by omega
      refine n_s2I c_200_44 rfl rfl rfl rfl (mpower9_3  hS ) ?_
      intro z6 M7 hP8
      obtain ⟨eM, f8⟩ := hP8
      subst eM
      obtain rfl : z6 = 19683 := by omega
      refine n_if2_ge c_200_47 (by omega) (by omega) ?_ ?_
      · intro h9
        refine n_ldc2 (n := (-7)) c_200_86 rfl ?_
        exact n_rJ c_200_89 rfl ⟨hS, by omega⟩
      · intro h10
        refine n_aload_n c_200_50 rfl ?_
        refine n_iload_n c_200_51 rfl ?_
        refine n_i2l c_200_52 (by omega) ?_
        refine n_aload_n c_200_53 rfl ?_
        refine n_iconst c_200_54 ?_
        refine n_v1I c_200_55 rfl sc_112.n rfl rfl rfl rfl (mrowsOf2_3  hS hdm) ?_
        intro z11 M12 hP13
        obtain ⟨eM, f13⟩ := hP13
        subst eM
        obtain rfl : z11 = 9 := by omega
        refine n_v2V c_200_58 rfl sc_112.n rfl rfl rfl rfl (mlay_3 (c := x3) (r := 9) (g := (M 112 22)) hS hdm (by omega) (by omega) rfl) ?_
        intro  M14 hP15
        obtain ⟨hS14, f15g0⟩ := hP15
        refine n_aload_n c_200_61 rfl ?_
        refine n_v0I c_200_62 rfl sc_112.n rfl rfl rfl rfl (misHalf_3  hS14 hdm) ?_
        intro z16 M17 hP18
        obtain ⟨eM, f18⟩ := hP18
        subst eM
        refine n_if0_eq c_200_65 (by omega) ?_ ?_
        · intro h19
          refine n_fg (le_s (le_n (le_s (le_s le_0)))) ?_
          exact ih.2.1 _ _ M14 hS14 (by omega) (by omega) (by omega)
        · intro h20
          refine n_aload_n c_200_68 rfl ?_
          refine n_iconst c_200_69 ?_
          refine n_iload_n c_200_70 rfl ?_
          refine n_v2I c_200_71 rfl sc_112.n rfl rfl rfl rfl (mhandKeeps_3 (m := 2) (k := x2) hS14 hdm (by omega) (by omega)) ?_
          intro z21 M22 hP23
          obtain ⟨eM, f23⟩ := hP23
          subst eM
          refine n_if0_eq c_200_74 (by omega) ?_ ?_
          · intro h24
            refine n_fg (le_s (le_n (le_s (le_s le_0)))) ?_
            exact ih.2.1 _ _ M14 hS14 (by omega) (by omega) (by omega)
          · intro h25
            refine n_iload_n c_200_77 rfl ?_
            refine n_i2l c_200_78 (by omega) ?_
            exact n_rJ c_200_79 rfl ⟨hS14, by omega⟩
    · intro x2 x3 M hS k2 k3 hnn
      refine n_iinc (L2 := [some (2, 112), none, some (0, x2), some (0, (x3 + 1))]) c_200_80 rfl rfl rfl ?_
      refine n_goto c_200_83 ?_
      refine n_fg (le_s (le_n (le_s (le_s le_0)))) ?_
      exact ih.1 _ _ M hS (by omega) (by omega) (by omega)
    · intro x2 x3 M hS k2 k3 hnn
      refine n_iload_n c_200_92 rfl ?_
      refine n_aload_n c_200_93 rfl ?_
      refine n_getV (bi := 0) c_200_94 sc_112.n rfl rfl rfl (t_dm hS hdm) ?_
      intro z1 ez1 f2
      obtain rfl : z1 = 3 := by omega
      refine n_iconst c_200_97 ?_
      refine n_if2_ne c_200_98 (by omega) (by omega) ?_ ?_
      · intro h3
        refine n_sipush c_200_105 rfl ?_
        refine n_if2_ge c_200_108 (by omega) (by omega) ?_ ?_
        · intro h4
          refine n_ldc2 (n := (-7)) c_200_136 rfl ?_
          exact n_rJ c_200_139 rfl ⟨hS, by omega⟩
        · intro h5
          refine n_aload_n c_200_111 rfl ?_
          refine n_iload_n c_200_112 rfl ?_
          refine n_v1V c_200_113 rfl sc_112.n rfl rfl rfl rfl (mlayMost_3 (k := x3) hS hdm (by omega)) ?_
          intro  M6 hP7
          have hS6 := hP7
          refine n_aload_n c_200_116 rfl ?_
          refine n_iconst c_200_117 ?_
          refine n_iload_n c_200_118 rfl ?_
          refine n_v2I c_200_119 rfl sc_112.n rfl rfl rfl rfl (mhandKeeps_3 (m := 3) (k := x2) hS6 hdm (by omega) (by omega)) ?_
          intro z8 M9 hP10
          obtain ⟨eM, f10⟩ := hP10
          subst eM
          refine n_if0_eq c_200_122 (by omega) ?_ ?_
          · intro h11
            refine n_iinc (L2 := [some (2, 112), none, some (0, x2), some (0, (x3 + 1))]) c_200_130 rfl rfl rfl ?_
            refine n_goto c_200_133 ?_
            refine n_fg (le_s (le_n (le_s (le_s le_0)))) ?_
            exact ih.2.2.1 _ _ M6 hS6 (by omega) (by omega) (by omega)
          · intro h12
            refine n_aload_n c_200_125 rfl ?_
            refine n_v0J c_200_126 rfl sc_112.n rfl rfl rfl rfl (mhandCode_3  hS6 hdm) ?_
            intro z13 M14 hP15
            obtain ⟨eM, f15⟩ := hP15
            subst eM
            exact n_rJ c_200_129 rfl ⟨hS6, by omega⟩
      · intro h16
        exfalso; omega
    · intro x2 x3 M hS k2 k3 hnn
      refine n_iload_n c_200_142 rfl ?_
      refine n_aload_n c_200_143 rfl ?_
      refine n_getV (bi := 0) c_200_144 sc_112.n rfl rfl rfl (t_dm hS hdm) ?_
      intro z1 ez1 f2
      obtain rfl : z1 = 3 := by omega
      refine n_iconst c_200_147 ?_
      refine n_s2I c_200_148 rfl rfl rfl rfl (mpower3_3  hS ) ?_
      intro z3 M4 hP5
      obtain ⟨eM, f5⟩ := hP5
      subst eM
      obtain rfl : z3 = 27 := by omega
      refine n_if2_ge c_200_151 (by omega) (by omega) ?_ ?_
      · intro h6
        refine n_aload_n c_200_199 rfl ?_
        refine n_iconst c_200_200 ?_
        refine n_iload_n c_200_201 rfl ?_
        refine n_v2I c_200_202 rfl sc_112.n rfl rfl rfl rfl (mhandKeeps_3 (m := 3) (k := x2) hS hdm (by omega) (by omega)) ?_
        intro z7 M8 hP9
        obtain ⟨eM, f9⟩ := hP9
        subst eM
        refine n_if0_eq c_200_205 (by omega) ?_ ?_
        · intro h10
          refine n_ldc2 (n := (-7)) c_200_215 rfl ?_
          exact n_rJ c_200_218 rfl ⟨hS, by omega⟩
        · intro h11
          refine n_aload_n c_200_208 rfl ?_
          refine n_v0J c_200_209 rfl sc_112.n rfl rfl rfl rfl (mhandCode_3  hS hdm) ?_
          intro z12 M13 hP14
          obtain ⟨eM, f14⟩ := hP14
          subst eM
          refine n_goto c_200_212 ?_
          exact n_rJ c_200_218 rfl ⟨hS, by omega⟩
      · intro h15
        refine n_aload_n c_200_154 rfl ?_
        refine n_getR c_200_155 sc_112.n rfl rfl rfl r_112_19 ?_
        refine n_iload_n c_200_158 rfl ?_
        refine n_aload_n c_200_159 rfl ?_
        refine n_iload_n c_200_160 rfl ?_
        refine n_iconst c_200_161 ?_
        refine n_iconst c_200_162 ?_
        refine n_v3I c_200_163 rfl sc_112.n rfl rfl rfl rfl (mdigit_3 (r := x3) (k := 3) (j := 0) hS hdm (by omega) (by omega) (by omega) (by omega)) ?_
        intro z16 M17 hP18
        obtain ⟨eM, f18⟩ := hP18
        subst eM
        refine n_aload_n c_200_166 rfl ?_
        refine n_getV (bi := 0) c_200_167 sc_112.n rfl rfl rfl (t_dm hS hdm) ?_
        intro z19 ez19 f20
        obtain rfl : z19 = 3 := by omega
        refine n_iadd c_200_170 rfl ?_
        refine n_aload_n c_200_171 rfl ?_
        refine n_iload_n c_200_172 rfl ?_
        refine n_iconst c_200_173 ?_
        refine n_iconst c_200_174 ?_
        refine n_v3I c_200_175 rfl sc_112.n rfl rfl rfl rfl (mdigit_3 (r := x3) (k := 3) (j := 1) hS hdm (by omega) (by omega) (by omega) (by omega)) ?_
        intro z21 M22 hP23
        obtain ⟨eM, f23⟩ := hP23
        subst eM
        refine n_isub c_200_178 rfl ?_
        refine n_aload_n c_200_179 rfl ?_
        refine n_iload_n c_200_180 rfl ?_
        refine n_iconst c_200_181 ?_
        refine n_iconst c_200_182 ?_
        refine n_v3I c_200_183 rfl sc_112.n rfl rfl rfl rfl (mdigit_3 (r := x3) (k := 3) (j := 2) hS hdm (by omega) (by omega) (by omega) (by omega)) ?_
        intro z24 M25 hP26
        obtain ⟨eM, f26⟩ := hP26
        subst eM
        refine n_iadd c_200_186 rfl ?_
        refine n_aload_n c_200_187 rfl ?_
        refine n_getV (bi := 0) c_200_188 sc_112.n rfl rfl rfl (t_dm hS hdm) ?_
        intro z27 ez27 f28
        obtain rfl : z27 = 3 := by omega
        refine n_iremV c_200_191 (by omega) (by omega) ?_
        intro z29 _ f30
        refine n_iastoreV hS c_200_192 sc_127.n rfl (by omega) (w_127 (by omega) (by omega)) ?_
        intro M31 eM31 hS31
        refine n_iinc (L2 := [some (2, 112), none, some (0, x2), some (0, (x3 + 1))]) c_200_193 rfl rfl rfl ?_
        refine n_goto c_200_196 ?_
        refine n_fg (le_s (le_n (le_s (le_s le_0)))) ?_
        exact ih.2.2.2 _ _ M31 hS31 (by omega) (by omega) (by omega)
set_option maxHeartbeats 4000000 in
theorem mquick_3 {xs : List Int32} {e : Nat} {ac : Int} {M0 M : nM} {k : Int} (hS : Sf 3 ac M0 M) (hdm : M0 112 0 = 3) (hk : -2147483648 ≤ k ∧ k ≤ 2147483647) : nW xs (e + 4) 200 0 [some (2, 112), some (0, k), none, none] [] M (nPJ fun z M1 => Sf 3 ac M0 M1 ∧ (-9223372036854775808 ≤ z ∧ z ≤ 9223372036854775807)) := by
  have hd : (3 : Int) = 2 ∨ (3 : Int) = 3 := by decide
  have hac := hS.2.2.2.2
  refine n_aload_n c_200_0 rfl ?_
  refine n_v0I c_200_1 rfl sc_112.n rfl rfl rfl rfl (masked_3  hS hdm) ?_
  intro z1 M2 hP3
  obtain ⟨eM, f3⟩ := hP3
  subst eM
  refine n_istore_n (L2 := [some (2, 112), some (0, k), some (0, z1), none]) c_200_4 rfl rfl ?_
  refine n_iload_n c_200_5 rfl ?_
  refine n_sw c_200_6 (by omega) (by decide) ?_ ?_
  · intro h4
    refine n_pc (k2 := 219) rfl ?_
    refine n_ldc2 (n := (-1)) c_200_219 rfl ?_
    exact n_rJ c_200_222 rfl ⟨hS, by omega⟩
  · intro h5 h5b
    rcases (show k = 0 ∨ k = 1 ∨ k = 2 by omega) with h5c | h5c | h5c
    · refine ⟨_, by rw [h5c]; rfl, by decide, ?_⟩
      refine n_pc (k2 := 32) rfl ?_
      refine n_iconst c_200_32 ?_
      refine n_istore_n (L2 := [some (2, 112), some (0, k), some (0, z1), some (0, 0)]) c_200_33 rfl rfl ?_
      refine n_fg (le_s (le_n (le_s (le_s le_0)))) ?_
      exact (mquick_3_c hS hdm hk 80270).1 _ _ M hS (by omega) (by omega) (by omega)
    · refine ⟨_, by rw [h5c]; rfl, by decide, ?_⟩
      refine n_pc (k2 := 90) rfl ?_
      refine n_iconst c_200_90 ?_
      refine n_istore_n (L2 := [some (2, 112), some (0, k), some (0, z1), some (0, 0)]) c_200_91 rfl rfl ?_
      refine n_fg (le_s (le_n (le_s (le_s le_0)))) ?_
      exact (mquick_3_c hS hdm hk 80270).2.2.1 _ _ M hS (by omega) (by omega) (by omega)
    · refine ⟨_, by rw [h5c]; rfl, by decide, ?_⟩
      refine n_pc (k2 := 140) rfl ?_
      refine n_iconst c_200_140 ?_
      refine n_istore_n (L2 := [some (2, 112), some (0, k), some (0, z1), some (0, 0)]) c_200_141 rfl rfl ?_
      refine n_fg (le_s (le_n (le_s (le_s le_0)))) ?_
      exact (mquick_3_c hS hdm hk 80270).2.2.2 _ _ M hS (by omega) (by omega) (by omega)

set_option maxHeartbeats 4000000 in
theorem mlists1_3_c {xs : List Int32} {e : Nat} {ac : Int} {M0 M : nM} {m : Int} (hS : Sf 3 ac M0 M) (hdm : M0 112 0 = 3) (hm : -2147483648 ≤ m ∧ m ≤ 2147483647) : ∀ nn : Nat, (∀ (x3 : Int) (M : nM), Sf 3 ac M0 M → (0 ≤ x3 ∧ x3 ≤ 4095) → 59 < (nn : Int) → nW xs (e + 4) 173 28 [some (2, 112), none, some (0, 1), some (0, x3), none, none, none] [] M (nPV fun M1 => Sf 3 ac M0 M1)) ∧ (∀ (x3 x4 x5 x6 : Int) (M : nM), Sf 3 ac M0 M → (0 ≤ x3 ∧ x3 ≤ 4095) → (3 ≤ x4 ∧ x4 ≤ 3) → (27 ≤ x5 ∧ x5 ≤ 27) → (0 ≤ x6 ∧ x6 ≤ 27) → (M 112 22 ≤ x6) → (27 - x6) * 2 + 2 < (nn : Int) → nW xs (e + 4) 173 64 [some (2, 112), none, some (0, 1), some (0, x3), some (0, x4), some (0, x5), some (0, x6)] [] M (nPV fun M1 => Sf 3 ac M0 M1)) ∧ (∀ (x3 x4 x5 x6 : Int) (M : nM), Sf 3 ac M0 M → (0 ≤ x3 ∧ x3 ≤ 4095) → (3 ≤ x4 ∧ x4 ≤ 3) → (27 ≤ x5 ∧ x5 ≤ 27) → (0 ≤ x6 ∧ x6 ≤ 26) → (M 112 22 ≤ x6 + 1) → (27 - x6) * 2 + 1 < (nn : Int) → nW xs (e + 4) 173 110 [some (2, 112), none, some (0, 1), some (0, x3), some (0, x4), some (0, x5), some (0, x6)] [] M (nPV fun M1 => Sf 3 ac M0 M1)) := by
  have hd : (3 : Int) = 2 ∨ (3 : Int) = 3 := by decide
  have hac := hS.2.2.2.2
  intro nn
  induction nn with
  | zero => refine ⟨?_, ?_, ?_⟩ <;> (intros; omega)
  | succ nn ih =>
    refine ⟨?_, ?_, ?_⟩
    · intro x3 M hS k3 hnn
      refine n_aload_n c_173_28 rfl ?_
      refine n_iload_n c_173_29 rfl ?_
      refine n_putV (bi := 20) hS c_173_30 sc_112.n rfl rfl rfl rfl (w_112_20 (by omega)) ?_
      intro M1 eM1 hS1
      have g1_0 : M1 112 20 = x3 := by rw [eM1]; exact nu_s _ _ _ _
      refine n_aload_n c_173_33 rfl ?_
      refine n_iload_n c_173_34 rfl ?_
      refine n_putV (bi := 21) hS1 c_173_35 sc_112.n rfl rfl rfl rfl (w_112_21 (by omega)) ?_
      intro M2 eM2 hS2
      have g2_0 : M2 112 20 = M1 112 20 := by rw [eM2]; exact nu_i (by omega)
      have g2_1 : M2 112 21 = 1 := by rw [eM2]; exact nu_s _ _ _ _
      refine n_aload_n c_173_38 rfl ?_
      refine n_iconst c_173_39 ?_
      refine n_putV (bi := 22) hS2 c_173_40 sc_112.n rfl rfl rfl rfl (w_112_22 (by omega)) ?_
      intro M3 eM3 hS3
      have g3_0 : M3 112 20 = M2 112 20 := by rw [eM3]; exact nu_i (by omega)
      have g3_1 : M3 112 21 = M2 112 21 := by rw [eM3]; exact nu_i (by omega)
      have g3_2 : M3 112 22 = 0 := by rw [eM3]; exact nu_s _ _ _ _
      refine n_aload_n c_173_43 rfl ?_
      refine n_iload_n c_173_44 rfl ?_
      refine n_v1I c_173_45 rfl sc_112.n rfl rfl rfl rfl (mrowsOf1_3  hS3 hdm) ?_
      intro z4 M5 hP6
      obtain ⟨eM, f6⟩ := hP6
      subst eM
      obtain rfl : z4 = 3 := by omega
      refine n_istore (L2 := [some (2, 112), none, some (0, 1), some (0, x3), some (0, 3), none, none]) c_173_48 rfl rfl ?_
      refine n_aload_n c_173_50 rfl ?_
      refine n_getV (bi := 0) c_173_51 sc_112.n rfl rfl rfl (t_dm hS3 hdm) ?_
      intro z7 ez7 f8
      obtain rfl : z7 = 3 := by omega
      refine n_iload c_173_54 rfl ?_
      refine n_s2I c_173_56 rfl rfl rfl rfl (mpower3_3  hS3 ) ?_
      intro z9 M10 hP11
      obtain ⟨eM, f11⟩ := hP11
      subst eM
      obtain rfl : z9 = 27 := by omega
      refine n_istore (L2 := [some (2, 112), none, some (0, 1), some (0, x3), some (0, 3), some (0, 27), none]) c_173_59 rfl rfl ?_
      refine n_iconst c_173_61 ?_
      refine n_istore (L2 := [some (2, 112), none, some (0, 1), some (0, x3), some (0, 3), some (0, 27), some (0, 0)]) c_173_62 rfl rfl ?_
      refine n_fg (le_s (le_n (le_s (le_s (le_s (le_s (le_s le_0))))))) ?_
      exact ih.2.1 _ _ _ _ M3 hS3 (by omega) (by omega) (by omega) (by omega) (by omega) (by omega)
    · intro x3 x4 x5 x6 M hS k3 k4 k5 k6 v0 hnn
      refine n_iload c_173_64 rfl ?_
      refine n_iload c_173_66 rfl ?_
      refine n_if2_ge c_173_68 (by omega) (by omega) ?_ ?_
      · intro h1
        exact n_rV c_173_116 rfl hS
      · intro h2
        refine n_aload_n c_173_71 rfl ?_
        refine n_iload c_173_72 rfl ?_
        refine n_i2l c_173_74 (by omega) ?_
        refine n_iload c_173_75 rfl ?_
        refine n_v2V c_173_77 rfl sc_112.n rfl rfl rfl rfl (mlay_3 (c := x6) (r := x4) (g := (M 112 22)) hS hdm (by omega) (by omega) rfl) ?_
        intro  M3 hP4
        obtain ⟨hS3, f4g0⟩ := hP4
        refine n_aload_n c_173_80 rfl ?_
        refine n_iload_n c_173_81 rfl ?_
        refine n_iload_n c_173_82 rfl ?_
        refine n_v2I c_173_83 rfl sc_112.n rfl rfl rfl rfl (mhandKeeps_3 (m := 1) (k := x3) hS3 hdm (by omega) (by omega)) ?_
        intro z5 M6 hP7
        obtain ⟨eM, f7⟩ := hP7
        subst eM
        refine n_if0_eq c_173_86 (by omega) ?_ ?_
        · intro h8
          refine n_fg (le_s (le_n (le_s (le_s (le_s (le_s (le_s le_0))))))) ?_
          exact ih.2.2 _ _ _ _ M3 hS3 (by omega) (by omega) (by omega) (by omega) (by omega) (by omega)
        · intro h9
          refine n_aload_n c_173_89 rfl ?_
          refine n_getR c_173_90 sc_112.n rfl rfl rfl r_112_23 ?_
          refine n_aload_n c_173_93 rfl ?_
          refine n_getV (bi := 22) c_173_94 sc_112.n rfl rfl rfl (t_112_22 hS3) ?_
          intro z10 ez10 f11
          refine n_iload c_173_97 rfl ?_
          refine n_iastoreV hS3 c_173_99 sc_128.n rfl (by omega) (w_128 (by omega) (by omega)) ?_
          intro M12 eM12 hS12
          have g12_0 : M12 112 22 = M3 112 22 := by rw [eM12]; exact nu_a (by omega)
          refine n_aload_n c_173_100 rfl ?_
          refine n_dup2 c_173_101 ?_
          refine n_getV (bi := 22) c_173_102 sc_112.n rfl rfl rfl (t_112_22 hS12) ?_
          intro z13 ez13 f14
          refine n_iconst c_173_105 ?_
          refine n_iadd c_173_106 rfl ?_
          refine n_putV (bi := 22) hS12 c_173_107 sc_112.n rfl rfl rfl rfl (w_112_22 (by omega)) ?_
          intro M15 eM15 hS15
          have g15_0 : M15 112 22 = (z13 + 1) := by rw [eM15]; exact nu_s _ _ _ _
          refine n_fg (le_s (le_n (le_s (le_s (le_s (le_s (le_s le_0))))))) ?_
          exact ih.2.2 _ _ _ _ M15 hS15 (by omega) (by omega) (by omega) (by omega) (by omega) (by omega)
    · intro x3 x4 x5 x6 M hS k3 k4 k5 k6 v0 hnn
      refine n_iinc (L2 := [some (2, 112), none, some (0, 1), some (0, x3), some (0, x4), some (0, x5), some (0, (x6 + 1))]) c_173_110 rfl rfl rfl ?_
      refine n_goto c_173_113 ?_
      refine n_fg (le_s (le_n (le_s (le_s (le_s (le_s (le_s le_0))))))) ?_
      exact ih.2.1 _ _ _ _ M hS (by omega) (by omega) (by omega) (by omega) (by omega) (by omega)
set_option maxHeartbeats 4000000 in
theorem mlists1_3 {xs : List Int32} {e : Nat} {ac : Int} {M0 M : nM} {m : Int} (hS : Sf 3 ac M0 M) (hdm : M0 112 0 = 3) (hm : -2147483648 ≤ m ∧ m ≤ 2147483647) : nW xs (e + 4) 173 0 [some (2, 112), some (0, m), some (0, 1), none, none, none, none] [] M (nPV fun M1 => Sf 3 ac M0 M1) := by
  have hd : (3 : Int) = 2 ∨ (3 : Int) = 3 := by decide
  have hac := hS.2.2.2.2
  refine n_iload_n c_173_0 rfl ?_
  refine n_iconst c_173_1 ?_
  refine n_aload_n c_173_2 rfl ?_
  refine n_getV (bi := 7) c_173_3 sc_112.n rfl rfl rfl (t_112_7 hS) ?_
  intro z1 ez1 f2
  refine n_i_ishl c_173_6 rfl ?_
  have f3 := n_shl_1 (y := z1) (a := 0) (b := 12) (by decide) (by omega)
  generalize (n_shl 1 z1) = z4 at f3 ⊢
  refine n_iconst c_173_7 ?_
  refine n_isub c_173_8 rfl ?_
  refine n_i_iand c_173_9 rfl ?_
  have f5 := n_and_y (x := m) (y := (z4 - 1)) (by omega)
  generalize (n_and m (z4 - 1)) = z6 at f5 ⊢
  refine n_istore_n (L2 := [some (2, 112), some (0, m), some (0, 1), some (0, z6), none, none, none]) c_173_10 rfl rfl ?_
  refine n_aload_n c_173_11 rfl ?_
  refine n_getV (bi := 20) c_173_12 sc_112.n rfl rfl rfl (t_112_20 hS) ?_
  intro z7 ez7 f8
  refine n_iload_n c_173_15 rfl ?_
  refine n_if2_ne c_173_16 (by omega) (by omega) ?_ ?_
  · intro h9
    refine n_fg (le_s (le_n (le_s (le_s (le_n (le_n (le_n le_0))))))) ?_
    exact (mlists1_3_c hS hdm hm 128).1 _ M hS (by omega) (by omega)
  · intro h10
    refine n_aload_n c_173_19 rfl ?_
    refine n_getV (bi := 21) c_173_20 sc_112.n rfl rfl rfl (t_112_21 hS) ?_
    intro z11 ez11 f12
    refine n_iload_n c_173_23 rfl ?_
    refine n_if2_ne c_173_24 (by omega) (by omega) ?_ ?_
    · intro h13
      refine n_fg (le_s (le_n (le_s (le_s (le_n (le_n (le_n le_0))))))) ?_
      exact (mlists1_3_c hS hdm hm 128).1 _ M hS (by omega) (by omega)
    · intro h14
      exact n_rV c_173_27 rfl hS
