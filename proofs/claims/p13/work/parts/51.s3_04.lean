/-! The methods, by program. -/
set_option maxHeartbeats 4000000 in
theorem mact_3_c {xs : List Int32} {e : Nat} {ac : Int} {M : nM} {k s : Int} (hS : Sf 3 ac M M) (hdm : M 112 0 = 3) (hk : -2147483648 ≤ k ∧ k ≤ 2147483647) (hs : -2147483648 ≤ s ∧ s ≤ 2147483647) : ∀ nn : Nat, (∀ (M : nM), Sf 3 ac M M → (M 112 0 = 3) → 42 < (nn : Int) → nW xs (e + 1) 148 17 [none, none, none, none, none, none] [] M (nPI fun z M1 => Sf 3 ac M1 M1 ∧ (-2147483648 ≤ z ∧ z ≤ 2147483647))) ∧ (∀ (x3 x4 : Int) (M : nM), Sf 3 ac M M → (1 ≤ k ∧ k ≤ 3) → (0 ≤ s ∧ s ≤ 7) → (-2147483648 ≤ x3 ∧ x3 ≤ 2147483647) → (0 ≤ x4 ∧ x4 ≤ 8) → (M 112 0 = 3) → (8 - x4) * 1 + 32 < (nn : Int) → nW xs (e + 1) 148 25 [some (2, 112), some (0, k), some (0, s), some (0, x3), some (0, x4), none] [] M (nPI fun z M1 => Sf 3 ac M1 M1 ∧ (-2147483648 ≤ z ∧ z ≤ 2147483647))) ∧ (∀ (M : nM), Sf 3 ac M M → (M 112 0 = 3) → 31 < (nn : Int) → nW xs (e + 1) 148 78 [none, none, none, none, none, none] [] M (nPI fun z M1 => Sf 3 ac M1 M1 ∧ (-2147483648 ≤ z ∧ z ≤ 2147483647))) ∧ (∀ (M : nM), Sf 3 ac M M → (1 ≤ k ∧ k ≤ 3) → (0 ≤ s ∧ s ≤ 7) → (M 112 0 = 3) → (M 112 4 ≤ 7) → 30 < (nn : Int) → nW xs (e + 1) 148 81 [some (2, 112), some (0, k), some (0, s), none, none, none] [] M (nPI fun z M1 => Sf 3 ac M1 M1 ∧ (-2147483648 ≤ z ∧ z ≤ 2147483647))) ∧ (∀ (x4 x5 : Int) (M : nM), Sf 3 ac M M → (1 ≤ k ∧ k ≤ 3) → (0 ≤ s ∧ s ≤ 7) → (1 ≤ x4 ∧ x4 ≤ 27) → (0 ≤ x5 ∧ x5 ≤ 27) → (M 112 0 = 3) → (M 112 4 ≤ 7) → (27 - x5) * 1 + 1 < (nn : Int) → nW xs (e + 1) 148 106 [some (2, 112), some (0, k), some (0, s), none, some (0, x4), some (0, x5)] [] M (nPI fun z M1 => Sf 3 ac M1 M1 ∧ (-2147483648 ≤ z ∧ z ≤ 2147483647))) := by
  have hd : (3 : Int) = 2 ∨ (3 : Int) = 3 := by decide
  have hac := hS.2.2.2.2
  intro nn
  induction nn with
  | zero => refine ⟨?_, ?_, ?_, ?_, ?_⟩ <;> (intros; omega)
  | succ nn ih =>
    refine ⟨?_, ?_, ?_, ?_, ?_⟩
    · intro M hS hdm hnn
      refine n_bipush c_148_17 rfl ?_
      exact n_rI c_148_19 rfl ⟨hS, by omega⟩
    · intro x3 x4 M hS k1 k2 k3 k4 hdm hnn
      refine n_iload c_148_25 rfl ?_
      refine n_aload_n c_148_27 rfl ?_
      refine n_getV (bi := 4) c_148_28 sc_112.n rfl rfl rfl (t_112_4 hS) ?_
      intro z1 ez1 f2
      refine n_if2_ge c_148_31 (by omega) (by omega) ?_ ?_
      · intro h3
        refine n_aload_n c_148_59 rfl ?_
        refine n_getV (bi := 4) c_148_60 sc_112.n rfl rfl rfl (t_112_4 hS) ?_
        intro z4 ez4 f5
        refine n_bipush c_148_63 rfl ?_
        refine n_if2_eq c_148_65 (by omega) (by omega) ?_ ?_
        · intro h6
          refine n_fg (le_n (le_n (le_n (le_n (le_n (le_n le_0)))))) ?_
          exact ih.2.2.1  M hS (by omega) (by omega)
        · intro h7
          refine n_iload_n c_148_68 rfl ?_
          refine n_iconst c_148_69 ?_
          refine n_if2_ne c_148_70 (by omega) (by omega) ?_ ?_
          · intro h8
            refine n_fg (le_s (le_s (le_s (le_n (le_n (le_n le_0)))))) ?_
            exact ih.2.2.2.1  M hS (by omega) (by omega) (by omega) (by omega) (by omega)
          · intro h9
            refine n_iload_n c_148_73 rfl ?_
            refine n_iconst c_148_74 ?_
            refine n_if2_ne c_148_75 (by omega) (by omega) ?_ ?_
            · intro h10
              refine n_fg (le_s (le_s (le_s (le_n (le_n (le_n le_0)))))) ?_
              exact ih.2.2.2.1  M hS (by omega) (by omega) (by omega) (by omega) (by omega)
            · intro h11
              refine n_fg (le_n (le_n (le_n (le_n (le_n (le_n le_0)))))) ?_
              exact ih.2.2.1  M hS (by omega) (by omega)
      · intro h12
        refine n_iload_n c_148_34 rfl ?_
        refine n_aload_n c_148_35 rfl ?_
        refine n_getR c_148_36 sc_112.n rfl rfl rfl r_112_5 ?_
        refine n_iload c_148_39 rfl ?_
        refine n_ialoadV c_148_41 sc_116.n rfl rfl rfl (by omega) (t_116 hS (by omega)) ?_
        intro z13 ez13 f14
        refine n_iconst c_148_42 ?_
        refine n_if2_ne c_148_43 (by omega) (by omega) ?_ ?_
        · intro h15
          refine n_iconst c_148_50 ?_
          refine n_iadd c_148_51 rfl ?_
          refine n_istore_n (L2 := [some (2, 112), some (0, k), some (0, s), some (0, (x3 + 0)), some (0, x4), none]) c_148_52 rfl rfl ?_
          refine n_iinc (L2 := [some (2, 112), some (0, k), some (0, s), some (0, (x3 + 0)), some (0, (x4 + 1)), none]) c_148_53 rfl rfl rfl ?_
          refine n_goto c_148_56 ?_
          refine n_fg (le_s (le_s (le_s (le_s (le_s (le_n le_0)))))) ?_
          exact ih.2.1 _ _ M hS (by omega) (by omega) (by omega) (by omega) (by omega) (by omega)
        · intro h16
          refine n_iconst c_148_46 ?_
          refine n_goto c_148_47 ?_
          refine n_iadd c_148_51 rfl ?_
          refine n_wrap ?_
          have f17 := n_wr_r (x3 + 1)
          generalize n_wr (x3 + 1) = z18 at f17 ⊢
          refine n_istore_n (L2 := [some (2, 112), some (0, k), some (0, s), some (0, z18), some (0, x4), none]) c_148_52 rfl rfl ?_
          refine n_iinc (L2 := [some (2, 112), some (0, k), some (0, s), some (0, z18), some (0, (x4 + 1)), none]) c_148_53 rfl rfl rfl ?_
          refine n_goto c_148_56 ?_
          refine n_fg (le_s (le_s (le_s (le_s (le_s (le_n le_0)))))) ?_
          exact ih.2.1 _ _ M hS (by omega) (by omega) (by omega) (by omega) (by omega) (by omega)
    · intro M hS hdm hnn
      refine n_bipush c_148_78 rfl ?_
      exact n_rI c_148_80 rfl ⟨hS, by omega⟩
    · intro M hS k1 k2 hdm v0 hnn
      refine n_aload_n c_148_81 rfl ?_
      refine n_getR c_148_82 sc_112.n rfl rfl rfl r_112_1 ?_
      refine n_iload_n c_148_85 rfl ?_
      refine n_ialoadV c_148_86 sc_113.n rfl rfl rfl (by omega) (t_113 hS (by omega)) ?_
      intro z1 ez1 f2
      refine n_if0_ne c_148_87 (by omega) ?_ ?_
      · intro h3
        refine n_aload_n c_148_93 rfl ?_
        refine n_getV (bi := 0) c_148_94 sc_112.n rfl rfl rfl (show 3 ≤ M 112 0 ∧ M 112 0 ≤ 3 by omega) ?_
        intro z4 ez4 f5
        obtain rfl : z4 = 3 := by omega
        refine n_iload_n c_148_97 rfl ?_
        refine n_s2I c_148_98 rfl rfl rfl rfl (mpowerU3_3 (n := k) hS (by omega)) ?_
        intro z6 M7 hP8
        obtain ⟨eM, f8⟩ := hP8
        subst eM
        refine n_istore (L2 := [some (2, 112), some (0, k), some (0, s), none, some (0, z6), none]) c_148_101 rfl rfl ?_
        refine n_iconst c_148_103 ?_
        refine n_istore (L2 := [some (2, 112), some (0, k), some (0, s), none, some (0, z6), some (0, 0)]) c_148_104 rfl rfl ?_
        refine n_fg (le_s (le_s (le_s (le_n (le_s (le_s le_0)))))) ?_
        exact ih.2.2.2.2 _ _ M hS (by omega) (by omega) (by omega) (by omega) (by omega) (by omega) (by omega)
      · intro h9
        refine n_bipush c_148_90 rfl ?_
        exact n_rI c_148_92 rfl ⟨hS, by omega⟩
    · intro x4 x5 M hS k1 k2 k4 k5 hdm v0 hnn
      refine n_iload c_148_106 rfl ?_
      refine n_iload c_148_108 rfl ?_
      refine n_if2_ge c_148_110 (by omega) (by omega) ?_ ?_
      · intro h1
        refine n_aload_n c_148_185 rfl ?_
        refine n_getR c_148_186 sc_112.n rfl rfl rfl r_112_5 ?_
        refine n_aload_n c_148_189 rfl ?_
        refine n_getV (bi := 4) c_148_190 sc_112.n rfl rfl rfl (t_112_4 hS) ?_
        intro z2 ez2 f3
        refine n_iload_n c_148_193 rfl ?_
        refine n_iastoreM hS c_148_194 sc_116.n rfl (by omega) (m_116 (by omega) (by omega)) ?_
        intro M4 eM4 hS4
        have g4_0 : M4 112 0 = M 112 0 := by rw [eM4]; exact nu_a (by omega)
        have g4_1 : M4 112 4 = M 112 4 := by rw [eM4]; exact nu_a (by omega)
        refine n_aload_n c_148_195 rfl ?_
        refine n_dup2 c_148_196 ?_
        refine n_getV (bi := 4) c_148_197 sc_112.n rfl rfl rfl (t_112_4 hS4) ?_
        intro z5 ez5 f6
        refine n_iconst c_148_200 ?_
        refine n_iadd c_148_201 rfl ?_
        refine n_putM (bi := 4) hS4 c_148_202 sc_112.n rfl rfl rfl rfl (m_112_4 (by omega)) ?_
        intro M7 eM7 hS7
        have g7_0 : M7 112 0 = M4 112 0 := by rw [eM7]; exact nu_i (by omega)
        have g7_1 : M7 112 4 = (z5 + 1) := by rw [eM7]; exact nu_s _ _ _ _
        refine n_aload_n c_148_205 rfl ?_
        refine n_v0V c_148_206 rfl sc_112.n rfl rfl rfl rfl (changed_3 (gf := (M7 112 4)) (Ms := M7) hS7 (by omega) rfl (by rfl)) ?_
        intro  M8 hP9
        obtain ⟨hS8, f9g0, f9p0, f9p1⟩ := hP9
        refine n_aload_n c_148_209 rfl ?_
        refine n_getV (bi := 4) c_148_210 sc_112.n rfl rfl rfl (t_112_4 hS8) ?_
        intro z10 ez10 f11
        refine n_iconst c_148_213 ?_
        refine n_isub c_148_214 rfl ?_
        exact n_rI c_148_215 rfl ⟨hS8, by omega⟩
      · intro h12
        refine n_iload c_148_113 rfl ?_
        refine n_aload_n c_148_115 rfl ?_
        refine n_getR c_148_116 sc_112.n rfl rfl rfl r_112_1 ?_
        refine n_iload_n c_148_119 rfl ?_
        refine n_ialoadV c_148_120 sc_113.n rfl rfl rfl (by omega) (t_113 hS (by omega)) ?_
        intro z13 ez13 f14
        refine n_iconst c_148_121 ?_
        refine n_isub c_148_122 rfl ?_
        refine n_if2_lt c_148_123 (by omega) (by omega) ?_ ?_
        · intro h15
          refine n_aload_n c_148_129 rfl ?_
          refine n_aload_n c_148_130 rfl ?_
          refine n_getR c_148_131 sc_112.n rfl rfl rfl r_112_3 ?_
          refine n_bipush c_148_134 rfl ?_
          refine n_iload_n c_148_136 rfl ?_
          refine n_imul c_148_137 rfl ?_
          refine n_iload c_148_138 rfl ?_
          refine n_iadd c_148_140 rfl ?_
          refine n_laloadV c_148_141 sc_115.n rfl rfl rfl (by omega) (t_115 hS (by omega)) ?_
          intro z16 ez16 f17
          refine n_v1I c_148_142 rfl sc_112.n rfl rfl rfl rfl (misThing_3 (v := z16) hS (by omega) (by omega)) ?_
          intro z18 M19 hP20
          obtain ⟨eM, f20, f20p0⟩ := hP20
          subst eM
          refine n_if0_ne c_148_145 (by omega) ?_ ?_
          · intro h21
            refine n_aload_n c_148_151 rfl ?_
            refine n_getR c_148_152 sc_112.n rfl rfl rfl r_112_6 ?_
            refine n_bipush c_148_155 rfl ?_
            refine n_aload_n c_148_157 rfl ?_
            refine n_getV (bi := 4) c_148_158 sc_112.n rfl rfl rfl (t_112_4 hS) ?_
            intro z22 ez22 f23
            refine n_imul c_148_161 rfl ?_
            refine n_iload c_148_162 rfl ?_
            refine n_iadd c_148_164 rfl ?_
            refine n_aload_n c_148_165 rfl ?_
            refine n_getR c_148_166 sc_112.n rfl rfl rfl r_112_3 ?_
            refine n_bipush c_148_169 rfl ?_
            refine n_iload_n c_148_171 rfl ?_
            refine n_imul c_148_172 rfl ?_
            refine n_iload c_148_173 rfl ?_
            refine n_iadd c_148_175 rfl ?_
            refine n_laloadV c_148_176 sc_115.n rfl rfl rfl (by omega) (t_115 hS (by omega)) ?_
            intro z24 ez24 f25
            refine n_l2i c_148_177 ?_
            refine n_iastoreM hS c_148_178 sc_117.n rfl (by omega) (m_117 (by omega) (by omega)) ?_
            intro M26 eM26 hS26
            have g26_0 : M26 112 0 = M 112 0 := by rw [eM26]; exact nu_a (by omega)
            have g26_1 : M26 112 4 = M 112 4 := by rw [eM26]; exact nu_a (by omega)
            have g26_2 : M26 115 ((40 * s) + x5) = M 115 ((40 * s) + x5) := by rw [eM26]; exact nu_a (by omega)
            refine n_iinc (L2 := [some (2, 112), some (0, k), some (0, s), none, some (0, x4), some (0, (x5 + 1))]) c_148_179 rfl rfl rfl ?_
            refine n_goto c_148_182 ?_
            refine n_fg (le_s (le_s (le_s (le_n (le_s (le_s le_0)))))) ?_
            exact ih.2.2.2.2 _ _ M26 hS26 (by omega) (by omega) (by omega) (by omega) (by omega) (by omega) (by omega)
          · intro h27
            refine n_bipush c_148_148 rfl ?_
            exact n_rI c_148_150 rfl ⟨hS, by omega⟩
        · intro h28
          refine n_bipush c_148_126 rfl ?_
          exact n_rI c_148_128 rfl ⟨hS, by omega⟩
set_option maxHeartbeats 4000000 in
theorem mact_3 {xs : List Int32} {e : Nat} {ac : Int} {M : nM} {k s : Int} (hS : Sf 3 ac M M) (hdm : M 112 0 = 3) (hk : -2147483648 ≤ k ∧ k ≤ 2147483647) (hs : -2147483648 ≤ s ∧ s ≤ 2147483647) : nW xs (e + 1) 148 0 [some (2, 112), some (0, k), some (0, s), none, none, none] [] M (nPI fun z M1 => Sf 3 ac M1 M1 ∧ (-2147483648 ≤ z ∧ z ≤ 2147483647)) := by
  have hd : (3 : Int) = 2 ∨ (3 : Int) = 3 := by decide
  have hac := hS.2.2.2.2
  refine n_iload_n c_148_0 rfl ?_
  refine n_s1I c_148_1 rfl rfl rfl rfl (misSlot_3 (s := s) hS (by omega)) ?_
  intro z1 M2 hP3
  obtain ⟨eM, f3, f3p0⟩ := hP3
  subst eM
  refine n_if0_eq c_148_4 (by omega) ?_ ?_
  · intro h4
    refine n_fg (le_n (le_n (le_n (le_n (le_n (le_n le_0)))))) ?_
    exact (mact_3_c hS hdm hk hs 94).1  M hS (by omega) (by omega)
  · intro h5
    refine n_iload_n c_148_7 rfl ?_
    refine n_iconst c_148_8 ?_
    refine n_if2_lt c_148_9 (by omega) (by omega) ?_ ?_
    · intro h6
      refine n_fg (le_n (le_n (le_n (le_n (le_n (le_n le_0)))))) ?_
      exact (mact_3_c hS hdm hk hs 94).1  M hS (by omega) (by omega)
    · intro h7
      refine n_iload_n c_148_12 rfl ?_
      refine n_iconst c_148_13 ?_
      refine n_if2_le c_148_14 (by omega) (by omega) ?_ ?_
      · intro h8
        refine n_iconst c_148_20 ?_
        refine n_istore_n (L2 := [some (2, 112), some (0, k), some (0, s), some (0, 0), none, none]) c_148_21 rfl rfl ?_
        refine n_iconst c_148_22 ?_
        refine n_istore (L2 := [some (2, 112), some (0, k), some (0, s), some (0, 0), some (0, 0), none]) c_148_23 rfl rfl ?_
        refine n_fg (le_s (le_s (le_s (le_s (le_s (le_n le_0)))))) ?_
        exact (mact_3_c hS hdm hk hs 94).2.1 _ _ M hS (by omega) (by omega) (by omega) (by omega) (by omega) (by omega)
      · intro h9
        refine n_fg (le_n (le_n (le_n (le_n (le_n (le_n le_0)))))) ?_
        exact (mact_3_c hS hdm hk hs 94).1  M hS (by omega) (by omega)

set_option maxHeartbeats 4000000 in
theorem mcount_3_c {xs : List Int32} {e : Nat} {ac : Int} {M0 M : nM} {w : Int} (hS : Sf 3 ac M0 M) (hdm : M0 112 0 = 3) (hw : -2147483648 ≤ w ∧ w ≤ 2147483647) : ∀ nn : Nat, (∀ (x2 x3 : Int), (-2147483648 ≤ x2 ∧ x2 ≤ 2147483647) → (0 ≤ x3 ∧ x3 ≤ 8) → (8 - x3) * 1 + 1 < (nn : Int) → nW xs e 201 69 [some (2, 112), none, some (0, x2), some (0, x3)] [] M (nPI fun z M1 => M = M1 ∧ (-2147483648 ≤ z ∧ z ≤ 2147483647))) := by
  have hd : (3 : Int) = 2 ∨ (3 : Int) = 3 := by decide
  have hac := hS.2.2.2.2
  intro nn
  induction nn with
  | zero => intros; omega
  | succ nn ih =>
    intro x2 x3 k2 k3 hnn
    refine n_iload_n c_201_69 rfl ?_
    refine n_bipush c_201_70 rfl ?_
    refine n_if2_ge c_201_72 (by omega) (by omega) ?_ ?_
    · intro h1
      refine n_iload_n c_201_98 rfl ?_
      exact n_rI c_201_99 rfl ⟨rfl, by omega⟩
    · intro h2
      refine n_iload_n c_201_75 rfl ?_
      refine n_aload_n c_201_76 rfl ?_
      refine n_getR c_201_77 sc_112.n rfl rfl rfl r_112_1 ?_
      refine n_iload_n c_201_80 rfl ?_
      refine n_ialoadV c_201_81 sc_113.n rfl rfl rfl (by omega) (t_113 hS (by omega)) ?_
      intro z3 ez3 f4
      refine n_if0_ne c_201_82 (by omega) ?_ ?_
      · intro h5
        refine n_iconst c_201_89 ?_
        refine n_iadd c_201_90 rfl ?_
        refine n_wrap ?_
        have f6 := n_wr_r (x2 + 1)
        generalize n_wr (x2 + 1) = z7 at f6 ⊢
        refine n_istore_n (L2 := [some (2, 112), none, some (0, z7), some (0, x3)]) c_201_91 rfl rfl ?_
        refine n_iinc (L2 := [some (2, 112), none, some (0, z7), some (0, (x3 + 1))]) c_201_92 rfl rfl rfl ?_
        refine n_goto c_201_95 ?_
        refine n_fg (le_s (le_n (le_s (le_s le_0)))) ?_
        exact ih _ _ (by omega) (by omega) (by omega)
      · intro h8
        refine n_iconst c_201_85 ?_
        refine n_goto c_201_86 ?_
        refine n_iadd c_201_90 rfl ?_
        refine n_istore_n (L2 := [some (2, 112), none, some (0, (x2 + 0)), some (0, x3)]) c_201_91 rfl rfl ?_
        refine n_iinc (L2 := [some (2, 112), none, some (0, (x2 + 0)), some (0, (x3 + 1))]) c_201_92 rfl rfl rfl ?_
        refine n_goto c_201_95 ?_
        refine n_fg (le_s (le_n (le_s (le_s le_0)))) ?_
        exact ih _ _ (by omega) (by omega) (by omega)
set_option maxHeartbeats 4000000 in
theorem mcount_3 {xs : List Int32} {e : Nat} {ac : Int} {M0 M : nM} {w : Int} (hS : Sf 3 ac M0 M) (hdm : M0 112 0 = 3) (hw : -2147483648 ≤ w ∧ w ≤ 2147483647) : nW xs e 201 0 [some (2, 112), some (0, w), none, none] [] M (nPI fun z M1 => M = M1 ∧ (-2147483648 ≤ z ∧ z ≤ 2147483647)) := by
  have hd : (3 : Int) = 2 ∨ (3 : Int) = 3 := by decide
  have hac := hS.2.2.2.2
  refine n_iload_n c_201_0 rfl ?_
  refine n_sw c_201_1 (by omega) (by decide) ?_ ?_
  · intro h1
    refine n_pc (k2 := 100) rfl ?_
    refine n_iconst c_201_100 ?_
    exact n_rI c_201_101 rfl ⟨rfl, by omega⟩
  · intro h2 h2b
    rcases (show w = 0 ∨ w = 1 ∨ w = 2 ∨ w = 3 ∨ w = 4 ∨ w = 5 by omega) with h2c | h2c | h2c | h2c | h2c | h2c
    · refine ⟨_, by rw [h2c]; rfl, by decide, ?_⟩
      refine n_pc (k2 := 40) rfl ?_
      refine n_aload_n c_201_40 rfl ?_
      refine n_getV (bi := 0) c_201_41 sc_112.n rfl rfl rfl (t_dm hS hdm) ?_
      intro z3 ez3 f4
      obtain rfl : z3 = 3 := by omega
      exact n_rI c_201_44 rfl ⟨rfl, by omega⟩
    · refine ⟨_, by rw [h2c]; rfl, by decide, ?_⟩
      refine n_pc (k2 := 45) rfl ?_
      refine n_aload_n c_201_45 rfl ?_
      refine n_getV (bi := 4) c_201_46 sc_112.n rfl rfl rfl (t_112_4 hS) ?_
      intro z5 ez5 f6
      exact n_rI c_201_49 rfl ⟨rfl, by omega⟩
    · refine ⟨_, by rw [h2c]; rfl, by decide, ?_⟩
      refine n_pc (k2 := 50) rfl ?_
      refine n_aload_n c_201_50 rfl ?_
      refine n_getV (bi := 7) c_201_51 sc_112.n rfl rfl rfl (t_112_7 hS) ?_
      intro z7 ez7 f8
      exact n_rI c_201_54 rfl ⟨rfl, by omega⟩
    · refine ⟨_, by rw [h2c]; rfl, by decide, ?_⟩
      refine n_pc (k2 := 55) rfl ?_
      refine n_aload_n c_201_55 rfl ?_
      refine n_getV (bi := 10) c_201_56 sc_112.n rfl rfl rfl (t_112_10 hS) ?_
      intro z9 ez9 f10
      exact n_rI c_201_59 rfl ⟨rfl, by omega⟩
    · refine ⟨_, by rw [h2c]; rfl, by decide, ?_⟩
      refine n_pc (k2 := 60) rfl ?_
      refine n_aload_n c_201_60 rfl ?_
      refine n_getV (bi := 11) c_201_61 sc_112.n rfl rfl rfl (t_112_11 hS) ?_
      intro z11 ez11 f12
      exact n_rI c_201_64 rfl ⟨rfl, by omega⟩
    · refine ⟨_, by rw [h2c]; rfl, by decide, ?_⟩
      refine n_pc (k2 := 65) rfl ?_
      refine n_iconst c_201_65 ?_
      refine n_istore_n (L2 := [some (2, 112), some (0, w), some (0, 0), none]) c_201_66 rfl rfl ?_
      refine n_iconst c_201_67 ?_
      refine n_istore_n (L2 := [some (2, 112), some (0, w), some (0, 0), some (0, 0)]) c_201_68 rfl rfl ?_
      refine n_fg (le_s (le_n (le_s (le_s le_0)))) ?_
      exact (mcount_3_c hS hdm hw 30) _ _ (by omega) (by omega) (by omega)
