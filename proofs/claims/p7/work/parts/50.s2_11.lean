/-! The methods, by program. -/
set_option maxHeartbeats 4000000 in
theorem mjoins2_2_c {xs : List Int32} {e : Nat} {ac : Int} {M0 M : nM} {n t : Int} (hS : Sf 2 ac M0 M) (hdm : M0 112 0 = 2) (hn : 1 ≤ n ∧ n ≤ 3) (ht : 0 ≤ t ∧ t ≤ 255) : ∀ nn : Nat, (∀ (x4 x5 : Int) (M : nM), Sf 2 ac M0 M → (0 ≤ x4 ∧ x4 ≤ 1000000) → (0 ≤ x5 ∧ x5 ≤ 8) → (8 - x5) * 67082 + 67082 < (nn : Int) → nW xs (e + 1) 165 11 [some (2, 112), some (0, n), some (0, 2), some (0, t), some (0, x4), some (0, x5), none, none, none, none] [] M (nPV fun M1 => Sf 2 ac M0 M1)) ∧ (∀ (x4 x5 x6 : Int) (M : nM), Sf 2 ac M0 M → (0 ≤ x4 ∧ x4 ≤ 1000000) → (0 ≤ x5 ∧ x5 ≤ 7) → (0 ≤ x6 ∧ x6 ≤ 256) → (8 - x5) * 67082 + (256 - x6) * 260 + 261 < (nn : Int) → nW xs (e + 1) 165 56 [some (2, 112), some (0, n), some (0, 2), some (0, t), some (0, x4), some (0, x5), some (0, x6), none, none, none] [] M (nPV fun M1 => Sf 2 ac M0 M1)) ∧ (∀ (x4 x5 x6 x7 x8 : Int) (M : nM), Sf 2 ac M0 M → (0 ≤ x4 ∧ x4 ≤ 1000000) → (0 ≤ x5 ∧ x5 ≤ 7) → (0 ≤ x6 ∧ x6 ≤ 255) → (1 ≤ x7 ∧ x7 ≤ 1000000) → (0 ≤ x8 ∧ x8 ≤ 256) → (8 - x5) * 67082 + (256 - x6) * 260 + (256 - x8) * 1 + 3 < (nn : Int) → nW xs (e + 1) 165 124 [some (2, 112), some (0, n), some (0, 2), some (0, t), some (0, x4), some (0, x5), some (0, x6), some (0, x7), some (0, x8), none] [] M (nPV fun M1 => Sf 2 ac M0 M1)) ∧ (∀ (x4 x5 x6 : Int) (M : nM), Sf 2 ac M0 M → (0 ≤ x4 ∧ x4 ≤ 1000000) → (0 ≤ x5 ∧ x5 ≤ 7) → (0 ≤ x6 ∧ x6 ≤ 255) → (8 - x5) * 67082 + (256 - x6) * 260 + 2 < (nn : Int) → nW xs (e + 1) 165 195 [some (2, 112), some (0, n), some (0, 2), some (0, t), some (0, x4), some (0, x5), some (0, x6), none, none, none] [] M (nPV fun M1 => Sf 2 ac M0 M1)) ∧ (∀ (x4 x5 : Int) (M : nM), Sf 2 ac M0 M → (0 ≤ x4 ∧ x4 ≤ 1000000) → (0 ≤ x5 ∧ x5 ≤ 7) → (8 - x5) * 67082 + 1 < (nn : Int) → nW xs (e + 1) 165 201 [some (2, 112), some (0, n), some (0, 2), some (0, t), some (0, x4), some (0, x5), none, none, none, none] [] M (nPV fun M1 => Sf 2 ac M0 M1)) := by
  have hd : (2 : Int) = 2 ∨ (2 : Int) = 3 := by decide
  have hac := hS.2.2.2.2
  intro nn
  induction nn with
  | zero => refine ⟨?_, ?_, ?_, ?_, ?_⟩ <;> (intros; omega)
  | succ nn ih =>
    refine ⟨?_, ?_, ?_, ?_, ?_⟩
    · intro x4 x5 M hS k4 k5 hnn
      refine n_iload c_165_11 rfl ?_
      refine n_aload_n c_165_13 rfl ?_
      refine n_getV (bi := 4) c_165_14 sc_112.n rfl rfl rfl (t_112_4 hS) ?_
      intro z1 ez1 f2
      refine n_if2_ge c_165_17 (by omega) (by omega) ?_ ?_
      · intro h3
        exact n_rV c_165_207 rfl hS
      · intro h4
        refine n_aload_n c_165_20 rfl ?_
        refine n_getR c_165_21 sc_112.n rfl rfl rfl r_112_5 ?_
        refine n_iload c_165_24 rfl ?_
        refine n_ialoadV c_165_26 sc_116.n rfl rfl rfl (by omega) (t_116 hS (by omega)) ?_
        intro z5 ez5 f6
        refine n_iconst c_165_27 ?_
        refine n_if2_ne c_165_28 (by omega) (by omega) ?_ ?_
        · intro h7
          refine n_iconst c_165_53 ?_
          refine n_istore (L2 := [some (2, 112), some (0, n), some (0, 2), some (0, t), some (0, x4), some (0, x5), some (0, 0), none, none, none]) c_165_54 rfl rfl ?_
          refine n_fg (le_s (le_s (le_s (le_s (le_s (le_s (le_s (le_n (le_n (le_n le_0)))))))))) ?_
          exact ih.2.1 _ _ _ M hS (by omega) (by omega) (by omega) (by omega)
        · intro h8
          refine n_aload_n c_165_31 rfl ?_
          refine n_iload c_165_32 rfl ?_
          refine n_iload_n c_165_34 rfl ?_
          refine n_iload_n c_165_35 rfl ?_
          refine n_iconst c_165_36 ?_
          refine n_iconst c_165_37 ?_
          refine n_ldc (n := 1000000) c_165_38 rfl ?_
          refine n_iload c_165_40 rfl ?_
          refine n_iconst c_165_42 ?_
          refine n_iadd c_165_43 rfl ?_
          refine n_s2I c_165_44 rfl rfl rfl rfl (imin_2 (x := 1000000) (y := (x4 + 1)) hS (by omega) (by omega)) ?_
          intro z9 M10 hP11
          obtain ⟨eM, f11, f11p0⟩ := hP11
          subst eM
          refine n_v6V c_165_47 rfl sc_112.n rfl rfl rfl rfl (mjoined2_2 (a := x5) (x := t) (y := 0) (w := 0) (s := z9) hS hdm (by omega) (by omega) (by omega) (by omega) (by omega)) ?_
          intro  M12 hP13
          have hS12 := hP13
          refine n_goto c_165_50 ?_
          refine n_fg (le_s (le_s (le_s (le_s (le_s (le_s (le_n (le_n (le_n (le_n le_0)))))))))) ?_
          exact ih.2.2.2.2 _ _ M12 hS12 (by omega) (by omega) (by omega)
    · intro x4 x5 x6 M hS k4 k5 k6 hnn
      refine n_iload c_165_56 rfl ?_
      refine n_iload_n c_165_58 rfl ?_
      refine n_if2_gt c_165_59 (by omega) (by omega) ?_ ?_
      · intro h1
        refine n_fg (le_s (le_s (le_s (le_s (le_s (le_s (le_n (le_n (le_n (le_n le_0)))))))))) ?_
        exact ih.2.2.2.2 _ _ M hS (by omega) (by omega) (by omega)
      · intro h2
        refine n_ldc (n := 1000000) c_165_62 rfl ?_
        refine n_iload c_165_64 rfl ?_
        refine n_aload_n c_165_66 rfl ?_
        refine n_iload_n c_165_67 rfl ?_
        refine n_iload c_165_68 rfl ?_
        refine n_v2I c_165_70 rfl sc_112.n rfl rfl rfl rfl (msizeOf_2 (n := n) (i := x6) hS hdm (by omega) (by omega)) ?_
        intro z3 M4 hP5
        obtain ⟨eM, f5⟩ := hP5
        subst eM
        refine n_iadd c_165_73 rfl ?_
        refine n_iconst c_165_74 ?_
        refine n_iadd c_165_75 rfl ?_
        refine n_s2I c_165_76 rfl rfl rfl rfl (imin_2 (x := 1000000) (y := ((x4 + z3) + 1)) hS (by omega) (by omega)) ?_
        intro z6 M7 hP8
        obtain ⟨eM, f8, f8p0⟩ := hP8
        subst eM
        refine n_istore (L2 := [some (2, 112), some (0, n), some (0, 2), some (0, t), some (0, x4), some (0, x5), some (0, x6), some (0, z6), none, none]) c_165_79 rfl rfl ?_
        refine n_aload_n c_165_81 rfl ?_
        refine n_getR c_165_82 sc_112.n rfl rfl rfl r_112_5 ?_
        refine n_iload c_165_85 rfl ?_
        refine n_ialoadV c_165_87 sc_116.n rfl rfl rfl (by omega) (t_116 hS (by omega)) ?_
        intro z9 ez9 f10
        refine n_iconst c_165_88 ?_
        refine n_if2_ne c_165_89 (by omega) (by omega) ?_ ?_
        · intro h11
          refine n_iconst c_165_121 ?_
          refine n_istore (L2 := [some (2, 112), some (0, n), some (0, 2), some (0, t), some (0, x4), some (0, x5), some (0, x6), some (0, z6), some (0, 0), none]) c_165_122 rfl rfl ?_
          refine n_fg (le_s (le_s (le_s (le_s (le_s (le_s (le_s (le_s (le_s (le_n le_0)))))))))) ?_
          exact ih.2.2.1 _ _ _ _ _ M hS (by omega) (by omega) (by omega) (by omega) (by omega) (by omega)
        · intro h12
          refine n_aload_n c_165_92 rfl ?_
          refine n_iload c_165_93 rfl ?_
          refine n_iload_n c_165_95 rfl ?_
          refine n_iload_n c_165_96 rfl ?_
          refine n_iload c_165_97 rfl ?_
          refine n_iconst c_165_99 ?_
          refine n_iload c_165_100 rfl ?_
          refine n_v6V c_165_102 rfl sc_112.n rfl rfl rfl rfl (mjoined2_2 (a := x5) (x := t) (y := x6) (w := 0) (s := z6) hS hdm (by omega) (by omega) (by omega) (by omega) (by omega)) ?_
          intro  M13 hP14
          have hS13 := hP14
          refine n_aload_n c_165_105 rfl ?_
          refine n_iload c_165_106 rfl ?_
          refine n_iload_n c_165_108 rfl ?_
          refine n_iload c_165_109 rfl ?_
          refine n_iload_n c_165_111 rfl ?_
          refine n_iconst c_165_112 ?_
          refine n_iload c_165_113 rfl ?_
          refine n_v6V c_165_115 rfl sc_112.n rfl rfl rfl rfl (mjoined2_2 (a := x5) (x := x6) (y := t) (w := 0) (s := z6) hS13 hdm (by omega) (by omega) (by omega) (by omega) (by omega)) ?_
          intro  M15 hP16
          have hS15 := hP16
          refine n_goto c_165_118 ?_
          refine n_fg (le_s (le_s (le_s (le_s (le_s (le_s (le_s (le_n (le_n (le_n le_0)))))))))) ?_
          exact ih.2.2.2.1 _ _ _ M15 hS15 (by omega) (by omega) (by omega) (by omega)
    · intro x4 x5 x6 x7 x8 M hS k4 k5 k6 k7 k8 hnn
      refine n_iload c_165_124 rfl ?_
      refine n_iload_n c_165_126 rfl ?_
      refine n_if2_gt c_165_127 (by omega) (by omega) ?_ ?_
      · intro h1
        refine n_fg (le_s (le_s (le_s (le_s (le_s (le_s (le_s (le_n (le_n (le_n le_0)))))))))) ?_
        exact ih.2.2.2.1 _ _ _ M hS (by omega) (by omega) (by omega) (by omega)
      · intro h2
        refine n_ldc (n := 1000000) c_165_130 rfl ?_
        refine n_iload c_165_132 rfl ?_
        refine n_aload_n c_165_134 rfl ?_
        refine n_iload_n c_165_135 rfl ?_
        refine n_iload c_165_136 rfl ?_
        refine n_v2I c_165_138 rfl sc_112.n rfl rfl rfl rfl (msizeOf_2 (n := n) (i := x8) hS hdm (by omega) (by omega)) ?_
        intro z3 M4 hP5
        obtain ⟨eM, f5⟩ := hP5
        subst eM
        refine n_iadd c_165_141 rfl ?_
        refine n_s2I c_165_142 rfl rfl rfl rfl (imin_2 (x := 1000000) (y := (x7 + z3)) hS (by omega) (by omega)) ?_
        intro z6 M7 hP8
        obtain ⟨eM, f8, f8p0⟩ := hP8
        subst eM
        refine n_istore (L2 := [some (2, 112), some (0, n), some (0, 2), some (0, t), some (0, x4), some (0, x5), some (0, x6), some (0, x7), some (0, x8), some (0, z6)]) c_165_145 rfl rfl ?_
        refine n_aload_n c_165_147 rfl ?_
        refine n_iload c_165_148 rfl ?_
        refine n_iload_n c_165_150 rfl ?_
        refine n_iload_n c_165_151 rfl ?_
        refine n_iload c_165_152 rfl ?_
        refine n_iload c_165_154 rfl ?_
        refine n_iload c_165_156 rfl ?_
        refine n_v6V c_165_158 rfl sc_112.n rfl rfl rfl rfl (mjoined2_2 (a := x5) (x := t) (y := x6) (w := x8) (s := z6) hS hdm (by omega) (by omega) (by omega) (by omega) (by omega)) ?_
        intro  M9 hP10
        have hS9 := hP10
        refine n_aload_n c_165_161 rfl ?_
        refine n_iload c_165_162 rfl ?_
        refine n_iload_n c_165_164 rfl ?_
        refine n_iload c_165_165 rfl ?_
        refine n_iload_n c_165_167 rfl ?_
        refine n_iload c_165_168 rfl ?_
        refine n_iload c_165_170 rfl ?_
        refine n_v6V c_165_172 rfl sc_112.n rfl rfl rfl rfl (mjoined2_2 (a := x5) (x := x6) (y := t) (w := x8) (s := z6) hS9 hdm (by omega) (by omega) (by omega) (by omega) (by omega)) ?_
        intro  M11 hP12
        have hS11 := hP12
        refine n_aload_n c_165_175 rfl ?_
        refine n_iload c_165_176 rfl ?_
        refine n_iload_n c_165_178 rfl ?_
        refine n_iload c_165_179 rfl ?_
        refine n_iload c_165_181 rfl ?_
        refine n_iload_n c_165_183 rfl ?_
        refine n_iload c_165_184 rfl ?_
        refine n_v6V c_165_186 rfl sc_112.n rfl rfl rfl rfl (mjoined2_2 (a := x5) (x := x6) (y := x8) (w := t) (s := z6) hS11 hdm (by omega) (by omega) (by omega) (by omega) (by omega)) ?_
        intro  M13 hP14
        have hS13 := hP14
        refine n_iinc (L2 := [some (2, 112), some (0, n), some (0, 2), some (0, t), some (0, x4), some (0, x5), some (0, x6), some (0, x7), some (0, (x8 + 1)), some (0, z6)]) c_165_189 rfl rfl rfl ?_
        refine n_goto c_165_192 ?_
        refine n_fg (le_s (le_s (le_s (le_s (le_s (le_s (le_s (le_s (le_s (le_n le_0)))))))))) ?_
        exact ih.2.2.1 _ _ _ _ _ M13 hS13 (by omega) (by omega) (by omega) (by omega) (by omega) (by omega)
    · intro x4 x5 x6 M hS k4 k5 k6 hnn
      refine n_iinc (L2 := [some (2, 112), some (0, n), some (0, 2), some (0, t), some (0, x4), some (0, x5), some (0, (x6 + 1)), none, none, none]) c_165_195 rfl rfl rfl ?_
      refine n_goto c_165_198 ?_
      refine n_fg (le_s (le_s (le_s (le_s (le_s (le_s (le_s (le_n (le_n (le_n le_0)))))))))) ?_
      exact ih.2.1 _ _ _ M hS (by omega) (by omega) (by omega) (by omega)
    · intro x4 x5 M hS k4 k5 hnn
      refine n_iinc (L2 := [some (2, 112), some (0, n), some (0, 2), some (0, t), some (0, x4), some (0, (x5 + 1)), none, none, none, none]) c_165_201 rfl rfl rfl ?_
      refine n_goto c_165_204 ?_
      refine n_fg (le_s (le_s (le_s (le_s (le_s (le_s (le_n (le_n (le_n (le_n le_0)))))))))) ?_
      exact ih.1 _ _ M hS (by omega) (by omega) (by omega)
set_option maxHeartbeats 4000000 in
theorem mjoins2_2 {xs : List Int32} {e : Nat} {ac : Int} {M0 M : nM} {n t : Int} (hS : Sf 2 ac M0 M) (hdm : M0 112 0 = 2) (hn : 1 ≤ n ∧ n ≤ 3) (ht : 0 ≤ t ∧ t ≤ 255) : nW xs (e + 1) 165 0 [some (2, 112), some (0, n), some (0, 2), some (0, t), none, none, none, none, none, none] [] M (nPV fun M1 => Sf 2 ac M0 M1) := by
  have hd : (2 : Int) = 2 ∨ (2 : Int) = 3 := by decide
  have hac := hS.2.2.2.2
  refine n_aload_n c_165_0 rfl ?_
  refine n_iload_n c_165_1 rfl ?_
  refine n_iload_n c_165_2 rfl ?_
  refine n_v2I c_165_3 rfl sc_112.n rfl rfl rfl rfl (msizeOf_2 (n := n) (i := t) hS hdm (by omega) (by omega)) ?_
  intro z1 M2 hP3
  obtain ⟨eM, f3⟩ := hP3
  subst eM
  refine n_istore (L2 := [some (2, 112), some (0, n), some (0, 2), some (0, t), some (0, z1), none, none, none, none, none]) c_165_6 rfl rfl ?_
  refine n_iconst c_165_8 ?_
  refine n_istore (L2 := [some (2, 112), some (0, n), some (0, 2), some (0, t), some (0, z1), some (0, 0), none, none, none, none]) c_165_9 rfl rfl ?_
  refine n_fg (le_s (le_s (le_s (le_s (le_s (le_s (le_n (le_n (le_n (le_n le_0)))))))))) ?_
  exact (mjoins2_2_c hS hdm hn ht 1341650).1 _ _ M hS (by omega) (by omega) (by omega)

set_option maxHeartbeats 4000000 in
theorem mjoins4_2_c {xs : List Int32} {e : Nat} {ac : Int} {M0 M : nM} {n t : Int} (hS : Sf 2 ac M0 M) (hdm : M0 112 0 = 2) (hn : 1 ≤ n ∧ n ≤ 3) (ht : 0 ≤ t ∧ t ≤ 255) : ∀ nn : Nat, (∀ (x4 x5 : Int) (M : nM), Sf 2 ac M0 M → (0 ≤ x4 ∧ x4 ≤ 1000000) → (0 ≤ x5 ∧ x5 ≤ 8) → (8 - x5) * 67082 + 67082 < (nn : Int) → nW xs (e + 1) 165 11 [some (2, 112), some (0, n), some (0, 4), some (0, t), some (0, x4), some (0, x5), none, none, none, none] [] M (nPV fun M1 => Sf 2 ac M0 M1)) ∧ (∀ (x4 x5 x6 : Int) (M : nM), Sf 2 ac M0 M → (0 ≤ x4 ∧ x4 ≤ 1000000) → (0 ≤ x5 ∧ x5 ≤ 7) → (0 ≤ x6 ∧ x6 ≤ 256) → (8 - x5) * 67082 + (256 - x6) * 260 + 261 < (nn : Int) → nW xs (e + 1) 165 56 [some (2, 112), some (0, n), some (0, 4), some (0, t), some (0, x4), some (0, x5), some (0, x6), none, none, none] [] M (nPV fun M1 => Sf 2 ac M0 M1)) ∧ (∀ (x4 x5 x6 x7 x8 : Int) (M : nM), Sf 2 ac M0 M → (0 ≤ x4 ∧ x4 ≤ 1000000) → (0 ≤ x5 ∧ x5 ≤ 7) → (0 ≤ x6 ∧ x6 ≤ 255) → (1 ≤ x7 ∧ x7 ≤ 1000000) → (0 ≤ x8 ∧ x8 ≤ 256) → (8 - x5) * 67082 + (256 - x6) * 260 + (256 - x8) * 1 + 3 < (nn : Int) → nW xs (e + 1) 165 124 [some (2, 112), some (0, n), some (0, 4), some (0, t), some (0, x4), some (0, x5), some (0, x6), some (0, x7), some (0, x8), none] [] M (nPV fun M1 => Sf 2 ac M0 M1)) ∧ (∀ (x4 x5 x6 : Int) (M : nM), Sf 2 ac M0 M → (0 ≤ x4 ∧ x4 ≤ 1000000) → (0 ≤ x5 ∧ x5 ≤ 7) → (0 ≤ x6 ∧ x6 ≤ 255) → (8 - x5) * 67082 + (256 - x6) * 260 + 2 < (nn : Int) → nW xs (e + 1) 165 195 [some (2, 112), some (0, n), some (0, 4), some (0, t), some (0, x4), some (0, x5), some (0, x6), none, none, none] [] M (nPV fun M1 => Sf 2 ac M0 M1)) ∧ (∀ (x4 x5 : Int) (M : nM), Sf 2 ac M0 M → (0 ≤ x4 ∧ x4 ≤ 1000000) → (0 ≤ x5 ∧ x5 ≤ 7) → (8 - x5) * 67082 + 1 < (nn : Int) → nW xs (e + 1) 165 201 [some (2, 112), some (0, n), some (0, 4), some (0, t), some (0, x4), some (0, x5), none, none, none, none] [] M (nPV fun M1 => Sf 2 ac M0 M1)) := by
  have hd : (2 : Int) = 2 ∨ (2 : Int) = 3 := by decide
  have hac := hS.2.2.2.2
  intro nn
  induction nn with
  | zero => refine ⟨?_, ?_, ?_, ?_, ?_⟩ <;> (intros; omega)
  | succ nn ih =>
    refine ⟨?_, ?_, ?_, ?_, ?_⟩
    · intro x4 x5 M hS k4 k5 hnn
      refine n_iload c_165_11 rfl ?_
      refine n_aload_n c_165_13 rfl ?_
      refine n_getV (bi := 4) c_165_14 sc_112.n rfl rfl rfl (t_112_4 hS) ?_
      intro z1 ez1 f2
      refine n_if2_ge c_165_17 (by omega) (by omega) ?_ ?_
      · intro h3
        exact n_rV c_165_207 rfl hS
      · intro h4
        refine n_aload_n c_165_20 rfl ?_
        refine n_getR c_165_21 sc_112.n rfl rfl rfl r_112_5 ?_
        refine n_iload c_165_24 rfl ?_
        refine n_ialoadV c_165_26 sc_116.n rfl rfl rfl (by omega) (t_116 hS (by omega)) ?_
        intro z5 ez5 f6
        refine n_iconst c_165_27 ?_
        refine n_if2_ne c_165_28 (by omega) (by omega) ?_ ?_
        · intro h7
          refine n_iconst c_165_53 ?_
          refine n_istore (L2 := [some (2, 112), some (0, n), some (0, 4), some (0, t), some (0, x4), some (0, x5), some (0, 0), none, none, none]) c_165_54 rfl rfl ?_
          refine n_fg (le_s (le_s (le_s (le_s (le_s (le_s (le_s (le_n (le_n (le_n le_0)))))))))) ?_
          exact ih.2.1 _ _ _ M hS (by omega) (by omega) (by omega) (by omega)
        · intro h8
          refine n_aload_n c_165_31 rfl ?_
          refine n_iload c_165_32 rfl ?_
          refine n_iload_n c_165_34 rfl ?_
          refine n_iload_n c_165_35 rfl ?_
          refine n_iconst c_165_36 ?_
          refine n_iconst c_165_37 ?_
          refine n_ldc (n := 1000000) c_165_38 rfl ?_
          refine n_iload c_165_40 rfl ?_
          refine n_iconst c_165_42 ?_
          refine n_iadd c_165_43 rfl ?_
          refine n_s2I c_165_44 rfl rfl rfl rfl (imin_2 (x := 1000000) (y := (x4 + 1)) hS (by omega) (by omega)) ?_
          intro z9 M10 hP11
          obtain ⟨eM, f11, f11p0⟩ := hP11
          subst eM
          refine n_v6V c_165_47 rfl sc_112.n rfl rfl rfl rfl (mjoined4_2 (a := x5) (x := t) (y := 0) (w := 0) (s := z9) hS hdm (by omega) (by omega) (by omega) (by omega) (by omega)) ?_
          intro  M12 hP13
          have hS12 := hP13
          refine n_goto c_165_50 ?_
          refine n_fg (le_s (le_s (le_s (le_s (le_s (le_s (le_n (le_n (le_n (le_n le_0)))))))))) ?_
          exact ih.2.2.2.2 _ _ M12 hS12 (by omega) (by omega) (by omega)
    · intro x4 x5 x6 M hS k4 k5 k6 hnn
      refine n_iload c_165_56 rfl ?_
      refine n_iload_n c_165_58 rfl ?_
      refine n_if2_gt c_165_59 (by omega) (by omega) ?_ ?_
      · intro h1
        refine n_fg (le_s (le_s (le_s (le_s (le_s (le_s (le_n (le_n (le_n (le_n le_0)))))))))) ?_
        exact ih.2.2.2.2 _ _ M hS (by omega) (by omega) (by omega)
      · intro h2
        refine n_ldc (n := 1000000) c_165_62 rfl ?_
        refine n_iload c_165_64 rfl ?_
        refine n_aload_n c_165_66 rfl ?_
        refine n_iload_n c_165_67 rfl ?_
        refine n_iload c_165_68 rfl ?_
        refine n_v2I c_165_70 rfl sc_112.n rfl rfl rfl rfl (msizeOf_2 (n := n) (i := x6) hS hdm (by omega) (by omega)) ?_
        intro z3 M4 hP5
        obtain ⟨eM, f5⟩ := hP5
        subst eM
        refine n_iadd c_165_73 rfl ?_
        refine n_iconst c_165_74 ?_
        refine n_iadd c_165_75 rfl ?_
        refine n_s2I c_165_76 rfl rfl rfl rfl (imin_2 (x := 1000000) (y := ((x4 + z3) + 1)) hS (by omega) (by omega)) ?_
        intro z6 M7 hP8
        obtain ⟨eM, f8, f8p0⟩ := hP8
        subst eM
        refine n_istore (L2 := [some (2, 112), some (0, n), some (0, 4), some (0, t), some (0, x4), some (0, x5), some (0, x6), some (0, z6), none, none]) c_165_79 rfl rfl ?_
        refine n_aload_n c_165_81 rfl ?_
        refine n_getR c_165_82 sc_112.n rfl rfl rfl r_112_5 ?_
        refine n_iload c_165_85 rfl ?_
        refine n_ialoadV c_165_87 sc_116.n rfl rfl rfl (by omega) (t_116 hS (by omega)) ?_
        intro z9 ez9 f10
        refine n_iconst c_165_88 ?_
        refine n_if2_ne c_165_89 (by omega) (by omega) ?_ ?_
        · intro h11
          refine n_iconst c_165_121 ?_
          refine n_istore (L2 := [some (2, 112), some (0, n), some (0, 4), some (0, t), some (0, x4), some (0, x5), some (0, x6), some (0, z6), some (0, 0), none]) c_165_122 rfl rfl ?_
          refine n_fg (le_s (le_s (le_s (le_s (le_s (le_s (le_s (le_s (le_s (le_n le_0)))))))))) ?_
          exact ih.2.2.1 _ _ _ _ _ M hS (by omega) (by omega) (by omega) (by omega) (by omega) (by omega)
        · intro h12
          refine n_aload_n c_165_92 rfl ?_
          refine n_iload c_165_93 rfl ?_
          refine n_iload_n c_165_95 rfl ?_
          refine n_iload_n c_165_96 rfl ?_
          refine n_iload c_165_97 rfl ?_
          refine n_iconst c_165_99 ?_
          refine n_iload c_165_100 rfl ?_
          refine n_v6V c_165_102 rfl sc_112.n rfl rfl rfl rfl (mjoined4_2 (a := x5) (x := t) (y := x6) (w := 0) (s := z6) hS hdm (by omega) (by omega) (by omega) (by omega) (by omega)) ?_
          intro  M13 hP14
          have hS13 := hP14
          refine n_aload_n c_165_105 rfl ?_
          refine n_iload c_165_106 rfl ?_
          refine n_iload_n c_165_108 rfl ?_
          refine n_iload c_165_109 rfl ?_
          refine n_iload_n c_165_111 rfl ?_
          refine n_iconst c_165_112 ?_
          refine n_iload c_165_113 rfl ?_
          refine n_v6V c_165_115 rfl sc_112.n rfl rfl rfl rfl (mjoined4_2 (a := x5) (x := x6) (y := t) (w := 0) (s := z6) hS13 hdm (by omega) (by omega) (by omega) (by omega) (by omega)) ?_
          intro  M15 hP16
          have hS15 := hP16
          refine n_goto c_165_118 ?_
          refine n_fg (le_s (le_s (le_s (le_s (le_s (le_s (le_s (le_n (le_n (le_n le_0)))))))))) ?_
          exact ih.2.2.2.1 _ _ _ M15 hS15 (by omega) (by omega) (by omega) (by omega)
    · intro x4 x5 x6 x7 x8 M hS k4 k5 k6 k7 k8 hnn
      refine n_iload c_165_124 rfl ?_
      refine n_iload_n c_165_126 rfl ?_
      refine n_if2_gt c_165_127 (by omega) (by omega) ?_ ?_
      · intro h1
        refine n_fg (le_s (le_s (le_s (le_s (le_s (le_s (le_s (le_n (le_n (le_n le_0)))))))))) ?_
        exact ih.2.2.2.1 _ _ _ M hS (by omega) (by omega) (by omega) (by omega)
      · intro h2
        refine n_ldc (n := 1000000) c_165_130 rfl ?_
        refine n_iload c_165_132 rfl ?_
        refine n_aload_n c_165_134 rfl ?_
        refine n_iload_n c_165_135 rfl ?_
        refine n_iload c_165_136 rfl ?_
        refine n_v2I c_165_138 rfl sc_112.n rfl rfl rfl rfl (msizeOf_2 (n := n) (i := x8) hS hdm (by omega) (by omega)) ?_
        intro z3 M4 hP5
        obtain ⟨eM, f5⟩ := hP5
        subst eM
        refine n_iadd c_165_141 rfl ?_
        refine n_s2I c_165_142 rfl rfl rfl rfl (imin_2 (x := 1000000) (y := (x7 + z3)) hS (by omega) (by omega)) ?_
        intro z6 M7 hP8
        obtain ⟨eM, f8, f8p0⟩ := hP8
        subst eM
        refine n_istore (L2 := [some (2, 112), some (0, n), some (0, 4), some (0, t), some (0, x4), some (0, x5), some (0, x6), some (0, x7), some (0, x8), some (0, z6)]) c_165_145 rfl rfl ?_
        refine n_aload_n c_165_147 rfl ?_
        refine n_iload c_165_148 rfl ?_
        refine n_iload_n c_165_150 rfl ?_
        refine n_iload_n c_165_151 rfl ?_
        refine n_iload c_165_152 rfl ?_
        refine n_iload c_165_154 rfl ?_
        refine n_iload c_165_156 rfl ?_
        refine n_v6V c_165_158 rfl sc_112.n rfl rfl rfl rfl (mjoined4_2 (a := x5) (x := t) (y := x6) (w := x8) (s := z6) hS hdm (by omega) (by omega) (by omega) (by omega) (by omega)) ?_
        intro  M9 hP10
        have hS9 := hP10
        refine n_aload_n c_165_161 rfl ?_
        refine n_iload c_165_162 rfl ?_
        refine n_iload_n c_165_164 rfl ?_
        refine n_iload c_165_165 rfl ?_
        refine n_iload_n c_165_167 rfl ?_
        refine n_iload c_165_168 rfl ?_
        refine n_iload c_165_170 rfl ?_
        refine n_v6V c_165_172 rfl sc_112.n rfl rfl rfl rfl (mjoined4_2 (a := x5) (x := x6) (y := t) (w := x8) (s := z6) hS9 hdm (by omega) (by omega) (by omega) (by omega) (by omega)) ?_
        intro  M11 hP12
        have hS11 := hP12
        refine n_aload_n c_165_175 rfl ?_
        refine n_iload c_165_176 rfl ?_
        refine n_iload_n c_165_178 rfl ?_
        refine n_iload c_165_179 rfl ?_
        refine n_iload c_165_181 rfl ?_
        refine n_iload_n c_165_183 rfl ?_
        refine n_iload c_165_184 rfl ?_
        refine n_v6V c_165_186 rfl sc_112.n rfl rfl rfl rfl (mjoined4_2 (a := x5) (x := x6) (y := x8) (w := t) (s := z6) hS11 hdm (by omega) (by omega) (by omega) (by omega) (by omega)) ?_
        intro  M13 hP14
        have hS13 := hP14
        refine n_iinc (L2 := [some (2, 112), some (0, n), some (0, 4), some (0, t), some (0, x4), some (0, x5), some (0, x6), some (0, x7), some (0, (x8 + 1)), some (0, z6)]) c_165_189 rfl rfl rfl ?_
        refine n_goto c_165_192 ?_
        refine n_fg (le_s (le_s (le_s (le_s (le_s (le_s (le_s (le_s (le_s (le_n le_0)))))))))) ?_
        exact ih.2.2.1 _ _ _ _ _ M13 hS13 (by omega) (by omega) (by omega) (by omega) (by omega) (by omega)
    · intro x4 x5 x6 M hS k4 k5 k6 hnn
      refine n_iinc (L2 := [some (2, 112), some (0, n), some (0, 4), some (0, t), some (0, x4), some (0, x5), some (0, (x6 + 1)), none, none, none]) c_165_195 rfl rfl rfl ?_
      refine n_goto c_165_198 ?_
      refine n_fg (le_s (le_s (le_s (le_s (le_s (le_s (le_s (le_n (le_n (le_n le_0)))))))))) ?_
      exact ih.2.1 _ _ _ M hS (by omega) (by omega) (by omega) (by omega)
    · intro x4 x5 M hS k4 k5 hnn
      refine n_iinc (L2 := [some (2, 112), some (0, n), some (0, 4), some (0, t), some (0, x4), some (0, (x5 + 1)), none, none, none, none]) c_165_201 rfl rfl rfl ?_
      refine n_goto c_165_204 ?_
      refine n_fg (le_s (le_s (le_s (le_s (le_s (le_s (le_n (le_n (le_n (le_n le_0)))))))))) ?_
      exact ih.1 _ _ M hS (by omega) (by omega) (by omega)
set_option maxHeartbeats 4000000 in
theorem mjoins4_2 {xs : List Int32} {e : Nat} {ac : Int} {M0 M : nM} {n t : Int} (hS : Sf 2 ac M0 M) (hdm : M0 112 0 = 2) (hn : 1 ≤ n ∧ n ≤ 3) (ht : 0 ≤ t ∧ t ≤ 255) : nW xs (e + 1) 165 0 [some (2, 112), some (0, n), some (0, 4), some (0, t), none, none, none, none, none, none] [] M (nPV fun M1 => Sf 2 ac M0 M1) := by
  have hd : (2 : Int) = 2 ∨ (2 : Int) = 3 := by decide
  have hac := hS.2.2.2.2
  refine n_aload_n c_165_0 rfl ?_
  refine n_iload_n c_165_1 rfl ?_
  refine n_iload_n c_165_2 rfl ?_
  refine n_v2I c_165_3 rfl sc_112.n rfl rfl rfl rfl (msizeOf_2 (n := n) (i := t) hS hdm (by omega) (by omega)) ?_
  intro z1 M2 hP3
  obtain ⟨eM, f3⟩ := hP3
  subst eM
  refine n_istore (L2 := [some (2, 112), some (0, n), some (0, 4), some (0, t), some (0, z1), none, none, none, none, none]) c_165_6 rfl rfl ?_
  refine n_iconst c_165_8 ?_
  refine n_istore (L2 := [some (2, 112), some (0, n), some (0, 4), some (0, t), some (0, z1), some (0, 0), none, none, none, none]) c_165_9 rfl rfl ?_
  refine n_fg (le_s (le_s (le_s (le_s (le_s (le_s (le_n (le_n (le_n (le_n le_0)))))))))) ?_
  exact (mjoins4_2_c hS hdm hn ht 1341650).1 _ _ M hS (by omega) (by omega) (by omega)

set_option maxHeartbeats 4000000 in
theorem mjoins8_2_c {xs : List Int32} {e : Nat} {ac : Int} {M0 M : nM} {n t : Int} (hS : Sf 2 ac M0 M) (hdm : M0 112 0 = 2) (hn : 1 ≤ n ∧ n ≤ 3) (ht : 0 ≤ t ∧ t ≤ 255) : ∀ nn : Nat, (∀ (x4 x5 : Int) (M : nM), Sf 2 ac M0 M → (0 ≤ x4 ∧ x4 ≤ 1000000) → (0 ≤ x5 ∧ x5 ≤ 8) → (8 - x5) * 67082 + 67082 < (nn : Int) → nW xs (e + 1) 165 11 [some (2, 112), some (0, n), some (0, 8), some (0, t), some (0, x4), some (0, x5), none, none, none, none] [] M (nPV fun M1 => Sf 2 ac M0 M1)) ∧ (∀ (x4 x5 x6 : Int) (M : nM), Sf 2 ac M0 M → (0 ≤ x4 ∧ x4 ≤ 1000000) → (0 ≤ x5 ∧ x5 ≤ 7) → (0 ≤ x6 ∧ x6 ≤ 256) → (8 - x5) * 67082 + (256 - x6) * 260 + 261 < (nn : Int) → nW xs (e + 1) 165 56 [some (2, 112), some (0, n), some (0, 8), some (0, t), some (0, x4), some (0, x5), some (0, x6), none, none, none] [] M (nPV fun M1 => Sf 2 ac M0 M1)) ∧ (∀ (x4 x5 x6 x7 x8 : Int) (M : nM), Sf 2 ac M0 M → (0 ≤ x4 ∧ x4 ≤ 1000000) → (0 ≤ x5 ∧ x5 ≤ 7) → (0 ≤ x6 ∧ x6 ≤ 255) → (1 ≤ x7 ∧ x7 ≤ 1000000) → (0 ≤ x8 ∧ x8 ≤ 256) → (8 - x5) * 67082 + (256 - x6) * 260 + (256 - x8) * 1 + 3 < (nn : Int) → nW xs (e + 1) 165 124 [some (2, 112), some (0, n), some (0, 8), some (0, t), some (0, x4), some (0, x5), some (0, x6), some (0, x7), some (0, x8), none] [] M (nPV fun M1 => Sf 2 ac M0 M1)) ∧ (∀ (x4 x5 x6 : Int) (M : nM), Sf 2 ac M0 M → (0 ≤ x4 ∧ x4 ≤ 1000000) → (0 ≤ x5 ∧ x5 ≤ 7) → (0 ≤ x6 ∧ x6 ≤ 255) → (8 - x5) * 67082 + (256 - x6) * 260 + 2 < (nn : Int) → nW xs (e + 1) 165 195 [some (2, 112), some (0, n), some (0, 8), some (0, t), some (0, x4), some (0, x5), some (0, x6), none, none, none] [] M (nPV fun M1 => Sf 2 ac M0 M1)) ∧ (∀ (x4 x5 : Int) (M : nM), Sf 2 ac M0 M → (0 ≤ x4 ∧ x4 ≤ 1000000) → (0 ≤ x5 ∧ x5 ≤ 7) → (8 - x5) * 67082 + 1 < (nn : Int) → nW xs (e + 1) 165 201 [some (2, 112), some (0, n), some (0, 8), some (0, t), some (0, x4), some (0, x5), none, none, none, none] [] M (nPV fun M1 => Sf 2 ac M0 M1)) := by
  have hd : (2 : Int) = 2 ∨ (2 : Int) = 3 := by decide
  have hac := hS.2.2.2.2
  intro nn
  induction nn with
  | zero => refine ⟨?_, ?_, ?_, ?_, ?_⟩ <;> (intros; omega)
  | succ nn ih =>
    refine ⟨?_, ?_, ?_, ?_, ?_⟩
    · intro x4 x5 M hS k4 k5 hnn
      refine n_iload c_165_11 rfl ?_
      refine n_aload_n c_165_13 rfl ?_
      refine n_getV (bi := 4) c_165_14 sc_112.n rfl rfl rfl (t_112_4 hS) ?_
      intro z1 ez1 f2
      refine n_if2_ge c_165_17 (by omega) (by omega) ?_ ?_
      · intro h3
        exact n_rV c_165_207 rfl hS
      · intro h4
        refine n_aload_n c_165_20 rfl ?_
        refine n_getR c_165_21 sc_112.n rfl rfl rfl r_112_5 ?_
        refine n_iload c_165_24 rfl ?_
        refine n_ialoadV c_165_26 sc_116.n rfl rfl rfl (by omega) (t_116 hS (by omega)) ?_
        intro z5 ez5 f6
        refine n_iconst c_165_27 ?_
        refine n_if2_ne c_165_28 (by omega) (by omega) ?_ ?_
        · intro h7
          refine n_iconst c_165_53 ?_
          refine n_istore (L2 := [some (2, 112), some (0, n), some (0, 8), some (0, t), some (0, x4), some (0, x5), some (0, 0), none, none, none]) c_165_54 rfl rfl ?_
          refine n_fg (le_s (le_s (le_s (le_s (le_s (le_s (le_s (le_n (le_n (le_n le_0)))))))))) ?_
          exact ih.2.1 _ _ _ M hS (by omega) (by omega) (by omega) (by omega)
        · intro h8
          refine n_aload_n c_165_31 rfl ?_
          refine n_iload c_165_32 rfl ?_
          refine n_iload_n c_165_34 rfl ?_
          refine n_iload_n c_165_35 rfl ?_
          refine n_iconst c_165_36 ?_
          refine n_iconst c_165_37 ?_
          refine n_ldc (n := 1000000) c_165_38 rfl ?_
          refine n_iload c_165_40 rfl ?_
          refine n_iconst c_165_42 ?_
          refine n_iadd c_165_43 rfl ?_
          refine n_s2I c_165_44 rfl rfl rfl rfl (imin_2 (x := 1000000) (y := (x4 + 1)) hS (by omega) (by omega)) ?_
          intro z9 M10 hP11
          obtain ⟨eM, f11, f11p0⟩ := hP11
          subst eM
          refine n_v6V c_165_47 rfl sc_112.n rfl rfl rfl rfl (mjoined8_2 (a := x5) (x := t) (y := 0) (w := 0) (s := z9) hS hdm (by omega) (by omega) (by omega) (by omega) (by omega)) ?_
          intro  M12 hP13
          have hS12 := hP13
          refine n_goto c_165_50 ?_
          refine n_fg (le_s (le_s (le_s (le_s (le_s (le_s (le_n (le_n (le_n (le_n le_0)))))))))) ?_
          exact ih.2.2.2.2 _ _ M12 hS12 (by omega) (by omega) (by omega)
    · intro x4 x5 x6 M hS k4 k5 k6 hnn
      refine n_iload c_165_56 rfl ?_
      refine n_iload_n c_165_58 rfl ?_
      refine n_if2_gt c_165_59 (by omega) (by omega) ?_ ?_
      · intro h1
        refine n_fg (le_s (le_s (le_s (le_s (le_s (le_s (le_n (le_n (le_n (le_n le_0)))))))))) ?_
        exact ih.2.2.2.2 _ _ M hS (by omega) (by omega) (by omega)
      · intro h2
        refine n_ldc (n := 1000000) c_165_62 rfl ?_
        refine n_iload c_165_64 rfl ?_
        refine n_aload_n c_165_66 rfl ?_
        refine n_iload_n c_165_67 rfl ?_
        refine n_iload c_165_68 rfl ?_
        refine n_v2I c_165_70 rfl sc_112.n rfl rfl rfl rfl (msizeOf_2 (n := n) (i := x6) hS hdm (by omega) (by omega)) ?_
        intro z3 M4 hP5
        obtain ⟨eM, f5⟩ := hP5
        subst eM
        refine n_iadd c_165_73 rfl ?_
        refine n_iconst c_165_74 ?_
        refine n_iadd c_165_75 rfl ?_
        refine n_s2I c_165_76 rfl rfl rfl rfl (imin_2 (x := 1000000) (y := ((x4 + z3) + 1)) hS (by omega) (by omega)) ?_
        intro z6 M7 hP8
        obtain ⟨eM, f8, f8p0⟩ := hP8
        subst eM
        refine n_istore (L2 := [some (2, 112), some (0, n), some (0, 8), some (0, t), some (0, x4), some (0, x5), some (0, x6), some (0, z6), none, none]) c_165_79 rfl rfl ?_
        refine n_aload_n c_165_81 rfl ?_
        refine n_getR c_165_82 sc_112.n rfl rfl rfl r_112_5 ?_
        refine n_iload c_165_85 rfl ?_
        refine n_ialoadV c_165_87 sc_116.n rfl rfl rfl (by omega) (t_116 hS (by omega)) ?_
        intro z9 ez9 f10
        refine n_iconst c_165_88 ?_
        refine n_if2_ne c_165_89 (by omega) (by omega) ?_ ?_
        · intro h11
          refine n_iconst c_165_121 ?_
          refine n_istore (L2 := [some (2, 112), some (0, n), some (0, 8), some (0, t), some (0, x4), some (0, x5), some (0, x6), some (0, z6), some (0, 0), none]) c_165_122 rfl rfl ?_
          refine n_fg (le_s (le_s (le_s (le_s (le_s (le_s (le_s (le_s (le_s (le_n le_0)))))))))) ?_
          exact ih.2.2.1 _ _ _ _ _ M hS (by omega) (by omega) (by omega) (by omega) (by omega) (by omega)
        · intro h12
          refine n_aload_n c_165_92 rfl ?_
          refine n_iload c_165_93 rfl ?_
          refine n_iload_n c_165_95 rfl ?_
          refine n_iload_n c_165_96 rfl ?_
          refine n_iload c_165_97 rfl ?_
          refine n_iconst c_165_99 ?_
          refine n_iload c_165_100 rfl ?_
          refine n_v6V c_165_102 rfl sc_112.n rfl rfl rfl rfl (mjoined8_2 (a := x5) (x := t) (y := x6) (w := 0) (s := z6) hS hdm (by omega) (by omega) (by omega) (by omega) (by omega)) ?_
          intro  M13 hP14
          have hS13 := hP14
          refine n_aload_n c_165_105 rfl ?_
          refine n_iload c_165_106 rfl ?_
          refine n_iload_n c_165_108 rfl ?_
          refine n_iload c_165_109 rfl ?_
          refine n_iload_n c_165_111 rfl ?_
          refine n_iconst c_165_112 ?_
          refine n_iload c_165_113 rfl ?_
          refine n_v6V c_165_115 rfl sc_112.n rfl rfl rfl rfl (mjoined8_2 (a := x5) (x := x6) (y := t) (w := 0) (s := z6) hS13 hdm (by omega) (by omega) (by omega) (by omega) (by omega)) ?_
          intro  M15 hP16
          have hS15 := hP16
          refine n_goto c_165_118 ?_
          refine n_fg (le_s (le_s (le_s (le_s (le_s (le_s (le_s (le_n (le_n (le_n le_0)))))))))) ?_
          exact ih.2.2.2.1 _ _ _ M15 hS15 (by omega) (by omega) (by omega) (by omega)
    · intro x4 x5 x6 x7 x8 M hS k4 k5 k6 k7 k8 hnn
      refine n_iload c_165_124 rfl ?_
      refine n_iload_n c_165_126 rfl ?_
      refine n_if2_gt c_165_127 (by omega) (by omega) ?_ ?_
      · intro h1
        refine n_fg (le_s (le_s (le_s (le_s (le_s (le_s (le_s (le_n (le_n (le_n le_0)))))))))) ?_
        exact ih.2.2.2.1 _ _ _ M hS (by omega) (by omega) (by omega) (by omega)
      · intro h2
        refine n_ldc (n := 1000000) c_165_130 rfl ?_
        refine n_iload c_165_132 rfl ?_
        refine n_aload_n c_165_134 rfl ?_
        refine n_iload_n c_165_135 rfl ?_
        refine n_iload c_165_136 rfl ?_
        refine n_v2I c_165_138 rfl sc_112.n rfl rfl rfl rfl (msizeOf_2 (n := n) (i := x8) hS hdm (by omega) (by omega)) ?_
        intro z3 M4 hP5
        obtain ⟨eM, f5⟩ := hP5
        subst eM
        refine n_iadd c_165_141 rfl ?_
        refine n_s2I c_165_142 rfl rfl rfl rfl (imin_2 (x := 1000000) (y := (x7 + z3)) hS (by omega) (by omega)) ?_
        intro z6 M7 hP8
        obtain ⟨eM, f8, f8p0⟩ := hP8
        subst eM
        refine n_istore (L2 := [some (2, 112), some (0, n), some (0, 8), some (0, t), some (0, x4), some (0, x5), some (0, x6), some (0, x7), some (0, x8), some (0, z6)]) c_165_145 rfl rfl ?_
        refine n_aload_n c_165_147 rfl ?_
        refine n_iload c_165_148 rfl ?_
        refine n_iload_n c_165_150 rfl ?_
        refine n_iload_n c_165_151 rfl ?_
        refine n_iload c_165_152 rfl ?_
        refine n_iload c_165_154 rfl ?_
        refine n_iload c_165_156 rfl ?_
        refine n_v6V c_165_158 rfl sc_112.n rfl rfl rfl rfl (mjoined8_2 (a := x5) (x := t) (y := x6) (w := x8) (s := z6) hS hdm (by omega) (by omega) (by omega) (by omega) (by omega)) ?_
        intro  M9 hP10
        have hS9 := hP10
        refine n_aload_n c_165_161 rfl ?_
        refine n_iload c_165_162 rfl ?_
        refine n_iload_n c_165_164 rfl ?_
        refine n_iload c_165_165 rfl ?_
        refine n_iload_n c_165_167 rfl ?_
        refine n_iload c_165_168 rfl ?_
        refine n_iload c_165_170 rfl ?_
        refine n_v6V c_165_172 rfl sc_112.n rfl rfl rfl rfl (mjoined8_2 (a := x5) (x := x6) (y := t) (w := x8) (s := z6) hS9 hdm (by omega) (by omega) (by omega) (by omega) (by omega)) ?_
        intro  M11 hP12
        have hS11 := hP12
        refine n_aload_n c_165_175 rfl ?_
        refine n_iload c_165_176 rfl ?_
        refine n_iload_n c_165_178 rfl ?_
        refine n_iload c_165_179 rfl ?_
        refine n_iload c_165_181 rfl ?_
        refine n_iload_n c_165_183 rfl ?_
        refine n_iload c_165_184 rfl ?_
        refine n_v6V c_165_186 rfl sc_112.n rfl rfl rfl rfl (mjoined8_2 (a := x5) (x := x6) (y := x8) (w := t) (s := z6) hS11 hdm (by omega) (by omega) (by omega) (by omega) (by omega)) ?_
        intro  M13 hP14
        have hS13 := hP14
        refine n_iinc (L2 := [some (2, 112), some (0, n), some (0, 8), some (0, t), some (0, x4), some (0, x5), some (0, x6), some (0, x7), some (0, (x8 + 1)), some (0, z6)]) c_165_189 rfl rfl rfl ?_
        refine n_goto c_165_192 ?_
        refine n_fg (le_s (le_s (le_s (le_s (le_s (le_s (le_s (le_s (le_s (le_n le_0)))))))))) ?_
        exact ih.2.2.1 _ _ _ _ _ M13 hS13 (by omega) (by omega) (by omega) (by omega) (by omega) (by omega)
    · intro x4 x5 x6 M hS k4 k5 k6 hnn
      refine n_iinc (L2 := [some (2, 112), some (0, n), some (0, 8), some (0, t), some (0, x4), some (0, x5), some (0, (x6 + 1)), none, none, none]) c_165_195 rfl rfl rfl ?_
      refine n_goto c_165_198 ?_
      refine n_fg (le_s (le_s (le_s (le_s (le_s (le_s (le_s (le_n (le_n (le_n le_0)))))))))) ?_
      exact ih.2.1 _ _ _ M hS (by omega) (by omega) (by omega) (by omega)
    · intro x4 x5 M hS k4 k5 hnn
      refine n_iinc (L2 := [some (2, 112), some (0, n), some (0, 8), some (0, t), some (0, x4), some (0, (x5 + 1)), none, none, none, none]) c_165_201 rfl rfl rfl ?_
      refine n_goto c_165_204 ?_
      refine n_fg (le_s (le_s (le_s (le_s (le_s (le_s (le_n (le_n (le_n (le_n le_0)))))))))) ?_
      exact ih.1 _ _ M hS (by omega) (by omega) (by omega)
set_option maxHeartbeats 4000000 in
theorem mjoins8_2 {xs : List Int32} {e : Nat} {ac : Int} {M0 M : nM} {n t : Int} (hS : Sf 2 ac M0 M) (hdm : M0 112 0 = 2) (hn : 1 ≤ n ∧ n ≤ 3) (ht : 0 ≤ t ∧ t ≤ 255) : nW xs (e + 1) 165 0 [some (2, 112), some (0, n), some (0, 8), some (0, t), none, none, none, none, none, none] [] M (nPV fun M1 => Sf 2 ac M0 M1) := by
  have hd : (2 : Int) = 2 ∨ (2 : Int) = 3 := by decide
  have hac := hS.2.2.2.2
  refine n_aload_n c_165_0 rfl ?_
  refine n_iload_n c_165_1 rfl ?_
  refine n_iload_n c_165_2 rfl ?_
  refine n_v2I c_165_3 rfl sc_112.n rfl rfl rfl rfl (msizeOf_2 (n := n) (i := t) hS hdm (by omega) (by omega)) ?_
  intro z1 M2 hP3
  obtain ⟨eM, f3⟩ := hP3
  subst eM
  refine n_istore (L2 := [some (2, 112), some (0, n), some (0, 8), some (0, t), some (0, z1), none, none, none, none, none]) c_165_6 rfl rfl ?_
  refine n_iconst c_165_8 ?_
  refine n_istore (L2 := [some (2, 112), some (0, n), some (0, 8), some (0, t), some (0, z1), some (0, 0), none, none, none, none]) c_165_9 rfl rfl ?_
  refine n_fg (le_s (le_s (le_s (le_s (le_s (le_s (le_n (le_n (le_n (le_n le_0)))))))))) ?_
  exact (mjoins8_2_c hS hdm hn ht 1341650).1 _ _ M hS (by omega) (by omega) (by omega)

set_option maxHeartbeats 4000000 in
theorem mordered_2_c {xs : List Int32} {e : Nat} {ac : Int} {M0 M : nM} {n m : Int} (hS : Sf 2 ac M0 M) (hdm : M0 112 0 = 2) (hn : 1 ≤ n ∧ n ≤ 3) (hm : 0 ≤ m ∧ m ≤ 256) : ∀ nn : Nat, (∀ (x3 : Int) (M : nM), Sf 2 ac M0 M → (1 ≤ x3 ∧ x3 ≤ 256) → (256 - x3) * 516 + 516 < (nn : Int) → nW xs (e + 1) 166 2 [some (2, 112), some (0, n), some (0, m), some (0, x3), none, none, none] [] M (nPV fun M1 => Sf 2 ac M0 M1)) ∧ (∀ (x3 x4 x5 x6 : Int) (M : nM), Sf 2 ac M0 M → (2 ≤ m ∧ m ≤ 256) → (1 ≤ x3 ∧ x3 ≤ 255) → (0 ≤ x4 ∧ x4 ≤ 19682) → (0 ≤ x5 ∧ x5 ≤ 1000000) → (0 ≤ x6 ∧ x6 ≤ 255) → (256 - x3) * 516 + (x6 - 0) * 2 + 3 < (nn : Int) → nW xs (e + 1) 166 38 [some (2, 112), some (0, n), some (0, m), some (0, x3), some (0, x4), some (0, x5), some (0, x6)] [] M (nPV fun M1 => Sf 2 ac M0 M1)) ∧ (∀ (x3 x4 x5 x6 : Int) (M : nM), Sf 2 ac M0 M → (2 ≤ m ∧ m ≤ 256) → (1 ≤ x3 ∧ x3 ≤ 255) → (0 ≤ x4 ∧ x4 ≤ 19682) → (0 ≤ x5 ∧ x5 ≤ 1000000) → (1 ≤ x6 ∧ x6 ≤ 255) → (256 - x3) * 516 + (x6 - 0) * 2 + 2 < (nn : Int) → nW xs (e + 1) 166 91 [some (2, 112), some (0, n), some (0, m), some (0, x3), some (0, x4), some (0, x5), some (0, x6)] [] M (nPV fun M1 => Sf 2 ac M0 M1)) ∧ (∀ (x3 x4 x5 x6 : Int) (M : nM), Sf 2 ac M0 M → (2 ≤ m ∧ m ≤ 256) → (1 ≤ x3 ∧ x3 ≤ 255) → (0 ≤ x4 ∧ x4 ≤ 19682) → (0 ≤ x5 ∧ x5 ≤ 1000000) → (0 ≤ x6 ∧ x6 ≤ 255) → (256 - x3) * 516 + 1 < (nn : Int) → nW xs (e + 1) 166 153 [some (2, 112), some (0, n), some (0, m), some (0, x3), some (0, x4), some (0, x5), some (0, x6)] [] M (nPV fun M1 => Sf 2 ac M0 M1)) := by
  have hd : (2 : Int) = 2 ∨ (2 : Int) = 3 := by decide
  have hac := hS.2.2.2.2
  intro nn
  induction nn with
  | zero => refine ⟨?_, ?_, ?_, ?_⟩ <;> (intros; omega)
  | succ nn ih =>
    refine ⟨?_, ?_, ?_, ?_⟩
    · intro x3 M hS k3 hnn
      refine n_iload_n c_166_2 rfl ?_
      refine n_iload_n c_166_3 rfl ?_
      refine n_if2_ge c_166_4 (by omega) (by omega) ?_ ?_
      · intro h1
        exact n_rV c_166_189 rfl hS
      · intro h2
        refine n_aload_n c_166_7 rfl ?_
        refine n_getR c_166_8 sc_112.n rfl rfl rfl r_112_14 ?_
        refine n_sipush c_166_11 rfl ?_
        refine n_iload_n c_166_14 rfl ?_
        refine n_imul c_166_15 rfl ?_
        refine n_iload_n c_166_16 rfl ?_
        refine n_iadd c_166_17 rfl ?_
        refine n_ialoadV c_166_18 sc_122.n rfl rfl rfl (by omega) (t_122 hS (by omega)) ?_
        intro z3 ez3 f4
        refine n_istore (L2 := [some (2, 112), some (0, n), some (0, m), some (0, x3), some (0, z3), none, none]) c_166_19 rfl rfl ?_
        refine n_aload_n c_166_21 rfl ?_
        refine n_getR c_166_22 sc_112.n rfl rfl rfl r_112_15 ?_
        refine n_sipush c_166_25 rfl ?_
        refine n_iload_n c_166_28 rfl ?_
        refine n_imul c_166_29 rfl ?_
        refine n_iload_n c_166_30 rfl ?_
        refine n_iadd c_166_31 rfl ?_
        refine n_ialoadV c_166_32 sc_123.n rfl rfl rfl (by omega) (t_123 hS (by omega)) ?_
        intro z5 ez5 f6
        refine n_istore (L2 := [some (2, 112), some (0, n), some (0, m), some (0, x3), some (0, z3), some (0, z5), none]) c_166_33 rfl rfl ?_
        refine n_iload_n c_166_35 rfl ?_
        refine n_istore (L2 := [some (2, 112), some (0, n), some (0, m), some (0, x3), some (0, z3), some (0, z5), some (0, x3)]) c_166_36 rfl rfl ?_
        refine n_fg (le_s (le_s (le_s (le_s (le_s (le_s (le_s le_0))))))) ?_
        exact ih.2.1 _ _ _ _ M hS (by omega) (by omega) (by omega) (by omega) (by omega) (by omega)
    · intro x3 x4 x5 x6 M hS k2 k3 k4 k5 k6 hnn
      refine n_iload c_166_38 rfl ?_
      refine n_if0_le c_166_40 (by omega) ?_ ?_
      · intro h1
        refine n_fg (le_s (le_s (le_s (le_s (le_s (le_s (le_s le_0))))))) ?_
        exact ih.2.2.2 _ _ _ _ M hS (by omega) (by omega) (by omega) (by omega) (by omega) (by omega)
      · intro h2
        refine n_aload_n c_166_43 rfl ?_
        refine n_iload_n c_166_44 rfl ?_
        refine n_iload c_166_45 rfl ?_
        refine n_iconst c_166_47 ?_
        refine n_isub c_166_48 rfl ?_
        refine n_v2I c_166_49 rfl sc_112.n rfl rfl rfl rfl (msizeOf_2 (n := n) (i := (x6 - 1)) hS hdm (by omega) (by omega)) ?_
        intro z3 M4 hP5
        obtain ⟨eM, f5⟩ := hP5
        subst eM
        refine n_iload c_166_52 rfl ?_
        refine n_if2_gt c_166_54 (by omega) (by omega) ?_ ?_
        · intro h6
          refine n_fg (le_s (le_s (le_s (le_s (le_s (le_s (le_s le_0))))))) ?_
          exact ih.2.2.1 _ _ _ _ M hS (by omega) (by omega) (by omega) (by omega) (by omega) (by omega)
        · intro h7
          refine n_aload_n c_166_57 rfl ?_
          refine n_iload_n c_166_58 rfl ?_
          refine n_iload c_166_59 rfl ?_
          refine n_iconst c_166_61 ?_
          refine n_isub c_166_62 rfl ?_
          refine n_v2I c_166_63 rfl sc_112.n rfl rfl rfl rfl (msizeOf_2 (n := n) (i := (x6 - 1)) hS hdm (by omega) (by omega)) ?_
          intro z8 M9 hP10
          obtain ⟨eM, f10⟩ := hP10
          subst eM
          refine n_iload c_166_66 rfl ?_
          refine n_if2_ne c_166_68 (by omega) (by omega) ?_ ?_
          · intro h11
            refine n_fg (le_s (le_s (le_s (le_s (le_s (le_s (le_s le_0))))))) ?_
            exact ih.2.2.2 _ _ _ _ M hS (by omega) (by omega) (by omega) (by omega) (by omega) (by omega)
          · intro h12
            refine n_aload_n c_166_71 rfl ?_
            refine n_getR c_166_72 sc_112.n rfl rfl rfl r_112_14 ?_
            refine n_sipush c_166_75 rfl ?_
            refine n_iload_n c_166_78 rfl ?_
            refine n_imul c_166_79 rfl ?_
            refine n_iload c_166_80 rfl ?_
            refine n_iadd c_166_82 rfl ?_
            refine n_iconst c_166_83 ?_
            refine n_isub c_166_84 rfl ?_
            refine n_ialoadV c_166_85 sc_122.n rfl rfl rfl (by omega) (t_122 hS (by omega)) ?_
            intro z13 ez13 f14
            refine n_iload c_166_86 rfl ?_
            refine n_if2_le c_166_88 (by omega) (by omega) ?_ ?_
            · intro h15
              refine n_fg (le_s (le_s (le_s (le_s (le_s (le_s (le_s le_0))))))) ?_
              exact ih.2.2.2 _ _ _ _ M hS (by omega) (by omega) (by omega) (by omega) (by omega) (by omega)
            · intro h16
              refine n_fg (le_s (le_s (le_s (le_s (le_s (le_s (le_s le_0))))))) ?_
              exact ih.2.2.1 _ _ _ _ M hS (by omega) (by omega) (by omega) (by omega) (by omega) (by omega)
    · intro x3 x4 x5 x6 M hS k2 k3 k4 k5 k6 hnn
      refine n_aload_n c_166_91 rfl ?_
      refine n_getR c_166_92 sc_112.n rfl rfl rfl r_112_14 ?_
      refine n_sipush c_166_95 rfl ?_
      refine n_iload_n c_166_98 rfl ?_
      refine n_imul c_166_99 rfl ?_
      refine n_iload c_166_100 rfl ?_
      refine n_iadd c_166_102 rfl ?_
      refine n_aload_n c_166_103 rfl ?_
      refine n_getR c_166_104 sc_112.n rfl rfl rfl r_112_14 ?_
      refine n_sipush c_166_107 rfl ?_
      refine n_iload_n c_166_110 rfl ?_
      refine n_imul c_166_111 rfl ?_
      refine n_iload c_166_112 rfl ?_
      refine n_iadd c_166_114 rfl ?_
      refine n_iconst c_166_115 ?_
      refine n_isub c_166_116 rfl ?_
      refine n_ialoadV c_166_117 sc_122.n rfl rfl rfl (by omega) (t_122 hS (by omega)) ?_
      intro z1 ez1 f2
      refine n_iastoreV hS c_166_118 sc_122.n rfl (by omega) (w_122 (by omega) (by omega)) ?_
      intro M3 eM3 hS3
      have g3_0 : M3 122 ((256 * n) + x6) = z1 := by rw [eM3]; exact nu_s _ _ _ _
      refine n_aload_n c_166_119 rfl ?_
      refine n_getR c_166_120 sc_112.n rfl rfl rfl r_112_15 ?_
      refine n_sipush c_166_123 rfl ?_
      refine n_iload_n c_166_126 rfl ?_
      refine n_imul c_166_127 rfl ?_
      refine n_iload c_166_128 rfl ?_
      refine n_iadd c_166_130 rfl ?_
      refine n_aload_n c_166_131 rfl ?_
      refine n_getR c_166_132 sc_112.n rfl rfl rfl r_112_15 ?_
      refine n_sipush c_166_135 rfl ?_
      refine n_iload_n c_166_138 rfl ?_
      refine n_imul c_166_139 rfl ?_
      refine n_iload c_166_140 rfl ?_
      refine n_iadd c_166_142 rfl ?_
      refine n_iconst c_166_143 ?_
      refine n_isub c_166_144 rfl ?_
      refine n_ialoadV c_166_145 sc_123.n rfl rfl rfl (by omega) (t_123 hS3 (by omega)) ?_
      intro z4 ez4 f5
      refine n_iastoreV hS3 c_166_146 sc_123.n rfl (by omega) (w_123 (by omega) (by omega)) ?_
      intro M6 eM6 hS6
      have g6_0 : M6 122 ((256 * n) + x6) = M3 122 ((256 * n) + x6) := by rw [eM6]; exact nu_a (by omega)
      have g6_1 : M6 123 ((256 * n) + x6) = z4 := by rw [eM6]; exact nu_s _ _ _ _
      refine n_iinc (L2 := [some (2, 112), some (0, n), some (0, m), some (0, x3), some (0, x4), some (0, x5), some (0, (x6 + (-1)))]) c_166_147 rfl rfl rfl ?_
      refine n_goto c_166_150 ?_
      refine n_fg (le_s (le_s (le_s (le_s (le_s (le_s (le_s le_0))))))) ?_
      exact ih.2.1 _ _ _ _ M6 hS6 (by omega) (by omega) (by omega) (by omega) (by omega) (by omega)
    · intro x3 x4 x5 x6 M hS k2 k3 k4 k5 k6 hnn
      refine n_aload_n c_166_153 rfl ?_
      refine n_getR c_166_154 sc_112.n rfl rfl rfl r_112_14 ?_
      refine n_sipush c_166_157 rfl ?_
      refine n_iload_n c_166_160 rfl ?_
      refine n_imul c_166_161 rfl ?_
      refine n_iload c_166_162 rfl ?_
      refine n_iadd c_166_164 rfl ?_
      refine n_iload c_166_165 rfl ?_
      refine n_iastoreV hS c_166_167 sc_122.n rfl (by omega) (w_122 (by omega) (by omega)) ?_
      intro M1 eM1 hS1
      have g1_0 : M1 122 ((256 * n) + x6) = x4 := by rw [eM1]; exact nu_s _ _ _ _
      refine n_aload_n c_166_168 rfl ?_
      refine n_getR c_166_169 sc_112.n rfl rfl rfl r_112_15 ?_
      refine n_sipush c_166_172 rfl ?_
      refine n_iload_n c_166_175 rfl ?_
      refine n_imul c_166_176 rfl ?_
      refine n_iload c_166_177 rfl ?_
      refine n_iadd c_166_179 rfl ?_
      refine n_iload c_166_180 rfl ?_
      refine n_iastoreV hS1 c_166_182 sc_123.n rfl (by omega) (w_123 (by omega) (by omega)) ?_
      intro M2 eM2 hS2
      have g2_0 : M2 122 ((256 * n) + x6) = M1 122 ((256 * n) + x6) := by rw [eM2]; exact nu_a (by omega)
      have g2_1 : M2 123 ((256 * n) + x6) = x5 := by rw [eM2]; exact nu_s _ _ _ _
      refine n_iinc (L2 := [some (2, 112), some (0, n), some (0, m), some (0, (x3 + 1)), some (0, x4), some (0, x5), some (0, x6)]) c_166_183 rfl rfl rfl ?_
      refine n_goto c_166_186 ?_
      refine n_fg (le_s (le_s (le_s (le_s (le_n (le_n (le_n le_0))))))) ?_
      exact ih.1 _ M2 hS2 (by omega) (by omega)
set_option maxHeartbeats 4000000 in
theorem mordered_2 {xs : List Int32} {e : Nat} {ac : Int} {M0 M : nM} {n m : Int} (hS : Sf 2 ac M0 M) (hdm : M0 112 0 = 2) (hn : 1 ≤ n ∧ n ≤ 3) (hm : 0 ≤ m ∧ m ≤ 256) : nW xs (e + 1) 166 0 [some (2, 112), some (0, n), some (0, m), none, none, none, none] [] M (nPV fun M1 => Sf 2 ac M0 M1) := by
  have hd : (2 : Int) = 2 ∨ (2 : Int) = 3 := by decide
  have hac := hS.2.2.2.2
  refine n_iconst c_166_0 ?_
  refine n_istore_n (L2 := [some (2, 112), some (0, n), some (0, m), some (0, 1), none, none, none]) c_166_1 rfl rfl ?_
  refine n_fg (le_s (le_s (le_s (le_s (le_n (le_n (le_n le_0))))))) ?_
  exact (mordered_2_c hS hdm hn hm 265234).1 _ M hS (by omega) (by omega)

set_option maxHeartbeats 4000000 in
theorem mmakes1_2_c {xs : List Int32} {e : Nat} {ac : Int} {M0 M : nM} (hS : Sf 2 ac M0 M) (hdm : M0 112 0 = 2) : ∀ nn : Nat, (∀ (x2 x3 x4 : Int) (M : nM), Sf 2 ac M0 M → (2 ≤ x2 ∧ x2 ≤ 2) → (4 ≤ x3 ∧ x3 ≤ 4) → (0 ≤ x4 ∧ x4 ≤ 4) → (4 - x4) * 1 + 72757 < (nn : Int) → nW xs (e + 2) 167 29 [some (2, 112), some (0, 1), some (0, x2), some (0, x3), some (0, x4), none, none, none] [] M (nPV fun M1 => Sf 2 ac M0 M1)) ∧ (∀ (x2 x3 x4 : Int) (M : nM), Sf 2 ac M0 M → (2 ≤ x2 ∧ x2 ≤ 2) → (4 ≤ x3 ∧ x3 ≤ 4) → (0 ≤ x4 ∧ x4 ≤ 256) → (256 - x4) * 282 + 282 < (nn : Int) → nW xs (e + 2) 167 113 [some (2, 112), some (0, 1), some (0, x2), some (0, x3), some (0, x4), none, none, none] [] M (nPV fun M1 => Sf 2 ac M0 M1)) ∧ (∀ (x2 x3 x4 x5 x6 : Int) (M : nM), Sf 2 ac M0 M → (2 ≤ x2 ∧ x2 ≤ 2) → (4 ≤ x3 ∧ x3 ≤ 4) → (0 ≤ x4 ∧ x4 ≤ 256) → (-1 ≤ x5 ∧ x5 ≤ 3) → (0 ≤ x6 ∧ x6 ≤ 4) → (x5 = -1 ∨ 1 ≤ M 125 x5) → (256 - x4) * 282 + (4 - x6) * 3 + 266 < (nn : Int) → nW xs (e + 2) 167 119 [some (2, 112), some (0, 1), some (0, x2), some (0, x3), some (0, x4), some (0, x5), some (0, x6), none] [] M (nPV fun M1 => Sf 2 ac M0 M1)) ∧ (∀ (x2 x3 x4 x6 : Int) (M : nM), Sf 2 ac M0 M → (2 ≤ x2 ∧ x2 ≤ 2) → (4 ≤ x3 ∧ x3 ≤ 4) → (0 ≤ x4 ∧ x4 ≤ 256) → (0 ≤ x6 ∧ x6 ≤ 3) → (1 ≤ M 125 x6) → (256 - x4) * 282 + (4 - x6) * 3 + 265 < (nn : Int) → nW xs (e + 2) 167 158 [some (2, 112), some (0, 1), some (0, x2), some (0, x3), some (0, x4), none, some (0, x6), none] [] M (nPV fun M1 => Sf 2 ac M0 M1)) ∧ (∀ (x2 x3 x4 x5 x6 : Int) (M : nM), Sf 2 ac M0 M → (2 ≤ x2 ∧ x2 ≤ 2) → (4 ≤ x3 ∧ x3 ≤ 4) → (0 ≤ x4 ∧ x4 ≤ 256) → (-1 ≤ x5 ∧ x5 ≤ 3) → (0 ≤ x6 ∧ x6 ≤ 3) → (x5 = -1 ∨ 1 ≤ M 125 x5) → (256 - x4) * 282 + (4 - x6) * 3 + 264 < (nn : Int) → nW xs (e + 2) 167 162 [some (2, 112), some (0, 1), some (0, x2), some (0, x3), some (0, x4), some (0, x5), some (0, x6), none] [] M (nPV fun M1 => Sf 2 ac M0 M1)) ∧ (∀ (x2 x3 x4 x6 x7 : Int) (M : nM), Sf 2 ac M0 M → (2 ≤ x2 ∧ x2 ≤ 2) → (4 ≤ x3 ∧ x3 ≤ 4) → (0 ≤ x4 ∧ x4 ≤ 255) → (0 ≤ x6 ∧ x6 ≤ 3) → (0 ≤ x7 ∧ x7 ≤ 2) → (256 - x4) * 282 + (2 - x7) * 1 + 260 < (nn : Int) → nW xs (e + 2) 167 251 [some (2, 112), some (0, 1), some (0, x2), some (0, x3), some (0, x4), none, some (0, x6), some (0, x7)] [] M (nPV fun M1 => Sf 2 ac M0 M1)) ∧ (∀ (x2 x3 x4 : Int) (M : nM), Sf 2 ac M0 M → (2 ≤ x2 ∧ x2 ≤ 2) → (4 ≤ x3 ∧ x3 ≤ 4) → (0 ≤ x4 ∧ x4 ≤ 255) → (256 - x4) * 282 + 259 < (nn : Int) → nW xs (e + 2) 167 308 [some (2, 112), some (0, 1), some (0, x2), some (0, x3), some (0, x4), none, none, none] [] M (nPV fun M1 => Sf 2 ac M0 M1)) ∧ (∀ (x2 x3 x4 x7 : Int) (M : nM), Sf 2 ac M0 M → (2 ≤ x2 ∧ x2 ≤ 2) → (4 ≤ x3 ∧ x3 ≤ 4) → (1 ≤ x4 ∧ x4 ≤ 256) → (0 ≤ x7 ∧ x7 ≤ 256) → (256 - (x4 - 1)) * 282 + (256 - x7) * 1 + 1 < (nn : Int) → nW xs (e + 2) 167 314 [some (2, 112), some (0, 1), some (0, x2), some (0, x3), some (0, x4), none, none, some (0, x7)] [] M (nPV fun M1 => Sf 2 ac M0 M1)) := by
  have hd : (2 : Int) = 2 ∨ (2 : Int) = 3 := by decide
  have hac := hS.2.2.2.2
  intro nn
  induction nn with
  | zero => refine ⟨?_, ?_, ?_, ?_, ?_, ?_, ?_, ?_⟩ <;> (intros; omega)
  | succ nn ih =>
    refine ⟨?_, ?_, ?_, ?_, ?_, ?_, ?_, ?_⟩
    · intro x2 x3 x4 M hS k2 k3 k4 hnn
      refine n_iload c_167_29 rfl ?_
      refine n_iload_n c_167_31 rfl ?_
      refine n_if2_ge c_167_32 (by omega) (by omega) ?_ ?_
      · intro h1
        refine n_iconst c_167_49 ?_
        refine n_istore (L2 := [some (2, 112), some (0, 1), some (0, x2), some (0, x3), some (0, 0), none, none, none]) c_167_50 rfl rfl ?_
        refine n_iload c_167_52 rfl ?_
        refine n_iload_n c_167_54 rfl ?_
        refine n_if2_ge c_167_55 (by omega) (by omega) ?_ ?_
        · intro h2
          exfalso; omega
        · intro h3
          refine n_iconst c_167_58 ?_
          refine n_istore (L2 := [some (2, 112), some (0, 1), some (0, x2), some (0, x3), some (0, 0), some (0, 0), none, none]) c_167_59 rfl rfl ?_
          refine n_iload_n c_167_61 rfl ?_
          refine n_iconst c_167_62 ?_
          refine n_isub c_167_63 rfl ?_
          refine n_istore (L2 := [some (2, 112), some (0, 1), some (0, x2), some (0, x3), some (0, 0), some (0, 0), some (0, (x2 - 1)), none]) c_167_64 rfl rfl ?_
          refine n_iload c_167_66 rfl ?_
          refine n_if0_lt c_167_68 (by omega) ?_ ?_
          · intro h4
            exfalso; omega
          · intro h5
            refine n_iload c_167_71 rfl ?_
            refine n_aload_n c_167_73 rfl ?_
            refine n_getV (bi := 0) c_167_74 sc_112.n rfl rfl rfl (t_dm hS hdm) ?_
            intro z6 ez6 f7
            obtain rfl : z6 = 2 := by omega
            refine n_imul c_167_77 rfl ?_
            refine n_aload_n c_167_78 rfl ?_
            refine n_iload c_167_79 rfl ?_
            refine n_iload_n c_167_81 rfl ?_
            refine n_iload c_167_82 rfl ?_
            refine n_v3I c_167_84 rfl sc_112.n rfl rfl rfl rfl (mdigit_2 (r := (x2 - 1)) (k := 1) (j := 0) hS hdm (by omega) (by omega) (by omega) (by omega)) ?_
            intro z8 M9 hP10
            obtain ⟨eM, f10⟩ := hP10
            subst eM
            refine n_iadd c_167_87 rfl ?_
            refine n_istore (L2 := [some (2, 112), some (0, 1), some (0, x2), some (0, x3), some (0, 0), some (0, ((0 * 2) + z8)), some (0, (x2 - 1)), none]) c_167_88 rfl rfl ?_
            refine n_iinc (L2 := [some (2, 112), some (0, 1), some (0, x2), some (0, x3), some (0, 0), some (0, ((0 * 2) + z8)), some (0, ((x2 - 1) + (-1))), none]) c_167_90 rfl rfl rfl ?_
            refine n_goto c_167_93 ?_
            refine n_iload c_167_66 rfl ?_
            refine n_if0_lt c_167_68 (by omega) ?_ ?_
            · intro h11
              exfalso; omega
            · intro h12
              refine n_iload c_167_71 rfl ?_
              refine n_aload_n c_167_73 rfl ?_
              refine n_getV (bi := 0) c_167_74 sc_112.n rfl rfl rfl (t_dm hS hdm) ?_
              intro z13 ez13 f14
              obtain rfl : z13 = 2 := by omega
              refine n_imul c_167_77 rfl ?_
              refine n_aload_n c_167_78 rfl ?_
              refine n_iload c_167_79 rfl ?_
              refine n_iload_n c_167_81 rfl ?_
              refine n_iload c_167_82 rfl ?_
              refine n_v3I c_167_84 rfl sc_112.n rfl rfl rfl rfl (mdigit_2 (r := ((x2 - 1) + (-1))) (k := 1) (j := 0) hS hdm (by omega) (by omega) (by omega) (by omega)) ?_
              intro z15 M16 hP17
              obtain ⟨eM, f17⟩ := hP17
              subst eM
              refine n_iadd c_167_87 rfl ?_
              refine n_istore (L2 := [some (2, 112), some (0, 1), some (0, x2), some (0, x3), some (0, 0), some (0, ((((0 * 2) + z8) * 2) + z15)), some (0, ((x2 - 1) + (-1))), none]) c_167_88 rfl rfl ?_
              refine n_iinc (L2 := [some (2, 112), some (0, 1), some (0, x2), some (0, x3), some (0, 0), some (0, ((((0 * 2) + z8) * 2) + z15)), some (0, (((x2 - 1) + (-1)) + (-1))), none]) c_167_90 rfl rfl rfl ?_
              refine n_goto c_167_93 ?_
              refine n_iload c_167_66 rfl ?_
              refine n_if0_lt c_167_68 (by omega) ?_ ?_
              · intro h18
                refine n_aload_n c_167_96 rfl ?_
                refine n_getR c_167_97 sc_112.n rfl rfl rfl r_112_17 ?_
                refine n_iload c_167_100 rfl ?_
                refine n_iconst c_167_102 ?_
                refine n_iastoreV hS c_167_103 sc_125.n rfl (by omega) (w_125 (by omega) (by omega)) ?_
                intro M19 eM19 hS19
                have g19_0 : M19 125 ((((0 * 2) + z8) * 2) + z15) = 1 := by rw [eM19]; exact nu_s _ _ _ _
                refine n_iinc (L2 := [some (2, 112), some (0, 1), some (0, x2), some (0, x3), some (0, (0 + 1)), some (0, ((((0 * 2) + z8) * 2) + z15)), some (0, (((x2 - 1) + (-1)) + (-1))), none]) c_167_104 rfl rfl rfl ?_
                refine n_goto c_167_107 ?_
                refine n_iload c_167_52 rfl ?_
                refine n_iload_n c_167_54 rfl ?_
                refine n_if2_ge c_167_55 (by omega) (by omega) ?_ ?_
                · intro h20
                  refine n_iconst c_167_110 ?_
                  refine n_istore (L2 := [some (2, 112), some (0, 1), some (0, x2), some (0, x3), some (0, 0), some (0, ((((0 * 2) + z8) * 2) + z15)), some (0, (((x2 - 1) + (-1)) + (-1))), none]) c_167_111 rfl rfl ?_
                  refine n_fg (le_s (le_s (le_s (le_s (le_s (le_n (le_n (le_n le_0)))))))) ?_
                  exact ih.2.1 _ _ _ M19 hS19 (by omega) (by omega) (by omega) (by omega)
                · intro h21
                  exfalso; omega
              · intro h22
                exfalso; omega
      · intro h23
        refine n_aload_n c_167_35 rfl ?_
        refine n_getR c_167_36 sc_112.n rfl rfl rfl r_112_17 ?_
        refine n_iload c_167_39 rfl ?_
        refine n_iconst c_167_41 ?_
        refine n_iastoreV hS c_167_42 sc_125.n rfl (by omega) (w_125 (by omega) (by omega)) ?_
        intro M24 eM24 hS24
        have g24_0 : M24 125 x4 = 0 := by rw [eM24]; exact nu_s _ _ _ _
        refine n_iinc (L2 := [some (2, 112), some (0, 1), some (0, x2), some (0, x3), some (0, (x4 + 1)), none, none, none]) c_167_43 rfl rfl rfl ?_
        refine n_goto c_167_46 ?_
        refine n_fg (le_s (le_s (le_s (le_s (le_s (le_n (le_n (le_n le_0)))))))) ?_
        exact ih.1 _ _ _ M24 hS24 (by omega) (by omega) (by omega) (by omega)
    · intro x2 x3 x4 M hS k2 k3 k4 hnn
      refine n_iconst c_167_113 ?_
      refine n_istore (L2 := [some (2, 112), some (0, 1), some (0, x2), some (0, x3), some (0, x4), some (0, (-1)), none, none]) c_167_114 rfl rfl ?_
      refine n_iconst c_167_116 ?_
      refine n_istore (L2 := [some (2, 112), some (0, 1), some (0, x2), some (0, x3), some (0, x4), some (0, (-1)), some (0, 0), none]) c_167_117 rfl rfl ?_
      refine n_fg (le_s (le_s (le_s (le_s (le_s (le_s (le_s (le_n le_0)))))))) ?_
      exact ih.2.2.1 _ _ _ _ _ M hS (by omega) (by omega) (by omega) (by omega) (by omega) (by omega) (by omega)
    · intro x2 x3 x4 x5 x6 M hS k2 k3 k4 k5 k6 v0 hnn
      refine n_iload c_167_119 rfl ?_
      refine n_iload_n c_167_121 rfl ?_
      refine n_if2_ge c_167_122 (by omega) (by omega) ?_ ?_
      · intro h1
        refine n_iload c_167_168 rfl ?_
        refine n_iconst c_167_170 ?_
        refine n_if2_ne c_167_171 (by omega) (by omega) ?_ ?_
        · intro h2
          refine n_iload c_167_190 rfl ?_
          refine n_sipush c_167_192 rfl ?_
          refine n_if2_ne c_167_195 (by omega) (by omega) ?_ ?_
          · intro h3
            refine n_aload_n c_167_207 rfl ?_
            refine n_getR c_167_208 sc_112.n rfl rfl rfl r_112_14 ?_
            refine n_sipush c_167_211 rfl ?_
            refine n_iload_n c_167_214 rfl ?_
            refine n_imul c_167_215 rfl ?_
            refine n_iload c_167_216 rfl ?_
            refine n_iadd c_167_218 rfl ?_
            refine n_iload c_167_219 rfl ?_
            refine n_iastoreV hS c_167_221 sc_122.n rfl (by omega) (w_122 (by omega) (by omega)) ?_
            intro M4 eM4 hS4
            have g4_0 : M4 125 x5 = M 125 x5 := by rw [eM4]; exact nu_a (by omega)
            have g4_1 : M4 122 ((256 * 1) + x4) = x5 := by rw [eM4]; exact nu_s _ _ _ _
            refine n_aload_n c_167_222 rfl ?_
            refine n_getR c_167_223 sc_112.n rfl rfl rfl r_112_15 ?_
            refine n_sipush c_167_226 rfl ?_
            refine n_iload_n c_167_229 rfl ?_
            refine n_imul c_167_230 rfl ?_
            refine n_iload c_167_231 rfl ?_
            refine n_iadd c_167_233 rfl ?_
            refine n_aload_n c_167_234 rfl ?_
            refine n_getR c_167_235 sc_112.n rfl rfl rfl r_112_17 ?_
            refine n_iload c_167_238 rfl ?_
            refine n_ialoadV c_167_240 sc_125.n rfl rfl rfl (by omega) (t_125 hS4 (by omega)) ?_
            intro z5 ez5 f6
            refine n_iconst c_167_241 ?_
            refine n_isub c_167_242 rfl ?_
            refine n_iastoreV hS4 c_167_243 sc_123.n rfl (by omega) (w_123 (by omega) (by omega)) ?_
            intro M7 eM7 hS7
            have g7_0 : M7 125 x5 = M4 125 x5 := by rw [eM7]; exact nu_a (by omega)
            have g7_1 : M7 122 ((256 * 1) + x4) = M4 122 ((256 * 1) + x4) := by rw [eM7]; exact nu_a (by omega)
            have g7_2 : M7 123 ((256 * 1) + x4) = (z5 - 1) := by rw [eM7]; exact nu_s _ _ _ _
            refine n_iload c_167_244 rfl ?_
            refine n_istore (L2 := [some (2, 112), some (0, 1), some (0, x2), some (0, x3), some (0, x4), some (0, x5), some (0, x5), none]) c_167_246 rfl rfl ?_
            refine n_iconst c_167_248 ?_
            refine n_istore (L2 := [some (2, 112), some (0, 1), some (0, x2), some (0, x3), some (0, x4), some (0, x5), some (0, x5), some (0, 0)]) c_167_249 rfl rfl ?_
            refine n_fg (le_s (le_s (le_s (le_s (le_s (le_n (le_s (le_s le_0)))))))) ?_
            exact ih.2.2.2.2.2.1 _ _ _ _ _ M7 hS7 (by omega) (by omega) (by omega) (by omega) (by omega) (by omega)
          · intro h8
            refine n_aload_n c_167_198 rfl ?_
            refine n_getR c_167_199 sc_112.n rfl rfl rfl r_112_16 ?_
            refine n_iload_n c_167_202 rfl ?_
            refine n_bipush c_167_203 rfl ?_
            refine n_iastoreV hS c_167_205 sc_124.n rfl (by omega) (w_124 (by omega) (by omega)) ?_
            intro M9 eM9 hS9
            have g9_0 : M9 125 x5 = M 125 x5 := by rw [eM9]; exact nu_a (by omega)
            have g9_1 : M9 124 1 = (-8) := by rw [eM9]; exact nu_s _ _ _ _
            exact n_rV c_167_206 rfl hS9
        · intro h10
          refine n_aload_n c_167_174 rfl ?_
          refine n_getR c_167_175 sc_112.n rfl rfl rfl r_112_16 ?_
          refine n_iload_n c_167_178 rfl ?_
          refine n_iload c_167_179 rfl ?_
          refine n_iastoreV hS c_167_181 sc_124.n rfl (by omega) (w_124 (by omega) (by omega)) ?_
          intro M11 eM11 hS11
          have g11_0 : M11 125 x5 = M 125 x5 := by rw [eM11]; exact nu_a (by omega)
          have g11_1 : M11 124 1 = x4 := by rw [eM11]; exact nu_s _ _ _ _
          refine n_aload_n c_167_182 rfl ?_
          refine n_iload_n c_167_183 rfl ?_
          refine n_iload c_167_184 rfl ?_
          refine n_v2V c_167_186 rfl sc_112.n rfl rfl rfl rfl (mordered_2 (n := 1) (m := x4) hS11 hdm (by omega) (by omega)) ?_
          intro  M12 hP13
          have hS12 := hP13
          exact n_rV c_167_189 rfl hS12
      · intro h14
        refine n_aload_n c_167_125 rfl ?_
        refine n_getR c_167_126 sc_112.n rfl rfl rfl r_112_17 ?_
        refine n_iload c_167_129 rfl ?_
        refine n_ialoadV c_167_131 sc_125.n rfl rfl rfl (by omega) (t_125 hS (by omega)) ?_
        intro z15 ez15 f16
        refine n_if0_le c_167_132 (by omega) ?_ ?_
        · intro h17
          refine n_fg (le_s (le_s (le_s (le_s (le_s (le_s (le_s (le_n le_0)))))))) ?_
          exact ih.2.2.2.2.1 _ _ _ _ _ M hS (by omega) (by omega) (by omega) (by omega) (by omega) (by omega) (by omega)
        · intro h18
          refine n_iload c_167_135 rfl ?_
          refine n_iconst c_167_137 ?_
          refine n_if2_eq c_167_138 (by omega) (by omega) ?_ ?_
          · intro h19
            refine n_fg (le_s (le_s (le_s (le_s (le_s (le_n (le_s (le_n le_0)))))))) ?_
            exact ih.2.2.2.1 _ _ _ _ M hS (by omega) (by omega) (by omega) (by omega) (by omega) (by omega)
          · intro h20
            refine n_aload_n c_167_141 rfl ?_
            refine n_getR c_167_142 sc_112.n rfl rfl rfl r_112_17 ?_
            refine n_iload c_167_145 rfl ?_
            refine n_ialoadV c_167_147 sc_125.n rfl rfl rfl (by omega) (t_125 hS (by omega)) ?_
            intro z21 ez21 f22
            refine n_aload_n c_167_148 rfl ?_
            refine n_getR c_167_149 sc_112.n rfl rfl rfl r_112_17 ?_
            refine n_iload c_167_152 rfl ?_
            refine n_ialoadV c_167_154 sc_125.n rfl rfl rfl (by omega) (t_125 hS (by omega)) ?_
            intro z23 ez23 f24
            refine n_if2_ge c_167_155 (by omega) (by omega) ?_ ?_
            · intro h25
              refine n_fg (le_s (le_s (le_s (le_s (le_s (le_s (le_s (le_n le_0)))))))) ?_
              exact ih.2.2.2.2.1 _ _ _ _ _ M hS (by omega) (by omega) (by omega) (by omega) (by omega) (by omega) (by omega)
            · intro h26
              refine n_fg (le_s (le_s (le_s (le_s (le_s (le_n (le_s (le_n le_0)))))))) ?_
              exact ih.2.2.2.1 _ _ _ _ M hS (by omega) (by omega) (by omega) (by omega) (by omega) (by omega)
    · intro x2 x3 x4 x6 M hS k2 k3 k4 k6 v0 hnn
      refine n_iload c_167_158 rfl ?_
      refine n_istore (L2 := [some (2, 112), some (0, 1), some (0, x2), some (0, x3), some (0, x4), some (0, x6), some (0, x6), none]) c_167_160 rfl rfl ?_
      refine n_fg (le_s (le_s (le_s (le_s (le_s (le_s (le_s (le_n le_0)))))))) ?_
      exact ih.2.2.2.2.1 _ _ _ _ _ M hS (by omega) (by omega) (by omega) (by omega) (by omega) (by omega) (by omega)
    · intro x2 x3 x4 x5 x6 M hS k2 k3 k4 k5 k6 v0 hnn
      refine n_iinc (L2 := [some (2, 112), some (0, 1), some (0, x2), some (0, x3), some (0, x4), some (0, x5), some (0, (x6 + 1)), none]) c_167_162 rfl rfl rfl ?_
      refine n_goto c_167_165 ?_
      refine n_fg (le_s (le_s (le_s (le_s (le_s (le_s (le_s (le_n le_0)))))))) ?_
      exact ih.2.2.1 _ _ _ _ _ M hS (by omega) (by omega) (by omega) (by omega) (by omega) (by omega) (by omega)
    · intro x2 x3 x4 x6 x7 M hS k2 k3 k4 k6 k7 hnn
      refine n_iload c_167_251 rfl ?_
      refine n_iload_n c_167_253 rfl ?_
      refine n_if2_ge c_167_254 (by omega) (by omega) ?_ ?_
      · intro h1
        refine n_iload c_167_292 rfl ?_
        refine n_iconst c_167_294 ?_
        refine n_iadd c_167_295 rfl ?_
        refine n_iload_n c_167_296 rfl ?_
        refine n_if2_ge c_167_297 (by omega) (by omega) ?_ ?_
        · intro h2
          refine n_fg (le_s (le_s (le_s (le_s (le_s (le_n (le_n (le_n le_0)))))))) ?_
          exact ih.2.2.2.2.2.2.1 _ _ _ M hS (by omega) (by omega) (by omega) (by omega)
        · intro h3
          refine n_aload_n c_167_300 rfl ?_
          refine n_iload_n c_167_301 rfl ?_
          refine n_iload_n c_167_302 rfl ?_
          refine n_iload c_167_303 rfl ?_
          have hcst : (x2 : Int) = 2 := by omega
          rw [hcst]
          refine n_v3V c_167_305 rfl sc_112.n rfl rfl rfl rfl (mjoins2_2 (n := 1) (t := x4) hS hdm (by omega) (by omega)) ?_
          intro  M4 hP5
          have hS4 := hP5
          refine n_fg (le_s (le_s (le_s (le_s (le_s (le_n (le_n (le_n le_0)))))))) ?_
          exact ih.2.2.2.2.2.2.1 _ _ _ M4 hS4 (by omega) (by omega) (by omega) (by omega)
      · intro h6
        refine n_aload_n c_167_257 rfl ?_
        refine n_getR c_167_258 sc_112.n rfl rfl rfl r_112_18 ?_
        refine n_bipush c_167_261 rfl ?_
        refine n_iload c_167_263 rfl ?_
        refine n_imul c_167_265 rfl ?_
        refine n_iload c_167_266 rfl ?_
        refine n_iadd c_167_268 rfl ?_
        refine n_iload c_167_269 rfl ?_
        refine n_aload_n c_167_271 rfl ?_
        refine n_getV (bi := 0) c_167_272 sc_112.n rfl rfl rfl (t_dm hS hdm) ?_
        intro z7 ez7 f8
        obtain rfl : z7 = 2 := by omega
        refine n_iremV c_167_275 (by omega) (by omega) ?_
        intro z9 _ f10
        refine n_iastoreV hS c_167_276 sc_126.n rfl (by omega) (w_126 (by omega) (by omega)) ?_
        intro M11 eM11 hS11
        have g11_0 : M11 126 ((9 * x4) + x7) = z9 := by rw [eM11]; exact nu_s _ _ _ _
        refine n_iload c_167_277 rfl ?_
        refine n_aload_n c_167_279 rfl ?_
        refine n_getV (bi := 0) c_167_280 sc_112.n rfl rfl rfl (t_dm hS11 hdm) ?_
        intro z12 ez12 f13
        obtain rfl : z12 = 2 := by omega
        refine n_idivV c_167_283 (by omega) (by omega) ?_
        intro z14 _ f15
        refine n_istore (L2 := [some (2, 112), some (0, 1), some (0, x2), some (0, x3), some (0, x4), none, some (0, z14), some (0, x7)]) c_167_284 rfl rfl ?_
        refine n_iinc (L2 := [some (2, 112), some (0, 1), some (0, x2), some (0, x3), some (0, x4), none, some (0, z14), some (0, (x7 + 1))]) c_167_286 rfl rfl rfl ?_
        refine n_goto c_167_289 ?_
        refine n_fg (le_s (le_s (le_s (le_s (le_s (le_n (le_s (le_s le_0)))))))) ?_
        exact ih.2.2.2.2.2.1 _ _ _ _ _ M11 hS11 (by omega) (by omega) (by omega) (by omega) (by omega) (by omega)
    · intro x2 x3 x4 M hS k2 k3 k4 hnn
      refine n_iinc (L2 := [some (2, 112), some (0, 1), some (0, x2), some (0, x3), some (0, (x4 + 1)), none, none, none]) c_167_308 rfl rfl rfl ?_
      refine n_iconst c_167_311 ?_
      refine n_istore (L2 := [some (2, 112), some (0, 1), some (0, x2), some (0, x3), some (0, (x4 + 1)), none, none, some (0, 0)]) c_167_312 rfl rfl ?_
      refine n_fg (le_s (le_s (le_s (le_s (le_s (le_n (le_n (le_s le_0)))))))) ?_
      exact ih.2.2.2.2.2.2.2 _ _ _ _ M hS (by omega) (by omega) (by omega) (by omega) (by omega)
    · intro x2 x3 x4 x7 M hS k2 k3 k4 k7 hnn
      refine n_iload c_167_314 rfl ?_
      refine n_iload c_167_316 rfl ?_
      refine n_if2_ge c_167_318 (by omega) (by omega) ?_ ?_
      · intro h1
        refine n_goto c_167_346 ?_
        refine n_fg (le_s (le_s (le_s (le_s (le_s (le_n (le_n (le_n le_0)))))))) ?_
        exact ih.2.1 _ _ _ M hS (by omega) (by omega) (by omega) (by omega)
      · intro h2
        refine n_aload_n c_167_321 rfl ?_
        refine n_getR c_167_322 sc_112.n rfl rfl rfl r_112_17 ?_
        refine n_aload_n c_167_325 rfl ?_
        refine n_getR c_167_326 sc_112.n rfl rfl rfl r_112_14 ?_
        refine n_sipush c_167_329 rfl ?_
        refine n_iload_n c_167_332 rfl ?_
        refine n_imul c_167_333 rfl ?_
        refine n_iload c_167_334 rfl ?_
        refine n_iadd c_167_336 rfl ?_
        refine n_ialoadV c_167_337 sc_122.n rfl rfl rfl (by omega) (t_122 hS (by omega)) ?_
        intro z3 ez3 f4
        refine n_iconst c_167_338 ?_
        refine n_iastoreV hS c_167_339 sc_125.n rfl (by omega) (w_125 (by omega) (by omega)) ?_
        intro M5 eM5 hS5
        have g5_0 : M5 125 z3 = (-1) := by rw [eM5]; exact nu_s _ _ _ _
        refine n_iinc (L2 := [some (2, 112), some (0, 1), some (0, x2), some (0, x3), some (0, x4), none, none, some (0, (x7 + 1))]) c_167_340 rfl rfl rfl ?_
        refine n_goto c_167_343 ?_
        refine n_fg (le_s (le_s (le_s (le_s (le_s (le_n (le_n (le_s le_0)))))))) ?_
        exact ih.2.2.2.2.2.2.2 _ _ _ _ M5 hS5 (by omega) (by omega) (by omega) (by omega) (by omega)
set_option maxHeartbeats 4000000 in
theorem mmakes1_2 {xs : List Int32} {e : Nat} {ac : Int} {M0 M : nM} (hS : Sf 2 ac M0 M) (hdm : M0 112 0 = 2) : nW xs (e + 2) 167 0 [some (2, 112), some (0, 1), none, none, none, none, none, none] [] M (nPV fun M1 => Sf 2 ac M0 M1) := by
  have hd : (2 : Int) = 2 ∨ (2 : Int) = 3 := by decide
  have hac := hS.2.2.2.2
  refine n_aload_n c_167_0 rfl ?_
  refine n_getR c_167_1 sc_112.n rfl rfl rfl r_112_16 ?_
  refine n_iload_n c_167_4 rfl ?_
  refine n_ialoadV c_167_5 sc_124.n rfl rfl rfl (by omega) (t_124 hS (by omega)) ?_
  intro z1 ez1 f2
  refine n_iconst c_167_6 ?_
  refine n_if2_eq c_167_7 (by omega) (by omega) ?_ ?_
  · intro h3
    refine n_aload_n c_167_11 rfl ?_
    refine n_iload_n c_167_12 rfl ?_
    refine n_v1I c_167_13 rfl sc_112.n rfl rfl rfl rfl (mrowsOf1_2  hS hdm) ?_
    intro z4 M5 hP6
    obtain ⟨eM, f6⟩ := hP6
    subst eM
    obtain rfl : z4 = 2 := by omega
    refine n_istore_n (L2 := [some (2, 112), some (0, 1), some (0, 2), none, none, none, none, none]) c_167_16 rfl rfl ?_
    refine n_aload_n c_167_17 rfl ?_
    refine n_getV (bi := 0) c_167_18 sc_112.n rfl rfl rfl (t_dm hS hdm) ?_
    intro z7 ez7 f8
    obtain rfl : z7 = 2 := by omega
    refine n_iload_n c_167_21 rfl ?_
    refine n_s2I c_167_22 rfl rfl rfl rfl (mpower2_2  hS ) ?_
    intro z9 M10 hP11
    obtain ⟨eM, f11⟩ := hP11
    subst eM
    obtain rfl : z9 = 4 := by omega
    refine n_istore_n (L2 := [some (2, 112), some (0, 1), some (0, 2), some (0, 4), none, none, none, none]) c_167_25 rfl rfl ?_
    refine n_iconst c_167_26 ?_
    refine n_istore (L2 := [some (2, 112), some (0, 1), some (0, 2), some (0, 4), some (0, 0), none, none, none]) c_167_27 rfl rfl ?_
    refine n_fg (le_s (le_s (le_s (le_s (le_s (le_n (le_n (le_n le_0)))))))) ?_
    exact (mmakes1_2_c hS hdm 145534).1 _ _ _ M hS (by omega) (by omega) (by omega) (by omega)
  · intro h12
    exact n_rV c_167_10 rfl hS

set_option maxHeartbeats 4000000 in
theorem mmakes2_2_c {xs : List Int32} {e : Nat} {ac : Int} {M0 M : nM} (hS : Sf 2 ac M0 M) (hdm : M0 112 0 = 2) : ∀ nn : Nat, (∀ (x2 x3 x4 : Int) (M : nM), Sf 2 ac M0 M → (4 ≤ x2 ∧ x2 ≤ 4) → (16 ≤ x3 ∧ x3 ≤ 16) → (0 ≤ x4 ∧ x4 ≤ 16) → (16 - x4) * 1 + 82561 < (nn : Int) → nW xs (e + 2) 167 29 [some (2, 112), some (0, 2), some (0, x2), some (0, x3), some (0, x4), none, none, none] [] M (nPV fun M1 => Sf 2 ac M0 M1)) ∧ (∀ (x2 x3 x4 : Int) (M : nM), Sf 2 ac M0 M → (4 ≤ x2 ∧ x2 ≤ 4) → (16 ≤ x3 ∧ x3 ≤ 16) → (0 ≤ x4 ∧ x4 ≤ 256) → (256 - x4) * 320 + 320 < (nn : Int) → nW xs (e + 2) 167 113 [some (2, 112), some (0, 2), some (0, x2), some (0, x3), some (0, x4), none, none, none] [] M (nPV fun M1 => Sf 2 ac M0 M1)) ∧ (∀ (x2 x3 x4 x5 x6 : Int) (M : nM), Sf 2 ac M0 M → (4 ≤ x2 ∧ x2 ≤ 4) → (16 ≤ x3 ∧ x3 ≤ 16) → (0 ≤ x4 ∧ x4 ≤ 256) → (-1 ≤ x5 ∧ x5 ≤ 15) → (0 ≤ x6 ∧ x6 ≤ 16) → (x5 = -1 ∨ 1 ≤ M 125 x5) → (256 - x4) * 320 + (16 - x6) * 3 + 268 < (nn : Int) → nW xs (e + 2) 167 119 [some (2, 112), some (0, 2), some (0, x2), some (0, x3), some (0, x4), some (0, x5), some (0, x6), none] [] M (nPV fun M1 => Sf 2 ac M0 M1)) ∧ (∀ (x2 x3 x4 x6 : Int) (M : nM), Sf 2 ac M0 M → (4 ≤ x2 ∧ x2 ≤ 4) → (16 ≤ x3 ∧ x3 ≤ 16) → (0 ≤ x4 ∧ x4 ≤ 256) → (0 ≤ x6 ∧ x6 ≤ 15) → (1 ≤ M 125 x6) → (256 - x4) * 320 + (16 - x6) * 3 + 267 < (nn : Int) → nW xs (e + 2) 167 158 [some (2, 112), some (0, 2), some (0, x2), some (0, x3), some (0, x4), none, some (0, x6), none] [] M (nPV fun M1 => Sf 2 ac M0 M1)) ∧ (∀ (x2 x3 x4 x5 x6 : Int) (M : nM), Sf 2 ac M0 M → (4 ≤ x2 ∧ x2 ≤ 4) → (16 ≤ x3 ∧ x3 ≤ 16) → (0 ≤ x4 ∧ x4 ≤ 256) → (-1 ≤ x5 ∧ x5 ≤ 15) → (0 ≤ x6 ∧ x6 ≤ 15) → (x5 = -1 ∨ 1 ≤ M 125 x5) → (256 - x4) * 320 + (16 - x6) * 3 + 266 < (nn : Int) → nW xs (e + 2) 167 162 [some (2, 112), some (0, 2), some (0, x2), some (0, x3), some (0, x4), some (0, x5), some (0, x6), none] [] M (nPV fun M1 => Sf 2 ac M0 M1)) ∧ (∀ (x2 x3 x4 x6 x7 : Int) (M : nM), Sf 2 ac M0 M → (4 ≤ x2 ∧ x2 ≤ 4) → (16 ≤ x3 ∧ x3 ≤ 16) → (0 ≤ x4 ∧ x4 ≤ 255) → (0 ≤ x6 ∧ x6 ≤ 15) → (0 ≤ x7 ∧ x7 ≤ 4) → (256 - x4) * 320 + (4 - x7) * 1 + 260 < (nn : Int) → nW xs (e + 2) 167 251 [some (2, 112), some (0, 2), some (0, x2), some (0, x3), some (0, x4), none, some (0, x6), some (0, x7)] [] M (nPV fun M1 => Sf 2 ac M0 M1)) ∧ (∀ (x2 x3 x4 : Int) (M : nM), Sf 2 ac M0 M → (4 ≤ x2 ∧ x2 ≤ 4) → (16 ≤ x3 ∧ x3 ≤ 16) → (0 ≤ x4 ∧ x4 ≤ 255) → (256 - x4) * 320 + 259 < (nn : Int) → nW xs (e + 2) 167 308 [some (2, 112), some (0, 2), some (0, x2), some (0, x3), some (0, x4), none, none, none] [] M (nPV fun M1 => Sf 2 ac M0 M1)) ∧ (∀ (x2 x3 x4 x7 : Int) (M : nM), Sf 2 ac M0 M → (4 ≤ x2 ∧ x2 ≤ 4) → (16 ≤ x3 ∧ x3 ≤ 16) → (1 ≤ x4 ∧ x4 ≤ 256) → (0 ≤ x7 ∧ x7 ≤ 256) → (256 - (x4 - 1)) * 320 + (256 - x7) * 1 + 1 < (nn : Int) → nW xs (e + 2) 167 314 [some (2, 112), some (0, 2), some (0, x2), some (0, x3), some (0, x4), none, none, some (0, x7)] [] M (nPV fun M1 => Sf 2 ac M0 M1)) := by
  have hd : (2 : Int) = 2 ∨ (2 : Int) = 3 := by decide
  have hac := hS.2.2.2.2
  intro nn
  induction nn with
  | zero => refine ⟨?_, ?_, ?_, ?_, ?_, ?_, ?_, ?_⟩ <;> (intros; omega)
  | succ nn ih =>
    refine ⟨?_, ?_, ?_, ?_, ?_, ?_, ?_, ?_⟩
    · intro x2 x3 x4 M hS k2 k3 k4 hnn
      refine n_iload c_167_29 rfl ?_
      refine n_iload_n c_167_31 rfl ?_
      refine n_if2_ge c_167_32 (by omega) (by omega) ?_ ?_
      · intro h1
        refine n_iconst c_167_49 ?_
        refine n_istore (L2 := [some (2, 112), some (0, 2), some (0, x2), some (0, x3), some (0, 0), none, none, none]) c_167_50 rfl rfl ?_
        refine n_iload c_167_52 rfl ?_
        refine n_iload_n c_167_54 rfl ?_
        refine n_if2_ge c_167_55 (by omega) (by omega) ?_ ?_
        · intro h2
          exfalso; omega
        · intro h3
          refine n_iconst c_167_58 ?_
          refine n_istore (L2 := [some (2, 112), some (0, 2), some (0, x2), some (0, x3), some (0, 0), some (0, 0), none, none]) c_167_59 rfl rfl ?_
          refine n_iload_n c_167_61 rfl ?_
          refine n_iconst c_167_62 ?_
          refine n_isub c_167_63 rfl ?_
          refine n_istore (L2 := [some (2, 112), some (0, 2), some (0, x2), some (0, x3), some (0, 0), some (0, 0), some (0, (x2 - 1)), none]) c_167_64 rfl rfl ?_
          refine n_iload c_167_66 rfl ?_
          refine n_if0_lt c_167_68 (by omega) ?_ ?_
          · intro h4
            exfalso; omega
          · intro h5
            refine n_iload c_167_71 rfl ?_
            refine n_aload_n c_167_73 rfl ?_
            refine n_getV (bi := 0) c_167_74 sc_112.n rfl rfl rfl (t_dm hS hdm) ?_
            intro z6 ez6 f7
            obtain rfl : z6 = 2 := by omega
            refine n_imul c_167_77 rfl ?_
            refine n_aload_n c_167_78 rfl ?_
            refine n_iload c_167_79 rfl ?_
            refine n_iload_n c_167_81 rfl ?_
            refine n_iload c_167_82 rfl ?_
            refine n_v3I c_167_84 rfl sc_112.n rfl rfl rfl rfl (mdigit_2 (r := (x2 - 1)) (k := 2) (j := 0) hS hdm (by omega) (by omega) (by omega) (by omega)) ?_
            intro z8 M9 hP10
            obtain ⟨eM, f10⟩ := hP10
            subst eM
            refine n_iadd c_167_87 rfl ?_
            refine n_istore (L2 := [some (2, 112), some (0, 2), some (0, x2), some (0, x3), some (0, 0), some (0, ((0 * 2) + z8)), some (0, (x2 - 1)), none]) c_167_88 rfl rfl ?_
            refine n_iinc (L2 := [some (2, 112), some (0, 2), some (0, x2), some (0, x3), some (0, 0), some (0, ((0 * 2) + z8)), some (0, ((x2 - 1) + (-1))), none]) c_167_90 rfl rfl rfl ?_
            refine n_goto c_167_93 ?_
            refine n_iload c_167_66 rfl ?_
            refine n_if0_lt c_167_68 (by omega) ?_ ?_
            · intro h11
              exfalso; omega
            · intro h12
              refine n_iload c_167_71 rfl ?_
              refine n_aload_n c_167_73 rfl ?_
              refine n_getV (bi := 0) c_167_74 sc_112.n rfl rfl rfl (t_dm hS hdm) ?_
              intro z13 ez13 f14
              obtain rfl : z13 = 2 := by omega
              refine n_imul c_167_77 rfl ?_
              refine n_aload_n c_167_78 rfl ?_
              refine n_iload c_167_79 rfl ?_
              refine n_iload_n c_167_81 rfl ?_
              refine n_iload c_167_82 rfl ?_
              refine n_v3I c_167_84 rfl sc_112.n rfl rfl rfl rfl (mdigit_2 (r := ((x2 - 1) + (-1))) (k := 2) (j := 0) hS hdm (by omega) (by omega) (by omega) (by omega)) ?_
              intro z15 M16 hP17
              obtain ⟨eM, f17⟩ := hP17
              subst eM
              refine n_iadd c_167_87 rfl ?_
              refine n_istore (L2 := [some (2, 112), some (0, 2), some (0, x2), some (0, x3), some (0, 0), some (0, ((((0 * 2) + z8) * 2) + z15)), some (0, ((x2 - 1) + (-1))), none]) c_167_88 rfl rfl ?_
              refine n_iinc (L2 := [some (2, 112), some (0, 2), some (0, x2), some (0, x3), some (0, 0), some (0, ((((0 * 2) + z8) * 2) + z15)), some (0, (((x2 - 1) + (-1)) + (-1))), none]) c_167_90 rfl rfl rfl ?_
              refine n_goto c_167_93 ?_
              refine n_iload c_167_66 rfl ?_
              refine n_if0_lt c_167_68 (by omega) ?_ ?_
              · intro h18
                exfalso; omega
              · intro h19
                refine n_iload c_167_71 rfl ?_
                refine n_aload_n c_167_73 rfl ?_
                refine n_getV (bi := 0) c_167_74 sc_112.n rfl rfl rfl (t_dm hS hdm) ?_
                intro z20 ez20 f21
                obtain rfl : z20 = 2 := by omega
                refine n_imul c_167_77 rfl ?_
                refine n_aload_n c_167_78 rfl ?_
                refine n_iload c_167_79 rfl ?_
                refine n_iload_n c_167_81 rfl ?_
                refine n_iload c_167_82 rfl ?_
                refine n_v3I c_167_84 rfl sc_112.n rfl rfl rfl rfl (mdigit_2 (r := (((x2 - 1) + (-1)) + (-1))) (k := 2) (j := 0) hS hdm (by omega) (by omega) (by omega) (by omega)) ?_
                intro z22 M23 hP24
                obtain ⟨eM, f24⟩ := hP24
                subst eM
                refine n_iadd c_167_87 rfl ?_
                refine n_istore (L2 := [some (2, 112), some (0, 2), some (0, x2), some (0, x3), some (0, 0), some (0, ((((((0 * 2) + z8) * 2) + z15) * 2) + z22)), some (0, (((x2 - 1) + (-1)) + (-1))), none]) c_167_88 rfl rfl ?_
                refine n_iinc (L2 := [some (2, 112), some (0, 2), some (0, x2), some (0, x3), some (0, 0), some (0, ((((((0 * 2) + z8) * 2) + z15) * 2) + z22)), some (0, ((((x2 - 1) + (-1)) + (-1)) + (-1))), none]) c_167_90 rfl rfl rfl ?_
                refine n_goto c_167_93 ?_
                refine n_iload c_167_66 rfl ?_
                refine n_if0_lt c_167_68 (by omega) ?_ ?_
                · intro h25
                  exfalso; omega
                · intro h26
                  refine n_iload c_167_71 rfl ?_
                  refine n_aload_n c_167_73 rfl ?_
                  refine n_getV (bi := 0) c_167_74 sc_112.n rfl rfl rfl (t_dm hS hdm) ?_
                  intro z27 ez27 f28
                  obtain rfl : z27 = 2 := by omega
                  refine n_imul c_167_77 rfl ?_
                  refine n_aload_n c_167_78 rfl ?_
                  refine n_iload c_167_79 rfl ?_
                  refine n_iload_n c_167_81 rfl ?_
                  refine n_iload c_167_82 rfl ?_
                  refine n_v3I c_167_84 rfl sc_112.n rfl rfl rfl rfl (mdigit_2 (r := ((((x2 - 1) + (-1)) + (-1)) + (-1))) (k := 2) (j := 0) hS hdm (by omega) (by omega) (by omega) (by omega)) ?_
                  intro z29 M30 hP31
                  obtain ⟨eM, f31⟩ := hP31
                  subst eM
                  refine n_iadd c_167_87 rfl ?_
                  refine n_istore (L2 := [some (2, 112), some (0, 2), some (0, x2), some (0, x3), some (0, 0), some (0, ((((((((0 * 2) + z8) * 2) + z15) * 2) + z22) * 2) + z29)), some (0, ((((x2 - 1) + (-1)) + (-1)) + (-1))), none]) c_167_88 rfl rfl ?_
                  refine n_iinc (L2 := [some (2, 112), some (0, 2), some (0, x2), some (0, x3), some (0, 0), some (0, ((((((((0 * 2) + z8) * 2) + z15) * 2) + z22) * 2) + z29)), some (0, (((((x2 - 1) + (-1)) + (-1)) + (-1)) + (-1))), none]) c_167_90 rfl rfl rfl ?_
                  refine n_goto c_167_93 ?_
                  refine n_iload c_167_66 rfl ?_
                  refine n_if0_lt c_167_68 (by omega) ?_ ?_
                  · intro h32
                    refine n_aload_n c_167_96 rfl ?_
                    refine n_getR c_167_97 sc_112.n rfl rfl rfl r_112_17 ?_
                    refine n_iload c_167_100 rfl ?_
                    refine n_iconst c_167_102 ?_
                    refine n_iastoreV hS c_167_103 sc_125.n rfl (by omega) (w_125 (by omega) (by omega)) ?_
                    intro M33 eM33 hS33
                    have g33_0 : M33 125 ((((((((0 * 2) + z8) * 2) + z15) * 2) + z22) * 2) + z29) = 1 := by rw [eM33]; exact nu_s _ _ _ _
                    refine n_iinc (L2 := [some (2, 112), some (0, 2), some (0, x2), some (0, x3), some (0, (0 + 1)), some (0, ((((((((0 * 2) + z8) * 2) + z15) * 2) + z22) * 2) + z29)), some (0, (((((x2 - 1) + (-1)) + (-1)) + (-1)) + (-1))), none]) c_167_104 rfl rfl rfl ?_
                    refine n_goto c_167_107 ?_
                    refine n_iload c_167_52 rfl ?_
                    refine n_iload_n c_167_54 rfl ?_
                    refine n_if2_ge c_167_55 (by omega) (by omega) ?_ ?_
                    · intro h34
                      exfalso; omega
                    · intro h35
                      refine n_iconst c_167_58 ?_
                      refine n_istore (L2 := [some (2, 112), some (0, 2), some (0, x2), some (0, x3), some (0, (0 + 1)), some (0, 0), some (0, (((((x2 - 1) + (-1)) + (-1)) + (-1)) + (-1))), none]) c_167_59 rfl rfl ?_
                      refine n_iload_n c_167_61 rfl ?_
                      refine n_iconst c_167_62 ?_
                      refine n_isub c_167_63 rfl ?_
                      refine n_istore (L2 := [some (2, 112), some (0, 2), some (0, x2), some (0, x3), some (0, (0 + 1)), some (0, 0), some (0, (x2 - 1)), none]) c_167_64 rfl rfl ?_
                      refine n_iload c_167_66 rfl ?_
                      refine n_if0_lt c_167_68 (by omega) ?_ ?_
                      · intro h36
                        exfalso; omega
                      · intro h37
                        refine n_iload c_167_71 rfl ?_
                        refine n_aload_n c_167_73 rfl ?_
                        refine n_getV (bi := 0) c_167_74 sc_112.n rfl rfl rfl (t_dm hS33 hdm) ?_
                        intro z38 ez38 f39
                        obtain rfl : z38 = 2 := by omega
                        refine n_imul c_167_77 rfl ?_
                        refine n_aload_n c_167_78 rfl ?_
                        refine n_iload c_167_79 rfl ?_
                        refine n_iload_n c_167_81 rfl ?_
                        refine n_iload c_167_82 rfl ?_
                        refine n_v3I c_167_84 rfl sc_112.n rfl rfl rfl rfl (mdigit_2 (r := (x2 - 1)) (k := 2) (j := (0 + 1)) hS33 hdm (by omega) (by omega) (by omega) (by omega)) ?_
                        intro z40 M41 hP42
                        obtain ⟨eM, f42⟩ := hP42
                        subst eM
                        refine n_iadd c_167_87 rfl ?_
                        refine n_istore (L2 := [some (2, 112), some (0, 2), some (0, x2), some (0, x3), some (0, (0 + 1)), some (0, ((0 * 2) + z40)), some (0, (x2 - 1)), none]) c_167_88 rfl rfl ?_
                        refine n_iinc (L2 := [some (2, 112), some (0, 2), some (0, x2), some (0, x3), some (0, (0 + 1)), some (0, ((0 * 2) + z40)), some (0, ((x2 - 1) + (-1))), none]) c_167_90 rfl rfl rfl ?_
                        refine n_goto c_167_93 ?_
                        refine n_iload c_167_66 rfl ?_
                        refine n_if0_lt c_167_68 (by omega) ?_ ?_
                        · intro h43
                          exfalso; omega
                        · intro h44
                          refine n_iload c_167_71 rfl ?_
                          refine n_aload_n c_167_73 rfl ?_
                          refine n_getV (bi := 0) c_167_74 sc_112.n rfl rfl rfl (t_dm hS33 hdm) ?_
                          intro z45 ez45 f46
                          obtain rfl : z45 = 2 := by omega
                          refine n_imul c_167_77 rfl ?_
                          refine n_aload_n c_167_78 rfl ?_
                          refine n_iload c_167_79 rfl ?_
                          refine n_iload_n c_167_81 rfl ?_
                          refine n_iload c_167_82 rfl ?_
                          refine n_v3I c_167_84 rfl sc_112.n rfl rfl rfl rfl (mdigit_2 (r := ((x2 - 1) + (-1))) (k := 2) (j := (0 + 1)) hS33 hdm (by omega) (by omega) (by omega) (by omega)) ?_
                          intro z47 M48 hP49
                          obtain ⟨eM, f49⟩ := hP49
                          subst eM
                          refine n_iadd c_167_87 rfl ?_
                          refine n_istore (L2 := [some (2, 112), some (0, 2), some (0, x2), some (0, x3), some (0, (0 + 1)), some (0, ((((0 * 2) + z40) * 2) + z47)), some (0, ((x2 - 1) + (-1))), none]) c_167_88 rfl rfl ?_
                          refine n_iinc (L2 := [some (2, 112), some (0, 2), some (0, x2), some (0, x3), some (0, (0 + 1)), some (0, ((((0 * 2) + z40) * 2) + z47)), some (0, (((x2 - 1) + (-1)) + (-1))), none]) c_167_90 rfl rfl rfl ?_
                          refine n_goto c_167_93 ?_
                          refine n_iload c_167_66 rfl ?_
                          refine n_if0_lt c_167_68 (by omega) ?_ ?_
                          · intro h50
                            exfalso; omega
                          · intro h51
                            refine n_iload c_167_71 rfl ?_
                            refine n_aload_n c_167_73 rfl ?_
                            refine n_getV (bi := 0) c_167_74 sc_112.n rfl rfl rfl (t_dm hS33 hdm) ?_
                            intro z52 ez52 f53
                            obtain rfl : z52 = 2 := by omega
                            refine n_imul c_167_77 rfl ?_
                            refine n_aload_n c_167_78 rfl ?_
                            refine n_iload c_167_79 rfl ?_
                            refine n_iload_n c_167_81 rfl ?_
                            refine n_iload c_167_82 rfl ?_
                            refine n_v3I c_167_84 rfl sc_112.n rfl rfl rfl rfl (mdigit_2 (r := (((x2 - 1) + (-1)) + (-1))) (k := 2) (j := (0 + 1)) hS33 hdm (by omega) (by omega) (by omega) (by omega)) ?_
                            intro z54 M55 hP56
                            obtain ⟨eM, f56⟩ := hP56
                            subst eM
                            refine n_iadd c_167_87 rfl ?_
                            refine n_istore (L2 := [some (2, 112), some (0, 2), some (0, x2), some (0, x3), some (0, (0 + 1)), some (0, ((((((0 * 2) + z40) * 2) + z47) * 2) + z54)), some (0, (((x2 - 1) + (-1)) + (-1))), none]) c_167_88 rfl rfl ?_
                            refine n_iinc (L2 := [some (2, 112), some (0, 2), some (0, x2), some (0, x3), some (0, (0 + 1)), some (0, ((((((0 * 2) + z40) * 2) + z47) * 2) + z54)), some (0, ((((x2 - 1) + (-1)) + (-1)) + (-1))), none]) c_167_90 rfl rfl rfl ?_
                            refine n_goto c_167_93 ?_
                            refine n_iload c_167_66 rfl ?_
                            refine n_if0_lt c_167_68 (by omega) ?_ ?_
                            · intro h57
                              exfalso; omega
                            · intro h58
                              refine n_iload c_167_71 rfl ?_
                              refine n_aload_n c_167_73 rfl ?_
                              refine n_getV (bi := 0) c_167_74 sc_112.n rfl rfl rfl (t_dm hS33 hdm) ?_
                              intro z59 ez59 f60
                              obtain rfl : z59 = 2 := by omega
                              refine n_imul c_167_77 rfl ?_
                              refine n_aload_n c_167_78 rfl ?_
                              refine n_iload c_167_79 rfl ?_
                              refine n_iload_n c_167_81 rfl ?_
                              refine n_iload c_167_82 rfl ?_
                              refine n_v3I c_167_84 rfl sc_112.n rfl rfl rfl rfl (mdigit_2 (r := ((((x2 - 1) + (-1)) + (-1)) + (-1))) (k := 2) (j := (0 + 1)) hS33 hdm (by omega) (by omega) (by omega) (by omega)) ?_
                              intro z61 M62 hP63
                              obtain ⟨eM, f63⟩ := hP63
                              subst eM
                              refine n_iadd c_167_87 rfl ?_
                              refine n_istore (L2 := [some (2, 112), some (0, 2), some (0, x2), some (0, x3), some (0, (0 + 1)), some (0, ((((((((0 * 2) + z40) * 2) + z47) * 2) + z54) * 2) + z61)), some (0, ((((x2 - 1) + (-1)) + (-1)) + (-1))), none]) c_167_88 rfl rfl ?_
                              refine n_iinc (L2 := [some (2, 112), some (0, 2), some (0, x2), some (0, x3), some (0, (0 + 1)), some (0, ((((((((0 * 2) + z40) * 2) + z47) * 2) + z54) * 2) + z61)), some (0, (((((x2 - 1) + (-1)) + (-1)) + (-1)) + (-1))), none]) c_167_90 rfl rfl rfl ?_
                              refine n_goto c_167_93 ?_
                              refine n_iload c_167_66 rfl ?_
                              refine n_if0_lt c_167_68 (by omega) ?_ ?_
                              · intro h64
                                refine n_aload_n c_167_96 rfl ?_
                                refine n_getR c_167_97 sc_112.n rfl rfl rfl r_112_17 ?_
                                refine n_iload c_167_100 rfl ?_
                                refine n_iconst c_167_102 ?_
                                refine n_iastoreV hS33 c_167_103 sc_125.n rfl (by omega) (w_125 (by omega) (by omega)) ?_
                                intro M65 eM65 hS65
                                have g65_0 : M65 125 ((((((((0 * 2) + z40) * 2) + z47) * 2) + z54) * 2) + z61) = 1 := by rw [eM65]; exact nu_s _ _ _ _
                                refine n_iinc (L2 := [some (2, 112), some (0, 2), some (0, x2), some (0, x3), some (0, ((0 + 1) + 1)), some (0, ((((((((0 * 2) + z40) * 2) + z47) * 2) + z54) * 2) + z61)), some (0, (((((x2 - 1) + (-1)) + (-1)) + (-1)) + (-1))), none]) c_167_104 rfl rfl rfl ?_
                                refine n_goto c_167_107 ?_
                                refine n_iload c_167_52 rfl ?_
                                refine n_iload_n c_167_54 rfl ?_
                                refine n_if2_ge c_167_55 (by omega) (by omega) ?_ ?_
                                · intro h66
                                  refine n_iconst c_167_110 ?_
                                  refine n_istore (L2 := [some (2, 112), some (0, 2), some (0, x2), some (0, x3), some (0, 0), some (0, ((((((((0 * 2) + z40) * 2) + z47) * 2) + z54) * 2) + z61)), some (0, (((((x2 - 1) + (-1)) + (-1)) + (-1)) + (-1))), none]) c_167_111 rfl rfl ?_
                                  refine n_fg (le_s (le_s (le_s (le_s (le_s (le_n (le_n (le_n le_0)))))))) ?_
                                  exact ih.2.1 _ _ _ M65 hS65 (by omega) (by omega) (by omega) (by omega)
                                · intro h67
                                  exfalso; omega
                              · intro h68
                                exfalso; omega
                  · intro h69
                    exfalso; omega
      · intro h70
        refine n_aload_n c_167_35 rfl ?_
        refine n_getR c_167_36 sc_112.n rfl rfl rfl r_112_17 ?_
        refine n_iload c_167_39 rfl ?_
        refine n_iconst c_167_41 ?_
        refine n_iastoreV hS c_167_42 sc_125.n rfl (by omega) (w_125 (by omega) (by omega)) ?_
        intro M71 eM71 hS71
        have g71_0 : M71 125 x4 = 0 := by rw [eM71]; exact nu_s _ _ _ _
        refine n_iinc (L2 := [some (2, 112), some (0, 2), some (0, x2), some (0, x3), some (0, (x4 + 1)), none, none, none]) c_167_43 rfl rfl rfl ?_
        refine n_goto c_167_46 ?_
        refine n_fg (le_s (le_s (le_s (le_s (le_s (le_n (le_n (le_n le_0)))))))) ?_
        exact ih.1 _ _ _ M71 hS71 (by omega) (by omega) (by omega) (by omega)
    · intro x2 x3 x4 M hS k2 k3 k4 hnn
      refine n_iconst c_167_113 ?_
      refine n_istore (L2 := [some (2, 112), some (0, 2), some (0, x2), some (0, x3), some (0, x4), some (0, (-1)), none, none]) c_167_114 rfl rfl ?_
      refine n_iconst c_167_116 ?_
      refine n_istore (L2 := [some (2, 112), some (0, 2), some (0, x2), some (0, x3), some (0, x4), some (0, (-1)), some (0, 0), none]) c_167_117 rfl rfl ?_
      refine n_fg (le_s (le_s (le_s (le_s (le_s (le_s (le_s (le_n le_0)))))))) ?_
      exact ih.2.2.1 _ _ _ _ _ M hS (by omega) (by omega) (by omega) (by omega) (by omega) (by omega) (by omega)
    · intro x2 x3 x4 x5 x6 M hS k2 k3 k4 k5 k6 v0 hnn
      refine n_iload c_167_119 rfl ?_
      refine n_iload_n c_167_121 rfl ?_
      refine n_if2_ge c_167_122 (by omega) (by omega) ?_ ?_
      · intro h1
        refine n_iload c_167_168 rfl ?_
        refine n_iconst c_167_170 ?_
        refine n_if2_ne c_167_171 (by omega) (by omega) ?_ ?_
        · intro h2
          refine n_iload c_167_190 rfl ?_
          refine n_sipush c_167_192 rfl ?_
          refine n_if2_ne c_167_195 (by omega) (by omega) ?_ ?_
          · intro h3
            refine n_aload_n c_167_207 rfl ?_
            refine n_getR c_167_208 sc_112.n rfl rfl rfl r_112_14 ?_
            refine n_sipush c_167_211 rfl ?_
            refine n_iload_n c_167_214 rfl ?_
            refine n_imul c_167_215 rfl ?_
            refine n_iload c_167_216 rfl ?_
            refine n_iadd c_167_218 rfl ?_
            refine n_iload c_167_219 rfl ?_
            refine n_iastoreV hS c_167_221 sc_122.n rfl (by omega) (w_122 (by omega) (by omega)) ?_
            intro M4 eM4 hS4
            have g4_0 : M4 125 x5 = M 125 x5 := by rw [eM4]; exact nu_a (by omega)
            have g4_1 : M4 122 ((256 * 2) + x4) = x5 := by rw [eM4]; exact nu_s _ _ _ _
            refine n_aload_n c_167_222 rfl ?_
            refine n_getR c_167_223 sc_112.n rfl rfl rfl r_112_15 ?_
            refine n_sipush c_167_226 rfl ?_
            refine n_iload_n c_167_229 rfl ?_
            refine n_imul c_167_230 rfl ?_
            refine n_iload c_167_231 rfl ?_
            refine n_iadd c_167_233 rfl ?_
            refine n_aload_n c_167_234 rfl ?_
            refine n_getR c_167_235 sc_112.n rfl rfl rfl r_112_17 ?_
            refine n_iload c_167_238 rfl ?_
            refine n_ialoadV c_167_240 sc_125.n rfl rfl rfl (by omega) (t_125 hS4 (by omega)) ?_
            intro z5 ez5 f6
            refine n_iconst c_167_241 ?_
            refine n_isub c_167_242 rfl ?_
            refine n_iastoreV hS4 c_167_243 sc_123.n rfl (by omega) (w_123 (by omega) (by omega)) ?_
            intro M7 eM7 hS7
            have g7_0 : M7 125 x5 = M4 125 x5 := by rw [eM7]; exact nu_a (by omega)
            have g7_1 : M7 122 ((256 * 2) + x4) = M4 122 ((256 * 2) + x4) := by rw [eM7]; exact nu_a (by omega)
            have g7_2 : M7 123 ((256 * 2) + x4) = (z5 - 1) := by rw [eM7]; exact nu_s _ _ _ _
            refine n_iload c_167_244 rfl ?_
            refine n_istore (L2 := [some (2, 112), some (0, 2), some (0, x2), some (0, x3), some (0, x4), some (0, x5), some (0, x5), none]) c_167_246 rfl rfl ?_
            refine n_iconst c_167_248 ?_
            refine n_istore (L2 := [some (2, 112), some (0, 2), some (0, x2), some (0, x3), some (0, x4), some (0, x5), some (0, x5), some (0, 0)]) c_167_249 rfl rfl ?_
            refine n_fg (le_s (le_s (le_s (le_s (le_s (le_n (le_s (le_s le_0)))))))) ?_
            exact ih.2.2.2.2.2.1 _ _ _ _ _ M7 hS7 (by omega) (by omega) (by omega) (by omega) (by omega) (by omega)
          · intro h8
            refine n_aload_n c_167_198 rfl ?_
            refine n_getR c_167_199 sc_112.n rfl rfl rfl r_112_16 ?_
            refine n_iload_n c_167_202 rfl ?_
            refine n_bipush c_167_203 rfl ?_
            refine n_iastoreV hS c_167_205 sc_124.n rfl (by omega) (w_124 (by omega) (by omega)) ?_
            intro M9 eM9 hS9
            have g9_0 : M9 125 x5 = M 125 x5 := by rw [eM9]; exact nu_a (by omega)
            have g9_1 : M9 124 2 = (-8) := by rw [eM9]; exact nu_s _ _ _ _
            exact n_rV c_167_206 rfl hS9
        · intro h10
          refine n_aload_n c_167_174 rfl ?_
          refine n_getR c_167_175 sc_112.n rfl rfl rfl r_112_16 ?_
          refine n_iload_n c_167_178 rfl ?_
          refine n_iload c_167_179 rfl ?_
          refine n_iastoreV hS c_167_181 sc_124.n rfl (by omega) (w_124 (by omega) (by omega)) ?_
          intro M11 eM11 hS11
          have g11_0 : M11 125 x5 = M 125 x5 := by rw [eM11]; exact nu_a (by omega)
          have g11_1 : M11 124 2 = x4 := by rw [eM11]; exact nu_s _ _ _ _
          refine n_aload_n c_167_182 rfl ?_
          refine n_iload_n c_167_183 rfl ?_
          refine n_iload c_167_184 rfl ?_
          refine n_v2V c_167_186 rfl sc_112.n rfl rfl rfl rfl (mordered_2 (n := 2) (m := x4) hS11 hdm (by omega) (by omega)) ?_
          intro  M12 hP13
          have hS12 := hP13
          exact n_rV c_167_189 rfl hS12
      · intro h14
        refine n_aload_n c_167_125 rfl ?_
        refine n_getR c_167_126 sc_112.n rfl rfl rfl r_112_17 ?_
        refine n_iload c_167_129 rfl ?_
        refine n_ialoadV c_167_131 sc_125.n rfl rfl rfl (by omega) (t_125 hS (by omega)) ?_
        intro z15 ez15 f16
        refine n_if0_le c_167_132 (by omega) ?_ ?_
        · intro h17
          refine n_fg (le_s (le_s (le_s (le_s (le_s (le_s (le_s (le_n le_0)))))))) ?_
          exact ih.2.2.2.2.1 _ _ _ _ _ M hS (by omega) (by omega) (by omega) (by omega) (by omega) (by omega) (by omega)
        · intro h18
          refine n_iload c_167_135 rfl ?_
          refine n_iconst c_167_137 ?_
          refine n_if2_eq c_167_138 (by omega) (by omega) ?_ ?_
          · intro h19
            refine n_fg (le_s (le_s (le_s (le_s (le_s (le_n (le_s (le_n le_0)))))))) ?_
            exact ih.2.2.2.1 _ _ _ _ M hS (by omega) (by omega) (by omega) (by omega) (by omega) (by omega)
          · intro h20
            refine n_aload_n c_167_141 rfl ?_
            refine n_getR c_167_142 sc_112.n rfl rfl rfl r_112_17 ?_
            refine n_iload c_167_145 rfl ?_
            refine n_ialoadV c_167_147 sc_125.n rfl rfl rfl (by omega) (t_125 hS (by omega)) ?_
            intro z21 ez21 f22
            refine n_aload_n c_167_148 rfl ?_
            refine n_getR c_167_149 sc_112.n rfl rfl rfl r_112_17 ?_
            refine n_iload c_167_152 rfl ?_
            refine n_ialoadV c_167_154 sc_125.n rfl rfl rfl (by omega) (t_125 hS (by omega)) ?_
            intro z23 ez23 f24
            refine n_if2_ge c_167_155 (by omega) (by omega) ?_ ?_
            · intro h25
              refine n_fg (le_s (le_s (le_s (le_s (le_s (le_s (le_s (le_n le_0)))))))) ?_
              exact ih.2.2.2.2.1 _ _ _ _ _ M hS (by omega) (by omega) (by omega) (by omega) (by omega) (by omega) (by omega)
            · intro h26
              refine n_fg (le_s (le_s (le_s (le_s (le_s (le_n (le_s (le_n le_0)))))))) ?_
              exact ih.2.2.2.1 _ _ _ _ M hS (by omega) (by omega) (by omega) (by omega) (by omega) (by omega)
    · intro x2 x3 x4 x6 M hS k2 k3 k4 k6 v0 hnn
      refine n_iload c_167_158 rfl ?_
      refine n_istore (L2 := [some (2, 112), some (0, 2), some (0, x2), some (0, x3), some (0, x4), some (0, x6), some (0, x6), none]) c_167_160 rfl rfl ?_
      refine n_fg (le_s (le_s (le_s (le_s (le_s (le_s (le_s (le_n le_0)))))))) ?_
      exact ih.2.2.2.2.1 _ _ _ _ _ M hS (by omega) (by omega) (by omega) (by omega) (by omega) (by omega) (by omega)
    · intro x2 x3 x4 x5 x6 M hS k2 k3 k4 k5 k6 v0 hnn
      refine n_iinc (L2 := [some (2, 112), some (0, 2), some (0, x2), some (0, x3), some (0, x4), some (0, x5), some (0, (x6 + 1)), none]) c_167_162 rfl rfl rfl ?_
      refine n_goto c_167_165 ?_
      refine n_fg (le_s (le_s (le_s (le_s (le_s (le_s (le_s (le_n le_0)))))))) ?_
      exact ih.2.2.1 _ _ _ _ _ M hS (by omega) (by omega) (by omega) (by omega) (by omega) (by omega) (by omega)
    · intro x2 x3 x4 x6 x7 M hS k2 k3 k4 k6 k7 hnn
      refine n_iload c_167_251 rfl ?_
      refine n_iload_n c_167_253 rfl ?_
      refine n_if2_ge c_167_254 (by omega) (by omega) ?_ ?_
      · intro h1
        refine n_iload c_167_292 rfl ?_
        refine n_iconst c_167_294 ?_
        refine n_iadd c_167_295 rfl ?_
        refine n_iload_n c_167_296 rfl ?_
        refine n_if2_ge c_167_297 (by omega) (by omega) ?_ ?_
        · intro h2
          refine n_fg (le_s (le_s (le_s (le_s (le_s (le_n (le_n (le_n le_0)))))))) ?_
          exact ih.2.2.2.2.2.2.1 _ _ _ M hS (by omega) (by omega) (by omega) (by omega)
        · intro h3
          refine n_aload_n c_167_300 rfl ?_
          refine n_iload_n c_167_301 rfl ?_
          refine n_iload_n c_167_302 rfl ?_
          refine n_iload c_167_303 rfl ?_
          have hcst : (x2 : Int) = 4 := by omega
          rw [hcst]
          refine n_v3V c_167_305 rfl sc_112.n rfl rfl rfl rfl (mjoins4_2 (n := 2) (t := x4) hS hdm (by omega) (by omega)) ?_
          intro  M4 hP5
          have hS4 := hP5
          refine n_fg (le_s (le_s (le_s (le_s (le_s (le_n (le_n (le_n le_0)))))))) ?_
          exact ih.2.2.2.2.2.2.1 _ _ _ M4 hS4 (by omega) (by omega) (by omega) (by omega)
      · intro h6
        refine n_aload_n c_167_257 rfl ?_
        refine n_getR c_167_258 sc_112.n rfl rfl rfl r_112_18 ?_
        refine n_bipush c_167_261 rfl ?_
        refine n_iload c_167_263 rfl ?_
        refine n_imul c_167_265 rfl ?_
        refine n_iload c_167_266 rfl ?_
        refine n_iadd c_167_268 rfl ?_
        refine n_iload c_167_269 rfl ?_
        refine n_aload_n c_167_271 rfl ?_
        refine n_getV (bi := 0) c_167_272 sc_112.n rfl rfl rfl (t_dm hS hdm) ?_
        intro z7 ez7 f8
        obtain rfl : z7 = 2 := by omega
        refine n_iremV c_167_275 (by omega) (by omega) ?_
        intro z9 _ f10
        refine n_iastoreV hS c_167_276 sc_126.n rfl (by omega) (w_126 (by omega) (by omega)) ?_
        intro M11 eM11 hS11
        have g11_0 : M11 126 ((9 * x4) + x7) = z9 := by rw [eM11]; exact nu_s _ _ _ _
        refine n_iload c_167_277 rfl ?_
        refine n_aload_n c_167_279 rfl ?_
        refine n_getV (bi := 0) c_167_280 sc_112.n rfl rfl rfl (t_dm hS11 hdm) ?_
        intro z12 ez12 f13
        obtain rfl : z12 = 2 := by omega
        refine n_idivV c_167_283 (by omega) (by omega) ?_
        intro z14 _ f15
        refine n_istore (L2 := [some (2, 112), some (0, 2), some (0, x2), some (0, x3), some (0, x4), none, some (0, z14), some (0, x7)]) c_167_284 rfl rfl ?_
        refine n_iinc (L2 := [some (2, 112), some (0, 2), some (0, x2), some (0, x3), some (0, x4), none, some (0, z14), some (0, (x7 + 1))]) c_167_286 rfl rfl rfl ?_
        refine n_goto c_167_289 ?_
        refine n_fg (le_s (le_s (le_s (le_s (le_s (le_n (le_s (le_s le_0)))))))) ?_
        exact ih.2.2.2.2.2.1 _ _ _ _ _ M11 hS11 (by omega) (by omega) (by omega) (by omega) (by omega) (by omega)
    · intro x2 x3 x4 M hS k2 k3 k4 hnn
      refine n_iinc (L2 := [some (2, 112), some (0, 2), some (0, x2), some (0, x3), some (0, (x4 + 1)), none, none, none]) c_167_308 rfl rfl rfl ?_
      refine n_iconst c_167_311 ?_
      refine n_istore (L2 := [some (2, 112), some (0, 2), some (0, x2), some (0, x3), some (0, (x4 + 1)), none, none, some (0, 0)]) c_167_312 rfl rfl ?_
      refine n_fg (le_s (le_s (le_s (le_s (le_s (le_n (le_n (le_s le_0)))))))) ?_
      exact ih.2.2.2.2.2.2.2 _ _ _ _ M hS (by omega) (by omega) (by omega) (by omega) (by omega)
    · intro x2 x3 x4 x7 M hS k2 k3 k4 k7 hnn
      refine n_iload c_167_314 rfl ?_
      refine n_iload c_167_316 rfl ?_
      refine n_if2_ge c_167_318 (by omega) (by omega) ?_ ?_
      · intro h1
        refine n_goto c_167_346 ?_
        refine n_fg (le_s (le_s (le_s (le_s (le_s (le_n (le_n (le_n le_0)))))))) ?_
        exact ih.2.1 _ _ _ M hS (by omega) (by omega) (by omega) (by omega)
      · intro h2
        refine n_aload_n c_167_321 rfl ?_
        refine n_getR c_167_322 sc_112.n rfl rfl rfl r_112_17 ?_
        refine n_aload_n c_167_325 rfl ?_
        refine n_getR c_167_326 sc_112.n rfl rfl rfl r_112_14 ?_
        refine n_sipush c_167_329 rfl ?_
        refine n_iload_n c_167_332 rfl ?_
        refine n_imul c_167_333 rfl ?_
        refine n_iload c_167_334 rfl ?_
        refine n_iadd c_167_336 rfl ?_
        refine n_ialoadV c_167_337 sc_122.n rfl rfl rfl (by omega) (t_122 hS (by omega)) ?_
        intro z3 ez3 f4
        refine n_iconst c_167_338 ?_
        refine n_iastoreV hS c_167_339 sc_125.n rfl (by omega) (w_125 (by omega) (by omega)) ?_
        intro M5 eM5 hS5
        have g5_0 : M5 125 z3 = (-1) := by rw [eM5]; exact nu_s _ _ _ _
        refine n_iinc (L2 := [some (2, 112), some (0, 2), some (0, x2), some (0, x3), some (0, x4), none, none, some (0, (x7 + 1))]) c_167_340 rfl rfl rfl ?_
        refine n_goto c_167_343 ?_
        refine n_fg (le_s (le_s (le_s (le_s (le_s (le_n (le_n (le_s le_0)))))))) ?_
        exact ih.2.2.2.2.2.2.2 _ _ _ _ M5 hS5 (by omega) (by omega) (by omega) (by omega) (by omega)
set_option maxHeartbeats 4000000 in
theorem mmakes2_2 {xs : List Int32} {e : Nat} {ac : Int} {M0 M : nM} (hS : Sf 2 ac M0 M) (hdm : M0 112 0 = 2) : nW xs (e + 2) 167 0 [some (2, 112), some (0, 2), none, none, none, none, none, none] [] M (nPV fun M1 => Sf 2 ac M0 M1) := by
  have hd : (2 : Int) = 2 ∨ (2 : Int) = 3 := by decide
  have hac := hS.2.2.2.2
  refine n_aload_n c_167_0 rfl ?_
  refine n_getR c_167_1 sc_112.n rfl rfl rfl r_112_16 ?_
  refine n_iload_n c_167_4 rfl ?_
  refine n_ialoadV c_167_5 sc_124.n rfl rfl rfl (by omega) (t_124 hS (by omega)) ?_
  intro z1 ez1 f2
  refine n_iconst c_167_6 ?_
  refine n_if2_eq c_167_7 (by omega) (by omega) ?_ ?_
  · intro h3
    refine n_aload_n c_167_11 rfl ?_
    refine n_iload_n c_167_12 rfl ?_
    refine n_v1I c_167_13 rfl sc_112.n rfl rfl rfl rfl (mrowsOf2_2  hS hdm) ?_
    intro z4 M5 hP6
    obtain ⟨eM, f6⟩ := hP6
    subst eM
    obtain rfl : z4 = 4 := by omega
    refine n_istore_n (L2 := [some (2, 112), some (0, 2), some (0, 4), none, none, none, none, none]) c_167_16 rfl rfl ?_
    refine n_aload_n c_167_17 rfl ?_
    refine n_getV (bi := 0) c_167_18 sc_112.n rfl rfl rfl (t_dm hS hdm) ?_
    intro z7 ez7 f8
    obtain rfl : z7 = 2 := by omega
    refine n_iload_n c_167_21 rfl ?_
    refine n_s2I c_167_22 rfl rfl rfl rfl (mpower4_2  hS ) ?_
    intro z9 M10 hP11
    obtain ⟨eM, f11⟩ := hP11
    subst eM
    obtain rfl : z9 = 16 := by omega
    refine n_istore_n (L2 := [some (2, 112), some (0, 2), some (0, 4), some (0, 16), none, none, none, none]) c_167_25 rfl rfl ?_
    refine n_iconst c_167_26 ?_
    refine n_istore (L2 := [some (2, 112), some (0, 2), some (0, 4), some (0, 16), some (0, 0), none, none, none]) c_167_27 rfl rfl ?_
    refine n_fg (le_s (le_s (le_s (le_s (le_s (le_n (le_n (le_n le_0)))))))) ?_
    exact (mmakes2_2_c hS hdm 165166).1 _ _ _ M hS (by omega) (by omega) (by omega) (by omega)
  · intro h12
    exact n_rV c_167_10 rfl hS

set_option maxHeartbeats 4000000 in
theorem mmakes3_2_c {xs : List Int32} {e : Nat} {ac : Int} {M0 M : nM} (hS : Sf 2 ac M0 M) (hdm : M0 112 0 = 2) : ∀ nn : Nat, (∀ (x2 x3 x4 : Int) (M : nM), Sf 2 ac M0 M → (8 ≤ x2 ∧ x2 ≤ 8) → (256 ≤ x3 ∧ x3 ≤ 256) → (0 ≤ x4 ∧ x4 ≤ 256) → (256 - x4) * 1 + 269353 < (nn : Int) → nW xs (e + 2) 167 29 [some (2, 112), some (0, 3), some (0, x2), some (0, x3), some (0, x4), none, none, none] [] M (nPV fun M1 => Sf 2 ac M0 M1)) ∧ (∀ (x2 x3 x4 : Int) (M : nM), Sf 2 ac M0 M → (8 ≤ x2 ∧ x2 ≤ 8) → (256 ≤ x3 ∧ x3 ≤ 256) → (0 ≤ x4 ∧ x4 ≤ 256) → (256 - x4) * 1044 + 1044 < (nn : Int) → nW xs (e + 2) 167 113 [some (2, 112), some (0, 3), some (0, x2), some (0, x3), some (0, x4), none, none, none] [] M (nPV fun M1 => Sf 2 ac M0 M1)) ∧ (∀ (x2 x3 x4 x5 x6 : Int) (M : nM), Sf 2 ac M0 M → (8 ≤ x2 ∧ x2 ≤ 8) → (256 ≤ x3 ∧ x3 ≤ 256) → (0 ≤ x4 ∧ x4 ≤ 256) → (-1 ≤ x5 ∧ x5 ≤ 255) → (0 ≤ x6 ∧ x6 ≤ 256) → (x5 = -1 ∨ 1 ≤ M 125 x5) → (256 - x4) * 1044 + (256 - x6) * 3 + 272 < (nn : Int) → nW xs (e + 2) 167 119 [some (2, 112), some (0, 3), some (0, x2), some (0, x3), some (0, x4), some (0, x5), some (0, x6), none] [] M (nPV fun M1 => Sf 2 ac M0 M1)) ∧ (∀ (x2 x3 x4 x6 : Int) (M : nM), Sf 2 ac M0 M → (8 ≤ x2 ∧ x2 ≤ 8) → (256 ≤ x3 ∧ x3 ≤ 256) → (0 ≤ x4 ∧ x4 ≤ 256) → (0 ≤ x6 ∧ x6 ≤ 255) → (1 ≤ M 125 x6) → (256 - x4) * 1044 + (256 - x6) * 3 + 271 < (nn : Int) → nW xs (e + 2) 167 158 [some (2, 112), some (0, 3), some (0, x2), some (0, x3), some (0, x4), none, some (0, x6), none] [] M (nPV fun M1 => Sf 2 ac M0 M1)) ∧ (∀ (x2 x3 x4 x5 x6 : Int) (M : nM), Sf 2 ac M0 M → (8 ≤ x2 ∧ x2 ≤ 8) → (256 ≤ x3 ∧ x3 ≤ 256) → (0 ≤ x4 ∧ x4 ≤ 256) → (-1 ≤ x5 ∧ x5 ≤ 255) → (0 ≤ x6 ∧ x6 ≤ 255) → (x5 = -1 ∨ 1 ≤ M 125 x5) → (256 - x4) * 1044 + (256 - x6) * 3 + 270 < (nn : Int) → nW xs (e + 2) 167 162 [some (2, 112), some (0, 3), some (0, x2), some (0, x3), some (0, x4), some (0, x5), some (0, x6), none] [] M (nPV fun M1 => Sf 2 ac M0 M1)) ∧ (∀ (x2 x3 x4 x6 x7 : Int) (M : nM), Sf 2 ac M0 M → (8 ≤ x2 ∧ x2 ≤ 8) → (256 ≤ x3 ∧ x3 ≤ 256) → (0 ≤ x4 ∧ x4 ≤ 255) → (0 ≤ x6 ∧ x6 ≤ 255) → (0 ≤ x7 ∧ x7 ≤ 8) → (256 - x4) * 1044 + (8 - x7) * 1 + 260 < (nn : Int) → nW xs (e + 2) 167 251 [some (2, 112), some (0, 3), some (0, x2), some (0, x3), some (0, x4), none, some (0, x6), some (0, x7)] [] M (nPV fun M1 => Sf 2 ac M0 M1)) ∧ (∀ (x2 x3 x4 : Int) (M : nM), Sf 2 ac M0 M → (8 ≤ x2 ∧ x2 ≤ 8) → (256 ≤ x3 ∧ x3 ≤ 256) → (0 ≤ x4 ∧ x4 ≤ 255) → (256 - x4) * 1044 + 259 < (nn : Int) → nW xs (e + 2) 167 308 [some (2, 112), some (0, 3), some (0, x2), some (0, x3), some (0, x4), none, none, none] [] M (nPV fun M1 => Sf 2 ac M0 M1)) ∧ (∀ (x2 x3 x4 x7 : Int) (M : nM), Sf 2 ac M0 M → (8 ≤ x2 ∧ x2 ≤ 8) → (256 ≤ x3 ∧ x3 ≤ 256) → (1 ≤ x4 ∧ x4 ≤ 256) → (0 ≤ x7 ∧ x7 ≤ 256) → (256 - (x4 - 1)) * 1044 + (256 - x7) * 1 + 1 < (nn : Int) → nW xs (e + 2) 167 314 [some (2, 112), some (0, 3), some (0, x2), some (0, x3), some (0, x4), none, none, some (0, x7)] [] M (nPV fun M1 => Sf 2 ac M0 M1)) := by
  have hd : (2 : Int) = 2 ∨ (2 : Int) = 3 := by decide
  have hac := hS.2.2.2.2
  intro nn
  induction nn with
  | zero => refine ⟨?_, ?_, ?_, ?_, ?_, ?_, ?_, ?_⟩ <;> (intros; omega)
  | succ nn ih =>
    refine ⟨?_, ?_, ?_, ?_, ?_, ?_, ?_, ?_⟩
    · intro x2 x3 x4 M hS k2 k3 k4 hnn
      refine n_iload c_167_29 rfl ?_
      refine n_iload_n c_167_31 rfl ?_
      refine n_if2_ge c_167_32 (by omega) (by omega) ?_ ?_
      · intro h1
        refine n_iconst c_167_49 ?_
        refine n_istore (L2 := [some (2, 112), some (0, 3), some (0, x2), some (0, x3), some (0, 0), none, none, none]) c_167_50 rfl rfl ?_
        refine n_iload c_167_52 rfl ?_
        refine n_iload_n c_167_54 rfl ?_
        refine n_if2_ge c_167_55 (by omega) (by omega) ?_ ?_
        · intro h2
          exfalso; omega
        · intro h3
          refine n_iconst c_167_58 ?_
          refine n_istore (L2 := [some (2, 112), some (0, 3), some (0, x2), some (0, x3), some (0, 0), some (0, 0), none, none]) c_167_59 rfl rfl ?_
          refine n_iload_n c_167_61 rfl ?_
          refine n_iconst c_167_62 ?_
          refine n_isub c_167_63 rfl ?_
          refine n_istore (L2 := [some (2, 112), some (0, 3), some (0, x2), some (0, x3), some (0, 0), some (0, 0), some (0, (x2 - 1)), none]) c_167_64 rfl rfl ?_
          refine n_iload c_167_66 rfl ?_
          refine n_if0_lt c_167_68 (by omega) ?_ ?_
          · intro h4
            exfalso; omega
          · intro h5
            refine n_iload c_167_71 rfl ?_
            refine n_aload_n c_167_73 rfl ?_
            refine n_getV (bi := 0) c_167_74 sc_112.n rfl rfl rfl (t_dm hS hdm) ?_
            intro z6 ez6 f7
            obtain rfl : z6 = 2 := by omega
            refine n_imul c_167_77 rfl ?_
            refine n_aload_n c_167_78 rfl ?_
            refine n_iload c_167_79 rfl ?_
            refine n_iload_n c_167_81 rfl ?_
            refine n_iload c_167_82 rfl ?_
            refine n_v3I c_167_84 rfl sc_112.n rfl rfl rfl rfl (mdigit_2 (r := (x2 - 1)) (k := 3) (j := 0) hS hdm (by omega) (by omega) (by omega) (by omega)) ?_
            intro z8 M9 hP10
            obtain ⟨eM, f10⟩ := hP10
            subst eM
            refine n_iadd c_167_87 rfl ?_
            refine n_istore (L2 := [some (2, 112), some (0, 3), some (0, x2), some (0, x3), some (0, 0), some (0, ((0 * 2) + z8)), some (0, (x2 - 1)), none]) c_167_88 rfl rfl ?_
            refine n_iinc (L2 := [some (2, 112), some (0, 3), some (0, x2), some (0, x3), some (0, 0), some (0, ((0 * 2) + z8)), some (0, ((x2 - 1) + (-1))), none]) c_167_90 rfl rfl rfl ?_
            refine n_goto c_167_93 ?_
            refine n_iload c_167_66 rfl ?_
            refine n_if0_lt c_167_68 (by omega) ?_ ?_
            · intro h11
              exfalso; omega
            · intro h12
              refine n_iload c_167_71 rfl ?_
              refine n_aload_n c_167_73 rfl ?_
              refine n_getV (bi := 0) c_167_74 sc_112.n rfl rfl rfl (t_dm hS hdm) ?_
              intro z13 ez13 f14
              obtain rfl : z13 = 2 := by omega
              refine n_imul c_167_77 rfl ?_
              refine n_aload_n c_167_78 rfl ?_
              refine n_iload c_167_79 rfl ?_
              refine n_iload_n c_167_81 rfl ?_
              refine n_iload c_167_82 rfl ?_
              refine n_v3I c_167_84 rfl sc_112.n rfl rfl rfl rfl (mdigit_2 (r := ((x2 - 1) + (-1))) (k := 3) (j := 0) hS hdm (by omega) (by omega) (by omega) (by omega)) ?_
              intro z15 M16 hP17
              obtain ⟨eM, f17⟩ := hP17
              subst eM
              refine n_iadd c_167_87 rfl ?_
              refine n_istore (L2 := [some (2, 112), some (0, 3), some (0, x2), some (0, x3), some (0, 0), some (0, ((((0 * 2) + z8) * 2) + z15)), some (0, ((x2 - 1) + (-1))), none]) c_167_88 rfl rfl ?_
              refine n_iinc (L2 := [some (2, 112), some (0, 3), some (0, x2), some (0, x3), some (0, 0), some (0, ((((0 * 2) + z8) * 2) + z15)), some (0, (((x2 - 1) + (-1)) + (-1))), none]) c_167_90 rfl rfl rfl ?_
              refine n_goto c_167_93 ?_
              refine n_iload c_167_66 rfl ?_
              refine n_if0_lt c_167_68 (by omega) ?_ ?_
              · intro h18
                exfalso; omega
              · intro h19
                refine n_iload c_167_71 rfl ?_
                refine n_aload_n c_167_73 rfl ?_
                refine n_getV (bi := 0) c_167_74 sc_112.n rfl rfl rfl (t_dm hS hdm) ?_
                intro z20 ez20 f21
                obtain rfl : z20 = 2 := by omega
                refine n_imul c_167_77 rfl ?_
                refine n_aload_n c_167_78 rfl ?_
                refine n_iload c_167_79 rfl ?_
                refine n_iload_n c_167_81 rfl ?_
                refine n_iload c_167_82 rfl ?_
                refine n_v3I c_167_84 rfl sc_112.n rfl rfl rfl rfl (mdigit_2 (r := (((x2 - 1) + (-1)) + (-1))) (k := 3) (j := 0) hS hdm (by omega) (by omega) (by omega) (by omega)) ?_
                intro z22 M23 hP24
                obtain ⟨eM, f24⟩ := hP24
                subst eM
                refine n_iadd c_167_87 rfl ?_
                refine n_istore (L2 := [some (2, 112), some (0, 3), some (0, x2), some (0, x3), some (0, 0), some (0, ((((((0 * 2) + z8) * 2) + z15) * 2) + z22)), some (0, (((x2 - 1) + (-1)) + (-1))), none]) c_167_88 rfl rfl ?_
                refine n_iinc (L2 := [some (2, 112), some (0, 3), some (0, x2), some (0, x3), some (0, 0), some (0, ((((((0 * 2) + z8) * 2) + z15) * 2) + z22)), some (0, ((((x2 - 1) + (-1)) + (-1)) + (-1))), none]) c_167_90 rfl rfl rfl ?_
                refine n_goto c_167_93 ?_
                refine n_iload c_167_66 rfl ?_
                refine n_if0_lt c_167_68 (by omega) ?_ ?_
                · intro h25
                  exfalso; omega
                · intro h26
                  refine n_iload c_167_71 rfl ?_
                  refine n_aload_n c_167_73 rfl ?_
                  refine n_getV (bi := 0) c_167_74 sc_112.n rfl rfl rfl (t_dm hS hdm) ?_
                  intro z27 ez27 f28
                  obtain rfl : z27 = 2 := by omega
                  refine n_imul c_167_77 rfl ?_
                  refine n_aload_n c_167_78 rfl ?_
                  refine n_iload c_167_79 rfl ?_
                  refine n_iload_n c_167_81 rfl ?_
                  refine n_iload c_167_82 rfl ?_
                  refine n_v3I c_167_84 rfl sc_112.n rfl rfl rfl rfl (mdigit_2 (r := ((((x2 - 1) + (-1)) + (-1)) + (-1))) (k := 3) (j := 0) hS hdm (by omega) (by omega) (by omega) (by omega)) ?_
                  intro z29 M30 hP31
                  obtain ⟨eM, f31⟩ := hP31
                  subst eM
                  refine n_iadd c_167_87 rfl ?_
                  refine n_istore (L2 := [some (2, 112), some (0, 3), some (0, x2), some (0, x3), some (0, 0), some (0, ((((((((0 * 2) + z8) * 2) + z15) * 2) + z22) * 2) + z29)), some (0, ((((x2 - 1) + (-1)) + (-1)) + (-1))), none]) c_167_88 rfl rfl ?_
                  refine n_iinc (L2 := [some (2, 112), some (0, 3), some (0, x2), some (0, x3), some (0, 0), some (0, ((((((((0 * 2) + z8) * 2) + z15) * 2) + z22) * 2) + z29)), some (0, (((((x2 - 1) + (-1)) + (-1)) + (-1)) + (-1))), none]) c_167_90 rfl rfl rfl ?_
                  refine n_goto c_167_93 ?_
                  refine n_iload c_167_66 rfl ?_
                  refine n_if0_lt c_167_68 (by omega) ?_ ?_
                  · intro h32
                    exfalso; omega
                  · intro h33
                    refine n_iload c_167_71 rfl ?_
                    refine n_aload_n c_167_73 rfl ?_
                    refine n_getV (bi := 0) c_167_74 sc_112.n rfl rfl rfl (t_dm hS hdm) ?_
                    intro z34 ez34 f35
                    obtain rfl : z34 = 2 := by omega
                    refine n_imul c_167_77 rfl ?_
                    refine n_aload_n c_167_78 rfl ?_
                    refine n_iload c_167_79 rfl ?_
                    refine n_iload_n c_167_81 rfl ?_
                    refine n_iload c_167_82 rfl ?_
                    refine n_v3I c_167_84 rfl sc_112.n rfl rfl rfl rfl (mdigit_2 (r := (((((x2 - 1) + (-1)) + (-1)) + (-1)) + (-1))) (k := 3) (j := 0) hS hdm (by omega) (by omega) (by omega) (by omega)) ?_
                    intro z36 M37 hP38
                    obtain ⟨eM, f38⟩ := hP38
                    subst eM
                    refine n_iadd c_167_87 rfl ?_
                    refine n_istore (L2 := [some (2, 112), some (0, 3), some (0, x2), some (0, x3), some (0, 0), some (0, ((((((((((0 * 2) + z8) * 2) + z15) * 2) + z22) * 2) + z29) * 2) + z36)), some (0, (((((x2 - 1) + (-1)) + (-1)) + (-1)) + (-1))), none]) c_167_88 rfl rfl ?_
                    refine n_iinc (L2 := [some (2, 112), some (0, 3), some (0, x2), some (0, x3), some (0, 0), some (0, ((((((((((0 * 2) + z8) * 2) + z15) * 2) + z22) * 2) + z29) * 2) + z36)), some (0, ((((((x2 - 1) + (-1)) + (-1)) + (-1)) + (-1)) + (-1))), none]) c_167_90 rfl rfl rfl ?_
                    refine n_goto c_167_93 ?_
                    refine n_iload c_167_66 rfl ?_
                    refine n_if0_lt c_167_68 (by omega) ?_ ?_
                    · intro h39
                      exfalso; omega
                    · intro h40
                      refine n_iload c_167_71 rfl ?_
                      refine n_aload_n c_167_73 rfl ?_
                      refine n_getV (bi := 0) c_167_74 sc_112.n rfl rfl rfl (t_dm hS hdm) ?_
                      intro z41 ez41 f42
                      obtain rfl : z41 = 2 := by omega
                      refine n_imul c_167_77 rfl ?_
                      refine n_aload_n c_167_78 rfl ?_
                      refine n_iload c_167_79 rfl ?_
                      refine n_iload_n c_167_81 rfl ?_
                      refine n_iload c_167_82 rfl ?_
                      refine n_v3I c_167_84 rfl sc_112.n rfl rfl rfl rfl (mdigit_2 (r := ((((((x2 - 1) + (-1)) + (-1)) + (-1)) + (-1)) + (-1))) (k := 3) (j := 0) hS hdm (by omega) (by omega) (by omega) (by omega)) ?_
                      intro z43 M44 hP45
                      obtain ⟨eM, f45⟩ := hP45
                      subst eM
                      refine n_iadd c_167_87 rfl ?_
                      refine n_istore (L2 := [some (2, 112), some (0, 3), some (0, x2), some (0, x3), some (0, 0), some (0, ((((((((((((0 * 2) + z8) * 2) + z15) * 2) + z22) * 2) + z29) * 2) + z36) * 2) + z43)), some (0, ((((((x2 - 1) + (-1)) + (-1)) + (-1)) + (-1)) + (-1))), none]) c_167_88 rfl rfl ?_
                      refine n_iinc (L2 := [some (2, 112), some (0, 3), some (0, x2), some (0, x3), some (0, 0), some (0, ((((((((((((0 * 2) + z8) * 2) + z15) * 2) + z22) * 2) + z29) * 2) + z36) * 2) + z43)), some (0, (((((((x2 - 1) + (-1)) + (-1)) + (-1)) + (-1)) + (-1)) + (-1))), none]) c_167_90 rfl rfl rfl ?_
                      refine n_goto c_167_93 ?_
                      refine n_iload c_167_66 rfl ?_
                      refine n_if0_lt c_167_68 (by omega) ?_ ?_
                      · intro h46
                        exfalso; omega
                      · intro h47
                        refine n_iload c_167_71 rfl ?_
                        refine n_aload_n c_167_73 rfl ?_
                        refine n_getV (bi := 0) c_167_74 sc_112.n rfl rfl rfl (t_dm hS hdm) ?_
                        intro z48 ez48 f49
                        obtain rfl : z48 = 2 := by omega
                        refine n_imul c_167_77 rfl ?_
                        refine n_aload_n c_167_78 rfl ?_
                        refine n_iload c_167_79 rfl ?_
                        refine n_iload_n c_167_81 rfl ?_
                        refine n_iload c_167_82 rfl ?_
                        refine n_v3I c_167_84 rfl sc_112.n rfl rfl rfl rfl (mdigit_2 (r := (((((((x2 - 1) + (-1)) + (-1)) + (-1)) + (-1)) + (-1)) + (-1))) (k := 3) (j := 0) hS hdm (by omega) (by omega) (by omega) (by omega)) ?_
                        intro z50 M51 hP52
                        obtain ⟨eM, f52⟩ := hP52
                        subst eM
                        refine n_iadd c_167_87 rfl ?_
                        refine n_istore (L2 := [some (2, 112), some (0, 3), some (0, x2), some (0, x3), some (0, 0), some (0, ((((((((((((((0 * 2) + z8) * 2) + z15) * 2) + z22) * 2) + z29) * 2) + z36) * 2) + z43) * 2) + z50)), some (0, (((((((x2 - 1) + (-1)) + (-1)) + (-1)) + (-1)) + (-1)) + (-1))), none]) c_167_88 rfl rfl ?_
                        refine n_iinc (L2 := [some (2, 112), some (0, 3), some (0, x2), some (0, x3), some (0, 0), some (0, ((((((((((((((0 * 2) + z8) * 2) + z15) * 2) + z22) * 2) + z29) * 2) + z36) * 2) + z43) * 2) + z50)), some (0, ((((((((x2 - 1) + (-1)) + (-1)) + (-1)) + (-1)) + (-1)) + (-1)) + (-1))), none]) c_167_90 rfl rfl rfl ?_
                        refine n_goto c_167_93 ?_
                        refine n_iload c_167_66 rfl ?_
                        refine n_if0_lt c_167_68 (by omega) ?_ ?_
                        · intro h53
                          exfalso; omega
                        · intro h54
                          refine n_iload c_167_71 rfl ?_
                          refine n_aload_n c_167_73 rfl ?_
                          refine n_getV (bi := 0) c_167_74 sc_112.n rfl rfl rfl (t_dm hS hdm) ?_
                          intro z55 ez55 f56
                          obtain rfl : z55 = 2 := by omega
                          refine n_imul c_167_77 rfl ?_
                          refine n_aload_n c_167_78 rfl ?_
                          refine n_iload c_167_79 rfl ?_
                          refine n_iload_n c_167_81 rfl ?_
                          refine n_iload c_167_82 rfl ?_
                          refine n_v3I c_167_84 rfl sc_112.n rfl rfl rfl rfl (mdigit_2 (r := ((((((((x2 - 1) + (-1)) + (-1)) + (-1)) + (-1)) + (-1)) + (-1)) + (-1))) (k := 3) (j := 0) hS hdm (by omega) (by omega) (by omega) (by omega)) ?_
                          intro z57 M58 hP59
                          obtain ⟨eM, f59⟩ := hP59
                          subst eM
                          refine n_iadd c_167_87 rfl ?_
                          refine n_istore (L2 := [some (2, 112), some (0, 3), some (0, x2), some (0, x3), some (0, 0), some (0, ((((((((((((((((0 * 2) + z8) * 2) + z15) * 2) + z22) * 2) + z29) * 2) + z36) * 2) + z43) * 2) + z50) * 2) + z57)), some (0, ((((((((x2 - 1) + (-1)) + (-1)) + (-1)) + (-1)) + (-1)) + (-1)) + (-1))), none]) c_167_88 rfl rfl ?_
                          refine n_iinc (L2 := [some (2, 112), some (0, 3), some (0, x2), some (0, x3), some (0, 0), some (0, ((((((((((((((((0 * 2) + z8) * 2) + z15) * 2) + z22) * 2) + z29) * 2) + z36) * 2) + z43) * 2) + z50) * 2) + z57)), some (0, (((((((((x2 - 1) + (-1)) + (-1)) + (-1)) + (-1)) + (-1)) + (-1)) + (-1)) + (-1))), none]) c_167_90 rfl rfl rfl ?_
                          refine n_goto c_167_93 ?_
                          refine n_iload c_167_66 rfl ?_
                          refine n_if0_lt c_167_68 (by omega) ?_ ?_
                          · intro h60
                            refine n_aload_n c_167_96 rfl ?_
                            refine n_getR c_167_97 sc_112.n rfl rfl rfl r_112_17 ?_
                            refine n_iload c_167_100 rfl ?_
                            refine n_iconst c_167_102 ?_
                            refine n_iastoreV hS c_167_103 sc_125.n rfl (by omega) (w_125 (by omega) (by omega)) ?_
                            intro M61 eM61 hS61
                            have g61_0 : M61 125 ((((((((((((((((0 * 2) + z8) * 2) + z15) * 2) + z22) * 2) + z29) * 2) + z36) * 2) + z43) * 2) + z50) * 2) + z57) = 1 := by rw [eM61]; exact nu_s _ _ _ _
                            refine n_iinc (L2 := [some (2, 112), some (0, 3), some (0, x2), some (0, x3), some (0, (0 + 1)), some (0, ((((((((((((((((0 * 2) + z8) * 2) + z15) * 2) + z22) * 2) + z29) * 2) + z36) * 2) + z43) * 2) + z50) * 2) + z57)), some (0, (((((((((x2 - 1) + (-1)) + (-1)) + (-1)) + (-1)) + (-1)) + (-1)) + (-1)) + (-1))), none]) c_167_104 rfl rfl rfl ?_
                            refine n_goto c_167_107 ?_
                            refine n_iload c_167_52 rfl ?_
                            refine n_iload_n c_167_54 rfl ?_
                            refine n_if2_ge c_167_55 (by omega) (by omega) ?_ ?_
                            · intro h62
                              exfalso; omega
                            · intro h63
                              refine n_iconst c_167_58 ?_
                              refine n_istore (L2 := [some (2, 112), some (0, 3), some (0, x2), some (0, x3), some (0, (0 + 1)), some (0, 0), some (0, (((((((((x2 - 1) + (-1)) + (-1)) + (-1)) + (-1)) + (-1)) + (-1)) + (-1)) + (-1))), none]) c_167_59 rfl rfl ?_
                              refine n_iload_n c_167_61 rfl ?_
                              refine n_iconst c_167_62 ?_
                              refine n_isub c_167_63 rfl ?_
                              refine n_istore (L2 := [some (2, 112), some (0, 3), some (0, x2), some (0, x3), some (0, (0 + 1)), some (0, 0), some (0, (x2 - 1)), none]) c_167_64 rfl rfl ?_
                              refine n_iload c_167_66 rfl ?_
                              refine n_if0_lt c_167_68 (by omega) ?_ ?_
                              · intro h64
                                exfalso; omega
                              · intro h65
                                refine n_iload c_167_71 rfl ?_
                                refine n_aload_n c_167_73 rfl ?_
                                refine n_getV (bi := 0) c_167_74 sc_112.n rfl rfl rfl (t_dm hS61 hdm) ?_
                                intro z66 ez66 f67
                                obtain rfl : z66 = 2 := by omega
                                refine n_imul c_167_77 rfl ?_
                                refine n_aload_n c_167_78 rfl ?_
                                refine n_iload c_167_79 rfl ?_
                                refine n_iload_n c_167_81 rfl ?_
                                refine n_iload c_167_82 rfl ?_
                                refine n_v3I c_167_84 rfl sc_112.n rfl rfl rfl rfl (mdigit_2 (r := (x2 - 1)) (k := 3) (j := (0 + 1)) hS61 hdm (by omega) (by omega) (by omega) (by omega)) ?_
                                intro z68 M69 hP70
                                obtain ⟨eM, f70⟩ := hP70
                                subst eM
                                refine n_iadd c_167_87 rfl ?_
                                refine n_istore (L2 := [some (2, 112), some (0, 3), some (0, x2), some (0, x3), some (0, (0 + 1)), some (0, ((0 * 2) + z68)), some (0, (x2 - 1)), none]) c_167_88 rfl rfl ?_
                                refine n_iinc (L2 := [some (2, 112), some (0, 3), some (0, x2), some (0, x3), some (0, (0 + 1)), some (0, ((0 * 2) + z68)), some (0, ((x2 - 1) + (-1))), none]) c_167_90 rfl rfl rfl ?_
                                refine n_goto c_167_93 ?_
                                refine n_iload c_167_66 rfl ?_
                                refine n_if0_lt c_167_68 (by omega) ?_ ?_
                                · intro h71
                                  exfalso; omega
                                · intro h72
                                  refine n_iload c_167_71 rfl ?_
                                  refine n_aload_n c_167_73 rfl ?_
                                  refine n_getV (bi := 0) c_167_74 sc_112.n rfl rfl rfl (t_dm hS61 hdm) ?_
                                  intro z73 ez73 f74
                                  obtain rfl : z73 = 2 := by omega
                                  refine n_imul c_167_77 rfl ?_
                                  refine n_aload_n c_167_78 rfl ?_
                                  refine n_iload c_167_79 rfl ?_
                                  refine n_iload_n c_167_81 rfl ?_
                                  refine n_iload c_167_82 rfl ?_
                                  refine n_v3I c_167_84 rfl sc_112.n rfl rfl rfl rfl (mdigit_2 (r := ((x2 - 1) + (-1))) (k := 3) (j := (0 + 1)) hS61 hdm (by omega) (by omega) (by omega) (by omega)) ?_
                                  intro z75 M76 hP77
                                  obtain ⟨eM, f77⟩ := hP77
                                  subst eM
                                  refine n_iadd c_167_87 rfl ?_
                                  refine n_istore (L2 := [some (2, 112), some (0, 3), some (0, x2), some (0, x3), some (0, (0 + 1)), some (0, ((((0 * 2) + z68) * 2) + z75)), some (0, ((x2 - 1) + (-1))), none]) c_167_88 rfl rfl ?_
                                  refine n_iinc (L2 := [some (2, 112), some (0, 3), some (0, x2), some (0, x3), some (0, (0 + 1)), some (0, ((((0 * 2) + z68) * 2) + z75)), some (0, (((x2 - 1) + (-1)) + (-1))), none]) c_167_90 rfl rfl rfl ?_
                                  refine n_goto c_167_93 ?_
                                  refine n_iload c_167_66 rfl ?_
                                  refine n_if0_lt c_167_68 (by omega) ?_ ?_
                                  · intro h78
                                    exfalso; omega
                                  · intro h79
                                    refine n_iload c_167_71 rfl ?_
                                    refine n_aload_n c_167_73 rfl ?_
                                    refine n_getV (bi := 0) c_167_74 sc_112.n rfl rfl rfl (t_dm hS61 hdm) ?_
                                    intro z80 ez80 f81
                                    obtain rfl : z80 = 2 := by omega
                                    refine n_imul c_167_77 rfl ?_
                                    refine n_aload_n c_167_78 rfl ?_
                                    refine n_iload c_167_79 rfl ?_
                                    refine n_iload_n c_167_81 rfl ?_
                                    refine n_iload c_167_82 rfl ?_
                                    refine n_v3I c_167_84 rfl sc_112.n rfl rfl rfl rfl (mdigit_2 (r := (((x2 - 1) + (-1)) + (-1))) (k := 3) (j := (0 + 1)) hS61 hdm (by omega) (by omega) (by omega) (by omega)) ?_
                                    intro z82 M83 hP84
                                    obtain ⟨eM, f84⟩ := hP84
                                    subst eM
                                    refine n_iadd c_167_87 rfl ?_
                                    refine n_istore (L2 := [some (2, 112), some (0, 3), some (0, x2), some (0, x3), some (0, (0 + 1)), some (0, ((((((0 * 2) + z68) * 2) + z75) * 2) + z82)), some (0, (((x2 - 1) + (-1)) + (-1))), none]) c_167_88 rfl rfl ?_
                                    refine n_iinc (L2 := [some (2, 112), some (0, 3), some (0, x2), some (0, x3), some (0, (0 + 1)), some (0, ((((((0 * 2) + z68) * 2) + z75) * 2) + z82)), some (0, ((((x2 - 1) + (-1)) + (-1)) + (-1))), none]) c_167_90 rfl rfl rfl ?_
                                    refine n_goto c_167_93 ?_
                                    refine n_iload c_167_66 rfl ?_
                                    refine n_if0_lt c_167_68 (by omega) ?_ ?_
                                    · intro h85
                                      exfalso; omega
                                    · intro h86
                                      refine n_iload c_167_71 rfl ?_
                                      refine n_aload_n c_167_73 rfl ?_
                                      refine n_getV (bi := 0) c_167_74 sc_112.n rfl rfl rfl (t_dm hS61 hdm) ?_
                                      intro z87 ez87 f88
                                      obtain rfl : z87 = 2 := by omega
                                      refine n_imul c_167_77 rfl ?_
                                      refine n_aload_n c_167_78 rfl ?_
                                      refine n_iload c_167_79 rfl ?_
                                      refine n_iload_n c_167_81 rfl ?_
                                      refine n_iload c_167_82 rfl ?_
                                      refine n_v3I c_167_84 rfl sc_112.n rfl rfl rfl rfl (mdigit_2 (r := ((((x2 - 1) + (-1)) + (-1)) + (-1))) (k := 3) (j := (0 + 1)) hS61 hdm (by omega) (by omega) (by omega) (by omega)) ?_
                                      intro z89 M90 hP91
                                      obtain ⟨eM, f91⟩ := hP91
                                      subst eM
                                      refine n_iadd c_167_87 rfl ?_
                                      refine n_istore (L2 := [some (2, 112), some (0, 3), some (0, x2), some (0, x3), some (0, (0 + 1)), some (0, ((((((((0 * 2) + z68) * 2) + z75) * 2) + z82) * 2) + z89)), some (0, ((((x2 - 1) + (-1)) + (-1)) + (-1))), none]) c_167_88 rfl rfl ?_
                                      refine n_iinc (L2 := [some (2, 112), some (0, 3), some (0, x2), some (0, x3), some (0, (0 + 1)), some (0, ((((((((0 * 2) + z68) * 2) + z75) * 2) + z82) * 2) + z89)), some (0, (((((x2 - 1) + (-1)) + (-1)) + (-1)) + (-1))), none]) c_167_90 rfl rfl rfl ?_
                                      refine n_goto c_167_93 ?_
                                      refine n_iload c_167_66 rfl ?_
                                      refine n_if0_lt c_167_68 (by omega) ?_ ?_
                                      · intro h92
                                        exfalso; omega
                                      · intro h93
                                        refine n_iload c_167_71 rfl ?_
                                        refine n_aload_n c_167_73 rfl ?_
                                        refine n_getV (bi := 0) c_167_74 sc_112.n rfl rfl rfl (t_dm hS61 hdm) ?_
                                        intro z94 ez94 f95
                                        obtain rfl : z94 = 2 := by omega
                                        refine n_imul c_167_77 rfl ?_
                                        refine n_aload_n c_167_78 rfl ?_
                                        refine n_iload c_167_79 rfl ?_
                                        refine n_iload_n c_167_81 rfl ?_
                                        refine n_iload c_167_82 rfl ?_
                                        refine n_v3I c_167_84 rfl sc_112.n rfl rfl rfl rfl (mdigit_2 (r := (((((x2 - 1) + (-1)) + (-1)) + (-1)) + (-1))) (k := 3) (j := (0 + 1)) hS61 hdm (by omega) (by omega) (by omega) (by omega)) ?_
                                        intro z96 M97 hP98
                                        obtain ⟨eM, f98⟩ := hP98
                                        subst eM
                                        refine n_iadd c_167_87 rfl ?_
                                        refine n_istore (L2 := [some (2, 112), some (0, 3), some (0, x2), some (0, x3), some (0, (0 + 1)), some (0, ((((((((((0 * 2) + z68) * 2) + z75) * 2) + z82) * 2) + z89) * 2) + z96)), some (0, (((((x2 - 1) + (-1)) + (-1)) + (-1)) + (-1))), none]) c_167_88 rfl rfl ?_
                                        refine n_iinc (L2 := [some (2, 112), some (0, 3), some (0, x2), some (0, x3), some (0, (0 + 1)), some (0, ((((((((((0 * 2) + z68) * 2) + z75) * 2) + z82) * 2) + z89) * 2) + z96)), some (0, ((((((x2 - 1) + (-1)) + (-1)) + (-1)) + (-1)) + (-1))), none]) c_167_90 rfl rfl rfl ?_
                                        refine n_goto c_167_93 ?_
                                        refine n_iload c_167_66 rfl ?_
                                        refine n_if0_lt c_167_68 (by omega) ?_ ?_
                                        · intro h99
                                          exfalso; omega
                                        · intro h100
                                          refine n_iload c_167_71 rfl ?_
                                          refine n_aload_n c_167_73 rfl ?_
                                          refine n_getV (bi := 0) c_167_74 sc_112.n rfl rfl rfl (t_dm hS61 hdm) ?_
                                          intro z101 ez101 f102
                                          obtain rfl : z101 = 2 := by omega
                                          refine n_imul c_167_77 rfl ?_
                                          refine n_aload_n c_167_78 rfl ?_
                                          refine n_iload c_167_79 rfl ?_
                                          refine n_iload_n c_167_81 rfl ?_
                                          refine n_iload c_167_82 rfl ?_
                                          refine n_v3I c_167_84 rfl sc_112.n rfl rfl rfl rfl (mdigit_2 (r := ((((((x2 - 1) + (-1)) + (-1)) + (-1)) + (-1)) + (-1))) (k := 3) (j := (0 + 1)) hS61 hdm (by omega) (by omega) (by omega) (by omega)) ?_
                                          intro z103 M104 hP105
                                          obtain ⟨eM, f105⟩ := hP105
                                          subst eM
                                          refine n_iadd c_167_87 rfl ?_
                                          refine n_istore (L2 := [some (2, 112), some (0, 3), some (0, x2), some (0, x3), some (0, (0 + 1)), some (0, ((((((((((((0 * 2) + z68) * 2) + z75) * 2) + z82) * 2) + z89) * 2) + z96) * 2) + z103)), some (0, ((((((x2 - 1) + (-1)) + (-1)) + (-1)) + (-1)) + (-1))), none]) c_167_88 rfl rfl ?_
                                          refine n_iinc (L2 := [some (2, 112), some (0, 3), some (0, x2), some (0, x3), some (0, (0 + 1)), some (0, ((((((((((((0 * 2) + z68) * 2) + z75) * 2) + z82) * 2) + z89) * 2) + z96) * 2) + z103)), some (0, (((((((x2 - 1) + (-1)) + (-1)) + (-1)) + (-1)) + (-1)) + (-1))), none]) c_167_90 rfl rfl rfl ?_
                                          refine n_goto c_167_93 ?_
                                          refine n_iload c_167_66 rfl ?_
                                          refine n_if0_lt c_167_68 (by omega) ?_ ?_
                                          · intro h106
                                            exfalso; omega
                                          · intro h107
                                            refine n_iload c_167_71 rfl ?_
                                            refine n_aload_n c_167_73 rfl ?_
                                            refine n_getV (bi := 0) c_167_74 sc_112.n rfl rfl rfl (t_dm hS61 hdm) ?_
                                            intro z108 ez108 f109
                                            obtain rfl : z108 = 2 := by omega
                                            refine n_imul c_167_77 rfl ?_
                                            refine n_aload_n c_167_78 rfl ?_
                                            refine n_iload c_167_79 rfl ?_
                                            refine n_iload_n c_167_81 rfl ?_
                                            refine n_iload c_167_82 rfl ?_
                                            refine n_v3I c_167_84 rfl sc_112.n rfl rfl rfl rfl (mdigit_2 (r := (((((((x2 - 1) + (-1)) + (-1)) + (-1)) + (-1)) + (-1)) + (-1))) (k := 3) (j := (0 + 1)) hS61 hdm (by omega) (by omega) (by omega) (by omega)) ?_
                                            intro z110 M111 hP112
                                            obtain ⟨eM, f112⟩ := hP112
                                            subst eM
                                            refine n_iadd c_167_87 rfl ?_
                                            refine n_istore (L2 := [some (2, 112), some (0, 3), some (0, x2), some (0, x3), some (0, (0 + 1)), some (0, ((((((((((((((0 * 2) + z68) * 2) + z75) * 2) + z82) * 2) + z89) * 2) + z96) * 2) + z103) * 2) + z110)), some (0, (((((((x2 - 1) + (-1)) + (-1)) + (-1)) + (-1)) + (-1)) + (-1))), none]) c_167_88 rfl rfl ?_
                                            refine n_iinc (L2 := [some (2, 112), some (0, 3), some (0, x2), some (0, x3), some (0, (0 + 1)), some (0, ((((((((((((((0 * 2) + z68) * 2) + z75) * 2) + z82) * 2) + z89) * 2) + z96) * 2) + z103) * 2) + z110)), some (0, ((((((((x2 - 1) + (-1)) + (-1)) + (-1)) + (-1)) + (-1)) + (-1)) + (-1))), none]) c_167_90 rfl rfl rfl ?_
                                            refine n_goto c_167_93 ?_
                                            refine n_iload c_167_66 rfl ?_
                                            refine n_if0_lt c_167_68 (by omega) ?_ ?_
                                            · intro h113
                                              exfalso; omega
                                            · intro h114
                                              refine n_iload c_167_71 rfl ?_
                                              refine n_aload_n c_167_73 rfl ?_
                                              refine n_getV (bi := 0) c_167_74 sc_112.n rfl rfl rfl (t_dm hS61 hdm) ?_
                                              intro z115 ez115 f116
                                              obtain rfl : z115 = 2 := by omega
                                              refine n_imul c_167_77 rfl ?_
                                              refine n_aload_n c_167_78 rfl ?_
                                              refine n_iload c_167_79 rfl ?_
                                              refine n_iload_n c_167_81 rfl ?_
                                              refine n_iload c_167_82 rfl ?_
                                              refine n_v3I c_167_84 rfl sc_112.n rfl rfl rfl rfl (mdigit_2 (r := ((((((((x2 - 1) + (-1)) + (-1)) + (-1)) + (-1)) + (-1)) + (-1)) + (-1))) (k := 3) (j := (0 + 1)) hS61 hdm (by omega) (by omega) (by omega) (by omega)) ?_
                                              intro z117 M118 hP119
                                              obtain ⟨eM, f119⟩ := hP119
                                              subst eM
                                              refine n_iadd c_167_87 rfl ?_
                                              refine n_istore (L2 := [some (2, 112), some (0, 3), some (0, x2), some (0, x3), some (0, (0 + 1)), some (0, ((((((((((((((((0 * 2) + z68) * 2) + z75) * 2) + z82) * 2) + z89) * 2) + z96) * 2) + z103) * 2) + z110) * 2) + z117)), some (0, ((((((((x2 - 1) + (-1)) + (-1)) + (-1)) + (-1)) + (-1)) + (-1)) + (-1))), none]) c_167_88 rfl rfl ?_
                                              refine n_iinc (L2 := [some (2, 112), some (0, 3), some (0, x2), some (0, x3), some (0, (0 + 1)), some (0, ((((((((((((((((0 * 2) + z68) * 2) + z75) * 2) + z82) * 2) + z89) * 2) + z96) * 2) + z103) * 2) + z110) * 2) + z117)), some (0, (((((((((x2 - 1) + (-1)) + (-1)) + (-1)) + (-1)) + (-1)) + (-1)) + (-1)) + (-1))), none]) c_167_90 rfl rfl rfl ?_
                                              refine n_goto c_167_93 ?_
                                              refine n_iload c_167_66 rfl ?_
                                              refine n_if0_lt c_167_68 (by omega) ?_ ?_
                                              · intro h120
                                                refine n_aload_n c_167_96 rfl ?_
                                                refine n_getR c_167_97 sc_112.n rfl rfl rfl r_112_17 ?_
                                                refine n_iload c_167_100 rfl ?_
                                                refine n_iconst c_167_102 ?_
                                                refine n_iastoreV hS61 c_167_103 sc_125.n rfl (by omega) (w_125 (by omega) (by omega)) ?_
                                                intro M121 eM121 hS121
                                                have g121_0 : M121 125 ((((((((((((((((0 * 2) + z68) * 2) + z75) * 2) + z82) * 2) + z89) * 2) + z96) * 2) + z103) * 2) + z110) * 2) + z117) = 1 := by rw [eM121]; exact nu_s _ _ _ _
                                                refine n_iinc (L2 := [some (2, 112), some (0, 3), some (0, x2), some (0, x3), some (0, ((0 + 1) + 1)), some (0, ((((((((((((((((0 * 2) + z68) * 2) + z75) * 2) + z82) * 2) + z89) * 2) + z96) * 2) + z103) * 2) + z110) * 2) + z117)), some (0, (((((((((x2 - 1) + (-1)) + (-1)) + (-1)) + (-1)) + (-1)) + (-1)) + (-1)) + (-1))), none]) c_167_104 rfl rfl rfl ?_
                                                refine n_goto c_167_107 ?_
                                                refine n_iload c_167_52 rfl ?_
                                                refine n_iload_n c_167_54 rfl ?_
                                                refine n_if2_ge c_167_55 (by omega) (by omega) ?_ ?_
                                                · intro h122
                                                  exfalso; omega
                                                · intro h123
                                                  refine n_iconst c_167_58 ?_
                                                  refine n_istore (L2 := [some (2, 112), some (0, 3), some (0, x2), some (0, x3), some (0, ((0 + 1) + 1)), some (0, 0), some (0, (((((((((x2 - 1) + (-1)) + (-1)) + (-1)) + (-1)) + (-1)) + (-1)) + (-1)) + (-1))), none]) c_167_59 rfl rfl ?_
                                                  refine n_iload_n c_167_61 rfl ?_
                                                  refine n_iconst c_167_62 ?_
                                                  refine n_isub c_167_63 rfl ?_
                                                  refine n_istore (L2 := [some (2, 112), some (0, 3), some (0, x2), some (0, x3), some (0, ((0 + 1) + 1)), some (0, 0), some (0, (x2 - 1)), none]) c_167_64 rfl rfl ?_
                                                  refine n_iload c_167_66 rfl ?_
                                                  refine n_if0_lt c_167_68 (by omega) ?_ ?_
                                                  · intro h124
                                                    exfalso; omega
                                                  · intro h125
                                                    refine n_iload c_167_71 rfl ?_
                                                    refine n_aload_n c_167_73 rfl ?_
                                                    refine n_getV (bi := 0) c_167_74 sc_112.n rfl rfl rfl (t_dm hS121 hdm) ?_
                                                    intro z126 ez126 f127
                                                    obtain rfl : z126 = 2 := by omega
                                                    refine n_imul c_167_77 rfl ?_
                                                    refine n_aload_n c_167_78 rfl ?_
                                                    refine n_iload c_167_79 rfl ?_
                                                    refine n_iload_n c_167_81 rfl ?_
                                                    refine n_iload c_167_82 rfl ?_
                                                    refine n_v3I c_167_84 rfl sc_112.n rfl rfl rfl rfl (mdigit_2 (r := (x2 - 1)) (k := 3) (j := ((0 + 1) + 1)) hS121 hdm (by omega) (by omega) (by omega) (by omega)) ?_
                                                    intro z128 M129 hP130
                                                    obtain ⟨eM, f130⟩ := hP130
                                                    subst eM
                                                    refine n_iadd c_167_87 rfl ?_
                                                    refine n_istore (L2 := [some (2, 112), some (0, 3), some (0, x2), some (0, x3), some (0, ((0 + 1) + 1)), some (0, ((0 * 2) + z128)), some (0, (x2 - 1)), none]) c_167_88 rfl rfl ?_
                                                    refine n_iinc (L2 := [some (2, 112), some (0, 3), some (0, x2), some (0, x3), some (0, ((0 + 1) + 1)), some (0, ((0 * 2) + z128)), some (0, ((x2 - 1) + (-1))), none]) c_167_90 rfl rfl rfl ?_
                                                    refine n_goto c_167_93 ?_
                                                    refine n_iload c_167_66 rfl ?_
                                                    refine n_if0_lt c_167_68 (by omega) ?_ ?_
                                                    · intro h131
                                                      exfalso; omega
                                                    · intro h132
                                                      refine n_iload c_167_71 rfl ?_
                                                      refine n_aload_n c_167_73 rfl ?_
                                                      refine n_getV (bi := 0) c_167_74 sc_112.n rfl rfl rfl (t_dm hS121 hdm) ?_
                                                      intro z133 ez133 f134
                                                      obtain rfl : z133 = 2 := by omega
                                                      refine n_imul c_167_77 rfl ?_
                                                      refine n_aload_n c_167_78 rfl ?_
                                                      refine n_iload c_167_79 rfl ?_
                                                      refine n_iload_n c_167_81 rfl ?_
                                                      refine n_iload c_167_82 rfl ?_
                                                      refine n_v3I c_167_84 rfl sc_112.n rfl rfl rfl rfl (mdigit_2 (r := ((x2 - 1) + (-1))) (k := 3) (j := ((0 + 1) + 1)) hS121 hdm (by omega) (by omega) (by omega) (by omega)) ?_
                                                      intro z135 M136 hP137
                                                      obtain ⟨eM, f137⟩ := hP137
                                                      subst eM
                                                      refine n_iadd c_167_87 rfl ?_
                                                      refine n_istore (L2 := [some (2, 112), some (0, 3), some (0, x2), some (0, x3), some (0, ((0 + 1) + 1)), some (0, ((((0 * 2) + z128) * 2) + z135)), some (0, ((x2 - 1) + (-1))), none]) c_167_88 rfl rfl ?_
                                                      refine n_iinc (L2 := [some (2, 112), some (0, 3), some (0, x2), some (0, x3), some (0, ((0 + 1) + 1)), some (0, ((((0 * 2) + z128) * 2) + z135)), some (0, (((x2 - 1) + (-1)) + (-1))), none]) c_167_90 rfl rfl rfl ?_
                                                      refine n_goto c_167_93 ?_
                                                      refine n_iload c_167_66 rfl ?_
                                                      refine n_if0_lt c_167_68 (by omega) ?_ ?_
                                                      · intro h138
                                                        exfalso; omega
                                                      · intro h139
                                                        refine n_iload c_167_71 rfl ?_
                                                        refine n_aload_n c_167_73 rfl ?_
                                                        refine n_getV (bi := 0) c_167_74 sc_112.n rfl rfl rfl (t_dm hS121 hdm) ?_
                                                        intro z140 ez140 f141
                                                        obtain rfl : z140 = 2 := by omega
                                                        refine n_imul c_167_77 rfl ?_
                                                        refine n_aload_n c_167_78 rfl ?_
                                                        refine n_iload c_167_79 rfl ?_
                                                        refine n_iload_n c_167_81 rfl ?_
                                                        refine n_iload c_167_82 rfl ?_
                                                        refine n_v3I c_167_84 rfl sc_112.n rfl rfl rfl rfl (mdigit_2 (r := (((x2 - 1) + (-1)) + (-1))) (k := 3) (j := ((0 + 1) + 1)) hS121 hdm (by omega) (by omega) (by omega) (by omega)) ?_
                                                        intro z142 M143 hP144
                                                        obtain ⟨eM, f144⟩ := hP144
                                                        subst eM
                                                        refine n_iadd c_167_87 rfl ?_
                                                        refine n_istore (L2 := [some (2, 112), some (0, 3), some (0, x2), some (0, x3), some (0, ((0 + 1) + 1)), some (0, ((((((0 * 2) + z128) * 2) + z135) * 2) + z142)), some (0, (((x2 - 1) + (-1)) + (-1))), none]) c_167_88 rfl rfl ?_
                                                        refine n_iinc (L2 := [some (2, 112), some (0, 3), some (0, x2), some (0, x3), some (0, ((0 + 1) + 1)), some (0, ((((((0 * 2) + z128) * 2) + z135) * 2) + z142)), some (0, ((((x2 - 1) + (-1)) + (-1)) + (-1))), none]) c_167_90 rfl rfl rfl ?_
                                                        refine n_goto c_167_93 ?_
                                                        refine n_iload c_167_66 rfl ?_
                                                        refine n_if0_lt c_167_68 (by omega) ?_ ?_
                                                        · intro h145
                                                          exfalso; omega
                                                        · intro h146
                                                          refine n_iload c_167_71 rfl ?_
                                                          refine n_aload_n c_167_73 rfl ?_
                                                          refine n_getV (bi := 0) c_167_74 sc_112.n rfl rfl rfl (t_dm hS121 hdm) ?_
                                                          intro z147 ez147 f148
                                                          obtain rfl : z147 = 2 := by omega
                                                          refine n_imul c_167_77 rfl ?_
                                                          refine n_aload_n c_167_78 rfl ?_
                                                          refine n_iload c_167_79 rfl ?_
                                                          refine n_iload_n c_167_81 rfl ?_
                                                          refine n_iload c_167_82 rfl ?_
                                                          refine n_v3I c_167_84 rfl sc_112.n rfl rfl rfl rfl (mdigit_2 (r := ((((x2 - 1) + (-1)) + (-1)) + (-1))) (k := 3) (j := ((0 + 1) + 1)) hS121 hdm (by omega) (by omega) (by omega) (by omega)) ?_
                                                          intro z149 M150 hP151
                                                          obtain ⟨eM, f151⟩ := hP151
                                                          subst eM
                                                          refine n_iadd c_167_87 rfl ?_
                                                          refine n_istore (L2 := [some (2, 112), some (0, 3), some (0, x2), some (0, x3), some (0, ((0 + 1) + 1)), some (0, ((((((((0 * 2) + z128) * 2) + z135) * 2) + z142) * 2) + z149)), some (0, ((((x2 - 1) + (-1)) + (-1)) + (-1))), none]) c_167_88 rfl rfl ?_
                                                          refine n_iinc (L2 := [some (2, 112), some (0, 3), some (0, x2), some (0, x3), some (0, ((0 + 1) + 1)), some (0, ((((((((0 * 2) + z128) * 2) + z135) * 2) + z142) * 2) + z149)), some (0, (((((x2 - 1) + (-1)) + (-1)) + (-1)) + (-1))), none]) c_167_90 rfl rfl rfl ?_
                                                          refine n_goto c_167_93 ?_
                                                          refine n_iload c_167_66 rfl ?_
                                                          refine n_if0_lt c_167_68 (by omega) ?_ ?_
                                                          · intro h152
                                                            exfalso; omega
                                                          · intro h153
                                                            refine n_iload c_167_71 rfl ?_
                                                            refine n_aload_n c_167_73 rfl ?_
                                                            refine n_getV (bi := 0) c_167_74 sc_112.n rfl rfl rfl (t_dm hS121 hdm) ?_
                                                            intro z154 ez154 f155
                                                            obtain rfl : z154 = 2 := by omega
                                                            refine n_imul c_167_77 rfl ?_
                                                            refine n_aload_n c_167_78 rfl ?_
                                                            refine n_iload c_167_79 rfl ?_
                                                            refine n_iload_n c_167_81 rfl ?_
                                                            refine n_iload c_167_82 rfl ?_
                                                            refine n_v3I c_167_84 rfl sc_112.n rfl rfl rfl rfl (mdigit_2 (r := (((((x2 - 1) + (-1)) + (-1)) + (-1)) + (-1))) (k := 3) (j := ((0 + 1) + 1)) hS121 hdm (by omega) (by omega) (by omega) (by omega)) ?_
                                                            intro z156 M157 hP158
                                                            obtain ⟨eM, f158⟩ := hP158
                                                            subst eM
                                                            refine n_iadd c_167_87 rfl ?_
                                                            refine n_istore (L2 := [some (2, 112), some (0, 3), some (0, x2), some (0, x3), some (0, ((0 + 1) + 1)), some (0, ((((((((((0 * 2) + z128) * 2) + z135) * 2) + z142) * 2) + z149) * 2) + z156)), some (0, (((((x2 - 1) + (-1)) + (-1)) + (-1)) + (-1))), none]) c_167_88 rfl rfl ?_
                                                            refine n_iinc (L2 := [some (2, 112), some (0, 3), some (0, x2), some (0, x3), some (0, ((0 + 1) + 1)), some (0, ((((((((((0 * 2) + z128) * 2) + z135) * 2) + z142) * 2) + z149) * 2) + z156)), some (0, ((((((x2 - 1) + (-1)) + (-1)) + (-1)) + (-1)) + (-1))), none]) c_167_90 rfl rfl rfl ?_
                                                            refine n_goto c_167_93 ?_
                                                            refine n_iload c_167_66 rfl ?_
                                                            refine n_if0_lt c_167_68 (by omega) ?_ ?_
                                                            · intro h159
                                                              exfalso; omega
                                                            · intro h160
                                                              refine n_iload c_167_71 rfl ?_
                                                              refine n_aload_n c_167_73 rfl ?_
                                                              refine n_getV (bi := 0) c_167_74 sc_112.n rfl rfl rfl (t_dm hS121 hdm) ?_
                                                              intro z161 ez161 f162
                                                              obtain rfl : z161 = 2 := by omega
                                                              refine n_imul c_167_77 rfl ?_
                                                              refine n_aload_n c_167_78 rfl ?_
                                                              refine n_iload c_167_79 rfl ?_
                                                              refine n_iload_n c_167_81 rfl ?_
                                                              refine n_iload c_167_82 rfl ?_
                                                              refine n_v3I c_167_84 rfl sc_112.n rfl rfl rfl rfl (mdigit_2 (r := ((((((x2 - 1) + (-1)) + (-1)) + (-1)) + (-1)) + (-1))) (k := 3) (j := ((0 + 1) + 1)) hS121 hdm (by omega) (by omega) (by omega) (by omega)) ?_
                                                              intro z163 M164 hP165
                                                              obtain ⟨eM, f165⟩ := hP165
                                                              subst eM
                                                              refine n_iadd c_167_87 rfl ?_
                                                              refine n_istore (L2 := [some (2, 112), some (0, 3), some (0, x2), some (0, x3), some (0, ((0 + 1) + 1)), some (0, ((((((((((((0 * 2) + z128) * 2) + z135) * 2) + z142) * 2) + z149) * 2) + z156) * 2) + z163)), some (0, ((((((x2 - 1) + (-1)) + (-1)) + (-1)) + (-1)) + (-1))), none]) c_167_88 rfl rfl ?_
                                                              refine n_iinc (L2 := [some (2, 112), some (0, 3), some (0, x2), some (0, x3), some (0, ((0 + 1) + 1)), some (0, ((((((((((((0 * 2) + z128) * 2) + z135) * 2) + z142) * 2) + z149) * 2) + z156) * 2) + z163)), some (0, (((((((x2 - 1) + (-1)) + (-1)) + (-1)) + (-1)) + (-1)) + (-1))), none]) c_167_90 rfl rfl rfl ?_
                                                              refine n_goto c_167_93 ?_
                                                              refine n_iload c_167_66 rfl ?_
                                                              refine n_if0_lt c_167_68 (by omega) ?_ ?_
                                                              · intro h166
                                                                exfalso; omega
                                                              · intro h167
                                                                refine n_iload c_167_71 rfl ?_
                                                                refine n_aload_n c_167_73 rfl ?_
                                                                refine n_getV (bi := 0) c_167_74 sc_112.n rfl rfl rfl (t_dm hS121 hdm) ?_
                                                                intro z168 ez168 f169
                                                                obtain rfl : z168 = 2 := by omega
                                                                refine n_imul c_167_77 rfl ?_
                                                                refine n_aload_n c_167_78 rfl ?_
                                                                refine n_iload c_167_79 rfl ?_
                                                                refine n_iload_n c_167_81 rfl ?_
                                                                refine n_iload c_167_82 rfl ?_
                                                                refine n_v3I c_167_84 rfl sc_112.n rfl rfl rfl rfl (mdigit_2 (r := (((((((x2 - 1) + (-1)) + (-1)) + (-1)) + (-1)) + (-1)) + (-1))) (k := 3) (j := ((0 + 1) + 1)) hS121 hdm (by omega) (by omega) (by omega) (by omega)) ?_
                                                                intro z170 M171 hP172
                                                                obtain ⟨eM, f172⟩ := hP172
                                                                subst eM
                                                                refine n_iadd c_167_87 rfl ?_
                                                                refine n_istore (L2 := [some (2, 112), some (0, 3), some (0, x2), some (0, x3), some (0, ((0 + 1) + 1)), some (0, ((((((((((((((0 * 2) + z128) * 2) + z135) * 2) + z142) * 2) + z149) * 2) + z156) * 2) + z163) * 2) + z170)), some (0, (((((((x2 - 1) + (-1)) + (-1)) + (-1)) + (-1)) + (-1)) + (-1))), none]) c_167_88 rfl rfl ?_
                                                                refine n_iinc (L2 := [some (2, 112), some (0, 3), some (0, x2), some (0, x3), some (0, ((0 + 1) + 1)), some (0, ((((((((((((((0 * 2) + z128) * 2) + z135) * 2) + z142) * 2) + z149) * 2) + z156) * 2) + z163) * 2) + z170)), some (0, ((((((((x2 - 1) + (-1)) + (-1)) + (-1)) + (-1)) + (-1)) + (-1)) + (-1))), none]) c_167_90 rfl rfl rfl ?_
                                                                refine n_goto c_167_93 ?_
                                                                refine n_iload c_167_66 rfl ?_
                                                                refine n_if0_lt c_167_68 (by omega) ?_ ?_
                                                                · intro h173
                                                                  exfalso; omega
                                                                · intro h174
                                                                  refine n_iload c_167_71 rfl ?_
                                                                  refine n_aload_n c_167_73 rfl ?_
                                                                  refine n_getV (bi := 0) c_167_74 sc_112.n rfl rfl rfl (t_dm hS121 hdm) ?_
                                                                  intro z175 ez175 f176
                                                                  obtain rfl : z175 = 2 := by omega
                                                                  refine n_imul c_167_77 rfl ?_
                                                                  refine n_aload_n c_167_78 rfl ?_
                                                                  refine n_iload c_167_79 rfl ?_
                                                                  refine n_iload_n c_167_81 rfl ?_
                                                                  refine n_iload c_167_82 rfl ?_
                                                                  refine n_v3I c_167_84 rfl sc_112.n rfl rfl rfl rfl (mdigit_2 (r := ((((((((x2 - 1) + (-1)) + (-1)) + (-1)) + (-1)) + (-1)) + (-1)) + (-1))) (k := 3) (j := ((0 + 1) + 1)) hS121 hdm (by omega) (by omega) (by omega) (by omega)) ?_
                                                                  intro z177 M178 hP179
                                                                  obtain ⟨eM, f179⟩ := hP179
                                                                  subst eM
                                                                  refine n_iadd c_167_87 rfl ?_
                                                                  refine n_istore (L2 := [some (2, 112), some (0, 3), some (0, x2), some (0, x3), some (0, ((0 + 1) + 1)), some (0, ((((((((((((((((0 * 2) + z128) * 2) + z135) * 2) + z142) * 2) + z149) * 2) + z156) * 2) + z163) * 2) + z170) * 2) + z177)), some (0, ((((((((x2 - 1) + (-1)) + (-1)) + (-1)) + (-1)) + (-1)) + (-1)) + (-1))), none]) c_167_88 rfl rfl ?_
                                                                  refine n_iinc (L2 := [some (2, 112), some (0, 3), some (0, x2), some (0, x3), some (0, ((0 + 1) + 1)), some (0, ((((((((((((((((0 * 2) + z128) * 2) + z135) * 2) + z142) * 2) + z149) * 2) + z156) * 2) + z163) * 2) + z170) * 2) + z177)), some (0, (((((((((x2 - 1) + (-1)) + (-1)) + (-1)) + (-1)) + (-1)) + (-1)) + (-1)) + (-1))), none]) c_167_90 rfl rfl rfl ?_
                                                                  refine n_goto c_167_93 ?_
                                                                  refine n_iload c_167_66 rfl ?_
                                                                  refine n_if0_lt c_167_68 (by omega) ?_ ?_
                                                                  · intro h180
                                                                    refine n_aload_n c_167_96 rfl ?_
                                                                    refine n_getR c_167_97 sc_112.n rfl rfl rfl r_112_17 ?_
                                                                    refine n_iload c_167_100 rfl ?_
                                                                    refine n_iconst c_167_102 ?_
                                                                    refine n_iastoreV hS121 c_167_103 sc_125.n rfl (by omega) (w_125 (by omega) (by omega)) ?_
                                                                    intro M181 eM181 hS181
                                                                    have g181_0 : M181 125 ((((((((((((((((0 * 2) + z128) * 2) + z135) * 2) + z142) * 2) + z149) * 2) + z156) * 2) + z163) * 2) + z170) * 2) + z177) = 1 := by rw [eM181]; exact nu_s _ _ _ _
                                                                    refine n_iinc (L2 := [some (2, 112), some (0, 3), some (0, x2), some (0, x3), some (0, (((0 + 1) + 1) + 1)), some (0, ((((((((((((((((0 * 2) + z128) * 2) + z135) * 2) + z142) * 2) + z149) * 2) + z156) * 2) + z163) * 2) + z170) * 2) + z177)), some (0, (((((((((x2 - 1) + (-1)) + (-1)) + (-1)) + (-1)) + (-1)) + (-1)) + (-1)) + (-1))), none]) c_167_104 rfl rfl rfl ?_
                                                                    refine n_goto c_167_107 ?_
                                                                    refine n_iload c_167_52 rfl ?_
                                                                    refine n_iload_n c_167_54 rfl ?_
                                                                    refine n_if2_ge c_167_55 (by omega) (by omega) ?_ ?_
                                                                    · intro h182
                                                                      refine n_iconst c_167_110 ?_
                                                                      refine n_istore (L2 := [some (2, 112), some (0, 3), some (0, x2), some (0, x3), some (0, 0), some (0, ((((((((((((((((0 * 2) + z128) * 2) + z135) * 2) + z142) * 2) + z149) * 2) + z156) * 2) + z163) * 2) + z170) * 2) + z177)), some (0, (((((((((x2 - 1) + (-1)) + (-1)) + (-1)) + (-1)) + (-1)) + (-1)) + (-1)) + (-1))), none]) c_167_111 rfl rfl ?_
                                                                      refine n_fg (le_s (le_s (le_s (le_s (le_s (le_n (le_n (le_n le_0)))))))) ?_
                                                                      exact ih.2.1 _ _ _ M181 hS181 (by omega) (by omega) (by omega) (by omega)
                                                                    · intro h183
                                                                      exfalso; omega
                                                                  · intro h184
                                                                    exfalso; omega
                                              · intro h185
                                                exfalso; omega
                          · intro h186
                            exfalso; omega
      · intro h187
        refine n_aload_n c_167_35 rfl ?_
        refine n_getR c_167_36 sc_112.n rfl rfl rfl r_112_17 ?_
        refine n_iload c_167_39 rfl ?_
        refine n_iconst c_167_41 ?_
        refine n_iastoreV hS c_167_42 sc_125.n rfl (by omega) (w_125 (by omega) (by omega)) ?_
        intro M188 eM188 hS188
        have g188_0 : M188 125 x4 = 0 := by rw [eM188]; exact nu_s _ _ _ _
        refine n_iinc (L2 := [some (2, 112), some (0, 3), some (0, x2), some (0, x3), some (0, (x4 + 1)), none, none, none]) c_167_43 rfl rfl rfl ?_
        refine n_goto c_167_46 ?_
        refine n_fg (le_s (le_s (le_s (le_s (le_s (le_n (le_n (le_n le_0)))))))) ?_
        exact ih.1 _ _ _ M188 hS188 (by omega) (by omega) (by omega) (by omega)
    · intro x2 x3 x4 M hS k2 k3 k4 hnn
      refine n_iconst c_167_113 ?_
      refine n_istore (L2 := [some (2, 112), some (0, 3), some (0, x2), some (0, x3), some (0, x4), some (0, (-1)), none, none]) c_167_114 rfl rfl ?_
      refine n_iconst c_167_116 ?_
      refine n_istore (L2 := [some (2, 112), some (0, 3), some (0, x2), some (0, x3), some (0, x4), some (0, (-1)), some (0, 0), none]) c_167_117 rfl rfl ?_
      refine n_fg (le_s (le_s (le_s (le_s (le_s (le_s (le_s (le_n le_0)))))))) ?_
      exact ih.2.2.1 _ _ _ _ _ M hS (by omega) (by omega) (by omega) (by omega) (by omega) (by omega) (by omega)
    · intro x2 x3 x4 x5 x6 M hS k2 k3 k4 k5 k6 v0 hnn
      refine n_iload c_167_119 rfl ?_
      refine n_iload_n c_167_121 rfl ?_
      refine n_if2_ge c_167_122 (by omega) (by omega) ?_ ?_
      · intro h1
        refine n_iload c_167_168 rfl ?_
        refine n_iconst c_167_170 ?_
        refine n_if2_ne c_167_171 (by omega) (by omega) ?_ ?_
        · intro h2
          refine n_iload c_167_190 rfl ?_
          refine n_sipush c_167_192 rfl ?_
          refine n_if2_ne c_167_195 (by omega) (by omega) ?_ ?_
          · intro h3
            refine n_aload_n c_167_207 rfl ?_
            refine n_getR c_167_208 sc_112.n rfl rfl rfl r_112_14 ?_
            refine n_sipush c_167_211 rfl ?_
            refine n_iload_n c_167_214 rfl ?_
            refine n_imul c_167_215 rfl ?_
            refine n_iload c_167_216 rfl ?_
            refine n_iadd c_167_218 rfl ?_
            refine n_iload c_167_219 rfl ?_
            refine n_iastoreV hS c_167_221 sc_122.n rfl (by omega) (w_122 (by omega) (by omega)) ?_
            intro M4 eM4 hS4
            have g4_0 : M4 125 x5 = M 125 x5 := by rw [eM4]; exact nu_a (by omega)
            have g4_1 : M4 122 ((256 * 3) + x4) = x5 := by rw [eM4]; exact nu_s _ _ _ _
            refine n_aload_n c_167_222 rfl ?_
            refine n_getR c_167_223 sc_112.n rfl rfl rfl r_112_15 ?_
            refine n_sipush c_167_226 rfl ?_
            refine n_iload_n c_167_229 rfl ?_
            refine n_imul c_167_230 rfl ?_
            refine n_iload c_167_231 rfl ?_
            refine n_iadd c_167_233 rfl ?_
            refine n_aload_n c_167_234 rfl ?_
            refine n_getR c_167_235 sc_112.n rfl rfl rfl r_112_17 ?_
            refine n_iload c_167_238 rfl ?_
            refine n_ialoadV c_167_240 sc_125.n rfl rfl rfl (by omega) (t_125 hS4 (by omega)) ?_
            intro z5 ez5 f6
            refine n_iconst c_167_241 ?_
            refine n_isub c_167_242 rfl ?_
            refine n_iastoreV hS4 c_167_243 sc_123.n rfl (by omega) (w_123 (by omega) (by omega)) ?_
            intro M7 eM7 hS7
            have g7_0 : M7 125 x5 = M4 125 x5 := by rw [eM7]; exact nu_a (by omega)
            have g7_1 : M7 122 ((256 * 3) + x4) = M4 122 ((256 * 3) + x4) := by rw [eM7]; exact nu_a (by omega)
            have g7_2 : M7 123 ((256 * 3) + x4) = (z5 - 1) := by rw [eM7]; exact nu_s _ _ _ _
            refine n_iload c_167_244 rfl ?_
            refine n_istore (L2 := [some (2, 112), some (0, 3), some (0, x2), some (0, x3), some (0, x4), some (0, x5), some (0, x5), none]) c_167_246 rfl rfl ?_
            refine n_iconst c_167_248 ?_
            refine n_istore (L2 := [some (2, 112), some (0, 3), some (0, x2), some (0, x3), some (0, x4), some (0, x5), some (0, x5), some (0, 0)]) c_167_249 rfl rfl ?_
            refine n_fg (le_s (le_s (le_s (le_s (le_s (le_n (le_s (le_s le_0)))))))) ?_
            exact ih.2.2.2.2.2.1 _ _ _ _ _ M7 hS7 (by omega) (by omega) (by omega) (by omega) (by omega) (by omega)
          · intro h8
            refine n_aload_n c_167_198 rfl ?_
            refine n_getR c_167_199 sc_112.n rfl rfl rfl r_112_16 ?_
            refine n_iload_n c_167_202 rfl ?_
            refine n_bipush c_167_203 rfl ?_
            refine n_iastoreV hS c_167_205 sc_124.n rfl (by omega) (w_124 (by omega) (by omega)) ?_
            intro M9 eM9 hS9
            have g9_0 : M9 125 x5 = M 125 x5 := by rw [eM9]; exact nu_a (by omega)
            have g9_1 : M9 124 3 = (-8) := by rw [eM9]; exact nu_s _ _ _ _
            exact n_rV c_167_206 rfl hS9
        · intro h10
          refine n_aload_n c_167_174 rfl ?_
          refine n_getR c_167_175 sc_112.n rfl rfl rfl r_112_16 ?_
          refine n_iload_n c_167_178 rfl ?_
          refine n_iload c_167_179 rfl ?_
          refine n_iastoreV hS c_167_181 sc_124.n rfl (by omega) (w_124 (by omega) (by omega)) ?_
          intro M11 eM11 hS11
          have g11_0 : M11 125 x5 = M 125 x5 := by rw [eM11]; exact nu_a (by omega)
          have g11_1 : M11 124 3 = x4 := by rw [eM11]; exact nu_s _ _ _ _
          refine n_aload_n c_167_182 rfl ?_
          refine n_iload_n c_167_183 rfl ?_
          refine n_iload c_167_184 rfl ?_
          refine n_v2V c_167_186 rfl sc_112.n rfl rfl rfl rfl (mordered_2 (n := 3) (m := x4) hS11 hdm (by omega) (by omega)) ?_
          intro  M12 hP13
          have hS12 := hP13
          exact n_rV c_167_189 rfl hS12
      · intro h14
        refine n_aload_n c_167_125 rfl ?_
        refine n_getR c_167_126 sc_112.n rfl rfl rfl r_112_17 ?_
        refine n_iload c_167_129 rfl ?_
        refine n_ialoadV c_167_131 sc_125.n rfl rfl rfl (by omega) (t_125 hS (by omega)) ?_
        intro z15 ez15 f16
        refine n_if0_le c_167_132 (by omega) ?_ ?_
        · intro h17
          refine n_fg (le_s (le_s (le_s (le_s (le_s (le_s (le_s (le_n le_0)))))))) ?_
          exact ih.2.2.2.2.1 _ _ _ _ _ M hS (by omega) (by omega) (by omega) (by omega) (by omega) (by omega) (by omega)
        · intro h18
          refine n_iload c_167_135 rfl ?_
          refine n_iconst c_167_137 ?_
          refine n_if2_eq c_167_138 (by omega) (by omega) ?_ ?_
          · intro h19
            refine n_fg (le_s (le_s (le_s (le_s (le_s (le_n (le_s (le_n le_0)))))))) ?_
            exact ih.2.2.2.1 _ _ _ _ M hS (by omega) (by omega) (by omega) (by omega) (by omega) (by omega)
          · intro h20
            refine n_aload_n c_167_141 rfl ?_
            refine n_getR c_167_142 sc_112.n rfl rfl rfl r_112_17 ?_
            refine n_iload c_167_145 rfl ?_
            refine n_ialoadV c_167_147 sc_125.n rfl rfl rfl (by omega) (t_125 hS (by omega)) ?_
            intro z21 ez21 f22
            refine n_aload_n c_167_148 rfl ?_
            refine n_getR c_167_149 sc_112.n rfl rfl rfl r_112_17 ?_
            refine n_iload c_167_152 rfl ?_
            refine n_ialoadV c_167_154 sc_125.n rfl rfl rfl (by omega) (t_125 hS (by omega)) ?_
            intro z23 ez23 f24
            refine n_if2_ge c_167_155 (by omega) (by omega) ?_ ?_
            · intro h25
              refine n_fg (le_s (le_s (le_s (le_s (le_s (le_s (le_s (le_n le_0)))))))) ?_
              exact ih.2.2.2.2.1 _ _ _ _ _ M hS (by omega) (by omega) (by omega) (by omega) (by omega) (by omega) (by omega)
            · intro h26
              refine n_fg (le_s (le_s (le_s (le_s (le_s (le_n (le_s (le_n le_0)))))))) ?_
              exact ih.2.2.2.1 _ _ _ _ M hS (by omega) (by omega) (by omega) (by omega) (by omega) (by omega)
    · intro x2 x3 x4 x6 M hS k2 k3 k4 k6 v0 hnn
      refine n_iload c_167_158 rfl ?_
      refine n_istore (L2 := [some (2, 112), some (0, 3), some (0, x2), some (0, x3), some (0, x4), some (0, x6), some (0, x6), none]) c_167_160 rfl rfl ?_
      refine n_fg (le_s (le_s (le_s (le_s (le_s (le_s (le_s (le_n le_0)))))))) ?_
      exact ih.2.2.2.2.1 _ _ _ _ _ M hS (by omega) (by omega) (by omega) (by omega) (by omega) (by omega) (by omega)
    · intro x2 x3 x4 x5 x6 M hS k2 k3 k4 k5 k6 v0 hnn
      refine n_iinc (L2 := [some (2, 112), some (0, 3), some (0, x2), some (0, x3), some (0, x4), some (0, x5), some (0, (x6 + 1)), none]) c_167_162 rfl rfl rfl ?_
      refine n_goto c_167_165 ?_
      refine n_fg (le_s (le_s (le_s (le_s (le_s (le_s (le_s (le_n le_0)))))))) ?_
      exact ih.2.2.1 _ _ _ _ _ M hS (by omega) (by omega) (by omega) (by omega) (by omega) (by omega) (by omega)
    · intro x2 x3 x4 x6 x7 M hS k2 k3 k4 k6 k7 hnn
      refine n_iload c_167_251 rfl ?_
      refine n_iload_n c_167_253 rfl ?_
      refine n_if2_ge c_167_254 (by omega) (by omega) ?_ ?_
      · intro h1
        refine n_iload c_167_292 rfl ?_
        refine n_iconst c_167_294 ?_
        refine n_iadd c_167_295 rfl ?_
        refine n_iload_n c_167_296 rfl ?_
        refine n_if2_ge c_167_297 (by omega) (by omega) ?_ ?_
        · intro h2
          refine n_fg (le_s (le_s (le_s (le_s (le_s (le_n (le_n (le_n le_0)))))))) ?_
          exact ih.2.2.2.2.2.2.1 _ _ _ M hS (by omega) (by omega) (by omega) (by omega)
        · intro h3
          refine n_aload_n c_167_300 rfl ?_
          refine n_iload_n c_167_301 rfl ?_
          refine n_iload_n c_167_302 rfl ?_
          refine n_iload c_167_303 rfl ?_
          have hcst : (x2 : Int) = 8 := by omega
          rw [hcst]
          refine n_v3V c_167_305 rfl sc_112.n rfl rfl rfl rfl (mjoins8_2 (n := 3) (t := x4) hS hdm (by omega) (by omega)) ?_
          intro  M4 hP5
          have hS4 := hP5
          refine n_fg (le_s (le_s (le_s (le_s (le_s (le_n (le_n (le_n le_0)))))))) ?_
          exact ih.2.2.2.2.2.2.1 _ _ _ M4 hS4 (by omega) (by omega) (by omega) (by omega)
      · intro h6
        refine n_aload_n c_167_257 rfl ?_
        refine n_getR c_167_258 sc_112.n rfl rfl rfl r_112_18 ?_
        refine n_bipush c_167_261 rfl ?_
        refine n_iload c_167_263 rfl ?_
        refine n_imul c_167_265 rfl ?_
        refine n_iload c_167_266 rfl ?_
        refine n_iadd c_167_268 rfl ?_
        refine n_iload c_167_269 rfl ?_
        refine n_aload_n c_167_271 rfl ?_
        refine n_getV (bi := 0) c_167_272 sc_112.n rfl rfl rfl (t_dm hS hdm) ?_
        intro z7 ez7 f8
        obtain rfl : z7 = 2 := by omega
        refine n_iremV c_167_275 (by omega) (by omega) ?_
        intro z9 _ f10
        refine n_iastoreV hS c_167_276 sc_126.n rfl (by omega) (w_126 (by omega) (by omega)) ?_
        intro M11 eM11 hS11
        have g11_0 : M11 126 ((9 * x4) + x7) = z9 := by rw [eM11]; exact nu_s _ _ _ _
        refine n_iload c_167_277 rfl ?_
        refine n_aload_n c_167_279 rfl ?_
        refine n_getV (bi := 0) c_167_280 sc_112.n rfl rfl rfl (t_dm hS11 hdm) ?_
        intro z12 ez12 f13
        obtain rfl : z12 = 2 := by omega
        refine n_idivV c_167_283 (by omega) (by omega) ?_
        intro z14 _ f15
        refine n_istore (L2 := [some (2, 112), some (0, 3), some (0, x2), some (0, x3), some (0, x4), none, some (0, z14), some (0, x7)]) c_167_284 rfl rfl ?_
        refine n_iinc (L2 := [some (2, 112), some (0, 3), some (0, x2), some (0, x3), some (0, x4), none, some (0, z14), some (0, (x7 + 1))]) c_167_286 rfl rfl rfl ?_
        refine n_goto c_167_289 ?_
        refine n_fg (le_s (le_s (le_s (le_s (le_s (le_n (le_s (le_s le_0)))))))) ?_
        exact ih.2.2.2.2.2.1 _ _ _ _ _ M11 hS11 (by omega) (by omega) (by omega) (by omega) (by omega) (by omega)
    · intro x2 x3 x4 M hS k2 k3 k4 hnn
      refine n_iinc (L2 := [some (2, 112), some (0, 3), some (0, x2), some (0, x3), some (0, (x4 + 1)), none, none, none]) c_167_308 rfl rfl rfl ?_
      refine n_iconst c_167_311 ?_
      refine n_istore (L2 := [some (2, 112), some (0, 3), some (0, x2), some (0, x3), some (0, (x4 + 1)), none, none, some (0, 0)]) c_167_312 rfl rfl ?_
      refine n_fg (le_s (le_s (le_s (le_s (le_s (le_n (le_n (le_s le_0)))))))) ?_
      exact ih.2.2.2.2.2.2.2 _ _ _ _ M hS (by omega) (by omega) (by omega) (by omega) (by omega)
    · intro x2 x3 x4 x7 M hS k2 k3 k4 k7 hnn
      refine n_iload c_167_314 rfl ?_
      refine n_iload c_167_316 rfl ?_
      refine n_if2_ge c_167_318 (by omega) (by omega) ?_ ?_
      · intro h1
        refine n_goto c_167_346 ?_
        refine n_fg (le_s (le_s (le_s (le_s (le_s (le_n (le_n (le_n le_0)))))))) ?_
        exact ih.2.1 _ _ _ M hS (by omega) (by omega) (by omega) (by omega)
      · intro h2
        refine n_aload_n c_167_321 rfl ?_
        refine n_getR c_167_322 sc_112.n rfl rfl rfl r_112_17 ?_
        refine n_aload_n c_167_325 rfl ?_
        refine n_getR c_167_326 sc_112.n rfl rfl rfl r_112_14 ?_
        refine n_sipush c_167_329 rfl ?_
        refine n_iload_n c_167_332 rfl ?_
        refine n_imul c_167_333 rfl ?_
        refine n_iload c_167_334 rfl ?_
        refine n_iadd c_167_336 rfl ?_
        refine n_ialoadV c_167_337 sc_122.n rfl rfl rfl (by omega) (t_122 hS (by omega)) ?_
        intro z3 ez3 f4
        refine n_iconst c_167_338 ?_
        refine n_iastoreV hS c_167_339 sc_125.n rfl (by omega) (w_125 (by omega) (by omega)) ?_
        intro M5 eM5 hS5
        have g5_0 : M5 125 z3 = (-1) := by rw [eM5]; exact nu_s _ _ _ _
        refine n_iinc (L2 := [some (2, 112), some (0, 3), some (0, x2), some (0, x3), some (0, x4), none, none, some (0, (x7 + 1))]) c_167_340 rfl rfl rfl ?_
        refine n_goto c_167_343 ?_
        refine n_fg (le_s (le_s (le_s (le_s (le_s (le_n (le_n (le_s le_0)))))))) ?_
        exact ih.2.2.2.2.2.2.2 _ _ _ _ M5 hS5 (by omega) (by omega) (by omega) (by omega) (by omega)
set_option maxHeartbeats 4000000 in
theorem mmakes3_2 {xs : List Int32} {e : Nat} {ac : Int} {M0 M : nM} (hS : Sf 2 ac M0 M) (hdm : M0 112 0 = 2) : nW xs (e + 2) 167 0 [some (2, 112), some (0, 3), none, none, none, none, none, none] [] M (nPV fun M1 => Sf 2 ac M0 M1) := by
  have hd : (2 : Int) = 2 ∨ (2 : Int) = 3 := by decide
  have hac := hS.2.2.2.2
  refine n_aload_n c_167_0 rfl ?_
  refine n_getR c_167_1 sc_112.n rfl rfl rfl r_112_16 ?_
  refine n_iload_n c_167_4 rfl ?_
  refine n_ialoadV c_167_5 sc_124.n rfl rfl rfl (by omega) (t_124 hS (by omega)) ?_
  intro z1 ez1 f2
  refine n_iconst c_167_6 ?_
  refine n_if2_eq c_167_7 (by omega) (by omega) ?_ ?_
  · intro h3
    refine n_aload_n c_167_11 rfl ?_
    refine n_iload_n c_167_12 rfl ?_
    refine n_v1I c_167_13 rfl sc_112.n rfl rfl rfl rfl (mrowsOf3_2  hS hdm) ?_
    intro z4 M5 hP6
    obtain ⟨eM, f6⟩ := hP6
    subst eM
    obtain rfl : z4 = 8 := by omega
    refine n_istore_n (L2 := [some (2, 112), some (0, 3), some (0, 8), none, none, none, none, none]) c_167_16 rfl rfl ?_
    refine n_aload_n c_167_17 rfl ?_
    refine n_getV (bi := 0) c_167_18 sc_112.n rfl rfl rfl (t_dm hS hdm) ?_
    intro z7 ez7 f8
    obtain rfl : z7 = 2 := by omega
    refine n_iload_n c_167_21 rfl ?_
    refine n_s2I c_167_22 rfl rfl rfl rfl (mpower8_2  hS ) ?_
    intro z9 M10 hP11
    obtain ⟨eM, f11⟩ := hP11
    subst eM
    obtain rfl : z9 = 256 := by omega
    refine n_istore_n (L2 := [some (2, 112), some (0, 3), some (0, 8), some (0, 256), none, none, none, none]) c_167_25 rfl rfl ?_
    refine n_iconst c_167_26 ?_
    refine n_istore (L2 := [some (2, 112), some (0, 3), some (0, 8), some (0, 256), some (0, 0), none, none, none]) c_167_27 rfl rfl ?_
    refine n_fg (le_s (le_s (le_s (le_s (le_s (le_n (le_n (le_n le_0)))))))) ?_
    exact (mmakes3_2_c hS hdm 539230).1 _ _ _ M hS (by omega) (by omega) (by omega) (by omega)
  · intro h12
    exact n_rV c_167_10 rfl hS
