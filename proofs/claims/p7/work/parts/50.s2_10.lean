/-! The methods, by program. -/
set_option maxHeartbeats 4000000 in
theorem mwhole_2_c {xs : List Int32} {e : Nat} {ac : Int} {M0 M : nM} (hS : Sf 2 ac M0 M) (hdm : M0 112 0 = 2) : ∀ nn : Nat, (∀ (x1 x2 : Int), (0 ≤ x1 ∧ x1 ≤ 31) → (0 ≤ x2 ∧ x2 ≤ 8) → (8 - x2) * 1 + 1 < (nn : Int) → nW xs (e + 2) 186 15 [some (2, 112), some (0, x1), some (0, x2)] [] M (nPI fun z M1 => M = M1 ∧ (-2147483648 ≤ z ∧ z ≤ 2147483647))) := by
  have hd : (2 : Int) = 2 ∨ (2 : Int) = 3 := by decide
  have hac := hS.2.2.2.2
  intro nn
  induction nn with
  | zero => intros; omega
  | succ nn ih =>
    intro x1 x2 k1 k2 hnn
    refine n_iload_n c_186_15 rfl ?_
    refine n_aload_n c_186_16 rfl ?_
    refine n_getV (bi := 4) c_186_17 sc_112.n rfl rfl rfl (t_112_4 hS) ?_
    intro z1 ez1 f2
    refine n_if2_ge c_186_20 (by omega) (by omega) ?_ ?_
    · intro h3
      refine n_iload_n c_186_37 rfl ?_
      refine n_if0_ne c_186_38 (by omega) ?_ ?_
      · intro h4
        refine n_iconst c_186_45 ?_
        exact n_rI c_186_46 rfl ⟨rfl, by omega⟩
      · intro h5
        refine n_iconst c_186_41 ?_
        refine n_goto c_186_42 ?_
        exact n_rI c_186_46 rfl ⟨rfl, by omega⟩
    · intro h6
      refine n_iload_n c_186_23 rfl ?_
      refine n_aload_n c_186_24 rfl ?_
      refine n_iload_n c_186_25 rfl ?_
      refine n_v1I c_186_26 rfl sc_112.n rfl rfl rfl rfl (msigns_2 (a := x2) hS hdm (by omega)) ?_
      intro z7 M8 hP9
      obtain ⟨eM, f9⟩ := hP9
      subst eM
      refine n_i_iand c_186_29 rfl ?_
      have f10 := n_and_x (x := x1) (y := z7) (by omega)
      generalize (n_and x1 z7) = z11 at f10 ⊢
      refine n_istore_n (L2 := [some (2, 112), some (0, z11), some (0, x2)]) c_186_30 rfl rfl ?_
      refine n_iinc (L2 := [some (2, 112), some (0, z11), some (0, (x2 + 1))]) c_186_31 rfl rfl rfl ?_
      refine n_goto c_186_34 ?_
      refine n_fg (le_s (le_s (le_s le_0))) ?_
      exact ih _ _ (by omega) (by omega) (by omega)
set_option maxHeartbeats 4000000 in
theorem mwhole_2 {xs : List Int32} {e : Nat} {ac : Int} {M0 M : nM} (hS : Sf 2 ac M0 M) (hdm : M0 112 0 = 2) : nW xs (e + 2) 186 0 [some (2, 112), none, none] [] M (nPI fun z M1 => M = M1 ∧ (-2147483648 ≤ z ∧ z ≤ 2147483647)) := by
  have hd : (2 : Int) = 2 ∨ (2 : Int) = 3 := by decide
  have hac := hS.2.2.2.2
  refine n_aload_n c_186_0 rfl ?_
  refine n_getV (bi := 0) c_186_1 sc_112.n rfl rfl rfl (t_dm hS hdm) ?_
  intro z1 ez1 f2
  obtain rfl : z1 = 2 := by omega
  refine n_iconst c_186_4 ?_
  refine n_if2_ne c_186_5 (by omega) (by omega) ?_ ?_
  · intro h3
    refine n_bipush c_186_10 rfl ?_
    refine n_istore_n (L2 := [some (2, 112), some (0, 31), none]) c_186_12 rfl rfl ?_
    refine n_iconst c_186_13 ?_
    refine n_istore_n (L2 := [some (2, 112), some (0, 31), some (0, 0)]) c_186_14 rfl rfl ?_
    refine n_fg (le_s (le_s (le_s le_0))) ?_
    exact (mwhole_2_c hS hdm 30) _ _ (by omega) (by omega) (by omega)
  · intro h4
    exfalso; omega

set_option maxHeartbeats 4000000 in
theorem misUnknown_2_c {xs : List Int32} {e : Nat} {ac : Int} {M0 M : nM} {u : Int} (hS : Sf 2 ac M0 M) (hdm : M0 112 0 = 2) (hu : -2147483648 ≤ u ∧ u ≤ 2147483647) : ∀ nn : Nat, (1 < (nn : Int) → nW xs e 188 16 [none, none] [] M (nPI fun z M1 => M = M1 ∧ (0 ≤ z ∧ z ≤ 1) ∧ (z = 0 ∨ (0 ≤ u ∧ u ≤ 7)))) := by
  have hd : (2 : Int) = 2 ∨ (2 : Int) = 3 := by decide
  have hac := hS.2.2.2.2
  intro nn
  induction nn with
  | zero => intros; omega
  | succ nn ih =>
    intro hnn
    refine n_iconst c_188_16 ?_
    exact n_rZ c_188_17 rfl (by omega) ⟨rfl, by omega, by omega⟩
set_option maxHeartbeats 4000000 in
theorem misUnknown_2 {xs : List Int32} {e : Nat} {ac : Int} {M0 M : nM} {u : Int} (hS : Sf 2 ac M0 M) (hdm : M0 112 0 = 2) (hu : -2147483648 ≤ u ∧ u ≤ 2147483647) : nW xs e 188 0 [some (2, 112), some (0, u)] [] M (nPI fun z M1 => M = M1 ∧ (0 ≤ z ∧ z ≤ 1) ∧ (z = 0 ∨ (0 ≤ u ∧ u ≤ 7))) := by
  have hd : (2 : Int) = 2 ∨ (2 : Int) = 3 := by decide
  have hac := hS.2.2.2.2
  refine n_iload_n c_188_0 rfl ?_
  refine n_if0_lt c_188_1 (by omega) ?_ ?_
  · intro h1
    refine n_fg (le_n (le_n le_0)) ?_
    exact (misUnknown_2_c hS hdm hu 12)   (by omega)
  · intro h2
    refine n_iload_n c_188_4 rfl ?_
    refine n_aload_n c_188_5 rfl ?_
    refine n_getV (bi := 10) c_188_6 sc_112.n rfl rfl rfl (t_112_10 hS) ?_
    intro z3 ez3 f4
    refine n_if2_ge c_188_9 (by omega) (by omega) ?_ ?_
    · intro h5
      refine n_fg (le_n (le_n le_0)) ?_
      exact (misUnknown_2_c hS hdm hu 12)   (by omega)
    · intro h6
      refine n_iconst c_188_12 ?_
      refine n_goto c_188_13 ?_
      exact n_rZ c_188_17 rfl (by omega) ⟨rfl, by omega, by omega⟩

set_option maxHeartbeats 4000000 in
theorem masked_2_c {xs : List Int32} {e : Nat} {ac : Int} {M0 M : nM} (hS : Sf 2 ac M0 M) (hdm : M0 112 0 = 2) : ∀ nn : Nat, (∀ (x1 x2 : Int), (0 ≤ x1 ∧ x1 ≤ 4095) → (0 ≤ x2 ∧ x2 ≤ 30) → (30 - x2) * 1 + 1 < (nn : Int) → nW xs e 196 4 [some (2, 112), some (0, x1), some (0, x2)] [] M (nPI fun z M1 => M = M1 ∧ (-2147483648 ≤ z ∧ z ≤ 2147483647))) := by
  have hd : (2 : Int) = 2 ∨ (2 : Int) = 3 := by decide
  have hac := hS.2.2.2.2
  intro nn
  induction nn with
  | zero => intros; omega
  | succ nn ih =>
    intro x1 x2 k1 k2 hnn
    refine n_iload_n c_196_4 rfl ?_
    refine n_aload_n c_196_5 rfl ?_
    refine n_getV (bi := 11) c_196_6 sc_112.n rfl rfl rfl (t_112_11 hS) ?_
    intro z1 ez1 f2
    refine n_if2_ge c_196_9 (by omega) (by omega) ?_ ?_
    · intro h3
      refine n_iload_n c_196_29 rfl ?_
      exact n_rI c_196_30 rfl ⟨rfl, by omega⟩
    · intro h4
      refine n_iload_n c_196_12 rfl ?_
      refine n_iconst c_196_13 ?_
      refine n_aload_n c_196_14 rfl ?_
      refine n_getR c_196_15 sc_112.n rfl rfl rfl r_112_12 ?_
      refine n_iload_n c_196_18 rfl ?_
      refine n_ialoadV c_196_19 sc_120.n rfl rfl rfl (by omega) (t_120 hS (by omega)) ?_
      intro z5 ez5 f6
      refine n_i_ishl c_196_20 rfl ?_
      have f7 := n_shl_1 (y := z5) (a := 0) (b := 11) (by decide) (by omega)
      generalize (n_shl 1 z5) = z8 at f7 ⊢
      refine n_i_ior c_196_21 rfl ?_
      have f9 := n_or_k (x := x1) (y := z8) (n := 12) (by decide) (by omega) (by omega)
      generalize (n_or x1 z8) = z10 at f9 ⊢
      refine n_istore_n (L2 := [some (2, 112), some (0, z10), some (0, x2)]) c_196_22 rfl rfl ?_
      refine n_iinc (L2 := [some (2, 112), some (0, z10), some (0, (x2 + 1))]) c_196_23 rfl rfl rfl ?_
      refine n_goto c_196_26 ?_
      refine n_fg (le_s (le_s (le_s le_0))) ?_
      exact ih _ _ (by omega) (by omega) (by omega)
set_option maxHeartbeats 4000000 in
theorem masked_2 {xs : List Int32} {e : Nat} {ac : Int} {M0 M : nM} (hS : Sf 2 ac M0 M) (hdm : M0 112 0 = 2) : nW xs e 196 0 [some (2, 112), none, none] [] M (nPI fun z M1 => M = M1 ∧ (-2147483648 ≤ z ∧ z ≤ 2147483647)) := by
  have hd : (2 : Int) = 2 ∨ (2 : Int) = 3 := by decide
  have hac := hS.2.2.2.2
  refine n_iconst c_196_0 ?_
  refine n_istore_n (L2 := [some (2, 112), some (0, 0), none]) c_196_1 rfl rfl ?_
  refine n_iconst c_196_2 ?_
  refine n_istore_n (L2 := [some (2, 112), some (0, 0), some (0, 0)]) c_196_3 rfl rfl ?_
  refine n_fg (le_s (le_s (le_s le_0))) ?_
  exact (masked_2_c hS hdm 74) _ _ (by omega) (by omega) (by omega)

set_option maxHeartbeats 4000000 in
theorem misHalf_2_c {xs : List Int32} {e : Nat} {ac : Int} {M0 M : nM} (hS : Sf 2 ac M0 M) (hdm : M0 112 0 = 2) : ∀ nn : Nat, (∀ (x1 : Int), (0 ≤ x1 ∧ x1 ≤ 2) → (2 - x1) * 21 + 21 < (nn : Int) → nW xs e 197 2 [some (2, 112), some (0, x1), none, none] [] M (nPI fun z M1 => M = M1 ∧ (0 ≤ z ∧ z ≤ 1))) ∧ (∀ (x1 x2 : Int), (0 ≤ x1 ∧ x1 ≤ 1) → (0 ≤ x2 ∧ x2 ≤ 2) → (2 - x1) * 21 + (2 - x2) * 5 + 5 < (nn : Int) → nW xs e 197 31 [some (2, 112), some (0, x1), some (0, x2), none] [] M (nPI fun z M1 => M = M1 ∧ (0 ≤ z ∧ z ≤ 1))) ∧ (∀ (x1 x2 x3 : Int), (0 ≤ x1 ∧ x1 ≤ 1) → (0 ≤ x2 ∧ x2 ≤ 1) → (0 ≤ x3 ∧ x3 ≤ 2) → (2 - x1) * 21 + (2 - x2) * 5 + (2 - x3) * 1 + 1 < (nn : Int) → nW xs e 197 72 [some (2, 112), some (0, x1), some (0, x2), some (0, x3)] [] M (nPI fun z M1 => M = M1 ∧ (0 ≤ z ∧ z ≤ 1))) := by
  have hd : (2 : Int) = 2 ∨ (2 : Int) = 3 := by decide
  have hac := hS.2.2.2.2
  intro nn
  induction nn with
  | zero => refine ⟨?_, ?_, ?_⟩ <;> (intros; omega)
  | succ nn ih =>
    refine ⟨?_, ?_, ?_⟩
    · intro x1 k1 hnn
      refine n_iload_n c_197_2 rfl ?_
      refine n_aload_n c_197_3 rfl ?_
      refine n_getV (bi := 0) c_197_4 sc_112.n rfl rfl rfl (t_dm hS hdm) ?_
      intro z1 ez1 f2
      obtain rfl : z1 = 2 := by omega
      refine n_if2_ge c_197_7 (by omega) (by omega) ?_ ?_
      · intro h3
        refine n_iconst c_197_153 ?_
        exact n_rZ c_197_154 rfl (by omega) ⟨rfl, by omega⟩
      · intro h4
        refine n_aload_n c_197_10 rfl ?_
        refine n_getR c_197_11 sc_112.n rfl rfl rfl r_112_19 ?_
        refine n_iload_n c_197_14 rfl ?_
        refine n_aload_n c_197_15 rfl ?_
        refine n_getV (bi := 0) c_197_16 sc_112.n rfl rfl rfl (t_dm hS hdm) ?_
        intro z5 ez5 f6
        obtain rfl : z5 = 2 := by omega
        refine n_imul c_197_19 rfl ?_
        refine n_iload_n c_197_20 rfl ?_
        refine n_iadd c_197_21 rfl ?_
        refine n_ialoadV c_197_22 sc_127.n rfl rfl rfl (by omega) (t_127 hS (by omega)) ?_
        intro z7 ez7 f8
        refine n_iload_n c_197_23 rfl ?_
        refine n_if2_eq c_197_24 (by omega) (by omega) ?_ ?_
        · intro h9
          refine n_iconst c_197_29 ?_
          refine n_istore_n (L2 := [some (2, 112), some (0, x1), some (0, 0), none]) c_197_30 rfl rfl ?_
          refine n_fg (le_s (le_s (le_s (le_n le_0)))) ?_
          exact ih.2.1 _ _ (by omega) (by omega) (by omega)
        · intro h10
          refine n_iconst c_197_27 ?_
          exact n_rZ c_197_28 rfl (by omega) ⟨rfl, by omega⟩
    · intro x1 x2 k1 k2 hnn
      refine n_iload_n c_197_31 rfl ?_
      refine n_aload_n c_197_32 rfl ?_
      refine n_getV (bi := 0) c_197_33 sc_112.n rfl rfl rfl (t_dm hS hdm) ?_
      intro z1 ez1 f2
      obtain rfl : z1 = 2 := by omega
      refine n_if2_ge c_197_36 (by omega) (by omega) ?_ ?_
      · intro h3
        refine n_iinc (L2 := [some (2, 112), some (0, (x1 + 1)), some (0, x2), none]) c_197_147 rfl rfl rfl ?_
        refine n_goto c_197_150 ?_
        refine n_fg (le_s (le_s (le_n (le_n le_0)))) ?_
        exact ih.1 _ (by omega) (by omega)
      · intro h4
        refine n_aload_n c_197_39 rfl ?_
        refine n_getR c_197_40 sc_112.n rfl rfl rfl r_112_19 ?_
        refine n_iload_n c_197_43 rfl ?_
        refine n_aload_n c_197_44 rfl ?_
        refine n_getV (bi := 0) c_197_45 sc_112.n rfl rfl rfl (t_dm hS hdm) ?_
        intro z5 ez5 f6
        obtain rfl : z5 = 2 := by omega
        refine n_imul c_197_48 rfl ?_
        refine n_iload_n c_197_49 rfl ?_
        refine n_iadd c_197_50 rfl ?_
        refine n_ialoadV c_197_51 sc_127.n rfl rfl rfl (by omega) (t_127 hS (by omega)) ?_
        intro z7 ez7 f8
        refine n_aload_n c_197_52 rfl ?_
        refine n_getR c_197_53 sc_112.n rfl rfl rfl r_112_19 ?_
        refine n_iload_n c_197_56 rfl ?_
        refine n_aload_n c_197_57 rfl ?_
        refine n_getV (bi := 0) c_197_58 sc_112.n rfl rfl rfl (t_dm hS hdm) ?_
        intro z9 ez9 f10
        obtain rfl : z9 = 2 := by omega
        refine n_imul c_197_61 rfl ?_
        refine n_iload_n c_197_62 rfl ?_
        refine n_iadd c_197_63 rfl ?_
        refine n_ialoadV c_197_64 sc_127.n rfl rfl rfl (by omega) (t_127 hS (by omega)) ?_
        intro z11 ez11 f12
        refine n_if2_eq c_197_65 (by omega) (by omega) ?_ ?_
        · intro h13
          refine n_iconst c_197_70 ?_
          refine n_istore_n (L2 := [some (2, 112), some (0, x1), some (0, x2), some (0, 0)]) c_197_71 rfl rfl ?_
          refine n_fg (le_s (le_s (le_s (le_s le_0)))) ?_
          exact ih.2.2 _ _ _ (by omega) (by omega) (by omega) (by omega)
        · intro h14
          refine n_iconst c_197_68 ?_
          exact n_rZ c_197_69 rfl (by omega) ⟨rfl, by omega⟩
    · intro x1 x2 x3 k1 k2 k3 hnn
      refine n_iload_n c_197_72 rfl ?_
      refine n_aload_n c_197_73 rfl ?_
      refine n_getV (bi := 0) c_197_74 sc_112.n rfl rfl rfl (t_dm hS hdm) ?_
      intro z1 ez1 f2
      obtain rfl : z1 = 2 := by omega
      refine n_if2_ge c_197_77 (by omega) (by omega) ?_ ?_
      · intro h3
        refine n_iinc (L2 := [some (2, 112), some (0, x1), some (0, (x2 + 1)), some (0, x3)]) c_197_141 rfl rfl rfl ?_
        refine n_goto c_197_144 ?_
        refine n_fg (le_s (le_s (le_s (le_n le_0)))) ?_
        exact ih.2.1 _ _ (by omega) (by omega) (by omega)
      · intro h4
        refine n_aload_n c_197_80 rfl ?_
        refine n_getR c_197_81 sc_112.n rfl rfl rfl r_112_19 ?_
        refine n_aload_n c_197_84 rfl ?_
        refine n_getR c_197_85 sc_112.n rfl rfl rfl r_112_19 ?_
        refine n_iload_n c_197_88 rfl ?_
        refine n_aload_n c_197_89 rfl ?_
        refine n_getV (bi := 0) c_197_90 sc_112.n rfl rfl rfl (t_dm hS hdm) ?_
        intro z5 ez5 f6
        obtain rfl : z5 = 2 := by omega
        refine n_imul c_197_93 rfl ?_
        refine n_iload_n c_197_94 rfl ?_
        refine n_iadd c_197_95 rfl ?_
        refine n_ialoadV c_197_96 sc_127.n rfl rfl rfl (by omega) (t_127 hS (by omega)) ?_
        intro z7 ez7 f8
        refine n_aload_n c_197_97 rfl ?_
        refine n_getV (bi := 0) c_197_98 sc_112.n rfl rfl rfl (t_dm hS hdm) ?_
        intro z9 ez9 f10
        obtain rfl : z9 = 2 := by omega
        refine n_imul c_197_101 rfl ?_
        refine n_iload_n c_197_102 rfl ?_
        refine n_iadd c_197_103 rfl ?_
        refine n_ialoadV c_197_104 sc_127.n rfl rfl rfl (by omega) (t_127 hS (by omega)) ?_
        intro z11 ez11 f12
        refine n_aload_n c_197_105 rfl ?_
        refine n_getR c_197_106 sc_112.n rfl rfl rfl r_112_19 ?_
        refine n_iload_n c_197_109 rfl ?_
        refine n_aload_n c_197_110 rfl ?_
        refine n_getV (bi := 0) c_197_111 sc_112.n rfl rfl rfl (t_dm hS hdm) ?_
        intro z13 ez13 f14
        obtain rfl : z13 = 2 := by omega
        refine n_imul c_197_114 rfl ?_
        refine n_aload_n c_197_115 rfl ?_
        refine n_getR c_197_116 sc_112.n rfl rfl rfl r_112_19 ?_
        refine n_iload_n c_197_119 rfl ?_
        refine n_aload_n c_197_120 rfl ?_
        refine n_getV (bi := 0) c_197_121 sc_112.n rfl rfl rfl (t_dm hS hdm) ?_
        intro z15 ez15 f16
        obtain rfl : z15 = 2 := by omega
        refine n_imul c_197_124 rfl ?_
        refine n_iload_n c_197_125 rfl ?_
        refine n_iadd c_197_126 rfl ?_
        refine n_ialoadV c_197_127 sc_127.n rfl rfl rfl (by omega) (t_127 hS (by omega)) ?_
        intro z17 ez17 f18
        refine n_iadd c_197_128 rfl ?_
        refine n_ialoadV c_197_129 sc_127.n rfl rfl rfl (by omega) (t_127 hS (by omega)) ?_
        intro z19 ez19 f20
        refine n_if2_eq c_197_130 (by omega) (by omega) ?_ ?_
        · intro h21
          refine n_iinc (L2 := [some (2, 112), some (0, x1), some (0, x2), some (0, (x3 + 1))]) c_197_135 rfl rfl rfl ?_
          refine n_goto c_197_138 ?_
          refine n_fg (le_s (le_s (le_s (le_s le_0)))) ?_
          exact ih.2.2 _ _ _ (by omega) (by omega) (by omega) (by omega)
        · intro h22
          refine n_iconst c_197_133 ?_
          exact n_rZ c_197_134 rfl (by omega) ⟨rfl, by omega⟩
set_option maxHeartbeats 4000000 in
theorem misHalf_2 {xs : List Int32} {e : Nat} {ac : Int} {M0 M : nM} (hS : Sf 2 ac M0 M) (hdm : M0 112 0 = 2) : nW xs e 197 0 [some (2, 112), none, none, none] [] M (nPI fun z M1 => M = M1 ∧ (0 ≤ z ∧ z ≤ 1)) := by
  have hd : (2 : Int) = 2 ∨ (2 : Int) = 3 := by decide
  have hac := hS.2.2.2.2
  refine n_iconst c_197_0 ?_
  refine n_istore_n (L2 := [some (2, 112), some (0, 0), none, none]) c_197_1 rfl rfl ?_
  refine n_fg (le_s (le_s (le_n (le_n le_0)))) ?_
  exact (misHalf_2_c hS hdm 178).1 _ (by omega) (by omega)

set_option maxHeartbeats 4000000 in
theorem mhandCode_2_c {xs : List Int32} {e : Nat} {ac : Int} {M0 M : nM} (hS : Sf 2 ac M0 M) (hdm : M0 112 0 = 2) : ∀ nn : Nat, (∀ (x1 x3 : Int), (-9223372036854775808 ≤ x1 ∧ x1 ≤ 9223372036854775807) → (-1 ≤ x3 ∧ x3 ≤ 7) → (x3 - (-1)) * 1 + 1 < (nn : Int) → nW xs (e + 1) 198 13 [some (2, 112), some (1, x1), none, some (0, x3)] [] M (nPJ fun z M1 => M = M1 ∧ (-9223372036854775808 ≤ z ∧ z ≤ 9223372036854775807))) := by
  have hd : (2 : Int) = 2 ∨ (2 : Int) = 3 := by decide
  have hac := hS.2.2.2.2
  intro nn
  induction nn with
  | zero => intros; omega
  | succ nn ih =>
    intro x1 x3 k1 k3 hnn
    refine n_iload_n c_198_13 rfl ?_
    refine n_if0_lt c_198_14 (by omega) ?_ ?_
    · intro h1
      refine n_lload_n c_198_39 rfl ?_
      exact n_rJ c_198_40 rfl ⟨rfl, by omega⟩
    · intro h2
      refine n_lload_n c_198_17 rfl ?_
      refine n_aload_n c_198_18 rfl ?_
      refine n_getV (bi := 0) c_198_19 sc_112.n rfl rfl rfl (t_dm hS hdm) ?_
      intro z3 ez3 f4
      obtain rfl : z3 = 2 := by omega
      refine n_i2l c_198_22 (by omega) ?_
      refine n_lmul c_198_23 rfl ?_
      refine n_wrapl ?_
      have f5 := n_wl_r (x1 * 2)
      generalize n_wl (x1 * 2) = z6 at f5 ⊢
      refine n_aload_n c_198_24 rfl ?_
      refine n_getR c_198_25 sc_112.n rfl rfl rfl r_112_19 ?_
      refine n_iload_n c_198_28 rfl ?_
      refine n_ialoadV c_198_29 sc_127.n rfl rfl rfl (by omega) (t_127 hS (by omega)) ?_
      intro z7 ez7 f8
      refine n_i2l c_198_30 (by omega) ?_
      refine n_ladd c_198_31 rfl ?_
      refine n_wrapl ?_
      have f9 := n_wl_r (z6 + z7)
      generalize n_wl (z6 + z7) = z10 at f9 ⊢
      refine n_lstore_n (L2 := [some (2, 112), some (1, z10), none, some (0, x3)]) c_198_32 rfl rfl ?_
      refine n_iinc (L2 := [some (2, 112), some (1, z10), none, some (0, (x3 + (-1)))]) c_198_33 rfl rfl rfl ?_
      refine n_goto c_198_36 ?_
      refine n_fg (le_s (le_s (le_n (le_s le_0)))) ?_
      exact ih _ _ (by omega) (by omega) (by omega)
set_option maxHeartbeats 4000000 in
theorem mhandCode_2 {xs : List Int32} {e : Nat} {ac : Int} {M0 M : nM} (hS : Sf 2 ac M0 M) (hdm : M0 112 0 = 2) : nW xs (e + 1) 198 0 [some (2, 112), none, none, none] [] M (nPJ fun z M1 => M = M1 ∧ (-9223372036854775808 ≤ z ∧ z ≤ 9223372036854775807)) := by
  have hd : (2 : Int) = 2 ∨ (2 : Int) = 3 := by decide
  have hac := hS.2.2.2.2
  refine n_lconst (n := 0) c_198_0 rfl ?_
  refine n_lstore_n (L2 := [some (2, 112), some (1, 0), none, none]) c_198_1 rfl rfl ?_
  refine n_aload_n c_198_2 rfl ?_
  refine n_getV (bi := 0) c_198_3 sc_112.n rfl rfl rfl (t_dm hS hdm) ?_
  intro z1 ez1 f2
  obtain rfl : z1 = 2 := by omega
  refine n_iconst c_198_6 ?_
  refine n_s2I c_198_7 rfl rfl rfl rfl (mpower3_2  hS ) ?_
  intro z3 M4 hP5
  obtain ⟨eM, f5⟩ := hP5
  subst eM
  obtain rfl : z3 = 8 := by omega
  refine n_iconst c_198_10 ?_
  refine n_isub c_198_11 rfl ?_
  refine n_istore_n (L2 := [some (2, 112), some (1, 0), none, some (0, (8 - 1))]) c_198_12 rfl rfl ?_
  refine n_fg (le_s (le_s (le_n (le_s le_0)))) ?_
  exact (mhandCode_2_c hS hdm 30) _ _ (by omega) (by omega) (by omega)

set_option maxHeartbeats 4000000 in
theorem mdigit_2 {xs : List Int32} {e : Nat} {ac : Int} {M0 M : nM} {r k j : Int} (hS : Sf 2 ac M0 M) (hdm : M0 112 0 = 2) (hr : 0 ≤ r ∧ r ≤ 2147483647) (hk : 0 ≤ k ∧ k ≤ 9) (hj : 0 ≤ j ∧ j ≤ 8) (hkj : j < k) : nW xs (e + 1) 152 0 [some (2, 112), some (0, r), some (0, k), some (0, j)] [] M (nPI fun z M1 => M = M1 ∧ (0 ≤ z ∧ z ≤ 1)) := by
  have hd : (2 : Int) = 2 ∨ (2 : Int) = 3 := by decide
  have hac := hS.2.2.2.2
  refine n_iload_n c_152_0 rfl ?_
  refine n_aload_n c_152_1 rfl ?_
  refine n_getV (bi := 0) c_152_2 sc_112.n rfl rfl rfl (t_dm hS hdm) ?_
  intro z1 ez1 f2
  obtain rfl : z1 = 2 := by omega
  refine n_iload_n c_152_5 rfl ?_
  refine n_iconst c_152_6 ?_
  refine n_isub c_152_7 rfl ?_
  refine n_iload_n c_152_8 rfl ?_
  refine n_isub c_152_9 rfl ?_
  refine n_s2I c_152_10 rfl rfl rfl rfl (mpowerU_2 (n := ((k - 1) - j)) hS (by omega)) ?_
  intro z3 M4 hP5
  obtain ⟨eM, f5⟩ := hP5
  subst eM
  refine n_idivV c_152_13 (by omega) (by omega) ?_
  intro z6 _ f7
  refine n_aload_n c_152_14 rfl ?_
  refine n_getV (bi := 0) c_152_15 sc_112.n rfl rfl rfl (t_dm hS hdm) ?_
  intro z8 ez8 f9
  obtain rfl : z8 = 2 := by omega
  refine n_iremV c_152_18 (by omega) (by omega) ?_
  intro z10 _ f11
  exact n_rI c_152_19 rfl ⟨rfl, by omega⟩

set_option maxHeartbeats 4000000 in
theorem mjoined2_2_c {xs : List Int32} {e : Nat} {ac : Int} {M0 M : nM} {a x y w s : Int} (hS : Sf 2 ac M0 M) (hdm : M0 112 0 = 2) (ha : 0 ≤ a ∧ a ≤ 7) (hx : 0 ≤ x ∧ x ≤ 256) (hy : 0 ≤ y ∧ y ≤ 256) (hw : 0 ≤ w ∧ w ≤ 256) (hs : 0 ≤ s ∧ s ≤ 1000000) : ∀ nn : Nat, (∀ (x8 : Int) (M : nM), Sf 2 ac M0 M → (0 ≤ x8 ∧ x8 ≤ 6) → 2 < (nn : Int) → nW xs e 163 145 [some (2, 112), none, none, none, none, none, some (0, s), none, some (0, x8), none, none] [] M (nPV fun M1 => Sf 2 ac M0 M1)) ∧ (∀ (M : nM), Sf 2 ac M0 M → 1 < (nn : Int) → nW xs e 163 156 [none, none, none, none, none, none, none, none, none, none, none] [] M (nPV fun M1 => Sf 2 ac M0 M1)) := by
  have hd : (2 : Int) = 2 ∨ (2 : Int) = 3 := by decide
  have hac := hS.2.2.2.2
  intro nn
  induction nn with
  | zero => refine ⟨?_, ?_⟩ <;> (intros; omega)
  | succ nn ih =>
    refine ⟨?_, ?_⟩
    · intro x8 M hS k8 hnn
      refine n_aload_n c_163_145 rfl ?_
      refine n_getR c_163_146 sc_112.n rfl rfl rfl r_112_17 ?_
      refine n_iload c_163_149 rfl ?_
      refine n_iload c_163_151 rfl ?_
      refine n_iconst c_163_153 ?_
      refine n_iadd c_163_154 rfl ?_
      refine n_iastoreV hS c_163_155 sc_125.n rfl (by omega) (w_125 (by omega) (by omega)) ?_
      intro M1 eM1 hS1
      have g1_0 : M1 125 x8 = (s + 1) := by rw [eM1]; exact nu_s _ _ _ _
      refine n_fg (le_n (le_n (le_n (le_n (le_n (le_n (le_n (le_n (le_n (le_n (le_n le_0))))))))))) ?_
      exact ih.2  M1 hS1  (by omega)
    · intro M hS hnn
      exact n_rV c_163_156 rfl hS
set_option maxHeartbeats 4000000 in
theorem mjoined2_2 {xs : List Int32} {e : Nat} {ac : Int} {M0 M : nM} {a x y w s : Int} (hS : Sf 2 ac M0 M) (hdm : M0 112 0 = 2) (ha : 0 ≤ a ∧ a ≤ 7) (hx : 0 ≤ x ∧ x ≤ 256) (hy : 0 ≤ y ∧ y ≤ 256) (hw : 0 ≤ w ∧ w ≤ 256) (hs : 0 ≤ s ∧ s ≤ 1000000) : nW xs e 163 0 [some (2, 112), some (0, a), some (0, 2), some (0, x), some (0, y), some (0, w), some (0, s), none, none, none, none] [] M (nPV fun M1 => Sf 2 ac M0 M1) := by
  have hd : (2 : Int) = 2 ∨ (2 : Int) = 3 := by decide
  have hac := hS.2.2.2.2
  refine n_aload_n c_163_0 rfl ?_
  refine n_getR c_163_1 sc_112.n rfl rfl rfl r_112_5 ?_
  refine n_iload_n c_163_4 rfl ?_
  refine n_ialoadV c_163_5 sc_116.n rfl rfl rfl (by omega) (t_116 hS (by omega)) ?_
  intro z1 ez1 f2
  refine n_istore (L2 := [some (2, 112), some (0, a), some (0, 2), some (0, x), some (0, y), some (0, w), some (0, s), some (0, z1), none, none, none]) c_163_6 rfl rfl ?_
  refine n_iconst c_163_8 ?_
  refine n_istore (L2 := [some (2, 112), some (0, a), some (0, 2), some (0, x), some (0, y), some (0, w), some (0, s), some (0, z1), some (0, 0), none, none]) c_163_9 rfl rfl ?_
  refine n_iload_n c_163_11 rfl ?_
  refine n_iconst c_163_12 ?_
  refine n_isub c_163_13 rfl ?_
  refine n_istore (L2 := [some (2, 112), some (0, a), some (0, 2), some (0, x), some (0, y), some (0, w), some (0, s), some (0, z1), some (0, 0), some (0, (2 - 1)), none]) c_163_14 rfl rfl ?_
  refine n_iload c_163_16 rfl ?_
  refine n_if0_lt c_163_18 (by omega) ?_ ?_
  · intro h3
    exfalso; omega
  · intro h4
    refine n_aload_n c_163_21 rfl ?_
    refine n_getR c_163_22 sc_112.n rfl rfl rfl r_112_18 ?_
    refine n_bipush c_163_25 rfl ?_
    refine n_iload_n c_163_27 rfl ?_
    refine n_imul c_163_28 rfl ?_
    refine n_iload c_163_29 rfl ?_
    refine n_iadd c_163_31 rfl ?_
    refine n_ialoadV c_163_32 sc_126.n rfl rfl rfl (by omega) (t_126 hS (by omega)) ?_
    intro z5 ez5 f6
    refine n_istore (L2 := [some (2, 112), some (0, a), some (0, 2), some (0, x), some (0, y), some (0, w), some (0, s), some (0, z1), some (0, 0), some (0, (2 - 1)), some (0, z5)]) c_163_33 rfl rfl ?_
    refine n_iload c_163_35 rfl ?_
    refine n_iconst c_163_37 ?_
    refine n_if2_le c_163_38 (by omega) (by omega) ?_ ?_
    · intro h7
      refine n_iload c_163_64 rfl ?_
      refine n_iconst c_163_66 ?_
      refine n_if2_le c_163_67 (by omega) (by omega) ?_ ?_
      · intro h8
        refine n_iload c_163_93 rfl ?_
        refine n_aload_n c_163_95 rfl ?_
        refine n_getV (bi := 0) c_163_96 sc_112.n rfl rfl rfl (t_dm hS hdm) ?_
        intro z9 ez9 f10
        obtain rfl : z9 = 2 := by omega
        refine n_imul c_163_99 rfl ?_
        refine n_aload_n c_163_100 rfl ?_
        refine n_getR c_163_101 sc_112.n rfl rfl rfl r_112_6 ?_
        refine n_bipush c_163_104 rfl ?_
        refine n_iload_n c_163_106 rfl ?_
        refine n_imul c_163_107 rfl ?_
        refine n_iload c_163_108 rfl ?_
        refine n_iadd c_163_110 rfl ?_
        refine n_ialoadV c_163_111 sc_117.n rfl rfl rfl (by omega) (t_117 hS (by omega)) ?_
        intro z11 ez11 f12
        refine n_iadd c_163_112 rfl ?_
        refine n_istore (L2 := [some (2, 112), some (0, a), some (0, 2), some (0, x), some (0, y), some (0, w), some (0, s), some (0, z1), some (0, ((0 * 2) + z11)), some (0, (2 - 1)), some (0, z5)]) c_163_113 rfl rfl ?_
        refine n_iinc (L2 := [some (2, 112), some (0, a), some (0, 2), some (0, x), some (0, y), some (0, w), some (0, s), some (0, z1), some (0, ((0 * 2) + z11)), some (0, ((2 - 1) + (-1))), some (0, z5)]) c_163_115 rfl rfl rfl ?_
        refine n_goto c_163_118 ?_
        refine n_iload c_163_16 rfl ?_
        refine n_if0_lt c_163_18 (by omega) ?_ ?_
        · intro h13
          exfalso; omega
        · intro h14
          refine n_aload_n c_163_21 rfl ?_
          refine n_getR c_163_22 sc_112.n rfl rfl rfl r_112_18 ?_
          refine n_bipush c_163_25 rfl ?_
          refine n_iload_n c_163_27 rfl ?_
          refine n_imul c_163_28 rfl ?_
          refine n_iload c_163_29 rfl ?_
          refine n_iadd c_163_31 rfl ?_
          refine n_ialoadV c_163_32 sc_126.n rfl rfl rfl (by omega) (t_126 hS (by omega)) ?_
          intro z15 ez15 f16
          refine n_istore (L2 := [some (2, 112), some (0, a), some (0, 2), some (0, x), some (0, y), some (0, w), some (0, s), some (0, z1), some (0, ((0 * 2) + z11)), some (0, ((2 - 1) + (-1))), some (0, z15)]) c_163_33 rfl rfl ?_
          refine n_iload c_163_35 rfl ?_
          refine n_iconst c_163_37 ?_
          refine n_if2_le c_163_38 (by omega) (by omega) ?_ ?_
          · intro h17
            refine n_iload c_163_64 rfl ?_
            refine n_iconst c_163_66 ?_
            refine n_if2_le c_163_67 (by omega) (by omega) ?_ ?_
            · intro h18
              refine n_iload c_163_93 rfl ?_
              refine n_aload_n c_163_95 rfl ?_
              refine n_getV (bi := 0) c_163_96 sc_112.n rfl rfl rfl (t_dm hS hdm) ?_
              intro z19 ez19 f20
              obtain rfl : z19 = 2 := by omega
              refine n_imul c_163_99 rfl ?_
              refine n_aload_n c_163_100 rfl ?_
              refine n_getR c_163_101 sc_112.n rfl rfl rfl r_112_6 ?_
              refine n_bipush c_163_104 rfl ?_
              refine n_iload_n c_163_106 rfl ?_
              refine n_imul c_163_107 rfl ?_
              refine n_iload c_163_108 rfl ?_
              refine n_iadd c_163_110 rfl ?_
              refine n_ialoadV c_163_111 sc_117.n rfl rfl rfl (by omega) (t_117 hS (by omega)) ?_
              intro z21 ez21 f22
              refine n_iadd c_163_112 rfl ?_
              refine n_istore (L2 := [some (2, 112), some (0, a), some (0, 2), some (0, x), some (0, y), some (0, w), some (0, s), some (0, z1), some (0, ((((0 * 2) + z11) * 2) + z21)), some (0, ((2 - 1) + (-1))), some (0, z15)]) c_163_113 rfl rfl ?_
              refine n_iinc (L2 := [some (2, 112), some (0, a), some (0, 2), some (0, x), some (0, y), some (0, w), some (0, s), some (0, z1), some (0, ((((0 * 2) + z11) * 2) + z21)), some (0, (((2 - 1) + (-1)) + (-1))), some (0, z15)]) c_163_115 rfl rfl rfl ?_
              refine n_goto c_163_118 ?_
              refine n_iload c_163_16 rfl ?_
              refine n_if0_lt c_163_18 (by omega) ?_ ?_
              · intro h23
                refine n_aload_n c_163_121 rfl ?_
                refine n_getR c_163_122 sc_112.n rfl rfl rfl r_112_17 ?_
                refine n_iload c_163_125 rfl ?_
                refine n_ialoadV c_163_127 sc_125.n rfl rfl rfl (by omega) (t_125 hS (by omega)) ?_
                intro z24 ez24 f25
                refine n_if0_eq c_163_128 (by omega) ?_ ?_
                · intro h26
                  refine n_fg (le_s (le_n (le_n (le_n (le_n (le_n (le_s (le_n (le_s (le_n (le_n le_0))))))))))) ?_
                  exact (mjoined2_2_c hS hdm ha hx hy hw hs 14).1 _ M hS (by omega) (by omega)
                · intro h27
                  refine n_aload_n c_163_131 rfl ?_
                  refine n_getR c_163_132 sc_112.n rfl rfl rfl r_112_17 ?_
                  refine n_iload c_163_135 rfl ?_
                  refine n_ialoadV c_163_137 sc_125.n rfl rfl rfl (by omega) (t_125 hS (by omega)) ?_
                  intro z28 ez28 f29
                  refine n_iload c_163_138 rfl ?_
                  refine n_iconst c_163_140 ?_
                  refine n_iadd c_163_141 rfl ?_
                  refine n_if2_le c_163_142 (by omega) (by omega) ?_ ?_
                  · intro h30
                    refine n_fg (le_n (le_n (le_n (le_n (le_n (le_n (le_n (le_n (le_n (le_n (le_n le_0))))))))))) ?_
                    exact (mjoined2_2_c hS hdm ha hx hy hw hs 14).2  M hS  (by omega)
                  · intro h31
                    refine n_fg (le_s (le_n (le_n (le_n (le_n (le_n (le_s (le_n (le_s (le_n (le_n le_0))))))))))) ?_
                    exact (mjoined2_2_c hS hdm ha hx hy hw hs 14).1 _ M hS (by omega) (by omega)
              · intro h32
                exfalso; omega
            · intro h33
              exfalso; omega
          · intro h34
            exfalso; omega
      · intro h35
        exfalso; omega
    · intro h36
      refine n_iload c_163_41 rfl ?_
      refine n_aload_n c_163_43 rfl ?_
      refine n_getV (bi := 0) c_163_44 sc_112.n rfl rfl rfl (t_dm hS hdm) ?_
      intro z37 ez37 f38
      obtain rfl : z37 = 2 := by omega
      refine n_imul c_163_47 rfl ?_
      refine n_aload_n c_163_48 rfl ?_
      refine n_getR c_163_49 sc_112.n rfl rfl rfl r_112_18 ?_
      refine n_bipush c_163_52 rfl ?_
      refine n_iload c_163_54 rfl ?_
      refine n_imul c_163_56 rfl ?_
      refine n_iload c_163_57 rfl ?_
      refine n_iadd c_163_59 rfl ?_
      refine n_ialoadV c_163_60 sc_126.n rfl rfl rfl (by omega) (t_126 hS (by omega)) ?_
      intro z39 ez39 f40
      refine n_iadd c_163_61 rfl ?_
      refine n_istore (L2 := [some (2, 112), some (0, a), some (0, 2), some (0, x), some (0, y), some (0, w), some (0, s), some (0, z1), some (0, 0), some (0, (2 - 1)), some (0, ((z5 * 2) + z39))]) c_163_62 rfl rfl ?_
      refine n_iload c_163_64 rfl ?_
      refine n_iconst c_163_66 ?_
      refine n_if2_le c_163_67 (by omega) (by omega) ?_ ?_
      · intro h41
        refine n_iload c_163_93 rfl ?_
        refine n_aload_n c_163_95 rfl ?_
        refine n_getV (bi := 0) c_163_96 sc_112.n rfl rfl rfl (t_dm hS hdm) ?_
        intro z42 ez42 f43
        obtain rfl : z42 = 2 := by omega
        refine n_imul c_163_99 rfl ?_
        refine n_aload_n c_163_100 rfl ?_
        refine n_getR c_163_101 sc_112.n rfl rfl rfl r_112_6 ?_
        refine n_bipush c_163_104 rfl ?_
        refine n_iload_n c_163_106 rfl ?_
        refine n_imul c_163_107 rfl ?_
        refine n_iload c_163_108 rfl ?_
        refine n_iadd c_163_110 rfl ?_
        refine n_ialoadV c_163_111 sc_117.n rfl rfl rfl (by omega) (t_117 hS (by omega)) ?_
        intro z44 ez44 f45
        refine n_iadd c_163_112 rfl ?_
        refine n_istore (L2 := [some (2, 112), some (0, a), some (0, 2), some (0, x), some (0, y), some (0, w), some (0, s), some (0, z1), some (0, ((0 * 2) + z44)), some (0, (2 - 1)), some (0, ((z5 * 2) + z39))]) c_163_113 rfl rfl ?_
        refine n_iinc (L2 := [some (2, 112), some (0, a), some (0, 2), some (0, x), some (0, y), some (0, w), some (0, s), some (0, z1), some (0, ((0 * 2) + z44)), some (0, ((2 - 1) + (-1))), some (0, ((z5 * 2) + z39))]) c_163_115 rfl rfl rfl ?_
        refine n_goto c_163_118 ?_
        refine n_iload c_163_16 rfl ?_
        refine n_if0_lt c_163_18 (by omega) ?_ ?_
        · intro h46
          exfalso; omega
        · intro h47
          refine n_aload_n c_163_21 rfl ?_
          refine n_getR c_163_22 sc_112.n rfl rfl rfl r_112_18 ?_
          refine n_bipush c_163_25 rfl ?_
          refine n_iload_n c_163_27 rfl ?_
          refine n_imul c_163_28 rfl ?_
          refine n_iload c_163_29 rfl ?_
          refine n_iadd c_163_31 rfl ?_
          refine n_ialoadV c_163_32 sc_126.n rfl rfl rfl (by omega) (t_126 hS (by omega)) ?_
          intro z48 ez48 f49
          refine n_istore (L2 := [some (2, 112), some (0, a), some (0, 2), some (0, x), some (0, y), some (0, w), some (0, s), some (0, z1), some (0, ((0 * 2) + z44)), some (0, ((2 - 1) + (-1))), some (0, z48)]) c_163_33 rfl rfl ?_
          refine n_iload c_163_35 rfl ?_
          refine n_iconst c_163_37 ?_
          refine n_if2_le c_163_38 (by omega) (by omega) ?_ ?_
          · intro h50
            exfalso; omega
          · intro h51
            refine n_iload c_163_41 rfl ?_
            refine n_aload_n c_163_43 rfl ?_
            refine n_getV (bi := 0) c_163_44 sc_112.n rfl rfl rfl (t_dm hS hdm) ?_
            intro z52 ez52 f53
            obtain rfl : z52 = 2 := by omega
            refine n_imul c_163_47 rfl ?_
            refine n_aload_n c_163_48 rfl ?_
            refine n_getR c_163_49 sc_112.n rfl rfl rfl r_112_18 ?_
            refine n_bipush c_163_52 rfl ?_
            refine n_iload c_163_54 rfl ?_
            refine n_imul c_163_56 rfl ?_
            refine n_iload c_163_57 rfl ?_
            refine n_iadd c_163_59 rfl ?_
            refine n_ialoadV c_163_60 sc_126.n rfl rfl rfl (by omega) (t_126 hS (by omega)) ?_
            intro z54 ez54 f55
            refine n_iadd c_163_61 rfl ?_
            refine n_istore (L2 := [some (2, 112), some (0, a), some (0, 2), some (0, x), some (0, y), some (0, w), some (0, s), some (0, z1), some (0, ((0 * 2) + z44)), some (0, ((2 - 1) + (-1))), some (0, ((z48 * 2) + z54))]) c_163_62 rfl rfl ?_
            refine n_iload c_163_64 rfl ?_
            refine n_iconst c_163_66 ?_
            refine n_if2_le c_163_67 (by omega) (by omega) ?_ ?_
            · intro h56
              refine n_iload c_163_93 rfl ?_
              refine n_aload_n c_163_95 rfl ?_
              refine n_getV (bi := 0) c_163_96 sc_112.n rfl rfl rfl (t_dm hS hdm) ?_
              intro z57 ez57 f58
              obtain rfl : z57 = 2 := by omega
              refine n_imul c_163_99 rfl ?_
              refine n_aload_n c_163_100 rfl ?_
              refine n_getR c_163_101 sc_112.n rfl rfl rfl r_112_6 ?_
              refine n_bipush c_163_104 rfl ?_
              refine n_iload_n c_163_106 rfl ?_
              refine n_imul c_163_107 rfl ?_
              refine n_iload c_163_108 rfl ?_
              refine n_iadd c_163_110 rfl ?_
              refine n_ialoadV c_163_111 sc_117.n rfl rfl rfl (by omega) (t_117 hS (by omega)) ?_
              intro z59 ez59 f60
              refine n_iadd c_163_112 rfl ?_
              refine n_istore (L2 := [some (2, 112), some (0, a), some (0, 2), some (0, x), some (0, y), some (0, w), some (0, s), some (0, z1), some (0, ((((0 * 2) + z44) * 2) + z59)), some (0, ((2 - 1) + (-1))), some (0, ((z48 * 2) + z54))]) c_163_113 rfl rfl ?_
              refine n_iinc (L2 := [some (2, 112), some (0, a), some (0, 2), some (0, x), some (0, y), some (0, w), some (0, s), some (0, z1), some (0, ((((0 * 2) + z44) * 2) + z59)), some (0, (((2 - 1) + (-1)) + (-1))), some (0, ((z48 * 2) + z54))]) c_163_115 rfl rfl rfl ?_
              refine n_goto c_163_118 ?_
              refine n_iload c_163_16 rfl ?_
              refine n_if0_lt c_163_18 (by omega) ?_ ?_
              · intro h61
                refine n_aload_n c_163_121 rfl ?_
                refine n_getR c_163_122 sc_112.n rfl rfl rfl r_112_17 ?_
                refine n_iload c_163_125 rfl ?_
                refine n_ialoadV c_163_127 sc_125.n rfl rfl rfl (by omega) (t_125 hS (by omega)) ?_
                intro z62 ez62 f63
                refine n_if0_eq c_163_128 (by omega) ?_ ?_
                · intro h64
                  refine n_fg (le_s (le_n (le_n (le_n (le_n (le_n (le_s (le_n (le_s (le_n (le_n le_0))))))))))) ?_
                  exact (mjoined2_2_c hS hdm ha hx hy hw hs 14).1 _ M hS (by omega) (by omega)
                · intro h65
                  refine n_aload_n c_163_131 rfl ?_
                  refine n_getR c_163_132 sc_112.n rfl rfl rfl r_112_17 ?_
                  refine n_iload c_163_135 rfl ?_
                  refine n_ialoadV c_163_137 sc_125.n rfl rfl rfl (by omega) (t_125 hS (by omega)) ?_
                  intro z66 ez66 f67
                  refine n_iload c_163_138 rfl ?_
                  refine n_iconst c_163_140 ?_
                  refine n_iadd c_163_141 rfl ?_
                  refine n_if2_le c_163_142 (by omega) (by omega) ?_ ?_
                  · intro h68
                    refine n_fg (le_n (le_n (le_n (le_n (le_n (le_n (le_n (le_n (le_n (le_n (le_n le_0))))))))))) ?_
                    exact (mjoined2_2_c hS hdm ha hx hy hw hs 14).2  M hS  (by omega)
                  · intro h69
                    refine n_fg (le_s (le_n (le_n (le_n (le_n (le_n (le_s (le_n (le_s (le_n (le_n le_0))))))))))) ?_
                    exact (mjoined2_2_c hS hdm ha hx hy hw hs 14).1 _ M hS (by omega) (by omega)
              · intro h70
                exfalso; omega
            · intro h71
              exfalso; omega
      · intro h72
        refine n_iload c_163_70 rfl ?_
        refine n_aload_n c_163_72 rfl ?_
        refine n_getV (bi := 0) c_163_73 sc_112.n rfl rfl rfl (t_dm hS hdm) ?_
        intro z73 ez73 f74
        obtain rfl : z73 = 2 := by omega
        refine n_imul c_163_76 rfl ?_
        refine n_aload_n c_163_77 rfl ?_
        refine n_getR c_163_78 sc_112.n rfl rfl rfl r_112_18 ?_
        refine n_bipush c_163_81 rfl ?_
        refine n_iload c_163_83 rfl ?_
        refine n_imul c_163_85 rfl ?_
        refine n_iload c_163_86 rfl ?_
        refine n_iadd c_163_88 rfl ?_
        refine n_ialoadV c_163_89 sc_126.n rfl rfl rfl (by omega) (t_126 hS (by omega)) ?_
        intro z75 ez75 f76
        refine n_iadd c_163_90 rfl ?_
        refine n_istore (L2 := [some (2, 112), some (0, a), some (0, 2), some (0, x), some (0, y), some (0, w), some (0, s), some (0, z1), some (0, 0), some (0, (2 - 1)), some (0, ((((z5 * 2) + z39) * 2) + z75))]) c_163_91 rfl rfl ?_
        refine n_iload c_163_93 rfl ?_
        refine n_aload_n c_163_95 rfl ?_
        refine n_getV (bi := 0) c_163_96 sc_112.n rfl rfl rfl (t_dm hS hdm) ?_
        intro z77 ez77 f78
        obtain rfl : z77 = 2 := by omega
        refine n_imul c_163_99 rfl ?_
        refine n_aload_n c_163_100 rfl ?_
        refine n_getR c_163_101 sc_112.n rfl rfl rfl r_112_6 ?_
        refine n_bipush c_163_104 rfl ?_
        refine n_iload_n c_163_106 rfl ?_
        refine n_imul c_163_107 rfl ?_
        refine n_iload c_163_108 rfl ?_
        refine n_iadd c_163_110 rfl ?_
        refine n_ialoadV c_163_111 sc_117.n rfl rfl rfl (by omega) (t_117 hS (by omega)) ?_
        intro z79 ez79 f80
        refine n_iadd c_163_112 rfl ?_
        refine n_istore (L2 := [some (2, 112), some (0, a), some (0, 2), some (0, x), some (0, y), some (0, w), some (0, s), some (0, z1), some (0, ((0 * 2) + z79)), some (0, (2 - 1)), some (0, ((((z5 * 2) + z39) * 2) + z75))]) c_163_113 rfl rfl ?_
        refine n_iinc (L2 := [some (2, 112), some (0, a), some (0, 2), some (0, x), some (0, y), some (0, w), some (0, s), some (0, z1), some (0, ((0 * 2) + z79)), some (0, ((2 - 1) + (-1))), some (0, ((((z5 * 2) + z39) * 2) + z75))]) c_163_115 rfl rfl rfl ?_
        refine n_goto c_163_118 ?_
        refine n_iload c_163_16 rfl ?_
        refine n_if0_lt c_163_18 (by omega) ?_ ?_
        · intro h81
          exfalso; omega
        · intro h82
          refine n_aload_n c_163_21 rfl ?_
          refine n_getR c_163_22 sc_112.n rfl rfl rfl r_112_18 ?_
          refine n_bipush c_163_25 rfl ?_
          refine n_iload_n c_163_27 rfl ?_
          refine n_imul c_163_28 rfl ?_
          refine n_iload c_163_29 rfl ?_
          refine n_iadd c_163_31 rfl ?_
          refine n_ialoadV c_163_32 sc_126.n rfl rfl rfl (by omega) (t_126 hS (by omega)) ?_
          intro z83 ez83 f84
          refine n_istore (L2 := [some (2, 112), some (0, a), some (0, 2), some (0, x), some (0, y), some (0, w), some (0, s), some (0, z1), some (0, ((0 * 2) + z79)), some (0, ((2 - 1) + (-1))), some (0, z83)]) c_163_33 rfl rfl ?_
          refine n_iload c_163_35 rfl ?_
          refine n_iconst c_163_37 ?_
          refine n_if2_le c_163_38 (by omega) (by omega) ?_ ?_
          · intro h85
            exfalso; omega
          · intro h86
            refine n_iload c_163_41 rfl ?_
            refine n_aload_n c_163_43 rfl ?_
            refine n_getV (bi := 0) c_163_44 sc_112.n rfl rfl rfl (t_dm hS hdm) ?_
            intro z87 ez87 f88
            obtain rfl : z87 = 2 := by omega
            refine n_imul c_163_47 rfl ?_
            refine n_aload_n c_163_48 rfl ?_
            refine n_getR c_163_49 sc_112.n rfl rfl rfl r_112_18 ?_
            refine n_bipush c_163_52 rfl ?_
            refine n_iload c_163_54 rfl ?_
            refine n_imul c_163_56 rfl ?_
            refine n_iload c_163_57 rfl ?_
            refine n_iadd c_163_59 rfl ?_
            refine n_ialoadV c_163_60 sc_126.n rfl rfl rfl (by omega) (t_126 hS (by omega)) ?_
            intro z89 ez89 f90
            refine n_iadd c_163_61 rfl ?_
            refine n_istore (L2 := [some (2, 112), some (0, a), some (0, 2), some (0, x), some (0, y), some (0, w), some (0, s), some (0, z1), some (0, ((0 * 2) + z79)), some (0, ((2 - 1) + (-1))), some (0, ((z83 * 2) + z89))]) c_163_62 rfl rfl ?_
            refine n_iload c_163_64 rfl ?_
            refine n_iconst c_163_66 ?_
            refine n_if2_le c_163_67 (by omega) (by omega) ?_ ?_
            · intro h91
              exfalso; omega
            · intro h92
              refine n_iload c_163_70 rfl ?_
              refine n_aload_n c_163_72 rfl ?_
              refine n_getV (bi := 0) c_163_73 sc_112.n rfl rfl rfl (t_dm hS hdm) ?_
              intro z93 ez93 f94
              obtain rfl : z93 = 2 := by omega
              refine n_imul c_163_76 rfl ?_
              refine n_aload_n c_163_77 rfl ?_
              refine n_getR c_163_78 sc_112.n rfl rfl rfl r_112_18 ?_
              refine n_bipush c_163_81 rfl ?_
              refine n_iload c_163_83 rfl ?_
              refine n_imul c_163_85 rfl ?_
              refine n_iload c_163_86 rfl ?_
              refine n_iadd c_163_88 rfl ?_
              refine n_ialoadV c_163_89 sc_126.n rfl rfl rfl (by omega) (t_126 hS (by omega)) ?_
              intro z95 ez95 f96
              refine n_iadd c_163_90 rfl ?_
              refine n_istore (L2 := [some (2, 112), some (0, a), some (0, 2), some (0, x), some (0, y), some (0, w), some (0, s), some (0, z1), some (0, ((0 * 2) + z79)), some (0, ((2 - 1) + (-1))), some (0, ((((z83 * 2) + z89) * 2) + z95))]) c_163_91 rfl rfl ?_
              refine n_iload c_163_93 rfl ?_
              refine n_aload_n c_163_95 rfl ?_
              refine n_getV (bi := 0) c_163_96 sc_112.n rfl rfl rfl (t_dm hS hdm) ?_
              intro z97 ez97 f98
              obtain rfl : z97 = 2 := by omega
              refine n_imul c_163_99 rfl ?_
              refine n_aload_n c_163_100 rfl ?_
              refine n_getR c_163_101 sc_112.n rfl rfl rfl r_112_6 ?_
              refine n_bipush c_163_104 rfl ?_
              refine n_iload_n c_163_106 rfl ?_
              refine n_imul c_163_107 rfl ?_
              refine n_iload c_163_108 rfl ?_
              refine n_iadd c_163_110 rfl ?_
              refine n_ialoadV c_163_111 sc_117.n rfl rfl rfl (by omega) (t_117 hS (by omega)) ?_
              intro z99 ez99 f100
              refine n_iadd c_163_112 rfl ?_
              refine n_istore (L2 := [some (2, 112), some (0, a), some (0, 2), some (0, x), some (0, y), some (0, w), some (0, s), some (0, z1), some (0, ((((0 * 2) + z79) * 2) + z99)), some (0, ((2 - 1) + (-1))), some (0, ((((z83 * 2) + z89) * 2) + z95))]) c_163_113 rfl rfl ?_
              refine n_iinc (L2 := [some (2, 112), some (0, a), some (0, 2), some (0, x), some (0, y), some (0, w), some (0, s), some (0, z1), some (0, ((((0 * 2) + z79) * 2) + z99)), some (0, (((2 - 1) + (-1)) + (-1))), some (0, ((((z83 * 2) + z89) * 2) + z95))]) c_163_115 rfl rfl rfl ?_
              refine n_goto c_163_118 ?_
              refine n_iload c_163_16 rfl ?_
              refine n_if0_lt c_163_18 (by omega) ?_ ?_
              · intro h101
                refine n_aload_n c_163_121 rfl ?_
                refine n_getR c_163_122 sc_112.n rfl rfl rfl r_112_17 ?_
                refine n_iload c_163_125 rfl ?_
                refine n_ialoadV c_163_127 sc_125.n rfl rfl rfl (by omega) (t_125 hS (by omega)) ?_
                intro z102 ez102 f103
                refine n_if0_eq c_163_128 (by omega) ?_ ?_
                · intro h104
                  refine n_fg (le_s (le_n (le_n (le_n (le_n (le_n (le_s (le_n (le_s (le_n (le_n le_0))))))))))) ?_
                  exact (mjoined2_2_c hS hdm ha hx hy hw hs 14).1 _ M hS (by omega) (by omega)
                · intro h105
                  refine n_aload_n c_163_131 rfl ?_
                  refine n_getR c_163_132 sc_112.n rfl rfl rfl r_112_17 ?_
                  refine n_iload c_163_135 rfl ?_
                  refine n_ialoadV c_163_137 sc_125.n rfl rfl rfl (by omega) (t_125 hS (by omega)) ?_
                  intro z106 ez106 f107
                  refine n_iload c_163_138 rfl ?_
                  refine n_iconst c_163_140 ?_
                  refine n_iadd c_163_141 rfl ?_
                  refine n_if2_le c_163_142 (by omega) (by omega) ?_ ?_
                  · intro h108
                    refine n_fg (le_n (le_n (le_n (le_n (le_n (le_n (le_n (le_n (le_n (le_n (le_n le_0))))))))))) ?_
                    exact (mjoined2_2_c hS hdm ha hx hy hw hs 14).2  M hS  (by omega)
                  · intro h109
                    refine n_fg (le_s (le_n (le_n (le_n (le_n (le_n (le_s (le_n (le_s (le_n (le_n le_0))))))))))) ?_
                    exact (mjoined2_2_c hS hdm ha hx hy hw hs 14).1 _ M hS (by omega) (by omega)
              · intro h110
                exfalso; omega

set_option maxHeartbeats 4000000 in
theorem mjoined4_2_c {xs : List Int32} {e : Nat} {ac : Int} {M0 M : nM} {a x y w s : Int} (hS : Sf 2 ac M0 M) (hdm : M0 112 0 = 2) (ha : 0 ≤ a ∧ a ≤ 7) (hx : 0 ≤ x ∧ x ≤ 256) (hy : 0 ≤ y ∧ y ≤ 256) (hw : 0 ≤ w ∧ w ≤ 256) (hs : 0 ≤ s ∧ s ≤ 1000000) : ∀ nn : Nat, (∀ (x8 : Int) (M : nM), Sf 2 ac M0 M → (0 ≤ x8 ∧ x8 ≤ 30) → 2 < (nn : Int) → nW xs e 163 145 [some (2, 112), none, none, none, none, none, some (0, s), none, some (0, x8), none, none] [] M (nPV fun M1 => Sf 2 ac M0 M1)) ∧ (∀ (M : nM), Sf 2 ac M0 M → 1 < (nn : Int) → nW xs e 163 156 [none, none, none, none, none, none, none, none, none, none, none] [] M (nPV fun M1 => Sf 2 ac M0 M1)) := by
  have hd : (2 : Int) = 2 ∨ (2 : Int) = 3 := by decide
  have hac := hS.2.2.2.2
  intro nn
  induction nn with
  | zero => refine ⟨?_, ?_⟩ <;> (intros; omega)
  | succ nn ih =>
    refine ⟨?_, ?_⟩
    · intro x8 M hS k8 hnn
      refine n_aload_n c_163_145 rfl ?_
      refine n_getR c_163_146 sc_112.n rfl rfl rfl r_112_17 ?_
      refine n_iload c_163_149 rfl ?_
      refine n_iload c_163_151 rfl ?_
      refine n_iconst c_163_153 ?_
      refine n_iadd c_163_154 rfl ?_
      refine n_iastoreV hS c_163_155 sc_125.n rfl (by omega) (w_125 (by omega) (by omega)) ?_
      intro M1 eM1 hS1
      have g1_0 : M1 125 x8 = (s + 1) := by rw [eM1]; exact nu_s _ _ _ _
      refine n_fg (le_n (le_n (le_n (le_n (le_n (le_n (le_n (le_n (le_n (le_n (le_n le_0))))))))))) ?_
      exact ih.2  M1 hS1  (by omega)
    · intro M hS hnn
      exact n_rV c_163_156 rfl hS
set_option maxHeartbeats 4000000 in
theorem mjoined4_2 {xs : List Int32} {e : Nat} {ac : Int} {M0 M : nM} {a x y w s : Int} (hS : Sf 2 ac M0 M) (hdm : M0 112 0 = 2) (ha : 0 ≤ a ∧ a ≤ 7) (hx : 0 ≤ x ∧ x ≤ 256) (hy : 0 ≤ y ∧ y ≤ 256) (hw : 0 ≤ w ∧ w ≤ 256) (hs : 0 ≤ s ∧ s ≤ 1000000) : nW xs e 163 0 [some (2, 112), some (0, a), some (0, 4), some (0, x), some (0, y), some (0, w), some (0, s), none, none, none, none] [] M (nPV fun M1 => Sf 2 ac M0 M1) := by
  have hd : (2 : Int) = 2 ∨ (2 : Int) = 3 := by decide
  have hac := hS.2.2.2.2
  refine n_aload_n c_163_0 rfl ?_
  refine n_getR c_163_1 sc_112.n rfl rfl rfl r_112_5 ?_
  refine n_iload_n c_163_4 rfl ?_
  refine n_ialoadV c_163_5 sc_116.n rfl rfl rfl (by omega) (t_116 hS (by omega)) ?_
  intro z1 ez1 f2
  refine n_istore (L2 := [some (2, 112), some (0, a), some (0, 4), some (0, x), some (0, y), some (0, w), some (0, s), some (0, z1), none, none, none]) c_163_6 rfl rfl ?_
  refine n_iconst c_163_8 ?_
  refine n_istore (L2 := [some (2, 112), some (0, a), some (0, 4), some (0, x), some (0, y), some (0, w), some (0, s), some (0, z1), some (0, 0), none, none]) c_163_9 rfl rfl ?_
  refine n_iload_n c_163_11 rfl ?_
  refine n_iconst c_163_12 ?_
  refine n_isub c_163_13 rfl ?_
  refine n_istore (L2 := [some (2, 112), some (0, a), some (0, 4), some (0, x), some (0, y), some (0, w), some (0, s), some (0, z1), some (0, 0), some (0, (4 - 1)), none]) c_163_14 rfl rfl ?_
  refine n_iload c_163_16 rfl ?_
  refine n_if0_lt c_163_18 (by omega) ?_ ?_
  · intro h3
    exfalso; omega
  · intro h4
    refine n_aload_n c_163_21 rfl ?_
    refine n_getR c_163_22 sc_112.n rfl rfl rfl r_112_18 ?_
    refine n_bipush c_163_25 rfl ?_
    refine n_iload_n c_163_27 rfl ?_
    refine n_imul c_163_28 rfl ?_
    refine n_iload c_163_29 rfl ?_
    refine n_iadd c_163_31 rfl ?_
    refine n_ialoadV c_163_32 sc_126.n rfl rfl rfl (by omega) (t_126 hS (by omega)) ?_
    intro z5 ez5 f6
    refine n_istore (L2 := [some (2, 112), some (0, a), some (0, 4), some (0, x), some (0, y), some (0, w), some (0, s), some (0, z1), some (0, 0), some (0, (4 - 1)), some (0, z5)]) c_163_33 rfl rfl ?_
    refine n_iload c_163_35 rfl ?_
    refine n_iconst c_163_37 ?_
    refine n_if2_le c_163_38 (by omega) (by omega) ?_ ?_
    · intro h7
      refine n_iload c_163_64 rfl ?_
      refine n_iconst c_163_66 ?_
      refine n_if2_le c_163_67 (by omega) (by omega) ?_ ?_
      · intro h8
        refine n_iload c_163_93 rfl ?_
        refine n_aload_n c_163_95 rfl ?_
        refine n_getV (bi := 0) c_163_96 sc_112.n rfl rfl rfl (t_dm hS hdm) ?_
        intro z9 ez9 f10
        obtain rfl : z9 = 2 := by omega
        refine n_imul c_163_99 rfl ?_
        refine n_aload_n c_163_100 rfl ?_
        refine n_getR c_163_101 sc_112.n rfl rfl rfl r_112_6 ?_
        refine n_bipush c_163_104 rfl ?_
        refine n_iload_n c_163_106 rfl ?_
        refine n_imul c_163_107 rfl ?_
        refine n_iload c_163_108 rfl ?_
        refine n_iadd c_163_110 rfl ?_
        refine n_ialoadV c_163_111 sc_117.n rfl rfl rfl (by omega) (t_117 hS (by omega)) ?_
        intro z11 ez11 f12
        refine n_iadd c_163_112 rfl ?_
        refine n_istore (L2 := [some (2, 112), some (0, a), some (0, 4), some (0, x), some (0, y), some (0, w), some (0, s), some (0, z1), some (0, ((0 * 2) + z11)), some (0, (4 - 1)), some (0, z5)]) c_163_113 rfl rfl ?_
        refine n_iinc (L2 := [some (2, 112), some (0, a), some (0, 4), some (0, x), some (0, y), some (0, w), some (0, s), some (0, z1), some (0, ((0 * 2) + z11)), some (0, ((4 - 1) + (-1))), some (0, z5)]) c_163_115 rfl rfl rfl ?_
        refine n_goto c_163_118 ?_
        refine n_iload c_163_16 rfl ?_
        refine n_if0_lt c_163_18 (by omega) ?_ ?_
        · intro h13
          exfalso; omega
        · intro h14
          refine n_aload_n c_163_21 rfl ?_
          refine n_getR c_163_22 sc_112.n rfl rfl rfl r_112_18 ?_
          refine n_bipush c_163_25 rfl ?_
          refine n_iload_n c_163_27 rfl ?_
          refine n_imul c_163_28 rfl ?_
          refine n_iload c_163_29 rfl ?_
          refine n_iadd c_163_31 rfl ?_
          refine n_ialoadV c_163_32 sc_126.n rfl rfl rfl (by omega) (t_126 hS (by omega)) ?_
          intro z15 ez15 f16
          refine n_istore (L2 := [some (2, 112), some (0, a), some (0, 4), some (0, x), some (0, y), some (0, w), some (0, s), some (0, z1), some (0, ((0 * 2) + z11)), some (0, ((4 - 1) + (-1))), some (0, z15)]) c_163_33 rfl rfl ?_
          refine n_iload c_163_35 rfl ?_
          refine n_iconst c_163_37 ?_
          refine n_if2_le c_163_38 (by omega) (by omega) ?_ ?_
          · intro h17
            refine n_iload c_163_64 rfl ?_
            refine n_iconst c_163_66 ?_
            refine n_if2_le c_163_67 (by omega) (by omega) ?_ ?_
            · intro h18
              refine n_iload c_163_93 rfl ?_
              refine n_aload_n c_163_95 rfl ?_
              refine n_getV (bi := 0) c_163_96 sc_112.n rfl rfl rfl (t_dm hS hdm) ?_
              intro z19 ez19 f20
              obtain rfl : z19 = 2 := by omega
              refine n_imul c_163_99 rfl ?_
              refine n_aload_n c_163_100 rfl ?_
              refine n_getR c_163_101 sc_112.n rfl rfl rfl r_112_6 ?_
              refine n_bipush c_163_104 rfl ?_
              refine n_iload_n c_163_106 rfl ?_
              refine n_imul c_163_107 rfl ?_
              refine n_iload c_163_108 rfl ?_
              refine n_iadd c_163_110 rfl ?_
              refine n_ialoadV c_163_111 sc_117.n rfl rfl rfl (by omega) (t_117 hS (by omega)) ?_
              intro z21 ez21 f22
              refine n_iadd c_163_112 rfl ?_
              refine n_istore (L2 := [some (2, 112), some (0, a), some (0, 4), some (0, x), some (0, y), some (0, w), some (0, s), some (0, z1), some (0, ((((0 * 2) + z11) * 2) + z21)), some (0, ((4 - 1) + (-1))), some (0, z15)]) c_163_113 rfl rfl ?_
              refine n_iinc (L2 := [some (2, 112), some (0, a), some (0, 4), some (0, x), some (0, y), some (0, w), some (0, s), some (0, z1), some (0, ((((0 * 2) + z11) * 2) + z21)), some (0, (((4 - 1) + (-1)) + (-1))), some (0, z15)]) c_163_115 rfl rfl rfl ?_
              refine n_goto c_163_118 ?_
              refine n_iload c_163_16 rfl ?_
              refine n_if0_lt c_163_18 (by omega) ?_ ?_
              · intro h23
                exfalso; omega
              · intro h24
                refine n_aload_n c_163_21 rfl ?_
                refine n_getR c_163_22 sc_112.n rfl rfl rfl r_112_18 ?_
                refine n_bipush c_163_25 rfl ?_
                refine n_iload_n c_163_27 rfl ?_
                refine n_imul c_163_28 rfl ?_
                refine n_iload c_163_29 rfl ?_
                refine n_iadd c_163_31 rfl ?_
                refine n_ialoadV c_163_32 sc_126.n rfl rfl rfl (by omega) (t_126 hS (by omega)) ?_
                intro z25 ez25 f26
                refine n_istore (L2 := [some (2, 112), some (0, a), some (0, 4), some (0, x), some (0, y), some (0, w), some (0, s), some (0, z1), some (0, ((((0 * 2) + z11) * 2) + z21)), some (0, (((4 - 1) + (-1)) + (-1))), some (0, z25)]) c_163_33 rfl rfl ?_
                refine n_iload c_163_35 rfl ?_
                refine n_iconst c_163_37 ?_
                refine n_if2_le c_163_38 (by omega) (by omega) ?_ ?_
                · intro h27
                  refine n_iload c_163_64 rfl ?_
                  refine n_iconst c_163_66 ?_
                  refine n_if2_le c_163_67 (by omega) (by omega) ?_ ?_
                  · intro h28
                    refine n_iload c_163_93 rfl ?_
                    refine n_aload_n c_163_95 rfl ?_
                    refine n_getV (bi := 0) c_163_96 sc_112.n rfl rfl rfl (t_dm hS hdm) ?_
                    intro z29 ez29 f30
                    obtain rfl : z29 = 2 := by omega
                    refine n_imul c_163_99 rfl ?_
                    refine n_aload_n c_163_100 rfl ?_
                    refine n_getR c_163_101 sc_112.n rfl rfl rfl r_112_6 ?_
                    refine n_bipush c_163_104 rfl ?_
                    refine n_iload_n c_163_106 rfl ?_
                    refine n_imul c_163_107 rfl ?_
                    refine n_iload c_163_108 rfl ?_
                    refine n_iadd c_163_110 rfl ?_
                    refine n_ialoadV c_163_111 sc_117.n rfl rfl rfl (by omega) (t_117 hS (by omega)) ?_
                    intro z31 ez31 f32
                    refine n_iadd c_163_112 rfl ?_
                    refine n_istore (L2 := [some (2, 112), some (0, a), some (0, 4), some (0, x), some (0, y), some (0, w), some (0, s), some (0, z1), some (0, ((((((0 * 2) + z11) * 2) + z21) * 2) + z31)), some (0, (((4 - 1) + (-1)) + (-1))), some (0, z25)]) c_163_113 rfl rfl ?_
                    refine n_iinc (L2 := [some (2, 112), some (0, a), some (0, 4), some (0, x), some (0, y), some (0, w), some (0, s), some (0, z1), some (0, ((((((0 * 2) + z11) * 2) + z21) * 2) + z31)), some (0, ((((4 - 1) + (-1)) + (-1)) + (-1))), some (0, z25)]) c_163_115 rfl rfl rfl ?_
                    refine n_goto c_163_118 ?_
                    refine n_iload c_163_16 rfl ?_
                    refine n_if0_lt c_163_18 (by omega) ?_ ?_
                    · intro h33
                      exfalso; omega
                    · intro h34
                      refine n_aload_n c_163_21 rfl ?_
                      refine n_getR c_163_22 sc_112.n rfl rfl rfl r_112_18 ?_
                      refine n_bipush c_163_25 rfl ?_
                      refine n_iload_n c_163_27 rfl ?_
                      refine n_imul c_163_28 rfl ?_
                      refine n_iload c_163_29 rfl ?_
                      refine n_iadd c_163_31 rfl ?_
                      refine n_ialoadV c_163_32 sc_126.n rfl rfl rfl (by omega) (t_126 hS (by omega)) ?_
                      intro z35 ez35 f36
                      refine n_istore (L2 := [some (2, 112), some (0, a), some (0, 4), some (0, x), some (0, y), some (0, w), some (0, s), some (0, z1), some (0, ((((((0 * 2) + z11) * 2) + z21) * 2) + z31)), some (0, ((((4 - 1) + (-1)) + (-1)) + (-1))), some (0, z35)]) c_163_33 rfl rfl ?_
                      refine n_iload c_163_35 rfl ?_
                      refine n_iconst c_163_37 ?_
                      refine n_if2_le c_163_38 (by omega) (by omega) ?_ ?_
                      · intro h37
                        refine n_iload c_163_64 rfl ?_
                        refine n_iconst c_163_66 ?_
                        refine n_if2_le c_163_67 (by omega) (by omega) ?_ ?_
                        · intro h38
                          refine n_iload c_163_93 rfl ?_
                          refine n_aload_n c_163_95 rfl ?_
                          refine n_getV (bi := 0) c_163_96 sc_112.n rfl rfl rfl (t_dm hS hdm) ?_
                          intro z39 ez39 f40
                          obtain rfl : z39 = 2 := by omega
                          refine n_imul c_163_99 rfl ?_
                          refine n_aload_n c_163_100 rfl ?_
                          refine n_getR c_163_101 sc_112.n rfl rfl rfl r_112_6 ?_
                          refine n_bipush c_163_104 rfl ?_
                          refine n_iload_n c_163_106 rfl ?_
                          refine n_imul c_163_107 rfl ?_
                          refine n_iload c_163_108 rfl ?_
                          refine n_iadd c_163_110 rfl ?_
                          refine n_ialoadV c_163_111 sc_117.n rfl rfl rfl (by omega) (t_117 hS (by omega)) ?_
                          intro z41 ez41 f42
                          refine n_iadd c_163_112 rfl ?_
                          refine n_istore (L2 := [some (2, 112), some (0, a), some (0, 4), some (0, x), some (0, y), some (0, w), some (0, s), some (0, z1), some (0, ((((((((0 * 2) + z11) * 2) + z21) * 2) + z31) * 2) + z41)), some (0, ((((4 - 1) + (-1)) + (-1)) + (-1))), some (0, z35)]) c_163_113 rfl rfl ?_
                          refine n_iinc (L2 := [some (2, 112), some (0, a), some (0, 4), some (0, x), some (0, y), some (0, w), some (0, s), some (0, z1), some (0, ((((((((0 * 2) + z11) * 2) + z21) * 2) + z31) * 2) + z41)), some (0, (((((4 - 1) + (-1)) + (-1)) + (-1)) + (-1))), some (0, z35)]) c_163_115 rfl rfl rfl ?_
                          refine n_goto c_163_118 ?_
                          refine n_iload c_163_16 rfl ?_
                          refine n_if0_lt c_163_18 (by omega) ?_ ?_
                          · intro h43
                            refine n_aload_n c_163_121 rfl ?_
                            refine n_getR c_163_122 sc_112.n rfl rfl rfl r_112_17 ?_
                            refine n_iload c_163_125 rfl ?_
                            refine n_ialoadV c_163_127 sc_125.n rfl rfl rfl (by omega) (t_125 hS (by omega)) ?_
                            intro z44 ez44 f45
                            refine n_if0_eq c_163_128 (by omega) ?_ ?_
                            · intro h46
                              refine n_fg (le_s (le_n (le_n (le_n (le_n (le_n (le_s (le_n (le_s (le_n (le_n le_0))))))))))) ?_
                              exact (mjoined4_2_c hS hdm ha hx hy hw hs 14).1 _ M hS (by omega) (by omega)
                            · intro h47
                              refine n_aload_n c_163_131 rfl ?_
                              refine n_getR c_163_132 sc_112.n rfl rfl rfl r_112_17 ?_
                              refine n_iload c_163_135 rfl ?_
                              refine n_ialoadV c_163_137 sc_125.n rfl rfl rfl (by omega) (t_125 hS (by omega)) ?_
                              intro z48 ez48 f49
                              refine n_iload c_163_138 rfl ?_
                              refine n_iconst c_163_140 ?_
                              refine n_iadd c_163_141 rfl ?_
                              refine n_if2_le c_163_142 (by omega) (by omega) ?_ ?_
                              · intro h50
                                refine n_fg (le_n (le_n (le_n (le_n (le_n (le_n (le_n (le_n (le_n (le_n (le_n le_0))))))))))) ?_
                                exact (mjoined4_2_c hS hdm ha hx hy hw hs 14).2  M hS  (by omega)
                              · intro h51
                                refine n_fg (le_s (le_n (le_n (le_n (le_n (le_n (le_s (le_n (le_s (le_n (le_n le_0))))))))))) ?_
                                exact (mjoined4_2_c hS hdm ha hx hy hw hs 14).1 _ M hS (by omega) (by omega)
                          · intro h52
                            exfalso; omega
                        · intro h53
                          exfalso; omega
                      · intro h54
                        exfalso; omega
                  · intro h55
                    exfalso; omega
                · intro h56
                  exfalso; omega
            · intro h57
              exfalso; omega
          · intro h58
            exfalso; omega
      · intro h59
        exfalso; omega
    · intro h60
      refine n_iload c_163_41 rfl ?_
      refine n_aload_n c_163_43 rfl ?_
      refine n_getV (bi := 0) c_163_44 sc_112.n rfl rfl rfl (t_dm hS hdm) ?_
      intro z61 ez61 f62
      obtain rfl : z61 = 2 := by omega
      refine n_imul c_163_47 rfl ?_
      refine n_aload_n c_163_48 rfl ?_
      refine n_getR c_163_49 sc_112.n rfl rfl rfl r_112_18 ?_
      refine n_bipush c_163_52 rfl ?_
      refine n_iload c_163_54 rfl ?_
      refine n_imul c_163_56 rfl ?_
      refine n_iload c_163_57 rfl ?_
      refine n_iadd c_163_59 rfl ?_
      refine n_ialoadV c_163_60 sc_126.n rfl rfl rfl (by omega) (t_126 hS (by omega)) ?_
      intro z63 ez63 f64
      refine n_iadd c_163_61 rfl ?_
      refine n_istore (L2 := [some (2, 112), some (0, a), some (0, 4), some (0, x), some (0, y), some (0, w), some (0, s), some (0, z1), some (0, 0), some (0, (4 - 1)), some (0, ((z5 * 2) + z63))]) c_163_62 rfl rfl ?_
      refine n_iload c_163_64 rfl ?_
      refine n_iconst c_163_66 ?_
      refine n_if2_le c_163_67 (by omega) (by omega) ?_ ?_
      · intro h65
        refine n_iload c_163_93 rfl ?_
        refine n_aload_n c_163_95 rfl ?_
        refine n_getV (bi := 0) c_163_96 sc_112.n rfl rfl rfl (t_dm hS hdm) ?_
        intro z66 ez66 f67
        obtain rfl : z66 = 2 := by omega
        refine n_imul c_163_99 rfl ?_
        refine n_aload_n c_163_100 rfl ?_
        refine n_getR c_163_101 sc_112.n rfl rfl rfl r_112_6 ?_
        refine n_bipush c_163_104 rfl ?_
        refine n_iload_n c_163_106 rfl ?_
        refine n_imul c_163_107 rfl ?_
        refine n_iload c_163_108 rfl ?_
        refine n_iadd c_163_110 rfl ?_
        refine n_ialoadV c_163_111 sc_117.n rfl rfl rfl (by omega) (t_117 hS (by omega)) ?_
        intro z68 ez68 f69
        refine n_iadd c_163_112 rfl ?_
        refine n_istore (L2 := [some (2, 112), some (0, a), some (0, 4), some (0, x), some (0, y), some (0, w), some (0, s), some (0, z1), some (0, ((0 * 2) + z68)), some (0, (4 - 1)), some (0, ((z5 * 2) + z63))]) c_163_113 rfl rfl ?_
        refine n_iinc (L2 := [some (2, 112), some (0, a), some (0, 4), some (0, x), some (0, y), some (0, w), some (0, s), some (0, z1), some (0, ((0 * 2) + z68)), some (0, ((4 - 1) + (-1))), some (0, ((z5 * 2) + z63))]) c_163_115 rfl rfl rfl ?_
        refine n_goto c_163_118 ?_
        refine n_iload c_163_16 rfl ?_
        refine n_if0_lt c_163_18 (by omega) ?_ ?_
        · intro h70
          exfalso; omega
        · intro h71
          refine n_aload_n c_163_21 rfl ?_
          refine n_getR c_163_22 sc_112.n rfl rfl rfl r_112_18 ?_
          refine n_bipush c_163_25 rfl ?_
          refine n_iload_n c_163_27 rfl ?_
          refine n_imul c_163_28 rfl ?_
          refine n_iload c_163_29 rfl ?_
          refine n_iadd c_163_31 rfl ?_
          refine n_ialoadV c_163_32 sc_126.n rfl rfl rfl (by omega) (t_126 hS (by omega)) ?_
          intro z72 ez72 f73
          refine n_istore (L2 := [some (2, 112), some (0, a), some (0, 4), some (0, x), some (0, y), some (0, w), some (0, s), some (0, z1), some (0, ((0 * 2) + z68)), some (0, ((4 - 1) + (-1))), some (0, z72)]) c_163_33 rfl rfl ?_
          refine n_iload c_163_35 rfl ?_
          refine n_iconst c_163_37 ?_
          refine n_if2_le c_163_38 (by omega) (by omega) ?_ ?_
          · intro h74
            exfalso; omega
          · intro h75
            refine n_iload c_163_41 rfl ?_
            refine n_aload_n c_163_43 rfl ?_
            refine n_getV (bi := 0) c_163_44 sc_112.n rfl rfl rfl (t_dm hS hdm) ?_
            intro z76 ez76 f77
            obtain rfl : z76 = 2 := by omega
            refine n_imul c_163_47 rfl ?_
            refine n_aload_n c_163_48 rfl ?_
            refine n_getR c_163_49 sc_112.n rfl rfl rfl r_112_18 ?_
            refine n_bipush c_163_52 rfl ?_
            refine n_iload c_163_54 rfl ?_
            refine n_imul c_163_56 rfl ?_
            refine n_iload c_163_57 rfl ?_
            refine n_iadd c_163_59 rfl ?_
            refine n_ialoadV c_163_60 sc_126.n rfl rfl rfl (by omega) (t_126 hS (by omega)) ?_
            intro z78 ez78 f79
            refine n_iadd c_163_61 rfl ?_
            refine n_istore (L2 := [some (2, 112), some (0, a), some (0, 4), some (0, x), some (0, y), some (0, w), some (0, s), some (0, z1), some (0, ((0 * 2) + z68)), some (0, ((4 - 1) + (-1))), some (0, ((z72 * 2) + z78))]) c_163_62 rfl rfl ?_
            refine n_iload c_163_64 rfl ?_
            refine n_iconst c_163_66 ?_
            refine n_if2_le c_163_67 (by omega) (by omega) ?_ ?_
            · intro h80
              refine n_iload c_163_93 rfl ?_
              refine n_aload_n c_163_95 rfl ?_
              refine n_getV (bi := 0) c_163_96 sc_112.n rfl rfl rfl (t_dm hS hdm) ?_
              intro z81 ez81 f82
              obtain rfl : z81 = 2 := by omega
              refine n_imul c_163_99 rfl ?_
              refine n_aload_n c_163_100 rfl ?_
              refine n_getR c_163_101 sc_112.n rfl rfl rfl r_112_6 ?_
              refine n_bipush c_163_104 rfl ?_
              refine n_iload_n c_163_106 rfl ?_
              refine n_imul c_163_107 rfl ?_
              refine n_iload c_163_108 rfl ?_
              refine n_iadd c_163_110 rfl ?_
              refine n_ialoadV c_163_111 sc_117.n rfl rfl rfl (by omega) (t_117 hS (by omega)) ?_
              intro z83 ez83 f84
              refine n_iadd c_163_112 rfl ?_
              refine n_istore (L2 := [some (2, 112), some (0, a), some (0, 4), some (0, x), some (0, y), some (0, w), some (0, s), some (0, z1), some (0, ((((0 * 2) + z68) * 2) + z83)), some (0, ((4 - 1) + (-1))), some (0, ((z72 * 2) + z78))]) c_163_113 rfl rfl ?_
              refine n_iinc (L2 := [some (2, 112), some (0, a), some (0, 4), some (0, x), some (0, y), some (0, w), some (0, s), some (0, z1), some (0, ((((0 * 2) + z68) * 2) + z83)), some (0, (((4 - 1) + (-1)) + (-1))), some (0, ((z72 * 2) + z78))]) c_163_115 rfl rfl rfl ?_
              refine n_goto c_163_118 ?_
              refine n_iload c_163_16 rfl ?_
              refine n_if0_lt c_163_18 (by omega) ?_ ?_
              · intro h85
                exfalso; omega
              · intro h86
                refine n_aload_n c_163_21 rfl ?_
                refine n_getR c_163_22 sc_112.n rfl rfl rfl r_112_18 ?_
                refine n_bipush c_163_25 rfl ?_
                refine n_iload_n c_163_27 rfl ?_
                refine n_imul c_163_28 rfl ?_
                refine n_iload c_163_29 rfl ?_
                refine n_iadd c_163_31 rfl ?_
                refine n_ialoadV c_163_32 sc_126.n rfl rfl rfl (by omega) (t_126 hS (by omega)) ?_
                intro z87 ez87 f88
                refine n_istore (L2 := [some (2, 112), some (0, a), some (0, 4), some (0, x), some (0, y), some (0, w), some (0, s), some (0, z1), some (0, ((((0 * 2) + z68) * 2) + z83)), some (0, (((4 - 1) + (-1)) + (-1))), some (0, z87)]) c_163_33 rfl rfl ?_
                refine n_iload c_163_35 rfl ?_
                refine n_iconst c_163_37 ?_
                refine n_if2_le c_163_38 (by omega) (by omega) ?_ ?_
                · intro h89
                  exfalso; omega
                · intro h90
                  refine n_iload c_163_41 rfl ?_
                  refine n_aload_n c_163_43 rfl ?_
                  refine n_getV (bi := 0) c_163_44 sc_112.n rfl rfl rfl (t_dm hS hdm) ?_
                  intro z91 ez91 f92
                  obtain rfl : z91 = 2 := by omega
                  refine n_imul c_163_47 rfl ?_
                  refine n_aload_n c_163_48 rfl ?_
                  refine n_getR c_163_49 sc_112.n rfl rfl rfl r_112_18 ?_
                  refine n_bipush c_163_52 rfl ?_
                  refine n_iload c_163_54 rfl ?_
                  refine n_imul c_163_56 rfl ?_
                  refine n_iload c_163_57 rfl ?_
                  refine n_iadd c_163_59 rfl ?_
                  refine n_ialoadV c_163_60 sc_126.n rfl rfl rfl (by omega) (t_126 hS (by omega)) ?_
                  intro z93 ez93 f94
                  refine n_iadd c_163_61 rfl ?_
                  refine n_istore (L2 := [some (2, 112), some (0, a), some (0, 4), some (0, x), some (0, y), some (0, w), some (0, s), some (0, z1), some (0, ((((0 * 2) + z68) * 2) + z83)), some (0, (((4 - 1) + (-1)) + (-1))), some (0, ((z87 * 2) + z93))]) c_163_62 rfl rfl ?_
                  refine n_iload c_163_64 rfl ?_
                  refine n_iconst c_163_66 ?_
                  refine n_if2_le c_163_67 (by omega) (by omega) ?_ ?_
                  · intro h95
                    refine n_iload c_163_93 rfl ?_
                    refine n_aload_n c_163_95 rfl ?_
                    refine n_getV (bi := 0) c_163_96 sc_112.n rfl rfl rfl (t_dm hS hdm) ?_
                    intro z96 ez96 f97
                    obtain rfl : z96 = 2 := by omega
                    refine n_imul c_163_99 rfl ?_
                    refine n_aload_n c_163_100 rfl ?_
                    refine n_getR c_163_101 sc_112.n rfl rfl rfl r_112_6 ?_
                    refine n_bipush c_163_104 rfl ?_
                    refine n_iload_n c_163_106 rfl ?_
                    refine n_imul c_163_107 rfl ?_
                    refine n_iload c_163_108 rfl ?_
                    refine n_iadd c_163_110 rfl ?_
                    refine n_ialoadV c_163_111 sc_117.n rfl rfl rfl (by omega) (t_117 hS (by omega)) ?_
                    intro z98 ez98 f99
                    refine n_iadd c_163_112 rfl ?_
                    refine n_istore (L2 := [some (2, 112), some (0, a), some (0, 4), some (0, x), some (0, y), some (0, w), some (0, s), some (0, z1), some (0, ((((((0 * 2) + z68) * 2) + z83) * 2) + z98)), some (0, (((4 - 1) + (-1)) + (-1))), some (0, ((z87 * 2) + z93))]) c_163_113 rfl rfl ?_
                    refine n_iinc (L2 := [some (2, 112), some (0, a), some (0, 4), some (0, x), some (0, y), some (0, w), some (0, s), some (0, z1), some (0, ((((((0 * 2) + z68) * 2) + z83) * 2) + z98)), some (0, ((((4 - 1) + (-1)) + (-1)) + (-1))), some (0, ((z87 * 2) + z93))]) c_163_115 rfl rfl rfl ?_
                    refine n_goto c_163_118 ?_
                    refine n_iload c_163_16 rfl ?_
                    refine n_if0_lt c_163_18 (by omega) ?_ ?_
                    · intro h100
                      exfalso; omega
                    · intro h101
                      refine n_aload_n c_163_21 rfl ?_
                      refine n_getR c_163_22 sc_112.n rfl rfl rfl r_112_18 ?_
                      refine n_bipush c_163_25 rfl ?_
                      refine n_iload_n c_163_27 rfl ?_
                      refine n_imul c_163_28 rfl ?_
                      refine n_iload c_163_29 rfl ?_
                      refine n_iadd c_163_31 rfl ?_
                      refine n_ialoadV c_163_32 sc_126.n rfl rfl rfl (by omega) (t_126 hS (by omega)) ?_
                      intro z102 ez102 f103
                      refine n_istore (L2 := [some (2, 112), some (0, a), some (0, 4), some (0, x), some (0, y), some (0, w), some (0, s), some (0, z1), some (0, ((((((0 * 2) + z68) * 2) + z83) * 2) + z98)), some (0, ((((4 - 1) + (-1)) + (-1)) + (-1))), some (0, z102)]) c_163_33 rfl rfl ?_
                      refine n_iload c_163_35 rfl ?_
                      refine n_iconst c_163_37 ?_
                      refine n_if2_le c_163_38 (by omega) (by omega) ?_ ?_
                      · intro h104
                        exfalso; omega
                      · intro h105
                        refine n_iload c_163_41 rfl ?_
                        refine n_aload_n c_163_43 rfl ?_
                        refine n_getV (bi := 0) c_163_44 sc_112.n rfl rfl rfl (t_dm hS hdm) ?_
                        intro z106 ez106 f107
                        obtain rfl : z106 = 2 := by omega
                        refine n_imul c_163_47 rfl ?_
                        refine n_aload_n c_163_48 rfl ?_
                        refine n_getR c_163_49 sc_112.n rfl rfl rfl r_112_18 ?_
                        refine n_bipush c_163_52 rfl ?_
                        refine n_iload c_163_54 rfl ?_
                        refine n_imul c_163_56 rfl ?_
                        refine n_iload c_163_57 rfl ?_
                        refine n_iadd c_163_59 rfl ?_
                        refine n_ialoadV c_163_60 sc_126.n rfl rfl rfl (by omega) (t_126 hS (by omega)) ?_
                        intro z108 ez108 f109
                        refine n_iadd c_163_61 rfl ?_
                        refine n_istore (L2 := [some (2, 112), some (0, a), some (0, 4), some (0, x), some (0, y), some (0, w), some (0, s), some (0, z1), some (0, ((((((0 * 2) + z68) * 2) + z83) * 2) + z98)), some (0, ((((4 - 1) + (-1)) + (-1)) + (-1))), some (0, ((z102 * 2) + z108))]) c_163_62 rfl rfl ?_
                        refine n_iload c_163_64 rfl ?_
                        refine n_iconst c_163_66 ?_
                        refine n_if2_le c_163_67 (by omega) (by omega) ?_ ?_
                        · intro h110
                          refine n_iload c_163_93 rfl ?_
                          refine n_aload_n c_163_95 rfl ?_
                          refine n_getV (bi := 0) c_163_96 sc_112.n rfl rfl rfl (t_dm hS hdm) ?_
                          intro z111 ez111 f112
                          obtain rfl : z111 = 2 := by omega
                          refine n_imul c_163_99 rfl ?_
                          refine n_aload_n c_163_100 rfl ?_
                          refine n_getR c_163_101 sc_112.n rfl rfl rfl r_112_6 ?_
                          refine n_bipush c_163_104 rfl ?_
                          refine n_iload_n c_163_106 rfl ?_
                          refine n_imul c_163_107 rfl ?_
                          refine n_iload c_163_108 rfl ?_
                          refine n_iadd c_163_110 rfl ?_
                          refine n_ialoadV c_163_111 sc_117.n rfl rfl rfl (by omega) (t_117 hS (by omega)) ?_
                          intro z113 ez113 f114
                          refine n_iadd c_163_112 rfl ?_
                          refine n_istore (L2 := [some (2, 112), some (0, a), some (0, 4), some (0, x), some (0, y), some (0, w), some (0, s), some (0, z1), some (0, ((((((((0 * 2) + z68) * 2) + z83) * 2) + z98) * 2) + z113)), some (0, ((((4 - 1) + (-1)) + (-1)) + (-1))), some (0, ((z102 * 2) + z108))]) c_163_113 rfl rfl ?_
                          refine n_iinc (L2 := [some (2, 112), some (0, a), some (0, 4), some (0, x), some (0, y), some (0, w), some (0, s), some (0, z1), some (0, ((((((((0 * 2) + z68) * 2) + z83) * 2) + z98) * 2) + z113)), some (0, (((((4 - 1) + (-1)) + (-1)) + (-1)) + (-1))), some (0, ((z102 * 2) + z108))]) c_163_115 rfl rfl rfl ?_
                          refine n_goto c_163_118 ?_
                          refine n_iload c_163_16 rfl ?_
                          refine n_if0_lt c_163_18 (by omega) ?_ ?_
                          · intro h115
                            refine n_aload_n c_163_121 rfl ?_
                            refine n_getR c_163_122 sc_112.n rfl rfl rfl r_112_17 ?_
                            refine n_iload c_163_125 rfl ?_
                            refine n_ialoadV c_163_127 sc_125.n rfl rfl rfl (by omega) (t_125 hS (by omega)) ?_
                            intro z116 ez116 f117
                            refine n_if0_eq c_163_128 (by omega) ?_ ?_
                            · intro h118
                              refine n_fg (le_s (le_n (le_n (le_n (le_n (le_n (le_s (le_n (le_s (le_n (le_n le_0))))))))))) ?_
                              exact (mjoined4_2_c hS hdm ha hx hy hw hs 14).1 _ M hS (by omega) (by omega)
                            · intro h119
                              refine n_aload_n c_163_131 rfl ?_
                              refine n_getR c_163_132 sc_112.n rfl rfl rfl r_112_17 ?_
                              refine n_iload c_163_135 rfl ?_
                              refine n_ialoadV c_163_137 sc_125.n rfl rfl rfl (by omega) (t_125 hS (by omega)) ?_
                              intro z120 ez120 f121
                              refine n_iload c_163_138 rfl ?_
                              refine n_iconst c_163_140 ?_
                              refine n_iadd c_163_141 rfl ?_
                              refine n_if2_le c_163_142 (by omega) (by omega) ?_ ?_
                              · intro h122
                                refine n_fg (le_n (le_n (le_n (le_n (le_n (le_n (le_n (le_n (le_n (le_n (le_n le_0))))))))))) ?_
                                exact (mjoined4_2_c hS hdm ha hx hy hw hs 14).2  M hS  (by omega)
                              · intro h123
                                refine n_fg (le_s (le_n (le_n (le_n (le_n (le_n (le_s (le_n (le_s (le_n (le_n le_0))))))))))) ?_
                                exact (mjoined4_2_c hS hdm ha hx hy hw hs 14).1 _ M hS (by omega) (by omega)
                          · intro h124
                            exfalso; omega
                        · intro h125
                          exfalso; omega
                  · intro h126
                    exfalso; omega
            · intro h127
              exfalso; omega
      · intro h128
        refine n_iload c_163_70 rfl ?_
        refine n_aload_n c_163_72 rfl ?_
        refine n_getV (bi := 0) c_163_73 sc_112.n rfl rfl rfl (t_dm hS hdm) ?_
        intro z129 ez129 f130
        obtain rfl : z129 = 2 := by omega
        refine n_imul c_163_76 rfl ?_
        refine n_aload_n c_163_77 rfl ?_
        refine n_getR c_163_78 sc_112.n rfl rfl rfl r_112_18 ?_
        refine n_bipush c_163_81 rfl ?_
        refine n_iload c_163_83 rfl ?_
        refine n_imul c_163_85 rfl ?_
        refine n_iload c_163_86 rfl ?_
        refine n_iadd c_163_88 rfl ?_
        refine n_ialoadV c_163_89 sc_126.n rfl rfl rfl (by omega) (t_126 hS (by omega)) ?_
        intro z131 ez131 f132
        refine n_iadd c_163_90 rfl ?_
        refine n_istore (L2 := [some (2, 112), some (0, a), some (0, 4), some (0, x), some (0, y), some (0, w), some (0, s), some (0, z1), some (0, 0), some (0, (4 - 1)), some (0, ((((z5 * 2) + z63) * 2) + z131))]) c_163_91 rfl rfl ?_
        refine n_iload c_163_93 rfl ?_
        refine n_aload_n c_163_95 rfl ?_
        refine n_getV (bi := 0) c_163_96 sc_112.n rfl rfl rfl (t_dm hS hdm) ?_
        intro z133 ez133 f134
        obtain rfl : z133 = 2 := by omega
        refine n_imul c_163_99 rfl ?_
        refine n_aload_n c_163_100 rfl ?_
        refine n_getR c_163_101 sc_112.n rfl rfl rfl r_112_6 ?_
        refine n_bipush c_163_104 rfl ?_
        refine n_iload_n c_163_106 rfl ?_
        refine n_imul c_163_107 rfl ?_
        refine n_iload c_163_108 rfl ?_
        refine n_iadd c_163_110 rfl ?_
        refine n_ialoadV c_163_111 sc_117.n rfl rfl rfl (by omega) (t_117 hS (by omega)) ?_
        intro z135 ez135 f136
        refine n_iadd c_163_112 rfl ?_
        refine n_istore (L2 := [some (2, 112), some (0, a), some (0, 4), some (0, x), some (0, y), some (0, w), some (0, s), some (0, z1), some (0, ((0 * 2) + z135)), some (0, (4 - 1)), some (0, ((((z5 * 2) + z63) * 2) + z131))]) c_163_113 rfl rfl ?_
        refine n_iinc (L2 := [some (2, 112), some (0, a), some (0, 4), some (0, x), some (0, y), some (0, w), some (0, s), some (0, z1), some (0, ((0 * 2) + z135)), some (0, ((4 - 1) + (-1))), some (0, ((((z5 * 2) + z63) * 2) + z131))]) c_163_115 rfl rfl rfl ?_
        refine n_goto c_163_118 ?_
        refine n_iload c_163_16 rfl ?_
        refine n_if0_lt c_163_18 (by omega) ?_ ?_
        · intro h137
          exfalso; omega
        · intro h138
          refine n_aload_n c_163_21 rfl ?_
          refine n_getR c_163_22 sc_112.n rfl rfl rfl r_112_18 ?_
          refine n_bipush c_163_25 rfl ?_
          refine n_iload_n c_163_27 rfl ?_
          refine n_imul c_163_28 rfl ?_
          refine n_iload c_163_29 rfl ?_
          refine n_iadd c_163_31 rfl ?_
          refine n_ialoadV c_163_32 sc_126.n rfl rfl rfl (by omega) (t_126 hS (by omega)) ?_
          intro z139 ez139 f140
          refine n_istore (L2 := [some (2, 112), some (0, a), some (0, 4), some (0, x), some (0, y), some (0, w), some (0, s), some (0, z1), some (0, ((0 * 2) + z135)), some (0, ((4 - 1) + (-1))), some (0, z139)]) c_163_33 rfl rfl ?_
          refine n_iload c_163_35 rfl ?_
          refine n_iconst c_163_37 ?_
          refine n_if2_le c_163_38 (by omega) (by omega) ?_ ?_
          · intro h141
            exfalso; omega
          · intro h142
            refine n_iload c_163_41 rfl ?_
            refine n_aload_n c_163_43 rfl ?_
            refine n_getV (bi := 0) c_163_44 sc_112.n rfl rfl rfl (t_dm hS hdm) ?_
            intro z143 ez143 f144
            obtain rfl : z143 = 2 := by omega
            refine n_imul c_163_47 rfl ?_
            refine n_aload_n c_163_48 rfl ?_
            refine n_getR c_163_49 sc_112.n rfl rfl rfl r_112_18 ?_
            refine n_bipush c_163_52 rfl ?_
            refine n_iload c_163_54 rfl ?_
            refine n_imul c_163_56 rfl ?_
            refine n_iload c_163_57 rfl ?_
            refine n_iadd c_163_59 rfl ?_
            refine n_ialoadV c_163_60 sc_126.n rfl rfl rfl (by omega) (t_126 hS (by omega)) ?_
            intro z145 ez145 f146
            refine n_iadd c_163_61 rfl ?_
            refine n_istore (L2 := [some (2, 112), some (0, a), some (0, 4), some (0, x), some (0, y), some (0, w), some (0, s), some (0, z1), some (0, ((0 * 2) + z135)), some (0, ((4 - 1) + (-1))), some (0, ((z139 * 2) + z145))]) c_163_62 rfl rfl ?_
            refine n_iload c_163_64 rfl ?_
            refine n_iconst c_163_66 ?_
            refine n_if2_le c_163_67 (by omega) (by omega) ?_ ?_
            · intro h147
              exfalso; omega
            · intro h148
              refine n_iload c_163_70 rfl ?_
              refine n_aload_n c_163_72 rfl ?_
              refine n_getV (bi := 0) c_163_73 sc_112.n rfl rfl rfl (t_dm hS hdm) ?_
              intro z149 ez149 f150
              obtain rfl : z149 = 2 := by omega
              refine n_imul c_163_76 rfl ?_
              refine n_aload_n c_163_77 rfl ?_
              refine n_getR c_163_78 sc_112.n rfl rfl rfl r_112_18 ?_
              refine n_bipush c_163_81 rfl ?_
              refine n_iload c_163_83 rfl ?_
              refine n_imul c_163_85 rfl ?_
              refine n_iload c_163_86 rfl ?_
              refine n_iadd c_163_88 rfl ?_
              refine n_ialoadV c_163_89 sc_126.n rfl rfl rfl (by omega) (t_126 hS (by omega)) ?_
              intro z151 ez151 f152
              refine n_iadd c_163_90 rfl ?_
              refine n_istore (L2 := [some (2, 112), some (0, a), some (0, 4), some (0, x), some (0, y), some (0, w), some (0, s), some (0, z1), some (0, ((0 * 2) + z135)), some (0, ((4 - 1) + (-1))), some (0, ((((z139 * 2) + z145) * 2) + z151))]) c_163_91 rfl rfl ?_
              refine n_iload c_163_93 rfl ?_
              refine n_aload_n c_163_95 rfl ?_
              refine n_getV (bi := 0) c_163_96 sc_112.n rfl rfl rfl (t_dm hS hdm) ?_
              intro z153 ez153 f154
              obtain rfl : z153 = 2 := by omega
              refine n_imul c_163_99 rfl ?_
              refine n_aload_n c_163_100 rfl ?_
              refine n_getR c_163_101 sc_112.n rfl rfl rfl r_112_6 ?_
              refine n_bipush c_163_104 rfl ?_
              refine n_iload_n c_163_106 rfl ?_
              refine n_imul c_163_107 rfl ?_
              refine n_iload c_163_108 rfl ?_
              refine n_iadd c_163_110 rfl ?_
              refine n_ialoadV c_163_111 sc_117.n rfl rfl rfl (by omega) (t_117 hS (by omega)) ?_
              intro z155 ez155 f156
              refine n_iadd c_163_112 rfl ?_
              refine n_istore (L2 := [some (2, 112), some (0, a), some (0, 4), some (0, x), some (0, y), some (0, w), some (0, s), some (0, z1), some (0, ((((0 * 2) + z135) * 2) + z155)), some (0, ((4 - 1) + (-1))), some (0, ((((z139 * 2) + z145) * 2) + z151))]) c_163_113 rfl rfl ?_
              refine n_iinc (L2 := [some (2, 112), some (0, a), some (0, 4), some (0, x), some (0, y), some (0, w), some (0, s), some (0, z1), some (0, ((((0 * 2) + z135) * 2) + z155)), some (0, (((4 - 1) + (-1)) + (-1))), some (0, ((((z139 * 2) + z145) * 2) + z151))]) c_163_115 rfl rfl rfl ?_
              refine n_goto c_163_118 ?_
              refine n_iload c_163_16 rfl ?_
              refine n_if0_lt c_163_18 (by omega) ?_ ?_
              · intro h157
                exfalso; omega
              · intro h158
                refine n_aload_n c_163_21 rfl ?_
                refine n_getR c_163_22 sc_112.n rfl rfl rfl r_112_18 ?_
                refine n_bipush c_163_25 rfl ?_
                refine n_iload_n c_163_27 rfl ?_
                refine n_imul c_163_28 rfl ?_
                refine n_iload c_163_29 rfl ?_
                refine n_iadd c_163_31 rfl ?_
                refine n_ialoadV c_163_32 sc_126.n rfl rfl rfl (by omega) (t_126 hS (by omega)) ?_
                intro z159 ez159 f160
                refine n_istore (L2 := [some (2, 112), some (0, a), some (0, 4), some (0, x), some (0, y), some (0, w), some (0, s), some (0, z1), some (0, ((((0 * 2) + z135) * 2) + z155)), some (0, (((4 - 1) + (-1)) + (-1))), some (0, z159)]) c_163_33 rfl rfl ?_
                refine n_iload c_163_35 rfl ?_
                refine n_iconst c_163_37 ?_
                refine n_if2_le c_163_38 (by omega) (by omega) ?_ ?_
                · intro h161
                  exfalso; omega
                · intro h162
                  refine n_iload c_163_41 rfl ?_
                  refine n_aload_n c_163_43 rfl ?_
                  refine n_getV (bi := 0) c_163_44 sc_112.n rfl rfl rfl (t_dm hS hdm) ?_
                  intro z163 ez163 f164
                  obtain rfl : z163 = 2 := by omega
                  refine n_imul c_163_47 rfl ?_
                  refine n_aload_n c_163_48 rfl ?_
                  refine n_getR c_163_49 sc_112.n rfl rfl rfl r_112_18 ?_
                  refine n_bipush c_163_52 rfl ?_
                  refine n_iload c_163_54 rfl ?_
                  refine n_imul c_163_56 rfl ?_
                  refine n_iload c_163_57 rfl ?_
                  refine n_iadd c_163_59 rfl ?_
                  refine n_ialoadV c_163_60 sc_126.n rfl rfl rfl (by omega) (t_126 hS (by omega)) ?_
                  intro z165 ez165 f166
                  refine n_iadd c_163_61 rfl ?_
                  refine n_istore (L2 := [some (2, 112), some (0, a), some (0, 4), some (0, x), some (0, y), some (0, w), some (0, s), some (0, z1), some (0, ((((0 * 2) + z135) * 2) + z155)), some (0, (((4 - 1) + (-1)) + (-1))), some (0, ((z159 * 2) + z165))]) c_163_62 rfl rfl ?_
                  refine n_iload c_163_64 rfl ?_
                  refine n_iconst c_163_66 ?_
                  refine n_if2_le c_163_67 (by omega) (by omega) ?_ ?_
                  · intro h167
                    exfalso; omega
                  · intro h168
                    refine n_iload c_163_70 rfl ?_
                    refine n_aload_n c_163_72 rfl ?_
                    refine n_getV (bi := 0) c_163_73 sc_112.n rfl rfl rfl (t_dm hS hdm) ?_
                    intro z169 ez169 f170
                    obtain rfl : z169 = 2 := by omega
                    refine n_imul c_163_76 rfl ?_
                    refine n_aload_n c_163_77 rfl ?_
                    refine n_getR c_163_78 sc_112.n rfl rfl rfl r_112_18 ?_
                    refine n_bipush c_163_81 rfl ?_
                    refine n_iload c_163_83 rfl ?_
                    refine n_imul c_163_85 rfl ?_
                    refine n_iload c_163_86 rfl ?_
                    refine n_iadd c_163_88 rfl ?_
                    refine n_ialoadV c_163_89 sc_126.n rfl rfl rfl (by omega) (t_126 hS (by omega)) ?_
                    intro z171 ez171 f172
                    refine n_iadd c_163_90 rfl ?_
                    refine n_istore (L2 := [some (2, 112), some (0, a), some (0, 4), some (0, x), some (0, y), some (0, w), some (0, s), some (0, z1), some (0, ((((0 * 2) + z135) * 2) + z155)), some (0, (((4 - 1) + (-1)) + (-1))), some (0, ((((z159 * 2) + z165) * 2) + z171))]) c_163_91 rfl rfl ?_
                    refine n_iload c_163_93 rfl ?_
                    refine n_aload_n c_163_95 rfl ?_
                    refine n_getV (bi := 0) c_163_96 sc_112.n rfl rfl rfl (t_dm hS hdm) ?_
                    intro z173 ez173 f174
                    obtain rfl : z173 = 2 := by omega
                    refine n_imul c_163_99 rfl ?_
                    refine n_aload_n c_163_100 rfl ?_
                    refine n_getR c_163_101 sc_112.n rfl rfl rfl r_112_6 ?_
                    refine n_bipush c_163_104 rfl ?_
                    refine n_iload_n c_163_106 rfl ?_
                    refine n_imul c_163_107 rfl ?_
                    refine n_iload c_163_108 rfl ?_
                    refine n_iadd c_163_110 rfl ?_
                    refine n_ialoadV c_163_111 sc_117.n rfl rfl rfl (by omega) (t_117 hS (by omega)) ?_
                    intro z175 ez175 f176
                    refine n_iadd c_163_112 rfl ?_
                    refine n_istore (L2 := [some (2, 112), some (0, a), some (0, 4), some (0, x), some (0, y), some (0, w), some (0, s), some (0, z1), some (0, ((((((0 * 2) + z135) * 2) + z155) * 2) + z175)), some (0, (((4 - 1) + (-1)) + (-1))), some (0, ((((z159 * 2) + z165) * 2) + z171))]) c_163_113 rfl rfl ?_
                    refine n_iinc (L2 := [some (2, 112), some (0, a), some (0, 4), some (0, x), some (0, y), some (0, w), some (0, s), some (0, z1), some (0, ((((((0 * 2) + z135) * 2) + z155) * 2) + z175)), some (0, ((((4 - 1) + (-1)) + (-1)) + (-1))), some (0, ((((z159 * 2) + z165) * 2) + z171))]) c_163_115 rfl rfl rfl ?_
                    refine n_goto c_163_118 ?_
                    refine n_iload c_163_16 rfl ?_
                    refine n_if0_lt c_163_18 (by omega) ?_ ?_
                    · intro h177
                      exfalso; omega
                    · intro h178
                      refine n_aload_n c_163_21 rfl ?_
                      refine n_getR c_163_22 sc_112.n rfl rfl rfl r_112_18 ?_
                      refine n_bipush c_163_25 rfl ?_
                      refine n_iload_n c_163_27 rfl ?_
                      refine n_imul c_163_28 rfl ?_
                      refine n_iload c_163_29 rfl ?_
                      refine n_iadd c_163_31 rfl ?_
                      refine n_ialoadV c_163_32 sc_126.n rfl rfl rfl (by omega) (t_126 hS (by omega)) ?_
                      intro z179 ez179 f180
                      refine n_istore (L2 := [some (2, 112), some (0, a), some (0, 4), some (0, x), some (0, y), some (0, w), some (0, s), some (0, z1), some (0, ((((((0 * 2) + z135) * 2) + z155) * 2) + z175)), some (0, ((((4 - 1) + (-1)) + (-1)) + (-1))), some (0, z179)]) c_163_33 rfl rfl ?_
                      refine n_iload c_163_35 rfl ?_
                      refine n_iconst c_163_37 ?_
                      refine n_if2_le c_163_38 (by omega) (by omega) ?_ ?_
                      · intro h181
                        exfalso; omega
                      · intro h182
                        refine n_iload c_163_41 rfl ?_
                        refine n_aload_n c_163_43 rfl ?_
                        refine n_getV (bi := 0) c_163_44 sc_112.n rfl rfl rfl (t_dm hS hdm) ?_
                        intro z183 ez183 f184
                        obtain rfl : z183 = 2 := by omega
                        refine n_imul c_163_47 rfl ?_
                        refine n_aload_n c_163_48 rfl ?_
                        refine n_getR c_163_49 sc_112.n rfl rfl rfl r_112_18 ?_
                        refine n_bipush c_163_52 rfl ?_
                        refine n_iload c_163_54 rfl ?_
                        refine n_imul c_163_56 rfl ?_
                        refine n_iload c_163_57 rfl ?_
                        refine n_iadd c_163_59 rfl ?_
                        refine n_ialoadV c_163_60 sc_126.n rfl rfl rfl (by omega) (t_126 hS (by omega)) ?_
                        intro z185 ez185 f186
                        refine n_iadd c_163_61 rfl ?_
                        refine n_istore (L2 := [some (2, 112), some (0, a), some (0, 4), some (0, x), some (0, y), some (0, w), some (0, s), some (0, z1), some (0, ((((((0 * 2) + z135) * 2) + z155) * 2) + z175)), some (0, ((((4 - 1) + (-1)) + (-1)) + (-1))), some (0, ((z179 * 2) + z185))]) c_163_62 rfl rfl ?_
                        refine n_iload c_163_64 rfl ?_
                        refine n_iconst c_163_66 ?_
                        refine n_if2_le c_163_67 (by omega) (by omega) ?_ ?_
                        · intro h187
                          exfalso; omega
                        · intro h188
                          refine n_iload c_163_70 rfl ?_
                          refine n_aload_n c_163_72 rfl ?_
                          refine n_getV (bi := 0) c_163_73 sc_112.n rfl rfl rfl (t_dm hS hdm) ?_
                          intro z189 ez189 f190
                          obtain rfl : z189 = 2 := by omega
                          refine n_imul c_163_76 rfl ?_
                          refine n_aload_n c_163_77 rfl ?_
                          refine n_getR c_163_78 sc_112.n rfl rfl rfl r_112_18 ?_
                          refine n_bipush c_163_81 rfl ?_
                          refine n_iload c_163_83 rfl ?_
                          refine n_imul c_163_85 rfl ?_
                          refine n_iload c_163_86 rfl ?_
                          refine n_iadd c_163_88 rfl ?_
                          refine n_ialoadV c_163_89 sc_126.n rfl rfl rfl (by omega) (t_126 hS (by omega)) ?_
                          intro z191 ez191 f192
                          refine n_iadd c_163_90 rfl ?_
                          refine n_istore (L2 := [some (2, 112), some (0, a), some (0, 4), some (0, x), some (0, y), some (0, w), some (0, s), some (0, z1), some (0, ((((((0 * 2) + z135) * 2) + z155) * 2) + z175)), some (0, ((((4 - 1) + (-1)) + (-1)) + (-1))), some (0, ((((z179 * 2) + z185) * 2) + z191))]) c_163_91 rfl rfl ?_
                          refine n_iload c_163_93 rfl ?_
                          refine n_aload_n c_163_95 rfl ?_
                          refine n_getV (bi := 0) c_163_96 sc_112.n rfl rfl rfl (t_dm hS hdm) ?_
                          intro z193 ez193 f194
                          obtain rfl : z193 = 2 := by omega
                          refine n_imul c_163_99 rfl ?_
                          refine n_aload_n c_163_100 rfl ?_
                          refine n_getR c_163_101 sc_112.n rfl rfl rfl r_112_6 ?_
                          refine n_bipush c_163_104 rfl ?_
                          refine n_iload_n c_163_106 rfl ?_
                          refine n_imul c_163_107 rfl ?_
                          refine n_iload c_163_108 rfl ?_
                          refine n_iadd c_163_110 rfl ?_
                          refine n_ialoadV c_163_111 sc_117.n rfl rfl rfl (by omega) (t_117 hS (by omega)) ?_
                          intro z195 ez195 f196
                          refine n_iadd c_163_112 rfl ?_
                          refine n_istore (L2 := [some (2, 112), some (0, a), some (0, 4), some (0, x), some (0, y), some (0, w), some (0, s), some (0, z1), some (0, ((((((((0 * 2) + z135) * 2) + z155) * 2) + z175) * 2) + z195)), some (0, ((((4 - 1) + (-1)) + (-1)) + (-1))), some (0, ((((z179 * 2) + z185) * 2) + z191))]) c_163_113 rfl rfl ?_
                          refine n_iinc (L2 := [some (2, 112), some (0, a), some (0, 4), some (0, x), some (0, y), some (0, w), some (0, s), some (0, z1), some (0, ((((((((0 * 2) + z135) * 2) + z155) * 2) + z175) * 2) + z195)), some (0, (((((4 - 1) + (-1)) + (-1)) + (-1)) + (-1))), some (0, ((((z179 * 2) + z185) * 2) + z191))]) c_163_115 rfl rfl rfl ?_
                          refine n_goto c_163_118 ?_
                          refine n_iload c_163_16 rfl ?_
                          refine n_if0_lt c_163_18 (by omega) ?_ ?_
                          · intro h197
                            refine n_aload_n c_163_121 rfl ?_
                            refine n_getR c_163_122 sc_112.n rfl rfl rfl r_112_17 ?_
                            refine n_iload c_163_125 rfl ?_
                            refine n_ialoadV c_163_127 sc_125.n rfl rfl rfl (by omega) (t_125 hS (by omega)) ?_
                            intro z198 ez198 f199
                            refine n_if0_eq c_163_128 (by omega) ?_ ?_
                            · intro h200
                              refine n_fg (le_s (le_n (le_n (le_n (le_n (le_n (le_s (le_n (le_s (le_n (le_n le_0))))))))))) ?_
                              exact (mjoined4_2_c hS hdm ha hx hy hw hs 14).1 _ M hS (by omega) (by omega)
                            · intro h201
                              refine n_aload_n c_163_131 rfl ?_
                              refine n_getR c_163_132 sc_112.n rfl rfl rfl r_112_17 ?_
                              refine n_iload c_163_135 rfl ?_
                              refine n_ialoadV c_163_137 sc_125.n rfl rfl rfl (by omega) (t_125 hS (by omega)) ?_
                              intro z202 ez202 f203
                              refine n_iload c_163_138 rfl ?_
                              refine n_iconst c_163_140 ?_
                              refine n_iadd c_163_141 rfl ?_
                              refine n_if2_le c_163_142 (by omega) (by omega) ?_ ?_
                              · intro h204
                                refine n_fg (le_n (le_n (le_n (le_n (le_n (le_n (le_n (le_n (le_n (le_n (le_n le_0))))))))))) ?_
                                exact (mjoined4_2_c hS hdm ha hx hy hw hs 14).2  M hS  (by omega)
                              · intro h205
                                refine n_fg (le_s (le_n (le_n (le_n (le_n (le_n (le_s (le_n (le_s (le_n (le_n le_0))))))))))) ?_
                                exact (mjoined4_2_c hS hdm ha hx hy hw hs 14).1 _ M hS (by omega) (by omega)
                          · intro h206
                            exfalso; omega

set_option maxHeartbeats 4000000 in
theorem mjoined8_2_c {xs : List Int32} {e : Nat} {ac : Int} {M0 M : nM} {a x y w s : Int} (hS : Sf 2 ac M0 M) (hdm : M0 112 0 = 2) (ha : 0 ≤ a ∧ a ≤ 7) (hx : 0 ≤ x ∧ x ≤ 256) (hy : 0 ≤ y ∧ y ≤ 256) (hw : 0 ≤ w ∧ w ≤ 256) (hs : 0 ≤ s ∧ s ≤ 1000000) : ∀ nn : Nat, (∀ (x8 : Int) (M : nM), Sf 2 ac M0 M → (0 ≤ x8 ∧ x8 ≤ 510) → 2 < (nn : Int) → nW xs e 163 145 [some (2, 112), none, none, none, none, none, some (0, s), none, some (0, x8), none, none] [] M (nPV fun M1 => Sf 2 ac M0 M1)) ∧ (∀ (M : nM), Sf 2 ac M0 M → 1 < (nn : Int) → nW xs e 163 156 [none, none, none, none, none, none, none, none, none, none, none] [] M (nPV fun M1 => Sf 2 ac M0 M1)) := by
  have hd : (2 : Int) = 2 ∨ (2 : Int) = 3 := by decide
  have hac := hS.2.2.2.2
  intro nn
  induction nn with
  | zero => refine ⟨?_, ?_⟩ <;> (intros; omega)
  | succ nn ih =>
    refine ⟨?_, ?_⟩
    · intro x8 M hS k8 hnn
      refine n_aload_n c_163_145 rfl ?_
      refine n_getR c_163_146 sc_112.n rfl rfl rfl r_112_17 ?_
      refine n_iload c_163_149 rfl ?_
      refine n_iload c_163_151 rfl ?_
      refine n_iconst c_163_153 ?_
      refine n_iadd c_163_154 rfl ?_
      refine n_iastoreV hS c_163_155 sc_125.n rfl (by omega) (w_125 (by omega) (by omega)) ?_
      intro M1 eM1 hS1
      have g1_0 : M1 125 x8 = (s + 1) := by rw [eM1]; exact nu_s _ _ _ _
      refine n_fg (le_n (le_n (le_n (le_n (le_n (le_n (le_n (le_n (le_n (le_n (le_n le_0))))))))))) ?_
      exact ih.2  M1 hS1  (by omega)
    · intro M hS hnn
      exact n_rV c_163_156 rfl hS
set_option maxHeartbeats 4000000 in
theorem mjoined8_2 {xs : List Int32} {e : Nat} {ac : Int} {M0 M : nM} {a x y w s : Int} (hS : Sf 2 ac M0 M) (hdm : M0 112 0 = 2) (ha : 0 ≤ a ∧ a ≤ 7) (hx : 0 ≤ x ∧ x ≤ 256) (hy : 0 ≤ y ∧ y ≤ 256) (hw : 0 ≤ w ∧ w ≤ 256) (hs : 0 ≤ s ∧ s ≤ 1000000) : nW xs e 163 0 [some (2, 112), some (0, a), some (0, 8), some (0, x), some (0, y), some (0, w), some (0, s), none, none, none, none] [] M (nPV fun M1 => Sf 2 ac M0 M1) := by
  have hd : (2 : Int) = 2 ∨ (2 : Int) = 3 := by decide
  have hac := hS.2.2.2.2
  refine n_aload_n c_163_0 rfl ?_
  refine n_getR c_163_1 sc_112.n rfl rfl rfl r_112_5 ?_
  refine n_iload_n c_163_4 rfl ?_
  refine n_ialoadV c_163_5 sc_116.n rfl rfl rfl (by omega) (t_116 hS (by omega)) ?_
  intro z1 ez1 f2
  refine n_istore (L2 := [some (2, 112), some (0, a), some (0, 8), some (0, x), some (0, y), some (0, w), some (0, s), some (0, z1), none, none, none]) c_163_6 rfl rfl ?_
  refine n_iconst c_163_8 ?_
  refine n_istore (L2 := [some (2, 112), some (0, a), some (0, 8), some (0, x), some (0, y), some (0, w), some (0, s), some (0, z1), some (0, 0), none, none]) c_163_9 rfl rfl ?_
  refine n_iload_n c_163_11 rfl ?_
  refine n_iconst c_163_12 ?_
  refine n_isub c_163_13 rfl ?_
  refine n_istore (L2 := [some (2, 112), some (0, a), some (0, 8), some (0, x), some (0, y), some (0, w), some (0, s), some (0, z1), some (0, 0), some (0, (8 - 1)), none]) c_163_14 rfl rfl ?_
  refine n_iload c_163_16 rfl ?_
  refine n_if0_lt c_163_18 (by omega) ?_ ?_
  · intro h3
    exfalso; omega
  · intro h4
    refine n_aload_n c_163_21 rfl ?_
    refine n_getR c_163_22 sc_112.n rfl rfl rfl r_112_18 ?_
    refine n_bipush c_163_25 rfl ?_
    refine n_iload_n c_163_27 rfl ?_
    refine n_imul c_163_28 rfl ?_
    refine n_iload c_163_29 rfl ?_
    refine n_iadd c_163_31 rfl ?_
    refine n_ialoadV c_163_32 sc_126.n rfl rfl rfl (by omega) (t_126 hS (by omega)) ?_
    intro z5 ez5 f6
    refine n_istore (L2 := [some (2, 112), some (0, a), some (0, 8), some (0, x), some (0, y), some (0, w), some (0, s), some (0, z1), some (0, 0), some (0, (8 - 1)), some (0, z5)]) c_163_33 rfl rfl ?_
    refine n_iload c_163_35 rfl ?_
    refine n_iconst c_163_37 ?_
    refine n_if2_le c_163_38 (by omega) (by omega) ?_ ?_
    · intro h7
      refine n_iload c_163_64 rfl ?_
      refine n_iconst c_163_66 ?_
      refine n_if2_le c_163_67 (by omega) (by omega) ?_ ?_
      · intro h8
        refine n_iload c_163_93 rfl ?_
        refine n_aload_n c_163_95 rfl ?_
        refine n_getV (bi := 0) c_163_96 sc_112.n rfl rfl rfl (t_dm hS hdm) ?_
        intro z9 ez9 f10
        obtain rfl : z9 = 2 := by omega
        refine n_imul c_163_99 rfl ?_
        refine n_aload_n c_163_100 rfl ?_
        refine n_getR c_163_101 sc_112.n rfl rfl rfl r_112_6 ?_
        refine n_bipush c_163_104 rfl ?_
        refine n_iload_n c_163_106 rfl ?_
        refine n_imul c_163_107 rfl ?_
        refine n_iload c_163_108 rfl ?_
        refine n_iadd c_163_110 rfl ?_
        refine n_ialoadV c_163_111 sc_117.n rfl rfl rfl (by omega) (t_117 hS (by omega)) ?_
        intro z11 ez11 f12
        refine n_iadd c_163_112 rfl ?_
        refine n_istore (L2 := [some (2, 112), some (0, a), some (0, 8), some (0, x), some (0, y), some (0, w), some (0, s), some (0, z1), some (0, ((0 * 2) + z11)), some (0, (8 - 1)), some (0, z5)]) c_163_113 rfl rfl ?_
        refine n_iinc (L2 := [some (2, 112), some (0, a), some (0, 8), some (0, x), some (0, y), some (0, w), some (0, s), some (0, z1), some (0, ((0 * 2) + z11)), some (0, ((8 - 1) + (-1))), some (0, z5)]) c_163_115 rfl rfl rfl ?_
        refine n_goto c_163_118 ?_
        refine n_iload c_163_16 rfl ?_
        refine n_if0_lt c_163_18 (by omega) ?_ ?_
        · intro h13
          exfalso; omega
        · intro h14
          refine n_aload_n c_163_21 rfl ?_
          refine n_getR c_163_22 sc_112.n rfl rfl rfl r_112_18 ?_
          refine n_bipush c_163_25 rfl ?_
          refine n_iload_n c_163_27 rfl ?_
          refine n_imul c_163_28 rfl ?_
          refine n_iload c_163_29 rfl ?_
          refine n_iadd c_163_31 rfl ?_
          refine n_ialoadV c_163_32 sc_126.n rfl rfl rfl (by omega) (t_126 hS (by omega)) ?_
          intro z15 ez15 f16
          refine n_istore (L2 := [some (2, 112), some (0, a), some (0, 8), some (0, x), some (0, y), some (0, w), some (0, s), some (0, z1), some (0, ((0 * 2) + z11)), some (0, ((8 - 1) + (-1))), some (0, z15)]) c_163_33 rfl rfl ?_
          refine n_iload c_163_35 rfl ?_
          refine n_iconst c_163_37 ?_
          refine n_if2_le c_163_38 (by omega) (by omega) ?_ ?_
          · intro h17
            refine n_iload c_163_64 rfl ?_
            refine n_iconst c_163_66 ?_
            refine n_if2_le c_163_67 (by omega) (by omega) ?_ ?_
            · intro h18
              refine n_iload c_163_93 rfl ?_
              refine n_aload_n c_163_95 rfl ?_
              refine n_getV (bi := 0) c_163_96 sc_112.n rfl rfl rfl (t_dm hS hdm) ?_
              intro z19 ez19 f20
              obtain rfl : z19 = 2 := by omega
              refine n_imul c_163_99 rfl ?_
              refine n_aload_n c_163_100 rfl ?_
              refine n_getR c_163_101 sc_112.n rfl rfl rfl r_112_6 ?_
              refine n_bipush c_163_104 rfl ?_
              refine n_iload_n c_163_106 rfl ?_
              refine n_imul c_163_107 rfl ?_
              refine n_iload c_163_108 rfl ?_
              refine n_iadd c_163_110 rfl ?_
              refine n_ialoadV c_163_111 sc_117.n rfl rfl rfl (by omega) (t_117 hS (by omega)) ?_
              intro z21 ez21 f22
              refine n_iadd c_163_112 rfl ?_
              refine n_istore (L2 := [some (2, 112), some (0, a), some (0, 8), some (0, x), some (0, y), some (0, w), some (0, s), some (0, z1), some (0, ((((0 * 2) + z11) * 2) + z21)), some (0, ((8 - 1) + (-1))), some (0, z15)]) c_163_113 rfl rfl ?_
              refine n_iinc (L2 := [some (2, 112), some (0, a), some (0, 8), some (0, x), some (0, y), some (0, w), some (0, s), some (0, z1), some (0, ((((0 * 2) + z11) * 2) + z21)), some (0, (((8 - 1) + (-1)) + (-1))), some (0, z15)]) c_163_115 rfl rfl rfl ?_
              refine n_goto c_163_118 ?_
              refine n_iload c_163_16 rfl ?_
              refine n_if0_lt c_163_18 (by omega) ?_ ?_
              · intro h23
                exfalso; omega
              · intro h24
                refine n_aload_n c_163_21 rfl ?_
                refine n_getR c_163_22 sc_112.n rfl rfl rfl r_112_18 ?_
                refine n_bipush c_163_25 rfl ?_
                refine n_iload_n c_163_27 rfl ?_
                refine n_imul c_163_28 rfl ?_
                refine n_iload c_163_29 rfl ?_
                refine n_iadd c_163_31 rfl ?_
                refine n_ialoadV c_163_32 sc_126.n rfl rfl rfl (by omega) (t_126 hS (by omega)) ?_
                intro z25 ez25 f26
                refine n_istore (L2 := [some (2, 112), some (0, a), some (0, 8), some (0, x), some (0, y), some (0, w), some (0, s), some (0, z1), some (0, ((((0 * 2) + z11) * 2) + z21)), some (0, (((8 - 1) + (-1)) + (-1))), some (0, z25)]) c_163_33 rfl rfl ?_
                refine n_iload c_163_35 rfl ?_
                refine n_iconst c_163_37 ?_
                refine n_if2_le c_163_38 (by omega) (by omega) ?_ ?_
                · intro h27
                  refine n_iload c_163_64 rfl ?_
                  refine n_iconst c_163_66 ?_
                  refine n_if2_le c_163_67 (by omega) (by omega) ?_ ?_
                  · intro h28
                    refine n_iload c_163_93 rfl ?_
                    refine n_aload_n c_163_95 rfl ?_
                    refine n_getV (bi := 0) c_163_96 sc_112.n rfl rfl rfl (t_dm hS hdm) ?_
                    intro z29 ez29 f30
                    obtain rfl : z29 = 2 := by omega
                    refine n_imul c_163_99 rfl ?_
                    refine n_aload_n c_163_100 rfl ?_
                    refine n_getR c_163_101 sc_112.n rfl rfl rfl r_112_6 ?_
                    refine n_bipush c_163_104 rfl ?_
                    refine n_iload_n c_163_106 rfl ?_
                    refine n_imul c_163_107 rfl ?_
                    refine n_iload c_163_108 rfl ?_
                    refine n_iadd c_163_110 rfl ?_
                    refine n_ialoadV c_163_111 sc_117.n rfl rfl rfl (by omega) (t_117 hS (by omega)) ?_
                    intro z31 ez31 f32
                    refine n_iadd c_163_112 rfl ?_
                    refine n_istore (L2 := [some (2, 112), some (0, a), some (0, 8), some (0, x), some (0, y), some (0, w), some (0, s), some (0, z1), some (0, ((((((0 * 2) + z11) * 2) + z21) * 2) + z31)), some (0, (((8 - 1) + (-1)) + (-1))), some (0, z25)]) c_163_113 rfl rfl ?_
                    refine n_iinc (L2 := [some (2, 112), some (0, a), some (0, 8), some (0, x), some (0, y), some (0, w), some (0, s), some (0, z1), some (0, ((((((0 * 2) + z11) * 2) + z21) * 2) + z31)), some (0, ((((8 - 1) + (-1)) + (-1)) + (-1))), some (0, z25)]) c_163_115 rfl rfl rfl ?_
                    refine n_goto c_163_118 ?_
                    refine n_iload c_163_16 rfl ?_
                    refine n_if0_lt c_163_18 (by omega) ?_ ?_
                    · intro h33
                      exfalso; omega
                    · intro h34
                      refine n_aload_n c_163_21 rfl ?_
                      refine n_getR c_163_22 sc_112.n rfl rfl rfl r_112_18 ?_
                      refine n_bipush c_163_25 rfl ?_
                      refine n_iload_n c_163_27 rfl ?_
                      refine n_imul c_163_28 rfl ?_
                      refine n_iload c_163_29 rfl ?_
                      refine n_iadd c_163_31 rfl ?_
                      refine n_ialoadV c_163_32 sc_126.n rfl rfl rfl (by omega) (t_126 hS (by omega)) ?_
                      intro z35 ez35 f36
                      refine n_istore (L2 := [some (2, 112), some (0, a), some (0, 8), some (0, x), some (0, y), some (0, w), some (0, s), some (0, z1), some (0, ((((((0 * 2) + z11) * 2) + z21) * 2) + z31)), some (0, ((((8 - 1) + (-1)) + (-1)) + (-1))), some (0, z35)]) c_163_33 rfl rfl ?_
                      refine n_iload c_163_35 rfl ?_
                      refine n_iconst c_163_37 ?_
                      refine n_if2_le c_163_38 (by omega) (by omega) ?_ ?_
                      · intro h37
                        refine n_iload c_163_64 rfl ?_
                        refine n_iconst c_163_66 ?_
                        refine n_if2_le c_163_67 (by omega) (by omega) ?_ ?_
                        · intro h38
                          refine n_iload c_163_93 rfl ?_
                          refine n_aload_n c_163_95 rfl ?_
                          refine n_getV (bi := 0) c_163_96 sc_112.n rfl rfl rfl (t_dm hS hdm) ?_
                          intro z39 ez39 f40
                          obtain rfl : z39 = 2 := by omega
                          refine n_imul c_163_99 rfl ?_
                          refine n_aload_n c_163_100 rfl ?_
                          refine n_getR c_163_101 sc_112.n rfl rfl rfl r_112_6 ?_
                          refine n_bipush c_163_104 rfl ?_
                          refine n_iload_n c_163_106 rfl ?_
                          refine n_imul c_163_107 rfl ?_
                          refine n_iload c_163_108 rfl ?_
                          refine n_iadd c_163_110 rfl ?_
                          refine n_ialoadV c_163_111 sc_117.n rfl rfl rfl (by omega) (t_117 hS (by omega)) ?_
                          intro z41 ez41 f42
                          refine n_iadd c_163_112 rfl ?_
                          refine n_istore (L2 := [some (2, 112), some (0, a), some (0, 8), some (0, x), some (0, y), some (0, w), some (0, s), some (0, z1), some (0, ((((((((0 * 2) + z11) * 2) + z21) * 2) + z31) * 2) + z41)), some (0, ((((8 - 1) + (-1)) + (-1)) + (-1))), some (0, z35)]) c_163_113 rfl rfl ?_
                          refine n_iinc (L2 := [some (2, 112), some (0, a), some (0, 8), some (0, x), some (0, y), some (0, w), some (0, s), some (0, z1), some (0, ((((((((0 * 2) + z11) * 2) + z21) * 2) + z31) * 2) + z41)), some (0, (((((8 - 1) + (-1)) + (-1)) + (-1)) + (-1))), some (0, z35)]) c_163_115 rfl rfl rfl ?_
                          refine n_goto c_163_118 ?_
                          refine n_iload c_163_16 rfl ?_
                          refine n_if0_lt c_163_18 (by omega) ?_ ?_
                          · intro h43
                            exfalso; omega
                          · intro h44
                            refine n_aload_n c_163_21 rfl ?_
                            refine n_getR c_163_22 sc_112.n rfl rfl rfl r_112_18 ?_
                            refine n_bipush c_163_25 rfl ?_
                            refine n_iload_n c_163_27 rfl ?_
                            refine n_imul c_163_28 rfl ?_
                            refine n_iload c_163_29 rfl ?_
                            refine n_iadd c_163_31 rfl ?_
                            refine n_ialoadV c_163_32 sc_126.n rfl rfl rfl (by omega) (t_126 hS (by omega)) ?_
                            intro z45 ez45 f46
                            refine n_istore (L2 := [some (2, 112), some (0, a), some (0, 8), some (0, x), some (0, y), some (0, w), some (0, s), some (0, z1), some (0, ((((((((0 * 2) + z11) * 2) + z21) * 2) + z31) * 2) + z41)), some (0, (((((8 - 1) + (-1)) + (-1)) + (-1)) + (-1))), some (0, z45)]) c_163_33 rfl rfl ?_
                            refine n_iload c_163_35 rfl ?_
                            refine n_iconst c_163_37 ?_
                            refine n_if2_le c_163_38 (by omega) (by omega) ?_ ?_
                            · intro h47
                              refine n_iload c_163_64 rfl ?_
                              refine n_iconst c_163_66 ?_
                              refine n_if2_le c_163_67 (by omega) (by omega) ?_ ?_
                              · intro h48
                                refine n_iload c_163_93 rfl ?_
                                refine n_aload_n c_163_95 rfl ?_
                                refine n_getV (bi := 0) c_163_96 sc_112.n rfl rfl rfl (t_dm hS hdm) ?_
                                intro z49 ez49 f50
                                obtain rfl : z49 = 2 := by omega
                                refine n_imul c_163_99 rfl ?_
                                refine n_aload_n c_163_100 rfl ?_
                                refine n_getR c_163_101 sc_112.n rfl rfl rfl r_112_6 ?_
                                refine n_bipush c_163_104 rfl ?_
                                refine n_iload_n c_163_106 rfl ?_
                                refine n_imul c_163_107 rfl ?_
                                refine n_iload c_163_108 rfl ?_
                                refine n_iadd c_163_110 rfl ?_
                                refine n_ialoadV c_163_111 sc_117.n rfl rfl rfl (by omega) (t_117 hS (by omega)) ?_
                                intro z51 ez51 f52
                                refine n_iadd c_163_112 rfl ?_
                                refine n_istore (L2 := [some (2, 112), some (0, a), some (0, 8), some (0, x), some (0, y), some (0, w), some (0, s), some (0, z1), some (0, ((((((((((0 * 2) + z11) * 2) + z21) * 2) + z31) * 2) + z41) * 2) + z51)), some (0, (((((8 - 1) + (-1)) + (-1)) + (-1)) + (-1))), some (0, z45)]) c_163_113 rfl rfl ?_
                                refine n_iinc (L2 := [some (2, 112), some (0, a), some (0, 8), some (0, x), some (0, y), some (0, w), some (0, s), some (0, z1), some (0, ((((((((((0 * 2) + z11) * 2) + z21) * 2) + z31) * 2) + z41) * 2) + z51)), some (0, ((((((8 - 1) + (-1)) + (-1)) + (-1)) + (-1)) + (-1))), some (0, z45)]) c_163_115 rfl rfl rfl ?_
                                refine n_goto c_163_118 ?_
                                refine n_iload c_163_16 rfl ?_
                                refine n_if0_lt c_163_18 (by omega) ?_ ?_
                                · intro h53
                                  exfalso; omega
                                · intro h54
                                  refine n_aload_n c_163_21 rfl ?_
                                  refine n_getR c_163_22 sc_112.n rfl rfl rfl r_112_18 ?_
                                  refine n_bipush c_163_25 rfl ?_
                                  refine n_iload_n c_163_27 rfl ?_
                                  refine n_imul c_163_28 rfl ?_
                                  refine n_iload c_163_29 rfl ?_
                                  refine n_iadd c_163_31 rfl ?_
                                  refine n_ialoadV c_163_32 sc_126.n rfl rfl rfl (by omega) (t_126 hS (by omega)) ?_
                                  intro z55 ez55 f56
                                  refine n_istore (L2 := [some (2, 112), some (0, a), some (0, 8), some (0, x), some (0, y), some (0, w), some (0, s), some (0, z1), some (0, ((((((((((0 * 2) + z11) * 2) + z21) * 2) + z31) * 2) + z41) * 2) + z51)), some (0, ((((((8 - 1) + (-1)) + (-1)) + (-1)) + (-1)) + (-1))), some (0, z55)]) c_163_33 rfl rfl ?_
                                  refine n_iload c_163_35 rfl ?_
                                  refine n_iconst c_163_37 ?_
                                  refine n_if2_le c_163_38 (by omega) (by omega) ?_ ?_
                                  · intro h57
                                    refine n_iload c_163_64 rfl ?_
                                    refine n_iconst c_163_66 ?_
                                    refine n_if2_le c_163_67 (by omega) (by omega) ?_ ?_
                                    · intro h58
                                      refine n_iload c_163_93 rfl ?_
                                      refine n_aload_n c_163_95 rfl ?_
                                      refine n_getV (bi := 0) c_163_96 sc_112.n rfl rfl rfl (t_dm hS hdm) ?_
                                      intro z59 ez59 f60
                                      obtain rfl : z59 = 2 := by omega
                                      refine n_imul c_163_99 rfl ?_
                                      refine n_aload_n c_163_100 rfl ?_
                                      refine n_getR c_163_101 sc_112.n rfl rfl rfl r_112_6 ?_
                                      refine n_bipush c_163_104 rfl ?_
                                      refine n_iload_n c_163_106 rfl ?_
                                      refine n_imul c_163_107 rfl ?_
                                      refine n_iload c_163_108 rfl ?_
                                      refine n_iadd c_163_110 rfl ?_
                                      refine n_ialoadV c_163_111 sc_117.n rfl rfl rfl (by omega) (t_117 hS (by omega)) ?_
                                      intro z61 ez61 f62
                                      refine n_iadd c_163_112 rfl ?_
                                      refine n_istore (L2 := [some (2, 112), some (0, a), some (0, 8), some (0, x), some (0, y), some (0, w), some (0, s), some (0, z1), some (0, ((((((((((((0 * 2) + z11) * 2) + z21) * 2) + z31) * 2) + z41) * 2) + z51) * 2) + z61)), some (0, ((((((8 - 1) + (-1)) + (-1)) + (-1)) + (-1)) + (-1))), some (0, z55)]) c_163_113 rfl rfl ?_
                                      refine n_iinc (L2 := [some (2, 112), some (0, a), some (0, 8), some (0, x), some (0, y), some (0, w), some (0, s), some (0, z1), some (0, ((((((((((((0 * 2) + z11) * 2) + z21) * 2) + z31) * 2) + z41) * 2) + z51) * 2) + z61)), some (0, (((((((8 - 1) + (-1)) + (-1)) + (-1)) + (-1)) + (-1)) + (-1))), some (0, z55)]) c_163_115 rfl rfl rfl ?_
                                      refine n_goto c_163_118 ?_
                                      refine n_iload c_163_16 rfl ?_
                                      refine n_if0_lt c_163_18 (by omega) ?_ ?_
                                      · intro h63
                                        exfalso; omega
                                      · intro h64
                                        refine n_aload_n c_163_21 rfl ?_
                                        refine n_getR c_163_22 sc_112.n rfl rfl rfl r_112_18 ?_
                                        refine n_bipush c_163_25 rfl ?_
                                        refine n_iload_n c_163_27 rfl ?_
                                        refine n_imul c_163_28 rfl ?_
                                        refine n_iload c_163_29 rfl ?_
                                        refine n_iadd c_163_31 rfl ?_
                                        refine n_ialoadV c_163_32 sc_126.n rfl rfl rfl (by omega) (t_126 hS (by omega)) ?_
                                        intro z65 ez65 f66
                                        refine n_istore (L2 := [some (2, 112), some (0, a), some (0, 8), some (0, x), some (0, y), some (0, w), some (0, s), some (0, z1), some (0, ((((((((((((0 * 2) + z11) * 2) + z21) * 2) + z31) * 2) + z41) * 2) + z51) * 2) + z61)), some (0, (((((((8 - 1) + (-1)) + (-1)) + (-1)) + (-1)) + (-1)) + (-1))), some (0, z65)]) c_163_33 rfl rfl ?_
                                        refine n_iload c_163_35 rfl ?_
                                        refine n_iconst c_163_37 ?_
                                        refine n_if2_le c_163_38 (by omega) (by omega) ?_ ?_
                                        · intro h67
                                          refine n_iload c_163_64 rfl ?_
                                          refine n_iconst c_163_66 ?_
                                          refine n_if2_le c_163_67 (by omega) (by omega) ?_ ?_
                                          · intro h68
                                            refine n_iload c_163_93 rfl ?_
                                            refine n_aload_n c_163_95 rfl ?_
                                            refine n_getV (bi := 0) c_163_96 sc_112.n rfl rfl rfl (t_dm hS hdm) ?_
                                            intro z69 ez69 f70
                                            obtain rfl : z69 = 2 := by omega
                                            refine n_imul c_163_99 rfl ?_
                                            refine n_aload_n c_163_100 rfl ?_
                                            refine n_getR c_163_101 sc_112.n rfl rfl rfl r_112_6 ?_
                                            refine n_bipush c_163_104 rfl ?_
                                            refine n_iload_n c_163_106 rfl ?_
                                            refine n_imul c_163_107 rfl ?_
                                            refine n_iload c_163_108 rfl ?_
                                            refine n_iadd c_163_110 rfl ?_
                                            refine n_ialoadV c_163_111 sc_117.n rfl rfl rfl (by omega) (t_117 hS (by omega)) ?_
                                            intro z71 ez71 f72
                                            refine n_iadd c_163_112 rfl ?_
                                            refine n_istore (L2 := [some (2, 112), some (0, a), some (0, 8), some (0, x), some (0, y), some (0, w), some (0, s), some (0, z1), some (0, ((((((((((((((0 * 2) + z11) * 2) + z21) * 2) + z31) * 2) + z41) * 2) + z51) * 2) + z61) * 2) + z71)), some (0, (((((((8 - 1) + (-1)) + (-1)) + (-1)) + (-1)) + (-1)) + (-1))), some (0, z65)]) c_163_113 rfl rfl ?_
                                            refine n_iinc (L2 := [some (2, 112), some (0, a), some (0, 8), some (0, x), some (0, y), some (0, w), some (0, s), some (0, z1), some (0, ((((((((((((((0 * 2) + z11) * 2) + z21) * 2) + z31) * 2) + z41) * 2) + z51) * 2) + z61) * 2) + z71)), some (0, ((((((((8 - 1) + (-1)) + (-1)) + (-1)) + (-1)) + (-1)) + (-1)) + (-1))), some (0, z65)]) c_163_115 rfl rfl rfl ?_
                                            refine n_goto c_163_118 ?_
                                            refine n_iload c_163_16 rfl ?_
                                            refine n_if0_lt c_163_18 (by omega) ?_ ?_
                                            · intro h73
                                              exfalso; omega
                                            · intro h74
                                              refine n_aload_n c_163_21 rfl ?_
                                              refine n_getR c_163_22 sc_112.n rfl rfl rfl r_112_18 ?_
                                              refine n_bipush c_163_25 rfl ?_
                                              refine n_iload_n c_163_27 rfl ?_
                                              refine n_imul c_163_28 rfl ?_
                                              refine n_iload c_163_29 rfl ?_
                                              refine n_iadd c_163_31 rfl ?_
                                              refine n_ialoadV c_163_32 sc_126.n rfl rfl rfl (by omega) (t_126 hS (by omega)) ?_
                                              intro z75 ez75 f76
                                              refine n_istore (L2 := [some (2, 112), some (0, a), some (0, 8), some (0, x), some (0, y), some (0, w), some (0, s), some (0, z1), some (0, ((((((((((((((0 * 2) + z11) * 2) + z21) * 2) + z31) * 2) + z41) * 2) + z51) * 2) + z61) * 2) + z71)), some (0, ((((((((8 - 1) + (-1)) + (-1)) + (-1)) + (-1)) + (-1)) + (-1)) + (-1))), some (0, z75)]) c_163_33 rfl rfl ?_
                                              refine n_iload c_163_35 rfl ?_
                                              refine n_iconst c_163_37 ?_
                                              refine n_if2_le c_163_38 (by omega) (by omega) ?_ ?_
                                              · intro h77
                                                refine n_iload c_163_64 rfl ?_
                                                refine n_iconst c_163_66 ?_
                                                refine n_if2_le c_163_67 (by omega) (by omega) ?_ ?_
                                                · intro h78
                                                  refine n_iload c_163_93 rfl ?_
                                                  refine n_aload_n c_163_95 rfl ?_
                                                  refine n_getV (bi := 0) c_163_96 sc_112.n rfl rfl rfl (t_dm hS hdm) ?_
                                                  intro z79 ez79 f80
                                                  obtain rfl : z79 = 2 := by omega
                                                  refine n_imul c_163_99 rfl ?_
                                                  refine n_aload_n c_163_100 rfl ?_
                                                  refine n_getR c_163_101 sc_112.n rfl rfl rfl r_112_6 ?_
                                                  refine n_bipush c_163_104 rfl ?_
                                                  refine n_iload_n c_163_106 rfl ?_
                                                  refine n_imul c_163_107 rfl ?_
                                                  refine n_iload c_163_108 rfl ?_
                                                  refine n_iadd c_163_110 rfl ?_
                                                  refine n_ialoadV c_163_111 sc_117.n rfl rfl rfl (by omega) (t_117 hS (by omega)) ?_
                                                  intro z81 ez81 f82
                                                  refine n_iadd c_163_112 rfl ?_
                                                  refine n_istore (L2 := [some (2, 112), some (0, a), some (0, 8), some (0, x), some (0, y), some (0, w), some (0, s), some (0, z1), some (0, ((((((((((((((((0 * 2) + z11) * 2) + z21) * 2) + z31) * 2) + z41) * 2) + z51) * 2) + z61) * 2) + z71) * 2) + z81)), some (0, ((((((((8 - 1) + (-1)) + (-1)) + (-1)) + (-1)) + (-1)) + (-1)) + (-1))), some (0, z75)]) c_163_113 rfl rfl ?_
                                                  refine n_iinc (L2 := [some (2, 112), some (0, a), some (0, 8), some (0, x), some (0, y), some (0, w), some (0, s), some (0, z1), some (0, ((((((((((((((((0 * 2) + z11) * 2) + z21) * 2) + z31) * 2) + z41) * 2) + z51) * 2) + z61) * 2) + z71) * 2) + z81)), some (0, (((((((((8 - 1) + (-1)) + (-1)) + (-1)) + (-1)) + (-1)) + (-1)) + (-1)) + (-1))), some (0, z75)]) c_163_115 rfl rfl rfl ?_
                                                  refine n_goto c_163_118 ?_
                                                  refine n_iload c_163_16 rfl ?_
                                                  refine n_if0_lt c_163_18 (by omega) ?_ ?_
                                                  · intro h83
                                                    refine n_aload_n c_163_121 rfl ?_
                                                    refine n_getR c_163_122 sc_112.n rfl rfl rfl r_112_17 ?_
                                                    refine n_iload c_163_125 rfl ?_
                                                    refine n_ialoadV c_163_127 sc_125.n rfl rfl rfl (by omega) (t_125 hS (by omega)) ?_
                                                    intro z84 ez84 f85
                                                    refine n_if0_eq c_163_128 (by omega) ?_ ?_
                                                    · intro h86
                                                      refine n_fg (le_s (le_n (le_n (le_n (le_n (le_n (le_s (le_n (le_s (le_n (le_n le_0))))))))))) ?_
                                                      exact (mjoined8_2_c hS hdm ha hx hy hw hs 14).1 _ M hS (by omega) (by omega)
                                                    · intro h87
                                                      refine n_aload_n c_163_131 rfl ?_
                                                      refine n_getR c_163_132 sc_112.n rfl rfl rfl r_112_17 ?_
                                                      refine n_iload c_163_135 rfl ?_
                                                      refine n_ialoadV c_163_137 sc_125.n rfl rfl rfl (by omega) (t_125 hS (by omega)) ?_
                                                      intro z88 ez88 f89
                                                      refine n_iload c_163_138 rfl ?_
                                                      refine n_iconst c_163_140 ?_
                                                      refine n_iadd c_163_141 rfl ?_
                                                      refine n_if2_le c_163_142 (by omega) (by omega) ?_ ?_
                                                      · intro h90
                                                        refine n_fg (le_n (le_n (le_n (le_n (le_n (le_n (le_n (le_n (le_n (le_n (le_n le_0))))))))))) ?_
                                                        exact (mjoined8_2_c hS hdm ha hx hy hw hs 14).2  M hS  (by omega)
                                                      · intro h91
                                                        refine n_fg (le_s (le_n (le_n (le_n (le_n (le_n (le_s (le_n (le_s (le_n (le_n le_0))))))))))) ?_
                                                        exact (mjoined8_2_c hS hdm ha hx hy hw hs 14).1 _ M hS (by omega) (by omega)
                                                  · intro h92
                                                    exfalso; omega
                                                · intro h93
                                                  exfalso; omega
                                              · intro h94
                                                exfalso; omega
                                          · intro h95
                                            exfalso; omega
                                        · intro h96
                                          exfalso; omega
                                    · intro h97
                                      exfalso; omega
                                  · intro h98
                                    exfalso; omega
                              · intro h99
                                exfalso; omega
                            · intro h100
                              exfalso; omega
                        · intro h101
                          exfalso; omega
                      · intro h102
                        exfalso; omega
                  · intro h103
                    exfalso; omega
                · intro h104
                  exfalso; omega
            · intro h105
              exfalso; omega
          · intro h106
            exfalso; omega
      · intro h107
        exfalso; omega
    · intro h108
      refine n_iload c_163_41 rfl ?_
      refine n_aload_n c_163_43 rfl ?_
      refine n_getV (bi := 0) c_163_44 sc_112.n rfl rfl rfl (t_dm hS hdm) ?_
      intro z109 ez109 f110
      obtain rfl : z109 = 2 := by omega
      refine n_imul c_163_47 rfl ?_
      refine n_aload_n c_163_48 rfl ?_
      refine n_getR c_163_49 sc_112.n rfl rfl rfl r_112_18 ?_
      refine n_bipush c_163_52 rfl ?_
      refine n_iload c_163_54 rfl ?_
      refine n_imul c_163_56 rfl ?_
      refine n_iload c_163_57 rfl ?_
      refine n_iadd c_163_59 rfl ?_
      refine n_ialoadV c_163_60 sc_126.n rfl rfl rfl (by omega) (t_126 hS (by omega)) ?_
      intro z111 ez111 f112
      refine n_iadd c_163_61 rfl ?_
      refine n_istore (L2 := [some (2, 112), some (0, a), some (0, 8), some (0, x), some (0, y), some (0, w), some (0, s), some (0, z1), some (0, 0), some (0, (8 - 1)), some (0, ((z5 * 2) + z111))]) c_163_62 rfl rfl ?_
      refine n_iload c_163_64 rfl ?_
      refine n_iconst c_163_66 ?_
      refine n_if2_le c_163_67 (by omega) (by omega) ?_ ?_
      · intro h113
        refine n_iload c_163_93 rfl ?_
        refine n_aload_n c_163_95 rfl ?_
        refine n_getV (bi := 0) c_163_96 sc_112.n rfl rfl rfl (t_dm hS hdm) ?_
        intro z114 ez114 f115
        obtain rfl : z114 = 2 := by omega
        refine n_imul c_163_99 rfl ?_
        refine n_aload_n c_163_100 rfl ?_
        refine n_getR c_163_101 sc_112.n rfl rfl rfl r_112_6 ?_
        refine n_bipush c_163_104 rfl ?_
        refine n_iload_n c_163_106 rfl ?_
        refine n_imul c_163_107 rfl ?_
        refine n_iload c_163_108 rfl ?_
        refine n_iadd c_163_110 rfl ?_
        refine n_ialoadV c_163_111 sc_117.n rfl rfl rfl (by omega) (t_117 hS (by omega)) ?_
        intro z116 ez116 f117
        refine n_iadd c_163_112 rfl ?_
        refine n_istore (L2 := [some (2, 112), some (0, a), some (0, 8), some (0, x), some (0, y), some (0, w), some (0, s), some (0, z1), some (0, ((0 * 2) + z116)), some (0, (8 - 1)), some (0, ((z5 * 2) + z111))]) c_163_113 rfl rfl ?_
        refine n_iinc (L2 := [some (2, 112), some (0, a), some (0, 8), some (0, x), some (0, y), some (0, w), some (0, s), some (0, z1), some (0, ((0 * 2) + z116)), some (0, ((8 - 1) + (-1))), some (0, ((z5 * 2) + z111))]) c_163_115 rfl rfl rfl ?_
        refine n_goto c_163_118 ?_
        refine n_iload c_163_16 rfl ?_
        refine n_if0_lt c_163_18 (by omega) ?_ ?_
        · intro h118
          exfalso; omega
        · intro h119
          refine n_aload_n c_163_21 rfl ?_
          refine n_getR c_163_22 sc_112.n rfl rfl rfl r_112_18 ?_
          refine n_bipush c_163_25 rfl ?_
          refine n_iload_n c_163_27 rfl ?_
          refine n_imul c_163_28 rfl ?_
          refine n_iload c_163_29 rfl ?_
          refine n_iadd c_163_31 rfl ?_
          refine n_ialoadV c_163_32 sc_126.n rfl rfl rfl (by omega) (t_126 hS (by omega)) ?_
          intro z120 ez120 f121
          refine n_istore (L2 := [some (2, 112), some (0, a), some (0, 8), some (0, x), some (0, y), some (0, w), some (0, s), some (0, z1), some (0, ((0 * 2) + z116)), some (0, ((8 - 1) + (-1))), some (0, z120)]) c_163_33 rfl rfl ?_
          refine n_iload c_163_35 rfl ?_
          refine n_iconst c_163_37 ?_
          refine n_if2_le c_163_38 (by omega) (by omega) ?_ ?_
          · intro h122
            exfalso; omega
          · intro h123
            refine n_iload c_163_41 rfl ?_
            refine n_aload_n c_163_43 rfl ?_
            refine n_getV (bi := 0) c_163_44 sc_112.n rfl rfl rfl (t_dm hS hdm) ?_
            intro z124 ez124 f125
            obtain rfl : z124 = 2 := by omega
            refine n_imul c_163_47 rfl ?_
            refine n_aload_n c_163_48 rfl ?_
            refine n_getR c_163_49 sc_112.n rfl rfl rfl r_112_18 ?_
            refine n_bipush c_163_52 rfl ?_
            refine n_iload c_163_54 rfl ?_
            refine n_imul c_163_56 rfl ?_
            refine n_iload c_163_57 rfl ?_
            refine n_iadd c_163_59 rfl ?_
            refine n_ialoadV c_163_60 sc_126.n rfl rfl rfl (by omega) (t_126 hS (by omega)) ?_
            intro z126 ez126 f127
            refine n_iadd c_163_61 rfl ?_
            refine n_istore (L2 := [some (2, 112), some (0, a), some (0, 8), some (0, x), some (0, y), some (0, w), some (0, s), some (0, z1), some (0, ((0 * 2) + z116)), some (0, ((8 - 1) + (-1))), some (0, ((z120 * 2) + z126))]) c_163_62 rfl rfl ?_
            refine n_iload c_163_64 rfl ?_
            refine n_iconst c_163_66 ?_
            refine n_if2_le c_163_67 (by omega) (by omega) ?_ ?_
            · intro h128
              refine n_iload c_163_93 rfl ?_
              refine n_aload_n c_163_95 rfl ?_
              refine n_getV (bi := 0) c_163_96 sc_112.n rfl rfl rfl (t_dm hS hdm) ?_
              intro z129 ez129 f130
              obtain rfl : z129 = 2 := by omega
              refine n_imul c_163_99 rfl ?_
              refine n_aload_n c_163_100 rfl ?_
              refine n_getR c_163_101 sc_112.n rfl rfl rfl r_112_6 ?_
              refine n_bipush c_163_104 rfl ?_
              refine n_iload_n c_163_106 rfl ?_
              refine n_imul c_163_107 rfl ?_
              refine n_iload c_163_108 rfl ?_
              refine n_iadd c_163_110 rfl ?_
              refine n_ialoadV c_163_111 sc_117.n rfl rfl rfl (by omega) (t_117 hS (by omega)) ?_
              intro z131 ez131 f132
              refine n_iadd c_163_112 rfl ?_
              refine n_istore (L2 := [some (2, 112), some (0, a), some (0, 8), some (0, x), some (0, y), some (0, w), some (0, s), some (0, z1), some (0, ((((0 * 2) + z116) * 2) + z131)), some (0, ((8 - 1) + (-1))), some (0, ((z120 * 2) + z126))]) c_163_113 rfl rfl ?_
              refine n_iinc (L2 := [some (2, 112), some (0, a), some (0, 8), some (0, x), some (0, y), some (0, w), some (0, s), some (0, z1), some (0, ((((0 * 2) + z116) * 2) + z131)), some (0, (((8 - 1) + (-1)) + (-1))), some (0, ((z120 * 2) + z126))]) c_163_115 rfl rfl rfl ?_
              refine n_goto c_163_118 ?_
              refine n_iload c_163_16 rfl ?_
              refine n_if0_lt c_163_18 (by omega) ?_ ?_
              · intro h133
                exfalso; omega
              · intro h134
                refine n_aload_n c_163_21 rfl ?_
                refine n_getR c_163_22 sc_112.n rfl rfl rfl r_112_18 ?_
                refine n_bipush c_163_25 rfl ?_
                refine n_iload_n c_163_27 rfl ?_
                refine n_imul c_163_28 rfl ?_
                refine n_iload c_163_29 rfl ?_
                refine n_iadd c_163_31 rfl ?_
                refine n_ialoadV c_163_32 sc_126.n rfl rfl rfl (by omega) (t_126 hS (by omega)) ?_
                intro z135 ez135 f136
                refine n_istore (L2 := [some (2, 112), some (0, a), some (0, 8), some (0, x), some (0, y), some (0, w), some (0, s), some (0, z1), some (0, ((((0 * 2) + z116) * 2) + z131)), some (0, (((8 - 1) + (-1)) + (-1))), some (0, z135)]) c_163_33 rfl rfl ?_
                refine n_iload c_163_35 rfl ?_
                refine n_iconst c_163_37 ?_
                refine n_if2_le c_163_38 (by omega) (by omega) ?_ ?_
                · intro h137
                  exfalso; omega
                · intro h138
                  refine n_iload c_163_41 rfl ?_
                  refine n_aload_n c_163_43 rfl ?_
                  refine n_getV (bi := 0) c_163_44 sc_112.n rfl rfl rfl (t_dm hS hdm) ?_
                  intro z139 ez139 f140
                  obtain rfl : z139 = 2 := by omega
                  refine n_imul c_163_47 rfl ?_
                  refine n_aload_n c_163_48 rfl ?_
                  refine n_getR c_163_49 sc_112.n rfl rfl rfl r_112_18 ?_
                  refine n_bipush c_163_52 rfl ?_
                  refine n_iload c_163_54 rfl ?_
                  refine n_imul c_163_56 rfl ?_
                  refine n_iload c_163_57 rfl ?_
                  refine n_iadd c_163_59 rfl ?_
                  refine n_ialoadV c_163_60 sc_126.n rfl rfl rfl (by omega) (t_126 hS (by omega)) ?_
                  intro z141 ez141 f142
                  refine n_iadd c_163_61 rfl ?_
                  refine n_istore (L2 := [some (2, 112), some (0, a), some (0, 8), some (0, x), some (0, y), some (0, w), some (0, s), some (0, z1), some (0, ((((0 * 2) + z116) * 2) + z131)), some (0, (((8 - 1) + (-1)) + (-1))), some (0, ((z135 * 2) + z141))]) c_163_62 rfl rfl ?_
                  refine n_iload c_163_64 rfl ?_
                  refine n_iconst c_163_66 ?_
                  refine n_if2_le c_163_67 (by omega) (by omega) ?_ ?_
                  · intro h143
                    refine n_iload c_163_93 rfl ?_
                    refine n_aload_n c_163_95 rfl ?_
                    refine n_getV (bi := 0) c_163_96 sc_112.n rfl rfl rfl (t_dm hS hdm) ?_
                    intro z144 ez144 f145
                    obtain rfl : z144 = 2 := by omega
                    refine n_imul c_163_99 rfl ?_
                    refine n_aload_n c_163_100 rfl ?_
                    refine n_getR c_163_101 sc_112.n rfl rfl rfl r_112_6 ?_
                    refine n_bipush c_163_104 rfl ?_
                    refine n_iload_n c_163_106 rfl ?_
                    refine n_imul c_163_107 rfl ?_
                    refine n_iload c_163_108 rfl ?_
                    refine n_iadd c_163_110 rfl ?_
                    refine n_ialoadV c_163_111 sc_117.n rfl rfl rfl (by omega) (t_117 hS (by omega)) ?_
                    intro z146 ez146 f147
                    refine n_iadd c_163_112 rfl ?_
                    refine n_istore (L2 := [some (2, 112), some (0, a), some (0, 8), some (0, x), some (0, y), some (0, w), some (0, s), some (0, z1), some (0, ((((((0 * 2) + z116) * 2) + z131) * 2) + z146)), some (0, (((8 - 1) + (-1)) + (-1))), some (0, ((z135 * 2) + z141))]) c_163_113 rfl rfl ?_
                    refine n_iinc (L2 := [some (2, 112), some (0, a), some (0, 8), some (0, x), some (0, y), some (0, w), some (0, s), some (0, z1), some (0, ((((((0 * 2) + z116) * 2) + z131) * 2) + z146)), some (0, ((((8 - 1) + (-1)) + (-1)) + (-1))), some (0, ((z135 * 2) + z141))]) c_163_115 rfl rfl rfl ?_
                    refine n_goto c_163_118 ?_
                    refine n_iload c_163_16 rfl ?_
                    refine n_if0_lt c_163_18 (by omega) ?_ ?_
                    · intro h148
                      exfalso; omega
                    · intro h149
                      refine n_aload_n c_163_21 rfl ?_
                      refine n_getR c_163_22 sc_112.n rfl rfl rfl r_112_18 ?_
                      refine n_bipush c_163_25 rfl ?_
                      refine n_iload_n c_163_27 rfl ?_
                      refine n_imul c_163_28 rfl ?_
                      refine n_iload c_163_29 rfl ?_
                      refine n_iadd c_163_31 rfl ?_
                      refine n_ialoadV c_163_32 sc_126.n rfl rfl rfl (by omega) (t_126 hS (by omega)) ?_
                      intro z150 ez150 f151
                      refine n_istore (L2 := [some (2, 112), some (0, a), some (0, 8), some (0, x), some (0, y), some (0, w), some (0, s), some (0, z1), some (0, ((((((0 * 2) + z116) * 2) + z131) * 2) + z146)), some (0, ((((8 - 1) + (-1)) + (-1)) + (-1))), some (0, z150)]) c_163_33 rfl rfl ?_
                      refine n_iload c_163_35 rfl ?_
                      refine n_iconst c_163_37 ?_
                      refine n_if2_le c_163_38 (by omega) (by omega) ?_ ?_
                      · intro h152
                        exfalso; omega
                      · intro h153
                        refine n_iload c_163_41 rfl ?_
                        refine n_aload_n c_163_43 rfl ?_
                        refine n_getV (bi := 0) c_163_44 sc_112.n rfl rfl rfl (t_dm hS hdm) ?_
                        intro z154 ez154 f155
                        obtain rfl : z154 = 2 := by omega
                        refine n_imul c_163_47 rfl ?_
                        refine n_aload_n c_163_48 rfl ?_
                        refine n_getR c_163_49 sc_112.n rfl rfl rfl r_112_18 ?_
                        refine n_bipush c_163_52 rfl ?_
                        refine n_iload c_163_54 rfl ?_
                        refine n_imul c_163_56 rfl ?_
                        refine n_iload c_163_57 rfl ?_
                        refine n_iadd c_163_59 rfl ?_
                        refine n_ialoadV c_163_60 sc_126.n rfl rfl rfl (by omega) (t_126 hS (by omega)) ?_
                        intro z156 ez156 f157
                        refine n_iadd c_163_61 rfl ?_
                        refine n_istore (L2 := [some (2, 112), some (0, a), some (0, 8), some (0, x), some (0, y), some (0, w), some (0, s), some (0, z1), some (0, ((((((0 * 2) + z116) * 2) + z131) * 2) + z146)), some (0, ((((8 - 1) + (-1)) + (-1)) + (-1))), some (0, ((z150 * 2) + z156))]) c_163_62 rfl rfl ?_
                        refine n_iload c_163_64 rfl ?_
                        refine n_iconst c_163_66 ?_
                        refine n_if2_le c_163_67 (by omega) (by omega) ?_ ?_
                        · intro h158
                          refine n_iload c_163_93 rfl ?_
                          refine n_aload_n c_163_95 rfl ?_
                          refine n_getV (bi := 0) c_163_96 sc_112.n rfl rfl rfl (t_dm hS hdm) ?_
                          intro z159 ez159 f160
                          obtain rfl : z159 = 2 := by omega
                          refine n_imul c_163_99 rfl ?_
                          refine n_aload_n c_163_100 rfl ?_
                          refine n_getR c_163_101 sc_112.n rfl rfl rfl r_112_6 ?_
                          refine n_bipush c_163_104 rfl ?_
                          refine n_iload_n c_163_106 rfl ?_
                          refine n_imul c_163_107 rfl ?_
                          refine n_iload c_163_108 rfl ?_
                          refine n_iadd c_163_110 rfl ?_
                          refine n_ialoadV c_163_111 sc_117.n rfl rfl rfl (by omega) (t_117 hS (by omega)) ?_
                          intro z161 ez161 f162
                          refine n_iadd c_163_112 rfl ?_
                          refine n_istore (L2 := [some (2, 112), some (0, a), some (0, 8), some (0, x), some (0, y), some (0, w), some (0, s), some (0, z1), some (0, ((((((((0 * 2) + z116) * 2) + z131) * 2) + z146) * 2) + z161)), some (0, ((((8 - 1) + (-1)) + (-1)) + (-1))), some (0, ((z150 * 2) + z156))]) c_163_113 rfl rfl ?_
                          refine n_iinc (L2 := [some (2, 112), some (0, a), some (0, 8), some (0, x), some (0, y), some (0, w), some (0, s), some (0, z1), some (0, ((((((((0 * 2) + z116) * 2) + z131) * 2) + z146) * 2) + z161)), some (0, (((((8 - 1) + (-1)) + (-1)) + (-1)) + (-1))), some (0, ((z150 * 2) + z156))]) c_163_115 rfl rfl rfl ?_
                          refine n_goto c_163_118 ?_
                          refine n_iload c_163_16 rfl ?_
                          refine n_if0_lt c_163_18 (by omega) ?_ ?_
                          · intro h163
                            exfalso; omega
                          · intro h164
                            refine n_aload_n c_163_21 rfl ?_
                            refine n_getR c_163_22 sc_112.n rfl rfl rfl r_112_18 ?_
                            refine n_bipush c_163_25 rfl ?_
                            refine n_iload_n c_163_27 rfl ?_
                            refine n_imul c_163_28 rfl ?_
                            refine n_iload c_163_29 rfl ?_
                            refine n_iadd c_163_31 rfl ?_
                            refine n_ialoadV c_163_32 sc_126.n rfl rfl rfl (by omega) (t_126 hS (by omega)) ?_
                            intro z165 ez165 f166
                            refine n_istore (L2 := [some (2, 112), some (0, a), some (0, 8), some (0, x), some (0, y), some (0, w), some (0, s), some (0, z1), some (0, ((((((((0 * 2) + z116) * 2) + z131) * 2) + z146) * 2) + z161)), some (0, (((((8 - 1) + (-1)) + (-1)) + (-1)) + (-1))), some (0, z165)]) c_163_33 rfl rfl ?_
                            refine n_iload c_163_35 rfl ?_
                            refine n_iconst c_163_37 ?_
                            refine n_if2_le c_163_38 (by omega) (by omega) ?_ ?_
                            · intro h167
                              exfalso; omega
                            · intro h168
                              refine n_iload c_163_41 rfl ?_
                              refine n_aload_n c_163_43 rfl ?_
                              refine n_getV (bi := 0) c_163_44 sc_112.n rfl rfl rfl (t_dm hS hdm) ?_
                              intro z169 ez169 f170
                              obtain rfl : z169 = 2 := by omega
                              refine n_imul c_163_47 rfl ?_
                              refine n_aload_n c_163_48 rfl ?_
                              refine n_getR c_163_49 sc_112.n rfl rfl rfl r_112_18 ?_
                              refine n_bipush c_163_52 rfl ?_
                              refine n_iload c_163_54 rfl ?_
                              refine n_imul c_163_56 rfl ?_
                              refine n_iload c_163_57 rfl ?_
                              refine n_iadd c_163_59 rfl ?_
                              refine n_ialoadV c_163_60 sc_126.n rfl rfl rfl (by omega) (t_126 hS (by omega)) ?_
                              intro z171 ez171 f172
                              refine n_iadd c_163_61 rfl ?_
                              refine n_istore (L2 := [some (2, 112), some (0, a), some (0, 8), some (0, x), some (0, y), some (0, w), some (0, s), some (0, z1), some (0, ((((((((0 * 2) + z116) * 2) + z131) * 2) + z146) * 2) + z161)), some (0, (((((8 - 1) + (-1)) + (-1)) + (-1)) + (-1))), some (0, ((z165 * 2) + z171))]) c_163_62 rfl rfl ?_
                              refine n_iload c_163_64 rfl ?_
                              refine n_iconst c_163_66 ?_
                              refine n_if2_le c_163_67 (by omega) (by omega) ?_ ?_
                              · intro h173
                                refine n_iload c_163_93 rfl ?_
                                refine n_aload_n c_163_95 rfl ?_
                                refine n_getV (bi := 0) c_163_96 sc_112.n rfl rfl rfl (t_dm hS hdm) ?_
                                intro z174 ez174 f175
                                obtain rfl : z174 = 2 := by omega
                                refine n_imul c_163_99 rfl ?_
                                refine n_aload_n c_163_100 rfl ?_
                                refine n_getR c_163_101 sc_112.n rfl rfl rfl r_112_6 ?_
                                refine n_bipush c_163_104 rfl ?_
                                refine n_iload_n c_163_106 rfl ?_
                                refine n_imul c_163_107 rfl ?_
                                refine n_iload c_163_108 rfl ?_
                                refine n_iadd c_163_110 rfl ?_
                                refine n_ialoadV c_163_111 sc_117.n rfl rfl rfl (by omega) (t_117 hS (by omega)) ?_
                                intro z176 ez176 f177
                                refine n_iadd c_163_112 rfl ?_
                                refine n_istore (L2 := [some (2, 112), some (0, a), some (0, 8), some (0, x), some (0, y), some (0, w), some (0, s), some (0, z1), some (0, ((((((((((0 * 2) + z116) * 2) + z131) * 2) + z146) * 2) + z161) * 2) + z176)), some (0, (((((8 - 1) + (-1)) + (-1)) + (-1)) + (-1))), some (0, ((z165 * 2) + z171))]) c_163_113 rfl rfl ?_
                                refine n_iinc (L2 := [some (2, 112), some (0, a), some (0, 8), some (0, x), some (0, y), some (0, w), some (0, s), some (0, z1), some (0, ((((((((((0 * 2) + z116) * 2) + z131) * 2) + z146) * 2) + z161) * 2) + z176)), some (0, ((((((8 - 1) + (-1)) + (-1)) + (-1)) + (-1)) + (-1))), some (0, ((z165 * 2) + z171))]) c_163_115 rfl rfl rfl ?_
                                refine n_goto c_163_118 ?_
                                refine n_iload c_163_16 rfl ?_
                                refine n_if0_lt c_163_18 (by omega) ?_ ?_
                                · intro h178
                                  exfalso; omega
                                · intro h179
                                  refine n_aload_n c_163_21 rfl ?_
                                  refine n_getR c_163_22 sc_112.n rfl rfl rfl r_112_18 ?_
                                  refine n_bipush c_163_25 rfl ?_
                                  refine n_iload_n c_163_27 rfl ?_
                                  refine n_imul c_163_28 rfl ?_
                                  refine n_iload c_163_29 rfl ?_
                                  refine n_iadd c_163_31 rfl ?_
                                  refine n_ialoadV c_163_32 sc_126.n rfl rfl rfl (by omega) (t_126 hS (by omega)) ?_
                                  intro z180 ez180 f181
                                  refine n_istore (L2 := [some (2, 112), some (0, a), some (0, 8), some (0, x), some (0, y), some (0, w), some (0, s), some (0, z1), some (0, ((((((((((0 * 2) + z116) * 2) + z131) * 2) + z146) * 2) + z161) * 2) + z176)), some (0, ((((((8 - 1) + (-1)) + (-1)) + (-1)) + (-1)) + (-1))), some (0, z180)]) c_163_33 rfl rfl ?_
                                  refine n_iload c_163_35 rfl ?_
                                  refine n_iconst c_163_37 ?_
                                  refine n_if2_le c_163_38 (by omega) (by omega) ?_ ?_
                                  · intro h182
                                    exfalso; omega
                                  · intro h183
                                    refine n_iload c_163_41 rfl ?_
                                    refine n_aload_n c_163_43 rfl ?_
                                    refine n_getV (bi := 0) c_163_44 sc_112.n rfl rfl rfl (t_dm hS hdm) ?_
                                    intro z184 ez184 f185
                                    obtain rfl : z184 = 2 := by omega
                                    refine n_imul c_163_47 rfl ?_
                                    refine n_aload_n c_163_48 rfl ?_
                                    refine n_getR c_163_49 sc_112.n rfl rfl rfl r_112_18 ?_
                                    refine n_bipush c_163_52 rfl ?_
                                    refine n_iload c_163_54 rfl ?_
                                    refine n_imul c_163_56 rfl ?_
                                    refine n_iload c_163_57 rfl ?_
                                    refine n_iadd c_163_59 rfl ?_
                                    refine n_ialoadV c_163_60 sc_126.n rfl rfl rfl (by omega) (t_126 hS (by omega)) ?_
                                    intro z186 ez186 f187
                                    refine n_iadd c_163_61 rfl ?_
                                    refine n_istore (L2 := [some (2, 112), some (0, a), some (0, 8), some (0, x), some (0, y), some (0, w), some (0, s), some (0, z1), some (0, ((((((((((0 * 2) + z116) * 2) + z131) * 2) + z146) * 2) + z161) * 2) + z176)), some (0, ((((((8 - 1) + (-1)) + (-1)) + (-1)) + (-1)) + (-1))), some (0, ((z180 * 2) + z186))]) c_163_62 rfl rfl ?_
                                    refine n_iload c_163_64 rfl ?_
                                    refine n_iconst c_163_66 ?_
                                    refine n_if2_le c_163_67 (by omega) (by omega) ?_ ?_
                                    · intro h188
                                      refine n_iload c_163_93 rfl ?_
                                      refine n_aload_n c_163_95 rfl ?_
                                      refine n_getV (bi := 0) c_163_96 sc_112.n rfl rfl rfl (t_dm hS hdm) ?_
                                      intro z189 ez189 f190
                                      obtain rfl : z189 = 2 := by omega
                                      refine n_imul c_163_99 rfl ?_
                                      refine n_aload_n c_163_100 rfl ?_
                                      refine n_getR c_163_101 sc_112.n rfl rfl rfl r_112_6 ?_
                                      refine n_bipush c_163_104 rfl ?_
                                      refine n_iload_n c_163_106 rfl ?_
                                      refine n_imul c_163_107 rfl ?_
                                      refine n_iload c_163_108 rfl ?_
                                      refine n_iadd c_163_110 rfl ?_
                                      refine n_ialoadV c_163_111 sc_117.n rfl rfl rfl (by omega) (t_117 hS (by omega)) ?_
                                      intro z191 ez191 f192
                                      refine n_iadd c_163_112 rfl ?_
                                      refine n_istore (L2 := [some (2, 112), some (0, a), some (0, 8), some (0, x), some (0, y), some (0, w), some (0, s), some (0, z1), some (0, ((((((((((((0 * 2) + z116) * 2) + z131) * 2) + z146) * 2) + z161) * 2) + z176) * 2) + z191)), some (0, ((((((8 - 1) + (-1)) + (-1)) + (-1)) + (-1)) + (-1))), some (0, ((z180 * 2) + z186))]) c_163_113 rfl rfl ?_
                                      refine n_iinc (L2 := [some (2, 112), some (0, a), some (0, 8), some (0, x), some (0, y), some (0, w), some (0, s), some (0, z1), some (0, ((((((((((((0 * 2) + z116) * 2) + z131) * 2) + z146) * 2) + z161) * 2) + z176) * 2) + z191)), some (0, (((((((8 - 1) + (-1)) + (-1)) + (-1)) + (-1)) + (-1)) + (-1))), some (0, ((z180 * 2) + z186))]) c_163_115 rfl rfl rfl ?_
                                      refine n_goto c_163_118 ?_
                                      refine n_iload c_163_16 rfl ?_
                                      refine n_if0_lt c_163_18 (by omega) ?_ ?_
                                      · intro h193
                                        exfalso; omega
                                      · intro h194
                                        refine n_aload_n c_163_21 rfl ?_
                                        refine n_getR c_163_22 sc_112.n rfl rfl rfl r_112_18 ?_
                                        refine n_bipush c_163_25 rfl ?_
                                        refine n_iload_n c_163_27 rfl ?_
                                        refine n_imul c_163_28 rfl ?_
                                        refine n_iload c_163_29 rfl ?_
                                        refine n_iadd c_163_31 rfl ?_
                                        refine n_ialoadV c_163_32 sc_126.n rfl rfl rfl (by omega) (t_126 hS (by omega)) ?_
                                        intro z195 ez195 f196
                                        refine n_istore (L2 := [some (2, 112), some (0, a), some (0, 8), some (0, x), some (0, y), some (0, w), some (0, s), some (0, z1), some (0, ((((((((((((0 * 2) + z116) * 2) + z131) * 2) + z146) * 2) + z161) * 2) + z176) * 2) + z191)), some (0, (((((((8 - 1) + (-1)) + (-1)) + (-1)) + (-1)) + (-1)) + (-1))), some (0, z195)]) c_163_33 rfl rfl ?_
                                        refine n_iload c_163_35 rfl ?_
                                        refine n_iconst c_163_37 ?_
                                        refine n_if2_le c_163_38 (by omega) (by omega) ?_ ?_
                                        · intro h197
                                          exfalso; omega
                                        · intro h198
                                          refine n_iload c_163_41 rfl ?_
                                          refine n_aload_n c_163_43 rfl ?_
                                          refine n_getV (bi := 0) c_163_44 sc_112.n rfl rfl rfl (t_dm hS hdm) ?_
                                          intro z199 ez199 f200
                                          obtain rfl : z199 = 2 := by omega
                                          refine n_imul c_163_47 rfl ?_
                                          refine n_aload_n c_163_48 rfl ?_
                                          refine n_getR c_163_49 sc_112.n rfl rfl rfl r_112_18 ?_
                                          refine n_bipush c_163_52 rfl ?_
                                          refine n_iload c_163_54 rfl ?_
                                          refine n_imul c_163_56 rfl ?_
                                          refine n_iload c_163_57 rfl ?_
                                          refine n_iadd c_163_59 rfl ?_
                                          refine n_ialoadV c_163_60 sc_126.n rfl rfl rfl (by omega) (t_126 hS (by omega)) ?_
                                          intro z201 ez201 f202
                                          refine n_iadd c_163_61 rfl ?_
                                          refine n_istore (L2 := [some (2, 112), some (0, a), some (0, 8), some (0, x), some (0, y), some (0, w), some (0, s), some (0, z1), some (0, ((((((((((((0 * 2) + z116) * 2) + z131) * 2) + z146) * 2) + z161) * 2) + z176) * 2) + z191)), some (0, (((((((8 - 1) + (-1)) + (-1)) + (-1)) + (-1)) + (-1)) + (-1))), some (0, ((z195 * 2) + z201))]) c_163_62 rfl rfl ?_
                                          refine n_iload c_163_64 rfl ?_
                                          refine n_iconst c_163_66 ?_
                                          refine n_if2_le c_163_67 (by omega) (by omega) ?_ ?_
                                          · intro h203
                                            refine n_iload c_163_93 rfl ?_
                                            refine n_aload_n c_163_95 rfl ?_
                                            refine n_getV (bi := 0) c_163_96 sc_112.n rfl rfl rfl (t_dm hS hdm) ?_
                                            intro z204 ez204 f205
                                            obtain rfl : z204 = 2 := by omega
                                            refine n_imul c_163_99 rfl ?_
                                            refine n_aload_n c_163_100 rfl ?_
                                            refine n_getR c_163_101 sc_112.n rfl rfl rfl r_112_6 ?_
                                            refine n_bipush c_163_104 rfl ?_
                                            refine n_iload_n c_163_106 rfl ?_
                                            refine n_imul c_163_107 rfl ?_
                                            refine n_iload c_163_108 rfl ?_
                                            refine n_iadd c_163_110 rfl ?_
                                            refine n_ialoadV c_163_111 sc_117.n rfl rfl rfl (by omega) (t_117 hS (by omega)) ?_
                                            intro z206 ez206 f207
                                            refine n_iadd c_163_112 rfl ?_
                                            refine n_istore (L2 := [some (2, 112), some (0, a), some (0, 8), some (0, x), some (0, y), some (0, w), some (0, s), some (0, z1), some (0, ((((((((((((((0 * 2) + z116) * 2) + z131) * 2) + z146) * 2) + z161) * 2) + z176) * 2) + z191) * 2) + z206)), some (0, (((((((8 - 1) + (-1)) + (-1)) + (-1)) + (-1)) + (-1)) + (-1))), some (0, ((z195 * 2) + z201))]) c_163_113 rfl rfl ?_
                                            refine n_iinc (L2 := [some (2, 112), some (0, a), some (0, 8), some (0, x), some (0, y), some (0, w), some (0, s), some (0, z1), some (0, ((((((((((((((0 * 2) + z116) * 2) + z131) * 2) + z146) * 2) + z161) * 2) + z176) * 2) + z191) * 2) + z206)), some (0, ((((((((8 - 1) + (-1)) + (-1)) + (-1)) + (-1)) + (-1)) + (-1)) + (-1))), some (0, ((z195 * 2) + z201))]) c_163_115 rfl rfl rfl ?_
                                            refine n_goto c_163_118 ?_
                                            refine n_iload c_163_16 rfl ?_
                                            refine n_if0_lt c_163_18 (by omega) ?_ ?_
                                            · intro h208
                                              exfalso; omega
                                            · intro h209
                                              refine n_aload_n c_163_21 rfl ?_
                                              refine n_getR c_163_22 sc_112.n rfl rfl rfl r_112_18 ?_
                                              refine n_bipush c_163_25 rfl ?_
                                              refine n_iload_n c_163_27 rfl ?_
                                              refine n_imul c_163_28 rfl ?_
                                              refine n_iload c_163_29 rfl ?_
                                              refine n_iadd c_163_31 rfl ?_
                                              refine n_ialoadV c_163_32 sc_126.n rfl rfl rfl (by omega) (t_126 hS (by omega)) ?_
                                              intro z210 ez210 f211
                                              refine n_istore (L2 := [some (2, 112), some (0, a), some (0, 8), some (0, x), some (0, y), some (0, w), some (0, s), some (0, z1), some (0, ((((((((((((((0 * 2) + z116) * 2) + z131) * 2) + z146) * 2) + z161) * 2) + z176) * 2) + z191) * 2) + z206)), some (0, ((((((((8 - 1) + (-1)) + (-1)) + (-1)) + (-1)) + (-1)) + (-1)) + (-1))), some (0, z210)]) c_163_33 rfl rfl ?_
                                              refine n_iload c_163_35 rfl ?_
                                              refine n_iconst c_163_37 ?_
                                              refine n_if2_le c_163_38 (by omega) (by omega) ?_ ?_
                                              · intro h212
                                                exfalso; omega
                                              · intro h213
                                                refine n_iload c_163_41 rfl ?_
                                                refine n_aload_n c_163_43 rfl ?_
                                                refine n_getV (bi := 0) c_163_44 sc_112.n rfl rfl rfl (t_dm hS hdm) ?_
                                                intro z214 ez214 f215
                                                obtain rfl : z214 = 2 := by omega
                                                refine n_imul c_163_47 rfl ?_
                                                refine n_aload_n c_163_48 rfl ?_
                                                refine n_getR c_163_49 sc_112.n rfl rfl rfl r_112_18 ?_
                                                refine n_bipush c_163_52 rfl ?_
                                                refine n_iload c_163_54 rfl ?_
                                                refine n_imul c_163_56 rfl ?_
                                                refine n_iload c_163_57 rfl ?_
                                                refine n_iadd c_163_59 rfl ?_
                                                refine n_ialoadV c_163_60 sc_126.n rfl rfl rfl (by omega) (t_126 hS (by omega)) ?_
                                                intro z216 ez216 f217
                                                refine n_iadd c_163_61 rfl ?_
                                                refine n_istore (L2 := [some (2, 112), some (0, a), some (0, 8), some (0, x), some (0, y), some (0, w), some (0, s), some (0, z1), some (0, ((((((((((((((0 * 2) + z116) * 2) + z131) * 2) + z146) * 2) + z161) * 2) + z176) * 2) + z191) * 2) + z206)), some (0, ((((((((8 - 1) + (-1)) + (-1)) + (-1)) + (-1)) + (-1)) + (-1)) + (-1))), some (0, ((z210 * 2) + z216))]) c_163_62 rfl rfl ?_
                                                refine n_iload c_163_64 rfl ?_
                                                refine n_iconst c_163_66 ?_
                                                refine n_if2_le c_163_67 (by omega) (by omega) ?_ ?_
                                                · intro h218
                                                  refine n_iload c_163_93 rfl ?_
                                                  refine n_aload_n c_163_95 rfl ?_
                                                  refine n_getV (bi := 0) c_163_96 sc_112.n rfl rfl rfl (t_dm hS hdm) ?_
                                                  intro z219 ez219 f220
                                                  obtain rfl : z219 = 2 := by omega
                                                  refine n_imul c_163_99 rfl ?_
                                                  refine n_aload_n c_163_100 rfl ?_
                                                  refine n_getR c_163_101 sc_112.n rfl rfl rfl r_112_6 ?_
                                                  refine n_bipush c_163_104 rfl ?_
                                                  refine n_iload_n c_163_106 rfl ?_
                                                  refine n_imul c_163_107 rfl ?_
                                                  refine n_iload c_163_108 rfl ?_
                                                  refine n_iadd c_163_110 rfl ?_
                                                  refine n_ialoadV c_163_111 sc_117.n rfl rfl rfl (by omega) (t_117 hS (by omega)) ?_
                                                  intro z221 ez221 f222
                                                  refine n_iadd c_163_112 rfl ?_
                                                  refine n_istore (L2 := [some (2, 112), some (0, a), some (0, 8), some (0, x), some (0, y), some (0, w), some (0, s), some (0, z1), some (0, ((((((((((((((((0 * 2) + z116) * 2) + z131) * 2) + z146) * 2) + z161) * 2) + z176) * 2) + z191) * 2) + z206) * 2) + z221)), some (0, ((((((((8 - 1) + (-1)) + (-1)) + (-1)) + (-1)) + (-1)) + (-1)) + (-1))), some (0, ((z210 * 2) + z216))]) c_163_113 rfl rfl ?_
                                                  refine n_iinc (L2 := [some (2, 112), some (0, a), some (0, 8), some (0, x), some (0, y), some (0, w), some (0, s), some (0, z1), some (0, ((((((((((((((((0 * 2) + z116) * 2) + z131) * 2) + z146) * 2) + z161) * 2) + z176) * 2) + z191) * 2) + z206) * 2) + z221)), some (0, (((((((((8 - 1) + (-1)) + (-1)) + (-1)) + (-1)) + (-1)) + (-1)) + (-1)) + (-1))), some (0, ((z210 * 2) + z216))]) c_163_115 rfl rfl rfl ?_
                                                  refine n_goto c_163_118 ?_
                                                  refine n_iload c_163_16 rfl ?_
                                                  refine n_if0_lt c_163_18 (by omega) ?_ ?_
                                                  · intro h223
                                                    refine n_aload_n c_163_121 rfl ?_
                                                    refine n_getR c_163_122 sc_112.n rfl rfl rfl r_112_17 ?_
                                                    refine n_iload c_163_125 rfl ?_
                                                    refine n_ialoadV c_163_127 sc_125.n rfl rfl rfl (by omega) (t_125 hS (by omega)) ?_
                                                    intro z224 ez224 f225
                                                    refine n_if0_eq c_163_128 (by omega) ?_ ?_
                                                    · intro h226
                                                      refine n_fg (le_s (le_n (le_n (le_n (le_n (le_n (le_s (le_n (le_s (le_n (le_n le_0))))))))))) ?_
                                                      exact (mjoined8_2_c hS hdm ha hx hy hw hs 14).1 _ M hS (by omega) (by omega)
                                                    · intro h227
                                                      refine n_aload_n c_163_131 rfl ?_
                                                      refine n_getR c_163_132 sc_112.n rfl rfl rfl r_112_17 ?_
                                                      refine n_iload c_163_135 rfl ?_
                                                      refine n_ialoadV c_163_137 sc_125.n rfl rfl rfl (by omega) (t_125 hS (by omega)) ?_
                                                      intro z228 ez228 f229
                                                      refine n_iload c_163_138 rfl ?_
                                                      refine n_iconst c_163_140 ?_
                                                      refine n_iadd c_163_141 rfl ?_
                                                      refine n_if2_le c_163_142 (by omega) (by omega) ?_ ?_
                                                      · intro h230
                                                        refine n_fg (le_n (le_n (le_n (le_n (le_n (le_n (le_n (le_n (le_n (le_n (le_n le_0))))))))))) ?_
                                                        exact (mjoined8_2_c hS hdm ha hx hy hw hs 14).2  M hS  (by omega)
                                                      · intro h231
                                                        refine n_fg (le_s (le_n (le_n (le_n (le_n (le_n (le_s (le_n (le_s (le_n (le_n le_0))))))))))) ?_
                                                        exact (mjoined8_2_c hS hdm ha hx hy hw hs 14).1 _ M hS (by omega) (by omega)
                                                  · intro h232
                                                    exfalso; omega
                                                · intro h233
                                                  exfalso; omega
                                          · intro h234
                                            exfalso; omega
                                    · intro h235
                                      exfalso; omega
                              · intro h236
                                exfalso; omega
                        · intro h237
                          exfalso; omega
                  · intro h238
                    exfalso; omega
            · intro h239
              exfalso; omega
      · intro h240
        refine n_iload c_163_70 rfl ?_
        refine n_aload_n c_163_72 rfl ?_
        refine n_getV (bi := 0) c_163_73 sc_112.n rfl rfl rfl (t_dm hS hdm) ?_
        intro z241 ez241 f242
        obtain rfl : z241 = 2 := by omega
        refine n_imul c_163_76 rfl ?_
        refine n_aload_n c_163_77 rfl ?_
        refine n_getR c_163_78 sc_112.n rfl rfl rfl r_112_18 ?_
        refine n_bipush c_163_81 rfl ?_
        refine n_iload c_163_83 rfl ?_
        refine n_imul c_163_85 rfl ?_
        refine n_iload c_163_86 rfl ?_
        refine n_iadd c_163_88 rfl ?_
        refine n_ialoadV c_163_89 sc_126.n rfl rfl rfl (by omega) (t_126 hS (by omega)) ?_
        intro z243 ez243 f244
        refine n_iadd c_163_90 rfl ?_
        refine n_istore (L2 := [some (2, 112), some (0, a), some (0, 8), some (0, x), some (0, y), some (0, w), some (0, s), some (0, z1), some (0, 0), some (0, (8 - 1)), some (0, ((((z5 * 2) + z111) * 2) + z243))]) c_163_91 rfl rfl ?_
        refine n_iload c_163_93 rfl ?_
        refine n_aload_n c_163_95 rfl ?_
        refine n_getV (bi := 0) c_163_96 sc_112.n rfl rfl rfl (t_dm hS hdm) ?_
        intro z245 ez245 f246
        obtain rfl : z245 = 2 := by omega
        refine n_imul c_163_99 rfl ?_
        refine n_aload_n c_163_100 rfl ?_
        refine n_getR c_163_101 sc_112.n rfl rfl rfl r_112_6 ?_
        refine n_bipush c_163_104 rfl ?_
        refine n_iload_n c_163_106 rfl ?_
        refine n_imul c_163_107 rfl ?_
        refine n_iload c_163_108 rfl ?_
        refine n_iadd c_163_110 rfl ?_
        refine n_ialoadV c_163_111 sc_117.n rfl rfl rfl (by omega) (t_117 hS (by omega)) ?_
        intro z247 ez247 f248
        refine n_iadd c_163_112 rfl ?_
        refine n_istore (L2 := [some (2, 112), some (0, a), some (0, 8), some (0, x), some (0, y), some (0, w), some (0, s), some (0, z1), some (0, ((0 * 2) + z247)), some (0, (8 - 1)), some (0, ((((z5 * 2) + z111) * 2) + z243))]) c_163_113 rfl rfl ?_
        refine n_iinc (L2 := [some (2, 112), some (0, a), some (0, 8), some (0, x), some (0, y), some (0, w), some (0, s), some (0, z1), some (0, ((0 * 2) + z247)), some (0, ((8 - 1) + (-1))), some (0, ((((z5 * 2) + z111) * 2) + z243))]) c_163_115 rfl rfl rfl ?_
        refine n_goto c_163_118 ?_
        refine n_iload c_163_16 rfl ?_
        refine n_if0_lt c_163_18 (by omega) ?_ ?_
        · intro h249
          exfalso; omega
        · intro h250
          refine n_aload_n c_163_21 rfl ?_
          refine n_getR c_163_22 sc_112.n rfl rfl rfl r_112_18 ?_
          refine n_bipush c_163_25 rfl ?_
          refine n_iload_n c_163_27 rfl ?_
          refine n_imul c_163_28 rfl ?_
          refine n_iload c_163_29 rfl ?_
          refine n_iadd c_163_31 rfl ?_
          refine n_ialoadV c_163_32 sc_126.n rfl rfl rfl (by omega) (t_126 hS (by omega)) ?_
          intro z251 ez251 f252
          refine n_istore (L2 := [some (2, 112), some (0, a), some (0, 8), some (0, x), some (0, y), some (0, w), some (0, s), some (0, z1), some (0, ((0 * 2) + z247)), some (0, ((8 - 1) + (-1))), some (0, z251)]) c_163_33 rfl rfl ?_
          refine n_iload c_163_35 rfl ?_
          refine n_iconst c_163_37 ?_
          refine n_if2_le c_163_38 (by omega) (by omega) ?_ ?_
          · intro h253
            exfalso; omega
          · intro h254
            refine n_iload c_163_41 rfl ?_
            refine n_aload_n c_163_43 rfl ?_
            refine n_getV (bi := 0) c_163_44 sc_112.n rfl rfl rfl (t_dm hS hdm) ?_
            intro z255 ez255 f256
            obtain rfl : z255 = 2 := by omega
            refine n_imul c_163_47 rfl ?_
            refine n_aload_n c_163_48 rfl ?_
            refine n_getR c_163_49 sc_112.n rfl rfl rfl r_112_18 ?_
            refine n_bipush c_163_52 rfl ?_
            refine n_iload c_163_54 rfl ?_
            refine n_imul c_163_56 rfl ?_
            refine n_iload c_163_57 rfl ?_
            refine n_iadd c_163_59 rfl ?_
            refine n_ialoadV c_163_60 sc_126.n rfl rfl rfl (by omega) (t_126 hS (by omega)) ?_
            intro z257 ez257 f258
            refine n_iadd c_163_61 rfl ?_
            refine n_istore (L2 := [some (2, 112), some (0, a), some (0, 8), some (0, x), some (0, y), some (0, w), some (0, s), some (0, z1), some (0, ((0 * 2) + z247)), some (0, ((8 - 1) + (-1))), some (0, ((z251 * 2) + z257))]) c_163_62 rfl rfl ?_
            refine n_iload c_163_64 rfl ?_
            refine n_iconst c_163_66 ?_
            refine n_if2_le c_163_67 (by omega) (by omega) ?_ ?_
            · intro h259
              exfalso; omega
            · intro h260
              refine n_iload c_163_70 rfl ?_
              refine n_aload_n c_163_72 rfl ?_
              refine n_getV (bi := 0) c_163_73 sc_112.n rfl rfl rfl (t_dm hS hdm) ?_
              intro z261 ez261 f262
              obtain rfl : z261 = 2 := by omega
              refine n_imul c_163_76 rfl ?_
              refine n_aload_n c_163_77 rfl ?_
              refine n_getR c_163_78 sc_112.n rfl rfl rfl r_112_18 ?_
              refine n_bipush c_163_81 rfl ?_
              refine n_iload c_163_83 rfl ?_
              refine n_imul c_163_85 rfl ?_
              refine n_iload c_163_86 rfl ?_
              refine n_iadd c_163_88 rfl ?_
              refine n_ialoadV c_163_89 sc_126.n rfl rfl rfl (by omega) (t_126 hS (by omega)) ?_
              intro z263 ez263 f264
              refine n_iadd c_163_90 rfl ?_
              refine n_istore (L2 := [some (2, 112), some (0, a), some (0, 8), some (0, x), some (0, y), some (0, w), some (0, s), some (0, z1), some (0, ((0 * 2) + z247)), some (0, ((8 - 1) + (-1))), some (0, ((((z251 * 2) + z257) * 2) + z263))]) c_163_91 rfl rfl ?_
              refine n_iload c_163_93 rfl ?_
              refine n_aload_n c_163_95 rfl ?_
              refine n_getV (bi := 0) c_163_96 sc_112.n rfl rfl rfl (t_dm hS hdm) ?_
              intro z265 ez265 f266
              obtain rfl : z265 = 2 := by omega
              refine n_imul c_163_99 rfl ?_
              refine n_aload_n c_163_100 rfl ?_
              refine n_getR c_163_101 sc_112.n rfl rfl rfl r_112_6 ?_
              refine n_bipush c_163_104 rfl ?_
              refine n_iload_n c_163_106 rfl ?_
              refine n_imul c_163_107 rfl ?_
              refine n_iload c_163_108 rfl ?_
              refine n_iadd c_163_110 rfl ?_
              refine n_ialoadV c_163_111 sc_117.n rfl rfl rfl (by omega) (t_117 hS (by omega)) ?_
              intro z267 ez267 f268
              refine n_iadd c_163_112 rfl ?_
              refine n_istore (L2 := [some (2, 112), some (0, a), some (0, 8), some (0, x), some (0, y), some (0, w), some (0, s), some (0, z1), some (0, ((((0 * 2) + z247) * 2) + z267)), some (0, ((8 - 1) + (-1))), some (0, ((((z251 * 2) + z257) * 2) + z263))]) c_163_113 rfl rfl ?_
              refine n_iinc (L2 := [some (2, 112), some (0, a), some (0, 8), some (0, x), some (0, y), some (0, w), some (0, s), some (0, z1), some (0, ((((0 * 2) + z247) * 2) + z267)), some (0, (((8 - 1) + (-1)) + (-1))), some (0, ((((z251 * 2) + z257) * 2) + z263))]) c_163_115 rfl rfl rfl ?_
              refine n_goto c_163_118 ?_
              refine n_iload c_163_16 rfl ?_
              refine n_if0_lt c_163_18 (by omega) ?_ ?_
              · intro h269
                exfalso; omega
              · intro h270
                refine n_aload_n c_163_21 rfl ?_
                refine n_getR c_163_22 sc_112.n rfl rfl rfl r_112_18 ?_
                refine n_bipush c_163_25 rfl ?_
                refine n_iload_n c_163_27 rfl ?_
                refine n_imul c_163_28 rfl ?_
                refine n_iload c_163_29 rfl ?_
                refine n_iadd c_163_31 rfl ?_
                refine n_ialoadV c_163_32 sc_126.n rfl rfl rfl (by omega) (t_126 hS (by omega)) ?_
                intro z271 ez271 f272
                refine n_istore (L2 := [some (2, 112), some (0, a), some (0, 8), some (0, x), some (0, y), some (0, w), some (0, s), some (0, z1), some (0, ((((0 * 2) + z247) * 2) + z267)), some (0, (((8 - 1) + (-1)) + (-1))), some (0, z271)]) c_163_33 rfl rfl ?_
                refine n_iload c_163_35 rfl ?_
                refine n_iconst c_163_37 ?_
                refine n_if2_le c_163_38 (by omega) (by omega) ?_ ?_
                · intro h273
                  exfalso; omega
                · intro h274
                  refine n_iload c_163_41 rfl ?_
                  refine n_aload_n c_163_43 rfl ?_
                  refine n_getV (bi := 0) c_163_44 sc_112.n rfl rfl rfl (t_dm hS hdm) ?_
                  intro z275 ez275 f276
                  obtain rfl : z275 = 2 := by omega
                  refine n_imul c_163_47 rfl ?_
                  refine n_aload_n c_163_48 rfl ?_
                  refine n_getR c_163_49 sc_112.n rfl rfl rfl r_112_18 ?_
                  refine n_bipush c_163_52 rfl ?_
                  refine n_iload c_163_54 rfl ?_
                  refine n_imul c_163_56 rfl ?_
                  refine n_iload c_163_57 rfl ?_
                  refine n_iadd c_163_59 rfl ?_
                  refine n_ialoadV c_163_60 sc_126.n rfl rfl rfl (by omega) (t_126 hS (by omega)) ?_
                  intro z277 ez277 f278
                  refine n_iadd c_163_61 rfl ?_
                  refine n_istore (L2 := [some (2, 112), some (0, a), some (0, 8), some (0, x), some (0, y), some (0, w), some (0, s), some (0, z1), some (0, ((((0 * 2) + z247) * 2) + z267)), some (0, (((8 - 1) + (-1)) + (-1))), some (0, ((z271 * 2) + z277))]) c_163_62 rfl rfl ?_
                  refine n_iload c_163_64 rfl ?_
                  refine n_iconst c_163_66 ?_
                  refine n_if2_le c_163_67 (by omega) (by omega) ?_ ?_
                  · intro h279
                    exfalso; omega
                  · intro h280
                    refine n_iload c_163_70 rfl ?_
                    refine n_aload_n c_163_72 rfl ?_
                    refine n_getV (bi := 0) c_163_73 sc_112.n rfl rfl rfl (t_dm hS hdm) ?_
                    intro z281 ez281 f282
                    obtain rfl : z281 = 2 := by omega
                    refine n_imul c_163_76 rfl ?_
                    refine n_aload_n c_163_77 rfl ?_
                    refine n_getR c_163_78 sc_112.n rfl rfl rfl r_112_18 ?_
                    refine n_bipush c_163_81 rfl ?_
                    refine n_iload c_163_83 rfl ?_
                    refine n_imul c_163_85 rfl ?_
                    refine n_iload c_163_86 rfl ?_
                    refine n_iadd c_163_88 rfl ?_
                    refine n_ialoadV c_163_89 sc_126.n rfl rfl rfl (by omega) (t_126 hS (by omega)) ?_
                    intro z283 ez283 f284
                    refine n_iadd c_163_90 rfl ?_
                    refine n_istore (L2 := [some (2, 112), some (0, a), some (0, 8), some (0, x), some (0, y), some (0, w), some (0, s), some (0, z1), some (0, ((((0 * 2) + z247) * 2) + z267)), some (0, (((8 - 1) + (-1)) + (-1))), some (0, ((((z271 * 2) + z277) * 2) + z283))]) c_163_91 rfl rfl ?_
                    refine n_iload c_163_93 rfl ?_
                    refine n_aload_n c_163_95 rfl ?_
                    refine n_getV (bi := 0) c_163_96 sc_112.n rfl rfl rfl (t_dm hS hdm) ?_
                    intro z285 ez285 f286
                    obtain rfl : z285 = 2 := by omega
                    refine n_imul c_163_99 rfl ?_
                    refine n_aload_n c_163_100 rfl ?_
                    refine n_getR c_163_101 sc_112.n rfl rfl rfl r_112_6 ?_
                    refine n_bipush c_163_104 rfl ?_
                    refine n_iload_n c_163_106 rfl ?_
                    refine n_imul c_163_107 rfl ?_
                    refine n_iload c_163_108 rfl ?_
                    refine n_iadd c_163_110 rfl ?_
                    refine n_ialoadV c_163_111 sc_117.n rfl rfl rfl (by omega) (t_117 hS (by omega)) ?_
                    intro z287 ez287 f288
                    refine n_iadd c_163_112 rfl ?_
                    refine n_istore (L2 := [some (2, 112), some (0, a), some (0, 8), some (0, x), some (0, y), some (0, w), some (0, s), some (0, z1), some (0, ((((((0 * 2) + z247) * 2) + z267) * 2) + z287)), some (0, (((8 - 1) + (-1)) + (-1))), some (0, ((((z271 * 2) + z277) * 2) + z283))]) c_163_113 rfl rfl ?_
                    refine n_iinc (L2 := [some (2, 112), some (0, a), some (0, 8), some (0, x), some (0, y), some (0, w), some (0, s), some (0, z1), some (0, ((((((0 * 2) + z247) * 2) + z267) * 2) + z287)), some (0, ((((8 - 1) + (-1)) + (-1)) + (-1))), some (0, ((((z271 * 2) + z277) * 2) + z283))]) c_163_115 rfl rfl rfl ?_
                    refine n_goto c_163_118 ?_
                    refine n_iload c_163_16 rfl ?_
                    refine n_if0_lt c_163_18 (by omega) ?_ ?_
                    · intro h289
                      exfalso; omega
                    · intro h290
                      refine n_aload_n c_163_21 rfl ?_
                      refine n_getR c_163_22 sc_112.n rfl rfl rfl r_112_18 ?_
                      refine n_bipush c_163_25 rfl ?_
                      refine n_iload_n c_163_27 rfl ?_
                      refine n_imul c_163_28 rfl ?_
                      refine n_iload c_163_29 rfl ?_
                      refine n_iadd c_163_31 rfl ?_
                      refine n_ialoadV c_163_32 sc_126.n rfl rfl rfl (by omega) (t_126 hS (by omega)) ?_
                      intro z291 ez291 f292
                      refine n_istore (L2 := [some (2, 112), some (0, a), some (0, 8), some (0, x), some (0, y), some (0, w), some (0, s), some (0, z1), some (0, ((((((0 * 2) + z247) * 2) + z267) * 2) + z287)), some (0, ((((8 - 1) + (-1)) + (-1)) + (-1))), some (0, z291)]) c_163_33 rfl rfl ?_
                      refine n_iload c_163_35 rfl ?_
                      refine n_iconst c_163_37 ?_
                      refine n_if2_le c_163_38 (by omega) (by omega) ?_ ?_
                      · intro h293
                        exfalso; omega
                      · intro h294
                        refine n_iload c_163_41 rfl ?_
                        refine n_aload_n c_163_43 rfl ?_
                        refine n_getV (bi := 0) c_163_44 sc_112.n rfl rfl rfl (t_dm hS hdm) ?_
                        intro z295 ez295 f296
                        obtain rfl : z295 = 2 := by omega
                        refine n_imul c_163_47 rfl ?_
                        refine n_aload_n c_163_48 rfl ?_
                        refine n_getR c_163_49 sc_112.n rfl rfl rfl r_112_18 ?_
                        refine n_bipush c_163_52 rfl ?_
                        refine n_iload c_163_54 rfl ?_
                        refine n_imul c_163_56 rfl ?_
                        refine n_iload c_163_57 rfl ?_
                        refine n_iadd c_163_59 rfl ?_
                        refine n_ialoadV c_163_60 sc_126.n rfl rfl rfl (by omega) (t_126 hS (by omega)) ?_
                        intro z297 ez297 f298
                        refine n_iadd c_163_61 rfl ?_
                        refine n_istore (L2 := [some (2, 112), some (0, a), some (0, 8), some (0, x), some (0, y), some (0, w), some (0, s), some (0, z1), some (0, ((((((0 * 2) + z247) * 2) + z267) * 2) + z287)), some (0, ((((8 - 1) + (-1)) + (-1)) + (-1))), some (0, ((z291 * 2) + z297))]) c_163_62 rfl rfl ?_
                        refine n_iload c_163_64 rfl ?_
                        refine n_iconst c_163_66 ?_
                        refine n_if2_le c_163_67 (by omega) (by omega) ?_ ?_
                        · intro h299
                          exfalso; omega
                        · intro h300
                          refine n_iload c_163_70 rfl ?_
                          refine n_aload_n c_163_72 rfl ?_
                          refine n_getV (bi := 0) c_163_73 sc_112.n rfl rfl rfl (t_dm hS hdm) ?_
                          intro z301 ez301 f302
                          obtain rfl : z301 = 2 := by omega
                          refine n_imul c_163_76 rfl ?_
                          refine n_aload_n c_163_77 rfl ?_
                          refine n_getR c_163_78 sc_112.n rfl rfl rfl r_112_18 ?_
                          refine n_bipush c_163_81 rfl ?_
                          refine n_iload c_163_83 rfl ?_
                          refine n_imul c_163_85 rfl ?_
                          refine n_iload c_163_86 rfl ?_
                          refine n_iadd c_163_88 rfl ?_
                          refine n_ialoadV c_163_89 sc_126.n rfl rfl rfl (by omega) (t_126 hS (by omega)) ?_
                          intro z303 ez303 f304
                          refine n_iadd c_163_90 rfl ?_
                          refine n_istore (L2 := [some (2, 112), some (0, a), some (0, 8), some (0, x), some (0, y), some (0, w), some (0, s), some (0, z1), some (0, ((((((0 * 2) + z247) * 2) + z267) * 2) + z287)), some (0, ((((8 - 1) + (-1)) + (-1)) + (-1))), some (0, ((((z291 * 2) + z297) * 2) + z303))]) c_163_91 rfl rfl ?_
                          refine n_iload c_163_93 rfl ?_
                          refine n_aload_n c_163_95 rfl ?_
                          refine n_getV (bi := 0) c_163_96 sc_112.n rfl rfl rfl (t_dm hS hdm) ?_
                          intro z305 ez305 f306
                          obtain rfl : z305 = 2 := by omega
                          refine n_imul c_163_99 rfl ?_
                          refine n_aload_n c_163_100 rfl ?_
                          refine n_getR c_163_101 sc_112.n rfl rfl rfl r_112_6 ?_
                          refine n_bipush c_163_104 rfl ?_
                          refine n_iload_n c_163_106 rfl ?_
                          refine n_imul c_163_107 rfl ?_
                          refine n_iload c_163_108 rfl ?_
                          refine n_iadd c_163_110 rfl ?_
                          refine n_ialoadV c_163_111 sc_117.n rfl rfl rfl (by omega) (t_117 hS (by omega)) ?_
                          intro z307 ez307 f308
                          refine n_iadd c_163_112 rfl ?_
                          refine n_istore (L2 := [some (2, 112), some (0, a), some (0, 8), some (0, x), some (0, y), some (0, w), some (0, s), some (0, z1), some (0, ((((((((0 * 2) + z247) * 2) + z267) * 2) + z287) * 2) + z307)), some (0, ((((8 - 1) + (-1)) + (-1)) + (-1))), some (0, ((((z291 * 2) + z297) * 2) + z303))]) c_163_113 rfl rfl ?_
                          refine n_iinc (L2 := [some (2, 112), some (0, a), some (0, 8), some (0, x), some (0, y), some (0, w), some (0, s), some (0, z1), some (0, ((((((((0 * 2) + z247) * 2) + z267) * 2) + z287) * 2) + z307)), some (0, (((((8 - 1) + (-1)) + (-1)) + (-1)) + (-1))), some (0, ((((z291 * 2) + z297) * 2) + z303))]) c_163_115 rfl rfl rfl ?_
                          refine n_goto c_163_118 ?_
                          refine n_iload c_163_16 rfl ?_
                          refine n_if0_lt c_163_18 (by omega) ?_ ?_
                          · intro h309
                            exfalso; omega
                          · intro h310
                            refine n_aload_n c_163_21 rfl ?_
                            refine n_getR c_163_22 sc_112.n rfl rfl rfl r_112_18 ?_
                            refine n_bipush c_163_25 rfl ?_
                            refine n_iload_n c_163_27 rfl ?_
                            refine n_imul c_163_28 rfl ?_
                            refine n_iload c_163_29 rfl ?_
                            refine n_iadd c_163_31 rfl ?_
                            refine n_ialoadV c_163_32 sc_126.n rfl rfl rfl (by omega) (t_126 hS (by omega)) ?_
                            intro z311 ez311 f312
                            refine n_istore (L2 := [some (2, 112), some (0, a), some (0, 8), some (0, x), some (0, y), some (0, w), some (0, s), some (0, z1), some (0, ((((((((0 * 2) + z247) * 2) + z267) * 2) + z287) * 2) + z307)), some (0, (((((8 - 1) + (-1)) + (-1)) + (-1)) + (-1))), some (0, z311)]) c_163_33 rfl rfl ?_
                            refine n_iload c_163_35 rfl ?_
                            refine n_iconst c_163_37 ?_
                            refine n_if2_le c_163_38 (by omega) (by omega) ?_ ?_
                            · intro h313
                              exfalso; omega
                            · intro h314
                              refine n_iload c_163_41 rfl ?_
                              refine n_aload_n c_163_43 rfl ?_
                              refine n_getV (bi := 0) c_163_44 sc_112.n rfl rfl rfl (t_dm hS hdm) ?_
                              intro z315 ez315 f316
                              obtain rfl : z315 = 2 := by omega
                              refine n_imul c_163_47 rfl ?_
                              refine n_aload_n c_163_48 rfl ?_
                              refine n_getR c_163_49 sc_112.n rfl rfl rfl r_112_18 ?_
                              refine n_bipush c_163_52 rfl ?_
                              refine n_iload c_163_54 rfl ?_
                              refine n_imul c_163_56 rfl ?_
                              refine n_iload c_163_57 rfl ?_
                              refine n_iadd c_163_59 rfl ?_
                              refine n_ialoadV c_163_60 sc_126.n rfl rfl rfl (by omega) (t_126 hS (by omega)) ?_
                              intro z317 ez317 f318
                              refine n_iadd c_163_61 rfl ?_
                              refine n_istore (L2 := [some (2, 112), some (0, a), some (0, 8), some (0, x), some (0, y), some (0, w), some (0, s), some (0, z1), some (0, ((((((((0 * 2) + z247) * 2) + z267) * 2) + z287) * 2) + z307)), some (0, (((((8 - 1) + (-1)) + (-1)) + (-1)) + (-1))), some (0, ((z311 * 2) + z317))]) c_163_62 rfl rfl ?_
                              refine n_iload c_163_64 rfl ?_
                              refine n_iconst c_163_66 ?_
                              refine n_if2_le c_163_67 (by omega) (by omega) ?_ ?_
                              · intro h319
                                exfalso; omega
                              · intro h320
                                refine n_iload c_163_70 rfl ?_
                                refine n_aload_n c_163_72 rfl ?_
                                refine n_getV (bi := 0) c_163_73 sc_112.n rfl rfl rfl (t_dm hS hdm) ?_
                                intro z321 ez321 f322
                                obtain rfl : z321 = 2 := by omega
                                refine n_imul c_163_76 rfl ?_
                                refine n_aload_n c_163_77 rfl ?_
                                refine n_getR c_163_78 sc_112.n rfl rfl rfl r_112_18 ?_
                                refine n_bipush c_163_81 rfl ?_
                                refine n_iload c_163_83 rfl ?_
                                refine n_imul c_163_85 rfl ?_
                                refine n_iload c_163_86 rfl ?_
                                refine n_iadd c_163_88 rfl ?_
                                refine n_ialoadV c_163_89 sc_126.n rfl rfl rfl (by omega) (t_126 hS (by omega)) ?_
                                intro z323 ez323 f324
                                refine n_iadd c_163_90 rfl ?_
                                refine n_istore (L2 := [some (2, 112), some (0, a), some (0, 8), some (0, x), some (0, y), some (0, w), some (0, s), some (0, z1), some (0, ((((((((0 * 2) + z247) * 2) + z267) * 2) + z287) * 2) + z307)), some (0, (((((8 - 1) + (-1)) + (-1)) + (-1)) + (-1))), some (0, ((((z311 * 2) + z317) * 2) + z323))]) c_163_91 rfl rfl ?_
                                refine n_iload c_163_93 rfl ?_
                                refine n_aload_n c_163_95 rfl ?_
                                refine n_getV (bi := 0) c_163_96 sc_112.n rfl rfl rfl (t_dm hS hdm) ?_
                                intro z325 ez325 f326
                                obtain rfl : z325 = 2 := by omega
                                refine n_imul c_163_99 rfl ?_
                                refine n_aload_n c_163_100 rfl ?_
                                refine n_getR c_163_101 sc_112.n rfl rfl rfl r_112_6 ?_
                                refine n_bipush c_163_104 rfl ?_
                                refine n_iload_n c_163_106 rfl ?_
                                refine n_imul c_163_107 rfl ?_
                                refine n_iload c_163_108 rfl ?_
                                refine n_iadd c_163_110 rfl ?_
                                refine n_ialoadV c_163_111 sc_117.n rfl rfl rfl (by omega) (t_117 hS (by omega)) ?_
                                intro z327 ez327 f328
                                refine n_iadd c_163_112 rfl ?_
                                refine n_istore (L2 := [some (2, 112), some (0, a), some (0, 8), some (0, x), some (0, y), some (0, w), some (0, s), some (0, z1), some (0, ((((((((((0 * 2) + z247) * 2) + z267) * 2) + z287) * 2) + z307) * 2) + z327)), some (0, (((((8 - 1) + (-1)) + (-1)) + (-1)) + (-1))), some (0, ((((z311 * 2) + z317) * 2) + z323))]) c_163_113 rfl rfl ?_
                                refine n_iinc (L2 := [some (2, 112), some (0, a), some (0, 8), some (0, x), some (0, y), some (0, w), some (0, s), some (0, z1), some (0, ((((((((((0 * 2) + z247) * 2) + z267) * 2) + z287) * 2) + z307) * 2) + z327)), some (0, ((((((8 - 1) + (-1)) + (-1)) + (-1)) + (-1)) + (-1))), some (0, ((((z311 * 2) + z317) * 2) + z323))]) c_163_115 rfl rfl rfl ?_
                                refine n_goto c_163_118 ?_
                                refine n_iload c_163_16 rfl ?_
                                refine n_if0_lt c_163_18 (by omega) ?_ ?_
                                · intro h329
                                  exfalso; omega
                                · intro h330
                                  refine n_aload_n c_163_21 rfl ?_
                                  refine n_getR c_163_22 sc_112.n rfl rfl rfl r_112_18 ?_
                                  refine n_bipush c_163_25 rfl ?_
                                  refine n_iload_n c_163_27 rfl ?_
                                  refine n_imul c_163_28 rfl ?_
                                  refine n_iload c_163_29 rfl ?_
                                  refine n_iadd c_163_31 rfl ?_
                                  refine n_ialoadV c_163_32 sc_126.n rfl rfl rfl (by omega) (t_126 hS (by omega)) ?_
                                  intro z331 ez331 f332
                                  refine n_istore (L2 := [some (2, 112), some (0, a), some (0, 8), some (0, x), some (0, y), some (0, w), some (0, s), some (0, z1), some (0, ((((((((((0 * 2) + z247) * 2) + z267) * 2) + z287) * 2) + z307) * 2) + z327)), some (0, ((((((8 - 1) + (-1)) + (-1)) + (-1)) + (-1)) + (-1))), some (0, z331)]) c_163_33 rfl rfl ?_
                                  refine n_iload c_163_35 rfl ?_
                                  refine n_iconst c_163_37 ?_
                                  refine n_if2_le c_163_38 (by omega) (by omega) ?_ ?_
                                  · intro h333
                                    exfalso; omega
                                  · intro h334
                                    refine n_iload c_163_41 rfl ?_
                                    refine n_aload_n c_163_43 rfl ?_
                                    refine n_getV (bi := 0) c_163_44 sc_112.n rfl rfl rfl (t_dm hS hdm) ?_
                                    intro z335 ez335 f336
                                    obtain rfl : z335 = 2 := by omega
                                    refine n_imul c_163_47 rfl ?_
                                    refine n_aload_n c_163_48 rfl ?_
                                    refine n_getR c_163_49 sc_112.n rfl rfl rfl r_112_18 ?_
                                    refine n_bipush c_163_52 rfl ?_
                                    refine n_iload c_163_54 rfl ?_
                                    refine n_imul c_163_56 rfl ?_
                                    refine n_iload c_163_57 rfl ?_
                                    refine n_iadd c_163_59 rfl ?_
                                    refine n_ialoadV c_163_60 sc_126.n rfl rfl rfl (by omega) (t_126 hS (by omega)) ?_
                                    intro z337 ez337 f338
                                    refine n_iadd c_163_61 rfl ?_
                                    refine n_istore (L2 := [some (2, 112), some (0, a), some (0, 8), some (0, x), some (0, y), some (0, w), some (0, s), some (0, z1), some (0, ((((((((((0 * 2) + z247) * 2) + z267) * 2) + z287) * 2) + z307) * 2) + z327)), some (0, ((((((8 - 1) + (-1)) + (-1)) + (-1)) + (-1)) + (-1))), some (0, ((z331 * 2) + z337))]) c_163_62 rfl rfl ?_
                                    refine n_iload c_163_64 rfl ?_
                                    refine n_iconst c_163_66 ?_
                                    refine n_if2_le c_163_67 (by omega) (by omega) ?_ ?_
                                    · intro h339
                                      exfalso; omega
                                    · intro h340
                                      refine n_iload c_163_70 rfl ?_
                                      refine n_aload_n c_163_72 rfl ?_
                                      refine n_getV (bi := 0) c_163_73 sc_112.n rfl rfl rfl (t_dm hS hdm) ?_
                                      intro z341 ez341 f342
                                      obtain rfl : z341 = 2 := by omega
                                      refine n_imul c_163_76 rfl ?_
                                      refine n_aload_n c_163_77 rfl ?_
                                      refine n_getR c_163_78 sc_112.n rfl rfl rfl r_112_18 ?_
                                      refine n_bipush c_163_81 rfl ?_
                                      refine n_iload c_163_83 rfl ?_
                                      refine n_imul c_163_85 rfl ?_
                                      refine n_iload c_163_86 rfl ?_
                                      refine n_iadd c_163_88 rfl ?_
                                      refine n_ialoadV c_163_89 sc_126.n rfl rfl rfl (by omega) (t_126 hS (by omega)) ?_
                                      intro z343 ez343 f344
                                      refine n_iadd c_163_90 rfl ?_
                                      refine n_istore (L2 := [some (2, 112), some (0, a), some (0, 8), some (0, x), some (0, y), some (0, w), some (0, s), some (0, z1), some (0, ((((((((((0 * 2) + z247) * 2) + z267) * 2) + z287) * 2) + z307) * 2) + z327)), some (0, ((((((8 - 1) + (-1)) + (-1)) + (-1)) + (-1)) + (-1))), some (0, ((((z331 * 2) + z337) * 2) + z343))]) c_163_91 rfl rfl ?_
                                      refine n_iload c_163_93 rfl ?_
                                      refine n_aload_n c_163_95 rfl ?_
                                      refine n_getV (bi := 0) c_163_96 sc_112.n rfl rfl rfl (t_dm hS hdm) ?_
                                      intro z345 ez345 f346
                                      obtain rfl : z345 = 2 := by omega
                                      refine n_imul c_163_99 rfl ?_
                                      refine n_aload_n c_163_100 rfl ?_
                                      refine n_getR c_163_101 sc_112.n rfl rfl rfl r_112_6 ?_
                                      refine n_bipush c_163_104 rfl ?_
                                      refine n_iload_n c_163_106 rfl ?_
                                      refine n_imul c_163_107 rfl ?_
                                      refine n_iload c_163_108 rfl ?_
                                      refine n_iadd c_163_110 rfl ?_
                                      refine n_ialoadV c_163_111 sc_117.n rfl rfl rfl (by omega) (t_117 hS (by omega)) ?_
                                      intro z347 ez347 f348
                                      refine n_iadd c_163_112 rfl ?_
                                      refine n_istore (L2 := [some (2, 112), some (0, a), some (0, 8), some (0, x), some (0, y), some (0, w), some (0, s), some (0, z1), some (0, ((((((((((((0 * 2) + z247) * 2) + z267) * 2) + z287) * 2) + z307) * 2) + z327) * 2) + z347)), some (0, ((((((8 - 1) + (-1)) + (-1)) + (-1)) + (-1)) + (-1))), some (0, ((((z331 * 2) + z337) * 2) + z343))]) c_163_113 rfl rfl ?_
                                      refine n_iinc (L2 := [some (2, 112), some (0, a), some (0, 8), some (0, x), some (0, y), some (0, w), some (0, s), some (0, z1), some (0, ((((((((((((0 * 2) + z247) * 2) + z267) * 2) + z287) * 2) + z307) * 2) + z327) * 2) + z347)), some (0, (((((((8 - 1) + (-1)) + (-1)) + (-1)) + (-1)) + (-1)) + (-1))), some (0, ((((z331 * 2) + z337) * 2) + z343))]) c_163_115 rfl rfl rfl ?_
                                      refine n_goto c_163_118 ?_
                                      refine n_iload c_163_16 rfl ?_
                                      refine n_if0_lt c_163_18 (by omega) ?_ ?_
                                      · intro h349
                                        exfalso; omega
                                      · intro h350
                                        refine n_aload_n c_163_21 rfl ?_
                                        refine n_getR c_163_22 sc_112.n rfl rfl rfl r_112_18 ?_
                                        refine n_bipush c_163_25 rfl ?_
                                        refine n_iload_n c_163_27 rfl ?_
                                        refine n_imul c_163_28 rfl ?_
                                        refine n_iload c_163_29 rfl ?_
                                        refine n_iadd c_163_31 rfl ?_
                                        refine n_ialoadV c_163_32 sc_126.n rfl rfl rfl (by omega) (t_126 hS (by omega)) ?_
                                        intro z351 ez351 f352
                                        refine n_istore (L2 := [some (2, 112), some (0, a), some (0, 8), some (0, x), some (0, y), some (0, w), some (0, s), some (0, z1), some (0, ((((((((((((0 * 2) + z247) * 2) + z267) * 2) + z287) * 2) + z307) * 2) + z327) * 2) + z347)), some (0, (((((((8 - 1) + (-1)) + (-1)) + (-1)) + (-1)) + (-1)) + (-1))), some (0, z351)]) c_163_33 rfl rfl ?_
                                        refine n_iload c_163_35 rfl ?_
                                        refine n_iconst c_163_37 ?_
                                        refine n_if2_le c_163_38 (by omega) (by omega) ?_ ?_
                                        · intro h353
                                          exfalso; omega
                                        · intro h354
                                          refine n_iload c_163_41 rfl ?_
                                          refine n_aload_n c_163_43 rfl ?_
                                          refine n_getV (bi := 0) c_163_44 sc_112.n rfl rfl rfl (t_dm hS hdm) ?_
                                          intro z355 ez355 f356
                                          obtain rfl : z355 = 2 := by omega
                                          refine n_imul c_163_47 rfl ?_
                                          refine n_aload_n c_163_48 rfl ?_
                                          refine n_getR c_163_49 sc_112.n rfl rfl rfl r_112_18 ?_
                                          refine n_bipush c_163_52 rfl ?_
                                          refine n_iload c_163_54 rfl ?_
                                          refine n_imul c_163_56 rfl ?_
                                          refine n_iload c_163_57 rfl ?_
                                          refine n_iadd c_163_59 rfl ?_
                                          refine n_ialoadV c_163_60 sc_126.n rfl rfl rfl (by omega) (t_126 hS (by omega)) ?_
                                          intro z357 ez357 f358
                                          refine n_iadd c_163_61 rfl ?_
                                          refine n_istore (L2 := [some (2, 112), some (0, a), some (0, 8), some (0, x), some (0, y), some (0, w), some (0, s), some (0, z1), some (0, ((((((((((((0 * 2) + z247) * 2) + z267) * 2) + z287) * 2) + z307) * 2) + z327) * 2) + z347)), some (0, (((((((8 - 1) + (-1)) + (-1)) + (-1)) + (-1)) + (-1)) + (-1))), some (0, ((z351 * 2) + z357))]) c_163_62 rfl rfl ?_
                                          refine n_iload c_163_64 rfl ?_
                                          refine n_iconst c_163_66 ?_
                                          refine n_if2_le c_163_67 (by omega) (by omega) ?_ ?_
                                          · intro h359
                                            exfalso; omega
                                          · intro h360
                                            refine n_iload c_163_70 rfl ?_
                                            refine n_aload_n c_163_72 rfl ?_
                                            refine n_getV (bi := 0) c_163_73 sc_112.n rfl rfl rfl (t_dm hS hdm) ?_
                                            intro z361 ez361 f362
                                            obtain rfl : z361 = 2 := by omega
                                            refine n_imul c_163_76 rfl ?_
                                            refine n_aload_n c_163_77 rfl ?_
                                            refine n_getR c_163_78 sc_112.n rfl rfl rfl r_112_18 ?_
                                            refine n_bipush c_163_81 rfl ?_
                                            refine n_iload c_163_83 rfl ?_
                                            refine n_imul c_163_85 rfl ?_
                                            refine n_iload c_163_86 rfl ?_
                                            refine n_iadd c_163_88 rfl ?_
                                            refine n_ialoadV c_163_89 sc_126.n rfl rfl rfl (by omega) (t_126 hS (by omega)) ?_
                                            intro z363 ez363 f364
                                            refine n_iadd c_163_90 rfl ?_
                                            refine n_istore (L2 := [some (2, 112), some (0, a), some (0, 8), some (0, x), some (0, y), some (0, w), some (0, s), some (0, z1), some (0, ((((((((((((0 * 2) + z247) * 2) + z267) * 2) + z287) * 2) + z307) * 2) + z327) * 2) + z347)), some (0, (((((((8 - 1) + (-1)) + (-1)) + (-1)) + (-1)) + (-1)) + (-1))), some (0, ((((z351 * 2) + z357) * 2) + z363))]) c_163_91 rfl rfl ?_
                                            refine n_iload c_163_93 rfl ?_
                                            refine n_aload_n c_163_95 rfl ?_
                                            refine n_getV (bi := 0) c_163_96 sc_112.n rfl rfl rfl (t_dm hS hdm) ?_
                                            intro z365 ez365 f366
                                            obtain rfl : z365 = 2 := by omega
                                            refine n_imul c_163_99 rfl ?_
                                            refine n_aload_n c_163_100 rfl ?_
                                            refine n_getR c_163_101 sc_112.n rfl rfl rfl r_112_6 ?_
                                            refine n_bipush c_163_104 rfl ?_
                                            refine n_iload_n c_163_106 rfl ?_
                                            refine n_imul c_163_107 rfl ?_
                                            refine n_iload c_163_108 rfl ?_
                                            refine n_iadd c_163_110 rfl ?_
                                            refine n_ialoadV c_163_111 sc_117.n rfl rfl rfl (by omega) (t_117 hS (by omega)) ?_
                                            intro z367 ez367 f368
                                            refine n_iadd c_163_112 rfl ?_
                                            refine n_istore (L2 := [some (2, 112), some (0, a), some (0, 8), some (0, x), some (0, y), some (0, w), some (0, s), some (0, z1), some (0, ((((((((((((((0 * 2) + z247) * 2) + z267) * 2) + z287) * 2) + z307) * 2) + z327) * 2) + z347) * 2) + z367)), some (0, (((((((8 - 1) + (-1)) + (-1)) + (-1)) + (-1)) + (-1)) + (-1))), some (0, ((((z351 * 2) + z357) * 2) + z363))]) c_163_113 rfl rfl ?_
                                            refine n_iinc (L2 := [some (2, 112), some (0, a), some (0, 8), some (0, x), some (0, y), some (0, w), some (0, s), some (0, z1), some (0, ((((((((((((((0 * 2) + z247) * 2) + z267) * 2) + z287) * 2) + z307) * 2) + z327) * 2) + z347) * 2) + z367)), some (0, ((((((((8 - 1) + (-1)) + (-1)) + (-1)) + (-1)) + (-1)) + (-1)) + (-1))), some (0, ((((z351 * 2) + z357) * 2) + z363))]) c_163_115 rfl rfl rfl ?_
                                            refine n_goto c_163_118 ?_
                                            refine n_iload c_163_16 rfl ?_
                                            refine n_if0_lt c_163_18 (by omega) ?_ ?_
                                            · intro h369
                                              exfalso; omega
                                            · intro h370
                                              refine n_aload_n c_163_21 rfl ?_
                                              refine n_getR c_163_22 sc_112.n rfl rfl rfl r_112_18 ?_
                                              refine n_bipush c_163_25 rfl ?_
                                              refine n_iload_n c_163_27 rfl ?_
                                              refine n_imul c_163_28 rfl ?_
                                              refine n_iload c_163_29 rfl ?_
                                              refine n_iadd c_163_31 rfl ?_
                                              refine n_ialoadV c_163_32 sc_126.n rfl rfl rfl (by omega) (t_126 hS (by omega)) ?_
                                              intro z371 ez371 f372
                                              refine n_istore (L2 := [some (2, 112), some (0, a), some (0, 8), some (0, x), some (0, y), some (0, w), some (0, s), some (0, z1), some (0, ((((((((((((((0 * 2) + z247) * 2) + z267) * 2) + z287) * 2) + z307) * 2) + z327) * 2) + z347) * 2) + z367)), some (0, ((((((((8 - 1) + (-1)) + (-1)) + (-1)) + (-1)) + (-1)) + (-1)) + (-1))), some (0, z371)]) c_163_33 rfl rfl ?_
                                              refine n_iload c_163_35 rfl ?_
                                              refine n_iconst c_163_37 ?_
                                              refine n_if2_le c_163_38 (by omega) (by omega) ?_ ?_
                                              · intro h373
                                                exfalso; omega
                                              · intro h374
                                                refine n_iload c_163_41 rfl ?_
                                                refine n_aload_n c_163_43 rfl ?_
                                                refine n_getV (bi := 0) c_163_44 sc_112.n rfl rfl rfl (t_dm hS hdm) ?_
                                                intro z375 ez375 f376
                                                obtain rfl : z375 = 2 := by omega
                                                refine n_imul c_163_47 rfl ?_
                                                refine n_aload_n c_163_48 rfl ?_
                                                refine n_getR c_163_49 sc_112.n rfl rfl rfl r_112_18 ?_
                                                refine n_bipush c_163_52 rfl ?_
                                                refine n_iload c_163_54 rfl ?_
                                                refine n_imul c_163_56 rfl ?_
                                                refine n_iload c_163_57 rfl ?_
                                                refine n_iadd c_163_59 rfl ?_
                                                refine n_ialoadV c_163_60 sc_126.n rfl rfl rfl (by omega) (t_126 hS (by omega)) ?_
                                                intro z377 ez377 f378
                                                refine n_iadd c_163_61 rfl ?_
                                                refine n_istore (L2 := [some (2, 112), some (0, a), some (0, 8), some (0, x), some (0, y), some (0, w), some (0, s), some (0, z1), some (0, ((((((((((((((0 * 2) + z247) * 2) + z267) * 2) + z287) * 2) + z307) * 2) + z327) * 2) + z347) * 2) + z367)), some (0, ((((((((8 - 1) + (-1)) + (-1)) + (-1)) + (-1)) + (-1)) + (-1)) + (-1))), some (0, ((z371 * 2) + z377))]) c_163_62 rfl rfl ?_
                                                refine n_iload c_163_64 rfl ?_
                                                refine n_iconst c_163_66 ?_
                                                refine n_if2_le c_163_67 (by omega) (by omega) ?_ ?_
                                                · intro h379
                                                  exfalso; omega
                                                · intro h380
                                                  refine n_iload c_163_70 rfl ?_
                                                  refine n_aload_n c_163_72 rfl ?_
                                                  refine n_getV (bi := 0) c_163_73 sc_112.n rfl rfl rfl (t_dm hS hdm) ?_
                                                  intro z381 ez381 f382
                                                  obtain rfl : z381 = 2 := by omega
                                                  refine n_imul c_163_76 rfl ?_
                                                  refine n_aload_n c_163_77 rfl ?_
                                                  refine n_getR c_163_78 sc_112.n rfl rfl rfl r_112_18 ?_
                                                  refine n_bipush c_163_81 rfl ?_
                                                  refine n_iload c_163_83 rfl ?_
                                                  refine n_imul c_163_85 rfl ?_
                                                  refine n_iload c_163_86 rfl ?_
                                                  refine n_iadd c_163_88 rfl ?_
                                                  refine n_ialoadV c_163_89 sc_126.n rfl rfl rfl (by omega) (t_126 hS (by omega)) ?_
                                                  intro z383 ez383 f384
                                                  refine n_iadd c_163_90 rfl ?_
                                                  refine n_istore (L2 := [some (2, 112), some (0, a), some (0, 8), some (0, x), some (0, y), some (0, w), some (0, s), some (0, z1), some (0, ((((((((((((((0 * 2) + z247) * 2) + z267) * 2) + z287) * 2) + z307) * 2) + z327) * 2) + z347) * 2) + z367)), some (0, ((((((((8 - 1) + (-1)) + (-1)) + (-1)) + (-1)) + (-1)) + (-1)) + (-1))), some (0, ((((z371 * 2) + z377) * 2) + z383))]) c_163_91 rfl rfl ?_
                                                  refine n_iload c_163_93 rfl ?_
                                                  refine n_aload_n c_163_95 rfl ?_
                                                  refine n_getV (bi := 0) c_163_96 sc_112.n rfl rfl rfl (t_dm hS hdm) ?_
                                                  intro z385 ez385 f386
                                                  obtain rfl : z385 = 2 := by omega
                                                  refine n_imul c_163_99 rfl ?_
                                                  refine n_aload_n c_163_100 rfl ?_
                                                  refine n_getR c_163_101 sc_112.n rfl rfl rfl r_112_6 ?_
                                                  refine n_bipush c_163_104 rfl ?_
                                                  refine n_iload_n c_163_106 rfl ?_
                                                  refine n_imul c_163_107 rfl ?_
                                                  refine n_iload c_163_108 rfl ?_
                                                  refine n_iadd c_163_110 rfl ?_
                                                  refine n_ialoadV c_163_111 sc_117.n rfl rfl rfl (by omega) (t_117 hS (by omega)) ?_
                                                  intro z387 ez387 f388
                                                  refine n_iadd c_163_112 rfl ?_
                                                  refine n_istore (L2 := [some (2, 112), some (0, a), some (0, 8), some (0, x), some (0, y), some (0, w), some (0, s), some (0, z1), some (0, ((((((((((((((((0 * 2) + z247) * 2) + z267) * 2) + z287) * 2) + z307) * 2) + z327) * 2) + z347) * 2) + z367) * 2) + z387)), some (0, ((((((((8 - 1) + (-1)) + (-1)) + (-1)) + (-1)) + (-1)) + (-1)) + (-1))), some (0, ((((z371 * 2) + z377) * 2) + z383))]) c_163_113 rfl rfl ?_
                                                  refine n_iinc (L2 := [some (2, 112), some (0, a), some (0, 8), some (0, x), some (0, y), some (0, w), some (0, s), some (0, z1), some (0, ((((((((((((((((0 * 2) + z247) * 2) + z267) * 2) + z287) * 2) + z307) * 2) + z327) * 2) + z347) * 2) + z367) * 2) + z387)), some (0, (((((((((8 - 1) + (-1)) + (-1)) + (-1)) + (-1)) + (-1)) + (-1)) + (-1)) + (-1))), some (0, ((((z371 * 2) + z377) * 2) + z383))]) c_163_115 rfl rfl rfl ?_
                                                  refine n_goto c_163_118 ?_
                                                  refine n_iload c_163_16 rfl ?_
                                                  refine n_if0_lt c_163_18 (by omega) ?_ ?_
                                                  · intro h389
                                                    refine n_aload_n c_163_121 rfl ?_
                                                    refine n_getR c_163_122 sc_112.n rfl rfl rfl r_112_17 ?_
                                                    refine n_iload c_163_125 rfl ?_
                                                    refine n_ialoadV c_163_127 sc_125.n rfl rfl rfl (by omega) (t_125 hS (by omega)) ?_
                                                    intro z390 ez390 f391
                                                    refine n_if0_eq c_163_128 (by omega) ?_ ?_
                                                    · intro h392
                                                      refine n_fg (le_s (le_n (le_n (le_n (le_n (le_n (le_s (le_n (le_s (le_n (le_n le_0))))))))))) ?_
                                                      exact (mjoined8_2_c hS hdm ha hx hy hw hs 14).1 _ M hS (by omega) (by omega)
                                                    · intro h393
                                                      refine n_aload_n c_163_131 rfl ?_
                                                      refine n_getR c_163_132 sc_112.n rfl rfl rfl r_112_17 ?_
                                                      refine n_iload c_163_135 rfl ?_
                                                      refine n_ialoadV c_163_137 sc_125.n rfl rfl rfl (by omega) (t_125 hS (by omega)) ?_
                                                      intro z394 ez394 f395
                                                      refine n_iload c_163_138 rfl ?_
                                                      refine n_iconst c_163_140 ?_
                                                      refine n_iadd c_163_141 rfl ?_
                                                      refine n_if2_le c_163_142 (by omega) (by omega) ?_ ?_
                                                      · intro h396
                                                        refine n_fg (le_n (le_n (le_n (le_n (le_n (le_n (le_n (le_n (le_n (le_n (le_n le_0))))))))))) ?_
                                                        exact (mjoined8_2_c hS hdm ha hx hy hw hs 14).2  M hS  (by omega)
                                                      · intro h397
                                                        refine n_fg (le_s (le_n (le_n (le_n (le_n (le_n (le_s (le_n (le_s (le_n (le_n le_0))))))))))) ?_
                                                        exact (mjoined8_2_c hS hdm ha hx hy hw hs 14).1 _ M hS (by omega) (by omega)
                                                  · intro h398
                                                    exfalso; omega
