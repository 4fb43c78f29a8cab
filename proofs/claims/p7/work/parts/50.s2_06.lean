/-! The methods, by program. -/
set_option maxHeartbeats 4000000 in
theorem actOf_2 {xs : List Int32} {e : Nat} {ac : Int} {M0 M : nM} {m n i : Int} (hS : Sf 2 ac M0 M) (hm : -2147483648 ≤ m ∧ m ≤ 2147483647) (hn : -2147483648 ≤ n ∧ n ≤ 2147483647) (hi : -2147483648 ≤ i ∧ i ≤ 2147483647) : nW xs (e + 31) 108 0 [some (2, 3), some (0, m), some (0, n), some (0, i)] [] M (nPI fun z M1 => Sf 2 ac M0 M1 ∧ (-2147483648 ≤ z ∧ z ≤ 2147483647)) := by
  have hd : (2 : Int) = 2 ∨ (2 : Int) = 3 := by decide
  have hac := hS.2.2.2.2
  refine n_aload_n c_108_0 rfl ?_
  refine n_getR c_108_1 sc_3.n rfl rfl rfl r_3_0 ?_
  refine n_iload_n c_108_4 rfl ?_
  refine n_v1I c_108_5 rfl sc_4.n rfl rfl rfl rfl (isMadeOf_2 (n := n) hS (by omega)) ?_
  intro z1 M2 hP3
  obtain ⟨eM, f3, f3p0⟩ := hP3
  subst eM
  refine n_if0_ne c_108_8 (by omega) ?_ ?_
  · intro h4
    refine n_aload_n c_108_13 rfl ?_
    refine n_iload_n c_108_14 rfl ?_
    refine n_iload_n c_108_15 rfl ?_
    refine n_v2V c_108_16 rfl sc_3.n rfl rfl rfl rfl (findKeepers_2 (m := m) (n := n) hS (by omega) (by omega)) ?_
    intro  M5 hP6
    have hS5 := hP6
    refine n_aload_n c_108_19 rfl ?_
    refine n_getR c_108_20 sc_3.n rfl rfl rfl r_3_9 ?_
    refine n_iload_n c_108_23 rfl ?_
    refine n_v1I c_108_24 rfl sc_46.n rfl rfl rfl rfl (nth46_2 (i := i) hS5 (by omega)) ?_
    intro z7 M8 hP9
    obtain ⟨eM, f9⟩ := hP9
    subst eM
    exact n_rI c_108_27 rfl ⟨hS5, by omega⟩
  · intro h10
    refine n_iconst c_108_11 ?_
    exact n_rI c_108_12 rfl ⟨hS, by omega⟩

set_option maxHeartbeats 4000000 in
theorem solve_2_c {xs : List Int32} {e : Nat} {ac : Int} {M0 M : nM} (hS : Sf 2 ac M0 M)  : ∀ nn : Nat, (∀ (x1 : Int) (M : nM), Sf 2 ac M0 M → (0 ≤ x1 ∧ x1 ≤ 30) → (30 - x1) * 1 + 1 < (nn : Int) → nW xs (e + 30) 134 31 [some (2, 3), some (0, x1)] [] M (nPV fun M1 => Sf 2 ac M0 M1)) := by
  have hd : (2 : Int) = 2 ∨ (2 : Int) = 3 := by decide
  have hac := hS.2.2.2.2
  intro nn
  induction nn with
  | zero => intros; omega
  | succ nn ih =>
    intro x1 M hS k1 hnn
    refine n_iload_n c_134_31 rfl ?_
    refine n_aload_n c_134_32 rfl ?_
    refine n_getR c_134_33 sc_3.n rfl rfl rfl r_3_6 ?_
    refine n_getV (bi := 1) c_134_36 sc_32.n rfl rfl rfl (t_32_1 hS) ?_
    intro z1 ez1 f2
    refine n_if2_ge c_134_39 (by omega) (by omega) ?_ ?_
    · intro h3
      refine n_aload_n c_134_99 rfl ?_
      refine n_getR c_134_100 sc_3.n rfl rfl rfl r_3_7 ?_
      refine n_v0V c_134_103 rfl sc_38.n rfl rfl rfl rfl (order_2  hS ) ?_
      intro  M4 hP5
      have hS4 := hP5
      refine n_aload_n c_134_106 rfl ?_
      refine n_getR c_134_107 sc_3.n rfl rfl rfl r_3_7 ?_
      refine n_aload_n c_134_110 rfl ?_
      refine n_getR c_134_111 sc_3.n rfl rfl rfl r_3_10 ?_
      refine n_v1V c_134_114 rfl sc_38.n rfl rfl rfl rfl (findAll48_2  hS4 ) ?_
      intro  M6 hP7
      have hS6 := hP7
      refine n_aload_n c_134_117 rfl ?_
      refine n_iconst c_134_118 ?_
      refine n_putZV (bi := 18) hS6 c_134_119 sc_3.n rfl rfl rfl (by omega) rfl (w_3_18 (by omega)) ?_
      intro M8 eM8 hS8
      have g8_0 : M8 3 18 = 1 := by rw [eM8]; exact nu_s _ _ _ _
      exact n_rV c_134_122 rfl hS8
    · intro h9
      refine n_aload_n c_134_42 rfl ?_
      refine n_getR c_134_43 sc_3.n rfl rfl rfl r_3_7 ?_
      refine n_aload_n c_134_46 rfl ?_
      refine n_getR c_134_47 sc_3.n rfl rfl rfl r_3_6 ?_
      refine n_getR c_134_50 sc_32.n rfl rfl rfl r_32_3 ?_
      refine n_iload_n c_134_53 rfl ?_
      refine n_ialoadV c_134_54 sc_34.n rfl rfl rfl (by omega) (t_34 hS (by omega)) ?_
      intro z10 ez10 f11
      refine n_aload_n c_134_55 rfl ?_
      refine n_getR c_134_56 sc_3.n rfl rfl rfl r_3_6 ?_
      refine n_getR c_134_59 sc_32.n rfl rfl rfl r_32_4 ?_
      refine n_iload_n c_134_62 rfl ?_
      refine n_ialoadV c_134_63 sc_35.n rfl rfl rfl (by omega) (t_35 hS (by omega)) ?_
      intro z12 ez12 f13
      refine n_aload_n c_134_64 rfl ?_
      refine n_getR c_134_65 sc_3.n rfl rfl rfl r_3_6 ?_
      refine n_getR c_134_68 sc_32.n rfl rfl rfl r_32_5 ?_
      refine n_iload_n c_134_71 rfl ?_
      refine n_ialoadV c_134_72 sc_36.n rfl rfl rfl (by omega) (t_36 hS (by omega)) ?_
      intro z14 ez14 f15
      refine n_aload_n c_134_73 rfl ?_
      refine n_getR c_134_74 sc_3.n rfl rfl rfl r_3_3 ?_
      refine n_aload_n c_134_77 rfl ?_
      refine n_getR c_134_78 sc_3.n rfl rfl rfl r_3_6 ?_
      refine n_getR c_134_81 sc_32.n rfl rfl rfl r_32_2 ?_
      refine n_iload_n c_134_84 rfl ?_
      refine n_ialoadV c_134_85 sc_33.n rfl rfl rfl (by omega) (t_33 hS (by omega)) ?_
      intro z16 ez16 f17
      refine n_aaload c_134_86 sc_13.n rfl rfl rfl (by omega) (r_laws _) ?_
      have q18 : LawAt (79 + 2 * z16) := by unfold LawAt; omega
      refine n_getV (bi := 2) c_134_87 q18.c0.1.n rfl rfl rfl (t_law hS q18).2.2.1 ?_
      intro z19 ez19 f20
      refine n_v4V c_134_90 rfl sc_38.n rfl rfl rfl rfl (limit_2 (p := z10) (q := z12) (r := z14) (w := z19) hS (by omega) (by omega) (by omega) (by omega)) ?_
      intro  M21 hP22
      have hS21 := hP22
      refine n_iinc (L2 := [some (2, 3), some (0, (x1 + 1))]) c_134_93 rfl rfl rfl ?_
      refine n_goto c_134_96 ?_
      refine n_fg (le_s (le_s le_0)) ?_
      exact ih _ M21 hS21 (by omega) (by omega)
set_option maxHeartbeats 4000000 in
theorem solve_2 {xs : List Int32} {e : Nat} {ac : Int} {M0 M : nM} (hS : Sf 2 ac M0 M)  : nW xs (e + 30) 134 0 [some (2, 3), none] [] M (nPV fun M1 => Sf 2 ac M0 M1) := by
  have hd : (2 : Int) = 2 ∨ (2 : Int) = 3 := by decide
  have hac := hS.2.2.2.2
  refine n_aload_n c_134_0 rfl ?_
  refine n_getV (bi := 18) c_134_1 sc_3.n rfl rfl rfl (t_3_18 hS) ?_
  intro z1 ez1 f2
  refine n_if0_eq c_134_4 (by omega) ?_ ?_
  · intro h3
    refine n_aload_n c_134_8 rfl ?_
    refine n_getR c_134_9 sc_3.n rfl rfl rfl r_3_7 ?_
    refine n_aload_n c_134_12 rfl ?_
    refine n_getR c_134_13 sc_3.n rfl rfl rfl r_3_0 ?_
    refine n_getV (bi := 0) c_134_16 sc_4.n rfl rfl rfl (t_4_0 hS) ?_
    intro z4 ez4 f5
    obtain rfl : z4 = 2 := by omega
    refine n_aload_n c_134_19 rfl ?_
    refine n_getR c_134_20 sc_3.n rfl rfl rfl r_3_6 ?_
    refine n_getV (bi := 0) c_134_23 sc_32.n rfl rfl rfl (t_32_0 hS) ?_
    intro z6 ez6 f7
    refine n_v2V c_134_26 rfl sc_38.n rfl rfl rfl rfl (nstart_2 (c := z6) hS (by omega)) ?_
    intro  M8 hP9
    have hS8 := hP9
    refine n_iconst c_134_29 ?_
    refine n_istore_n (L2 := [some (2, 3), some (0, 0)]) c_134_30 rfl rfl ?_
    refine n_fg (le_s (le_s le_0)) ?_
    exact (solve_2_c hS  74) _ M8 hS8 (by omega) (by omega)
  · intro h10
    exact n_rV c_134_7 rfl hS

set_option maxHeartbeats 4000000 in
theorem answers_2 {xs : List Int32} {e : Nat} {ac : Int} {M0 M : nM} (hS : Sf 2 ac M0 M)  : nW xs (e + 31) 118 0 [some (2, 3)] [] M (nPI fun z M1 => Sf 2 ac M0 M1 ∧ (-2147483648 ≤ z ∧ z ≤ 2147483647)) := by
  have hd : (2 : Int) = 2 ∨ (2 : Int) = 3 := by decide
  have hac := hS.2.2.2.2
  refine n_aload_n c_118_0 rfl ?_
  refine n_v0V c_118_1 rfl sc_3.n rfl rfl rfl rfl (solve_2  hS ) ?_
  intro  M1 hP2
  have hS1 := hP2
  refine n_aload_n c_118_4 rfl ?_
  refine n_getR c_118_5 sc_3.n rfl rfl rfl r_3_10 ?_
  refine n_getV (bi := 1) c_118_8 sc_48.n rfl rfl rfl (t_48_1 hS1) ?_
  intro z3 ez3 f4
  exact n_rI c_118_11 rfl ⟨hS1, by omega⟩

set_option maxHeartbeats 4000000 in
theorem answer_2 {xs : List Int32} {e : Nat} {ac : Int} {M0 M : nM} {i : Int} (hS : Sf 2 ac M0 M) (hi : -2147483648 ≤ i ∧ i ≤ 2147483647) : nW xs (e + 31) 119 0 [some (2, 3), some (0, i)] [] M (nPI fun z M1 => Sf 2 ac M0 M1 ∧ (-2147483648 ≤ z ∧ z ≤ 2147483647)) := by
  have hd : (2 : Int) = 2 ∨ (2 : Int) = 3 := by decide
  have hac := hS.2.2.2.2
  refine n_aload_n c_119_0 rfl ?_
  refine n_v0V c_119_1 rfl sc_3.n rfl rfl rfl rfl (solve_2  hS ) ?_
  intro  M1 hP2
  have hS1 := hP2
  refine n_aload_n c_119_4 rfl ?_
  refine n_getR c_119_5 sc_3.n rfl rfl rfl r_3_10 ?_
  refine n_iload_n c_119_8 rfl ?_
  refine n_v1I c_119_9 rfl sc_48.n rfl rfl rfl rfl (nth48_2 (i := i) hS1 (by omega)) ?_
  intro z3 M4 hP5
  obtain ⟨eM, f5⟩ := hP5
  subst eM
  exact n_rI c_119_12 rfl ⟨hS1, by omega⟩

set_option maxHeartbeats 4000000 in
theorem narrowed_2 {xs : List Int32} {e : Nat} {ac : Int} {M0 M : nM} {u : Int} (hS : Sf 2 ac M0 M) (hu : -2147483648 ≤ u ∧ u ≤ 2147483647) : nW xs (e + 4) 117 0 [some (2, 3), some (0, u)] [] M (nPI fun z M1 => Sf 2 ac M0 M1 ∧ (-2147483648 ≤ z ∧ z ≤ 2147483647)) := by
  have hd : (2 : Int) = 2 ∨ (2 : Int) = 3 := by decide
  have hac := hS.2.2.2.2
  refine n_aload_n c_117_0 rfl ?_
  refine n_getR c_117_1 sc_3.n rfl rfl rfl r_3_6 ?_
  refine n_iload_n c_117_4 rfl ?_
  refine n_v1I c_117_5 rfl sc_32.n rfl rfl rfl rfl (isUnknown_2 (u := u) hS (by omega)) ?_
  intro z1 M2 hP3
  obtain ⟨eM, f3, f3p0⟩ := hP3
  subst eM
  refine n_if0_ne c_117_8 (by omega) ?_ ?_
  · intro h4
    refine n_aload_n c_117_13 rfl ?_
    refine n_getR c_117_14 sc_3.n rfl rfl rfl r_3_6 ?_
    refine n_aload_n c_117_17 rfl ?_
    refine n_getR c_117_18 sc_3.n rfl rfl rfl r_3_3 ?_
    refine n_aload_n c_117_21 rfl ?_
    refine n_getR c_117_22 sc_3.n rfl rfl rfl r_3_0 ?_
    refine n_v2V c_117_25 rfl sc_32.n rfl rfl rfl rfl (narrow_2  hS ) ?_
    intro  M5 hP6
    have hS5 := hP6
    refine n_aload_n c_117_28 rfl ?_
    refine n_getR c_117_29 sc_3.n rfl rfl rfl r_3_6 ?_
    refine n_getR c_117_32 sc_32.n rfl rfl rfl r_32_6 ?_
    refine n_iload_n c_117_35 rfl ?_
    refine n_ialoadV c_117_36 sc_37.n rfl rfl rfl (by omega) (t_37 hS5 (by omega)) ?_
    intro z7 ez7 f8
    exact n_rI c_117_37 rfl ⟨hS5, by omega⟩
  · intro h9
    refine n_iconst c_117_11 ?_
    exact n_rI c_117_12 rfl ⟨hS, by omega⟩

set_option maxHeartbeats 4000000 in
theorem quick_2_c {xs : List Int32} {e : Nat} {ac : Int} {M0 M : nM} {k : Int} (hS : Sf 2 ac M0 M) (hk : -2147483648 ≤ k ∧ k ≤ 2147483647) : ∀ nn : Nat, (∀ (M : nM), Sf 2 ac M0 M → 1 < (nn : Int) → nW xs (e + 31) 120 60 [some (2, 3), none] [] M (nPJ fun z M1 => Sf 2 ac M0 M1 ∧ (-9223372036854775808 ≤ z ∧ z ≤ 9223372036854775807))) := by
  have hd : (2 : Int) = 2 ∨ (2 : Int) = 3 := by decide
  have hac := hS.2.2.2.2
  intro nn
  induction nn with
  | zero => intros; omega
  | succ nn ih =>
    intro M hS hnn
    refine n_aload_n c_120_60 rfl ?_
    refine n_getR c_120_61 sc_3.n rfl rfl rfl r_3_7 ?_
    refine n_aload_n c_120_64 rfl ?_
    refine n_getR c_120_65 sc_3.n rfl rfl rfl r_3_0 ?_
    refine n_getV (bi := 0) c_120_68 sc_4.n rfl rfl rfl (t_4_0 hS) ?_
    intro z1 ez1 f2
    obtain rfl : z1 = 2 := by omega
    refine n_aload_n c_120_71 rfl ?_
    refine n_getR c_120_72 sc_3.n rfl rfl rfl r_3_8 ?_
    refine n_getV (bi := 2) c_120_75 sc_44.n rfl rfl rfl (t_44_2 hS) ?_
    intro z3 ez3 f4
    refine n_v2V c_120_78 rfl sc_38.n rfl rfl rfl rfl (nstart_2 (c := z3) hS (by omega)) ?_
    intro  M5 hP6
    have hS5 := hP6
    refine n_aload_n c_120_81 rfl ?_
    refine n_aload_n c_120_82 rfl ?_
    refine n_getR c_120_83 sc_3.n rfl rfl rfl r_3_6 ?_
    refine n_v0I c_120_86 rfl sc_32.n rfl rfl rfl rfl (lawMask_2  hS5 ) ?_
    intro z7 M8 hP9
    obtain ⟨eM, f9⟩ := hP9
    subst eM
    refine n_v1V c_120_89 rfl sc_3.n rfl rfl rfl rfl (restrainForm_2 (m := z7) hS5 (by omega)) ?_
    intro  M10 hP11
    have hS10 := hP11
    refine n_aload_n c_120_92 rfl ?_
    refine n_getR c_120_93 sc_3.n rfl rfl rfl r_3_7 ?_
    refine n_v0V c_120_96 rfl sc_38.n rfl rfl rfl rfl (order_2  hS10 ) ?_
    intro  M12 hP13
    have hS12 := hP13
    refine n_aload_n c_120_99 rfl ?_
    refine n_getR c_120_100 sc_3.n rfl rfl rfl r_3_7 ?_
    refine n_aload_n c_120_103 rfl ?_
    refine n_getR c_120_104 sc_3.n rfl rfl rfl r_3_8 ?_
    refine n_v1I c_120_107 rfl sc_38.n rfl rfl rfl rfl (findFirst_2  hS12 ) ?_
    intro z14 M15 hP16
    obtain ⟨hS15, f16⟩ := hP16
    refine n_if0_eq c_120_110 (by omega) ?_ ?_
    · intro h17
      refine n_ldc2 (n := (-7)) c_120_134 rfl ?_
      exact n_rJ c_120_137 rfl ⟨hS15, by omega⟩
    · intro h18
      refine n_aload_n c_120_113 rfl ?_
      refine n_getR c_120_114 sc_3.n rfl rfl rfl r_3_8 ?_
      refine n_aload_n c_120_117 rfl ?_
      refine n_getR c_120_118 sc_3.n rfl rfl rfl r_3_7 ?_
      refine n_getR c_120_121 sc_38.n rfl rfl rfl r_38_0 ?_
      refine n_aload_n c_120_124 rfl ?_
      refine n_getR c_120_125 sc_3.n rfl rfl rfl r_3_0 ?_
      refine n_v2J c_120_128 rfl sc_44.n rfl rfl rfl rfl (fcode_2  hS15 ) ?_
      intro z19 M20 hP21
      obtain ⟨eM, f21⟩ := hP21
      subst eM
      refine n_goto c_120_131 ?_
      exact n_rJ c_120_137 rfl ⟨hS15, by omega⟩
set_option maxHeartbeats 4000000 in
theorem quick_2 {xs : List Int32} {e : Nat} {ac : Int} {M0 M : nM} {k : Int} (hS : Sf 2 ac M0 M) (hk : -2147483648 ≤ k ∧ k ≤ 2147483647) : nW xs (e + 31) 120 0 [some (2, 3), some (0, k)] [] M (nPJ fun z M1 => Sf 2 ac M0 M1 ∧ (-9223372036854775808 ≤ z ∧ z ≤ 9223372036854775807)) := by
  have hd : (2 : Int) = 2 ∨ (2 : Int) = 3 := by decide
  have hac := hS.2.2.2.2
  refine n_iload_n c_120_0 rfl ?_
  refine n_if0_ne c_120_1 (by omega) ?_ ?_
  · intro h1
    refine n_iload_n c_120_18 rfl ?_
    refine n_iconst c_120_19 ?_
    refine n_if2_ne c_120_20 (by omega) (by omega) ?_ ?_
    · intro h2
      refine n_iload_n c_120_37 rfl ?_
      refine n_iconst c_120_38 ?_
      refine n_if2_ne c_120_39 (by omega) (by omega) ?_ ?_
      · intro h3
        refine n_ldc2 (n := (-1)) c_120_56 rfl ?_
        exact n_rJ c_120_59 rfl ⟨hS, by omega⟩
      · intro h4
        refine n_aload_n c_120_42 rfl ?_
        refine n_getR c_120_43 sc_3.n rfl rfl rfl r_3_8 ?_
        refine n_aload_n c_120_46 rfl ?_
        refine n_getR c_120_47 sc_3.n rfl rfl rfl r_3_0 ?_
        refine n_v1V c_120_50 rfl sc_44.n rfl rfl rfl rfl (beSum_2  hS ) ?_
        intro  M5 hP6
        have hS5 := hP6
        refine n_goto c_120_53 ?_
        refine n_fg (le_s (le_n le_0)) ?_
        exact (quick_2_c hS hk 12)  M5 hS5  (by omega)
    · intro h7
      refine n_aload_n c_120_23 rfl ?_
      refine n_getR c_120_24 sc_3.n rfl rfl rfl r_3_8 ?_
      refine n_aload_n c_120_27 rfl ?_
      refine n_getR c_120_28 sc_3.n rfl rfl rfl r_3_0 ?_
      refine n_v1V c_120_31 rfl sc_44.n rfl rfl rfl rfl (beMost_2  hS ) ?_
      intro  M8 hP9
      have hS8 := hP9
      refine n_goto c_120_34 ?_
      refine n_fg (le_s (le_n le_0)) ?_
      exact (quick_2_c hS hk 12)  M8 hS8  (by omega)
  · intro h10
    refine n_aload_n c_120_4 rfl ?_
    refine n_getR c_120_5 sc_3.n rfl rfl rfl r_3_8 ?_
    refine n_aload_n c_120_8 rfl ?_
    refine n_getR c_120_9 sc_3.n rfl rfl rfl r_3_0 ?_
    refine n_v1V c_120_12 rfl sc_44.n rfl rfl rfl rfl (beHalf_2  hS ) ?_
    intro  M11 hP12
    have hS11 := hP12
    refine n_goto c_120_15 ?_
    refine n_fg (le_s (le_n le_0)) ?_
    exact (quick_2_c hS hk 12)  M11 hS11  (by omega)

set_option maxHeartbeats 4000000 in
theorem count_2 {xs : List Int32} {e : Nat} {ac : Int} {M0 M : nM} {w : Int} (hS : Sf 2 ac M0 M) (hw : -2147483648 ≤ w ∧ w ≤ 2147483647) : nW xs (e + 1) 121 0 [some (2, 3), some (0, w)] [] M (nPI fun z M1 => M = M1 ∧ (-2147483648 ≤ z ∧ z ≤ 2147483647)) := by
  have hd : (2 : Int) = 2 ∨ (2 : Int) = 3 := by decide
  have hac := hS.2.2.2.2
  refine n_iload_n c_121_0 rfl ?_
  refine n_sw c_121_1 (by omega) (by decide) ?_ ?_
  · intro h1
    refine n_pc (k2 := 82) rfl ?_
    refine n_iconst c_121_82 ?_
    exact n_rI c_121_83 rfl ⟨rfl, by omega⟩
  · intro h2 h2b
    rcases (show w = 0 ∨ w = 1 ∨ w = 2 ∨ w = 3 ∨ w = 4 ∨ w = 5 by omega) with h2c | h2c | h2c | h2c | h2c | h2c
    · refine ⟨_, by rw [h2c]; rfl, by decide, ?_⟩
      refine n_pc (k2 := 40) rfl ?_
      refine n_aload_n c_121_40 rfl ?_
      refine n_getR c_121_41 sc_3.n rfl rfl rfl r_3_0 ?_
      refine n_getV (bi := 0) c_121_44 sc_4.n rfl rfl rfl (t_4_0 hS) ?_
      intro z3 ez3 f4
      obtain rfl : z3 = 2 := by omega
      exact n_rI c_121_47 rfl ⟨rfl, by omega⟩
    · refine ⟨_, by rw [h2c]; rfl, by decide, ?_⟩
      refine n_pc (k2 := 48) rfl ?_
      refine n_aload_n c_121_48 rfl ?_
      refine n_getV (bi := 14) c_121_49 sc_3.n rfl rfl rfl (t_3_14x hS) ?_
      intro z5 ez5 f6
      have f6a := t_ac hS
      exact n_rI c_121_52 rfl ⟨rfl, by omega⟩
    · refine ⟨_, by rw [h2c]; rfl, by decide, ?_⟩
      refine n_pc (k2 := 53) rfl ?_
      refine n_aload_n c_121_53 rfl ?_
      refine n_getV (bi := 15) c_121_54 sc_3.n rfl rfl rfl (t_3_15 hS) ?_
      intro z7 ez7 f8
      exact n_rI c_121_57 rfl ⟨rfl, by omega⟩
    · refine ⟨_, by rw [h2c]; rfl, by decide, ?_⟩
      refine n_pc (k2 := 58) rfl ?_
      refine n_aload_n c_121_58 rfl ?_
      refine n_getR c_121_59 sc_3.n rfl rfl rfl r_3_6 ?_
      refine n_getV (bi := 0) c_121_62 sc_32.n rfl rfl rfl (t_32_0 hS) ?_
      intro z9 ez9 f10
      exact n_rI c_121_65 rfl ⟨rfl, by omega⟩
    · refine ⟨_, by rw [h2c]; rfl, by decide, ?_⟩
      refine n_pc (k2 := 66) rfl ?_
      refine n_aload_n c_121_66 rfl ?_
      refine n_getR c_121_67 sc_3.n rfl rfl rfl r_3_6 ?_
      refine n_getV (bi := 1) c_121_70 sc_32.n rfl rfl rfl (t_32_1 hS) ?_
      intro z11 ez11 f12
      exact n_rI c_121_73 rfl ⟨rfl, by omega⟩
    · refine ⟨_, by rw [h2c]; rfl, by decide, ?_⟩
      refine n_pc (k2 := 74) rfl ?_
      refine n_aload_n c_121_74 rfl ?_
      refine n_getR c_121_75 sc_3.n rfl rfl rfl r_3_1 ?_
      refine n_v0I c_121_78 rfl sc_8.n rfl rfl rfl rfl (filled_2  hS ) ?_
      intro z13 M14 hP15
      obtain ⟨eM, f15⟩ := hP15
      subst eM
      exact n_rI c_121_81 rfl ⟨rfl, by omega⟩

set_option maxHeartbeats 4000000 in
theorem cut_2 {xs : List Int32} {e : Nat} {ac : Int} {M0 M : nM} {v w : Int} (hS : Sf 2 ac M0 M) (hv : -9223372036854775808 ≤ v ∧ v ≤ 9223372036854775807) (hw : -2147483648 ≤ w ∧ w ≤ 2147483647) : nW xs e 91 0 [some (2, 8), some (1, v), none, some (0, w)] [] M (nPJ fun z M1 => M = M1 ∧ (-9223372036854775808 ≤ z ∧ z ≤ 9223372036854775807)) := by
  have hd : (2 : Int) = 2 ∨ (2 : Int) = 3 := by decide
  have hac := hS.2.2.2.2
  refine n_iload_n c_91_0 rfl ?_
  refine n_sw c_91_1 (by omega) (by decide) ?_ ?_
  · intro h1
    refine n_pc (k2 := 42) rfl ?_
    refine n_lload_n c_91_42 rfl ?_
    exact n_rJ c_91_43 rfl ⟨rfl, by omega⟩
  · intro h2 h2b
    rcases (show w = 0 ∨ w = 1 ∨ w = 2 by omega) with h2c | h2c | h2c
    · refine ⟨_, by rw [h2c]; rfl, by decide, ?_⟩
      refine n_pc (k2 := 28) rfl ?_
      refine n_lload_n c_91_28 rfl ?_
      refine n_l2i c_91_29 ?_
      refine n_wrap ?_
      have f3 := n_wr_r v
      generalize n_wr v = z4 at f3 ⊢
      refine n_i2b c_91_30 ?_
      have f5 := n_2b_r z4
      generalize n_2b z4 = z6 at f5 ⊢
      refine n_i2l c_91_31 (by omega) ?_
      exact n_rJ c_91_32 rfl ⟨rfl, by omega⟩
    · refine ⟨_, by rw [h2c]; rfl, by decide, ?_⟩
      refine n_pc (k2 := 33) rfl ?_
      refine n_lload_n c_91_33 rfl ?_
      refine n_l2i c_91_34 ?_
      refine n_wrap ?_
      have f7 := n_wr_r v
      generalize n_wr v = z8 at f7 ⊢
      refine n_i2s c_91_35 ?_
      have f9 := n_2s_r z8
      generalize n_2s z8 = z10 at f9 ⊢
      refine n_i2l c_91_36 (by omega) ?_
      exact n_rJ c_91_37 rfl ⟨rfl, by omega⟩
    · refine ⟨_, by rw [h2c]; rfl, by decide, ?_⟩
      refine n_pc (k2 := 38) rfl ?_
      refine n_lload_n c_91_38 rfl ?_
      refine n_l2i c_91_39 ?_
      refine n_wrap ?_
      have f11 := n_wr_r v
      generalize n_wr v = z12 at f11 ⊢
      refine n_i2l c_91_40 (by omega) ?_
      exact n_rJ c_91_41 rfl ⟨rfl, by omega⟩

set_option maxHeartbeats 4000000 in
theorem lay_2_c {xs : List Int32} {e : Nat} {ac : Int} {M : nM} {s w n : Int} (hS : Sf 2 ac M M) (hs : 0 ≤ s ∧ s ≤ 7) (hw : 0 ≤ w ∧ w ≤ 3) (hn : 0 ≤ n ∧ n ≤ 40) : ∀ nn : Nat, (∀ (x4 : Int) (M : nM), Sf 2 ac M M → (0 ≤ x4 ∧ x4 ≤ 40) → (40 - x4) * 1 + 1 < (nn : Int) → nW xs e 86 17 [some (2, 8), some (0, s), none, none, some (0, x4)] [] M (nPV fun M1 => Sf 2 ac M1 M1)) := by
  have hd : (2 : Int) = 2 ∨ (2 : Int) = 3 := by decide
  have hac := hS.2.2.2.2
  intro nn
  induction nn with
  | zero => intros; omega
  | succ nn ih =>
    intro x4 M hS k4 hnn
    refine n_iload c_86_17 rfl ?_
    refine n_bipush c_86_19 rfl ?_
    refine n_if2_ge c_86_21 (by omega) (by omega) ?_ ?_
    · intro h1
      exact n_rV c_86_43 rfl hS
    · intro h2
      refine n_aload_n c_86_24 rfl ?_
      refine n_getR c_86_25 sc_8.n rfl rfl rfl r_8_0 ?_
      refine n_iload_n c_86_28 rfl ?_
      refine n_bipush c_86_29 rfl ?_
      refine n_imul c_86_31 rfl ?_
      refine n_iload c_86_32 rfl ?_
      refine n_iadd c_86_34 rfl ?_
      refine n_lconst (n := 0) c_86_35 rfl ?_
      refine n_lastoreM hS c_86_36 sc_9.n rfl (by omega) (m_9 (by omega) (by omega)) ?_
      intro M3 eM3 hS3
      have g3_0 : M3 9 ((s * 40) + x4) = 0 := by rw [eM3]; exact nu_s _ _ _ _
      refine n_iinc (L2 := [some (2, 8), some (0, s), none, none, some (0, (x4 + 1))]) c_86_37 rfl rfl rfl ?_
      refine n_goto c_86_40 ?_
      refine n_fg (le_s (le_s (le_n (le_n (le_s le_0))))) ?_
      exact ih _ M3 hS3 (by omega) (by omega)
set_option maxHeartbeats 4000000 in
theorem lay_2 {xs : List Int32} {e : Nat} {ac : Int} {M : nM} {s w n : Int} (hS : Sf 2 ac M M) (hs : 0 ≤ s ∧ s ≤ 7) (hw : 0 ≤ w ∧ w ≤ 3) (hn : 0 ≤ n ∧ n ≤ 40) : nW xs e 86 0 [some (2, 8), some (0, s), some (0, w), some (0, n), none] [] M (nPV fun M1 => Sf 2 ac M1 M1) := by
  have hd : (2 : Int) = 2 ∨ (2 : Int) = 3 := by decide
  have hac := hS.2.2.2.2
  refine n_aload_n c_86_0 rfl ?_
  refine n_getR c_86_1 sc_8.n rfl rfl rfl r_8_1 ?_
  refine n_iload_n c_86_4 rfl ?_
  refine n_iload_n c_86_5 rfl ?_
  refine n_iastoreM hS c_86_6 sc_10.n rfl (by omega) (m_10 (by omega) (by omega)) ?_
  intro M1 eM1 hS1
  have g1_0 : M1 10 s = w := by rw [eM1]; exact nu_s _ _ _ _
  refine n_aload_n c_86_7 rfl ?_
  refine n_getR c_86_8 sc_8.n rfl rfl rfl r_8_2 ?_
  refine n_iload_n c_86_11 rfl ?_
  refine n_iload_n c_86_12 rfl ?_
  refine n_iastoreM hS1 c_86_13 sc_11.n rfl (by omega) (m_11 (by omega) (by omega)) ?_
  intro M2 eM2 hS2
  have g2_0 : M2 10 s = M1 10 s := by rw [eM2]; exact nu_a (by omega)
  have g2_1 : M2 11 s = n := by rw [eM2]; exact nu_s _ _ _ _
  refine n_iconst c_86_14 ?_
  refine n_istore (L2 := [some (2, 8), some (0, s), some (0, w), some (0, n), some (0, 0)]) c_86_15 rfl rfl ?_
  refine n_fg (le_s (le_s (le_n (le_n (le_s le_0))))) ?_
  exact (lay_2_c hS hs hw hn 94) _ M2 hS2 (by omega) (by omega)

set_option maxHeartbeats 4000000 in
theorem empty_2 {xs : List Int32} {e : Nat} {ac : Int} {M : nM} {s : Int} (hS : Sf 2 ac M M) (hs : 0 ≤ s ∧ s ≤ 7) : nW xs e 87 0 [some (2, 8), some (0, s)] [] M (nPV fun M1 => Sf 2 ac M1 M1) := by
  have hd : (2 : Int) = 2 ∨ (2 : Int) = 3 := by decide
  have hac := hS.2.2.2.2
  refine n_aload_n c_87_0 rfl ?_
  refine n_getR c_87_1 sc_8.n rfl rfl rfl r_8_2 ?_
  refine n_iload_n c_87_4 rfl ?_
  refine n_iconst c_87_5 ?_
  refine n_iastoreM hS c_87_6 sc_11.n rfl (by omega) (m_11 (by omega) (by omega)) ?_
  intro M1 eM1 hS1
  have g1_0 : M1 11 s = (-1) := by rw [eM1]; exact nu_s _ _ _ _
  exact n_rV c_87_7 rfl hS1

set_option maxHeartbeats 4000000 in
theorem put_2_c {xs : List Int32} {e : Nat} {ac : Int} {M : nM} {s i v : Int} (hS : Sf 2 ac M M) (hs : 0 ≤ s ∧ s ≤ 7) (hi : -2147483648 ≤ i ∧ i ≤ 2147483647) (hv : -9223372036854775808 ≤ v ∧ v ≤ 9223372036854775807) : ∀ nn : Nat, (∀ (M : nM), Sf 2 ac M M → 1 < (nn : Int) → nW xs (e + 1) 88 14 [none, none, none, none, none] [] M (nPI fun z M1 => Sf 2 ac M1 M1 ∧ (0 ≤ z ∧ z ≤ 1))) := by
  have hd : (2 : Int) = 2 ∨ (2 : Int) = 3 := by decide
  have hac := hS.2.2.2.2
  intro nn
  induction nn with
  | zero => intros; omega
  | succ nn ih =>
    intro M hS hnn
    refine n_iconst c_88_14 ?_
    exact n_rZ c_88_15 rfl (by omega) ⟨hS, by omega⟩
set_option maxHeartbeats 4000000 in
theorem put_2 {xs : List Int32} {e : Nat} {ac : Int} {M : nM} {s i v : Int} (hS : Sf 2 ac M M) (hs : 0 ≤ s ∧ s ≤ 7) (hi : -2147483648 ≤ i ∧ i ≤ 2147483647) (hv : -9223372036854775808 ≤ v ∧ v ≤ 9223372036854775807) : nW xs (e + 1) 88 0 [some (2, 8), some (0, s), some (0, i), some (1, v), none] [] M (nPI fun z M1 => Sf 2 ac M1 M1 ∧ (0 ≤ z ∧ z ≤ 1)) := by
  have hd : (2 : Int) = 2 ∨ (2 : Int) = 3 := by decide
  have hac := hS.2.2.2.2
  refine n_iload_n c_88_0 rfl ?_
  refine n_if0_lt c_88_1 (by omega) ?_ ?_
  · intro h1
    refine n_fg (le_n (le_n (le_n (le_n (le_n le_0))))) ?_
    exact (put_2_c hS hs hi hv 12)  M hS  (by omega)
  · intro h2
    refine n_iload_n c_88_4 rfl ?_
    refine n_aload_n c_88_5 rfl ?_
    refine n_getR c_88_6 sc_8.n rfl rfl rfl r_8_2 ?_
    refine n_iload_n c_88_9 rfl ?_
    refine n_ialoadV c_88_10 sc_11.n rfl rfl rfl (by omega) (t_11 hS (by omega)) ?_
    intro z3 ez3 f4
    refine n_if2_lt c_88_11 (by omega) (by omega) ?_ ?_
    · intro h5
      refine n_aload_n c_88_16 rfl ?_
      refine n_getR c_88_17 sc_8.n rfl rfl rfl r_8_0 ?_
      refine n_iload_n c_88_20 rfl ?_
      refine n_bipush c_88_21 rfl ?_
      refine n_imul c_88_23 rfl ?_
      refine n_iload_n c_88_24 rfl ?_
      refine n_iadd c_88_25 rfl ?_
      refine n_aload_n c_88_26 rfl ?_
      refine n_lload_n c_88_27 rfl ?_
      refine n_aload_n c_88_28 rfl ?_
      refine n_getR c_88_29 sc_8.n rfl rfl rfl r_8_1 ?_
      refine n_iload_n c_88_32 rfl ?_
      refine n_ialoadV c_88_33 sc_10.n rfl rfl rfl (by omega) (t_10 hS (by omega)) ?_
      intro z6 ez6 f7
      refine n_v2J c_88_34 rfl sc_8.n rfl rfl rfl rfl (cut_2 (v := v) (w := z6) hS (by omega) (by omega)) ?_
      intro z8 M9 hP10
      obtain ⟨eM, f10⟩ := hP10
      subst eM
      refine n_lastoreM hS c_88_37 sc_9.n rfl (by omega) (m_9 (by omega) (by omega)) ?_
      intro M11 eM11 hS11
      have g11_0 : M11 11 s = M 11 s := by rw [eM11]; exact nu_a (by omega)
      have g11_1 : M11 9 ((s * 40) + i) = z8 := by rw [eM11]; exact nu_s _ _ _ _
      refine n_iconst c_88_38 ?_
      exact n_rZ c_88_39 rfl (by omega) ⟨hS11, by omega⟩
    · intro h12
      refine n_fg (le_n (le_n (le_n (le_n (le_n le_0))))) ?_
      exact (put_2_c hS hs hi hv 12)  M hS  (by omega)

set_option maxHeartbeats 4000000 in
theorem row_2_c {xs : List Int32} {e : Nat} {ac : Int} {M : nM} {s w n : Int} (hS : Sf 2 ac M M) (hs : -2147483648 ≤ s ∧ s ≤ 2147483647) (hw : -2147483648 ≤ w ∧ w ≤ 2147483647) (hn : -2147483648 ≤ n ∧ n ≤ 2147483647) : ∀ nn : Nat, (∀ (M : nM), Sf 2 ac M M → 1 < (nn : Int) → nW xs (e + 1) 94 26 [none, none, none, none] [] M (nPI fun z M1 => Sf 2 ac M1 M1 ∧ (-2147483648 ≤ z ∧ z ≤ 2147483647))) := by
  have hd : (2 : Int) = 2 ∨ (2 : Int) = 3 := by decide
  have hac := hS.2.2.2.2
  intro nn
  induction nn with
  | zero => intros; omega
  | succ nn ih =>
    intro M hS hnn
    refine n_bipush c_94_26 rfl ?_
    exact n_rI c_94_28 rfl ⟨hS, by omega⟩
set_option maxHeartbeats 4000000 in
theorem row_2 {xs : List Int32} {e : Nat} {ac : Int} {M : nM} {s w n : Int} (hS : Sf 2 ac M M) (hs : -2147483648 ≤ s ∧ s ≤ 2147483647) (hw : -2147483648 ≤ w ∧ w ≤ 2147483647) (hn : -2147483648 ≤ n ∧ n ≤ 2147483647) : nW xs (e + 1) 94 0 [some (2, 3), some (0, s), some (0, w), some (0, n)] [] M (nPI fun z M1 => Sf 2 ac M1 M1 ∧ (-2147483648 ≤ z ∧ z ≤ 2147483647)) := by
  have hd : (2 : Int) = 2 ∨ (2 : Int) = 3 := by decide
  have hac := hS.2.2.2.2
  refine n_aload_n c_94_0 rfl ?_
  refine n_getR c_94_1 sc_3.n rfl rfl rfl r_3_1 ?_
  refine n_iload_n c_94_4 rfl ?_
  refine n_v1I c_94_5 rfl sc_8.n rfl rfl rfl rfl (isSlot_2 (s := s) hS (by omega)) ?_
  intro z1 M2 hP3
  obtain ⟨eM, f3, f3p0⟩ := hP3
  subst eM
  refine n_if0_eq c_94_8 (by omega) ?_ ?_
  · intro h4
    refine n_fg (le_n (le_n (le_n (le_n le_0)))) ?_
    exact (row_2_c hS hs hw hn 12)  M hS  (by omega)
  · intro h5
    refine n_iload_n c_94_11 rfl ?_
    refine n_if0_lt c_94_12 (by omega) ?_ ?_
    · intro h6
      refine n_fg (le_n (le_n (le_n (le_n le_0)))) ?_
      exact (row_2_c hS hs hw hn 12)  M hS  (by omega)
    · intro h7
      refine n_iload_n c_94_15 rfl ?_
      refine n_iconst c_94_16 ?_
      refine n_if2_gt c_94_17 (by omega) (by omega) ?_ ?_
      · intro h8
        refine n_fg (le_n (le_n (le_n (le_n le_0)))) ?_
        exact (row_2_c hS hs hw hn 12)  M hS  (by omega)
      · intro h9
        refine n_iload_n c_94_20 rfl ?_
        refine n_bipush c_94_21 rfl ?_
        refine n_if2_le c_94_23 (by omega) (by omega) ?_ ?_
        · intro h10
          refine n_iload_n c_94_29 rfl ?_
          refine n_if0_ge c_94_30 (by omega) ?_ ?_
          · intro h11
            refine n_aload_n c_94_36 rfl ?_
            refine n_getR c_94_37 sc_3.n rfl rfl rfl r_3_1 ?_
            refine n_iload_n c_94_40 rfl ?_
            refine n_iload_n c_94_41 rfl ?_
            refine n_iload_n c_94_42 rfl ?_
            refine n_v3V c_94_43 rfl sc_8.n rfl rfl rfl rfl (lay_2 (s := s) (w := w) (n := n) hS (by omega) (by omega) (by omega)) ?_
            intro  M12 hP13
            have hS12 := hP13
            refine n_iconst c_94_46 ?_
            exact n_rI c_94_47 rfl ⟨hS12, by omega⟩
          · intro h14
            refine n_bipush c_94_33 rfl ?_
            exact n_rI c_94_35 rfl ⟨hS, by omega⟩
        · intro h15
          refine n_fg (le_n (le_n (le_n (le_n le_0)))) ?_
          exact (row_2_c hS hs hw hn 12)  M hS  (by omega)

set_option maxHeartbeats 4000000 in
theorem tear_2 {xs : List Int32} {e : Nat} {ac : Int} {M : nM} {s : Int} (hS : Sf 2 ac M M) (hs : -2147483648 ≤ s ∧ s ≤ 2147483647) : nW xs (e + 2) 95 0 [some (2, 3), some (0, s)] [] M (nPI fun z M1 => Sf 2 ac M1 M1 ∧ (0 ≤ z ∧ z ≤ 1)) := by
  have hd : (2 : Int) = 2 ∨ (2 : Int) = 3 := by decide
  have hac := hS.2.2.2.2
  refine n_aload_n c_95_0 rfl ?_
  refine n_getR c_95_1 sc_3.n rfl rfl rfl r_3_1 ?_
  refine n_iload_n c_95_4 rfl ?_
  refine n_v1I c_95_5 rfl sc_8.n rfl rfl rfl rfl (hasRow_2 (s := s) hS (by omega)) ?_
  intro z1 M2 hP3
  obtain ⟨eM, f3, f3p0⟩ := hP3
  subst eM
  refine n_if0_ne c_95_8 (by omega) ?_ ?_
  · intro h4
    refine n_aload_n c_95_13 rfl ?_
    refine n_getR c_95_14 sc_3.n rfl rfl rfl r_3_1 ?_
    refine n_iload_n c_95_17 rfl ?_
    refine n_v1V c_95_18 rfl sc_8.n rfl rfl rfl rfl (empty_2 (s := s) hS (by omega)) ?_
    intro  M5 hP6
    have hS5 := hP6
    refine n_iconst c_95_21 ?_
    exact n_rZ c_95_22 rfl (by omega) ⟨hS5, by omega⟩
  · intro h7
    refine n_iconst c_95_11 ?_
    exact n_rZ c_95_12 rfl (by omega) ⟨hS, by omega⟩

set_option maxHeartbeats 4000000 in
theorem write_2 {xs : List Int32} {e : Nat} {ac : Int} {M : nM} {s i v : Int} (hS : Sf 2 ac M M) (hs : -2147483648 ≤ s ∧ s ≤ 2147483647) (hi : -2147483648 ≤ i ∧ i ≤ 2147483647) (hv : -9223372036854775808 ≤ v ∧ v ≤ 9223372036854775807) : nW xs (e + 2) 96 0 [some (2, 3), some (0, s), some (0, i), some (1, v), none] [] M (nPI fun z M1 => Sf 2 ac M1 M1 ∧ (-2147483648 ≤ z ∧ z ≤ 2147483647)) := by
  have hd : (2 : Int) = 2 ∨ (2 : Int) = 3 := by decide
  have hac := hS.2.2.2.2
  refine n_aload_n c_96_0 rfl ?_
  refine n_getR c_96_1 sc_3.n rfl rfl rfl r_3_1 ?_
  refine n_iload_n c_96_4 rfl ?_
  refine n_v1I c_96_5 rfl sc_8.n rfl rfl rfl rfl (isSlot_2 (s := s) hS (by omega)) ?_
  intro z1 M2 hP3
  obtain ⟨eM, f3, f3p0⟩ := hP3
  subst eM
  refine n_if0_ne c_96_8 (by omega) ?_ ?_
  · intro h4
    refine n_aload_n c_96_14 rfl ?_
    refine n_getR c_96_15 sc_3.n rfl rfl rfl r_3_1 ?_
    refine n_iload_n c_96_18 rfl ?_
    refine n_v1I c_96_19 rfl sc_8.n rfl rfl rfl rfl (hasRow_2 (s := s) hS (by omega)) ?_
    intro z5 M6 hP7
    obtain ⟨eM, f7, f7p0⟩ := hP7
    subst eM
    refine n_if0_ne c_96_22 (by omega) ?_ ?_
    · intro h8
      refine n_aload_n c_96_28 rfl ?_
      refine n_getR c_96_29 sc_3.n rfl rfl rfl r_3_1 ?_
      refine n_iload_n c_96_32 rfl ?_
      refine n_iload_n c_96_33 rfl ?_
      refine n_lload_n c_96_34 rfl ?_
      refine n_v3I c_96_35 rfl sc_8.n rfl rfl rfl rfl (put_2 (s := s) (i := i) (v := v) hS (by omega) (by omega) (by omega)) ?_
      intro z9 M10 hP11
      obtain ⟨hS10, f11⟩ := hP11
      refine n_if0_eq c_96_38 (by omega) ?_ ?_
      · intro h12
        refine n_bipush c_96_45 rfl ?_
        exact n_rI c_96_47 rfl ⟨hS10, by omega⟩
      · intro h13
        refine n_iconst c_96_41 ?_
        refine n_goto c_96_42 ?_
        exact n_rI c_96_47 rfl ⟨hS10, by omega⟩
    · intro h14
      refine n_bipush c_96_25 rfl ?_
      exact n_rI c_96_27 rfl ⟨hS, by omega⟩
  · intro h15
    refine n_bipush c_96_11 rfl ?_
    exact n_rI c_96_13 rfl ⟨hS, by omega⟩

set_option maxHeartbeats 4000000 in
theorem rstart_2 {xs : List Int32} {e : Nat} {ac : Int} {M : nM} {u : Int} (hS : Sf 2 ac M M) (hu : 1 ≤ u ∧ u ≤ 8) : nW xs e 74 0 [some (2, 32), some (0, u)] [] M (nPV fun M1 => Sf 2 ac M1 M1) := by
  have hd : (2 : Int) = 2 ∨ (2 : Int) = 3 := by decide
  have hac := hS.2.2.2.2
  refine n_aload_n c_74_0 rfl ?_
  refine n_iload_n c_74_1 rfl ?_
  refine n_putM (bi := 0) hS c_74_2 sc_32.n rfl rfl rfl rfl (m_32_0 (by omega)) ?_
  intro M1 eM1 hS1
  have g1_0 : M1 32 0 = u := by rw [eM1]; exact nu_s _ _ _ _
  refine n_aload_n c_74_5 rfl ?_
  refine n_iconst c_74_6 ?_
  refine n_putM (bi := 1) hS1 c_74_7 sc_32.n rfl rfl rfl rfl (m_32_1 (by omega)) ?_
  intro M2 eM2 hS2
  have g2_0 : M2 32 0 = M1 32 0 := by rw [eM2]; exact nu_i (by omega)
  have g2_1 : M2 32 1 = 0 := by rw [eM2]; exact nu_s _ _ _ _
  exact n_rV c_74_10 rfl hS2

set_option maxHeartbeats 4000000 in
theorem riddle_2_c {xs : List Int32} {e : Nat} {ac : Int} {M : nM} {u : Int} (hS : Sf 2 ac M M) (hu : -2147483648 ≤ u ∧ u ≤ 2147483647) : ∀ nn : Nat, (∀ (M : nM), Sf 2 ac M M → 1 < (nn : Int) → nW xs (e + 1) 115 11 [none, none] [] M (nPI fun z M1 => Sf 2 ac M1 M1 ∧ (0 ≤ z ∧ z ≤ 1))) := by
  have hd : (2 : Int) = 2 ∨ (2 : Int) = 3 := by decide
  have hac := hS.2.2.2.2
  intro nn
  induction nn with
  | zero => intros; omega
  | succ nn ih =>
    intro M hS hnn
    refine n_iconst c_115_11 ?_
    exact n_rZ c_115_12 rfl (by omega) ⟨hS, by omega⟩
set_option maxHeartbeats 4000000 in
theorem riddle_2 {xs : List Int32} {e : Nat} {ac : Int} {M : nM} {u : Int} (hS : Sf 2 ac M M) (hu : -2147483648 ≤ u ∧ u ≤ 2147483647) : nW xs (e + 1) 115 0 [some (2, 3), some (0, u)] [] M (nPI fun z M1 => Sf 2 ac M1 M1 ∧ (0 ≤ z ∧ z ≤ 1)) := by
  have hd : (2 : Int) = 2 ∨ (2 : Int) = 3 := by decide
  have hac := hS.2.2.2.2
  refine n_iload_n c_115_0 rfl ?_
  refine n_iconst c_115_1 ?_
  refine n_if2_lt c_115_2 (by omega) (by omega) ?_ ?_
  · intro h1
    refine n_fg (le_n (le_n le_0)) ?_
    exact (riddle_2_c hS hu 12)  M hS  (by omega)
  · intro h2
    refine n_iload_n c_115_5 rfl ?_
    refine n_bipush c_115_6 rfl ?_
    refine n_if2_le c_115_8 (by omega) (by omega) ?_ ?_
    · intro h3
      refine n_aload_n c_115_13 rfl ?_
      refine n_getR c_115_14 sc_3.n rfl rfl rfl r_3_6 ?_
      refine n_iload_n c_115_17 rfl ?_
      refine n_v1V c_115_18 rfl sc_32.n rfl rfl rfl rfl (rstart_2 (u := u) hS (by omega)) ?_
      intro  M4 hP5
      have hS4 := hP5
      refine n_aload_n c_115_21 rfl ?_
      refine n_iconst c_115_22 ?_
      refine n_putZM (bi := 18) hS4 c_115_23 sc_3.n rfl rfl rfl (by omega) rfl (m_3_18 (by omega)) ?_
      intro M6 eM6 hS6
      have g6_0 : M6 3 18 = 0 := by rw [eM6]; exact nu_s _ _ _ _
      refine n_iconst c_115_26 ?_
      exact n_rZ c_115_27 rfl (by omega) ⟨hS6, by omega⟩
    · intro h7
      refine n_fg (le_n (le_n le_0)) ?_
      exact (riddle_2_c hS hu 12)  M hS  (by omega)

set_option maxHeartbeats 4000000 in
theorem radd_2 {xs : List Int32} {e : Nat} {ac : Int} {M : nM} {l x y w : Int} (hS : Sf 2 ac M M) (hl : 0 ≤ l ∧ l ≤ 11) (hx : 0 ≤ x ∧ x ≤ 7) (hy : 0 ≤ y ∧ y ≤ 7) (hw : 0 ≤ w ∧ w ≤ 7) (hc : M 32 1 ≤ 29) : nW xs e 76 0 [some (2, 32), some (0, l), some (0, x), some (0, y), some (0, w)] [] M (nPI fun z M1 => Sf 2 ac M1 M1 ∧ (-2147483648 ≤ z ∧ z ≤ 2147483647)) := by
  have hd : (2 : Int) = 2 ∨ (2 : Int) = 3 := by decide
  have hac := hS.2.2.2.2
  refine n_aload_n c_76_0 rfl ?_
  refine n_getR c_76_1 sc_32.n rfl rfl rfl r_32_2 ?_
  refine n_aload_n c_76_4 rfl ?_
  refine n_getV (bi := 1) c_76_5 sc_32.n rfl rfl rfl (t_32_1 hS) ?_
  intro z1 ez1 f2
  refine n_iload_n c_76_8 rfl ?_
  refine n_iastoreM hS c_76_9 sc_33.n rfl (by omega) (m_33 (by omega) (by omega)) ?_
  intro M3 eM3 hS3
  have g3_0 : M3 32 1 = M 32 1 := by rw [eM3]; exact nu_a (by omega)
  have g3_1 : M3 33 z1 = l := by rw [eM3]; exact nu_s _ _ _ _
  refine n_aload_n c_76_10 rfl ?_
  refine n_getR c_76_11 sc_32.n rfl rfl rfl r_32_3 ?_
  refine n_aload_n c_76_14 rfl ?_
  refine n_getV (bi := 1) c_76_15 sc_32.n rfl rfl rfl (t_32_1 hS3) ?_
  intro z4 ez4 f5
  refine n_iload_n c_76_18 rfl ?_
  refine n_iastoreM hS3 c_76_19 sc_34.n rfl (by omega) (m_34 (by omega) (by omega)) ?_
  intro M6 eM6 hS6
  have g6_0 : M6 32 1 = M3 32 1 := by rw [eM6]; exact nu_a (by omega)
  have g6_1 : M6 33 z1 = M3 33 z1 := by rw [eM6]; exact nu_a (by omega)
  have g6_2 : M6 34 z4 = x := by rw [eM6]; exact nu_s _ _ _ _
  refine n_aload_n c_76_20 rfl ?_
  refine n_getR c_76_21 sc_32.n rfl rfl rfl r_32_4 ?_
  refine n_aload_n c_76_24 rfl ?_
  refine n_getV (bi := 1) c_76_25 sc_32.n rfl rfl rfl (t_32_1 hS6) ?_
  intro z7 ez7 f8
  refine n_iload_n c_76_28 rfl ?_
  refine n_iastoreM hS6 c_76_29 sc_35.n rfl (by omega) (m_35 (by omega) (by omega)) ?_
  intro M9 eM9 hS9
  have g9_0 : M9 32 1 = M6 32 1 := by rw [eM9]; exact nu_a (by omega)
  have g9_1 : M9 33 z1 = M6 33 z1 := by rw [eM9]; exact nu_a (by omega)
  have g9_2 : M9 34 z4 = M6 34 z4 := by rw [eM9]; exact nu_a (by omega)
  have g9_3 : M9 35 z7 = y := by rw [eM9]; exact nu_s _ _ _ _
  refine n_aload_n c_76_30 rfl ?_
  refine n_getR c_76_31 sc_32.n rfl rfl rfl r_32_5 ?_
  refine n_aload_n c_76_34 rfl ?_
  refine n_getV (bi := 1) c_76_35 sc_32.n rfl rfl rfl (t_32_1 hS9) ?_
  intro z10 ez10 f11
  refine n_iload c_76_38 rfl ?_
  refine n_iastoreM hS9 c_76_40 sc_36.n rfl (by omega) (m_36 (by omega) (by omega)) ?_
  intro M12 eM12 hS12
  have g12_0 : M12 32 1 = M9 32 1 := by rw [eM12]; exact nu_a (by omega)
  have g12_1 : M12 33 z1 = M9 33 z1 := by rw [eM12]; exact nu_a (by omega)
  have g12_2 : M12 34 z4 = M9 34 z4 := by rw [eM12]; exact nu_a (by omega)
  have g12_3 : M12 35 z7 = M9 35 z7 := by rw [eM12]; exact nu_a (by omega)
  have g12_4 : M12 36 z10 = w := by rw [eM12]; exact nu_s _ _ _ _
  refine n_aload_n c_76_41 rfl ?_
  refine n_dup2 c_76_42 ?_
  refine n_getV (bi := 1) c_76_43 sc_32.n rfl rfl rfl (t_32_1 hS12) ?_
  intro z13 ez13 f14
  refine n_dup_x102 c_76_46 ?_
  refine n_iconst c_76_47 ?_
  refine n_iadd c_76_48 rfl ?_
  refine n_putM (bi := 1) hS12 c_76_49 sc_32.n rfl rfl rfl rfl (m_32_1 (by omega)) ?_
  intro M15 eM15 hS15
  have g15_0 : M15 33 z1 = M12 33 z1 := by rw [eM15]; exact nu_a (by omega)
  have g15_1 : M15 34 z4 = M12 34 z4 := by rw [eM15]; exact nu_a (by omega)
  have g15_2 : M15 35 z7 = M12 35 z7 := by rw [eM15]; exact nu_a (by omega)
  have g15_3 : M15 36 z10 = M12 36 z10 := by rw [eM15]; exact nu_a (by omega)
  have g15_4 : M15 32 1 = (z13 + 1) := by rw [eM15]; exact nu_s _ _ _ _
  exact n_rI c_76_52 rfl ⟨hS15, by omega⟩

set_option maxHeartbeats 4000000 in
theorem ask_2_c {xs : List Int32} {e : Nat} {ac : Int} {M : nM} {l x y w : Int} (hS : Sf 2 ac M M) (hl : -2147483648 ≤ l ∧ l ≤ 2147483647) (hx : -2147483648 ≤ x ∧ x ≤ 2147483647) (hy : -2147483648 ≤ y ∧ y ≤ 2147483647) (hw : -2147483648 ≤ w ∧ w ≤ 2147483647) : ∀ nn : Nat, (∀ (M : nM), Sf 2 ac M M → 1 < (nn : Int) → nW xs (e + 1) 116 85 [none, none, none, none, none, none, none, none] [] M (nPI fun z M1 => Sf 2 ac M1 M1 ∧ (-2147483648 ≤ z ∧ z ≤ 2147483647))) := by
  have hd : (2 : Int) = 2 ∨ (2 : Int) = 3 := by decide
  have hac := hS.2.2.2.2
  intro nn
  induction nn with
  | zero => intros; omega
  | succ nn ih =>
    intro M hS hnn
    refine n_bipush c_116_85 rfl ?_
    exact n_rI c_116_87 rfl ⟨hS, by omega⟩
set_option maxHeartbeats 4000000 in
theorem ask_2 {xs : List Int32} {e : Nat} {ac : Int} {M : nM} {l x y w : Int} (hS : Sf 2 ac M M) (hl : -2147483648 ≤ l ∧ l ≤ 2147483647) (hx : -2147483648 ≤ x ∧ x ≤ 2147483647) (hy : -2147483648 ≤ y ∧ y ≤ 2147483647) (hw : -2147483648 ≤ w ∧ w ≤ 2147483647) : nW xs (e + 1) 116 0 [some (2, 3), some (0, l), some (0, x), some (0, y), some (0, w), none, none, none] [] M (nPI fun z M1 => Sf 2 ac M1 M1 ∧ (-2147483648 ≤ z ∧ z ≤ 2147483647)) := by
  have hd : (2 : Int) = 2 ∨ (2 : Int) = 3 := by decide
  have hac := hS.2.2.2.2
  refine n_aload_n c_116_0 rfl ?_
  refine n_iload_n c_116_1 rfl ?_
  refine n_v1I c_116_2 rfl sc_3.n rfl rfl rfl rfl (isLaw_2 (l := l) hS (by omega)) ?_
  intro z1 M2 hP3
  obtain ⟨eM, f3, f3p0⟩ := hP3
  subst eM
  refine n_if0_ne c_116_5 (by omega) ?_ ?_
  · intro h4
    refine n_aload_n c_116_11 rfl ?_
    refine n_getR c_116_12 sc_3.n rfl rfl rfl r_3_3 ?_
    refine n_iload_n c_116_15 rfl ?_
    refine n_aaload c_116_16 sc_13.n rfl rfl rfl (by omega) (r_laws _) ?_
    have q5 : LawAt (79 + 2 * l) := by unfold LawAt; omega
    refine n_getV (bi := 0) c_116_17 q5.c0.1.n rfl rfl rfl (t_law hS q5).1 ?_
    intro z6 ez6 f7
    refine n_istore (L2 := [some (2, 3), some (0, l), some (0, x), some (0, y), some (0, w), some (0, z6), none, none]) c_116_20 rfl rfl ?_
    refine n_iload c_116_22 rfl ?_
    refine n_iconst c_116_24 ?_
    refine n_if2_le c_116_25 (by omega) (by omega) ?_ ?_
    · intro h8
      refine n_iload_n c_116_32 rfl ?_
      refine n_istore (L2 := [some (2, 3), some (0, l), some (0, x), some (0, y), some (0, w), some (0, z6), some (0, x), none]) c_116_33 rfl rfl ?_
      refine n_iload c_116_35 rfl ?_
      refine n_iconst c_116_37 ?_
      refine n_if2_le c_116_38 (by omega) (by omega) ?_ ?_
      · intro h9
        refine n_iload c_116_46 rfl ?_
        refine n_istore (L2 := [some (2, 3), some (0, l), some (0, x), some (0, y), some (0, w), some (0, z6), some (0, x), some (0, x)]) c_116_48 rfl rfl ?_
        refine n_aload_n c_116_50 rfl ?_
        refine n_getR c_116_51 sc_3.n rfl rfl rfl r_3_6 ?_
        refine n_iload_n c_116_54 rfl ?_
        refine n_v1I c_116_55 rfl sc_32.n rfl rfl rfl rfl (isUnknown_2 (u := x) hS (by omega)) ?_
        intro z10 M11 hP12
        obtain ⟨eM, f12, f12p0⟩ := hP12
        subst eM
        refine n_if0_eq c_116_58 (by omega) ?_ ?_
        · intro h13
          refine n_fg (le_n (le_n (le_n (le_n (le_n (le_n (le_n (le_n le_0)))))))) ?_
          exact (ask_2_c hS hl hx hy hw 12)  M hS  (by omega)
        · intro h14
          refine n_aload_n c_116_61 rfl ?_
          refine n_getR c_116_62 sc_3.n rfl rfl rfl r_3_6 ?_
          refine n_iload c_116_65 rfl ?_
          refine n_v1I c_116_67 rfl sc_32.n rfl rfl rfl rfl (isUnknown_2 (u := x) hS (by omega)) ?_
          intro z15 M16 hP17
          obtain ⟨eM, f17, f17p0⟩ := hP17
          subst eM
          refine n_if0_eq c_116_70 (by omega) ?_ ?_
          · intro h18
            refine n_fg (le_n (le_n (le_n (le_n (le_n (le_n (le_n (le_n le_0)))))))) ?_
            exact (ask_2_c hS hl hx hy hw 12)  M hS  (by omega)
          · intro h19
            refine n_aload_n c_116_73 rfl ?_
            refine n_getR c_116_74 sc_3.n rfl rfl rfl r_3_6 ?_
            refine n_iload c_116_77 rfl ?_
            refine n_v1I c_116_79 rfl sc_32.n rfl rfl rfl rfl (isUnknown_2 (u := x) hS (by omega)) ?_
            intro z20 M21 hP22
            obtain ⟨eM, f22, f22p0⟩ := hP22
            subst eM
            refine n_if0_ne c_116_82 (by omega) ?_ ?_
            · intro h23
              refine n_aload_n c_116_88 rfl ?_
              refine n_getR c_116_89 sc_3.n rfl rfl rfl r_3_6 ?_
              refine n_getV (bi := 1) c_116_92 sc_32.n rfl rfl rfl (t_32_1 hS) ?_
              intro z24 ez24 f25
              refine n_bipush c_116_95 rfl ?_
              refine n_if2_lt c_116_97 (by omega) (by omega) ?_ ?_
              · intro h26
                refine n_aload_n c_116_103 rfl ?_
                refine n_iconst c_116_104 ?_
                refine n_putZM (bi := 18) hS c_116_105 sc_3.n rfl rfl rfl (by omega) rfl (m_3_18 (by omega)) ?_
                intro M27 eM27 hS27
                have g27_0 : M27 32 1 = M 32 1 := by rw [eM27]; exact nu_a (by omega)
                have g27_1 : M27 3 18 = 0 := by rw [eM27]; exact nu_s _ _ _ _
                refine n_aload_n c_116_108 rfl ?_
                refine n_getR c_116_109 sc_3.n rfl rfl rfl r_3_6 ?_
                refine n_iload_n c_116_112 rfl ?_
                refine n_iload_n c_116_113 rfl ?_
                refine n_iload c_116_114 rfl ?_
                refine n_iload c_116_116 rfl ?_
                refine n_v4I c_116_118 rfl sc_32.n rfl rfl rfl rfl (radd_2 (l := l) (x := x) (y := x) (w := x) hS27 (by omega) (by omega) (by omega) (by omega) (by omega)) ?_
                intro z28 M29 hP30
                obtain ⟨hS29, f30⟩ := hP30
                exact n_rI c_116_121 rfl ⟨hS29, by omega⟩
              · intro h31
                refine n_bipush c_116_100 rfl ?_
                exact n_rI c_116_102 rfl ⟨hS, by omega⟩
            · intro h32
              refine n_fg (le_n (le_n (le_n (le_n (le_n (le_n (le_n (le_n le_0)))))))) ?_
              exact (ask_2_c hS hl hx hy hw 12)  M hS  (by omega)
      · intro h33
        exfalso; omega
    · intro h34
      refine n_iload_n c_116_28 rfl ?_
      refine n_goto c_116_29 ?_
      refine n_istore (L2 := [some (2, 3), some (0, l), some (0, x), some (0, y), some (0, w), some (0, z6), some (0, y), none]) c_116_33 rfl rfl ?_
      refine n_iload c_116_35 rfl ?_
      refine n_iconst c_116_37 ?_
      refine n_if2_le c_116_38 (by omega) (by omega) ?_ ?_
      · intro h35
        refine n_iload c_116_46 rfl ?_
        refine n_istore (L2 := [some (2, 3), some (0, l), some (0, x), some (0, y), some (0, w), some (0, z6), some (0, y), some (0, y)]) c_116_48 rfl rfl ?_
        refine n_aload_n c_116_50 rfl ?_
        refine n_getR c_116_51 sc_3.n rfl rfl rfl r_3_6 ?_
        refine n_iload_n c_116_54 rfl ?_
        refine n_v1I c_116_55 rfl sc_32.n rfl rfl rfl rfl (isUnknown_2 (u := x) hS (by omega)) ?_
        intro z36 M37 hP38
        obtain ⟨eM, f38, f38p0⟩ := hP38
        subst eM
        refine n_if0_eq c_116_58 (by omega) ?_ ?_
        · intro h39
          refine n_fg (le_n (le_n (le_n (le_n (le_n (le_n (le_n (le_n le_0)))))))) ?_
          exact (ask_2_c hS hl hx hy hw 12)  M hS  (by omega)
        · intro h40
          refine n_aload_n c_116_61 rfl ?_
          refine n_getR c_116_62 sc_3.n rfl rfl rfl r_3_6 ?_
          refine n_iload c_116_65 rfl ?_
          refine n_v1I c_116_67 rfl sc_32.n rfl rfl rfl rfl (isUnknown_2 (u := y) hS (by omega)) ?_
          intro z41 M42 hP43
          obtain ⟨eM, f43, f43p0⟩ := hP43
          subst eM
          refine n_if0_eq c_116_70 (by omega) ?_ ?_
          · intro h44
            refine n_fg (le_n (le_n (le_n (le_n (le_n (le_n (le_n (le_n le_0)))))))) ?_
            exact (ask_2_c hS hl hx hy hw 12)  M hS  (by omega)
          · intro h45
            refine n_aload_n c_116_73 rfl ?_
            refine n_getR c_116_74 sc_3.n rfl rfl rfl r_3_6 ?_
            refine n_iload c_116_77 rfl ?_
            refine n_v1I c_116_79 rfl sc_32.n rfl rfl rfl rfl (isUnknown_2 (u := y) hS (by omega)) ?_
            intro z46 M47 hP48
            obtain ⟨eM, f48, f48p0⟩ := hP48
            subst eM
            refine n_if0_ne c_116_82 (by omega) ?_ ?_
            · intro h49
              refine n_aload_n c_116_88 rfl ?_
              refine n_getR c_116_89 sc_3.n rfl rfl rfl r_3_6 ?_
              refine n_getV (bi := 1) c_116_92 sc_32.n rfl rfl rfl (t_32_1 hS) ?_
              intro z50 ez50 f51
              refine n_bipush c_116_95 rfl ?_
              refine n_if2_lt c_116_97 (by omega) (by omega) ?_ ?_
              · intro h52
                refine n_aload_n c_116_103 rfl ?_
                refine n_iconst c_116_104 ?_
                refine n_putZM (bi := 18) hS c_116_105 sc_3.n rfl rfl rfl (by omega) rfl (m_3_18 (by omega)) ?_
                intro M53 eM53 hS53
                have g53_0 : M53 32 1 = M 32 1 := by rw [eM53]; exact nu_a (by omega)
                have g53_1 : M53 3 18 = 0 := by rw [eM53]; exact nu_s _ _ _ _
                refine n_aload_n c_116_108 rfl ?_
                refine n_getR c_116_109 sc_3.n rfl rfl rfl r_3_6 ?_
                refine n_iload_n c_116_112 rfl ?_
                refine n_iload_n c_116_113 rfl ?_
                refine n_iload c_116_114 rfl ?_
                refine n_iload c_116_116 rfl ?_
                refine n_v4I c_116_118 rfl sc_32.n rfl rfl rfl rfl (radd_2 (l := l) (x := x) (y := y) (w := y) hS53 (by omega) (by omega) (by omega) (by omega) (by omega)) ?_
                intro z54 M55 hP56
                obtain ⟨hS55, f56⟩ := hP56
                exact n_rI c_116_121 rfl ⟨hS55, by omega⟩
              · intro h57
                refine n_bipush c_116_100 rfl ?_
                exact n_rI c_116_102 rfl ⟨hS, by omega⟩
            · intro h58
              refine n_fg (le_n (le_n (le_n (le_n (le_n (le_n (le_n (le_n le_0)))))))) ?_
              exact (ask_2_c hS hl hx hy hw 12)  M hS  (by omega)
      · intro h59
        refine n_iload c_116_41 rfl ?_
        refine n_goto c_116_43 ?_
        refine n_istore (L2 := [some (2, 3), some (0, l), some (0, x), some (0, y), some (0, w), some (0, z6), some (0, y), some (0, w)]) c_116_48 rfl rfl ?_
        refine n_aload_n c_116_50 rfl ?_
        refine n_getR c_116_51 sc_3.n rfl rfl rfl r_3_6 ?_
        refine n_iload_n c_116_54 rfl ?_
        refine n_v1I c_116_55 rfl sc_32.n rfl rfl rfl rfl (isUnknown_2 (u := x) hS (by omega)) ?_
        intro z60 M61 hP62
        obtain ⟨eM, f62, f62p0⟩ := hP62
        subst eM
        refine n_if0_eq c_116_58 (by omega) ?_ ?_
        · intro h63
          refine n_fg (le_n (le_n (le_n (le_n (le_n (le_n (le_n (le_n le_0)))))))) ?_
          exact (ask_2_c hS hl hx hy hw 12)  M hS  (by omega)
        · intro h64
          refine n_aload_n c_116_61 rfl ?_
          refine n_getR c_116_62 sc_3.n rfl rfl rfl r_3_6 ?_
          refine n_iload c_116_65 rfl ?_
          refine n_v1I c_116_67 rfl sc_32.n rfl rfl rfl rfl (isUnknown_2 (u := y) hS (by omega)) ?_
          intro z65 M66 hP67
          obtain ⟨eM, f67, f67p0⟩ := hP67
          subst eM
          refine n_if0_eq c_116_70 (by omega) ?_ ?_
          · intro h68
            refine n_fg (le_n (le_n (le_n (le_n (le_n (le_n (le_n (le_n le_0)))))))) ?_
            exact (ask_2_c hS hl hx hy hw 12)  M hS  (by omega)
          · intro h69
            refine n_aload_n c_116_73 rfl ?_
            refine n_getR c_116_74 sc_3.n rfl rfl rfl r_3_6 ?_
            refine n_iload c_116_77 rfl ?_
            refine n_v1I c_116_79 rfl sc_32.n rfl rfl rfl rfl (isUnknown_2 (u := w) hS (by omega)) ?_
            intro z70 M71 hP72
            obtain ⟨eM, f72, f72p0⟩ := hP72
            subst eM
            refine n_if0_ne c_116_82 (by omega) ?_ ?_
            · intro h73
              refine n_aload_n c_116_88 rfl ?_
              refine n_getR c_116_89 sc_3.n rfl rfl rfl r_3_6 ?_
              refine n_getV (bi := 1) c_116_92 sc_32.n rfl rfl rfl (t_32_1 hS) ?_
              intro z74 ez74 f75
              refine n_bipush c_116_95 rfl ?_
              refine n_if2_lt c_116_97 (by omega) (by omega) ?_ ?_
              · intro h76
                refine n_aload_n c_116_103 rfl ?_
                refine n_iconst c_116_104 ?_
                refine n_putZM (bi := 18) hS c_116_105 sc_3.n rfl rfl rfl (by omega) rfl (m_3_18 (by omega)) ?_
                intro M77 eM77 hS77
                have g77_0 : M77 32 1 = M 32 1 := by rw [eM77]; exact nu_a (by omega)
                have g77_1 : M77 3 18 = 0 := by rw [eM77]; exact nu_s _ _ _ _
                refine n_aload_n c_116_108 rfl ?_
                refine n_getR c_116_109 sc_3.n rfl rfl rfl r_3_6 ?_
                refine n_iload_n c_116_112 rfl ?_
                refine n_iload_n c_116_113 rfl ?_
                refine n_iload c_116_114 rfl ?_
                refine n_iload c_116_116 rfl ?_
                refine n_v4I c_116_118 rfl sc_32.n rfl rfl rfl rfl (radd_2 (l := l) (x := x) (y := y) (w := w) hS77 (by omega) (by omega) (by omega) (by omega) (by omega)) ?_
                intro z78 M79 hP80
                obtain ⟨hS79, f80⟩ := hP80
                exact n_rI c_116_121 rfl ⟨hS79, by omega⟩
              · intro h81
                refine n_bipush c_116_100 rfl ?_
                exact n_rI c_116_102 rfl ⟨hS, by omega⟩
            · intro h82
              refine n_fg (le_n (le_n (le_n (le_n (le_n (le_n (le_n (le_n le_0)))))))) ?_
              exact (ask_2_c hS hl hx hy hw 12)  M hS  (by omega)
  · intro h83
    refine n_bipush c_116_8 rfl ?_
    exact n_rI c_116_10 rfl ⟨hS, by omega⟩

set_option maxHeartbeats 4000000 in
theorem actsOfThree_2_c {xs : List Int32} {e : Nat} {ac : Int} {M0 M : nM} (hS : Sf 2 ac M0 M)  : ∀ nn : Nat, (∀ (x1 x2 : Int), (0 ≤ x1 ∧ x1 ≤ 8) → (0 ≤ x2 ∧ x2 ≤ 8) → (x1 ≤ x2) → (8 - x2) * 2 + 2 < (nn : Int) → nW xs e 127 4 [some (2, 3), some (0, x1), some (0, x2)] [] M (nPI fun z M1 => M = M1 ∧ (0 ≤ z ∧ z ≤ 8))) ∧ (∀ (x1 x2 : Int), (0 ≤ x1 ∧ x1 ≤ 8) → (0 ≤ x2 ∧ x2 ≤ 7) → (x1 ≤ x2 + 1) → (8 - x2) * 2 + 1 < (nn : Int) → nW xs e 127 28 [some (2, 3), some (0, x1), some (0, x2)] [] M (nPI fun z M1 => M = M1 ∧ (0 ≤ z ∧ z ≤ 8))) := by
  have hd : (2 : Int) = 2 ∨ (2 : Int) = 3 := by decide
  have hac := hS.2.2.2.2
  intro nn
  induction nn with
  | zero => refine ⟨?_, ?_⟩ <;> (intros; omega)
  | succ nn ih =>
    refine ⟨?_, ?_⟩
    · intro x1 x2 k1 k2 v0 hnn
      refine n_iload_n c_127_4 rfl ?_
      refine n_aload_n c_127_5 rfl ?_
      refine n_getV (bi := 14) c_127_6 sc_3.n rfl rfl rfl (t_3_14x hS) ?_
      intro z1 ez1 f2
      have f2a := t_ac hS
      refine n_if2_ge c_127_9 (by omega) (by omega) ?_ ?_
      · intro h3
        refine n_iload_n c_127_34 rfl ?_
        exact n_rI c_127_35 rfl ⟨rfl, by omega⟩
      · intro h4
        refine n_aload_n c_127_12 rfl ?_
        refine n_getR c_127_13 sc_3.n rfl rfl rfl r_3_2 ?_
        refine n_iload_n c_127_16 rfl ?_
        refine n_aaload c_127_17 sc_12.n rfl rfl rfl (by omega) (r_acts _) ?_
        have q5 : ActAt (55 + 3 * x2) := by unfold ActAt; omega
        have q5l : (55 + 3 * x2) < 55 + 3 * ac := by omega
        refine n_getV (bi := 0) c_127_18 q5.c0.1.n rfl rfl rfl (t_actl hS q5 q5l).1 ?_
        intro z6 ez6 f7
        refine n_iconst c_127_21 ?_
        refine n_if2_ne c_127_22 (by omega) (by omega) ?_ ?_
        · intro h8
          refine n_fg (le_s (le_s (le_s le_0))) ?_
          exact ih.2 _ _ (by omega) (by omega) (by omega) (by omega)
        · intro h9
          refine n_iinc (L2 := [some (2, 3), some (0, (x1 + 1)), some (0, x2)]) c_127_25 rfl rfl rfl ?_
          refine n_fg (le_s (le_s (le_s le_0))) ?_
          exact ih.2 _ _ (by omega) (by omega) (by omega) (by omega)
    · intro x1 x2 k1 k2 v0 hnn
      refine n_iinc (L2 := [some (2, 3), some (0, x1), some (0, (x2 + 1))]) c_127_28 rfl rfl rfl ?_
      refine n_goto c_127_31 ?_
      refine n_fg (le_s (le_s (le_s le_0))) ?_
      exact ih.1 _ _ (by omega) (by omega) (by omega) (by omega)
set_option maxHeartbeats 4000000 in
theorem actsOfThree_2 {xs : List Int32} {e : Nat} {ac : Int} {M0 M : nM} (hS : Sf 2 ac M0 M)  : nW xs e 127 0 [some (2, 3), none, none] [] M (nPI fun z M1 => M = M1 ∧ (0 ≤ z ∧ z ≤ 8)) := by
  have hd : (2 : Int) = 2 ∨ (2 : Int) = 3 := by decide
  have hac := hS.2.2.2.2
  refine n_iconst c_127_0 ?_
  refine n_istore_n (L2 := [some (2, 3), some (0, 0), none]) c_127_1 rfl rfl ?_
  refine n_iconst c_127_2 ?_
  refine n_istore_n (L2 := [some (2, 3), some (0, 0), some (0, 0)]) c_127_3 rfl rfl ?_
  refine n_fg (le_s (le_s (le_s le_0))) ?_
  exact (actsOfThree_2_c hS  50).1 _ _ (by omega) (by omega) (by omega) (by omega)

set_option maxHeartbeats 4000000 in
theorem readLaw_2_c {xs : List Int32} {e : Nat} {ac : Int} {M0 M : nM} {k s : Int} (hS : Sf 2 ac M0 M) (hk : 1 ≤ k ∧ k ≤ 3) (hs : 0 ≤ s ∧ s ≤ 7) : ∀ nn : Nat, (∀ (x3 x4 x5 x6 : Int), (0 ≤ x3 ∧ x3 ≤ 27) → (-2147483648 ≤ x4 ∧ x4 ≤ 2147483647) → (1 ≤ x5 ∧ x5 ≤ 82) → (0 ≤ x6 ∧ x6 ≤ 27) → (x5 ≤ 1 + 3 * x6) → (27 - x6) * 6 + 6 < (nn : Int) → nW xs (e + 1) 128 27 [some (2, 3), some (0, k), some (0, s), some (0, x3), some (0, x4), some (0, x5), some (0, x6), none, none, none] [] M (nPI fun z M1 => M = M1 ∧ (-2147483648 ≤ z ∧ z ≤ 2147483647))) ∧ (∀ (x3 x4 x5 x6 x7 x8 : Int), (1 ≤ x3 ∧ x3 ≤ 27) → (-2147483648 ≤ x4 ∧ x4 ≤ 2147483647) → (1 ≤ x5 ∧ x5 ≤ 85) → (0 ≤ x6 ∧ x6 ≤ 26) → (-2147483648 ≤ x7 ∧ x7 ≤ 2147483647) → (0 ≤ x8 ∧ x8 ≤ 3) → (x5 ≤ 1 + 3 * x6 + x8) → (27 - x6) * 6 + (3 - x8) * 1 + 1 < (nn : Int) → nW xs (e + 1) 128 39 [some (2, 3), some (0, k), some (0, s), some (0, x3), some (0, x4), some (0, x5), some (0, x6), some (0, x7), some (0, x8), none] [] M (nPI fun z M1 => M = M1 ∧ (-2147483648 ≤ z ∧ z ≤ 2147483647))) := by
  have hd : (2 : Int) = 2 ∨ (2 : Int) = 3 := by decide
  have hac := hS.2.2.2.2
  intro nn
  induction nn with
  | zero => refine ⟨?_, ?_⟩ <;> (intros; omega)
  | succ nn ih =>
    refine ⟨?_, ?_⟩
    · intro x3 x4 x5 x6 k3 k4 k5 k6 v0 hnn
      refine n_iload c_128_27 rfl ?_
      refine n_iload_n c_128_29 rfl ?_
      refine n_if2_ge c_128_30 (by omega) (by omega) ?_ ?_
      · intro h1
        refine n_iload c_128_113 rfl ?_
        exact n_rI c_128_115 rfl ⟨rfl, by omega⟩
      · intro h2
        refine n_iconst c_128_33 ?_
        refine n_istore (L2 := [some (2, 3), some (0, k), some (0, s), some (0, x3), some (0, x4), some (0, x5), some (0, x6), some (0, 0), none, none]) c_128_34 rfl rfl ?_
        refine n_iconst c_128_36 ?_
        refine n_istore (L2 := [some (2, 3), some (0, k), some (0, s), some (0, x3), some (0, x4), some (0, x5), some (0, x6), some (0, 0), some (0, 0), none]) c_128_37 rfl rfl ?_
        refine n_fg (le_s (le_s (le_s (le_s (le_s (le_s (le_s (le_s (le_s (le_n le_0)))))))))) ?_
        exact ih.2 _ _ _ _ _ _ (by omega) (by omega) (by omega) (by omega) (by omega) (by omega) (by omega) (by omega)
    · intro x3 x4 x5 x6 x7 x8 k3 k4 k5 k6 k7 k8 v0 hnn
      refine n_iload c_128_39 rfl ?_
      refine n_iload_n c_128_41 rfl ?_
      refine n_if2_ge c_128_42 (by omega) (by omega) ?_ ?_
      · intro h1
        refine n_iload c_128_98 rfl ?_
        refine n_iconst c_128_100 ?_
        refine n_iload c_128_101 rfl ?_
        refine n_i_ishl c_128_103 rfl ?_
        have f2 := n_shl_r 1 x7
        generalize (n_shl 1 x7) = z3 at f2 ⊢
        refine n_i_ior c_128_104 rfl ?_
        have f4 := n_or_r x4 z3
        generalize (n_or x4 z3) = z5 at f4 ⊢
        refine n_istore (L2 := [some (2, 3), some (0, k), some (0, s), some (0, x3), some (0, z5), some (0, x5), some (0, x6), some (0, x7), some (0, x8), none]) c_128_105 rfl rfl ?_
        refine n_iinc (L2 := [some (2, 3), some (0, k), some (0, s), some (0, x3), some (0, z5), some (0, x5), some (0, (x6 + 1)), some (0, x7), some (0, x8), none]) c_128_107 rfl rfl rfl ?_
        refine n_goto c_128_110 ?_
        refine n_fg (le_s (le_s (le_s (le_s (le_s (le_s (le_s (le_n (le_n (le_n le_0)))))))))) ?_
        exact ih.1 _ _ _ _ (by omega) (by omega) (by omega) (by omega) (by omega) (by omega)
      · intro h6
        refine n_aload_n c_128_45 rfl ?_
        refine n_getR c_128_46 sc_3.n rfl rfl rfl r_3_1 ?_
        refine n_iload_n c_128_49 rfl ?_
        refine n_iload c_128_50 rfl ?_
        refine n_aload_n c_128_52 rfl ?_
        refine n_getR c_128_53 sc_3.n rfl rfl rfl r_3_0 ?_
        refine n_getV (bi := 0) c_128_56 sc_4.n rfl rfl rfl (t_4_0 hS) ?_
        intro z7 ez7 f8
        obtain rfl : z7 = 2 := by omega
        refine n_iconst c_128_59 ?_
        refine n_isub c_128_60 rfl ?_
        have hcst : ((2 - 1) : Int) = 1 := by omega
        rw [hcst]
        refine n_v3I c_128_61 rfl sc_8.n rfl rfl rfl rfl (read1_2 (s := s) (i := x5) hS (by omega) (by omega)) ?_
        intro z9 M10 hP11
        obtain ⟨eM, f11⟩ := hP11
        subst eM
        refine n_istore (L2 := [some (2, 3), some (0, k), some (0, s), some (0, x3), some (0, x4), some (0, x5), some (0, x6), some (0, x7), some (0, x8), some (0, z9)]) c_128_64 rfl rfl ?_
        refine n_iload c_128_66 rfl ?_
        refine n_if0_ge c_128_68 (by omega) ?_ ?_
        · intro h12
          refine n_iload c_128_74 rfl ?_
          refine n_aload_n c_128_76 rfl ?_
          refine n_getR c_128_77 sc_3.n rfl rfl rfl r_3_0 ?_
          refine n_getV (bi := 0) c_128_80 sc_4.n rfl rfl rfl (t_4_0 hS) ?_
          intro z13 ez13 f14
          obtain rfl : z13 = 2 := by omega
          refine n_imul c_128_83 rfl ?_
          refine n_wrap ?_
          have f15 := n_wr_r (x7 * 2)
          generalize n_wr (x7 * 2) = z16 at f15 ⊢
          refine n_iload c_128_84 rfl ?_
          refine n_iadd c_128_86 rfl ?_
          refine n_wrap ?_
          have f17 := n_wr_r (z16 + z9)
          generalize n_wr (z16 + z9) = z18 at f17 ⊢
          refine n_istore (L2 := [some (2, 3), some (0, k), some (0, s), some (0, x3), some (0, x4), some (0, x5), some (0, x6), some (0, z18), some (0, x8), some (0, z9)]) c_128_87 rfl rfl ?_
          refine n_iinc (L2 := [some (2, 3), some (0, k), some (0, s), some (0, x3), some (0, x4), some (0, (x5 + 1)), some (0, x6), some (0, z18), some (0, x8), some (0, z9)]) c_128_89 rfl rfl rfl ?_
          refine n_iinc (L2 := [some (2, 3), some (0, k), some (0, s), some (0, x3), some (0, x4), some (0, (x5 + 1)), some (0, x6), some (0, z18), some (0, (x8 + 1)), some (0, z9)]) c_128_92 rfl rfl rfl ?_
          refine n_goto c_128_95 ?_
          refine n_fg (le_s (le_s (le_s (le_s (le_s (le_s (le_s (le_s (le_s (le_n le_0)))))))))) ?_
          exact ih.2 _ _ _ _ _ _ (by omega) (by omega) (by omega) (by omega) (by omega) (by omega) (by omega) (by omega)
        · intro h19
          refine n_iload c_128_71 rfl ?_
          exact n_rI c_128_73 rfl ⟨rfl, by omega⟩
set_option maxHeartbeats 4000000 in
theorem readLaw_2 {xs : List Int32} {e : Nat} {ac : Int} {M0 M : nM} {k s : Int} (hS : Sf 2 ac M0 M) (hk : 1 ≤ k ∧ k ≤ 3) (hs : 0 ≤ s ∧ s ≤ 7) : nW xs (e + 1) 128 0 [some (2, 3), some (0, k), some (0, s), none, none, none, none, none, none, none] [] M (nPI fun z M1 => M = M1 ∧ (-2147483648 ≤ z ∧ z ≤ 2147483647)) := by
  have hd : (2 : Int) = 2 ∨ (2 : Int) = 3 := by decide
  have hac := hS.2.2.2.2
  refine n_aload_n c_128_0 rfl ?_
  refine n_getR c_128_1 sc_3.n rfl rfl rfl r_3_1 ?_
  refine n_iload_n c_128_4 rfl ?_
  refine n_iconst c_128_5 ?_
  refine n_bipush c_128_6 rfl ?_
  refine n_v3I c_128_8 rfl sc_8.n rfl rfl rfl rfl (read27_2 (s := s) (i := 0) hS (by omega) (by omega)) ?_
  intro z1 M2 hP3
  obtain ⟨eM, f3⟩ := hP3
  subst eM
  refine n_istore_n (L2 := [some (2, 3), some (0, k), some (0, s), some (0, z1), none, none, none, none, none, none]) c_128_11 rfl rfl ?_
  refine n_iload_n c_128_12 rfl ?_
  refine n_if0_ge c_128_13 (by omega) ?_ ?_
  · intro h4
    refine n_iconst c_128_18 ?_
    refine n_istore (L2 := [some (2, 3), some (0, k), some (0, s), some (0, z1), some (0, 0), none, none, none, none, none]) c_128_19 rfl rfl ?_
    refine n_iconst c_128_21 ?_
    refine n_istore (L2 := [some (2, 3), some (0, k), some (0, s), some (0, z1), some (0, 0), some (0, 1), none, none, none, none]) c_128_22 rfl rfl ?_
    refine n_iconst c_128_24 ?_
    refine n_istore (L2 := [some (2, 3), some (0, k), some (0, s), some (0, z1), some (0, 0), some (0, 1), some (0, 0), none, none, none]) c_128_25 rfl rfl ?_
    refine n_fg (le_s (le_s (le_s (le_s (le_s (le_s (le_s (le_n (le_n (le_n le_0)))))))))) ?_
    exact (readLaw_2_c hS hk hs 358).1 _ _ _ _ (by omega) (by omega) (by omega) (by omega) (by omega) (by omega)
  · intro h5
    refine n_iload_n c_128_16 rfl ?_
    exact n_rI c_128_17 rfl ⟨rfl, by omega⟩

set_option maxHeartbeats 4000000 in
theorem addWideM_2_c {xs : List Int32} {e : Nat} {ac : Int} {M : nM} {q r g : Int} (hS : Sf 2 ac M M) (hq : LawAt q) (hr : 0 ≤ r ∧ r ≤ 26) (hg : M 3 15 = g) : ∀ nn : Nat, (∀ (M : nM), Sf 2 ac M M → (M 3 15 = g) → 1 < (nn : Int) → nW xs e 42 52 [none, none] [] M (nPV fun M1 => Sf 2 ac M1 M1 ∧ (M1 3 15 = g))) := by
  have hd : (2 : Int) = 2 ∨ (2 : Int) = 3 := by decide
  have hac := hS.2.2.2.2
  intro nn
  induction nn with
  | zero => intros; omega
  | succ nn ih =>
    intro M hS hgg hnn
    exact n_rV c_42_52 rfl ⟨hS, by omega⟩
set_option maxHeartbeats 4000000 in
theorem addWideM_2 {xs : List Int32} {e : Nat} {ac : Int} {M : nM} {q r g : Int} (hS : Sf 2 ac M M) (hq : LawAt q) (hr : 0 ≤ r ∧ r ≤ 26) (hg : M 3 15 = g) : nW xs e 42 0 [some (2, q), some (0, r)] [] M (nPV fun M1 => Sf 2 ac M1 M1 ∧ (M1 3 15 = g)) := by
  have hd : (2 : Int) = 2 ∨ (2 : Int) = 3 := by decide
  have hac := hS.2.2.2.2
  refine n_aload_n c_42_0 rfl ?_
  refine n_getV (bi := 3) c_42_1 hq.c0.1.n rfl rfl rfl (t_law hS hq).2.2.2 ?_
  intro z1 ez1 f2
  refine n_bipush c_42_4 rfl ?_
  refine n_if2_ge c_42_6 (by omega) (by omega) ?_ ?_
  · intro h3
    refine n_fg (le_n (le_n le_0)) ?_
    exact (addWideM_2_c hS hq hr hg 12)  M hS (by omega) (by omega)
  · intro h4
    refine n_aload_n c_42_9 rfl ?_
    refine n_getV (bi := 2) c_42_10 hq.c0.1.n rfl rfl rfl (t_law hS hq).2.2.1 ?_
    intro z5 ez5 f6
    refine n_iload_n c_42_13 rfl ?_
    refine n_i_ishr c_42_14 rfl ?_
    have f7 := n_shr_r z5 r
    generalize (n_shr z5 r) = z8 at f7 ⊢
    refine n_iconst c_42_15 ?_
    refine n_i_iand c_42_16 rfl ?_
    have f9 := n_and_y (x := z8) (y := 1) (by omega)
    generalize (n_and z8 1) = z10 at f9 ⊢
    refine n_if0_ne c_42_17 (by omega) ?_ ?_
    · intro h11
      refine n_fg (le_n (le_n le_0)) ?_
      exact (addWideM_2_c hS hq hr hg 12)  M hS (by omega) (by omega)
    · intro h12
      refine n_aload_n c_42_20 rfl ?_
      refine n_getR c_42_21 hq.c0.1.n rfl rfl rfl hq.r ?_
      refine n_aload_n c_42_24 rfl ?_
      refine n_getV (bi := 3) c_42_25 hq.c0.1.n rfl rfl rfl (t_law hS hq).2.2.2 ?_
      intro z13 ez13 f14
      refine n_iload_n c_42_28 rfl ?_
      refine n_iastoreM hS c_42_29 hq.c0.2.n rfl (by omega) (m_lawr hq (by omega) (by omega)) ?_
      intro M15 eM15 hS15
      have g15_0 : M15 3 15 = M 3 15 := by rw [eM15]; exact nu_a (by unfold LawAt at *; omega)
      have g15_1 : M15 q 3 = M q 3 := by rw [eM15]; exact nu_a (by omega)
      have g15_2 : M15 (q + 1) z13 = r := by rw [eM15]; exact nu_s _ _ _ _
      refine n_aload_n c_42_30 rfl ?_
      refine n_dup2 c_42_31 ?_
      refine n_getV (bi := 3) c_42_32 hq.c0.1.n rfl rfl rfl (t_law hS15 hq).2.2.2 ?_
      intro z16 ez16 f17
      refine n_iconst c_42_35 ?_
      refine n_iadd c_42_36 rfl ?_
      refine n_putM (bi := 3) hS15 c_42_37 hq.c0.1.n rfl rfl rfl rfl (m_law hq (by omega) (by omega)) ?_
      intro M18 eM18 hS18
      have g18_0 : M18 3 15 = M15 3 15 := by rw [eM18]; exact nu_a (by unfold LawAt at *; omega)
      have g18_1 : M18 (q + 1) z13 = M15 (q + 1) z13 := by rw [eM18]; exact nu_a (by omega)
      have g18_2 : M18 q 3 = (z16 + 1) := by rw [eM18]; exact nu_s _ _ _ _
      refine n_aload_n c_42_40 rfl ?_
      refine n_dup2 c_42_41 ?_
      refine n_getV (bi := 2) c_42_42 hq.c0.1.n rfl rfl rfl (t_law hS18 hq).2.2.1 ?_
      intro z19 ez19 f20
      refine n_iconst c_42_45 ?_
      refine n_iload_n c_42_46 rfl ?_
      refine n_i_ishl c_42_47 rfl ?_
      have f21 := n_shl_1 (y := r) (a := 0) (b := 26) (by decide) (by omega)
      generalize (n_shl 1 r) = z22 at f21 ⊢
      refine n_i_ior c_42_48 rfl ?_
      have f23 := n_or_r z19 z22
      generalize (n_or z19 z22) = z24 at f23 ⊢
      refine n_putM (bi := 2) hS18 c_42_49 hq.c0.1.n rfl rfl rfl rfl (m_law hq (by omega) (by omega)) ?_
      intro M25 eM25 hS25
      have g25_0 : M25 3 15 = M18 3 15 := by rw [eM25]; exact nu_a (by unfold LawAt at *; omega)
      have g25_1 : M25 (q + 1) z13 = M18 (q + 1) z13 := by rw [eM25]; exact nu_a (by omega)
      have g25_2 : M25 q 3 = M18 q 3 := by rw [eM25]; exact nu_i (by omega)
      have g25_3 : M25 q 2 = z24 := by rw [eM25]; exact nu_s _ _ _ _
      refine n_fg (le_n (le_n le_0)) ?_
      exact (addWideM_2_c hS hq hr hg 12)  M25 hS25 (by omega) (by omega)

set_option maxHeartbeats 4000000 in
theorem takeM1_2_c {xs : List Int32} {e : Nat} {ac : Int} {M : nM} {q s g : Int} (hS : Sf 2 ac M M) (hq : LawAt q) (hs : -2147483648 ≤ s ∧ s ≤ 2147483647) (hg : M 3 15 = g) : ∀ nn : Nat, (∀ (x4 x5 : Int) (M : nM), Sf 2 ac M M → (2 ≤ x4 ∧ x4 ≤ 2) → (0 ≤ x5 ∧ x5 ≤ 2) → (M 3 15 = g) → (2 - x5) * 2 + 2 < (nn : Int) → nW xs (e + 1) 36 30 [some (2, q), some (0, 1), some (0, s), some (2, 4), some (0, x4), some (0, x5)] [] M (nPV fun M1 => Sf 2 ac M1 M1 ∧ (M1 3 15 = g))) ∧ (∀ (x4 x5 : Int) (M : nM), Sf 2 ac M M → (2 ≤ x4 ∧ x4 ≤ 2) → (0 ≤ x5 ∧ x5 ≤ 1) → (M 3 15 = g) → (2 - x5) * 2 + 1 < (nn : Int) → nW xs (e + 1) 36 57 [some (2, q), some (0, 1), some (0, s), some (2, 4), some (0, x4), some (0, x5)] [] M (nPV fun M1 => Sf 2 ac M1 M1 ∧ (M1 3 15 = g))) := by
  have hd : (2 : Int) = 2 ∨ (2 : Int) = 3 := by decide
  have hac := hS.2.2.2.2
  intro nn
  induction nn with
  | zero => refine ⟨?_, ?_⟩ <;> (intros; omega)
  | succ nn ih =>
    refine ⟨?_, ?_⟩
    · intro x4 x5 M hS k4 k5 hgg hnn
      refine n_iload c_36_30 rfl ?_
      refine n_iload c_36_32 rfl ?_
      refine n_if2_ge c_36_34 (by omega) (by omega) ?_ ?_
      · intro h1
        exact n_rV c_36_63 rfl ⟨hS, by omega⟩
      · intro h2
        refine n_iload_n c_36_37 rfl ?_
        refine n_iload c_36_38 rfl ?_
        refine n_i_ishr c_36_40 rfl ?_
        have f3 := n_shr_r s x5
        generalize (n_shr s x5) = z4 at f3 ⊢
        refine n_iconst c_36_41 ?_
        refine n_i_iand c_36_42 rfl ?_
        have f5 := n_and_y (x := z4) (y := 1) (by omega)
        generalize (n_and z4 1) = z6 at f5 ⊢
        refine n_if0_eq c_36_43 (by omega) ?_ ?_
        · intro h7
          refine n_fg (le_s (le_s (le_s (le_s (le_s (le_s le_0)))))) ?_
          exact ih.2 _ _ M hS (by omega) (by omega) (by omega) (by omega)
        · intro h8
          refine n_aload_n c_36_46 rfl ?_
          refine n_aload_n c_36_47 rfl ?_
          refine n_iload c_36_48 rfl ?_
          refine n_iload_n c_36_50 rfl ?_
          refine n_v2I c_36_51 rfl sc_4.n rfl rfl rfl rfl (widen1_2 (n := x5) hS (by omega)) ?_
          intro z9 M10 hP11
          obtain ⟨eM, f11⟩ := hP11
          subst eM
          refine n_v1V c_36_54 rfl hq.c0.1.n rfl rfl rfl rfl (addWideM_2 (q := q) (r := z9) (g := (M 3 15)) hS hq (by omega) rfl) ?_
          intro  M12 hP13
          obtain ⟨hS12, f13g0⟩ := hP13
          refine n_fg (le_s (le_s (le_s (le_s (le_s (le_s le_0)))))) ?_
          exact ih.2 _ _ M12 hS12 (by omega) (by omega) (by omega) (by omega)
    · intro x4 x5 M hS k4 k5 hgg hnn
      refine n_iinc (L2 := [some (2, q), some (0, 1), some (0, s), some (2, 4), some (0, x4), some (0, (x5 + 1))]) c_36_57 rfl rfl rfl ?_
      refine n_goto c_36_60 ?_
      refine n_fg (le_s (le_s (le_s (le_s (le_s (le_s le_0)))))) ?_
      exact ih.1 _ _ M hS (by omega) (by omega) (by omega) (by omega)
set_option maxHeartbeats 4000000 in
theorem takeM1_2 {xs : List Int32} {e : Nat} {ac : Int} {M : nM} {q s g : Int} (hS : Sf 2 ac M M) (hq : LawAt q) (hs : -2147483648 ≤ s ∧ s ≤ 2147483647) (hg : M 3 15 = g) : nW xs (e + 1) 36 0 [some (2, q), some (0, 1), some (0, s), some (2, 4), none, none] [] M (nPV fun M1 => Sf 2 ac M1 M1 ∧ (M1 3 15 = g)) := by
  have hd : (2 : Int) = 2 ∨ (2 : Int) = 3 := by decide
  have hac := hS.2.2.2.2
  refine n_aload_n c_36_0 rfl ?_
  refine n_iload_n c_36_1 rfl ?_
  refine n_putM (bi := 0) hS c_36_2 hq.c0.1.n rfl rfl rfl rfl (m_law hq (by omega) (by omega)) ?_
  intro M1 eM1 hS1
  have g1_0 : M1 3 15 = M 3 15 := by rw [eM1]; exact nu_a (by unfold LawAt at *; omega)
  have g1_1 : M1 q 0 = 1 := by rw [eM1]; exact nu_s _ _ _ _
  refine n_aload_n c_36_5 rfl ?_
  refine n_iload_n c_36_6 rfl ?_
  refine n_putM (bi := 1) hS1 c_36_7 hq.c0.1.n rfl rfl rfl rfl (m_law hq (by omega) (by omega)) ?_
  intro M2 eM2 hS2
  have g2_0 : M2 3 15 = M1 3 15 := by rw [eM2]; exact nu_a (by unfold LawAt at *; omega)
  have g2_1 : M2 q 0 = M1 q 0 := by rw [eM2]; exact nu_i (by omega)
  have g2_2 : M2 q 1 = s := by rw [eM2]; exact nu_s _ _ _ _
  refine n_aload_n c_36_10 rfl ?_
  refine n_iconst c_36_11 ?_
  refine n_putM (bi := 2) hS2 c_36_12 hq.c0.1.n rfl rfl rfl rfl (m_law hq (by omega) (by omega)) ?_
  intro M3 eM3 hS3
  have g3_0 : M3 3 15 = M2 3 15 := by rw [eM3]; exact nu_a (by unfold LawAt at *; omega)
  have g3_1 : M3 q 0 = M2 q 0 := by rw [eM3]; exact nu_i (by omega)
  have g3_2 : M3 q 1 = M2 q 1 := by rw [eM3]; exact nu_i (by omega)
  have g3_3 : M3 q 2 = 0 := by rw [eM3]; exact nu_s _ _ _ _
  refine n_aload_n c_36_15 rfl ?_
  refine n_iconst c_36_16 ?_
  refine n_putM (bi := 3) hS3 c_36_17 hq.c0.1.n rfl rfl rfl rfl (m_law hq (by omega) (by omega)) ?_
  intro M4 eM4 hS4
  have g4_0 : M4 3 15 = M3 3 15 := by rw [eM4]; exact nu_a (by unfold LawAt at *; omega)
  have g4_1 : M4 q 0 = M3 q 0 := by rw [eM4]; exact nu_i (by omega)
  have g4_2 : M4 q 1 = M3 q 1 := by rw [eM4]; exact nu_i (by omega)
  have g4_3 : M4 q 2 = M3 q 2 := by rw [eM4]; exact nu_i (by omega)
  have g4_4 : M4 q 3 = 0 := by rw [eM4]; exact nu_s _ _ _ _
  refine n_aload_n c_36_20 rfl ?_
  refine n_iload_n c_36_21 rfl ?_
  refine n_v1I c_36_22 rfl sc_4.n rfl rfl rfl rfl (power1_2  hS4 ) ?_
  intro z5 M6 hP7
  obtain ⟨eM, f7⟩ := hP7
  subst eM
  obtain rfl : z5 = 2 := by omega
  refine n_istore (L2 := [some (2, q), some (0, 1), some (0, s), some (2, 4), some (0, 2), none]) c_36_25 rfl rfl ?_
  refine n_iconst c_36_27 ?_
  refine n_istore (L2 := [some (2, q), some (0, 1), some (0, s), some (2, 4), some (0, 2), some (0, 0)]) c_36_28 rfl rfl ?_
  refine n_fg (le_s (le_s (le_s (le_s (le_s (le_s le_0)))))) ?_
  exact (takeM1_2_c hS hq hs hg 26).1 _ _ M4 hS4 (by omega) (by omega) (by omega) (by omega)

set_option maxHeartbeats 4000000 in
theorem takeM2_2_c {xs : List Int32} {e : Nat} {ac : Int} {M : nM} {q s g : Int} (hS : Sf 2 ac M M) (hq : LawAt q) (hs : -2147483648 ≤ s ∧ s ≤ 2147483647) (hg : M 3 15 = g) : ∀ nn : Nat, (∀ (x4 x5 : Int) (M : nM), Sf 2 ac M M → (4 ≤ x4 ∧ x4 ≤ 4) → (0 ≤ x5 ∧ x5 ≤ 4) → (M 3 15 = g) → (4 - x5) * 2 + 2 < (nn : Int) → nW xs (e + 1) 36 30 [some (2, q), some (0, 2), some (0, s), some (2, 4), some (0, x4), some (0, x5)] [] M (nPV fun M1 => Sf 2 ac M1 M1 ∧ (M1 3 15 = g))) ∧ (∀ (x4 x5 : Int) (M : nM), Sf 2 ac M M → (4 ≤ x4 ∧ x4 ≤ 4) → (0 ≤ x5 ∧ x5 ≤ 3) → (M 3 15 = g) → (4 - x5) * 2 + 1 < (nn : Int) → nW xs (e + 1) 36 57 [some (2, q), some (0, 2), some (0, s), some (2, 4), some (0, x4), some (0, x5)] [] M (nPV fun M1 => Sf 2 ac M1 M1 ∧ (M1 3 15 = g))) := by
  have hd : (2 : Int) = 2 ∨ (2 : Int) = 3 := by decide
  have hac := hS.2.2.2.2
  intro nn
  induction nn with
  | zero => refine ⟨?_, ?_⟩ <;> (intros; omega)
  | succ nn ih =>
    refine ⟨?_, ?_⟩
    · intro x4 x5 M hS k4 k5 hgg hnn
      refine n_iload c_36_30 rfl ?_
      refine n_iload c_36_32 rfl ?_
      refine n_if2_ge c_36_34 (by omega) (by omega) ?_ ?_
      · intro h1
        exact n_rV c_36_63 rfl ⟨hS, by omega⟩
      · intro h2
        refine n_iload_n c_36_37 rfl ?_
        refine n_iload c_36_38 rfl ?_
        refine n_i_ishr c_36_40 rfl ?_
        have f3 := n_shr_r s x5
        generalize (n_shr s x5) = z4 at f3 ⊢
        refine n_iconst c_36_41 ?_
        refine n_i_iand c_36_42 rfl ?_
        have f5 := n_and_y (x := z4) (y := 1) (by omega)
        generalize (n_and z4 1) = z6 at f5 ⊢
        refine n_if0_eq c_36_43 (by omega) ?_ ?_
        · intro h7
          refine n_fg (le_s (le_s (le_s (le_s (le_s (le_s le_0)))))) ?_
          exact ih.2 _ _ M hS (by omega) (by omega) (by omega) (by omega)
        · intro h8
          refine n_aload_n c_36_46 rfl ?_
          refine n_aload_n c_36_47 rfl ?_
          refine n_iload c_36_48 rfl ?_
          refine n_iload_n c_36_50 rfl ?_
          refine n_v2I c_36_51 rfl sc_4.n rfl rfl rfl rfl (widen2_2 (n := x5) hS (by omega)) ?_
          intro z9 M10 hP11
          obtain ⟨eM, f11⟩ := hP11
          subst eM
          refine n_v1V c_36_54 rfl hq.c0.1.n rfl rfl rfl rfl (addWideM_2 (q := q) (r := z9) (g := (M 3 15)) hS hq (by omega) rfl) ?_
          intro  M12 hP13
          obtain ⟨hS12, f13g0⟩ := hP13
          refine n_fg (le_s (le_s (le_s (le_s (le_s (le_s le_0)))))) ?_
          exact ih.2 _ _ M12 hS12 (by omega) (by omega) (by omega) (by omega)
    · intro x4 x5 M hS k4 k5 hgg hnn
      refine n_iinc (L2 := [some (2, q), some (0, 2), some (0, s), some (2, 4), some (0, x4), some (0, (x5 + 1))]) c_36_57 rfl rfl rfl ?_
      refine n_goto c_36_60 ?_
      refine n_fg (le_s (le_s (le_s (le_s (le_s (le_s le_0)))))) ?_
      exact ih.1 _ _ M hS (by omega) (by omega) (by omega) (by omega)
set_option maxHeartbeats 4000000 in
theorem takeM2_2 {xs : List Int32} {e : Nat} {ac : Int} {M : nM} {q s g : Int} (hS : Sf 2 ac M M) (hq : LawAt q) (hs : -2147483648 ≤ s ∧ s ≤ 2147483647) (hg : M 3 15 = g) : nW xs (e + 1) 36 0 [some (2, q), some (0, 2), some (0, s), some (2, 4), none, none] [] M (nPV fun M1 => Sf 2 ac M1 M1 ∧ (M1 3 15 = g)) := by
  have hd : (2 : Int) = 2 ∨ (2 : Int) = 3 := by decide
  have hac := hS.2.2.2.2
  refine n_aload_n c_36_0 rfl ?_
  refine n_iload_n c_36_1 rfl ?_
  refine n_putM (bi := 0) hS c_36_2 hq.c0.1.n rfl rfl rfl rfl (m_law hq (by omega) (by omega)) ?_
  intro M1 eM1 hS1
  have g1_0 : M1 3 15 = M 3 15 := by rw [eM1]; exact nu_a (by unfold LawAt at *; omega)
  have g1_1 : M1 q 0 = 2 := by rw [eM1]; exact nu_s _ _ _ _
  refine n_aload_n c_36_5 rfl ?_
  refine n_iload_n c_36_6 rfl ?_
  refine n_putM (bi := 1) hS1 c_36_7 hq.c0.1.n rfl rfl rfl rfl (m_law hq (by omega) (by omega)) ?_
  intro M2 eM2 hS2
  have g2_0 : M2 3 15 = M1 3 15 := by rw [eM2]; exact nu_a (by unfold LawAt at *; omega)
  have g2_1 : M2 q 0 = M1 q 0 := by rw [eM2]; exact nu_i (by omega)
  have g2_2 : M2 q 1 = s := by rw [eM2]; exact nu_s _ _ _ _
  refine n_aload_n c_36_10 rfl ?_
  refine n_iconst c_36_11 ?_
  refine n_putM (bi := 2) hS2 c_36_12 hq.c0.1.n rfl rfl rfl rfl (m_law hq (by omega) (by omega)) ?_
  intro M3 eM3 hS3
  have g3_0 : M3 3 15 = M2 3 15 := by rw [eM3]; exact nu_a (by unfold LawAt at *; omega)
  have g3_1 : M3 q 0 = M2 q 0 := by rw [eM3]; exact nu_i (by omega)
  have g3_2 : M3 q 1 = M2 q 1 := by rw [eM3]; exact nu_i (by omega)
  have g3_3 : M3 q 2 = 0 := by rw [eM3]; exact nu_s _ _ _ _
  refine n_aload_n c_36_15 rfl ?_
  refine n_iconst c_36_16 ?_
  refine n_putM (bi := 3) hS3 c_36_17 hq.c0.1.n rfl rfl rfl rfl (m_law hq (by omega) (by omega)) ?_
  intro M4 eM4 hS4
  have g4_0 : M4 3 15 = M3 3 15 := by rw [eM4]; exact nu_a (by unfold LawAt at *; omega)
  have g4_1 : M4 q 0 = M3 q 0 := by rw [eM4]; exact nu_i (by omega)
  have g4_2 : M4 q 1 = M3 q 1 := by rw [eM4]; exact nu_i (by omega)
  have g4_3 : M4 q 2 = M3 q 2 := by rw [eM4]; exact nu_i (by omega)
  have g4_4 : M4 q 3 = 0 := by rw [eM4]; exact nu_s _ _ _ _
  refine n_aload_n c_36_20 rfl ?_
  refine n_iload_n c_36_21 rfl ?_
  refine n_v1I c_36_22 rfl sc_4.n rfl rfl rfl rfl (power2_2  hS4 ) ?_
  intro z5 M6 hP7
  obtain ⟨eM, f7⟩ := hP7
  subst eM
  obtain rfl : z5 = 4 := by omega
  refine n_istore (L2 := [some (2, q), some (0, 2), some (0, s), some (2, 4), some (0, 4), none]) c_36_25 rfl rfl ?_
  refine n_iconst c_36_27 ?_
  refine n_istore (L2 := [some (2, q), some (0, 2), some (0, s), some (2, 4), some (0, 4), some (0, 0)]) c_36_28 rfl rfl ?_
  refine n_fg (le_s (le_s (le_s (le_s (le_s (le_s le_0)))))) ?_
  exact (takeM2_2_c hS hq hs hg 34).1 _ _ M4 hS4 (by omega) (by omega) (by omega) (by omega)

set_option maxHeartbeats 4000000 in
theorem takeM3_2_c {xs : List Int32} {e : Nat} {ac : Int} {M : nM} {q s g : Int} (hS : Sf 2 ac M M) (hq : LawAt q) (hs : -2147483648 ≤ s ∧ s ≤ 2147483647) (hg : M 3 15 = g) : ∀ nn : Nat, (∀ (x4 x5 : Int) (M : nM), Sf 2 ac M M → (8 ≤ x4 ∧ x4 ≤ 8) → (0 ≤ x5 ∧ x5 ≤ 8) → (M 3 15 = g) → (8 - x5) * 2 + 2 < (nn : Int) → nW xs (e + 1) 36 30 [some (2, q), some (0, 3), some (0, s), some (2, 4), some (0, x4), some (0, x5)] [] M (nPV fun M1 => Sf 2 ac M1 M1 ∧ (M1 3 15 = g))) ∧ (∀ (x4 x5 : Int) (M : nM), Sf 2 ac M M → (8 ≤ x4 ∧ x4 ≤ 8) → (0 ≤ x5 ∧ x5 ≤ 7) → (M 3 15 = g) → (8 - x5) * 2 + 1 < (nn : Int) → nW xs (e + 1) 36 57 [some (2, q), some (0, 3), some (0, s), some (2, 4), some (0, x4), some (0, x5)] [] M (nPV fun M1 => Sf 2 ac M1 M1 ∧ (M1 3 15 = g))) := by
  have hd : (2 : Int) = 2 ∨ (2 : Int) = 3 := by decide
  have hac := hS.2.2.2.2
  intro nn
  induction nn with
  | zero => refine ⟨?_, ?_⟩ <;> (intros; omega)
  | succ nn ih =>
    refine ⟨?_, ?_⟩
    · intro x4 x5 M hS k4 k5 hgg hnn
      refine n_iload c_36_30 rfl ?_
      refine n_iload c_36_32 rfl ?_
      refine n_if2_ge c_36_34 (by omega) (by omega) ?_ ?_
      · intro h1
        exact n_rV c_36_63 rfl ⟨hS, by omega⟩
      · intro h2
        refine n_iload_n c_36_37 rfl ?_
        refine n_iload c_36_38 rfl ?_
        refine n_i_ishr c_36_40 rfl ?_
        have f3 := n_shr_r s x5
        generalize (n_shr s x5) = z4 at f3 ⊢
        refine n_iconst c_36_41 ?_
        refine n_i_iand c_36_42 rfl ?_
        have f5 := n_and_y (x := z4) (y := 1) (by omega)
        generalize (n_and z4 1) = z6 at f5 ⊢
        refine n_if0_eq c_36_43 (by omega) ?_ ?_
        · intro h7
          refine n_fg (le_s (le_s (le_s (le_s (le_s (le_s le_0)))))) ?_
          exact ih.2 _ _ M hS (by omega) (by omega) (by omega) (by omega)
        · intro h8
          refine n_aload_n c_36_46 rfl ?_
          refine n_aload_n c_36_47 rfl ?_
          refine n_iload c_36_48 rfl ?_
          refine n_iload_n c_36_50 rfl ?_
          refine n_v2I c_36_51 rfl sc_4.n rfl rfl rfl rfl (widen3_2 (n := x5) hS (by omega)) ?_
          intro z9 M10 hP11
          obtain ⟨eM, f11⟩ := hP11
          subst eM
          refine n_v1V c_36_54 rfl hq.c0.1.n rfl rfl rfl rfl (addWideM_2 (q := q) (r := z9) (g := (M 3 15)) hS hq (by omega) rfl) ?_
          intro  M12 hP13
          obtain ⟨hS12, f13g0⟩ := hP13
          refine n_fg (le_s (le_s (le_s (le_s (le_s (le_s le_0)))))) ?_
          exact ih.2 _ _ M12 hS12 (by omega) (by omega) (by omega) (by omega)
    · intro x4 x5 M hS k4 k5 hgg hnn
      refine n_iinc (L2 := [some (2, q), some (0, 3), some (0, s), some (2, 4), some (0, x4), some (0, (x5 + 1))]) c_36_57 rfl rfl rfl ?_
      refine n_goto c_36_60 ?_
      refine n_fg (le_s (le_s (le_s (le_s (le_s (le_s le_0)))))) ?_
      exact ih.1 _ _ M hS (by omega) (by omega) (by omega) (by omega)
set_option maxHeartbeats 4000000 in
theorem takeM3_2 {xs : List Int32} {e : Nat} {ac : Int} {M : nM} {q s g : Int} (hS : Sf 2 ac M M) (hq : LawAt q) (hs : -2147483648 ≤ s ∧ s ≤ 2147483647) (hg : M 3 15 = g) : nW xs (e + 1) 36 0 [some (2, q), some (0, 3), some (0, s), some (2, 4), none, none] [] M (nPV fun M1 => Sf 2 ac M1 M1 ∧ (M1 3 15 = g)) := by
  have hd : (2 : Int) = 2 ∨ (2 : Int) = 3 := by decide
  have hac := hS.2.2.2.2
  refine n_aload_n c_36_0 rfl ?_
  refine n_iload_n c_36_1 rfl ?_
  refine n_putM (bi := 0) hS c_36_2 hq.c0.1.n rfl rfl rfl rfl (m_law hq (by omega) (by omega)) ?_
  intro M1 eM1 hS1
  have g1_0 : M1 3 15 = M 3 15 := by rw [eM1]; exact nu_a (by unfold LawAt at *; omega)
  have g1_1 : M1 q 0 = 3 := by rw [eM1]; exact nu_s _ _ _ _
  refine n_aload_n c_36_5 rfl ?_
  refine n_iload_n c_36_6 rfl ?_
  refine n_putM (bi := 1) hS1 c_36_7 hq.c0.1.n rfl rfl rfl rfl (m_law hq (by omega) (by omega)) ?_
  intro M2 eM2 hS2
  have g2_0 : M2 3 15 = M1 3 15 := by rw [eM2]; exact nu_a (by unfold LawAt at *; omega)
  have g2_1 : M2 q 0 = M1 q 0 := by rw [eM2]; exact nu_i (by omega)
  have g2_2 : M2 q 1 = s := by rw [eM2]; exact nu_s _ _ _ _
  refine n_aload_n c_36_10 rfl ?_
  refine n_iconst c_36_11 ?_
  refine n_putM (bi := 2) hS2 c_36_12 hq.c0.1.n rfl rfl rfl rfl (m_law hq (by omega) (by omega)) ?_
  intro M3 eM3 hS3
  have g3_0 : M3 3 15 = M2 3 15 := by rw [eM3]; exact nu_a (by unfold LawAt at *; omega)
  have g3_1 : M3 q 0 = M2 q 0 := by rw [eM3]; exact nu_i (by omega)
  have g3_2 : M3 q 1 = M2 q 1 := by rw [eM3]; exact nu_i (by omega)
  have g3_3 : M3 q 2 = 0 := by rw [eM3]; exact nu_s _ _ _ _
  refine n_aload_n c_36_15 rfl ?_
  refine n_iconst c_36_16 ?_
  refine n_putM (bi := 3) hS3 c_36_17 hq.c0.1.n rfl rfl rfl rfl (m_law hq (by omega) (by omega)) ?_
  intro M4 eM4 hS4
  have g4_0 : M4 3 15 = M3 3 15 := by rw [eM4]; exact nu_a (by unfold LawAt at *; omega)
  have g4_1 : M4 q 0 = M3 q 0 := by rw [eM4]; exact nu_i (by omega)
  have g4_2 : M4 q 1 = M3 q 1 := by rw [eM4]; exact nu_i (by omega)
  have g4_3 : M4 q 2 = M3 q 2 := by rw [eM4]; exact nu_i (by omega)
  have g4_4 : M4 q 3 = 0 := by rw [eM4]; exact nu_s _ _ _ _
  refine n_aload_n c_36_20 rfl ?_
  refine n_iload_n c_36_21 rfl ?_
  refine n_v1I c_36_22 rfl sc_4.n rfl rfl rfl rfl (power3_2  hS4 ) ?_
  intro z5 M6 hP7
  obtain ⟨eM, f7⟩ := hP7
  subst eM
  obtain rfl : z5 = 8 := by omega
  refine n_istore (L2 := [some (2, q), some (0, 3), some (0, s), some (2, 4), some (0, 8), none]) c_36_25 rfl rfl ?_
  refine n_iconst c_36_27 ?_
  refine n_istore (L2 := [some (2, q), some (0, 3), some (0, s), some (2, 4), some (0, 8), some (0, 0)]) c_36_28 rfl rfl ?_
  refine n_fg (le_s (le_s (le_s (le_s (le_s (le_s le_0)))))) ?_
  exact (takeM3_2_c hS hq hs hg 50).1 _ _ M4 hS4 (by omega) (by omega) (by omega) (by omega)

set_option maxHeartbeats 4000000 in
theorem takeM_2 {xs : List Int32} {e : Nat} {ac : Int} {M : nM} {q k s g : Int} (hS : Sf 2 ac M M) (hq : LawAt q) (hk : 1 ≤ k ∧ k ≤ 3) (hs : -2147483648 ≤ s ∧ s ≤ 2147483647) (hg : M 3 15 = g) : nW xs (e + 1) 36 0 [some (2, q), some (0, k), some (0, s), some (2, 4), none, none] [] M (nPV fun M1 => Sf 2 ac M1 M1 ∧ (M1 3 15 = g)) := by
  rcases (show k = 1 ∨ k = 2 ∨ k = 3 by omega) with rfl | rfl | rfl
  · exact n_post (takeM1_2 hS hq (by omega) hg) (fun w M1 h => h)
  · exact n_post (takeM2_2 hS hq (by omega) hg) (fun w M1 h => h)
  · exact n_post (takeM3_2 hS hq (by omega) hg) (fun w M1 h => h)

set_option maxHeartbeats 4000000 in
theorem law_2_c {xs : List Int32} {e : Nat} {ac : Int} {M : nM} {k s : Int} (hS : Sf 2 ac M M) (hk : -2147483648 ≤ k ∧ k ≤ 2147483647) (hs : -2147483648 ≤ s ∧ s ≤ 2147483647) : ∀ nn : Nat, (∀ (M : nM), Sf 2 ac M M → 1 < (nn : Int) → nW xs (e + 2) 98 19 [none, none, none, none] [] M (nPI fun z M1 => Sf 2 ac M1 M1 ∧ (-2147483648 ≤ z ∧ z ≤ 2147483647))) := by
  have hd : (2 : Int) = 2 ∨ (2 : Int) = 3 := by decide
  have hac := hS.2.2.2.2
  intro nn
  induction nn with
  | zero => intros; omega
  | succ nn ih =>
    intro M hS hnn
    refine n_bipush c_98_19 rfl ?_
    exact n_rI c_98_21 rfl ⟨hS, by omega⟩
set_option maxHeartbeats 4000000 in
theorem law_2 {xs : List Int32} {e : Nat} {ac : Int} {M : nM} {k s : Int} (hS : Sf 2 ac M M) (hk : -2147483648 ≤ k ∧ k ≤ 2147483647) (hs : -2147483648 ≤ s ∧ s ≤ 2147483647) : nW xs (e + 2) 98 0 [some (2, 3), some (0, k), some (0, s), none] [] M (nPI fun z M1 => Sf 2 ac M1 M1 ∧ (-2147483648 ≤ z ∧ z ≤ 2147483647)) := by
  have hd : (2 : Int) = 2 ∨ (2 : Int) = 3 := by decide
  have hac := hS.2.2.2.2
  refine n_aload_n c_98_0 rfl ?_
  refine n_getR c_98_1 sc_3.n rfl rfl rfl r_3_1 ?_
  refine n_iload_n c_98_4 rfl ?_
  refine n_v1I c_98_5 rfl sc_8.n rfl rfl rfl rfl (isSlot_2 (s := s) hS (by omega)) ?_
  intro z1 M2 hP3
  obtain ⟨eM, f3, f3p0⟩ := hP3
  subst eM
  refine n_if0_eq c_98_8 (by omega) ?_ ?_
  · intro h4
    refine n_fg (le_n (le_n (le_n (le_n le_0)))) ?_
    exact (law_2_c hS hk hs 12)  M hS  (by omega)
  · intro h5
    refine n_aload_n c_98_11 rfl ?_
    refine n_iload_n c_98_12 rfl ?_
    refine n_v1I c_98_13 rfl sc_3.n rfl rfl rfl rfl (isPlaceCount_2 (k := k) hS (by omega)) ?_
    intro z6 M7 hP8
    obtain ⟨eM, f8, f8p0⟩ := hP8
    subst eM
    refine n_if0_ne c_98_16 (by omega) ?_ ?_
    · intro h9
      refine n_aload_n c_98_22 rfl ?_
      refine n_getV (bi := 15) c_98_23 sc_3.n rfl rfl rfl (t_3_15 hS) ?_
      intro z10 ez10 f11
      refine n_bipush c_98_26 rfl ?_
      refine n_if2_lt c_98_28 (by omega) (by omega) ?_ ?_
      · intro h12
        refine n_aload_n c_98_34 rfl ?_
        refine n_getR c_98_35 sc_3.n rfl rfl rfl r_3_1 ?_
        refine n_iload_n c_98_38 rfl ?_
        refine n_v1I c_98_39 rfl sc_8.n rfl rfl rfl rfl (hasRow_2 (s := s) hS (by omega)) ?_
        intro z13 M14 hP15
        obtain ⟨eM, f15, f15p0⟩ := hP15
        subst eM
        refine n_if0_ne c_98_42 (by omega) ?_ ?_
        · intro h16
          refine n_aload_n c_98_48 rfl ?_
          refine n_iload_n c_98_49 rfl ?_
          refine n_iload_n c_98_50 rfl ?_
          refine n_v2I c_98_51 rfl sc_3.n rfl rfl rfl rfl (readLaw_2 (k := k) (s := s) hS (by omega) (by omega)) ?_
          intro z17 M18 hP19
          obtain ⟨eM, f19⟩ := hP19
          subst eM
          refine n_istore_n (L2 := [some (2, 3), some (0, k), some (0, s), some (0, z17)]) c_98_54 rfl rfl ?_
          refine n_iload_n c_98_55 rfl ?_
          refine n_if0_ge c_98_56 (by omega) ?_ ?_
          · intro h20
            refine n_aload_n c_98_61 rfl ?_
            refine n_getR c_98_62 sc_3.n rfl rfl rfl r_3_3 ?_
            refine n_aload_n c_98_65 rfl ?_
            refine n_getV (bi := 15) c_98_66 sc_3.n rfl rfl rfl (t_3_15 hS) ?_
            intro z21 ez21 f22
            refine n_aaload c_98_69 sc_13.n rfl rfl rfl (by omega) (r_laws _) ?_
            have q23 : LawAt (79 + 2 * z21) := by unfold LawAt; omega
            refine n_iload_n c_98_70 rfl ?_
            refine n_iload_n c_98_71 rfl ?_
            refine n_aload_n c_98_72 rfl ?_
            refine n_getR c_98_73 sc_3.n rfl rfl rfl r_3_0 ?_
            refine n_v3V c_98_76 rfl q23.c0.1.n rfl rfl rfl rfl (takeM_2 (q := (79 + 2 * z21)) (k := k) (s := z17) (g := (M 3 15)) hS q23 (by omega) (by omega) rfl) ?_
            intro  M24 hP25
            obtain ⟨hS24, f25g0⟩ := hP25
            refine n_aload_n c_98_79 rfl ?_
            refine n_dup2 c_98_80 ?_
            refine n_getV (bi := 15) c_98_81 sc_3.n rfl rfl rfl (t_3_15 hS24) ?_
            intro z26 ez26 f27
            refine n_dup_x102 c_98_84 ?_
            refine n_iconst c_98_85 ?_
            refine n_iadd c_98_86 rfl ?_
            refine n_putM (bi := 15) hS24 c_98_87 sc_3.n rfl rfl rfl rfl (m_3_15 (by omega)) ?_
            intro M28 eM28 hS28
            have g28_0 : M28 3 15 = (z26 + 1) := by rw [eM28]; exact nu_s _ _ _ _
            exact n_rI c_98_90 rfl ⟨hS28, by omega⟩
          · intro h29
            refine n_iload_n c_98_59 rfl ?_
            exact n_rI c_98_60 rfl ⟨hS, by omega⟩
        · intro h30
          refine n_bipush c_98_45 rfl ?_
          exact n_rI c_98_47 rfl ⟨hS, by omega⟩
      · intro h31
        refine n_bipush c_98_31 rfl ?_
        exact n_rI c_98_33 rfl ⟨hS, by omega⟩
    · intro h32
      refine n_fg (le_n (le_n (le_n (le_n le_0)))) ?_
      exact (law_2_c hS hk hs 12)  M hS  (by omega)

set_option maxHeartbeats 4000000 in
theorem mpower0_2 {xs : List Int32} {e : Nat} {ac : Int} {M0 M : nM} (hS : Sf 2 ac M0 M)  : nW xs e 140 0 [some (0, 2), some (0, 0), none, none] [] M (nPI fun z M1 => M = M1 ∧ (1 ≤ z ∧ z ≤ 1)) := by
  have hd : (2 : Int) = 2 ∨ (2 : Int) = 3 := by decide
  have hac := hS.2.2.2.2
  refine n_iconst c_140_0 ?_
  refine n_istore_n (L2 := [some (0, 2), some (0, 0), some (0, 1), none]) c_140_1 rfl rfl ?_
  refine n_iconst c_140_2 ?_
  refine n_istore_n (L2 := [some (0, 2), some (0, 0), some (0, 1), some (0, 0)]) c_140_3 rfl rfl ?_
  refine n_iload_n c_140_4 rfl ?_
  refine n_iload_n c_140_5 rfl ?_
  refine n_if2_ge c_140_6 (by omega) (by omega) ?_ ?_
  · intro h1
    refine n_iload_n c_140_19 rfl ?_
    exact n_rI c_140_20 rfl ⟨rfl, by omega⟩
  · intro h2
    exfalso; omega

set_option maxHeartbeats 4000000 in
theorem mpower1_2 {xs : List Int32} {e : Nat} {ac : Int} {M0 M : nM} (hS : Sf 2 ac M0 M)  : nW xs e 140 0 [some (0, 2), some (0, 1), none, none] [] M (nPI fun z M1 => M = M1 ∧ (2 ≤ z ∧ z ≤ 2)) := by
  have hd : (2 : Int) = 2 ∨ (2 : Int) = 3 := by decide
  have hac := hS.2.2.2.2
  refine n_iconst c_140_0 ?_
  refine n_istore_n (L2 := [some (0, 2), some (0, 1), some (0, 1), none]) c_140_1 rfl rfl ?_
  refine n_iconst c_140_2 ?_
  refine n_istore_n (L2 := [some (0, 2), some (0, 1), some (0, 1), some (0, 0)]) c_140_3 rfl rfl ?_
  refine n_iload_n c_140_4 rfl ?_
  refine n_iload_n c_140_5 rfl ?_
  refine n_if2_ge c_140_6 (by omega) (by omega) ?_ ?_
  · intro h1
    exfalso; omega
  · intro h2
    refine n_iload_n c_140_9 rfl ?_
    refine n_iload_n c_140_10 rfl ?_
    refine n_imul c_140_11 rfl ?_
    refine n_istore_n (L2 := [some (0, 2), some (0, 1), some (0, (1 * 2)), some (0, 0)]) c_140_12 rfl rfl ?_
    refine n_iinc (L2 := [some (0, 2), some (0, 1), some (0, (1 * 2)), some (0, (0 + 1))]) c_140_13 rfl rfl rfl ?_
    refine n_goto c_140_16 ?_
    refine n_iload_n c_140_4 rfl ?_
    refine n_iload_n c_140_5 rfl ?_
    refine n_if2_ge c_140_6 (by omega) (by omega) ?_ ?_
    · intro h3
      refine n_iload_n c_140_19 rfl ?_
      exact n_rI c_140_20 rfl ⟨rfl, by omega⟩
    · intro h4
      exfalso; omega

set_option maxHeartbeats 4000000 in
theorem mpower2_2 {xs : List Int32} {e : Nat} {ac : Int} {M0 M : nM} (hS : Sf 2 ac M0 M)  : nW xs e 140 0 [some (0, 2), some (0, 2), none, none] [] M (nPI fun z M1 => M = M1 ∧ (4 ≤ z ∧ z ≤ 4)) := by
  have hd : (2 : Int) = 2 ∨ (2 : Int) = 3 := by decide
  have hac := hS.2.2.2.2
  refine n_iconst c_140_0 ?_
  refine n_istore_n (L2 := [some (0, 2), some (0, 2), some (0, 1), none]) c_140_1 rfl rfl ?_
  refine n_iconst c_140_2 ?_
  refine n_istore_n (L2 := [some (0, 2), some (0, 2), some (0, 1), some (0, 0)]) c_140_3 rfl rfl ?_
  refine n_iload_n c_140_4 rfl ?_
  refine n_iload_n c_140_5 rfl ?_
  refine n_if2_ge c_140_6 (by omega) (by omega) ?_ ?_
  · intro h1
    exfalso; omega
  · intro h2
    refine n_iload_n c_140_9 rfl ?_
    refine n_iload_n c_140_10 rfl ?_
    refine n_imul c_140_11 rfl ?_
    refine n_istore_n (L2 := [some (0, 2), some (0, 2), some (0, (1 * 2)), some (0, 0)]) c_140_12 rfl rfl ?_
    refine n_iinc (L2 := [some (0, 2), some (0, 2), some (0, (1 * 2)), some (0, (0 + 1))]) c_140_13 rfl rfl rfl ?_
    refine n_goto c_140_16 ?_
    refine n_iload_n c_140_4 rfl ?_
    refine n_iload_n c_140_5 rfl ?_
    refine n_if2_ge c_140_6 (by omega) (by omega) ?_ ?_
    · intro h3
      exfalso; omega
    · intro h4
      refine n_iload_n c_140_9 rfl ?_
      refine n_iload_n c_140_10 rfl ?_
      refine n_imul c_140_11 rfl ?_
      refine n_istore_n (L2 := [some (0, 2), some (0, 2), some (0, ((1 * 2) * 2)), some (0, (0 + 1))]) c_140_12 rfl rfl ?_
      refine n_iinc (L2 := [some (0, 2), some (0, 2), some (0, ((1 * 2) * 2)), some (0, ((0 + 1) + 1))]) c_140_13 rfl rfl rfl ?_
      refine n_goto c_140_16 ?_
      refine n_iload_n c_140_4 rfl ?_
      refine n_iload_n c_140_5 rfl ?_
      refine n_if2_ge c_140_6 (by omega) (by omega) ?_ ?_
      · intro h5
        refine n_iload_n c_140_19 rfl ?_
        exact n_rI c_140_20 rfl ⟨rfl, by omega⟩
      · intro h6
        exfalso; omega

set_option maxHeartbeats 4000000 in
theorem mpower3_2 {xs : List Int32} {e : Nat} {ac : Int} {M0 M : nM} (hS : Sf 2 ac M0 M)  : nW xs e 140 0 [some (0, 2), some (0, 3), none, none] [] M (nPI fun z M1 => M = M1 ∧ (8 ≤ z ∧ z ≤ 8)) := by
  have hd : (2 : Int) = 2 ∨ (2 : Int) = 3 := by decide
  have hac := hS.2.2.2.2
  refine n_iconst c_140_0 ?_
  refine n_istore_n (L2 := [some (0, 2), some (0, 3), some (0, 1), none]) c_140_1 rfl rfl ?_
  refine n_iconst c_140_2 ?_
  refine n_istore_n (L2 := [some (0, 2), some (0, 3), some (0, 1), some (0, 0)]) c_140_3 rfl rfl ?_
  refine n_iload_n c_140_4 rfl ?_
  refine n_iload_n c_140_5 rfl ?_
  refine n_if2_ge c_140_6 (by omega) (by omega) ?_ ?_
  · intro h1
    exfalso; omega
  · intro h2
    refine n_iload_n c_140_9 rfl ?_
    refine n_iload_n c_140_10 rfl ?_
    refine n_imul c_140_11 rfl ?_
    refine n_istore_n (L2 := [some (0, 2), some (0, 3), some (0, (1 * 2)), some (0, 0)]) c_140_12 rfl rfl ?_
    refine n_iinc (L2 := [some (0, 2), some (0, 3), some (0, (1 * 2)), some (0, (0 + 1))]) c_140_13 rfl rfl rfl ?_
    refine n_goto c_140_16 ?_
    refine n_iload_n c_140_4 rfl ?_
    refine n_iload_n c_140_5 rfl ?_
    refine n_if2_ge c_140_6 (by omega) (by omega) ?_ ?_
    · intro h3
      exfalso; omega
    · intro h4
      refine n_iload_n c_140_9 rfl ?_
      refine n_iload_n c_140_10 rfl ?_
      refine n_imul c_140_11 rfl ?_
      refine n_istore_n (L2 := [some (0, 2), some (0, 3), some (0, ((1 * 2) * 2)), some (0, (0 + 1))]) c_140_12 rfl rfl ?_
      refine n_iinc (L2 := [some (0, 2), some (0, 3), some (0, ((1 * 2) * 2)), some (0, ((0 + 1) + 1))]) c_140_13 rfl rfl rfl ?_
      refine n_goto c_140_16 ?_
      refine n_iload_n c_140_4 rfl ?_
      refine n_iload_n c_140_5 rfl ?_
      refine n_if2_ge c_140_6 (by omega) (by omega) ?_ ?_
      · intro h5
        exfalso; omega
      · intro h6
        refine n_iload_n c_140_9 rfl ?_
        refine n_iload_n c_140_10 rfl ?_
        refine n_imul c_140_11 rfl ?_
        refine n_istore_n (L2 := [some (0, 2), some (0, 3), some (0, (((1 * 2) * 2) * 2)), some (0, ((0 + 1) + 1))]) c_140_12 rfl rfl ?_
        refine n_iinc (L2 := [some (0, 2), some (0, 3), some (0, (((1 * 2) * 2) * 2)), some (0, (((0 + 1) + 1) + 1))]) c_140_13 rfl rfl rfl ?_
        refine n_goto c_140_16 ?_
        refine n_iload_n c_140_4 rfl ?_
        refine n_iload_n c_140_5 rfl ?_
        refine n_if2_ge c_140_6 (by omega) (by omega) ?_ ?_
        · intro h7
          refine n_iload_n c_140_19 rfl ?_
          exact n_rI c_140_20 rfl ⟨rfl, by omega⟩
        · intro h8
          exfalso; omega

set_option maxHeartbeats 4000000 in
theorem mpower4_2 {xs : List Int32} {e : Nat} {ac : Int} {M0 M : nM} (hS : Sf 2 ac M0 M)  : nW xs e 140 0 [some (0, 2), some (0, 4), none, none] [] M (nPI fun z M1 => M = M1 ∧ (16 ≤ z ∧ z ≤ 16)) := by
  have hd : (2 : Int) = 2 ∨ (2 : Int) = 3 := by decide
  have hac := hS.2.2.2.2
  refine n_iconst c_140_0 ?_
  refine n_istore_n (L2 := [some (0, 2), some (0, 4), some (0, 1), none]) c_140_1 rfl rfl ?_
  refine n_iconst c_140_2 ?_
  refine n_istore_n (L2 := [some (0, 2), some (0, 4), some (0, 1), some (0, 0)]) c_140_3 rfl rfl ?_
  refine n_iload_n c_140_4 rfl ?_
  refine n_iload_n c_140_5 rfl ?_
  refine n_if2_ge c_140_6 (by omega) (by omega) ?_ ?_
  · intro h1
    exfalso; omega
  · intro h2
    refine n_iload_n c_140_9 rfl ?_
    refine n_iload_n c_140_10 rfl ?_
    refine n_imul c_140_11 rfl ?_
    refine n_istore_n (L2 := [some (0, 2), some (0, 4), some (0, (1 * 2)), some (0, 0)]) c_140_12 rfl rfl ?_
    refine n_iinc (L2 := [some (0, 2), some (0, 4), some (0, (1 * 2)), some (0, (0 + 1))]) c_140_13 rfl rfl rfl ?_
    refine n_goto c_140_16 ?_
    refine n_iload_n c_140_4 rfl ?_
    refine n_iload_n c_140_5 rfl ?_
    refine n_if2_ge c_140_6 (by omega) (by omega) ?_ ?_
    · intro h3
      exfalso; omega
    · intro h4
      refine n_iload_n c_140_9 rfl ?_
      refine n_iload_n c_140_10 rfl ?_
      refine n_imul c_140_11 rfl ?_
      refine n_istore_n (L2 := [some (0, 2), some (0, 4), some (0, ((1 * 2) * 2)), some (0, (0 + 1))]) c_140_12 rfl rfl ?_
      refine n_iinc (L2 := [some (0, 2), some (0, 4), some (0, ((1 * 2) * 2)), some (0, ((0 + 1) + 1))]) c_140_13 rfl rfl rfl ?_
      refine n_goto c_140_16 ?_
      refine n_iload_n c_140_4 rfl ?_
      refine n_iload_n c_140_5 rfl ?_
      refine n_if2_ge c_140_6 (by omega) (by omega) ?_ ?_
      · intro h5
        exfalso; omega
      · intro h6
        refine n_iload_n c_140_9 rfl ?_
        refine n_iload_n c_140_10 rfl ?_
        refine n_imul c_140_11 rfl ?_
        refine n_istore_n (L2 := [some (0, 2), some (0, 4), some (0, (((1 * 2) * 2) * 2)), some (0, ((0 + 1) + 1))]) c_140_12 rfl rfl ?_
        refine n_iinc (L2 := [some (0, 2), some (0, 4), some (0, (((1 * 2) * 2) * 2)), some (0, (((0 + 1) + 1) + 1))]) c_140_13 rfl rfl rfl ?_
        refine n_goto c_140_16 ?_
        refine n_iload_n c_140_4 rfl ?_
        refine n_iload_n c_140_5 rfl ?_
        refine n_if2_ge c_140_6 (by omega) (by omega) ?_ ?_
        · intro h7
          exfalso; omega
        · intro h8
          refine n_iload_n c_140_9 rfl ?_
          refine n_iload_n c_140_10 rfl ?_
          refine n_imul c_140_11 rfl ?_
          refine n_istore_n (L2 := [some (0, 2), some (0, 4), some (0, ((((1 * 2) * 2) * 2) * 2)), some (0, (((0 + 1) + 1) + 1))]) c_140_12 rfl rfl ?_
          refine n_iinc (L2 := [some (0, 2), some (0, 4), some (0, ((((1 * 2) * 2) * 2) * 2)), some (0, ((((0 + 1) + 1) + 1) + 1))]) c_140_13 rfl rfl rfl ?_
          refine n_goto c_140_16 ?_
          refine n_iload_n c_140_4 rfl ?_
          refine n_iload_n c_140_5 rfl ?_
          refine n_if2_ge c_140_6 (by omega) (by omega) ?_ ?_
          · intro h9
            refine n_iload_n c_140_19 rfl ?_
            exact n_rI c_140_20 rfl ⟨rfl, by omega⟩
          · intro h10
            exfalso; omega

set_option maxHeartbeats 4000000 in
theorem mpower5_2 {xs : List Int32} {e : Nat} {ac : Int} {M0 M : nM} (hS : Sf 2 ac M0 M)  : nW xs e 140 0 [some (0, 2), some (0, 5), none, none] [] M (nPI fun z M1 => M = M1 ∧ (32 ≤ z ∧ z ≤ 32)) := by
  have hd : (2 : Int) = 2 ∨ (2 : Int) = 3 := by decide
  have hac := hS.2.2.2.2
  refine n_iconst c_140_0 ?_
  refine n_istore_n (L2 := [some (0, 2), some (0, 5), some (0, 1), none]) c_140_1 rfl rfl ?_
  refine n_iconst c_140_2 ?_
  refine n_istore_n (L2 := [some (0, 2), some (0, 5), some (0, 1), some (0, 0)]) c_140_3 rfl rfl ?_
  refine n_iload_n c_140_4 rfl ?_
  refine n_iload_n c_140_5 rfl ?_
  refine n_if2_ge c_140_6 (by omega) (by omega) ?_ ?_
  · intro h1
    exfalso; omega
  · intro h2
    refine n_iload_n c_140_9 rfl ?_
    refine n_iload_n c_140_10 rfl ?_
    refine n_imul c_140_11 rfl ?_
    refine n_istore_n (L2 := [some (0, 2), some (0, 5), some (0, (1 * 2)), some (0, 0)]) c_140_12 rfl rfl ?_
    refine n_iinc (L2 := [some (0, 2), some (0, 5), some (0, (1 * 2)), some (0, (0 + 1))]) c_140_13 rfl rfl rfl ?_
    refine n_goto c_140_16 ?_
    refine n_iload_n c_140_4 rfl ?_
    refine n_iload_n c_140_5 rfl ?_
    refine n_if2_ge c_140_6 (by omega) (by omega) ?_ ?_
    · intro h3
      exfalso; omega
    · intro h4
      refine n_iload_n c_140_9 rfl ?_
      refine n_iload_n c_140_10 rfl ?_
      refine n_imul c_140_11 rfl ?_
      refine n_istore_n (L2 := [some (0, 2), some (0, 5), some (0, ((1 * 2) * 2)), some (0, (0 + 1))]) c_140_12 rfl rfl ?_
      refine n_iinc (L2 := [some (0, 2), some (0, 5), some (0, ((1 * 2) * 2)), some (0, ((0 + 1) + 1))]) c_140_13 rfl rfl rfl ?_
      refine n_goto c_140_16 ?_
      refine n_iload_n c_140_4 rfl ?_
      refine n_iload_n c_140_5 rfl ?_
      refine n_if2_ge c_140_6 (by omega) (by omega) ?_ ?_
      · intro h5
        exfalso; omega
      · intro h6
        refine n_iload_n c_140_9 rfl ?_
        refine n_iload_n c_140_10 rfl ?_
        refine n_imul c_140_11 rfl ?_
        refine n_istore_n (L2 := [some (0, 2), some (0, 5), some (0, (((1 * 2) * 2) * 2)), some (0, ((0 + 1) + 1))]) c_140_12 rfl rfl ?_
        refine n_iinc (L2 := [some (0, 2), some (0, 5), some (0, (((1 * 2) * 2) * 2)), some (0, (((0 + 1) + 1) + 1))]) c_140_13 rfl rfl rfl ?_
        refine n_goto c_140_16 ?_
        refine n_iload_n c_140_4 rfl ?_
        refine n_iload_n c_140_5 rfl ?_
        refine n_if2_ge c_140_6 (by omega) (by omega) ?_ ?_
        · intro h7
          exfalso; omega
        · intro h8
          refine n_iload_n c_140_9 rfl ?_
          refine n_iload_n c_140_10 rfl ?_
          refine n_imul c_140_11 rfl ?_
          refine n_istore_n (L2 := [some (0, 2), some (0, 5), some (0, ((((1 * 2) * 2) * 2) * 2)), some (0, (((0 + 1) + 1) + 1))]) c_140_12 rfl rfl ?_
          refine n_iinc (L2 := [some (0, 2), some (0, 5), some (0, ((((1 * 2) * 2) * 2) * 2)), some (0, ((((0 + 1) + 1) + 1) + 1))]) c_140_13 rfl rfl rfl ?_
          refine n_goto c_140_16 ?_
          refine n_iload_n c_140_4 rfl ?_
          refine n_iload_n c_140_5 rfl ?_
          refine n_if2_ge c_140_6 (by omega) (by omega) ?_ ?_
          · intro h9
            exfalso; omega
          · intro h10
            refine n_iload_n c_140_9 rfl ?_
            refine n_iload_n c_140_10 rfl ?_
            refine n_imul c_140_11 rfl ?_
            refine n_istore_n (L2 := [some (0, 2), some (0, 5), some (0, (((((1 * 2) * 2) * 2) * 2) * 2)), some (0, ((((0 + 1) + 1) + 1) + 1))]) c_140_12 rfl rfl ?_
            refine n_iinc (L2 := [some (0, 2), some (0, 5), some (0, (((((1 * 2) * 2) * 2) * 2) * 2)), some (0, (((((0 + 1) + 1) + 1) + 1) + 1))]) c_140_13 rfl rfl rfl ?_
            refine n_goto c_140_16 ?_
            refine n_iload_n c_140_4 rfl ?_
            refine n_iload_n c_140_5 rfl ?_
            refine n_if2_ge c_140_6 (by omega) (by omega) ?_ ?_
            · intro h11
              refine n_iload_n c_140_19 rfl ?_
              exact n_rI c_140_20 rfl ⟨rfl, by omega⟩
            · intro h12
              exfalso; omega

set_option maxHeartbeats 4000000 in
theorem mpower6_2 {xs : List Int32} {e : Nat} {ac : Int} {M0 M : nM} (hS : Sf 2 ac M0 M)  : nW xs e 140 0 [some (0, 2), some (0, 6), none, none] [] M (nPI fun z M1 => M = M1 ∧ (64 ≤ z ∧ z ≤ 64)) := by
  have hd : (2 : Int) = 2 ∨ (2 : Int) = 3 := by decide
  have hac := hS.2.2.2.2
  refine n_iconst c_140_0 ?_
  refine n_istore_n (L2 := [some (0, 2), some (0, 6), some (0, 1), none]) c_140_1 rfl rfl ?_
  refine n_iconst c_140_2 ?_
  refine n_istore_n (L2 := [some (0, 2), some (0, 6), some (0, 1), some (0, 0)]) c_140_3 rfl rfl ?_
  refine n_iload_n c_140_4 rfl ?_
  refine n_iload_n c_140_5 rfl ?_
  refine n_if2_ge c_140_6 (by omega) (by omega) ?_ ?_
  · intro h1
    exfalso; omega
  · intro h2
    refine n_iload_n c_140_9 rfl ?_
    refine n_iload_n c_140_10 rfl ?_
    refine n_imul c_140_11 rfl ?_
    refine n_istore_n (L2 := [some (0, 2), some (0, 6), some (0, (1 * 2)), some (0, 0)]) c_140_12 rfl rfl ?_
    refine n_iinc (L2 := [some (0, 2), some (0, 6), some (0, (1 * 2)), some (0, (0 + 1))]) c_140_13 rfl rfl rfl ?_
    refine n_goto c_140_16 ?_
    refine n_iload_n c_140_4 rfl ?_
    refine n_iload_n c_140_5 rfl ?_
    refine n_if2_ge c_140_6 (by omega) (by omega) ?_ ?_
    · intro h3
      exfalso; omega
    · intro h4
      refine n_iload_n c_140_9 rfl ?_
      refine n_iload_n c_140_10 rfl ?_
      refine n_imul c_140_11 rfl ?_
      refine n_istore_n (L2 := [some (0, 2), some (0, 6), some (0, ((1 * 2) * 2)), some (0, (0 + 1))]) c_140_12 rfl rfl ?_
      refine n_iinc (L2 := [some (0, 2), some (0, 6), some (0, ((1 * 2) * 2)), some (0, ((0 + 1) + 1))]) c_140_13 rfl rfl rfl ?_
      refine n_goto c_140_16 ?_
      refine n_iload_n c_140_4 rfl ?_
      refine n_iload_n c_140_5 rfl ?_
      refine n_if2_ge c_140_6 (by omega) (by omega) ?_ ?_
      · intro h5
        exfalso; omega
      · intro h6
        refine n_iload_n c_140_9 rfl ?_
        refine n_iload_n c_140_10 rfl ?_
        refine n_imul c_140_11 rfl ?_
        refine n_istore_n (L2 := [some (0, 2), some (0, 6), some (0, (((1 * 2) * 2) * 2)), some (0, ((0 + 1) + 1))]) c_140_12 rfl rfl ?_
        refine n_iinc (L2 := [some (0, 2), some (0, 6), some (0, (((1 * 2) * 2) * 2)), some (0, (((0 + 1) + 1) + 1))]) c_140_13 rfl rfl rfl ?_
        refine n_goto c_140_16 ?_
        refine n_iload_n c_140_4 rfl ?_
        refine n_iload_n c_140_5 rfl ?_
        refine n_if2_ge c_140_6 (by omega) (by omega) ?_ ?_
        · intro h7
          exfalso; omega
        · intro h8
          refine n_iload_n c_140_9 rfl ?_
          refine n_iload_n c_140_10 rfl ?_
          refine n_imul c_140_11 rfl ?_
          refine n_istore_n (L2 := [some (0, 2), some (0, 6), some (0, ((((1 * 2) * 2) * 2) * 2)), some (0, (((0 + 1) + 1) + 1))]) c_140_12 rfl rfl ?_
          refine n_iinc (L2 := [some (0, 2), some (0, 6), some (0, ((((1 * 2) * 2) * 2) * 2)), some (0, ((((0 + 1) + 1) + 1) + 1))]) c_140_13 rfl rfl rfl ?_
          refine n_goto c_140_16 ?_
          refine n_iload_n c_140_4 rfl ?_
          refine n_iload_n c_140_5 rfl ?_
          refine n_if2_ge c_140_6 (by omega) (by omega) ?_ ?_
          · intro h9
            exfalso; omega
          · intro h10
            refine n_iload_n c_140_9 rfl ?_
            refine n_iload_n c_140_10 rfl ?_
            refine n_imul c_140_11 rfl ?_
            refine n_istore_n (L2 := [some (0, 2), some (0, 6), some (0, (((((1 * 2) * 2) * 2) * 2) * 2)), some (0, ((((0 + 1) + 1) + 1) + 1))]) c_140_12 rfl rfl ?_
            refine n_iinc (L2 := [some (0, 2), some (0, 6), some (0, (((((1 * 2) * 2) * 2) * 2) * 2)), some (0, (((((0 + 1) + 1) + 1) + 1) + 1))]) c_140_13 rfl rfl rfl ?_
            refine n_goto c_140_16 ?_
            refine n_iload_n c_140_4 rfl ?_
            refine n_iload_n c_140_5 rfl ?_
            refine n_if2_ge c_140_6 (by omega) (by omega) ?_ ?_
            · intro h11
              exfalso; omega
            · intro h12
              refine n_iload_n c_140_9 rfl ?_
              refine n_iload_n c_140_10 rfl ?_
              refine n_imul c_140_11 rfl ?_
              refine n_istore_n (L2 := [some (0, 2), some (0, 6), some (0, ((((((1 * 2) * 2) * 2) * 2) * 2) * 2)), some (0, (((((0 + 1) + 1) + 1) + 1) + 1))]) c_140_12 rfl rfl ?_
              refine n_iinc (L2 := [some (0, 2), some (0, 6), some (0, ((((((1 * 2) * 2) * 2) * 2) * 2) * 2)), some (0, ((((((0 + 1) + 1) + 1) + 1) + 1) + 1))]) c_140_13 rfl rfl rfl ?_
              refine n_goto c_140_16 ?_
              refine n_iload_n c_140_4 rfl ?_
              refine n_iload_n c_140_5 rfl ?_
              refine n_if2_ge c_140_6 (by omega) (by omega) ?_ ?_
              · intro h13
                refine n_iload_n c_140_19 rfl ?_
                exact n_rI c_140_20 rfl ⟨rfl, by omega⟩
              · intro h14
                exfalso; omega
