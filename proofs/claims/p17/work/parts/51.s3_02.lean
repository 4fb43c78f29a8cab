/-! The methods, by program. -/
set_option maxHeartbeats 4000000 in
theorem signs_3_c {xs : List Int32} {e : Nat} {ac : Int} {M0 M : nM} {a : Int} (hS : Sf 3 ac M0 M) (ha : -2147483648 ≤ a ∧ a ≤ 2147483647) : ∀ nn : Nat, (1 < (nn : Int) → nW xs (e + 2) 113 19 [none, none] [] M (nPI fun z M1 => M = M1 ∧ (-2147483648 ≤ z ∧ z ≤ 2147483647))) := by
  have hd : (3 : Int) = 2 ∨ (3 : Int) = 3 := by decide
  have hac := hS.2.2.2.2
  intro nn
  induction nn with
  | zero => intros; omega
  | succ nn ih =>
    intro hnn
    refine n_iconst c_113_19 ?_
    exact n_rI c_113_20 rfl ⟨rfl, by omega⟩
set_option maxHeartbeats 4000000 in
theorem signs_3 {xs : List Int32} {e : Nat} {ac : Int} {M0 M : nM} {a : Int} (hS : Sf 3 ac M0 M) (ha : -2147483648 ≤ a ∧ a ≤ 2147483647) : nW xs (e + 2) 113 0 [some (2, 3), some (0, a)] [] M (nPI fun z M1 => M = M1 ∧ (-2147483648 ≤ z ∧ z ≤ 2147483647)) := by
  have hd : (3 : Int) = 2 ∨ (3 : Int) = 3 := by decide
  have hac := hS.2.2.2.2
  refine n_aload_n c_113_0 rfl (n_iload_n c_113_1 rfl (n_v1I c_113_2 rfl sc_3.n rfl rfl rfl rfl (isAct_3 (a := a) hS (by omega)) ?_))
  intro z1 M2 hP3
  obtain ⟨eM, f3, f3p0⟩ := hP3
  subst eM
  refine n_if0_eq c_113_5 (by omega) ?_ ?_
  · intro h4
    refine n_fg (le_n (le_n le_0)) ?_
    exact (signs_3_c hS ha 12)   (by omega)
  · intro h5
    refine n_aload_n c_113_8 rfl (n_getR c_113_9 sc_3.n rfl rfl rfl r_3_0 (n_getV (bi := 0) c_113_12 sc_4.n rfl rfl rfl (t_4_0 hS) ?_))
    intro z6 ez6 f7
    obtain rfl : z6 = 3 := by omega
    refine n_iconst c_113_15 ?_
    refine n_if2_ne c_113_16 (by omega) (by omega) ?_ ?_
    · intro h8
      exfalso; omega
    · intro h9
      refine n_fg (le_n (le_n le_0)) ?_
      exact (signs_3_c hS ha 12)   (by omega)

set_option maxHeartbeats 4000000 in
theorem whole_3 {xs : List Int32} {e : Nat} {ac : Int} {M0 M : nM} (hS : Sf 3 ac M0 M)  : nW xs (e + 2) 114 0 [some (2, 3), none, none] [] M (nPI fun z M1 => M = M1 ∧ (-2147483648 ≤ z ∧ z ≤ 2147483647)) := by
  have hd : (3 : Int) = 2 ∨ (3 : Int) = 3 := by decide
  have hac := hS.2.2.2.2
  refine n_aload_n c_114_0 rfl (n_getR c_114_1 sc_3.n rfl rfl rfl r_3_0 (n_getV (bi := 0) c_114_4 sc_4.n rfl rfl rfl (t_4_0 hS) ?_))
  intro z1 ez1 f2
  obtain rfl : z1 = 3 := by omega
  refine n_iconst c_114_7 ?_
  refine n_if2_ne c_114_8 (by omega) (by omega) ?_ ?_
  · intro h3
    exfalso; omega
  · intro h4
    refine n_iconst c_114_11 ?_
    exact n_rI c_114_12 rfl ⟨rfl, by omega⟩

set_option maxHeartbeats 4000000 in
theorem restrainForm_3_c {xs : List Int32} {e : Nat} {ac : Int} {M0 M : nM} {m : Int} (hS : Sf 3 ac M0 M) (hm : -2147483648 ≤ m ∧ m ≤ 2147483647) : ∀ nn : Nat, (∀ (x2 : Int) (M : nM), Sf 3 ac M0 M → (0 ≤ x2 ∧ x2 ≤ 12) → (12 - x2) * 2 + 2 < (nn : Int) → nW xs (e + 3) 133 2 [some (2, 3), some (0, m), some (0, x2)] [] M (nPV fun M1 => Sf 3 ac M0 M1)) ∧ (∀ (x2 : Int) (M : nM), Sf 3 ac M0 M → (0 ≤ x2 ∧ x2 ≤ 11) → (12 - x2) * 2 + 1 < (nn : Int) → nW xs (e + 3) 133 39 [some (2, 3), some (0, m), some (0, x2)] [] M (nPV fun M1 => Sf 3 ac M0 M1)) := by
  have hd : (3 : Int) = 2 ∨ (3 : Int) = 3 := by decide
  have hac := hS.2.2.2.2
  intro nn
  induction nn with
  | zero => refine ⟨?_, ?_⟩ <;> (intros; omega)
  | succ nn ih =>
    refine ⟨?_, ?_⟩
    · intro x2 M hS k2 hnn
      refine n_iload_n c_133_2 rfl (n_aload_n c_133_3 rfl (n_getV (bi := 15) c_133_4 sc_3.n rfl rfl rfl (t_3_15 hS) ?_))
      intro z1 ez1 f2
      refine n_if2_ge c_133_7 (by omega) (by omega) ?_ ?_
      · intro h3
        exact n_rV c_133_45 rfl hS
      · intro h4
        refine n_iload_n c_133_10 rfl (n_iload_n c_133_11 rfl (n_i_ishr c_133_12 rfl ?_))
        have f5 := n_shr_r m x2
        generalize (n_shr m x2) = z6 at f5 ⊢
        refine n_iconst c_133_13 (n_i_iand c_133_14 rfl ?_)
        have f7 := n_and_y (x := z6) (y := 1) (by omega)
        generalize (n_and z6 1) = z8 at f7 ⊢
        refine n_if0_eq c_133_15 (by omega) ?_ ?_
        · intro h9
          refine n_fg (le_s (le_s (le_s le_0))) ?_
          exact ih.2 _ M hS (by omega) (by omega)
        · intro h10
          refine n_aload_n c_133_18 rfl (n_getR c_133_19 sc_3.n rfl rfl rfl r_3_7 (n_aload_n c_133_22 rfl (n_getR c_133_23 sc_3.n rfl rfl rfl r_3_8 (n_aload_n c_133_26 rfl (n_getR c_133_27 sc_3.n rfl rfl rfl r_3_3 (n_iload_n c_133_30 rfl (n_aaload c_133_31 sc_13.n rfl rfl rfl (by omega) (r_laws _) ?_)))))))
          have q11 : LawAt (79 + 2 * x2) := by unfold LawAt; omega
          refine n_aload_n c_133_32 rfl (n_getR c_133_33 sc_3.n rfl rfl rfl r_3_0 (n_v3V c_133_36 rfl sc_38.n rfl rfl rfl rfl (restrain_3 (w := (79 + 2 * x2)) hS q11) ?_))
          intro  M12 hP13
          have hS12 := hP13
          refine n_fg (le_s (le_s (le_s le_0))) ?_
          exact ih.2 _ M12 hS12 (by omega) (by omega)
    · intro x2 M hS k2 hnn
      refine n_iinc (L2 := [some (2, 3), some (0, m), some (0, (x2 + 1))]) c_133_39 rfl rfl rfl (n_goto c_133_42 (n_fg (le_s (le_s (le_s le_0))) ?_))
      exact ih.1 _ M hS (by omega) (by omega)
set_option maxHeartbeats 4000000 in
theorem restrainForm_3 {xs : List Int32} {e : Nat} {ac : Int} {M0 M : nM} {m : Int} (hS : Sf 3 ac M0 M) (hm : -2147483648 ≤ m ∧ m ≤ 2147483647) : nW xs (e + 3) 133 0 [some (2, 3), some (0, m), none] [] M (nPV fun M1 => Sf 3 ac M0 M1) := by
  have hd : (3 : Int) = 2 ∨ (3 : Int) = 3 := by decide
  have hac := hS.2.2.2.2
  refine n_iconst c_133_0 (n_istore_n (L2 := [some (2, 3), some (0, m), some (0, 0)]) c_133_1 rfl rfl (n_fg (le_s (le_s (le_s le_0))) ?_))
  exact (restrainForm_3_c hS hm 66).1 _ M hS (by omega) (by omega)

set_option maxHeartbeats 4000000 in
theorem solve_3_c {xs : List Int32} {e : Nat} {ac : Int} {M0 M : nM} (hS : Sf 3 ac M0 M)  : ∀ nn : Nat, (∀ (x1 : Int) (M : nM), Sf 3 ac M0 M → (0 ≤ x1 ∧ x1 ≤ 30) → (30 - x1) * 1 + 1 < (nn : Int) → nW xs (e + 30) 134 31 [some (2, 3), some (0, x1)] [] M (nPV fun M1 => Sf 3 ac M0 M1)) := by
  have hd : (3 : Int) = 2 ∨ (3 : Int) = 3 := by decide
  have hac := hS.2.2.2.2
  intro nn
  induction nn with
  | zero => intros; omega
  | succ nn ih =>
    intro x1 M hS k1 hnn
    refine n_iload_n c_134_31 rfl (n_aload_n c_134_32 rfl (n_getR c_134_33 sc_3.n rfl rfl rfl r_3_6 (n_getV (bi := 1) c_134_36 sc_32.n rfl rfl rfl (t_32_1 hS) ?_)))
    intro z1 ez1 f2
    refine n_if2_ge c_134_39 (by omega) (by omega) ?_ ?_
    · intro h3
      refine n_aload_n c_134_99 rfl (n_getR c_134_100 sc_3.n rfl rfl rfl r_3_7 (n_v0V c_134_103 rfl sc_38.n rfl rfl rfl rfl (order_3  hS ) ?_))
      intro  M4 hP5
      have hS4 := hP5
      refine n_aload_n c_134_106 rfl (n_getR c_134_107 sc_3.n rfl rfl rfl r_3_7 (n_aload_n c_134_110 rfl (n_getR c_134_111 sc_3.n rfl rfl rfl r_3_10 (n_v1V c_134_114 rfl sc_38.n rfl rfl rfl rfl (findAll48_3  hS4 ) ?_))))
      intro  M6 hP7
      have hS6 := hP7
      refine n_aload_n c_134_117 rfl (n_iconst c_134_118 (n_putZV (bi := 18) hS6 c_134_119 sc_3.n rfl rfl rfl (by omega) rfl (w_3_18 (by omega)) ?_))
      intro M8 eM8 hS8
      have g8_0 : M8 3 18 = 1 := by rw [eM8]; exact nu_s _ _ _ _
      exact n_rV c_134_122 rfl hS8
    · intro h9
      refine n_aload_n c_134_42 rfl (n_getR c_134_43 sc_3.n rfl rfl rfl r_3_7 (n_aload_n c_134_46 rfl (n_getR c_134_47 sc_3.n rfl rfl rfl r_3_6 (n_getR c_134_50 sc_32.n rfl rfl rfl r_32_3 (n_iload_n c_134_53 rfl (n_ialoadV c_134_54 sc_34.n rfl rfl rfl (by omega) (t_34 hS (by omega)) ?_))))))
      intro z10 ez10 f11
      refine n_aload_n c_134_55 rfl (n_getR c_134_56 sc_3.n rfl rfl rfl r_3_6 (n_getR c_134_59 sc_32.n rfl rfl rfl r_32_4 (n_iload_n c_134_62 rfl (n_ialoadV c_134_63 sc_35.n rfl rfl rfl (by omega) (t_35 hS (by omega)) ?_))))
      intro z12 ez12 f13
      refine n_aload_n c_134_64 rfl (n_getR c_134_65 sc_3.n rfl rfl rfl r_3_6 (n_getR c_134_68 sc_32.n rfl rfl rfl r_32_5 (n_iload_n c_134_71 rfl (n_ialoadV c_134_72 sc_36.n rfl rfl rfl (by omega) (t_36 hS (by omega)) ?_))))
      intro z14 ez14 f15
      refine n_aload_n c_134_73 rfl (n_getR c_134_74 sc_3.n rfl rfl rfl r_3_3 (n_aload_n c_134_77 rfl (n_getR c_134_78 sc_3.n rfl rfl rfl r_3_6 (n_getR c_134_81 sc_32.n rfl rfl rfl r_32_2 (n_iload_n c_134_84 rfl (n_ialoadV c_134_85 sc_33.n rfl rfl rfl (by omega) (t_33 hS (by omega)) ?_))))))
      intro z16 ez16 f17
      refine n_aaload c_134_86 sc_13.n rfl rfl rfl (by omega) (r_laws _) ?_
      have q18 : LawAt (79 + 2 * z16) := by unfold LawAt; omega
      refine n_getV (bi := 2) c_134_87 q18.c0.1.n rfl rfl rfl (t_law hS q18).2.2.1 ?_
      intro z19 ez19 f20
      refine n_v4V c_134_90 rfl sc_38.n rfl rfl rfl rfl (limit_3 (p := z10) (q := z12) (r := z14) (w := z19) hS (by omega) (by omega) (by omega) (by omega)) ?_
      intro  M21 hP22
      have hS21 := hP22
      refine n_iinc (L2 := [some (2, 3), some (0, (x1 + 1))]) c_134_93 rfl rfl rfl (n_goto c_134_96 (n_fg (le_s (le_s le_0)) ?_))
      exact ih _ M21 hS21 (by omega) (by omega)
set_option maxHeartbeats 4000000 in
theorem solve_3 {xs : List Int32} {e : Nat} {ac : Int} {M0 M : nM} (hS : Sf 3 ac M0 M)  : nW xs (e + 30) 134 0 [some (2, 3), none] [] M (nPV fun M1 => Sf 3 ac M0 M1) := by
  have hd : (3 : Int) = 2 ∨ (3 : Int) = 3 := by decide
  have hac := hS.2.2.2.2
  refine n_aload_n c_134_0 rfl (n_getV (bi := 18) c_134_1 sc_3.n rfl rfl rfl (t_3_18 hS) ?_)
  intro z1 ez1 f2
  refine n_if0_eq c_134_4 (by omega) ?_ ?_
  · intro h3
    refine n_aload_n c_134_8 rfl (n_getR c_134_9 sc_3.n rfl rfl rfl r_3_7 (n_aload_n c_134_12 rfl (n_getR c_134_13 sc_3.n rfl rfl rfl r_3_0 (n_getV (bi := 0) c_134_16 sc_4.n rfl rfl rfl (t_4_0 hS) ?_))))
    intro z4 ez4 f5
    obtain rfl : z4 = 3 := by omega
    refine n_aload_n c_134_19 rfl (n_getR c_134_20 sc_3.n rfl rfl rfl r_3_6 (n_getV (bi := 0) c_134_23 sc_32.n rfl rfl rfl (t_32_0 hS) ?_))
    intro z6 ez6 f7
    refine n_v2V c_134_26 rfl sc_38.n rfl rfl rfl rfl (nstart_3 (c := z6) hS (by omega)) ?_
    intro  M8 hP9
    have hS8 := hP9
    refine n_iconst c_134_29 (n_istore_n (L2 := [some (2, 3), some (0, 0)]) c_134_30 rfl rfl (n_fg (le_s (le_s le_0)) ?_))
    exact (solve_3_c hS  74) _ M8 hS8 (by omega) (by omega)
  · intro h10
    exact n_rV c_134_7 rfl hS

set_option maxHeartbeats 4000000 in
theorem answers_3 {xs : List Int32} {e : Nat} {ac : Int} {M0 M : nM} (hS : Sf 3 ac M0 M)  : nW xs (e + 31) 118 0 [some (2, 3)] [] M (nPI fun z M1 => Sf 3 ac M0 M1 ∧ (-2147483648 ≤ z ∧ z ≤ 2147483647)) := by
  have hd : (3 : Int) = 2 ∨ (3 : Int) = 3 := by decide
  have hac := hS.2.2.2.2
  refine n_aload_n c_118_0 rfl (n_v0V c_118_1 rfl sc_3.n rfl rfl rfl rfl (solve_3  hS ) ?_)
  intro  M1 hP2
  have hS1 := hP2
  refine n_aload_n c_118_4 rfl (n_getR c_118_5 sc_3.n rfl rfl rfl r_3_10 (n_getV (bi := 1) c_118_8 sc_48.n rfl rfl rfl (t_48_1 hS1) ?_))
  intro z3 ez3 f4
  exact n_rI c_118_11 rfl ⟨hS1, by omega⟩

set_option maxHeartbeats 4000000 in
theorem answer_3 {xs : List Int32} {e : Nat} {ac : Int} {M0 M : nM} {i : Int} (hS : Sf 3 ac M0 M) (hi : -2147483648 ≤ i ∧ i ≤ 2147483647) : nW xs (e + 31) 119 0 [some (2, 3), some (0, i)] [] M (nPI fun z M1 => Sf 3 ac M0 M1 ∧ (-2147483648 ≤ z ∧ z ≤ 2147483647)) := by
  have hd : (3 : Int) = 2 ∨ (3 : Int) = 3 := by decide
  have hac := hS.2.2.2.2
  refine n_aload_n c_119_0 rfl (n_v0V c_119_1 rfl sc_3.n rfl rfl rfl rfl (solve_3  hS ) ?_)
  intro  M1 hP2
  have hS1 := hP2
  refine n_aload_n c_119_4 rfl (n_getR c_119_5 sc_3.n rfl rfl rfl r_3_10 (n_iload_n c_119_8 rfl (n_v1I c_119_9 rfl sc_48.n rfl rfl rfl rfl (nth48_3 (i := i) hS1 (by omega)) ?_)))
  intro z3 M4 hP5
  obtain ⟨eM, f5⟩ := hP5
  subst eM
  exact n_rI c_119_12 rfl ⟨hS1, by omega⟩

set_option maxHeartbeats 4000000 in
theorem narrowed_3 {xs : List Int32} {e : Nat} {ac : Int} {M0 M : nM} {u : Int} (hS : Sf 3 ac M0 M) (hu : -2147483648 ≤ u ∧ u ≤ 2147483647) : nW xs (e + 4) 117 0 [some (2, 3), some (0, u)] [] M (nPI fun z M1 => Sf 3 ac M0 M1 ∧ (-2147483648 ≤ z ∧ z ≤ 2147483647)) := by
  have hd : (3 : Int) = 2 ∨ (3 : Int) = 3 := by decide
  have hac := hS.2.2.2.2
  refine n_aload_n c_117_0 rfl (n_getR c_117_1 sc_3.n rfl rfl rfl r_3_6 (n_iload_n c_117_4 rfl (n_v1I c_117_5 rfl sc_32.n rfl rfl rfl rfl (isUnknown_3 (u := u) hS (by omega)) ?_)))
  intro z1 M2 hP3
  obtain ⟨eM, f3, f3p0⟩ := hP3
  subst eM
  refine n_if0_ne c_117_8 (by omega) ?_ ?_
  · intro h4
    refine n_aload_n c_117_13 rfl (n_getR c_117_14 sc_3.n rfl rfl rfl r_3_6 (n_aload_n c_117_17 rfl (n_getR c_117_18 sc_3.n rfl rfl rfl r_3_3 (n_aload_n c_117_21 rfl (n_getR c_117_22 sc_3.n rfl rfl rfl r_3_0 (n_v2V c_117_25 rfl sc_32.n rfl rfl rfl rfl (narrow_3  hS ) ?_))))))
    intro  M5 hP6
    have hS5 := hP6
    refine n_aload_n c_117_28 rfl (n_getR c_117_29 sc_3.n rfl rfl rfl r_3_6 (n_getR c_117_32 sc_32.n rfl rfl rfl r_32_6 (n_iload_n c_117_35 rfl (n_ialoadV c_117_36 sc_37.n rfl rfl rfl (by omega) (t_37 hS5 (by omega)) ?_))))
    intro z7 ez7 f8
    exact n_rI c_117_37 rfl ⟨hS5, by omega⟩
  · intro h9
    refine n_iconst c_117_11 ?_
    exact n_rI c_117_12 rfl ⟨hS, by omega⟩

set_option maxHeartbeats 4000000 in
theorem quick_3_c {xs : List Int32} {e : Nat} {ac : Int} {M0 M : nM} {k : Int} (hS : Sf 3 ac M0 M) (hk : -2147483648 ≤ k ∧ k ≤ 2147483647) : ∀ nn : Nat, (∀ (M : nM), Sf 3 ac M0 M → 1 < (nn : Int) → nW xs (e + 31) 120 60 [some (2, 3), none] [] M (nPJ fun z M1 => Sf 3 ac M0 M1 ∧ (-9223372036854775808 ≤ z ∧ z ≤ 9223372036854775807))) := by
  have hd : (3 : Int) = 2 ∨ (3 : Int) = 3 := by decide
  have hac := hS.2.2.2.2
  intro nn
  induction nn with
  | zero => intros; omega
  | succ nn ih =>
    intro M hS hnn
    refine n_aload_n c_120_60 rfl (n_getR c_120_61 sc_3.n rfl rfl rfl r_3_7 (n_aload_n c_120_64 rfl (n_getR c_120_65 sc_3.n rfl rfl rfl r_3_0 (n_getV (bi := 0) c_120_68 sc_4.n rfl rfl rfl (t_4_0 hS) ?_))))
    intro z1 ez1 f2
    obtain rfl : z1 = 3 := by omega
    refine n_aload_n c_120_71 rfl (n_getR c_120_72 sc_3.n rfl rfl rfl r_3_8 (n_getV (bi := 2) c_120_75 sc_44.n rfl rfl rfl (t_44_2 hS) ?_))
    intro z3 ez3 f4
    refine n_v2V c_120_78 rfl sc_38.n rfl rfl rfl rfl (nstart_3 (c := z3) hS (by omega)) ?_
    intro  M5 hP6
    have hS5 := hP6
    refine n_aload_n c_120_81 rfl (n_aload_n c_120_82 rfl (n_getR c_120_83 sc_3.n rfl rfl rfl r_3_6 (n_v0I c_120_86 rfl sc_32.n rfl rfl rfl rfl (lawMask_3  hS5 ) ?_)))
    intro z7 M8 hP9
    obtain ⟨eM, f9⟩ := hP9
    subst eM
    refine n_v1V c_120_89 rfl sc_3.n rfl rfl rfl rfl (restrainForm_3 (m := z7) hS5 (by omega)) ?_
    intro  M10 hP11
    have hS10 := hP11
    refine n_aload_n c_120_92 rfl (n_getR c_120_93 sc_3.n rfl rfl rfl r_3_7 (n_v0V c_120_96 rfl sc_38.n rfl rfl rfl rfl (order_3  hS10 ) ?_))
    intro  M12 hP13
    have hS12 := hP13
    refine n_aload_n c_120_99 rfl (n_getR c_120_100 sc_3.n rfl rfl rfl r_3_7 (n_aload_n c_120_103 rfl (n_getR c_120_104 sc_3.n rfl rfl rfl r_3_8 (n_v1I c_120_107 rfl sc_38.n rfl rfl rfl rfl (findFirst_3  hS12 ) ?_))))
    intro z14 M15 hP16
    obtain ⟨hS15, f16⟩ := hP16
    refine n_if0_eq c_120_110 (by omega) ?_ ?_
    · intro h17
      refine n_ldc2 (n := (-7)) c_120_134 rfl ?_
      exact n_rJ c_120_137 rfl ⟨hS15, by omega⟩
    · intro h18
      refine n_aload_n c_120_113 rfl (n_getR c_120_114 sc_3.n rfl rfl rfl r_3_8 (n_aload_n c_120_117 rfl (n_getR c_120_118 sc_3.n rfl rfl rfl r_3_7 (n_getR c_120_121 sc_38.n rfl rfl rfl r_38_0 (n_aload_n c_120_124 rfl (n_getR c_120_125 sc_3.n rfl rfl rfl r_3_0 (n_v2J c_120_128 rfl sc_44.n rfl rfl rfl rfl (fcode_3  hS15 ) ?_)))))))
      intro z19 M20 hP21
      obtain ⟨eM, f21⟩ := hP21
      subst eM
      refine n_goto c_120_131 ?_
      exact n_rJ c_120_137 rfl ⟨hS15, by omega⟩
set_option maxHeartbeats 4000000 in
theorem quick_3 {xs : List Int32} {e : Nat} {ac : Int} {M0 M : nM} {k : Int} (hS : Sf 3 ac M0 M) (hk : -2147483648 ≤ k ∧ k ≤ 2147483647) : nW xs (e + 31) 120 0 [some (2, 3), some (0, k)] [] M (nPJ fun z M1 => Sf 3 ac M0 M1 ∧ (-9223372036854775808 ≤ z ∧ z ≤ 9223372036854775807)) := by
  have hd : (3 : Int) = 2 ∨ (3 : Int) = 3 := by decide
  have hac := hS.2.2.2.2
  refine n_iload_n c_120_0 rfl ?_
  refine n_if0_ne c_120_1 (by omega) ?_ ?_
  · intro h1
    refine n_iload_n c_120_18 rfl (n_iconst c_120_19 ?_)
    refine n_if2_ne c_120_20 (by omega) (by omega) ?_ ?_
    · intro h2
      refine n_iload_n c_120_37 rfl (n_iconst c_120_38 ?_)
      refine n_if2_ne c_120_39 (by omega) (by omega) ?_ ?_
      · intro h3
        refine n_ldc2 (n := (-1)) c_120_56 rfl ?_
        exact n_rJ c_120_59 rfl ⟨hS, by omega⟩
      · intro h4
        refine n_aload_n c_120_42 rfl (n_getR c_120_43 sc_3.n rfl rfl rfl r_3_8 (n_aload_n c_120_46 rfl (n_getR c_120_47 sc_3.n rfl rfl rfl r_3_0 (n_v1V c_120_50 rfl sc_44.n rfl rfl rfl rfl (beSum_3  hS ) ?_))))
        intro  M5 hP6
        have hS5 := hP6
        refine n_goto c_120_53 (n_fg (le_s (le_n le_0)) ?_)
        exact (quick_3_c hS hk 12)  M5 hS5  (by omega)
    · intro h7
      refine n_aload_n c_120_23 rfl (n_getR c_120_24 sc_3.n rfl rfl rfl r_3_8 (n_aload_n c_120_27 rfl (n_getR c_120_28 sc_3.n rfl rfl rfl r_3_0 (n_v1V c_120_31 rfl sc_44.n rfl rfl rfl rfl (beMost_3  hS ) ?_))))
      intro  M8 hP9
      have hS8 := hP9
      refine n_goto c_120_34 (n_fg (le_s (le_n le_0)) ?_)
      exact (quick_3_c hS hk 12)  M8 hS8  (by omega)
  · intro h10
    refine n_aload_n c_120_4 rfl (n_getR c_120_5 sc_3.n rfl rfl rfl r_3_8 (n_aload_n c_120_8 rfl (n_getR c_120_9 sc_3.n rfl rfl rfl r_3_0 (n_v1V c_120_12 rfl sc_44.n rfl rfl rfl rfl (beHalf_3  hS ) ?_))))
    intro  M11 hP12
    have hS11 := hP12
    refine n_goto c_120_15 (n_fg (le_s (le_n le_0)) ?_)
    exact (quick_3_c hS hk 12)  M11 hS11  (by omega)

set_option maxHeartbeats 4000000 in
theorem count_3 {xs : List Int32} {e : Nat} {ac : Int} {M0 M : nM} {w : Int} (hS : Sf 3 ac M0 M) (hw : -2147483648 ≤ w ∧ w ≤ 2147483647) : nW xs (e + 1) 121 0 [some (2, 3), some (0, w)] [] M (nPI fun z M1 => M = M1 ∧ (-2147483648 ≤ z ∧ z ≤ 2147483647)) := by
  have hd : (3 : Int) = 2 ∨ (3 : Int) = 3 := by decide
  have hac := hS.2.2.2.2
  refine n_iload_n c_121_0 rfl ?_
  refine n_sw c_121_1 (by omega) (by decide) ?_ ?_
  · intro h1
    refine n_pc (k2 := 82) rfl (n_iconst c_121_82 ?_)
    exact n_rI c_121_83 rfl ⟨rfl, by omega⟩
  · intro h2 h2b
    rcases (show w = 0 ∨ w = 1 ∨ w = 2 ∨ w = 3 ∨ w = 4 ∨ w = 5 by omega) with h2c | h2c | h2c | h2c | h2c | h2c
    · refine ⟨_, by rw [h2c]; rfl, by decide, ?_⟩
      refine n_pc (k2 := 40) rfl (n_aload_n c_121_40 rfl (n_getR c_121_41 sc_3.n rfl rfl rfl r_3_0 (n_getV (bi := 0) c_121_44 sc_4.n rfl rfl rfl (t_4_0 hS) ?_)))
      intro z3 ez3 f4
      obtain rfl : z3 = 3 := by omega
      exact n_rI c_121_47 rfl ⟨rfl, by omega⟩
    · refine ⟨_, by rw [h2c]; rfl, by decide, ?_⟩
      refine n_pc (k2 := 48) rfl (n_aload_n c_121_48 rfl (n_getV (bi := 14) c_121_49 sc_3.n rfl rfl rfl (t_3_14x hS) ?_))
      intro z5 ez5 f6
      have f6a := t_ac hS
      exact n_rI c_121_52 rfl ⟨rfl, by omega⟩
    · refine ⟨_, by rw [h2c]; rfl, by decide, ?_⟩
      refine n_pc (k2 := 53) rfl (n_aload_n c_121_53 rfl (n_getV (bi := 15) c_121_54 sc_3.n rfl rfl rfl (t_3_15 hS) ?_))
      intro z7 ez7 f8
      exact n_rI c_121_57 rfl ⟨rfl, by omega⟩
    · refine ⟨_, by rw [h2c]; rfl, by decide, ?_⟩
      refine n_pc (k2 := 58) rfl (n_aload_n c_121_58 rfl (n_getR c_121_59 sc_3.n rfl rfl rfl r_3_6 (n_getV (bi := 0) c_121_62 sc_32.n rfl rfl rfl (t_32_0 hS) ?_)))
      intro z9 ez9 f10
      exact n_rI c_121_65 rfl ⟨rfl, by omega⟩
    · refine ⟨_, by rw [h2c]; rfl, by decide, ?_⟩
      refine n_pc (k2 := 66) rfl (n_aload_n c_121_66 rfl (n_getR c_121_67 sc_3.n rfl rfl rfl r_3_6 (n_getV (bi := 1) c_121_70 sc_32.n rfl rfl rfl (t_32_1 hS) ?_)))
      intro z11 ez11 f12
      exact n_rI c_121_73 rfl ⟨rfl, by omega⟩
    · refine ⟨_, by rw [h2c]; rfl, by decide, ?_⟩
      refine n_pc (k2 := 74) rfl (n_aload_n c_121_74 rfl (n_getR c_121_75 sc_3.n rfl rfl rfl r_3_1 (n_v0I c_121_78 rfl sc_8.n rfl rfl rfl rfl (filled_3  hS ) ?_)))
      intro z13 M14 hP15
      obtain ⟨eM, f15⟩ := hP15
      subst eM
      exact n_rI c_121_81 rfl ⟨rfl, by omega⟩

set_option maxHeartbeats 4000000 in
theorem cut_3 {xs : List Int32} {e : Nat} {ac : Int} {M0 M : nM} {v w : Int} (hS : Sf 3 ac M0 M) (hv : -9223372036854775808 ≤ v ∧ v ≤ 9223372036854775807) (hw : -2147483648 ≤ w ∧ w ≤ 2147483647) : nW xs e 91 0 [some (2, 8), some (1, v), none, some (0, w)] [] M (nPJ fun z M1 => M = M1 ∧ (-9223372036854775808 ≤ z ∧ z ≤ 9223372036854775807)) := by
  have hd : (3 : Int) = 2 ∨ (3 : Int) = 3 := by decide
  have hac := hS.2.2.2.2
  refine n_iload_n c_91_0 rfl ?_
  refine n_sw c_91_1 (by omega) (by decide) ?_ ?_
  · intro h1
    refine n_pc (k2 := 42) rfl (n_lload_n c_91_42 rfl ?_)
    exact n_rJ c_91_43 rfl ⟨rfl, by omega⟩
  · intro h2 h2b
    rcases (show w = 0 ∨ w = 1 ∨ w = 2 by omega) with h2c | h2c | h2c
    · refine ⟨_, by rw [h2c]; rfl, by decide, ?_⟩
      refine n_pc (k2 := 28) rfl (n_lload_n c_91_28 rfl (n_l2i c_91_29 (n_wrap ?_)))
      have f3 := n_wr_r v
      generalize n_wr v = z4 at f3 ⊢
      refine n_i2b c_91_30 ?_
      have f5 := n_2b_r z4
      generalize n_2b z4 = z6 at f5 ⊢
      refine n_i2l c_91_31 (by omega) ?_
      exact n_rJ c_91_32 rfl ⟨rfl, by omega⟩
    · refine ⟨_, by rw [h2c]; rfl, by decide, ?_⟩
      refine n_pc (k2 := 33) rfl (n_lload_n c_91_33 rfl (n_l2i c_91_34 (n_wrap ?_)))
      have f7 := n_wr_r v
      generalize n_wr v = z8 at f7 ⊢
      refine n_i2s c_91_35 ?_
      have f9 := n_2s_r z8
      generalize n_2s z8 = z10 at f9 ⊢
      refine n_i2l c_91_36 (by omega) ?_
      exact n_rJ c_91_37 rfl ⟨rfl, by omega⟩
    · refine ⟨_, by rw [h2c]; rfl, by decide, ?_⟩
      refine n_pc (k2 := 38) rfl (n_lload_n c_91_38 rfl (n_l2i c_91_39 (n_wrap ?_)))
      have f11 := n_wr_r v
      generalize n_wr v = z12 at f11 ⊢
      refine n_i2l c_91_40 (by omega) ?_
      exact n_rJ c_91_41 rfl ⟨rfl, by omega⟩

set_option maxHeartbeats 4000000 in
theorem lay_3_c {xs : List Int32} {e : Nat} {ac : Int} {M : nM} {s w n : Int} (hS : Sf 3 ac M M) (hs : 0 ≤ s ∧ s ≤ 7) (hw : 0 ≤ w ∧ w ≤ 3) (hn : 0 ≤ n ∧ n ≤ 40) : ∀ nn : Nat, (∀ (x4 : Int) (M : nM), Sf 3 ac M M → (0 ≤ x4 ∧ x4 ≤ 40) → (40 - x4) * 1 + 1 < (nn : Int) → nW xs e 86 17 [some (2, 8), some (0, s), none, none, some (0, x4)] [] M (nPV fun M1 => Sf 3 ac M1 M1)) := by
  have hd : (3 : Int) = 2 ∨ (3 : Int) = 3 := by decide
  have hac := hS.2.2.2.2
  intro nn
  induction nn with
  | zero => intros; omega
  | succ nn ih =>
    intro x4 M hS k4 hnn
    refine n_iload c_86_17 rfl (n_bipush c_86_19 rfl ?_)
    refine n_if2_ge c_86_21 (by omega) (by omega) ?_ ?_
    · intro h1
      exact n_rV c_86_43 rfl hS
    · intro h2
      refine n_aload_n c_86_24 rfl (n_getR c_86_25 sc_8.n rfl rfl rfl r_8_0 (n_iload_n c_86_28 rfl (n_bipush c_86_29 rfl (n_imul c_86_31 rfl (n_iload c_86_32 rfl (n_iadd c_86_34 rfl (n_lconst (n := 0) c_86_35 rfl (n_lastoreM hS c_86_36 sc_9.n rfl (by omega) (m_9 (by omega) (by omega)) ?_))))))))
      intro M3 eM3 hS3
      refine n_iinc (L2 := [some (2, 8), some (0, s), none, none, some (0, (x4 + 1))]) c_86_37 rfl rfl rfl (n_goto c_86_40 (n_fg (le_s (le_s (le_n (le_n (le_s le_0))))) ?_))
      exact ih _ M3 hS3 (by omega) (by omega)
set_option maxHeartbeats 4000000 in
theorem lay_3 {xs : List Int32} {e : Nat} {ac : Int} {M : nM} {s w n : Int} (hS : Sf 3 ac M M) (hs : 0 ≤ s ∧ s ≤ 7) (hw : 0 ≤ w ∧ w ≤ 3) (hn : 0 ≤ n ∧ n ≤ 40) : nW xs e 86 0 [some (2, 8), some (0, s), some (0, w), some (0, n), none] [] M (nPV fun M1 => Sf 3 ac M1 M1) := by
  have hd : (3 : Int) = 2 ∨ (3 : Int) = 3 := by decide
  have hac := hS.2.2.2.2
  refine n_aload_n c_86_0 rfl (n_getR c_86_1 sc_8.n rfl rfl rfl r_8_1 (n_iload_n c_86_4 rfl (n_iload_n c_86_5 rfl (n_iastoreM hS c_86_6 sc_10.n rfl (by omega) (m_10 (by omega) (by omega)) ?_))))
  intro M1 eM1 hS1
  refine n_aload_n c_86_7 rfl (n_getR c_86_8 sc_8.n rfl rfl rfl r_8_2 (n_iload_n c_86_11 rfl (n_iload_n c_86_12 rfl (n_iastoreM hS1 c_86_13 sc_11.n rfl (by omega) (m_11 (by omega) (by omega)) ?_))))
  intro M2 eM2 hS2
  refine n_iconst c_86_14 (n_istore (L2 := [some (2, 8), some (0, s), some (0, w), some (0, n), some (0, 0)]) c_86_15 rfl rfl (n_fg (le_s (le_s (le_n (le_n (le_s le_0))))) ?_))
  exact (lay_3_c hS hs hw hn 94) _ M2 hS2 (by omega) (by omega)

set_option maxHeartbeats 4000000 in
theorem empty_3 {xs : List Int32} {e : Nat} {ac : Int} {M : nM} {s : Int} (hS : Sf 3 ac M M) (hs : 0 ≤ s ∧ s ≤ 7) : nW xs e 87 0 [some (2, 8), some (0, s)] [] M (nPV fun M1 => Sf 3 ac M1 M1) := by
  have hd : (3 : Int) = 2 ∨ (3 : Int) = 3 := by decide
  have hac := hS.2.2.2.2
  refine n_aload_n c_87_0 rfl (n_getR c_87_1 sc_8.n rfl rfl rfl r_8_2 (n_iload_n c_87_4 rfl (n_iconst c_87_5 (n_iastoreM hS c_87_6 sc_11.n rfl (by omega) (m_11 (by omega) (by omega)) ?_))))
  intro M1 eM1 hS1
  exact n_rV c_87_7 rfl hS1

set_option maxHeartbeats 4000000 in
theorem put_3_c {xs : List Int32} {e : Nat} {ac : Int} {M : nM} {s i v : Int} (hS : Sf 3 ac M M) (hs : 0 ≤ s ∧ s ≤ 7) (hi : -2147483648 ≤ i ∧ i ≤ 2147483647) (hv : -9223372036854775808 ≤ v ∧ v ≤ 9223372036854775807) : ∀ nn : Nat, (∀ (M : nM), Sf 3 ac M M → 1 < (nn : Int) → nW xs (e + 1) 88 14 [none, none, none, none, none] [] M (nPI fun z M1 => Sf 3 ac M1 M1 ∧ (0 ≤ z ∧ z ≤ 1))) := by
  have hd : (3 : Int) = 2 ∨ (3 : Int) = 3 := by decide
  have hac := hS.2.2.2.2
  intro nn
  induction nn with
  | zero => intros; omega
  | succ nn ih =>
    intro M hS hnn
    refine n_iconst c_88_14 ?_
    exact n_rZ c_88_15 rfl (by omega) ⟨hS, by omega⟩
set_option maxHeartbeats 4000000 in
theorem put_3 {xs : List Int32} {e : Nat} {ac : Int} {M : nM} {s i v : Int} (hS : Sf 3 ac M M) (hs : 0 ≤ s ∧ s ≤ 7) (hi : -2147483648 ≤ i ∧ i ≤ 2147483647) (hv : -9223372036854775808 ≤ v ∧ v ≤ 9223372036854775807) : nW xs (e + 1) 88 0 [some (2, 8), some (0, s), some (0, i), some (1, v), none] [] M (nPI fun z M1 => Sf 3 ac M1 M1 ∧ (0 ≤ z ∧ z ≤ 1)) := by
  have hd : (3 : Int) = 2 ∨ (3 : Int) = 3 := by decide
  have hac := hS.2.2.2.2
  refine n_iload_n c_88_0 rfl ?_
  refine n_if0_lt c_88_1 (by omega) ?_ ?_
  · intro h1
    refine n_fg (le_n (le_n (le_n (le_n (le_n le_0))))) ?_
    exact (put_3_c hS hs hi hv 12)  M hS  (by omega)
  · intro h2
    refine n_iload_n c_88_4 rfl (n_aload_n c_88_5 rfl (n_getR c_88_6 sc_8.n rfl rfl rfl r_8_2 (n_iload_n c_88_9 rfl (n_ialoadV c_88_10 sc_11.n rfl rfl rfl (by omega) (t_11 hS (by omega)) ?_))))
    intro z3 ez3 f4
    refine n_if2_lt c_88_11 (by omega) (by omega) ?_ ?_
    · intro h5
      refine n_aload_n c_88_16 rfl (n_getR c_88_17 sc_8.n rfl rfl rfl r_8_0 (n_iload_n c_88_20 rfl (n_bipush c_88_21 rfl (n_imul c_88_23 rfl (n_iload_n c_88_24 rfl (n_iadd c_88_25 rfl (n_aload_n c_88_26 rfl (n_lload_n c_88_27 rfl (n_aload_n c_88_28 rfl (n_getR c_88_29 sc_8.n rfl rfl rfl r_8_1 (n_iload_n c_88_32 rfl ?_)))))))))))
      refine n_ialoadV c_88_33 sc_10.n rfl rfl rfl (by omega) (t_10 hS (by omega)) ?_
      intro z6 ez6 f7
      refine n_v2J c_88_34 rfl sc_8.n rfl rfl rfl rfl (cut_3 (v := v) (w := z6) hS (by omega) (by omega)) ?_
      intro z8 M9 hP10
      obtain ⟨eM, f10⟩ := hP10
      subst eM
      refine n_lastoreM hS c_88_37 sc_9.n rfl (by omega) (m_9 (by omega) (by omega)) ?_
      intro M11 eM11 hS11
      have g11_0 : M11 11 s = M 11 s := by rw [eM11]; exact nu_a (by omega)
      refine n_iconst c_88_38 ?_
      exact n_rZ c_88_39 rfl (by omega) ⟨hS11, by omega⟩
    · intro h12
      refine n_fg (le_n (le_n (le_n (le_n (le_n le_0))))) ?_
      exact (put_3_c hS hs hi hv 12)  M hS  (by omega)

set_option maxHeartbeats 4000000 in
theorem row_3_c {xs : List Int32} {e : Nat} {ac : Int} {M : nM} {s w n : Int} (hS : Sf 3 ac M M) (hs : -2147483648 ≤ s ∧ s ≤ 2147483647) (hw : -2147483648 ≤ w ∧ w ≤ 2147483647) (hn : -2147483648 ≤ n ∧ n ≤ 2147483647) : ∀ nn : Nat, (∀ (M : nM), Sf 3 ac M M → 1 < (nn : Int) → nW xs (e + 1) 94 26 [none, none, none, none] [] M (nPI fun z M1 => Sf 3 ac M1 M1 ∧ (-2147483648 ≤ z ∧ z ≤ 2147483647))) := by
  have hd : (3 : Int) = 2 ∨ (3 : Int) = 3 := by decide
  have hac := hS.2.2.2.2
  intro nn
  induction nn with
  | zero => intros; omega
  | succ nn ih =>
    intro M hS hnn
    refine n_bipush c_94_26 rfl ?_
    exact n_rI c_94_28 rfl ⟨hS, by omega⟩
set_option maxHeartbeats 4000000 in
theorem row_3 {xs : List Int32} {e : Nat} {ac : Int} {M : nM} {s w n : Int} (hS : Sf 3 ac M M) (hs : -2147483648 ≤ s ∧ s ≤ 2147483647) (hw : -2147483648 ≤ w ∧ w ≤ 2147483647) (hn : -2147483648 ≤ n ∧ n ≤ 2147483647) : nW xs (e + 1) 94 0 [some (2, 3), some (0, s), some (0, w), some (0, n)] [] M (nPI fun z M1 => Sf 3 ac M1 M1 ∧ (-2147483648 ≤ z ∧ z ≤ 2147483647)) := by
  have hd : (3 : Int) = 2 ∨ (3 : Int) = 3 := by decide
  have hac := hS.2.2.2.2
  refine n_aload_n c_94_0 rfl (n_getR c_94_1 sc_3.n rfl rfl rfl r_3_1 (n_iload_n c_94_4 rfl (n_v1I c_94_5 rfl sc_8.n rfl rfl rfl rfl (isSlot_3 (s := s) hS (by omega)) ?_)))
  intro z1 M2 hP3
  obtain ⟨eM, f3, f3p0⟩ := hP3
  subst eM
  refine n_if0_eq c_94_8 (by omega) ?_ ?_
  · intro h4
    refine n_fg (le_n (le_n (le_n (le_n le_0)))) ?_
    exact (row_3_c hS hs hw hn 12)  M hS  (by omega)
  · intro h5
    refine n_iload_n c_94_11 rfl ?_
    refine n_if0_lt c_94_12 (by omega) ?_ ?_
    · intro h6
      refine n_fg (le_n (le_n (le_n (le_n le_0)))) ?_
      exact (row_3_c hS hs hw hn 12)  M hS  (by omega)
    · intro h7
      refine n_iload_n c_94_15 rfl (n_iconst c_94_16 ?_)
      refine n_if2_gt c_94_17 (by omega) (by omega) ?_ ?_
      · intro h8
        refine n_fg (le_n (le_n (le_n (le_n le_0)))) ?_
        exact (row_3_c hS hs hw hn 12)  M hS  (by omega)
      · intro h9
        refine n_iload_n c_94_20 rfl (n_bipush c_94_21 rfl ?_)
        refine n_if2_le c_94_23 (by omega) (by omega) ?_ ?_
        · intro h10
          refine n_iload_n c_94_29 rfl ?_
          refine n_if0_ge c_94_30 (by omega) ?_ ?_
          · intro h11
            refine n_aload_n c_94_36 rfl (n_getR c_94_37 sc_3.n rfl rfl rfl r_3_1 (n_iload_n c_94_40 rfl (n_iload_n c_94_41 rfl (n_iload_n c_94_42 rfl (n_v3V c_94_43 rfl sc_8.n rfl rfl rfl rfl (lay_3 (s := s) (w := w) (n := n) hS (by omega) (by omega) (by omega)) ?_)))))
            intro  M12 hP13
            have hS12 := hP13
            refine n_iconst c_94_46 ?_
            exact n_rI c_94_47 rfl ⟨hS12, by omega⟩
          · intro h14
            refine n_bipush c_94_33 rfl ?_
            exact n_rI c_94_35 rfl ⟨hS, by omega⟩
        · intro h15
          refine n_fg (le_n (le_n (le_n (le_n le_0)))) ?_
          exact (row_3_c hS hs hw hn 12)  M hS  (by omega)

set_option maxHeartbeats 4000000 in
theorem tear_3 {xs : List Int32} {e : Nat} {ac : Int} {M : nM} {s : Int} (hS : Sf 3 ac M M) (hs : -2147483648 ≤ s ∧ s ≤ 2147483647) : nW xs (e + 2) 95 0 [some (2, 3), some (0, s)] [] M (nPI fun z M1 => Sf 3 ac M1 M1 ∧ (0 ≤ z ∧ z ≤ 1)) := by
  have hd : (3 : Int) = 2 ∨ (3 : Int) = 3 := by decide
  have hac := hS.2.2.2.2
  refine n_aload_n c_95_0 rfl (n_getR c_95_1 sc_3.n rfl rfl rfl r_3_1 (n_iload_n c_95_4 rfl (n_v1I c_95_5 rfl sc_8.n rfl rfl rfl rfl (hasRow_3 (s := s) hS (by omega)) ?_)))
  intro z1 M2 hP3
  obtain ⟨eM, f3, f3p0⟩ := hP3
  subst eM
  refine n_if0_ne c_95_8 (by omega) ?_ ?_
  · intro h4
    refine n_aload_n c_95_13 rfl (n_getR c_95_14 sc_3.n rfl rfl rfl r_3_1 (n_iload_n c_95_17 rfl (n_v1V c_95_18 rfl sc_8.n rfl rfl rfl rfl (empty_3 (s := s) hS (by omega)) ?_)))
    intro  M5 hP6
    have hS5 := hP6
    refine n_iconst c_95_21 ?_
    exact n_rZ c_95_22 rfl (by omega) ⟨hS5, by omega⟩
  · intro h7
    refine n_iconst c_95_11 ?_
    exact n_rZ c_95_12 rfl (by omega) ⟨hS, by omega⟩

set_option maxHeartbeats 4000000 in
theorem write_3 {xs : List Int32} {e : Nat} {ac : Int} {M : nM} {s i v : Int} (hS : Sf 3 ac M M) (hs : -2147483648 ≤ s ∧ s ≤ 2147483647) (hi : -2147483648 ≤ i ∧ i ≤ 2147483647) (hv : -9223372036854775808 ≤ v ∧ v ≤ 9223372036854775807) : nW xs (e + 2) 96 0 [some (2, 3), some (0, s), some (0, i), some (1, v), none] [] M (nPI fun z M1 => Sf 3 ac M1 M1 ∧ (-2147483648 ≤ z ∧ z ≤ 2147483647)) := by
  have hd : (3 : Int) = 2 ∨ (3 : Int) = 3 := by decide
  have hac := hS.2.2.2.2
  refine n_aload_n c_96_0 rfl (n_getR c_96_1 sc_3.n rfl rfl rfl r_3_1 (n_iload_n c_96_4 rfl (n_v1I c_96_5 rfl sc_8.n rfl rfl rfl rfl (isSlot_3 (s := s) hS (by omega)) ?_)))
  intro z1 M2 hP3
  obtain ⟨eM, f3, f3p0⟩ := hP3
  subst eM
  refine n_if0_ne c_96_8 (by omega) ?_ ?_
  · intro h4
    refine n_aload_n c_96_14 rfl (n_getR c_96_15 sc_3.n rfl rfl rfl r_3_1 (n_iload_n c_96_18 rfl (n_v1I c_96_19 rfl sc_8.n rfl rfl rfl rfl (hasRow_3 (s := s) hS (by omega)) ?_)))
    intro z5 M6 hP7
    obtain ⟨eM, f7, f7p0⟩ := hP7
    subst eM
    refine n_if0_ne c_96_22 (by omega) ?_ ?_
    · intro h8
      refine n_aload_n c_96_28 rfl (n_getR c_96_29 sc_3.n rfl rfl rfl r_3_1 (n_iload_n c_96_32 rfl (n_iload_n c_96_33 rfl (n_lload_n c_96_34 rfl (n_v3I c_96_35 rfl sc_8.n rfl rfl rfl rfl (put_3 (s := s) (i := i) (v := v) hS (by omega) (by omega) (by omega)) ?_)))))
      intro z9 M10 hP11
      obtain ⟨hS10, f11⟩ := hP11
      refine n_if0_eq c_96_38 (by omega) ?_ ?_
      · intro h12
        refine n_bipush c_96_45 rfl ?_
        exact n_rI c_96_47 rfl ⟨hS10, by omega⟩
      · intro h13
        refine n_iconst c_96_41 (n_goto c_96_42 ?_)
        exact n_rI c_96_47 rfl ⟨hS10, by omega⟩
    · intro h14
      refine n_bipush c_96_25 rfl ?_
      exact n_rI c_96_27 rfl ⟨hS, by omega⟩
  · intro h15
    refine n_bipush c_96_11 rfl ?_
    exact n_rI c_96_13 rfl ⟨hS, by omega⟩

set_option maxHeartbeats 4000000 in
theorem rstart_3 {xs : List Int32} {e : Nat} {ac : Int} {M : nM} {u : Int} (hS : Sf 3 ac M M) (hu : 1 ≤ u ∧ u ≤ 8) : nW xs e 74 0 [some (2, 32), some (0, u)] [] M (nPV fun M1 => Sf 3 ac M1 M1) := by
  have hd : (3 : Int) = 2 ∨ (3 : Int) = 3 := by decide
  have hac := hS.2.2.2.2
  refine n_aload_n c_74_0 rfl (n_iload_n c_74_1 rfl (n_putM (bi := 0) hS c_74_2 sc_32.n rfl rfl rfl rfl (m_32_0 (by omega)) ?_))
  intro M1 eM1 hS1
  have g1_0 : M1 32 0 = u := by rw [eM1]; exact nu_s _ _ _ _
  refine n_aload_n c_74_5 rfl (n_iconst c_74_6 (n_putM (bi := 1) hS1 c_74_7 sc_32.n rfl rfl rfl rfl (m_32_1 (by omega)) ?_))
  intro M2 eM2 hS2
  have g2_0 : M2 32 0 = M1 32 0 := by rw [eM2]; exact nu_i (by omega)
  have g2_1 : M2 32 1 = 0 := by rw [eM2]; exact nu_s _ _ _ _
  exact n_rV c_74_10 rfl hS2

set_option maxHeartbeats 4000000 in
theorem riddle_3_c {xs : List Int32} {e : Nat} {ac : Int} {M : nM} {u : Int} (hS : Sf 3 ac M M) (hu : -2147483648 ≤ u ∧ u ≤ 2147483647) : ∀ nn : Nat, (∀ (M : nM), Sf 3 ac M M → 1 < (nn : Int) → nW xs (e + 1) 115 11 [none, none] [] M (nPI fun z M1 => Sf 3 ac M1 M1 ∧ (0 ≤ z ∧ z ≤ 1))) := by
  have hd : (3 : Int) = 2 ∨ (3 : Int) = 3 := by decide
  have hac := hS.2.2.2.2
  intro nn
  induction nn with
  | zero => intros; omega
  | succ nn ih =>
    intro M hS hnn
    refine n_iconst c_115_11 ?_
    exact n_rZ c_115_12 rfl (by omega) ⟨hS, by omega⟩
set_option maxHeartbeats 4000000 in
theorem riddle_3 {xs : List Int32} {e : Nat} {ac : Int} {M : nM} {u : Int} (hS : Sf 3 ac M M) (hu : -2147483648 ≤ u ∧ u ≤ 2147483647) : nW xs (e + 1) 115 0 [some (2, 3), some (0, u)] [] M (nPI fun z M1 => Sf 3 ac M1 M1 ∧ (0 ≤ z ∧ z ≤ 1)) := by
  have hd : (3 : Int) = 2 ∨ (3 : Int) = 3 := by decide
  have hac := hS.2.2.2.2
  refine n_iload_n c_115_0 rfl (n_iconst c_115_1 ?_)
  refine n_if2_lt c_115_2 (by omega) (by omega) ?_ ?_
  · intro h1
    refine n_fg (le_n (le_n le_0)) ?_
    exact (riddle_3_c hS hu 12)  M hS  (by omega)
  · intro h2
    refine n_iload_n c_115_5 rfl (n_bipush c_115_6 rfl ?_)
    refine n_if2_le c_115_8 (by omega) (by omega) ?_ ?_
    · intro h3
      refine n_aload_n c_115_13 rfl (n_getR c_115_14 sc_3.n rfl rfl rfl r_3_6 (n_iload_n c_115_17 rfl (n_v1V c_115_18 rfl sc_32.n rfl rfl rfl rfl (rstart_3 (u := u) hS (by omega)) ?_)))
      intro  M4 hP5
      have hS4 := hP5
      refine n_aload_n c_115_21 rfl (n_iconst c_115_22 (n_putZM (bi := 18) hS4 c_115_23 sc_3.n rfl rfl rfl (by omega) rfl (m_3_18 (by omega)) ?_))
      intro M6 eM6 hS6
      have g6_0 : M6 3 18 = 0 := by rw [eM6]; exact nu_s _ _ _ _
      refine n_iconst c_115_26 ?_
      exact n_rZ c_115_27 rfl (by omega) ⟨hS6, by omega⟩
    · intro h7
      refine n_fg (le_n (le_n le_0)) ?_
      exact (riddle_3_c hS hu 12)  M hS  (by omega)

set_option maxHeartbeats 4000000 in
theorem radd_3 {xs : List Int32} {e : Nat} {ac : Int} {M : nM} {l x y w : Int} (hS : Sf 3 ac M M) (hl : 0 ≤ l ∧ l ≤ 11) (hx : 0 ≤ x ∧ x ≤ 7) (hy : 0 ≤ y ∧ y ≤ 7) (hw : 0 ≤ w ∧ w ≤ 7) (hc : M 32 1 ≤ 29) : nW xs e 76 0 [some (2, 32), some (0, l), some (0, x), some (0, y), some (0, w)] [] M (nPI fun z M1 => Sf 3 ac M1 M1 ∧ (-2147483648 ≤ z ∧ z ≤ 2147483647)) := by
  have hd : (3 : Int) = 2 ∨ (3 : Int) = 3 := by decide
  have hac := hS.2.2.2.2
  refine n_aload_n c_76_0 rfl (n_getR c_76_1 sc_32.n rfl rfl rfl r_32_2 (n_aload_n c_76_4 rfl (n_getV (bi := 1) c_76_5 sc_32.n rfl rfl rfl (t_32_1 hS) ?_)))
  intro z1 ez1 f2
  refine n_iload_n c_76_8 rfl (n_iastoreM hS c_76_9 sc_33.n rfl (by omega) (m_33 (by omega) (by omega)) ?_)
  intro M3 eM3 hS3
  have g3_0 : M3 32 1 = M 32 1 := by rw [eM3]; exact nu_a (by omega)
  refine n_aload_n c_76_10 rfl (n_getR c_76_11 sc_32.n rfl rfl rfl r_32_3 (n_aload_n c_76_14 rfl (n_getV (bi := 1) c_76_15 sc_32.n rfl rfl rfl (t_32_1 hS3) ?_)))
  intro z4 ez4 f5
  refine n_iload_n c_76_18 rfl (n_iastoreM hS3 c_76_19 sc_34.n rfl (by omega) (m_34 (by omega) (by omega)) ?_)
  intro M6 eM6 hS6
  have g6_0 : M6 32 1 = M3 32 1 := by rw [eM6]; exact nu_a (by omega)
  refine n_aload_n c_76_20 rfl (n_getR c_76_21 sc_32.n rfl rfl rfl r_32_4 (n_aload_n c_76_24 rfl (n_getV (bi := 1) c_76_25 sc_32.n rfl rfl rfl (t_32_1 hS6) ?_)))
  intro z7 ez7 f8
  refine n_iload_n c_76_28 rfl (n_iastoreM hS6 c_76_29 sc_35.n rfl (by omega) (m_35 (by omega) (by omega)) ?_)
  intro M9 eM9 hS9
  have g9_0 : M9 32 1 = M6 32 1 := by rw [eM9]; exact nu_a (by omega)
  refine n_aload_n c_76_30 rfl (n_getR c_76_31 sc_32.n rfl rfl rfl r_32_5 (n_aload_n c_76_34 rfl (n_getV (bi := 1) c_76_35 sc_32.n rfl rfl rfl (t_32_1 hS9) ?_)))
  intro z10 ez10 f11
  refine n_iload c_76_38 rfl (n_iastoreM hS9 c_76_40 sc_36.n rfl (by omega) (m_36 (by omega) (by omega)) ?_)
  intro M12 eM12 hS12
  have g12_0 : M12 32 1 = M9 32 1 := by rw [eM12]; exact nu_a (by omega)
  refine n_aload_n c_76_41 rfl (n_dup2 c_76_42 (n_getV (bi := 1) c_76_43 sc_32.n rfl rfl rfl (t_32_1 hS12) ?_))
  intro z13 ez13 f14
  refine n_dup_x102 c_76_46 (n_iconst c_76_47 (n_iadd c_76_48 rfl (n_putM (bi := 1) hS12 c_76_49 sc_32.n rfl rfl rfl rfl (m_32_1 (by omega)) ?_)))
  intro M15 eM15 hS15
  have g15_0 : M15 32 1 = (z13 + 1) := by rw [eM15]; exact nu_s _ _ _ _
  exact n_rI c_76_52 rfl ⟨hS15, by omega⟩

set_option maxHeartbeats 4000000 in
theorem ask_3_c {xs : List Int32} {e : Nat} {ac : Int} {M : nM} {l x y w : Int} (hS : Sf 3 ac M M) (hl : -2147483648 ≤ l ∧ l ≤ 2147483647) (hx : -2147483648 ≤ x ∧ x ≤ 2147483647) (hy : -2147483648 ≤ y ∧ y ≤ 2147483647) (hw : -2147483648 ≤ w ∧ w ≤ 2147483647) : ∀ nn : Nat, (∀ (M : nM), Sf 3 ac M M → 1 < (nn : Int) → nW xs (e + 1) 116 85 [none, none, none, none, none, none, none, none] [] M (nPI fun z M1 => Sf 3 ac M1 M1 ∧ (-2147483648 ≤ z ∧ z ≤ 2147483647))) := by
  have hd : (3 : Int) = 2 ∨ (3 : Int) = 3 := by decide
  have hac := hS.2.2.2.2
  intro nn
  induction nn with
  | zero => intros; omega
  | succ nn ih =>
    intro M hS hnn
    refine n_bipush c_116_85 rfl ?_
    exact n_rI c_116_87 rfl ⟨hS, by omega⟩
set_option maxHeartbeats 4000000 in
theorem ask_3 {xs : List Int32} {e : Nat} {ac : Int} {M : nM} {l x y w : Int} (hS : Sf 3 ac M M) (hl : -2147483648 ≤ l ∧ l ≤ 2147483647) (hx : -2147483648 ≤ x ∧ x ≤ 2147483647) (hy : -2147483648 ≤ y ∧ y ≤ 2147483647) (hw : -2147483648 ≤ w ∧ w ≤ 2147483647) : nW xs (e + 1) 116 0 [some (2, 3), some (0, l), some (0, x), some (0, y), some (0, w), none, none, none] [] M (nPI fun z M1 => Sf 3 ac M1 M1 ∧ (-2147483648 ≤ z ∧ z ≤ 2147483647)) := by
  have hd : (3 : Int) = 2 ∨ (3 : Int) = 3 := by decide
  have hac := hS.2.2.2.2
  refine n_aload_n c_116_0 rfl (n_iload_n c_116_1 rfl (n_v1I c_116_2 rfl sc_3.n rfl rfl rfl rfl (isLaw_3 (l := l) hS (by omega)) ?_))
  intro z1 M2 hP3
  obtain ⟨eM, f3, f3p0⟩ := hP3
  subst eM
  refine n_if0_ne c_116_5 (by omega) ?_ ?_
  · intro h4
    refine n_aload_n c_116_11 rfl (n_getR c_116_12 sc_3.n rfl rfl rfl r_3_3 (n_iload_n c_116_15 rfl (n_aaload c_116_16 sc_13.n rfl rfl rfl (by omega) (r_laws _) ?_)))
    have q5 : LawAt (79 + 2 * l) := by unfold LawAt; omega
    refine n_getV (bi := 0) c_116_17 q5.c0.1.n rfl rfl rfl (t_law hS q5).1 ?_
    intro z6 ez6 f7
    refine n_istore (L2 := [some (2, 3), some (0, l), some (0, x), some (0, y), some (0, w), some (0, z6), none, none]) c_116_20 rfl rfl (n_iload c_116_22 rfl (n_iconst c_116_24 ?_))
    refine n_if2_le c_116_25 (by omega) (by omega) ?_ ?_
    · intro h8
      refine n_iload_n c_116_32 rfl (n_istore (L2 := [some (2, 3), some (0, l), some (0, x), some (0, y), some (0, w), some (0, z6), some (0, x), none]) c_116_33 rfl rfl (n_iload c_116_35 rfl (n_iconst c_116_37 ?_)))
      refine n_if2_le c_116_38 (by omega) (by omega) ?_ ?_
      · intro h9
        refine n_iload c_116_46 rfl (n_istore (L2 := [some (2, 3), some (0, l), some (0, x), some (0, y), some (0, w), some (0, z6), some (0, x), some (0, x)]) c_116_48 rfl rfl (n_aload_n c_116_50 rfl (n_getR c_116_51 sc_3.n rfl rfl rfl r_3_6 (n_iload_n c_116_54 rfl (n_v1I c_116_55 rfl sc_32.n rfl rfl rfl rfl (isUnknown_3 (u := x) hS (by omega)) ?_)))))
        intro z10 M11 hP12
        obtain ⟨eM, f12, f12p0⟩ := hP12
        subst eM
        refine n_if0_eq c_116_58 (by omega) ?_ ?_
        · intro h13
          refine n_fg (le_n (le_n (le_n (le_n (le_n (le_n (le_n (le_n le_0)))))))) ?_
          exact (ask_3_c hS hl hx hy hw 12)  M hS  (by omega)
        · intro h14
          refine n_aload_n c_116_61 rfl (n_getR c_116_62 sc_3.n rfl rfl rfl r_3_6 (n_iload c_116_65 rfl (n_v1I c_116_67 rfl sc_32.n rfl rfl rfl rfl (isUnknown_3 (u := x) hS (by omega)) ?_)))
          intro z15 M16 hP17
          obtain ⟨eM, f17, f17p0⟩ := hP17
          subst eM
          refine n_if0_eq c_116_70 (by omega) ?_ ?_
          · intro h18
            refine n_fg (le_n (le_n (le_n (le_n (le_n (le_n (le_n (le_n le_0)))))))) ?_
            exact (ask_3_c hS hl hx hy hw 12)  M hS  (by omega)
          · intro h19
            refine n_aload_n c_116_73 rfl (n_getR c_116_74 sc_3.n rfl rfl rfl r_3_6 (n_iload c_116_77 rfl (n_v1I c_116_79 rfl sc_32.n rfl rfl rfl rfl (isUnknown_3 (u := x) hS (by omega)) ?_)))
            intro z20 M21 hP22
            obtain ⟨eM, f22, f22p0⟩ := hP22
            subst eM
            refine n_if0_ne c_116_82 (by omega) ?_ ?_
            · intro h23
              refine n_aload_n c_116_88 rfl (n_getR c_116_89 sc_3.n rfl rfl rfl r_3_6 (n_getV (bi := 1) c_116_92 sc_32.n rfl rfl rfl (t_32_1 hS) ?_))
              intro z24 ez24 f25
              refine n_bipush c_116_95 rfl ?_
              refine n_if2_lt c_116_97 (by omega) (by omega) ?_ ?_
              · intro h26
                refine n_aload_n c_116_103 rfl (n_iconst c_116_104 (n_putZM (bi := 18) hS c_116_105 sc_3.n rfl rfl rfl (by omega) rfl (m_3_18 (by omega)) ?_))
                intro M27 eM27 hS27
                have g27_0 : M27 32 1 = M 32 1 := by rw [eM27]; exact nu_a (by omega)
                have g27_1 : M27 3 18 = 0 := by rw [eM27]; exact nu_s _ _ _ _
                refine n_aload_n c_116_108 rfl (n_getR c_116_109 sc_3.n rfl rfl rfl r_3_6 (n_iload_n c_116_112 rfl (n_iload_n c_116_113 rfl (n_iload c_116_114 rfl (n_iload c_116_116 rfl (n_v4I c_116_118 rfl sc_32.n rfl rfl rfl rfl (radd_3 (l := l) (x := x) (y := x) (w := x) hS27 (by omega) (by omega) (by omega) (by omega) (by omega)) ?_))))))
                intro z28 M29 hP30
                obtain ⟨hS29, f30⟩ := hP30
                exact n_rI c_116_121 rfl ⟨hS29, by omega⟩
              · intro h31
                refine n_bipush c_116_100 rfl ?_
                exact n_rI c_116_102 rfl ⟨hS, by omega⟩
            · intro h32
              refine n_fg (le_n (le_n (le_n (le_n (le_n (le_n (le_n (le_n le_0)))))))) ?_
              exact (ask_3_c hS hl hx hy hw 12)  M hS  (by omega)
      · intro h33
        exfalso; omega
    · intro h34
      refine n_iload_n c_116_28 rfl (n_goto c_116_29 (n_istore (L2 := [some (2, 3), some (0, l), some (0, x), some (0, y), some (0, w), some (0, z6), some (0, y), none]) c_116_33 rfl rfl (n_iload c_116_35 rfl (n_iconst c_116_37 ?_))))
      refine n_if2_le c_116_38 (by omega) (by omega) ?_ ?_
      · intro h35
        refine n_iload c_116_46 rfl (n_istore (L2 := [some (2, 3), some (0, l), some (0, x), some (0, y), some (0, w), some (0, z6), some (0, y), some (0, y)]) c_116_48 rfl rfl (n_aload_n c_116_50 rfl (n_getR c_116_51 sc_3.n rfl rfl rfl r_3_6 (n_iload_n c_116_54 rfl (n_v1I c_116_55 rfl sc_32.n rfl rfl rfl rfl (isUnknown_3 (u := x) hS (by omega)) ?_)))))
        intro z36 M37 hP38
        obtain ⟨eM, f38, f38p0⟩ := hP38
        subst eM
        refine n_if0_eq c_116_58 (by omega) ?_ ?_
        · intro h39
          refine n_fg (le_n (le_n (le_n (le_n (le_n (le_n (le_n (le_n le_0)))))))) ?_
          exact (ask_3_c hS hl hx hy hw 12)  M hS  (by omega)
        · intro h40
          refine n_aload_n c_116_61 rfl (n_getR c_116_62 sc_3.n rfl rfl rfl r_3_6 (n_iload c_116_65 rfl (n_v1I c_116_67 rfl sc_32.n rfl rfl rfl rfl (isUnknown_3 (u := y) hS (by omega)) ?_)))
          intro z41 M42 hP43
          obtain ⟨eM, f43, f43p0⟩ := hP43
          subst eM
          refine n_if0_eq c_116_70 (by omega) ?_ ?_
          · intro h44
            refine n_fg (le_n (le_n (le_n (le_n (le_n (le_n (le_n (le_n le_0)))))))) ?_
            exact (ask_3_c hS hl hx hy hw 12)  M hS  (by omega)
          · intro h45
            refine n_aload_n c_116_73 rfl (n_getR c_116_74 sc_3.n rfl rfl rfl r_3_6 (n_iload c_116_77 rfl (n_v1I c_116_79 rfl sc_32.n rfl rfl rfl rfl (isUnknown_3 (u := y) hS (by omega)) ?_)))
            intro z46 M47 hP48
            obtain ⟨eM, f48, f48p0⟩ := hP48
            subst eM
            refine n_if0_ne c_116_82 (by omega) ?_ ?_
            · intro h49
              refine n_aload_n c_116_88 rfl (n_getR c_116_89 sc_3.n rfl rfl rfl r_3_6 (n_getV (bi := 1) c_116_92 sc_32.n rfl rfl rfl (t_32_1 hS) ?_))
              intro z50 ez50 f51
              refine n_bipush c_116_95 rfl ?_
              refine n_if2_lt c_116_97 (by omega) (by omega) ?_ ?_
              · intro h52
                refine n_aload_n c_116_103 rfl (n_iconst c_116_104 (n_putZM (bi := 18) hS c_116_105 sc_3.n rfl rfl rfl (by omega) rfl (m_3_18 (by omega)) ?_))
                intro M53 eM53 hS53
                have g53_0 : M53 32 1 = M 32 1 := by rw [eM53]; exact nu_a (by omega)
                have g53_1 : M53 3 18 = 0 := by rw [eM53]; exact nu_s _ _ _ _
                refine n_aload_n c_116_108 rfl (n_getR c_116_109 sc_3.n rfl rfl rfl r_3_6 (n_iload_n c_116_112 rfl (n_iload_n c_116_113 rfl (n_iload c_116_114 rfl (n_iload c_116_116 rfl (n_v4I c_116_118 rfl sc_32.n rfl rfl rfl rfl (radd_3 (l := l) (x := x) (y := y) (w := y) hS53 (by omega) (by omega) (by omega) (by omega) (by omega)) ?_))))))
                intro z54 M55 hP56
                obtain ⟨hS55, f56⟩ := hP56
                exact n_rI c_116_121 rfl ⟨hS55, by omega⟩
              · intro h57
                refine n_bipush c_116_100 rfl ?_
                exact n_rI c_116_102 rfl ⟨hS, by omega⟩
            · intro h58
              refine n_fg (le_n (le_n (le_n (le_n (le_n (le_n (le_n (le_n le_0)))))))) ?_
              exact (ask_3_c hS hl hx hy hw 12)  M hS  (by omega)
      · intro h59
        refine n_iload c_116_41 rfl (n_goto c_116_43 (n_istore (L2 := [some (2, 3), some (0, l), some (0, x), some (0, y), some (0, w), some (0, z6), some (0, y), some (0, w)]) c_116_48 rfl rfl (n_aload_n c_116_50 rfl (n_getR c_116_51 sc_3.n rfl rfl rfl r_3_6 (n_iload_n c_116_54 rfl (n_v1I c_116_55 rfl sc_32.n rfl rfl rfl rfl (isUnknown_3 (u := x) hS (by omega)) ?_))))))
        intro z60 M61 hP62
        obtain ⟨eM, f62, f62p0⟩ := hP62
        subst eM
        refine n_if0_eq c_116_58 (by omega) ?_ ?_
        · intro h63
          refine n_fg (le_n (le_n (le_n (le_n (le_n (le_n (le_n (le_n le_0)))))))) ?_
          exact (ask_3_c hS hl hx hy hw 12)  M hS  (by omega)
        · intro h64
          refine n_aload_n c_116_61 rfl (n_getR c_116_62 sc_3.n rfl rfl rfl r_3_6 (n_iload c_116_65 rfl (n_v1I c_116_67 rfl sc_32.n rfl rfl rfl rfl (isUnknown_3 (u := y) hS (by omega)) ?_)))
          intro z65 M66 hP67
          obtain ⟨eM, f67, f67p0⟩ := hP67
          subst eM
          refine n_if0_eq c_116_70 (by omega) ?_ ?_
          · intro h68
            refine n_fg (le_n (le_n (le_n (le_n (le_n (le_n (le_n (le_n le_0)))))))) ?_
            exact (ask_3_c hS hl hx hy hw 12)  M hS  (by omega)
          · intro h69
            refine n_aload_n c_116_73 rfl (n_getR c_116_74 sc_3.n rfl rfl rfl r_3_6 (n_iload c_116_77 rfl (n_v1I c_116_79 rfl sc_32.n rfl rfl rfl rfl (isUnknown_3 (u := w) hS (by omega)) ?_)))
            intro z70 M71 hP72
            obtain ⟨eM, f72, f72p0⟩ := hP72
            subst eM
            refine n_if0_ne c_116_82 (by omega) ?_ ?_
            · intro h73
              refine n_aload_n c_116_88 rfl (n_getR c_116_89 sc_3.n rfl rfl rfl r_3_6 (n_getV (bi := 1) c_116_92 sc_32.n rfl rfl rfl (t_32_1 hS) ?_))
              intro z74 ez74 f75
              refine n_bipush c_116_95 rfl ?_
              refine n_if2_lt c_116_97 (by omega) (by omega) ?_ ?_
              · intro h76
                refine n_aload_n c_116_103 rfl (n_iconst c_116_104 (n_putZM (bi := 18) hS c_116_105 sc_3.n rfl rfl rfl (by omega) rfl (m_3_18 (by omega)) ?_))
                intro M77 eM77 hS77
                have g77_0 : M77 32 1 = M 32 1 := by rw [eM77]; exact nu_a (by omega)
                have g77_1 : M77 3 18 = 0 := by rw [eM77]; exact nu_s _ _ _ _
                refine n_aload_n c_116_108 rfl (n_getR c_116_109 sc_3.n rfl rfl rfl r_3_6 (n_iload_n c_116_112 rfl (n_iload_n c_116_113 rfl (n_iload c_116_114 rfl (n_iload c_116_116 rfl (n_v4I c_116_118 rfl sc_32.n rfl rfl rfl rfl (radd_3 (l := l) (x := x) (y := y) (w := w) hS77 (by omega) (by omega) (by omega) (by omega) (by omega)) ?_))))))
                intro z78 M79 hP80
                obtain ⟨hS79, f80⟩ := hP80
                exact n_rI c_116_121 rfl ⟨hS79, by omega⟩
              · intro h81
                refine n_bipush c_116_100 rfl ?_
                exact n_rI c_116_102 rfl ⟨hS, by omega⟩
            · intro h82
              refine n_fg (le_n (le_n (le_n (le_n (le_n (le_n (le_n (le_n le_0)))))))) ?_
              exact (ask_3_c hS hl hx hy hw 12)  M hS  (by omega)
  · intro h83
    refine n_bipush c_116_8 rfl ?_
    exact n_rI c_116_10 rfl ⟨hS, by omega⟩

set_option maxHeartbeats 4000000 in
theorem actsOfThree_3_c {xs : List Int32} {e : Nat} {ac : Int} {M0 M : nM} (hS : Sf 3 ac M0 M)  : ∀ nn : Nat, (∀ (x1 x2 : Int), (0 ≤ x1 ∧ x1 ≤ 8) → (0 ≤ x2 ∧ x2 ≤ 8) → (x1 ≤ x2) → (8 - x2) * 2 + 2 < (nn : Int) → nW xs e 127 4 [some (2, 3), some (0, x1), some (0, x2)] [] M (nPI fun z M1 => M = M1 ∧ (0 ≤ z ∧ z ≤ 8))) ∧ (∀ (x1 x2 : Int), (0 ≤ x1 ∧ x1 ≤ 8) → (0 ≤ x2 ∧ x2 ≤ 7) → (x1 ≤ x2 + 1) → (8 - x2) * 2 + 1 < (nn : Int) → nW xs e 127 28 [some (2, 3), some (0, x1), some (0, x2)] [] M (nPI fun z M1 => M = M1 ∧ (0 ≤ z ∧ z ≤ 8))) := by
  have hd : (3 : Int) = 2 ∨ (3 : Int) = 3 := by decide
  have hac := hS.2.2.2.2
  intro nn
  induction nn with
  | zero => refine ⟨?_, ?_⟩ <;> (intros; omega)
  | succ nn ih =>
    refine ⟨?_, ?_⟩
    · intro x1 x2 k1 k2 v0 hnn
      refine n_iload_n c_127_4 rfl (n_aload_n c_127_5 rfl (n_getV (bi := 14) c_127_6 sc_3.n rfl rfl rfl (t_3_14x hS) ?_))
      intro z1 ez1 f2
      have f2a := t_ac hS
      refine n_if2_ge c_127_9 (by omega) (by omega) ?_ ?_
      · intro h3
        refine n_iload_n c_127_34 rfl ?_
        exact n_rI c_127_35 rfl ⟨rfl, by omega⟩
      · intro h4
        refine n_aload_n c_127_12 rfl (n_getR c_127_13 sc_3.n rfl rfl rfl r_3_2 (n_iload_n c_127_16 rfl (n_aaload c_127_17 sc_12.n rfl rfl rfl (by omega) (r_acts _) ?_)))
        have q5 : ActAt (55 + 3 * x2) := by unfold ActAt; omega
        have q5l : (55 + 3 * x2) < 55 + 3 * ac := by omega
        refine n_getV (bi := 0) c_127_18 q5.c0.1.n rfl rfl rfl (t_actl hS q5 q5l).1 ?_
        intro z6 ez6 f7
        refine n_iconst c_127_21 ?_
        refine n_if2_ne c_127_22 (by omega) (by omega) ?_ ?_
        · intro h8
          refine n_fg (le_s (le_s (le_s le_0))) ?_
          exact ih.2 _ _ (by omega) (by omega) (by omega) (by omega)
        · intro h9
          refine n_iinc (L2 := [some (2, 3), some (0, (x1 + 1)), some (0, x2)]) c_127_25 rfl rfl rfl (n_fg (le_s (le_s (le_s le_0))) ?_)
          exact ih.2 _ _ (by omega) (by omega) (by omega) (by omega)
    · intro x1 x2 k1 k2 v0 hnn
      refine n_iinc (L2 := [some (2, 3), some (0, x1), some (0, (x2 + 1))]) c_127_28 rfl rfl rfl (n_goto c_127_31 (n_fg (le_s (le_s (le_s le_0))) ?_))
      exact ih.1 _ _ (by omega) (by omega) (by omega) (by omega)
set_option maxHeartbeats 4000000 in
theorem actsOfThree_3 {xs : List Int32} {e : Nat} {ac : Int} {M0 M : nM} (hS : Sf 3 ac M0 M)  : nW xs e 127 0 [some (2, 3), none, none] [] M (nPI fun z M1 => M = M1 ∧ (0 ≤ z ∧ z ≤ 8)) := by
  have hd : (3 : Int) = 2 ∨ (3 : Int) = 3 := by decide
  have hac := hS.2.2.2.2
  refine n_iconst c_127_0 (n_istore_n (L2 := [some (2, 3), some (0, 0), none]) c_127_1 rfl rfl (n_iconst c_127_2 (n_istore_n (L2 := [some (2, 3), some (0, 0), some (0, 0)]) c_127_3 rfl rfl (n_fg (le_s (le_s (le_s le_0))) ?_))))
  exact (actsOfThree_3_c hS  50).1 _ _ (by omega) (by omega) (by omega) (by omega)

set_option maxHeartbeats 4000000 in
theorem readLaw_3_c {xs : List Int32} {e : Nat} {ac : Int} {M0 M : nM} {k s : Int} (hS : Sf 3 ac M0 M) (hk : 1 ≤ k ∧ k ≤ 3) (hs : 0 ≤ s ∧ s ≤ 7) : ∀ nn : Nat, (∀ (x3 x4 x5 x6 : Int), (0 ≤ x3 ∧ x3 ≤ 27) → (-2147483648 ≤ x4 ∧ x4 ≤ 2147483647) → (1 ≤ x5 ∧ x5 ≤ 82) → (0 ≤ x6 ∧ x6 ≤ 27) → (x5 ≤ 1 + 3 * x6) → (27 - x6) * 6 + 6 < (nn : Int) → nW xs (e + 1) 128 27 [some (2, 3), some (0, k), some (0, s), some (0, x3), some (0, x4), some (0, x5), some (0, x6), none, none, none] [] M (nPI fun z M1 => M = M1 ∧ (-2147483648 ≤ z ∧ z ≤ 2147483647))) ∧ (∀ (x3 x4 x5 x6 x7 x8 : Int), (1 ≤ x3 ∧ x3 ≤ 27) → (-2147483648 ≤ x4 ∧ x4 ≤ 2147483647) → (1 ≤ x5 ∧ x5 ≤ 85) → (0 ≤ x6 ∧ x6 ≤ 26) → (-2147483648 ≤ x7 ∧ x7 ≤ 2147483647) → (0 ≤ x8 ∧ x8 ≤ 3) → (x5 ≤ 1 + 3 * x6 + x8) → (27 - x6) * 6 + (3 - x8) * 1 + 1 < (nn : Int) → nW xs (e + 1) 128 39 [some (2, 3), some (0, k), some (0, s), some (0, x3), some (0, x4), some (0, x5), some (0, x6), some (0, x7), some (0, x8), none] [] M (nPI fun z M1 => M = M1 ∧ (-2147483648 ≤ z ∧ z ≤ 2147483647))) := by
  have hd : (3 : Int) = 2 ∨ (3 : Int) = 3 := by decide
  have hac := hS.2.2.2.2
  intro nn
  induction nn with
  | zero => refine ⟨?_, ?_⟩ <;> (intros; omega)
  | succ nn ih =>
    refine ⟨?_, ?_⟩
    · intro x3 x4 x5 x6 k3 k4 k5 k6 v0 hnn
      refine n_iload c_128_27 rfl (n_iload_n c_128_29 rfl ?_)
      refine n_if2_ge c_128_30 (by omega) (by omega) ?_ ?_
      · intro h1
        refine n_iload c_128_113 rfl ?_
        exact n_rI c_128_115 rfl ⟨rfl, by omega⟩
      · intro h2
        refine n_iconst c_128_33 (n_istore (L2 := [some (2, 3), some (0, k), some (0, s), some (0, x3), some (0, x4), some (0, x5), some (0, x6), some (0, 0), none, none]) c_128_34 rfl rfl (n_iconst c_128_36 (n_istore (L2 := [some (2, 3), some (0, k), some (0, s), some (0, x3), some (0, x4), some (0, x5), some (0, x6), some (0, 0), some (0, 0), none]) c_128_37 rfl rfl (n_fg (le_s (le_s (le_s (le_s (le_s (le_s (le_s (le_s (le_s (le_n le_0)))))))))) ?_))))
        exact ih.2 _ _ _ _ _ _ (by omega) (by omega) (by omega) (by omega) (by omega) (by omega) (by omega) (by omega)
    · intro x3 x4 x5 x6 x7 x8 k3 k4 k5 k6 k7 k8 v0 hnn
      refine n_iload c_128_39 rfl (n_iload_n c_128_41 rfl ?_)
      refine n_if2_ge c_128_42 (by omega) (by omega) ?_ ?_
      · intro h1
        refine n_iload c_128_98 rfl (n_iconst c_128_100 (n_iload c_128_101 rfl (n_i_ishl c_128_103 rfl ?_)))
        have f2 := n_shl_r 1 x7
        generalize (n_shl 1 x7) = z3 at f2 ⊢
        refine n_i_ior c_128_104 rfl ?_
        have f4 := n_or_r x4 z3
        generalize (n_or x4 z3) = z5 at f4 ⊢
        refine n_istore (L2 := [some (2, 3), some (0, k), some (0, s), some (0, x3), some (0, z5), some (0, x5), some (0, x6), some (0, x7), some (0, x8), none]) c_128_105 rfl rfl (n_iinc (L2 := [some (2, 3), some (0, k), some (0, s), some (0, x3), some (0, z5), some (0, x5), some (0, (x6 + 1)), some (0, x7), some (0, x8), none]) c_128_107 rfl rfl rfl (n_goto c_128_110 (n_fg (le_s (le_s (le_s (le_s (le_s (le_s (le_s (le_n (le_n (le_n le_0)))))))))) ?_)))
        exact ih.1 _ _ _ _ (by omega) (by omega) (by omega) (by omega) (by omega) (by omega)
      · intro h6
        refine n_aload_n c_128_45 rfl (n_getR c_128_46 sc_3.n rfl rfl rfl r_3_1 (n_iload_n c_128_49 rfl (n_iload c_128_50 rfl (n_aload_n c_128_52 rfl (n_getR c_128_53 sc_3.n rfl rfl rfl r_3_0 (n_getV (bi := 0) c_128_56 sc_4.n rfl rfl rfl (t_4_0 hS) ?_))))))
        intro z7 ez7 f8
        obtain rfl : z7 = 3 := by omega
        refine n_iconst c_128_59 (n_isub c_128_60 rfl ?_)
        have hcst : ((3 - 1) : Int) = 2 := by omega
        rw [hcst]
        refine n_v3I c_128_61 rfl sc_8.n rfl rfl rfl rfl (read2_3 (s := s) (i := x5) hS (by omega) (by omega)) ?_
        intro z9 M10 hP11
        obtain ⟨eM, f11⟩ := hP11
        subst eM
        refine n_istore (L2 := [some (2, 3), some (0, k), some (0, s), some (0, x3), some (0, x4), some (0, x5), some (0, x6), some (0, x7), some (0, x8), some (0, z9)]) c_128_64 rfl rfl (n_iload c_128_66 rfl ?_)
        refine n_if0_ge c_128_68 (by omega) ?_ ?_
        · intro h12
          refine n_iload c_128_74 rfl (n_aload_n c_128_76 rfl (n_getR c_128_77 sc_3.n rfl rfl rfl r_3_0 (n_getV (bi := 0) c_128_80 sc_4.n rfl rfl rfl (t_4_0 hS) ?_)))
          intro z13 ez13 f14
          obtain rfl : z13 = 3 := by omega
          refine n_imul c_128_83 rfl (n_wrap ?_)
          have f15 := n_wr_r (x7 * 3)
          generalize n_wr (x7 * 3) = z16 at f15 ⊢
          refine n_iload c_128_84 rfl (n_iadd c_128_86 rfl (n_wrap ?_))
          have f17 := n_wr_r (z16 + z9)
          generalize n_wr (z16 + z9) = z18 at f17 ⊢
          refine n_istore (L2 := [some (2, 3), some (0, k), some (0, s), some (0, x3), some (0, x4), some (0, x5), some (0, x6), some (0, z18), some (0, x8), some (0, z9)]) c_128_87 rfl rfl (n_iinc (L2 := [some (2, 3), some (0, k), some (0, s), some (0, x3), some (0, x4), some (0, (x5 + 1)), some (0, x6), some (0, z18), some (0, x8), some (0, z9)]) c_128_89 rfl rfl rfl (n_iinc (L2 := [some (2, 3), some (0, k), some (0, s), some (0, x3), some (0, x4), some (0, (x5 + 1)), some (0, x6), some (0, z18), some (0, (x8 + 1)), some (0, z9)]) c_128_92 rfl rfl rfl (n_goto c_128_95 (n_fg (le_s (le_s (le_s (le_s (le_s (le_s (le_s (le_s (le_s (le_n le_0)))))))))) ?_))))
          exact ih.2 _ _ _ _ _ _ (by omega) (by omega) (by omega) (by omega) (by omega) (by omega) (by omega) (by omega)
        · intro h19
          refine n_iload c_128_71 rfl ?_
          exact n_rI c_128_73 rfl ⟨rfl, by omega⟩
set_option maxHeartbeats 4000000 in
theorem readLaw_3 {xs : List Int32} {e : Nat} {ac : Int} {M0 M : nM} {k s : Int} (hS : Sf 3 ac M0 M) (hk : 1 ≤ k ∧ k ≤ 3) (hs : 0 ≤ s ∧ s ≤ 7) : nW xs (e + 1) 128 0 [some (2, 3), some (0, k), some (0, s), none, none, none, none, none, none, none] [] M (nPI fun z M1 => M = M1 ∧ (-2147483648 ≤ z ∧ z ≤ 2147483647)) := by
  have hd : (3 : Int) = 2 ∨ (3 : Int) = 3 := by decide
  have hac := hS.2.2.2.2
  refine n_aload_n c_128_0 rfl (n_getR c_128_1 sc_3.n rfl rfl rfl r_3_1 (n_iload_n c_128_4 rfl (n_iconst c_128_5 (n_bipush c_128_6 rfl (n_v3I c_128_8 rfl sc_8.n rfl rfl rfl rfl (read27_3 (s := s) (i := 0) hS (by omega) (by omega)) ?_)))))
  intro z1 M2 hP3
  obtain ⟨eM, f3⟩ := hP3
  subst eM
  refine n_istore_n (L2 := [some (2, 3), some (0, k), some (0, s), some (0, z1), none, none, none, none, none, none]) c_128_11 rfl rfl (n_iload_n c_128_12 rfl ?_)
  refine n_if0_ge c_128_13 (by omega) ?_ ?_
  · intro h4
    refine n_iconst c_128_18 (n_istore (L2 := [some (2, 3), some (0, k), some (0, s), some (0, z1), some (0, 0), none, none, none, none, none]) c_128_19 rfl rfl (n_iconst c_128_21 (n_istore (L2 := [some (2, 3), some (0, k), some (0, s), some (0, z1), some (0, 0), some (0, 1), none, none, none, none]) c_128_22 rfl rfl (n_iconst c_128_24 (n_istore (L2 := [some (2, 3), some (0, k), some (0, s), some (0, z1), some (0, 0), some (0, 1), some (0, 0), none, none, none]) c_128_25 rfl rfl (n_fg (le_s (le_s (le_s (le_s (le_s (le_s (le_s (le_n (le_n (le_n le_0)))))))))) ?_))))))
    exact (readLaw_3_c hS hk hs 358).1 _ _ _ _ (by omega) (by omega) (by omega) (by omega) (by omega) (by omega)
  · intro h5
    refine n_iload_n c_128_16 rfl ?_
    exact n_rI c_128_17 rfl ⟨rfl, by omega⟩

set_option maxHeartbeats 4000000 in
theorem addWideM_3_c {xs : List Int32} {e : Nat} {ac : Int} {M : nM} {q r g : Int} (hS : Sf 3 ac M M) (hq : LawAt q) (hr : 0 ≤ r ∧ r ≤ 26) (hg : M 3 15 = g) : ∀ nn : Nat, (∀ (M : nM), Sf 3 ac M M → (M 3 15 = g) → 1 < (nn : Int) → nW xs e 42 52 [none, none] [] M (nPV fun M1 => Sf 3 ac M1 M1 ∧ (M1 3 15 = g))) := by
  have hd : (3 : Int) = 2 ∨ (3 : Int) = 3 := by decide
  have hac := hS.2.2.2.2
  intro nn
  induction nn with
  | zero => intros; omega
  | succ nn ih =>
    intro M hS hgg hnn
    exact n_rV c_42_52 rfl ⟨hS, by omega⟩
set_option maxHeartbeats 4000000 in
theorem addWideM_3 {xs : List Int32} {e : Nat} {ac : Int} {M : nM} {q r g : Int} (hS : Sf 3 ac M M) (hq : LawAt q) (hr : 0 ≤ r ∧ r ≤ 26) (hg : M 3 15 = g) : nW xs e 42 0 [some (2, q), some (0, r)] [] M (nPV fun M1 => Sf 3 ac M1 M1 ∧ (M1 3 15 = g)) := by
  have hd : (3 : Int) = 2 ∨ (3 : Int) = 3 := by decide
  have hac := hS.2.2.2.2
  refine n_aload_n c_42_0 rfl (n_getV (bi := 3) c_42_1 hq.c0.1.n rfl rfl rfl (t_law hS hq).2.2.2 ?_)
  intro z1 ez1 f2
  refine n_bipush c_42_4 rfl ?_
  refine n_if2_ge c_42_6 (by omega) (by omega) ?_ ?_
  · intro h3
    refine n_fg (le_n (le_n le_0)) ?_
    exact (addWideM_3_c hS hq hr hg 12)  M hS (by omega) (by omega)
  · intro h4
    refine n_aload_n c_42_9 rfl (n_getV (bi := 2) c_42_10 hq.c0.1.n rfl rfl rfl (t_law hS hq).2.2.1 ?_)
    intro z5 ez5 f6
    refine n_iload_n c_42_13 rfl (n_i_ishr c_42_14 rfl ?_)
    have f7 := n_shr_r z5 r
    generalize (n_shr z5 r) = z8 at f7 ⊢
    refine n_iconst c_42_15 (n_i_iand c_42_16 rfl ?_)
    have f9 := n_and_y (x := z8) (y := 1) (by omega)
    generalize (n_and z8 1) = z10 at f9 ⊢
    refine n_if0_ne c_42_17 (by omega) ?_ ?_
    · intro h11
      refine n_fg (le_n (le_n le_0)) ?_
      exact (addWideM_3_c hS hq hr hg 12)  M hS (by omega) (by omega)
    · intro h12
      refine n_aload_n c_42_20 rfl (n_getR c_42_21 hq.c0.1.n rfl rfl rfl hq.r (n_aload_n c_42_24 rfl (n_getV (bi := 3) c_42_25 hq.c0.1.n rfl rfl rfl (t_law hS hq).2.2.2 ?_)))
      intro z13 ez13 f14
      refine n_iload_n c_42_28 rfl (n_iastoreM hS c_42_29 hq.c0.2.n rfl (by omega) (m_lawr hq (by omega) (by omega)) ?_)
      intro M15 eM15 hS15
      have g15_0 : M15 3 15 = M 3 15 := by rw [eM15]; exact nu_a (by unfold LawAt at *; omega)
      have g15_1 : M15 q 3 = M q 3 := by rw [eM15]; exact nu_a (by omega)
      refine n_aload_n c_42_30 rfl (n_dup2 c_42_31 (n_getV (bi := 3) c_42_32 hq.c0.1.n rfl rfl rfl (t_law hS15 hq).2.2.2 ?_))
      intro z16 ez16 f17
      refine n_iconst c_42_35 (n_iadd c_42_36 rfl (n_putM (bi := 3) hS15 c_42_37 hq.c0.1.n rfl rfl rfl rfl (m_law hq (by omega) (by omega)) ?_))
      intro M18 eM18 hS18
      have g18_0 : M18 3 15 = M15 3 15 := by rw [eM18]; exact nu_a (by unfold LawAt at *; omega)
      have g18_1 : M18 q 3 = (z16 + 1) := by rw [eM18]; exact nu_s _ _ _ _
      refine n_aload_n c_42_40 rfl (n_dup2 c_42_41 (n_getV (bi := 2) c_42_42 hq.c0.1.n rfl rfl rfl (t_law hS18 hq).2.2.1 ?_))
      intro z19 ez19 f20
      refine n_iconst c_42_45 (n_iload_n c_42_46 rfl (n_i_ishl c_42_47 rfl ?_))
      have f21 := n_shl_1 (y := r) (a := 0) (b := 26) (by decide) (by omega)
      generalize (n_shl 1 r) = z22 at f21 ⊢
      refine n_i_ior c_42_48 rfl ?_
      have f23 := n_or_r z19 z22
      generalize (n_or z19 z22) = z24 at f23 ⊢
      refine n_putM (bi := 2) hS18 c_42_49 hq.c0.1.n rfl rfl rfl rfl (m_law hq (by omega) (by omega)) ?_
      intro M25 eM25 hS25
      have g25_0 : M25 3 15 = M18 3 15 := by rw [eM25]; exact nu_a (by unfold LawAt at *; omega)
      have g25_1 : M25 q 3 = M18 q 3 := by rw [eM25]; exact nu_i (by omega)
      have g25_2 : M25 q 2 = z24 := by rw [eM25]; exact nu_s _ _ _ _
      refine n_fg (le_n (le_n le_0)) ?_
      exact (addWideM_3_c hS hq hr hg 12)  M25 hS25 (by omega) (by omega)

set_option maxHeartbeats 4000000 in
theorem takeM1_3_c {xs : List Int32} {e : Nat} {ac : Int} {M : nM} {q s g : Int} (hS : Sf 3 ac M M) (hq : LawAt q) (hs : -2147483648 ≤ s ∧ s ≤ 2147483647) (hg : M 3 15 = g) : ∀ nn : Nat, (∀ (x4 x5 : Int) (M : nM), Sf 3 ac M M → (3 ≤ x4 ∧ x4 ≤ 3) → (0 ≤ x5 ∧ x5 ≤ 3) → (M 3 15 = g) → (3 - x5) * 2 + 2 < (nn : Int) → nW xs (e + 1) 36 30 [some (2, q), some (0, 1), some (0, s), some (2, 4), some (0, x4), some (0, x5)] [] M (nPV fun M1 => Sf 3 ac M1 M1 ∧ (M1 3 15 = g))) ∧ (∀ (x4 x5 : Int) (M : nM), Sf 3 ac M M → (3 ≤ x4 ∧ x4 ≤ 3) → (0 ≤ x5 ∧ x5 ≤ 2) → (M 3 15 = g) → (3 - x5) * 2 + 1 < (nn : Int) → nW xs (e + 1) 36 57 [some (2, q), some (0, 1), some (0, s), some (2, 4), some (0, x4), some (0, x5)] [] M (nPV fun M1 => Sf 3 ac M1 M1 ∧ (M1 3 15 = g))) := by
  have hd : (3 : Int) = 2 ∨ (3 : Int) = 3 := by decide
  have hac := hS.2.2.2.2
  intro nn
  induction nn with
  | zero => refine ⟨?_, ?_⟩ <;> (intros; omega)
  | succ nn ih =>
    refine ⟨?_, ?_⟩
    · intro x4 x5 M hS k4 k5 hgg hnn
      refine n_iload c_36_30 rfl (n_iload c_36_32 rfl ?_)
      refine n_if2_ge c_36_34 (by omega) (by omega) ?_ ?_
      · intro h1
        exact n_rV c_36_63 rfl ⟨hS, by omega⟩
      · intro h2
        refine n_iload_n c_36_37 rfl (n_iload c_36_38 rfl (n_i_ishr c_36_40 rfl ?_))
        have f3 := n_shr_r s x5
        generalize (n_shr s x5) = z4 at f3 ⊢
        refine n_iconst c_36_41 (n_i_iand c_36_42 rfl ?_)
        have f5 := n_and_y (x := z4) (y := 1) (by omega)
        generalize (n_and z4 1) = z6 at f5 ⊢
        refine n_if0_eq c_36_43 (by omega) ?_ ?_
        · intro h7
          refine n_fg (le_s (le_s (le_s (le_s (le_s (le_s le_0)))))) ?_
          exact ih.2 _ _ M hS (by omega) (by omega) (by omega) (by omega)
        · intro h8
          refine n_aload_n c_36_46 rfl (n_aload_n c_36_47 rfl (n_iload c_36_48 rfl (n_iload_n c_36_50 rfl (n_v2I c_36_51 rfl sc_4.n rfl rfl rfl rfl (widen1_3 (n := x5) hS (by omega)) ?_))))
          intro z9 M10 hP11
          obtain ⟨eM, f11⟩ := hP11
          subst eM
          refine n_v1V c_36_54 rfl hq.c0.1.n rfl rfl rfl rfl (addWideM_3 (q := q) (r := z9) (g := (M 3 15)) hS hq (by omega) rfl) ?_
          intro  M12 hP13
          obtain ⟨hS12, f13g0⟩ := hP13
          refine n_fg (le_s (le_s (le_s (le_s (le_s (le_s le_0)))))) ?_
          exact ih.2 _ _ M12 hS12 (by omega) (by omega) (by omega) (by omega)
    · intro x4 x5 M hS k4 k5 hgg hnn
      refine n_iinc (L2 := [some (2, q), some (0, 1), some (0, s), some (2, 4), some (0, x4), some (0, (x5 + 1))]) c_36_57 rfl rfl rfl (n_goto c_36_60 (n_fg (le_s (le_s (le_s (le_s (le_s (le_s le_0)))))) ?_))
      exact ih.1 _ _ M hS (by omega) (by omega) (by omega) (by omega)
set_option maxHeartbeats 4000000 in
theorem takeM1_3 {xs : List Int32} {e : Nat} {ac : Int} {M : nM} {q s g : Int} (hS : Sf 3 ac M M) (hq : LawAt q) (hs : -2147483648 ≤ s ∧ s ≤ 2147483647) (hg : M 3 15 = g) : nW xs (e + 1) 36 0 [some (2, q), some (0, 1), some (0, s), some (2, 4), none, none] [] M (nPV fun M1 => Sf 3 ac M1 M1 ∧ (M1 3 15 = g)) := by
  have hd : (3 : Int) = 2 ∨ (3 : Int) = 3 := by decide
  have hac := hS.2.2.2.2
  refine n_aload_n c_36_0 rfl (n_iload_n c_36_1 rfl (n_putM (bi := 0) hS c_36_2 hq.c0.1.n rfl rfl rfl rfl (m_law hq (by omega) (by omega)) ?_))
  intro M1 eM1 hS1
  have g1_0 : M1 3 15 = M 3 15 := by rw [eM1]; exact nu_a (by unfold LawAt at *; omega)
  have g1_1 : M1 q 0 = 1 := by rw [eM1]; exact nu_s _ _ _ _
  refine n_aload_n c_36_5 rfl (n_iload_n c_36_6 rfl (n_putM (bi := 1) hS1 c_36_7 hq.c0.1.n rfl rfl rfl rfl (m_law hq (by omega) (by omega)) ?_))
  intro M2 eM2 hS2
  have g2_0 : M2 3 15 = M1 3 15 := by rw [eM2]; exact nu_a (by unfold LawAt at *; omega)
  have g2_1 : M2 q 0 = M1 q 0 := by rw [eM2]; exact nu_i (by omega)
  have g2_2 : M2 q 1 = s := by rw [eM2]; exact nu_s _ _ _ _
  refine n_aload_n c_36_10 rfl (n_iconst c_36_11 (n_putM (bi := 2) hS2 c_36_12 hq.c0.1.n rfl rfl rfl rfl (m_law hq (by omega) (by omega)) ?_))
  intro M3 eM3 hS3
  have g3_0 : M3 3 15 = M2 3 15 := by rw [eM3]; exact nu_a (by unfold LawAt at *; omega)
  have g3_1 : M3 q 0 = M2 q 0 := by rw [eM3]; exact nu_i (by omega)
  have g3_2 : M3 q 1 = M2 q 1 := by rw [eM3]; exact nu_i (by omega)
  have g3_3 : M3 q 2 = 0 := by rw [eM3]; exact nu_s _ _ _ _
  refine n_aload_n c_36_15 rfl (n_iconst c_36_16 (n_putM (bi := 3) hS3 c_36_17 hq.c0.1.n rfl rfl rfl rfl (m_law hq (by omega) (by omega)) ?_))
  intro M4 eM4 hS4
  have g4_0 : M4 3 15 = M3 3 15 := by rw [eM4]; exact nu_a (by unfold LawAt at *; omega)
  have g4_1 : M4 q 0 = M3 q 0 := by rw [eM4]; exact nu_i (by omega)
  have g4_2 : M4 q 1 = M3 q 1 := by rw [eM4]; exact nu_i (by omega)
  have g4_3 : M4 q 2 = M3 q 2 := by rw [eM4]; exact nu_i (by omega)
  have g4_4 : M4 q 3 = 0 := by rw [eM4]; exact nu_s _ _ _ _
  refine n_aload_n c_36_20 rfl (n_iload_n c_36_21 rfl (n_v1I c_36_22 rfl sc_4.n rfl rfl rfl rfl (power1_3  hS4 ) ?_))
  intro z5 M6 hP7
  obtain ⟨eM, f7⟩ := hP7
  subst eM
  obtain rfl : z5 = 3 := by omega
  refine n_istore (L2 := [some (2, q), some (0, 1), some (0, s), some (2, 4), some (0, 3), none]) c_36_25 rfl rfl (n_iconst c_36_27 (n_istore (L2 := [some (2, q), some (0, 1), some (0, s), some (2, 4), some (0, 3), some (0, 0)]) c_36_28 rfl rfl (n_fg (le_s (le_s (le_s (le_s (le_s (le_s le_0)))))) ?_)))
  exact (takeM1_3_c hS hq hs hg 30).1 _ _ M4 hS4 (by omega) (by omega) (by omega) (by omega)

set_option maxHeartbeats 4000000 in
theorem takeM2_3_c {xs : List Int32} {e : Nat} {ac : Int} {M : nM} {q s g : Int} (hS : Sf 3 ac M M) (hq : LawAt q) (hs : -2147483648 ≤ s ∧ s ≤ 2147483647) (hg : M 3 15 = g) : ∀ nn : Nat, (∀ (x4 x5 : Int) (M : nM), Sf 3 ac M M → (9 ≤ x4 ∧ x4 ≤ 9) → (0 ≤ x5 ∧ x5 ≤ 9) → (M 3 15 = g) → (9 - x5) * 2 + 2 < (nn : Int) → nW xs (e + 1) 36 30 [some (2, q), some (0, 2), some (0, s), some (2, 4), some (0, x4), some (0, x5)] [] M (nPV fun M1 => Sf 3 ac M1 M1 ∧ (M1 3 15 = g))) ∧ (∀ (x4 x5 : Int) (M : nM), Sf 3 ac M M → (9 ≤ x4 ∧ x4 ≤ 9) → (0 ≤ x5 ∧ x5 ≤ 8) → (M 3 15 = g) → (9 - x5) * 2 + 1 < (nn : Int) → nW xs (e + 1) 36 57 [some (2, q), some (0, 2), some (0, s), some (2, 4), some (0, x4), some (0, x5)] [] M (nPV fun M1 => Sf 3 ac M1 M1 ∧ (M1 3 15 = g))) := by
  have hd : (3 : Int) = 2 ∨ (3 : Int) = 3 := by decide
  have hac := hS.2.2.2.2
  intro nn
  induction nn with
  | zero => refine ⟨?_, ?_⟩ <;> (intros; omega)
  | succ nn ih =>
    refine ⟨?_, ?_⟩
    · intro x4 x5 M hS k4 k5 hgg hnn
      refine n_iload c_36_30 rfl (n_iload c_36_32 rfl ?_)
      refine n_if2_ge c_36_34 (by omega) (by omega) ?_ ?_
      · intro h1
        exact n_rV c_36_63 rfl ⟨hS, by omega⟩
      · intro h2
        refine n_iload_n c_36_37 rfl (n_iload c_36_38 rfl (n_i_ishr c_36_40 rfl ?_))
        have f3 := n_shr_r s x5
        generalize (n_shr s x5) = z4 at f3 ⊢
        refine n_iconst c_36_41 (n_i_iand c_36_42 rfl ?_)
        have f5 := n_and_y (x := z4) (y := 1) (by omega)
        generalize (n_and z4 1) = z6 at f5 ⊢
        refine n_if0_eq c_36_43 (by omega) ?_ ?_
        · intro h7
          refine n_fg (le_s (le_s (le_s (le_s (le_s (le_s le_0)))))) ?_
          exact ih.2 _ _ M hS (by omega) (by omega) (by omega) (by omega)
        · intro h8
          refine n_aload_n c_36_46 rfl (n_aload_n c_36_47 rfl (n_iload c_36_48 rfl (n_iload_n c_36_50 rfl (n_v2I c_36_51 rfl sc_4.n rfl rfl rfl rfl (widen2_3 (n := x5) hS (by omega)) ?_))))
          intro z9 M10 hP11
          obtain ⟨eM, f11⟩ := hP11
          subst eM
          refine n_v1V c_36_54 rfl hq.c0.1.n rfl rfl rfl rfl (addWideM_3 (q := q) (r := z9) (g := (M 3 15)) hS hq (by omega) rfl) ?_
          intro  M12 hP13
          obtain ⟨hS12, f13g0⟩ := hP13
          refine n_fg (le_s (le_s (le_s (le_s (le_s (le_s le_0)))))) ?_
          exact ih.2 _ _ M12 hS12 (by omega) (by omega) (by omega) (by omega)
    · intro x4 x5 M hS k4 k5 hgg hnn
      refine n_iinc (L2 := [some (2, q), some (0, 2), some (0, s), some (2, 4), some (0, x4), some (0, (x5 + 1))]) c_36_57 rfl rfl rfl (n_goto c_36_60 (n_fg (le_s (le_s (le_s (le_s (le_s (le_s le_0)))))) ?_))
      exact ih.1 _ _ M hS (by omega) (by omega) (by omega) (by omega)
set_option maxHeartbeats 4000000 in
theorem takeM2_3 {xs : List Int32} {e : Nat} {ac : Int} {M : nM} {q s g : Int} (hS : Sf 3 ac M M) (hq : LawAt q) (hs : -2147483648 ≤ s ∧ s ≤ 2147483647) (hg : M 3 15 = g) : nW xs (e + 1) 36 0 [some (2, q), some (0, 2), some (0, s), some (2, 4), none, none] [] M (nPV fun M1 => Sf 3 ac M1 M1 ∧ (M1 3 15 = g)) := by
  have hd : (3 : Int) = 2 ∨ (3 : Int) = 3 := by decide
  have hac := hS.2.2.2.2
  refine n_aload_n c_36_0 rfl (n_iload_n c_36_1 rfl (n_putM (bi := 0) hS c_36_2 hq.c0.1.n rfl rfl rfl rfl (m_law hq (by omega) (by omega)) ?_))
  intro M1 eM1 hS1
  have g1_0 : M1 3 15 = M 3 15 := by rw [eM1]; exact nu_a (by unfold LawAt at *; omega)
  have g1_1 : M1 q 0 = 2 := by rw [eM1]; exact nu_s _ _ _ _
  refine n_aload_n c_36_5 rfl (n_iload_n c_36_6 rfl (n_putM (bi := 1) hS1 c_36_7 hq.c0.1.n rfl rfl rfl rfl (m_law hq (by omega) (by omega)) ?_))
  intro M2 eM2 hS2
  have g2_0 : M2 3 15 = M1 3 15 := by rw [eM2]; exact nu_a (by unfold LawAt at *; omega)
  have g2_1 : M2 q 0 = M1 q 0 := by rw [eM2]; exact nu_i (by omega)
  have g2_2 : M2 q 1 = s := by rw [eM2]; exact nu_s _ _ _ _
  refine n_aload_n c_36_10 rfl (n_iconst c_36_11 (n_putM (bi := 2) hS2 c_36_12 hq.c0.1.n rfl rfl rfl rfl (m_law hq (by omega) (by omega)) ?_))
  intro M3 eM3 hS3
  have g3_0 : M3 3 15 = M2 3 15 := by rw [eM3]; exact nu_a (by unfold LawAt at *; omega)
  have g3_1 : M3 q 0 = M2 q 0 := by rw [eM3]; exact nu_i (by omega)
  have g3_2 : M3 q 1 = M2 q 1 := by rw [eM3]; exact nu_i (by omega)
  have g3_3 : M3 q 2 = 0 := by rw [eM3]; exact nu_s _ _ _ _
  refine n_aload_n c_36_15 rfl (n_iconst c_36_16 (n_putM (bi := 3) hS3 c_36_17 hq.c0.1.n rfl rfl rfl rfl (m_law hq (by omega) (by omega)) ?_))
  intro M4 eM4 hS4
  have g4_0 : M4 3 15 = M3 3 15 := by rw [eM4]; exact nu_a (by unfold LawAt at *; omega)
  have g4_1 : M4 q 0 = M3 q 0 := by rw [eM4]; exact nu_i (by omega)
  have g4_2 : M4 q 1 = M3 q 1 := by rw [eM4]; exact nu_i (by omega)
  have g4_3 : M4 q 2 = M3 q 2 := by rw [eM4]; exact nu_i (by omega)
  have g4_4 : M4 q 3 = 0 := by rw [eM4]; exact nu_s _ _ _ _
  refine n_aload_n c_36_20 rfl (n_iload_n c_36_21 rfl (n_v1I c_36_22 rfl sc_4.n rfl rfl rfl rfl (power2_3  hS4 ) ?_))
  intro z5 M6 hP7
  obtain ⟨eM, f7⟩ := hP7
  subst eM
  obtain rfl : z5 = 9 := by omega
  refine n_istore (L2 := [some (2, q), some (0, 2), some (0, s), some (2, 4), some (0, 9), none]) c_36_25 rfl rfl (n_iconst c_36_27 (n_istore (L2 := [some (2, q), some (0, 2), some (0, s), some (2, 4), some (0, 9), some (0, 0)]) c_36_28 rfl rfl (n_fg (le_s (le_s (le_s (le_s (le_s (le_s le_0)))))) ?_)))
  exact (takeM2_3_c hS hq hs hg 54).1 _ _ M4 hS4 (by omega) (by omega) (by omega) (by omega)

set_option maxHeartbeats 4000000 in
theorem takeM3_3_c {xs : List Int32} {e : Nat} {ac : Int} {M : nM} {q s g : Int} (hS : Sf 3 ac M M) (hq : LawAt q) (hs : -2147483648 ≤ s ∧ s ≤ 2147483647) (hg : M 3 15 = g) : ∀ nn : Nat, (∀ (x4 x5 : Int) (M : nM), Sf 3 ac M M → (27 ≤ x4 ∧ x4 ≤ 27) → (0 ≤ x5 ∧ x5 ≤ 27) → (M 3 15 = g) → (27 - x5) * 2 + 2 < (nn : Int) → nW xs (e + 1) 36 30 [some (2, q), some (0, 3), some (0, s), some (2, 4), some (0, x4), some (0, x5)] [] M (nPV fun M1 => Sf 3 ac M1 M1 ∧ (M1 3 15 = g))) ∧ (∀ (x4 x5 : Int) (M : nM), Sf 3 ac M M → (27 ≤ x4 ∧ x4 ≤ 27) → (0 ≤ x5 ∧ x5 ≤ 26) → (M 3 15 = g) → (27 - x5) * 2 + 1 < (nn : Int) → nW xs (e + 1) 36 57 [some (2, q), some (0, 3), some (0, s), some (2, 4), some (0, x4), some (0, x5)] [] M (nPV fun M1 => Sf 3 ac M1 M1 ∧ (M1 3 15 = g))) := by
  have hd : (3 : Int) = 2 ∨ (3 : Int) = 3 := by decide
  have hac := hS.2.2.2.2
  intro nn
  induction nn with
  | zero => refine ⟨?_, ?_⟩ <;> (intros; omega)
  | succ nn ih =>
    refine ⟨?_, ?_⟩
    · intro x4 x5 M hS k4 k5 hgg hnn
      refine n_iload c_36_30 rfl (n_iload c_36_32 rfl ?_)
      refine n_if2_ge c_36_34 (by omega) (by omega) ?_ ?_
      · intro h1
        exact n_rV c_36_63 rfl ⟨hS, by omega⟩
      · intro h2
        refine n_iload_n c_36_37 rfl (n_iload c_36_38 rfl (n_i_ishr c_36_40 rfl ?_))
        have f3 := n_shr_r s x5
        generalize (n_shr s x5) = z4 at f3 ⊢
        refine n_iconst c_36_41 (n_i_iand c_36_42 rfl ?_)
        have f5 := n_and_y (x := z4) (y := 1) (by omega)
        generalize (n_and z4 1) = z6 at f5 ⊢
        refine n_if0_eq c_36_43 (by omega) ?_ ?_
        · intro h7
          refine n_fg (le_s (le_s (le_s (le_s (le_s (le_s le_0)))))) ?_
          exact ih.2 _ _ M hS (by omega) (by omega) (by omega) (by omega)
        · intro h8
          refine n_aload_n c_36_46 rfl (n_aload_n c_36_47 rfl (n_iload c_36_48 rfl (n_iload_n c_36_50 rfl (n_v2I c_36_51 rfl sc_4.n rfl rfl rfl rfl (widen3_3 (n := x5) hS (by omega)) ?_))))
          intro z9 M10 hP11
          obtain ⟨eM, f11⟩ := hP11
          subst eM
          refine n_v1V c_36_54 rfl hq.c0.1.n rfl rfl rfl rfl (addWideM_3 (q := q) (r := z9) (g := (M 3 15)) hS hq (by omega) rfl) ?_
          intro  M12 hP13
          obtain ⟨hS12, f13g0⟩ := hP13
          refine n_fg (le_s (le_s (le_s (le_s (le_s (le_s le_0)))))) ?_
          exact ih.2 _ _ M12 hS12 (by omega) (by omega) (by omega) (by omega)
    · intro x4 x5 M hS k4 k5 hgg hnn
      refine n_iinc (L2 := [some (2, q), some (0, 3), some (0, s), some (2, 4), some (0, x4), some (0, (x5 + 1))]) c_36_57 rfl rfl rfl (n_goto c_36_60 (n_fg (le_s (le_s (le_s (le_s (le_s (le_s le_0)))))) ?_))
      exact ih.1 _ _ M hS (by omega) (by omega) (by omega) (by omega)
set_option maxHeartbeats 4000000 in
theorem takeM3_3 {xs : List Int32} {e : Nat} {ac : Int} {M : nM} {q s g : Int} (hS : Sf 3 ac M M) (hq : LawAt q) (hs : -2147483648 ≤ s ∧ s ≤ 2147483647) (hg : M 3 15 = g) : nW xs (e + 1) 36 0 [some (2, q), some (0, 3), some (0, s), some (2, 4), none, none] [] M (nPV fun M1 => Sf 3 ac M1 M1 ∧ (M1 3 15 = g)) := by
  have hd : (3 : Int) = 2 ∨ (3 : Int) = 3 := by decide
  have hac := hS.2.2.2.2
  refine n_aload_n c_36_0 rfl (n_iload_n c_36_1 rfl (n_putM (bi := 0) hS c_36_2 hq.c0.1.n rfl rfl rfl rfl (m_law hq (by omega) (by omega)) ?_))
  intro M1 eM1 hS1
  have g1_0 : M1 3 15 = M 3 15 := by rw [eM1]; exact nu_a (by unfold LawAt at *; omega)
  have g1_1 : M1 q 0 = 3 := by rw [eM1]; exact nu_s _ _ _ _
  refine n_aload_n c_36_5 rfl (n_iload_n c_36_6 rfl (n_putM (bi := 1) hS1 c_36_7 hq.c0.1.n rfl rfl rfl rfl (m_law hq (by omega) (by omega)) ?_))
  intro M2 eM2 hS2
  have g2_0 : M2 3 15 = M1 3 15 := by rw [eM2]; exact nu_a (by unfold LawAt at *; omega)
  have g2_1 : M2 q 0 = M1 q 0 := by rw [eM2]; exact nu_i (by omega)
  have g2_2 : M2 q 1 = s := by rw [eM2]; exact nu_s _ _ _ _
  refine n_aload_n c_36_10 rfl (n_iconst c_36_11 (n_putM (bi := 2) hS2 c_36_12 hq.c0.1.n rfl rfl rfl rfl (m_law hq (by omega) (by omega)) ?_))
  intro M3 eM3 hS3
  have g3_0 : M3 3 15 = M2 3 15 := by rw [eM3]; exact nu_a (by unfold LawAt at *; omega)
  have g3_1 : M3 q 0 = M2 q 0 := by rw [eM3]; exact nu_i (by omega)
  have g3_2 : M3 q 1 = M2 q 1 := by rw [eM3]; exact nu_i (by omega)
  have g3_3 : M3 q 2 = 0 := by rw [eM3]; exact nu_s _ _ _ _
  refine n_aload_n c_36_15 rfl (n_iconst c_36_16 (n_putM (bi := 3) hS3 c_36_17 hq.c0.1.n rfl rfl rfl rfl (m_law hq (by omega) (by omega)) ?_))
  intro M4 eM4 hS4
  have g4_0 : M4 3 15 = M3 3 15 := by rw [eM4]; exact nu_a (by unfold LawAt at *; omega)
  have g4_1 : M4 q 0 = M3 q 0 := by rw [eM4]; exact nu_i (by omega)
  have g4_2 : M4 q 1 = M3 q 1 := by rw [eM4]; exact nu_i (by omega)
  have g4_3 : M4 q 2 = M3 q 2 := by rw [eM4]; exact nu_i (by omega)
  have g4_4 : M4 q 3 = 0 := by rw [eM4]; exact nu_s _ _ _ _
  refine n_aload_n c_36_20 rfl (n_iload_n c_36_21 rfl (n_v1I c_36_22 rfl sc_4.n rfl rfl rfl rfl (power3_3  hS4 ) ?_))
  intro z5 M6 hP7
  obtain ⟨eM, f7⟩ := hP7
  subst eM
  obtain rfl : z5 = 27 := by omega
  refine n_istore (L2 := [some (2, q), some (0, 3), some (0, s), some (2, 4), some (0, 27), none]) c_36_25 rfl rfl (n_iconst c_36_27 (n_istore (L2 := [some (2, q), some (0, 3), some (0, s), some (2, 4), some (0, 27), some (0, 0)]) c_36_28 rfl rfl (n_fg (le_s (le_s (le_s (le_s (le_s (le_s le_0)))))) ?_)))
  exact (takeM3_3_c hS hq hs hg 126).1 _ _ M4 hS4 (by omega) (by omega) (by omega) (by omega)

set_option maxHeartbeats 4000000 in
theorem takeM_3 {xs : List Int32} {e : Nat} {ac : Int} {M : nM} {q k s g : Int} (hS : Sf 3 ac M M) (hq : LawAt q) (hk : 1 ≤ k ∧ k ≤ 3) (hs : -2147483648 ≤ s ∧ s ≤ 2147483647) (hg : M 3 15 = g) : nW xs (e + 1) 36 0 [some (2, q), some (0, k), some (0, s), some (2, 4), none, none] [] M (nPV fun M1 => Sf 3 ac M1 M1 ∧ (M1 3 15 = g)) := by
  rcases (show k = 1 ∨ k = 2 ∨ k = 3 by omega) with rfl | rfl | rfl
  · exact n_post (takeM1_3 hS hq (by omega) hg) (fun w M1 h => h)
  · exact n_post (takeM2_3 hS hq (by omega) hg) (fun w M1 h => h)
  · exact n_post (takeM3_3 hS hq (by omega) hg) (fun w M1 h => h)

set_option maxHeartbeats 4000000 in
theorem law_3_c {xs : List Int32} {e : Nat} {ac : Int} {M : nM} {k s : Int} (hS : Sf 3 ac M M) (hk : -2147483648 ≤ k ∧ k ≤ 2147483647) (hs : -2147483648 ≤ s ∧ s ≤ 2147483647) : ∀ nn : Nat, (∀ (M : nM), Sf 3 ac M M → 1 < (nn : Int) → nW xs (e + 2) 98 19 [none, none, none, none] [] M (nPI fun z M1 => Sf 3 ac M1 M1 ∧ (-2147483648 ≤ z ∧ z ≤ 2147483647))) := by
  have hd : (3 : Int) = 2 ∨ (3 : Int) = 3 := by decide
  have hac := hS.2.2.2.2
  intro nn
  induction nn with
  | zero => intros; omega
  | succ nn ih =>
    intro M hS hnn
    refine n_bipush c_98_19 rfl ?_
    exact n_rI c_98_21 rfl ⟨hS, by omega⟩
set_option maxHeartbeats 4000000 in
theorem law_3 {xs : List Int32} {e : Nat} {ac : Int} {M : nM} {k s : Int} (hS : Sf 3 ac M M) (hk : -2147483648 ≤ k ∧ k ≤ 2147483647) (hs : -2147483648 ≤ s ∧ s ≤ 2147483647) : nW xs (e + 2) 98 0 [some (2, 3), some (0, k), some (0, s), none] [] M (nPI fun z M1 => Sf 3 ac M1 M1 ∧ (-2147483648 ≤ z ∧ z ≤ 2147483647)) := by
  have hd : (3 : Int) = 2 ∨ (3 : Int) = 3 := by decide
  have hac := hS.2.2.2.2
  refine n_aload_n c_98_0 rfl (n_getR c_98_1 sc_3.n rfl rfl rfl r_3_1 (n_iload_n c_98_4 rfl (n_v1I c_98_5 rfl sc_8.n rfl rfl rfl rfl (isSlot_3 (s := s) hS (by omega)) ?_)))
  intro z1 M2 hP3
  obtain ⟨eM, f3, f3p0⟩ := hP3
  subst eM
  refine n_if0_eq c_98_8 (by omega) ?_ ?_
  · intro h4
    refine n_fg (le_n (le_n (le_n (le_n le_0)))) ?_
    exact (law_3_c hS hk hs 12)  M hS  (by omega)
  · intro h5
    refine n_aload_n c_98_11 rfl (n_iload_n c_98_12 rfl (n_v1I c_98_13 rfl sc_3.n rfl rfl rfl rfl (isPlaceCount_3 (k := k) hS (by omega)) ?_))
    intro z6 M7 hP8
    obtain ⟨eM, f8, f8p0⟩ := hP8
    subst eM
    refine n_if0_ne c_98_16 (by omega) ?_ ?_
    · intro h9
      refine n_aload_n c_98_22 rfl (n_getV (bi := 15) c_98_23 sc_3.n rfl rfl rfl (t_3_15 hS) ?_)
      intro z10 ez10 f11
      refine n_bipush c_98_26 rfl ?_
      refine n_if2_lt c_98_28 (by omega) (by omega) ?_ ?_
      · intro h12
        refine n_aload_n c_98_34 rfl (n_getR c_98_35 sc_3.n rfl rfl rfl r_3_1 (n_iload_n c_98_38 rfl (n_v1I c_98_39 rfl sc_8.n rfl rfl rfl rfl (hasRow_3 (s := s) hS (by omega)) ?_)))
        intro z13 M14 hP15
        obtain ⟨eM, f15, f15p0⟩ := hP15
        subst eM
        refine n_if0_ne c_98_42 (by omega) ?_ ?_
        · intro h16
          refine n_aload_n c_98_48 rfl (n_iload_n c_98_49 rfl (n_iload_n c_98_50 rfl (n_v2I c_98_51 rfl sc_3.n rfl rfl rfl rfl (readLaw_3 (k := k) (s := s) hS (by omega) (by omega)) ?_)))
          intro z17 M18 hP19
          obtain ⟨eM, f19⟩ := hP19
          subst eM
          refine n_istore_n (L2 := [some (2, 3), some (0, k), some (0, s), some (0, z17)]) c_98_54 rfl rfl (n_iload_n c_98_55 rfl ?_)
          refine n_if0_ge c_98_56 (by omega) ?_ ?_
          · intro h20
            refine n_aload_n c_98_61 rfl (n_getR c_98_62 sc_3.n rfl rfl rfl r_3_3 (n_aload_n c_98_65 rfl (n_getV (bi := 15) c_98_66 sc_3.n rfl rfl rfl (t_3_15 hS) ?_)))
            intro z21 ez21 f22
            refine n_aaload c_98_69 sc_13.n rfl rfl rfl (by omega) (r_laws _) ?_
            have q23 : LawAt (79 + 2 * z21) := by unfold LawAt; omega
            refine n_iload_n c_98_70 rfl (n_iload_n c_98_71 rfl (n_aload_n c_98_72 rfl (n_getR c_98_73 sc_3.n rfl rfl rfl r_3_0 (n_v3V c_98_76 rfl q23.c0.1.n rfl rfl rfl rfl (takeM_3 (q := (79 + 2 * z21)) (k := k) (s := z17) (g := (M 3 15)) hS q23 (by omega) (by omega) rfl) ?_))))
            intro  M24 hP25
            obtain ⟨hS24, f25g0⟩ := hP25
            refine n_aload_n c_98_79 rfl (n_dup2 c_98_80 (n_getV (bi := 15) c_98_81 sc_3.n rfl rfl rfl (t_3_15 hS24) ?_))
            intro z26 ez26 f27
            refine n_dup_x102 c_98_84 (n_iconst c_98_85 (n_iadd c_98_86 rfl (n_putM (bi := 15) hS24 c_98_87 sc_3.n rfl rfl rfl rfl (m_3_15 (by omega)) ?_)))
            intro M28 eM28 hS28
            have g28_0 : M28 3 15 = (z26 + 1) := by rw [eM28]; exact nu_s _ _ _ _
            exact n_rI c_98_90 rfl ⟨hS28, by omega⟩
          · intro h29
            refine n_iload_n c_98_59 rfl ?_
            exact n_rI c_98_60 rfl ⟨hS, by omega⟩
        · intro h30
          refine n_bipush c_98_45 rfl ?_
          exact n_rI c_98_47 rfl ⟨hS, by omega⟩
      · intro h31
        refine n_bipush c_98_31 rfl ?_
        exact n_rI c_98_33 rfl ⟨hS, by omega⟩
    · intro h32
      refine n_fg (le_n (le_n (le_n (le_n le_0)))) ?_
      exact (law_3_c hS hk hs 12)  M hS  (by omega)

set_option maxHeartbeats 4000000 in
theorem mpower0_3 {xs : List Int32} {e : Nat} {ac : Int} {M0 M : nM} (hS : Sf 3 ac M0 M)  : nW xs e 140 0 [some (0, 3), some (0, 0), none, none] [] M (nPI fun z M1 => M = M1 ∧ (1 ≤ z ∧ z ≤ 1)) := by
  have hd : (3 : Int) = 2 ∨ (3 : Int) = 3 := by decide
  have hac := hS.2.2.2.2
  refine n_iconst c_140_0 (n_istore_n (L2 := [some (0, 3), some (0, 0), some (0, 1), none]) c_140_1 rfl rfl (n_iconst c_140_2 (n_istore_n (L2 := [some (0, 3), some (0, 0), some (0, 1), some (0, 0)]) c_140_3 rfl rfl (n_iload_n c_140_4 rfl (n_iload_n c_140_5 rfl ?_)))))
  refine n_if2_ge c_140_6 (by omega) (by omega) ?_ ?_
  · intro h1
    refine n_iload_n c_140_19 rfl ?_
    exact n_rI c_140_20 rfl ⟨rfl, by omega⟩
  · intro h2
    exfalso; omega

set_option maxHeartbeats 4000000 in
theorem mpower1_3 {xs : List Int32} {e : Nat} {ac : Int} {M0 M : nM} (hS : Sf 3 ac M0 M)  : nW xs e 140 0 [some (0, 3), some (0, 1), none, none] [] M (nPI fun z M1 => M = M1 ∧ (3 ≤ z ∧ z ≤ 3)) := by
  have hd : (3 : Int) = 2 ∨ (3 : Int) = 3 := by decide
  have hac := hS.2.2.2.2
  refine n_iconst c_140_0 (n_istore_n (L2 := [some (0, 3), some (0, 1), some (0, 1), none]) c_140_1 rfl rfl (n_iconst c_140_2 (n_istore_n (L2 := [some (0, 3), some (0, 1), some (0, 1), some (0, 0)]) c_140_3 rfl rfl (n_iload_n c_140_4 rfl (n_iload_n c_140_5 rfl ?_)))))
  refine n_if2_ge c_140_6 (by omega) (by omega) ?_ ?_
  · intro h1
    exfalso; omega
  · intro h2
    refine n_iload_n c_140_9 rfl (n_iload_n c_140_10 rfl (n_imul c_140_11 rfl (n_istore_n (L2 := [some (0, 3), some (0, 1), some (0, (1 * 3)), some (0, 0)]) c_140_12 rfl rfl (n_iinc (L2 := [some (0, 3), some (0, 1), some (0, (1 * 3)), some (0, (0 + 1))]) c_140_13 rfl rfl rfl (n_goto c_140_16 (n_iload_n c_140_4 rfl (n_iload_n c_140_5 rfl ?_)))))))
    refine n_if2_ge c_140_6 (by omega) (by omega) ?_ ?_
    · intro h3
      refine n_iload_n c_140_19 rfl ?_
      exact n_rI c_140_20 rfl ⟨rfl, by omega⟩
    · intro h4
      exfalso; omega

set_option maxHeartbeats 4000000 in
theorem mpower2_3 {xs : List Int32} {e : Nat} {ac : Int} {M0 M : nM} (hS : Sf 3 ac M0 M)  : nW xs e 140 0 [some (0, 3), some (0, 2), none, none] [] M (nPI fun z M1 => M = M1 ∧ (9 ≤ z ∧ z ≤ 9)) := by
  have hd : (3 : Int) = 2 ∨ (3 : Int) = 3 := by decide
  have hac := hS.2.2.2.2
  refine n_iconst c_140_0 (n_istore_n (L2 := [some (0, 3), some (0, 2), some (0, 1), none]) c_140_1 rfl rfl (n_iconst c_140_2 (n_istore_n (L2 := [some (0, 3), some (0, 2), some (0, 1), some (0, 0)]) c_140_3 rfl rfl (n_iload_n c_140_4 rfl (n_iload_n c_140_5 rfl ?_)))))
  refine n_if2_ge c_140_6 (by omega) (by omega) ?_ ?_
  · intro h1
    exfalso; omega
  · intro h2
    refine n_iload_n c_140_9 rfl (n_iload_n c_140_10 rfl (n_imul c_140_11 rfl (n_istore_n (L2 := [some (0, 3), some (0, 2), some (0, (1 * 3)), some (0, 0)]) c_140_12 rfl rfl (n_iinc (L2 := [some (0, 3), some (0, 2), some (0, (1 * 3)), some (0, (0 + 1))]) c_140_13 rfl rfl rfl (n_goto c_140_16 (n_iload_n c_140_4 rfl (n_iload_n c_140_5 rfl ?_)))))))
    refine n_if2_ge c_140_6 (by omega) (by omega) ?_ ?_
    · intro h3
      exfalso; omega
    · intro h4
      refine n_iload_n c_140_9 rfl (n_iload_n c_140_10 rfl (n_imul c_140_11 rfl (n_istore_n (L2 := [some (0, 3), some (0, 2), some (0, ((1 * 3) * 3)), some (0, (0 + 1))]) c_140_12 rfl rfl (n_iinc (L2 := [some (0, 3), some (0, 2), some (0, ((1 * 3) * 3)), some (0, ((0 + 1) + 1))]) c_140_13 rfl rfl rfl (n_goto c_140_16 (n_iload_n c_140_4 rfl (n_iload_n c_140_5 rfl ?_)))))))
      refine n_if2_ge c_140_6 (by omega) (by omega) ?_ ?_
      · intro h5
        refine n_iload_n c_140_19 rfl ?_
        exact n_rI c_140_20 rfl ⟨rfl, by omega⟩
      · intro h6
        exfalso; omega

set_option maxHeartbeats 4000000 in
theorem mpower3_3 {xs : List Int32} {e : Nat} {ac : Int} {M0 M : nM} (hS : Sf 3 ac M0 M)  : nW xs e 140 0 [some (0, 3), some (0, 3), none, none] [] M (nPI fun z M1 => M = M1 ∧ (27 ≤ z ∧ z ≤ 27)) := by
  have hd : (3 : Int) = 2 ∨ (3 : Int) = 3 := by decide
  have hac := hS.2.2.2.2
  refine n_iconst c_140_0 (n_istore_n (L2 := [some (0, 3), some (0, 3), some (0, 1), none]) c_140_1 rfl rfl (n_iconst c_140_2 (n_istore_n (L2 := [some (0, 3), some (0, 3), some (0, 1), some (0, 0)]) c_140_3 rfl rfl (n_iload_n c_140_4 rfl (n_iload_n c_140_5 rfl ?_)))))
  refine n_if2_ge c_140_6 (by omega) (by omega) ?_ ?_
  · intro h1
    exfalso; omega
  · intro h2
    refine n_iload_n c_140_9 rfl (n_iload_n c_140_10 rfl (n_imul c_140_11 rfl (n_istore_n (L2 := [some (0, 3), some (0, 3), some (0, (1 * 3)), some (0, 0)]) c_140_12 rfl rfl (n_iinc (L2 := [some (0, 3), some (0, 3), some (0, (1 * 3)), some (0, (0 + 1))]) c_140_13 rfl rfl rfl (n_goto c_140_16 (n_iload_n c_140_4 rfl (n_iload_n c_140_5 rfl ?_)))))))
    refine n_if2_ge c_140_6 (by omega) (by omega) ?_ ?_
    · intro h3
      exfalso; omega
    · intro h4
      refine n_iload_n c_140_9 rfl (n_iload_n c_140_10 rfl (n_imul c_140_11 rfl (n_istore_n (L2 := [some (0, 3), some (0, 3), some (0, ((1 * 3) * 3)), some (0, (0 + 1))]) c_140_12 rfl rfl (n_iinc (L2 := [some (0, 3), some (0, 3), some (0, ((1 * 3) * 3)), some (0, ((0 + 1) + 1))]) c_140_13 rfl rfl rfl (n_goto c_140_16 (n_iload_n c_140_4 rfl (n_iload_n c_140_5 rfl ?_)))))))
      refine n_if2_ge c_140_6 (by omega) (by omega) ?_ ?_
      · intro h5
        exfalso; omega
      · intro h6
        refine n_iload_n c_140_9 rfl (n_iload_n c_140_10 rfl (n_imul c_140_11 rfl (n_istore_n (L2 := [some (0, 3), some (0, 3), some (0, (((1 * 3) * 3) * 3)), some (0, ((0 + 1) + 1))]) c_140_12 rfl rfl (n_iinc (L2 := [some (0, 3), some (0, 3), some (0, (((1 * 3) * 3) * 3)), some (0, (((0 + 1) + 1) + 1))]) c_140_13 rfl rfl rfl (n_goto c_140_16 (n_iload_n c_140_4 rfl (n_iload_n c_140_5 rfl ?_)))))))
        refine n_if2_ge c_140_6 (by omega) (by omega) ?_ ?_
        · intro h7
          refine n_iload_n c_140_19 rfl ?_
          exact n_rI c_140_20 rfl ⟨rfl, by omega⟩
        · intro h8
          exfalso; omega

set_option maxHeartbeats 4000000 in
theorem mpower4_3 {xs : List Int32} {e : Nat} {ac : Int} {M0 M : nM} (hS : Sf 3 ac M0 M)  : nW xs e 140 0 [some (0, 3), some (0, 4), none, none] [] M (nPI fun z M1 => M = M1 ∧ (81 ≤ z ∧ z ≤ 81)) := by
  have hd : (3 : Int) = 2 ∨ (3 : Int) = 3 := by decide
  have hac := hS.2.2.2.2
  refine n_iconst c_140_0 (n_istore_n (L2 := [some (0, 3), some (0, 4), some (0, 1), none]) c_140_1 rfl rfl (n_iconst c_140_2 (n_istore_n (L2 := [some (0, 3), some (0, 4), some (0, 1), some (0, 0)]) c_140_3 rfl rfl (n_iload_n c_140_4 rfl (n_iload_n c_140_5 rfl ?_)))))
  refine n_if2_ge c_140_6 (by omega) (by omega) ?_ ?_
  · intro h1
    exfalso; omega
  · intro h2
    refine n_iload_n c_140_9 rfl (n_iload_n c_140_10 rfl (n_imul c_140_11 rfl (n_istore_n (L2 := [some (0, 3), some (0, 4), some (0, (1 * 3)), some (0, 0)]) c_140_12 rfl rfl (n_iinc (L2 := [some (0, 3), some (0, 4), some (0, (1 * 3)), some (0, (0 + 1))]) c_140_13 rfl rfl rfl (n_goto c_140_16 (n_iload_n c_140_4 rfl (n_iload_n c_140_5 rfl ?_)))))))
    refine n_if2_ge c_140_6 (by omega) (by omega) ?_ ?_
    · intro h3
      exfalso; omega
    · intro h4
      refine n_iload_n c_140_9 rfl (n_iload_n c_140_10 rfl (n_imul c_140_11 rfl (n_istore_n (L2 := [some (0, 3), some (0, 4), some (0, ((1 * 3) * 3)), some (0, (0 + 1))]) c_140_12 rfl rfl (n_iinc (L2 := [some (0, 3), some (0, 4), some (0, ((1 * 3) * 3)), some (0, ((0 + 1) + 1))]) c_140_13 rfl rfl rfl (n_goto c_140_16 (n_iload_n c_140_4 rfl (n_iload_n c_140_5 rfl ?_)))))))
      refine n_if2_ge c_140_6 (by omega) (by omega) ?_ ?_
      · intro h5
        exfalso; omega
      · intro h6
        refine n_iload_n c_140_9 rfl (n_iload_n c_140_10 rfl (n_imul c_140_11 rfl (n_istore_n (L2 := [some (0, 3), some (0, 4), some (0, (((1 * 3) * 3) * 3)), some (0, ((0 + 1) + 1))]) c_140_12 rfl rfl (n_iinc (L2 := [some (0, 3), some (0, 4), some (0, (((1 * 3) * 3) * 3)), some (0, (((0 + 1) + 1) + 1))]) c_140_13 rfl rfl rfl (n_goto c_140_16 (n_iload_n c_140_4 rfl (n_iload_n c_140_5 rfl ?_)))))))
        refine n_if2_ge c_140_6 (by omega) (by omega) ?_ ?_
        · intro h7
          exfalso; omega
        · intro h8
          refine n_iload_n c_140_9 rfl (n_iload_n c_140_10 rfl (n_imul c_140_11 rfl (n_istore_n (L2 := [some (0, 3), some (0, 4), some (0, ((((1 * 3) * 3) * 3) * 3)), some (0, (((0 + 1) + 1) + 1))]) c_140_12 rfl rfl (n_iinc (L2 := [some (0, 3), some (0, 4), some (0, ((((1 * 3) * 3) * 3) * 3)), some (0, ((((0 + 1) + 1) + 1) + 1))]) c_140_13 rfl rfl rfl (n_goto c_140_16 (n_iload_n c_140_4 rfl (n_iload_n c_140_5 rfl ?_)))))))
          refine n_if2_ge c_140_6 (by omega) (by omega) ?_ ?_
          · intro h9
            refine n_iload_n c_140_19 rfl ?_
            exact n_rI c_140_20 rfl ⟨rfl, by omega⟩
          · intro h10
            exfalso; omega

set_option maxHeartbeats 4000000 in
theorem mpower5_3 {xs : List Int32} {e : Nat} {ac : Int} {M0 M : nM} (hS : Sf 3 ac M0 M)  : nW xs e 140 0 [some (0, 3), some (0, 5), none, none] [] M (nPI fun z M1 => M = M1 ∧ (243 ≤ z ∧ z ≤ 243)) := by
  have hd : (3 : Int) = 2 ∨ (3 : Int) = 3 := by decide
  have hac := hS.2.2.2.2
  refine n_iconst c_140_0 (n_istore_n (L2 := [some (0, 3), some (0, 5), some (0, 1), none]) c_140_1 rfl rfl (n_iconst c_140_2 (n_istore_n (L2 := [some (0, 3), some (0, 5), some (0, 1), some (0, 0)]) c_140_3 rfl rfl (n_iload_n c_140_4 rfl (n_iload_n c_140_5 rfl ?_)))))
  refine n_if2_ge c_140_6 (by omega) (by omega) ?_ ?_
  · intro h1
    exfalso; omega
  · intro h2
    refine n_iload_n c_140_9 rfl (n_iload_n c_140_10 rfl (n_imul c_140_11 rfl (n_istore_n (L2 := [some (0, 3), some (0, 5), some (0, (1 * 3)), some (0, 0)]) c_140_12 rfl rfl (n_iinc (L2 := [some (0, 3), some (0, 5), some (0, (1 * 3)), some (0, (0 + 1))]) c_140_13 rfl rfl rfl (n_goto c_140_16 (n_iload_n c_140_4 rfl (n_iload_n c_140_5 rfl ?_)))))))
    refine n_if2_ge c_140_6 (by omega) (by omega) ?_ ?_
    · intro h3
      exfalso; omega
    · intro h4
      refine n_iload_n c_140_9 rfl (n_iload_n c_140_10 rfl (n_imul c_140_11 rfl (n_istore_n (L2 := [some (0, 3), some (0, 5), some (0, ((1 * 3) * 3)), some (0, (0 + 1))]) c_140_12 rfl rfl (n_iinc (L2 := [some (0, 3), some (0, 5), some (0, ((1 * 3) * 3)), some (0, ((0 + 1) + 1))]) c_140_13 rfl rfl rfl (n_goto c_140_16 (n_iload_n c_140_4 rfl (n_iload_n c_140_5 rfl ?_)))))))
      refine n_if2_ge c_140_6 (by omega) (by omega) ?_ ?_
      · intro h5
        exfalso; omega
      · intro h6
        refine n_iload_n c_140_9 rfl (n_iload_n c_140_10 rfl (n_imul c_140_11 rfl (n_istore_n (L2 := [some (0, 3), some (0, 5), some (0, (((1 * 3) * 3) * 3)), some (0, ((0 + 1) + 1))]) c_140_12 rfl rfl (n_iinc (L2 := [some (0, 3), some (0, 5), some (0, (((1 * 3) * 3) * 3)), some (0, (((0 + 1) + 1) + 1))]) c_140_13 rfl rfl rfl (n_goto c_140_16 (n_iload_n c_140_4 rfl (n_iload_n c_140_5 rfl ?_)))))))
        refine n_if2_ge c_140_6 (by omega) (by omega) ?_ ?_
        · intro h7
          exfalso; omega
        · intro h8
          refine n_iload_n c_140_9 rfl (n_iload_n c_140_10 rfl (n_imul c_140_11 rfl (n_istore_n (L2 := [some (0, 3), some (0, 5), some (0, ((((1 * 3) * 3) * 3) * 3)), some (0, (((0 + 1) + 1) + 1))]) c_140_12 rfl rfl (n_iinc (L2 := [some (0, 3), some (0, 5), some (0, ((((1 * 3) * 3) * 3) * 3)), some (0, ((((0 + 1) + 1) + 1) + 1))]) c_140_13 rfl rfl rfl (n_goto c_140_16 (n_iload_n c_140_4 rfl (n_iload_n c_140_5 rfl ?_)))))))
          refine n_if2_ge c_140_6 (by omega) (by omega) ?_ ?_
          · intro h9
            exfalso; omega
          · intro h10
            refine n_iload_n c_140_9 rfl (n_iload_n c_140_10 rfl (n_imul c_140_11 rfl (n_istore_n (L2 := [some (0, 3), some (0, 5), some (0, (((((1 * 3) * 3) * 3) * 3) * 3)), some (0, ((((0 + 1) + 1) + 1) + 1))]) c_140_12 rfl rfl (n_iinc (L2 := [some (0, 3), some (0, 5), some (0, (((((1 * 3) * 3) * 3) * 3) * 3)), some (0, (((((0 + 1) + 1) + 1) + 1) + 1))]) c_140_13 rfl rfl rfl (n_goto c_140_16 (n_iload_n c_140_4 rfl (n_iload_n c_140_5 rfl ?_)))))))
            refine n_if2_ge c_140_6 (by omega) (by omega) ?_ ?_
            · intro h11
              refine n_iload_n c_140_19 rfl ?_
              exact n_rI c_140_20 rfl ⟨rfl, by omega⟩
            · intro h12
              exfalso; omega

/-! The methods, by program. -/
set_option maxHeartbeats 4000000 in
theorem mpower6_3 {xs : List Int32} {e : Nat} {ac : Int} {M0 M : nM} (hS : Sf 3 ac M0 M)  : nW xs e 140 0 [some (0, 3), some (0, 6), none, none] [] M (nPI fun z M1 => M = M1 ∧ (729 ≤ z ∧ z ≤ 729)) := by
  have hd : (3 : Int) = 2 ∨ (3 : Int) = 3 := by decide
  have hac := hS.2.2.2.2
  refine n_iconst c_140_0 (n_istore_n (L2 := [some (0, 3), some (0, 6), some (0, 1), none]) c_140_1 rfl rfl (n_iconst c_140_2 (n_istore_n (L2 := [some (0, 3), some (0, 6), some (0, 1), some (0, 0)]) c_140_3 rfl rfl (n_iload_n c_140_4 rfl (n_iload_n c_140_5 rfl ?_)))))
  refine n_if2_ge c_140_6 (by omega) (by omega) ?_ ?_
  · intro h1
    exfalso; omega
  · intro h2
    refine n_iload_n c_140_9 rfl (n_iload_n c_140_10 rfl (n_imul c_140_11 rfl (n_istore_n (L2 := [some (0, 3), some (0, 6), some (0, (1 * 3)), some (0, 0)]) c_140_12 rfl rfl (n_iinc (L2 := [some (0, 3), some (0, 6), some (0, (1 * 3)), some (0, (0 + 1))]) c_140_13 rfl rfl rfl (n_goto c_140_16 (n_iload_n c_140_4 rfl (n_iload_n c_140_5 rfl ?_)))))))
    refine n_if2_ge c_140_6 (by omega) (by omega) ?_ ?_
    · intro h3
      exfalso; omega
    · intro h4
      refine n_iload_n c_140_9 rfl (n_iload_n c_140_10 rfl (n_imul c_140_11 rfl (n_istore_n (L2 := [some (0, 3), some (0, 6), some (0, ((1 * 3) * 3)), some (0, (0 + 1))]) c_140_12 rfl rfl (n_iinc (L2 := [some (0, 3), some (0, 6), some (0, ((1 * 3) * 3)), some (0, ((0 + 1) + 1))]) c_140_13 rfl rfl rfl (n_goto c_140_16 (n_iload_n c_140_4 rfl (n_iload_n c_140_5 rfl ?_)))))))
      refine n_if2_ge c_140_6 (by omega) (by omega) ?_ ?_
      · intro h5
        exfalso; omega
      · intro h6
        refine n_iload_n c_140_9 rfl (n_iload_n c_140_10 rfl (n_imul c_140_11 rfl (n_istore_n (L2 := [some (0, 3), some (0, 6), some (0, (((1 * 3) * 3) * 3)), some (0, ((0 + 1) + 1))]) c_140_12 rfl rfl (n_iinc (L2 := [some (0, 3), some (0, 6), some (0, (((1 * 3) * 3) * 3)), some (0, (((0 + 1) + 1) + 1))]) c_140_13 rfl rfl rfl (n_goto c_140_16 (n_iload_n c_140_4 rfl (n_iload_n c_140_5 rfl ?_)))))))
        refine n_if2_ge c_140_6 (by omega) (by omega) ?_ ?_
        · intro h7
          exfalso; omega
        · intro h8
          refine n_iload_n c_140_9 rfl (n_iload_n c_140_10 rfl (n_imul c_140_11 rfl (n_istore_n (L2 := [some (0, 3), some (0, 6), some (0, ((((1 * 3) * 3) * 3) * 3)), some (0, (((0 + 1) + 1) + 1))]) c_140_12 rfl rfl (n_iinc (L2 := [some (0, 3), some (0, 6), some (0, ((((1 * 3) * 3) * 3) * 3)), some (0, ((((0 + 1) + 1) + 1) + 1))]) c_140_13 rfl rfl rfl (n_goto c_140_16 (n_iload_n c_140_4 rfl (n_iload_n c_140_5 rfl ?_)))))))
          refine n_if2_ge c_140_6 (by omega) (by omega) ?_ ?_
          · intro h9
            exfalso; omega
          · intro h10
            refine n_iload_n c_140_9 rfl (n_iload_n c_140_10 rfl (n_imul c_140_11 rfl (n_istore_n (L2 := [some (0, 3), some (0, 6), some (0, (((((1 * 3) * 3) * 3) * 3) * 3)), some (0, ((((0 + 1) + 1) + 1) + 1))]) c_140_12 rfl rfl (n_iinc (L2 := [some (0, 3), some (0, 6), some (0, (((((1 * 3) * 3) * 3) * 3) * 3)), some (0, (((((0 + 1) + 1) + 1) + 1) + 1))]) c_140_13 rfl rfl rfl (n_goto c_140_16 (n_iload_n c_140_4 rfl (n_iload_n c_140_5 rfl ?_)))))))
            refine n_if2_ge c_140_6 (by omega) (by omega) ?_ ?_
            · intro h11
              exfalso; omega
            · intro h12
              refine n_iload_n c_140_9 rfl (n_iload_n c_140_10 rfl (n_imul c_140_11 rfl (n_istore_n (L2 := [some (0, 3), some (0, 6), some (0, ((((((1 * 3) * 3) * 3) * 3) * 3) * 3)), some (0, (((((0 + 1) + 1) + 1) + 1) + 1))]) c_140_12 rfl rfl (n_iinc (L2 := [some (0, 3), some (0, 6), some (0, ((((((1 * 3) * 3) * 3) * 3) * 3) * 3)), some (0, ((((((0 + 1) + 1) + 1) + 1) + 1) + 1))]) c_140_13 rfl rfl rfl (n_goto c_140_16 (n_iload_n c_140_4 rfl (n_iload_n c_140_5 rfl ?_)))))))
              refine n_if2_ge c_140_6 (by omega) (by omega) ?_ ?_
              · intro h13
                refine n_iload_n c_140_19 rfl ?_
                exact n_rI c_140_20 rfl ⟨rfl, by omega⟩
              · intro h14
                exfalso; omega

set_option maxHeartbeats 4000000 in
theorem mpower7_3 {xs : List Int32} {e : Nat} {ac : Int} {M0 M : nM} (hS : Sf 3 ac M0 M)  : nW xs e 140 0 [some (0, 3), some (0, 7), none, none] [] M (nPI fun z M1 => M = M1 ∧ (2187 ≤ z ∧ z ≤ 2187)) := by
  have hd : (3 : Int) = 2 ∨ (3 : Int) = 3 := by decide
  have hac := hS.2.2.2.2
  refine n_iconst c_140_0 (n_istore_n (L2 := [some (0, 3), some (0, 7), some (0, 1), none]) c_140_1 rfl rfl (n_iconst c_140_2 (n_istore_n (L2 := [some (0, 3), some (0, 7), some (0, 1), some (0, 0)]) c_140_3 rfl rfl (n_iload_n c_140_4 rfl (n_iload_n c_140_5 rfl ?_)))))
  refine n_if2_ge c_140_6 (by omega) (by omega) ?_ ?_
  · intro h1
    exfalso; omega
  · intro h2
    refine n_iload_n c_140_9 rfl (n_iload_n c_140_10 rfl (n_imul c_140_11 rfl (n_istore_n (L2 := [some (0, 3), some (0, 7), some (0, (1 * 3)), some (0, 0)]) c_140_12 rfl rfl (n_iinc (L2 := [some (0, 3), some (0, 7), some (0, (1 * 3)), some (0, (0 + 1))]) c_140_13 rfl rfl rfl (n_goto c_140_16 (n_iload_n c_140_4 rfl (n_iload_n c_140_5 rfl ?_)))))))
    refine n_if2_ge c_140_6 (by omega) (by omega) ?_ ?_
    · intro h3
      exfalso; omega
    · intro h4
      refine n_iload_n c_140_9 rfl (n_iload_n c_140_10 rfl (n_imul c_140_11 rfl (n_istore_n (L2 := [some (0, 3), some (0, 7), some (0, ((1 * 3) * 3)), some (0, (0 + 1))]) c_140_12 rfl rfl (n_iinc (L2 := [some (0, 3), some (0, 7), some (0, ((1 * 3) * 3)), some (0, ((0 + 1) + 1))]) c_140_13 rfl rfl rfl (n_goto c_140_16 (n_iload_n c_140_4 rfl (n_iload_n c_140_5 rfl ?_)))))))
      refine n_if2_ge c_140_6 (by omega) (by omega) ?_ ?_
      · intro h5
        exfalso; omega
      · intro h6
        refine n_iload_n c_140_9 rfl (n_iload_n c_140_10 rfl (n_imul c_140_11 rfl (n_istore_n (L2 := [some (0, 3), some (0, 7), some (0, (((1 * 3) * 3) * 3)), some (0, ((0 + 1) + 1))]) c_140_12 rfl rfl (n_iinc (L2 := [some (0, 3), some (0, 7), some (0, (((1 * 3) * 3) * 3)), some (0, (((0 + 1) + 1) + 1))]) c_140_13 rfl rfl rfl (n_goto c_140_16 (n_iload_n c_140_4 rfl (n_iload_n c_140_5 rfl ?_)))))))
        refine n_if2_ge c_140_6 (by omega) (by omega) ?_ ?_
        · intro h7
          exfalso; omega
        · intro h8
          refine n_iload_n c_140_9 rfl (n_iload_n c_140_10 rfl (n_imul c_140_11 rfl (n_istore_n (L2 := [some (0, 3), some (0, 7), some (0, ((((1 * 3) * 3) * 3) * 3)), some (0, (((0 + 1) + 1) + 1))]) c_140_12 rfl rfl (n_iinc (L2 := [some (0, 3), some (0, 7), some (0, ((((1 * 3) * 3) * 3) * 3)), some (0, ((((0 + 1) + 1) + 1) + 1))]) c_140_13 rfl rfl rfl (n_goto c_140_16 (n_iload_n c_140_4 rfl (n_iload_n c_140_5 rfl ?_)))))))
          refine n_if2_ge c_140_6 (by omega) (by omega) ?_ ?_
          · intro h9
            exfalso; omega
          · intro h10
            refine n_iload_n c_140_9 rfl (n_iload_n c_140_10 rfl (n_imul c_140_11 rfl (n_istore_n (L2 := [some (0, 3), some (0, 7), some (0, (((((1 * 3) * 3) * 3) * 3) * 3)), some (0, ((((0 + 1) + 1) + 1) + 1))]) c_140_12 rfl rfl (n_iinc (L2 := [some (0, 3), some (0, 7), some (0, (((((1 * 3) * 3) * 3) * 3) * 3)), some (0, (((((0 + 1) + 1) + 1) + 1) + 1))]) c_140_13 rfl rfl rfl (n_goto c_140_16 (n_iload_n c_140_4 rfl (n_iload_n c_140_5 rfl ?_)))))))
            refine n_if2_ge c_140_6 (by omega) (by omega) ?_ ?_
            · intro h11
              exfalso; omega
            · intro h12
              refine n_iload_n c_140_9 rfl (n_iload_n c_140_10 rfl (n_imul c_140_11 rfl (n_istore_n (L2 := [some (0, 3), some (0, 7), some (0, ((((((1 * 3) * 3) * 3) * 3) * 3) * 3)), some (0, (((((0 + 1) + 1) + 1) + 1) + 1))]) c_140_12 rfl rfl (n_iinc (L2 := [some (0, 3), some (0, 7), some (0, ((((((1 * 3) * 3) * 3) * 3) * 3) * 3)), some (0, ((((((0 + 1) + 1) + 1) + 1) + 1) + 1))]) c_140_13 rfl rfl rfl (n_goto c_140_16 (n_iload_n c_140_4 rfl (n_iload_n c_140_5 rfl ?_)))))))
              refine n_if2_ge c_140_6 (by omega) (by omega) ?_ ?_
              · intro h13
                exfalso; omega
              · intro h14
                refine n_iload_n c_140_9 rfl (n_iload_n c_140_10 rfl (n_imul c_140_11 rfl (n_istore_n (L2 := [some (0, 3), some (0, 7), some (0, (((((((1 * 3) * 3) * 3) * 3) * 3) * 3) * 3)), some (0, ((((((0 + 1) + 1) + 1) + 1) + 1) + 1))]) c_140_12 rfl rfl (n_iinc (L2 := [some (0, 3), some (0, 7), some (0, (((((((1 * 3) * 3) * 3) * 3) * 3) * 3) * 3)), some (0, (((((((0 + 1) + 1) + 1) + 1) + 1) + 1) + 1))]) c_140_13 rfl rfl rfl (n_goto c_140_16 (n_iload_n c_140_4 rfl (n_iload_n c_140_5 rfl ?_)))))))
                refine n_if2_ge c_140_6 (by omega) (by omega) ?_ ?_
                · intro h15
                  refine n_iload_n c_140_19 rfl ?_
                  exact n_rI c_140_20 rfl ⟨rfl, by omega⟩
                · intro h16
                  exfalso; omega

set_option maxHeartbeats 4000000 in
theorem mpower8_3 {xs : List Int32} {e : Nat} {ac : Int} {M0 M : nM} (hS : Sf 3 ac M0 M)  : nW xs e 140 0 [some (0, 3), some (0, 8), none, none] [] M (nPI fun z M1 => M = M1 ∧ (6561 ≤ z ∧ z ≤ 6561)) := by
  have hd : (3 : Int) = 2 ∨ (3 : Int) = 3 := by decide
  have hac := hS.2.2.2.2
  refine n_iconst c_140_0 (n_istore_n (L2 := [some (0, 3), some (0, 8), some (0, 1), none]) c_140_1 rfl rfl (n_iconst c_140_2 (n_istore_n (L2 := [some (0, 3), some (0, 8), some (0, 1), some (0, 0)]) c_140_3 rfl rfl (n_iload_n c_140_4 rfl (n_iload_n c_140_5 rfl ?_)))))
  refine n_if2_ge c_140_6 (by omega) (by omega) ?_ ?_
  · intro h1
    exfalso; omega
  · intro h2
    refine n_iload_n c_140_9 rfl (n_iload_n c_140_10 rfl (n_imul c_140_11 rfl (n_istore_n (L2 := [some (0, 3), some (0, 8), some (0, (1 * 3)), some (0, 0)]) c_140_12 rfl rfl (n_iinc (L2 := [some (0, 3), some (0, 8), some (0, (1 * 3)), some (0, (0 + 1))]) c_140_13 rfl rfl rfl (n_goto c_140_16 (n_iload_n c_140_4 rfl (n_iload_n c_140_5 rfl ?_)))))))
    refine n_if2_ge c_140_6 (by omega) (by omega) ?_ ?_
    · intro h3
      exfalso; omega
    · intro h4
      refine n_iload_n c_140_9 rfl (n_iload_n c_140_10 rfl (n_imul c_140_11 rfl (n_istore_n (L2 := [some (0, 3), some (0, 8), some (0, ((1 * 3) * 3)), some (0, (0 + 1))]) c_140_12 rfl rfl (n_iinc (L2 := [some (0, 3), some (0, 8), some (0, ((1 * 3) * 3)), some (0, ((0 + 1) + 1))]) c_140_13 rfl rfl rfl (n_goto c_140_16 (n_iload_n c_140_4 rfl (n_iload_n c_140_5 rfl ?_)))))))
      refine n_if2_ge c_140_6 (by omega) (by omega) ?_ ?_
      · intro h5
        exfalso; omega
      · intro h6
        refine n_iload_n c_140_9 rfl (n_iload_n c_140_10 rfl (n_imul c_140_11 rfl (n_istore_n (L2 := [some (0, 3), some (0, 8), some (0, (((1 * 3) * 3) * 3)), some (0, ((0 + 1) + 1))]) c_140_12 rfl rfl (n_iinc (L2 := [some (0, 3), some (0, 8), some (0, (((1 * 3) * 3) * 3)), some (0, (((0 + 1) + 1) + 1))]) c_140_13 rfl rfl rfl (n_goto c_140_16 (n_iload_n c_140_4 rfl (n_iload_n c_140_5 rfl ?_)))))))
        refine n_if2_ge c_140_6 (by omega) (by omega) ?_ ?_
        · intro h7
          exfalso; omega
        · intro h8
          refine n_iload_n c_140_9 rfl (n_iload_n c_140_10 rfl (n_imul c_140_11 rfl (n_istore_n (L2 := [some (0, 3), some (0, 8), some (0, ((((1 * 3) * 3) * 3) * 3)), some (0, (((0 + 1) + 1) + 1))]) c_140_12 rfl rfl (n_iinc (L2 := [some (0, 3), some (0, 8), some (0, ((((1 * 3) * 3) * 3) * 3)), some (0, ((((0 + 1) + 1) + 1) + 1))]) c_140_13 rfl rfl rfl (n_goto c_140_16 (n_iload_n c_140_4 rfl (n_iload_n c_140_5 rfl ?_)))))))
          refine n_if2_ge c_140_6 (by omega) (by omega) ?_ ?_
          · intro h9
            exfalso; omega
          · intro h10
            refine n_iload_n c_140_9 rfl (n_iload_n c_140_10 rfl (n_imul c_140_11 rfl (n_istore_n (L2 := [some (0, 3), some (0, 8), some (0, (((((1 * 3) * 3) * 3) * 3) * 3)), some (0, ((((0 + 1) + 1) + 1) + 1))]) c_140_12 rfl rfl (n_iinc (L2 := [some (0, 3), some (0, 8), some (0, (((((1 * 3) * 3) * 3) * 3) * 3)), some (0, (((((0 + 1) + 1) + 1) + 1) + 1))]) c_140_13 rfl rfl rfl (n_goto c_140_16 (n_iload_n c_140_4 rfl (n_iload_n c_140_5 rfl ?_)))))))
            refine n_if2_ge c_140_6 (by omega) (by omega) ?_ ?_
            · intro h11
              exfalso; omega
            · intro h12
              refine n_iload_n c_140_9 rfl (n_iload_n c_140_10 rfl (n_imul c_140_11 rfl (n_istore_n (L2 := [some (0, 3), some (0, 8), some (0, ((((((1 * 3) * 3) * 3) * 3) * 3) * 3)), some (0, (((((0 + 1) + 1) + 1) + 1) + 1))]) c_140_12 rfl rfl (n_iinc (L2 := [some (0, 3), some (0, 8), some (0, ((((((1 * 3) * 3) * 3) * 3) * 3) * 3)), some (0, ((((((0 + 1) + 1) + 1) + 1) + 1) + 1))]) c_140_13 rfl rfl rfl (n_goto c_140_16 (n_iload_n c_140_4 rfl (n_iload_n c_140_5 rfl ?_)))))))
              refine n_if2_ge c_140_6 (by omega) (by omega) ?_ ?_
              · intro h13
                exfalso; omega
              · intro h14
                refine n_iload_n c_140_9 rfl (n_iload_n c_140_10 rfl (n_imul c_140_11 rfl (n_istore_n (L2 := [some (0, 3), some (0, 8), some (0, (((((((1 * 3) * 3) * 3) * 3) * 3) * 3) * 3)), some (0, ((((((0 + 1) + 1) + 1) + 1) + 1) + 1))]) c_140_12 rfl rfl (n_iinc (L2 := [some (0, 3), some (0, 8), some (0, (((((((1 * 3) * 3) * 3) * 3) * 3) * 3) * 3)), some (0, (((((((0 + 1) + 1) + 1) + 1) + 1) + 1) + 1))]) c_140_13 rfl rfl rfl (n_goto c_140_16 (n_iload_n c_140_4 rfl (n_iload_n c_140_5 rfl ?_)))))))
                refine n_if2_ge c_140_6 (by omega) (by omega) ?_ ?_
                · intro h15
                  exfalso; omega
                · intro h16
                  refine n_iload_n c_140_9 rfl (n_iload_n c_140_10 rfl (n_imul c_140_11 rfl (n_istore_n (L2 := [some (0, 3), some (0, 8), some (0, ((((((((1 * 3) * 3) * 3) * 3) * 3) * 3) * 3) * 3)), some (0, (((((((0 + 1) + 1) + 1) + 1) + 1) + 1) + 1))]) c_140_12 rfl rfl (n_iinc (L2 := [some (0, 3), some (0, 8), some (0, ((((((((1 * 3) * 3) * 3) * 3) * 3) * 3) * 3) * 3)), some (0, ((((((((0 + 1) + 1) + 1) + 1) + 1) + 1) + 1) + 1))]) c_140_13 rfl rfl rfl (n_goto c_140_16 (n_iload_n c_140_4 rfl (n_iload_n c_140_5 rfl ?_)))))))
                  refine n_if2_ge c_140_6 (by omega) (by omega) ?_ ?_
                  · intro h17
                    refine n_iload_n c_140_19 rfl ?_
                    exact n_rI c_140_20 rfl ⟨rfl, by omega⟩
                  · intro h18
                    exfalso; omega

set_option maxHeartbeats 4000000 in
theorem mpower9_3 {xs : List Int32} {e : Nat} {ac : Int} {M0 M : nM} (hS : Sf 3 ac M0 M)  : nW xs e 140 0 [some (0, 3), some (0, 9), none, none] [] M (nPI fun z M1 => M = M1 ∧ (19683 ≤ z ∧ z ≤ 19683)) := by
  have hd : (3 : Int) = 2 ∨ (3 : Int) = 3 := by decide
  have hac := hS.2.2.2.2
  refine n_iconst c_140_0 (n_istore_n (L2 := [some (0, 3), some (0, 9), some (0, 1), none]) c_140_1 rfl rfl (n_iconst c_140_2 (n_istore_n (L2 := [some (0, 3), some (0, 9), some (0, 1), some (0, 0)]) c_140_3 rfl rfl (n_iload_n c_140_4 rfl (n_iload_n c_140_5 rfl ?_)))))
  refine n_if2_ge c_140_6 (by omega) (by omega) ?_ ?_
  · intro h1
    exfalso; omega
  · intro h2
    refine n_iload_n c_140_9 rfl (n_iload_n c_140_10 rfl (n_imul c_140_11 rfl (n_istore_n (L2 := [some (0, 3), some (0, 9), some (0, (1 * 3)), some (0, 0)]) c_140_12 rfl rfl (n_iinc (L2 := [some (0, 3), some (0, 9), some (0, (1 * 3)), some (0, (0 + 1))]) c_140_13 rfl rfl rfl (n_goto c_140_16 (n_iload_n c_140_4 rfl (n_iload_n c_140_5 rfl ?_)))))))
    refine n_if2_ge c_140_6 (by omega) (by omega) ?_ ?_
    · intro h3
      exfalso; omega
    · intro h4
      refine n_iload_n c_140_9 rfl (n_iload_n c_140_10 rfl (n_imul c_140_11 rfl (n_istore_n (L2 := [some (0, 3), some (0, 9), some (0, ((1 * 3) * 3)), some (0, (0 + 1))]) c_140_12 rfl rfl (n_iinc (L2 := [some (0, 3), some (0, 9), some (0, ((1 * 3) * 3)), some (0, ((0 + 1) + 1))]) c_140_13 rfl rfl rfl (n_goto c_140_16 (n_iload_n c_140_4 rfl (n_iload_n c_140_5 rfl ?_)))))))
      refine n_if2_ge c_140_6 (by omega) (by omega) ?_ ?_
      · intro h5
        exfalso; omega
      · intro h6
        refine n_iload_n c_140_9 rfl (n_iload_n c_140_10 rfl (n_imul c_140_11 rfl (n_istore_n (L2 := [some (0, 3), some (0, 9), some (0, (((1 * 3) * 3) * 3)), some (0, ((0 + 1) + 1))]) c_140_12 rfl rfl (n_iinc (L2 := [some (0, 3), some (0, 9), some (0, (((1 * 3) * 3) * 3)), some (0, (((0 + 1) + 1) + 1))]) c_140_13 rfl rfl rfl (n_goto c_140_16 (n_iload_n c_140_4 rfl (n_iload_n c_140_5 rfl ?_)))))))
        refine n_if2_ge c_140_6 (by omega) (by omega) ?_ ?_
        · intro h7
          exfalso; omega
        · intro h8
          refine n_iload_n c_140_9 rfl (n_iload_n c_140_10 rfl (n_imul c_140_11 rfl (n_istore_n (L2 := [some (0, 3), some (0, 9), some (0, ((((1 * 3) * 3) * 3) * 3)), some (0, (((0 + 1) + 1) + 1))]) c_140_12 rfl rfl (n_iinc (L2 := [some (0, 3), some (0, 9), some (0, ((((1 * 3) * 3) * 3) * 3)), some (0, ((((0 + 1) + 1) + 1) + 1))]) c_140_13 rfl rfl rfl (n_goto c_140_16 (n_iload_n c_140_4 rfl (n_iload_n c_140_5 rfl ?_)))))))
          refine n_if2_ge c_140_6 (by omega) (by omega) ?_ ?_
          · intro h9
            exfalso; omega
          · intro h10
            refine n_iload_n c_140_9 rfl (n_iload_n c_140_10 rfl (n_imul c_140_11 rfl (n_istore_n (L2 := [some (0, 3), some (0, 9), some (0, (((((1 * 3) * 3) * 3) * 3) * 3)), some (0, ((((0 + 1) + 1) + 1) + 1))]) c_140_12 rfl rfl (n_iinc (L2 := [some (0, 3), some (0, 9), some (0, (((((1 * 3) * 3) * 3) * 3) * 3)), some (0, (((((0 + 1) + 1) + 1) + 1) + 1))]) c_140_13 rfl rfl rfl (n_goto c_140_16 (n_iload_n c_140_4 rfl (n_iload_n c_140_5 rfl ?_)))))))
            refine n_if2_ge c_140_6 (by omega) (by omega) ?_ ?_
            · intro h11
              exfalso; omega
            · intro h12
              refine n_iload_n c_140_9 rfl (n_iload_n c_140_10 rfl (n_imul c_140_11 rfl (n_istore_n (L2 := [some (0, 3), some (0, 9), some (0, ((((((1 * 3) * 3) * 3) * 3) * 3) * 3)), some (0, (((((0 + 1) + 1) + 1) + 1) + 1))]) c_140_12 rfl rfl (n_iinc (L2 := [some (0, 3), some (0, 9), some (0, ((((((1 * 3) * 3) * 3) * 3) * 3) * 3)), some (0, ((((((0 + 1) + 1) + 1) + 1) + 1) + 1))]) c_140_13 rfl rfl rfl (n_goto c_140_16 (n_iload_n c_140_4 rfl (n_iload_n c_140_5 rfl ?_)))))))
              refine n_if2_ge c_140_6 (by omega) (by omega) ?_ ?_
              · intro h13
                exfalso; omega
              · intro h14
                refine n_iload_n c_140_9 rfl (n_iload_n c_140_10 rfl (n_imul c_140_11 rfl (n_istore_n (L2 := [some (0, 3), some (0, 9), some (0, (((((((1 * 3) * 3) * 3) * 3) * 3) * 3) * 3)), some (0, ((((((0 + 1) + 1) + 1) + 1) + 1) + 1))]) c_140_12 rfl rfl (n_iinc (L2 := [some (0, 3), some (0, 9), some (0, (((((((1 * 3) * 3) * 3) * 3) * 3) * 3) * 3)), some (0, (((((((0 + 1) + 1) + 1) + 1) + 1) + 1) + 1))]) c_140_13 rfl rfl rfl (n_goto c_140_16 (n_iload_n c_140_4 rfl (n_iload_n c_140_5 rfl ?_)))))))
                refine n_if2_ge c_140_6 (by omega) (by omega) ?_ ?_
                · intro h15
                  exfalso; omega
                · intro h16
                  refine n_iload_n c_140_9 rfl (n_iload_n c_140_10 rfl (n_imul c_140_11 rfl (n_istore_n (L2 := [some (0, 3), some (0, 9), some (0, ((((((((1 * 3) * 3) * 3) * 3) * 3) * 3) * 3) * 3)), some (0, (((((((0 + 1) + 1) + 1) + 1) + 1) + 1) + 1))]) c_140_12 rfl rfl (n_iinc (L2 := [some (0, 3), some (0, 9), some (0, ((((((((1 * 3) * 3) * 3) * 3) * 3) * 3) * 3) * 3)), some (0, ((((((((0 + 1) + 1) + 1) + 1) + 1) + 1) + 1) + 1))]) c_140_13 rfl rfl rfl (n_goto c_140_16 (n_iload_n c_140_4 rfl (n_iload_n c_140_5 rfl ?_)))))))
                  refine n_if2_ge c_140_6 (by omega) (by omega) ?_ ?_
                  · intro h17
                    exfalso; omega
                  · intro h18
                    refine n_iload_n c_140_9 rfl (n_iload_n c_140_10 rfl (n_imul c_140_11 rfl (n_istore_n (L2 := [some (0, 3), some (0, 9), some (0, (((((((((1 * 3) * 3) * 3) * 3) * 3) * 3) * 3) * 3) * 3)), some (0, ((((((((0 + 1) + 1) + 1) + 1) + 1) + 1) + 1) + 1))]) c_140_12 rfl rfl (n_iinc (L2 := [some (0, 3), some (0, 9), some (0, (((((((((1 * 3) * 3) * 3) * 3) * 3) * 3) * 3) * 3) * 3)), some (0, (((((((((0 + 1) + 1) + 1) + 1) + 1) + 1) + 1) + 1) + 1))]) c_140_13 rfl rfl rfl (n_goto c_140_16 (n_iload_n c_140_4 rfl (n_iload_n c_140_5 rfl ?_)))))))
                    refine n_if2_ge c_140_6 (by omega) (by omega) ?_ ?_
                    · intro h19
                      refine n_iload_n c_140_19 rfl ?_
                      exact n_rI c_140_20 rfl ⟨rfl, by omega⟩
                    · intro h20
                      exfalso; omega

set_option maxHeartbeats 4000000 in
theorem mpowerU3_3 {xs : List Int32} {e : Nat} {ac : Int} {M0 M : nM} {n : Int} (hS : Sf 3 ac M0 M) (hn : 0 ≤ n ∧ n ≤ 3) : nW xs e 140 0 [some (0, 3), some (0, n), none, none] [] M (nPI fun z M1 => M = M1 ∧ (1 ≤ z ∧ z ≤ 27)) := by
  rcases (show n = 0 ∨ n = 1 ∨ n = 2 ∨ n = 3 by omega) with rfl | rfl | rfl | rfl
  · exact n_post (mpower0_3 hS ) (fun w M1 h => by obtain ⟨z, rfl, h1, h2⟩ := h; exact ⟨z, rfl, h1, by omega⟩)
  · exact n_post (mpower1_3 hS ) (fun w M1 h => by obtain ⟨z, rfl, h1, h2⟩ := h; exact ⟨z, rfl, h1, by omega⟩)
  · exact n_post (mpower2_3 hS ) (fun w M1 h => by obtain ⟨z, rfl, h1, h2⟩ := h; exact ⟨z, rfl, h1, by omega⟩)
  · exact n_post (mpower3_3 hS ) (fun w M1 h => by obtain ⟨z, rfl, h1, h2⟩ := h; exact ⟨z, rfl, h1, by omega⟩)

set_option maxHeartbeats 4000000 in
theorem mpowerU_3 {xs : List Int32} {e : Nat} {ac : Int} {M0 M : nM} {n : Int} (hS : Sf 3 ac M0 M) (hn : 0 ≤ n ∧ n ≤ 9) : nW xs e 140 0 [some (0, 3), some (0, n), none, none] [] M (nPI fun z M1 => M = M1 ∧ (1 ≤ z ∧ z ≤ 19683)) := by
  rcases (show n = 0 ∨ n = 1 ∨ n = 2 ∨ n = 3 ∨ n = 4 ∨ n = 5 ∨ n = 6 ∨ n = 7 ∨ n = 8 ∨ n = 9 by omega) with rfl | rfl | rfl | rfl | rfl | rfl | rfl | rfl | rfl | rfl
  · exact n_post (mpower0_3 hS ) (fun w M1 h => by obtain ⟨z, rfl, h1, h2⟩ := h; exact ⟨z, rfl, h1, by omega⟩)
  · exact n_post (mpower1_3 hS ) (fun w M1 h => by obtain ⟨z, rfl, h1, h2⟩ := h; exact ⟨z, rfl, h1, by omega⟩)
  · exact n_post (mpower2_3 hS ) (fun w M1 h => by obtain ⟨z, rfl, h1, h2⟩ := h; exact ⟨z, rfl, h1, by omega⟩)
  · exact n_post (mpower3_3 hS ) (fun w M1 h => by obtain ⟨z, rfl, h1, h2⟩ := h; exact ⟨z, rfl, h1, by omega⟩)
  · exact n_post (mpower4_3 hS ) (fun w M1 h => by obtain ⟨z, rfl, h1, h2⟩ := h; exact ⟨z, rfl, h1, by omega⟩)
  · exact n_post (mpower5_3 hS ) (fun w M1 h => by obtain ⟨z, rfl, h1, h2⟩ := h; exact ⟨z, rfl, h1, by omega⟩)
  · exact n_post (mpower6_3 hS ) (fun w M1 h => by obtain ⟨z, rfl, h1, h2⟩ := h; exact ⟨z, rfl, h1, by omega⟩)
  · exact n_post (mpower7_3 hS ) (fun w M1 h => by obtain ⟨z, rfl, h1, h2⟩ := h; exact ⟨z, rfl, h1, by omega⟩)
  · exact n_post (mpower8_3 hS ) (fun w M1 h => by obtain ⟨z, rfl, h1, h2⟩ := h; exact ⟨z, rfl, h1, by omega⟩)
  · exact n_post (mpower9_3 hS ) (fun w M1 h => by obtain ⟨z, rfl, h1, h2⟩ := h; exact ⟨z, rfl, h1, by omega⟩)

set_option maxHeartbeats 4000000 in
theorem mpowerN_3_c {xs : List Int32} {e : Nat} {ac : Int} {M0 M : nM} {n : Int} (hS : Sf 3 ac M0 M) (hn : -2147483648 ≤ n ∧ n ≤ 0) : ∀ nn : Nat, (∀ (x2 x3 : Int), (1 ≤ x2 ∧ x2 ≤ 1) → (0 ≤ x3 ∧ x3 ≤ 0) → (0 - x3) * 1 + 1 < (nn : Int) → nW xs e 140 4 [some (0, 3), some (0, n), some (0, x2), some (0, x3)] [] M (nPI fun z M1 => M = M1 ∧ (1 ≤ z ∧ z ≤ 1))) := by
  have hd : (3 : Int) = 2 ∨ (3 : Int) = 3 := by decide
  have hac := hS.2.2.2.2
  intro nn
  induction nn with
  | zero => intros; omega
  | succ nn ih =>
    intro x2 x3 k2 k3 hnn
    refine n_iload_n c_140_4 rfl (n_iload_n c_140_5 rfl ?_)
    refine n_if2_ge c_140_6 (by omega) (by omega) ?_ ?_
    · intro h1
      refine n_iload_n c_140_19 rfl ?_
      exact n_rI c_140_20 rfl ⟨rfl, by omega⟩
    · intro h2
      exfalso; omega
set_option maxHeartbeats 4000000 in
theorem mpowerN_3 {xs : List Int32} {e : Nat} {ac : Int} {M0 M : nM} {n : Int} (hS : Sf 3 ac M0 M) (hn : -2147483648 ≤ n ∧ n ≤ 0) : nW xs e 140 0 [some (0, 3), some (0, n), none, none] [] M (nPI fun z M1 => M = M1 ∧ (1 ≤ z ∧ z ≤ 1)) := by
  have hd : (3 : Int) = 2 ∨ (3 : Int) = 3 := by decide
  have hac := hS.2.2.2.2
  refine n_iconst c_140_0 (n_istore_n (L2 := [some (0, 3), some (0, n), some (0, 1), none]) c_140_1 rfl rfl (n_iconst c_140_2 (n_istore_n (L2 := [some (0, 3), some (0, n), some (0, 1), some (0, 0)]) c_140_3 rfl rfl (n_fg (le_s (le_s (le_s (le_s le_0)))) ?_))))
  exact (mpowerN_3_c hS hn 14) _ _ (by omega) (by omega) (by omega)

set_option maxHeartbeats 4000000 in
theorem changed_3_c {xs : List Int32} {e : Nat} {ac : Int} {M0 M : nM} (hS : Sf 3 ac M0 M) (hdm : M0 112 0 = 3) : ∀ nn : Nat, (∀ (x1 : Int) (M : nM), Sf 3 ac M0 M → (0 ≤ x1 ∧ x1 ≤ 4) → (4 - x1) * 1 + 1 < (nn : Int) → nW xs e 141 2 [some (2, 112), some (0, x1)] [] M (nPV fun M1 => Sf 3 ac M0 M1)) := by
  have hd : (3 : Int) = 2 ∨ (3 : Int) = 3 := by decide
  have hac := hS.2.2.2.2
  intro nn
  induction nn with
  | zero => intros; omega
  | succ nn ih =>
    intro x1 M hS k1 hnn
    refine n_iload_n c_141_2 rfl (n_iconst c_141_3 ?_)
    refine n_if2_ge c_141_4 (by omega) (by omega) ?_ ?_
    · intro h1
      exact n_rV c_141_20 rfl hS
    · intro h2
      refine n_aload_n c_141_7 rfl (n_getR c_141_8 sc_112.n rfl rfl rfl r_112_16 (n_iload_n c_141_11 rfl (n_iconst c_141_12 (n_iastoreV hS c_141_13 sc_124.n rfl (by omega) (w_124 (by omega) (by omega)) ?_))))
      intro M3 eM3 hS3
      refine n_iinc (L2 := [some (2, 112), some (0, (x1 + 1))]) c_141_14 rfl rfl rfl (n_goto c_141_17 (n_fg (le_s (le_s le_0)) ?_))
      exact ih _ M3 hS3 (by omega) (by omega)
set_option maxHeartbeats 4000000 in
theorem changed_3 {xs : List Int32} {e : Nat} {ac : Int} {M0 M : nM} (hS : Sf 3 ac M0 M) (hdm : M0 112 0 = 3) : nW xs e 141 0 [some (2, 112), none] [] M (nPV fun M1 => Sf 3 ac M0 M1) := by
  have hd : (3 : Int) = 2 ∨ (3 : Int) = 3 := by decide
  have hac := hS.2.2.2.2
  refine n_iconst c_141_0 (n_istore_n (L2 := [some (2, 112), some (0, 0)]) c_141_1 rfl rfl (n_fg (le_s (le_s le_0)) ?_))
  exact (changed_3_c hS hdm 22) _ M hS (by omega) (by omega)

set_option maxHeartbeats 4000000 in
theorem misSlot_3_c {xs : List Int32} {e : Nat} {ac : Int} {M0 M : nM} {s : Int} (hS : Sf 3 ac M0 M) (hs : -2147483648 ≤ s ∧ s ≤ 2147483647) : ∀ nn : Nat, (1 < (nn : Int) → nW xs e 143 14 [none] [] M (nPI fun z M1 => M = M1 ∧ (0 ≤ z ∧ z ≤ 1) ∧ (z = 0 ∨ (0 ≤ s ∧ s ≤ 7)))) := by
  have hd : (3 : Int) = 2 ∨ (3 : Int) = 3 := by decide
  have hac := hS.2.2.2.2
  intro nn
  induction nn with
  | zero => intros; omega
  | succ nn ih =>
    intro hnn
    refine n_iconst c_143_14 ?_
    exact n_rZ c_143_15 rfl (by omega) ⟨rfl, by omega, by omega⟩
set_option maxHeartbeats 4000000 in
theorem misSlot_3 {xs : List Int32} {e : Nat} {ac : Int} {M0 M : nM} {s : Int} (hS : Sf 3 ac M0 M) (hs : -2147483648 ≤ s ∧ s ≤ 2147483647) : nW xs e 143 0 [some (0, s)] [] M (nPI fun z M1 => M = M1 ∧ (0 ≤ z ∧ z ≤ 1) ∧ (z = 0 ∨ (0 ≤ s ∧ s ≤ 7))) := by
  have hd : (3 : Int) = 2 ∨ (3 : Int) = 3 := by decide
  have hac := hS.2.2.2.2
  refine n_iload_n c_143_0 rfl ?_
  refine n_if0_lt c_143_1 (by omega) ?_ ?_
  · intro h1
    refine n_fg (le_n le_0) ?_
    exact (misSlot_3_c hS hs 12)   (by omega)
  · intro h2
    refine n_iload_n c_143_4 rfl (n_bipush c_143_5 rfl ?_)
    refine n_if2_gt c_143_7 (by omega) (by omega) ?_ ?_
    · intro h3
      refine n_fg (le_n le_0) ?_
      exact (misSlot_3_c hS hs 12)   (by omega)
    · intro h4
      refine n_iconst c_143_10 (n_goto c_143_11 ?_)
      exact n_rZ c_143_15 rfl (by omega) ⟨rfl, by omega, by omega⟩

set_option maxHeartbeats 4000000 in
theorem misThing_3_c {xs : List Int32} {e : Nat} {ac : Int} {M0 M : nM} {v : Int} (hS : Sf 3 ac M0 M) (hdm : M0 112 0 = 3) (hv : -9223372036854775808 ≤ v ∧ v ≤ 9223372036854775807) : ∀ nn : Nat, (1 < (nn : Int) → nW xs e 147 20 [none, none, none] [] M (nPI fun z M1 => M = M1 ∧ (0 ≤ z ∧ z ≤ 1) ∧ (z = 0 ∨ (0 ≤ v ∧ v ≤ 2)))) := by
  have hd : (3 : Int) = 2 ∨ (3 : Int) = 3 := by decide
  have hac := hS.2.2.2.2
  intro nn
  induction nn with
  | zero => intros; omega
  | succ nn ih =>
    intro hnn
    refine n_iconst c_147_20 ?_
    exact n_rZ c_147_21 rfl (by omega) ⟨rfl, by omega, by omega⟩
set_option maxHeartbeats 4000000 in
theorem misThing_3 {xs : List Int32} {e : Nat} {ac : Int} {M0 M : nM} {v : Int} (hS : Sf 3 ac M0 M) (hdm : M0 112 0 = 3) (hv : -9223372036854775808 ≤ v ∧ v ≤ 9223372036854775807) : nW xs e 147 0 [some (2, 112), some (1, v), none] [] M (nPI fun z M1 => M = M1 ∧ (0 ≤ z ∧ z ≤ 1) ∧ (z = 0 ∨ (0 ≤ v ∧ v ≤ 2))) := by
  have hd : (3 : Int) = 2 ∨ (3 : Int) = 3 := by decide
  have hac := hS.2.2.2.2
  refine n_lload_n c_147_0 rfl (n_lconst (n := 0) c_147_1 rfl (n_lcmp c_147_2 ?_))
  refine n_lif_lt c_147_3 (by omega) (by omega) ?_ ?_
  · intro h1
    refine n_fg (le_n (le_n (le_n le_0))) ?_
    exact (misThing_3_c hS hdm hv 12)   (by omega)
  · intro h2
    refine n_lload_n c_147_6 rfl (n_aload_n c_147_7 rfl (n_getV (bi := 0) c_147_8 sc_112.n rfl rfl rfl (t_dm hS hdm) ?_))
    intro z3 ez3 f4
    obtain rfl : z3 = 3 := by omega
    refine n_i2l c_147_11 (by omega) ?_
    refine n_lcmp c_147_12 ?_
    refine n_lif_ge c_147_13 (by omega) (by omega) ?_ ?_
    · intro h5
      refine n_fg (le_n (le_n (le_n le_0))) ?_
      exact (misThing_3_c hS hdm hv 12)   (by omega)
    · intro h6
      refine n_iconst c_147_16 (n_goto c_147_17 ?_)
      exact n_rZ c_147_21 rfl (by omega) ⟨rfl, by omega, by omega⟩

set_option maxHeartbeats 4000000 in
theorem mat_3_c {xs : List Int32} {e : Nat} {ac : Int} {M0 M : nM} {a r : Int} (hS : Sf 3 ac M0 M) (hdm : M0 112 0 = 3) (ha : -2147483648 ≤ a ∧ a ≤ 2147483647) (hr : -2147483648 ≤ r ∧ r ≤ 2147483647) : ∀ nn : Nat, (1 < (nn : Int) → nW xs (e + 1) 150 33 [none, none, none] [] M (nPI fun z M1 => M = M1 ∧ (-2147483648 ≤ z ∧ z ≤ 2147483647))) := by
  have hd : (3 : Int) = 2 ∨ (3 : Int) = 3 := by decide
  have hac := hS.2.2.2.2
  intro nn
  induction nn with
  | zero => intros; omega
  | succ nn ih =>
    intro hnn
    refine n_iconst c_150_33 (n_goto c_150_34 ?_)
    exact n_rI c_150_48 rfl ⟨rfl, by omega⟩
set_option maxHeartbeats 4000000 in
theorem mat_3 {xs : List Int32} {e : Nat} {ac : Int} {M0 M : nM} {a r : Int} (hS : Sf 3 ac M0 M) (hdm : M0 112 0 = 3) (ha : -2147483648 ≤ a ∧ a ≤ 2147483647) (hr : -2147483648 ≤ r ∧ r ≤ 2147483647) : nW xs (e + 1) 150 0 [some (2, 112), some (0, a), some (0, r)] [] M (nPI fun z M1 => M = M1 ∧ (-2147483648 ≤ z ∧ z ≤ 2147483647)) := by
  have hd : (3 : Int) = 2 ∨ (3 : Int) = 3 := by decide
  have hac := hS.2.2.2.2
  refine n_iload_n c_150_0 rfl ?_
  refine n_if0_lt c_150_1 (by omega) ?_ ?_
  · intro h1
    refine n_fg (le_n (le_n (le_n le_0))) ?_
    exact (mat_3_c hS hdm ha hr 12)   (by omega)
  · intro h2
    refine n_iload_n c_150_4 rfl (n_aload_n c_150_5 rfl (n_getV (bi := 4) c_150_6 sc_112.n rfl rfl rfl (t_112_4 hS) ?_))
    intro z3 ez3 f4
    refine n_if2_ge c_150_9 (by omega) (by omega) ?_ ?_
    · intro h5
      refine n_fg (le_n (le_n (le_n le_0))) ?_
      exact (mat_3_c hS hdm ha hr 12)   (by omega)
    · intro h6
      refine n_iload_n c_150_12 rfl ?_
      refine n_if0_lt c_150_13 (by omega) ?_ ?_
      · intro h7
        refine n_fg (le_n (le_n (le_n le_0))) ?_
        exact (mat_3_c hS hdm ha hr 12)   (by omega)
      · intro h8
        refine n_iload_n c_150_16 rfl (n_aload_n c_150_17 rfl (n_getV (bi := 0) c_150_18 sc_112.n rfl rfl rfl (t_dm hS hdm) ?_))
        intro z9 ez9 f10
        obtain rfl : z9 = 3 := by omega
        refine n_aload_n c_150_21 rfl (n_getR c_150_22 sc_112.n rfl rfl rfl r_112_5 (n_iload_n c_150_25 rfl (n_ialoadV c_150_26 sc_116.n rfl rfl rfl (by omega) (t_116 hS (by omega)) ?_)))
        intro z11 ez11 f12
        refine n_s2I c_150_27 rfl rfl rfl rfl (mpowerU3_3 (n := z11) hS (by omega)) ?_
        intro z13 M14 hP15
        obtain ⟨eM, f15⟩ := hP15
        subst eM
        refine n_if2_lt c_150_30 (by omega) (by omega) ?_ ?_
        · intro h16
          refine n_aload_n c_150_37 rfl (n_getR c_150_38 sc_112.n rfl rfl rfl r_112_6 (n_bipush c_150_41 rfl (n_iload_n c_150_43 rfl (n_imul c_150_44 rfl (n_iload_n c_150_45 rfl (n_iadd c_150_46 rfl (n_ialoadV c_150_47 sc_117.n rfl rfl rfl (by omega) (t_117 hS (by omega)) ?_)))))))
          intro z17 ez17 f18
          exact n_rI c_150_48 rfl ⟨rfl, by omega⟩
        · intro h19
          refine n_fg (le_n (le_n (le_n le_0))) ?_
          exact (mat_3_c hS hdm ha hr 12)   (by omega)

set_option maxHeartbeats 4000000 in
theorem mlawOf_3_c {xs : List Int32} {e : Nat} {ac : Int} {M0 M : nM} {l : Int} (hS : Sf 3 ac M0 M) (hdm : M0 112 0 = 3) (hl : -2147483648 ≤ l ∧ l ≤ 2147483647) : ∀ nn : Nat, (1 < (nn : Int) → nW xs e 151 12 [none, none] [] M (nPJ fun z M1 => M = M1 ∧ (-9223372036854775808 ≤ z ∧ z ≤ 9223372036854775807))) := by
  have hd : (3 : Int) = 2 ∨ (3 : Int) = 3 := by decide
  have hac := hS.2.2.2.2
  intro nn
  induction nn with
  | zero => intros; omega
  | succ nn ih =>
    intro hnn
    refine n_ldc2 (n := (-1)) c_151_12 rfl (n_goto c_151_15 ?_)
    exact n_rJ c_151_24 rfl ⟨rfl, by omega⟩
set_option maxHeartbeats 4000000 in
theorem mlawOf_3 {xs : List Int32} {e : Nat} {ac : Int} {M0 M : nM} {l : Int} (hS : Sf 3 ac M0 M) (hdm : M0 112 0 = 3) (hl : -2147483648 ≤ l ∧ l ≤ 2147483647) : nW xs e 151 0 [some (2, 112), some (0, l)] [] M (nPJ fun z M1 => M = M1 ∧ (-9223372036854775808 ≤ z ∧ z ≤ 9223372036854775807)) := by
  have hd : (3 : Int) = 2 ∨ (3 : Int) = 3 := by decide
  have hac := hS.2.2.2.2
  refine n_iload_n c_151_0 rfl ?_
  refine n_if0_lt c_151_1 (by omega) ?_ ?_
  · intro h1
    refine n_fg (le_n (le_n le_0)) ?_
    exact (mlawOf_3_c hS hdm hl 12)   (by omega)
  · intro h2
    refine n_iload_n c_151_4 rfl (n_aload_n c_151_5 rfl (n_getV (bi := 7) c_151_6 sc_112.n rfl rfl rfl (t_112_7 hS) ?_))
    intro z3 ez3 f4
    refine n_if2_lt c_151_9 (by omega) (by omega) ?_ ?_
    · intro h5
      refine n_aload_n c_151_18 rfl (n_getR c_151_19 sc_112.n rfl rfl rfl r_112_9 (n_iload_n c_151_22 rfl (n_laloadV c_151_23 sc_119.n rfl rfl rfl (by omega) (t_119 hS (by omega)) ?_)))
      intro z6 ez6 f7
      exact n_rJ c_151_24 rfl ⟨rfl, by omega⟩
    · intro h8
      refine n_fg (le_n (le_n le_0)) ?_
      exact (mlawOf_3_c hS hdm hl 12)   (by omega)

set_option maxHeartbeats 4000000 in
theorem imageT0_3 {xs : List Int32} {e : Nat} {ac : Int} {M0 M : nM} {m f x y z0 : Int} (hS : Sf 3 ac M0 M) (hdm : M0 112 0 = 3) (hm : 0 ≤ m ∧ m ≤ 3) (hf : 0 ≤ f ∧ f ≤ 189) (hx : 0 ≤ x ∧ x ≤ 26) (hy : 0 ≤ y ∧ y ≤ 26) (hz0 : 0 ≤ z0 ∧ z0 ≤ 26) : nW xs (e + 1) 153 0 [some (2, 112), some (0, m), some (2, 117), some (0, f), some (0, 0), some (0, x), some (0, y), some (0, z0), none, none, none, none] [] M (nPI fun z M1 => M = M1 ∧ (0 ≤ z ∧ z ≤ 26)) := by
  have hd : (3 : Int) = 2 ∨ (3 : Int) = 3 := by decide
  have hac := hS.2.2.2.2
  refine n_iconst c_153_0 (n_istore (L2 := [some (2, 112), some (0, m), some (2, 117), some (0, f), some (0, 0), some (0, x), some (0, y), some (0, z0), some (0, 0), none, none, none]) c_153_1 rfl rfl (n_aload_n c_153_3 rfl (n_getV (bi := 0) c_153_4 sc_112.n rfl rfl rfl (t_dm hS hdm) ?_)))
  intro z1 ez1 f2
  obtain rfl : z1 = 3 := by omega
  refine n_iload c_153_7 rfl (n_iconst c_153_9 (n_isub c_153_10 rfl (n_s2I c_153_11 rfl rfl rfl rfl (mpowerN_3 (n := (0 - 1)) hS (by omega)) ?_)))
  intro z3 M4 hP5
  obtain ⟨eM, f5⟩ := hP5
  subst eM
  obtain rfl : z3 = 1 := by omega
  refine n_istore (L2 := [some (2, 112), some (0, m), some (2, 117), some (0, f), some (0, 0), some (0, x), some (0, y), some (0, z0), some (0, 0), some (0, 1), none, none]) c_153_14 rfl rfl (n_iconst c_153_16 (n_istore (L2 := [some (2, 112), some (0, m), some (2, 117), some (0, f), some (0, 0), some (0, x), some (0, y), some (0, z0), some (0, 0), some (0, 1), some (0, 0), none]) c_153_17 rfl rfl (n_iload c_153_19 rfl (n_iload c_153_21 rfl ?_))))
  refine n_if2_ge c_153_23 (by omega) (by omega) ?_ ?_
  · intro h6
    refine n_iload c_153_119 rfl ?_
    exact n_rI c_153_121 rfl ⟨rfl, by omega⟩
  · intro h7
    exfalso; omega

set_option maxHeartbeats 4000000 in
theorem imageT1_3 {xs : List Int32} {e : Nat} {ac : Int} {M0 M : nM} {m f x y z0 : Int} (hS : Sf 3 ac M0 M) (hdm : M0 112 0 = 3) (hm : 0 ≤ m ∧ m ≤ 3) (hf : 0 ≤ f ∧ f ≤ 189) (hx : 0 ≤ x ∧ x ≤ 26) (hy : 0 ≤ y ∧ y ≤ 26) (hz0 : 0 ≤ z0 ∧ z0 ≤ 26) : nW xs (e + 1) 153 0 [some (2, 112), some (0, m), some (2, 117), some (0, f), some (0, 1), some (0, x), some (0, y), some (0, z0), none, none, none, none] [] M (nPI fun z M1 => M = M1 ∧ (0 ≤ z ∧ z ≤ 26)) := by
  have hd : (3 : Int) = 2 ∨ (3 : Int) = 3 := by decide
  have hac := hS.2.2.2.2
  refine n_iconst c_153_0 (n_istore (L2 := [some (2, 112), some (0, m), some (2, 117), some (0, f), some (0, 1), some (0, x), some (0, y), some (0, z0), some (0, 0), none, none, none]) c_153_1 rfl rfl (n_aload_n c_153_3 rfl (n_getV (bi := 0) c_153_4 sc_112.n rfl rfl rfl (t_dm hS hdm) ?_)))
  intro z1 ez1 f2
  obtain rfl : z1 = 3 := by omega
  refine n_iload c_153_7 rfl (n_iconst c_153_9 (n_isub c_153_10 rfl ?_))
  have hcst : ((1 - 1) : Int) = 0 := by omega
  rw [hcst]
  refine n_s2I c_153_11 rfl rfl rfl rfl (mpower0_3  hS ) ?_
  intro z3 M4 hP5
  obtain ⟨eM, f5⟩ := hP5
  subst eM
  obtain rfl : z3 = 1 := by omega
  refine n_istore (L2 := [some (2, 112), some (0, m), some (2, 117), some (0, f), some (0, 1), some (0, x), some (0, y), some (0, z0), some (0, 0), some (0, 1), none, none]) c_153_14 rfl rfl (n_iconst c_153_16 (n_istore (L2 := [some (2, 112), some (0, m), some (2, 117), some (0, f), some (0, 1), some (0, x), some (0, y), some (0, z0), some (0, 0), some (0, 1), some (0, 0), none]) c_153_17 rfl rfl (n_iload c_153_19 rfl (n_iload c_153_21 rfl ?_))))
  refine n_if2_ge c_153_23 (by omega) (by omega) ?_ ?_
  · intro h6
    exfalso; omega
  · intro h7
    refine n_iload c_153_26 rfl (n_iload c_153_28 rfl (n_idivV c_153_30 (by omega) (by omega) ?_))
    intro z8 _ f9
    refine n_aload_n c_153_31 rfl (n_getV (bi := 0) c_153_32 sc_112.n rfl rfl rfl (t_dm hS hdm) ?_)
    intro z10 ez10 f11
    obtain rfl : z10 = 3 := by omega
    refine n_iremV c_153_35 (by omega) (by omega) ?_
    intro z12 _ f13
    refine n_istore (L2 := [some (2, 112), some (0, m), some (2, 117), some (0, f), some (0, 1), some (0, x), some (0, y), some (0, z0), some (0, 0), some (0, 1), some (0, 0), some (0, z12)]) c_153_36 rfl rfl (n_iload_n c_153_38 rfl (n_iconst c_153_39 ?_))
    refine n_if2_le c_153_40 (by omega) (by omega) ?_ ?_
    · intro h14
      refine n_iload_n c_153_63 rfl (n_iconst c_153_64 ?_)
      refine n_if2_le c_153_65 (by omega) (by omega) ?_ ?_
      · intro h15
        refine n_iload c_153_88 rfl (n_aload_n c_153_90 rfl (n_getV (bi := 0) c_153_91 sc_112.n rfl rfl rfl (t_dm hS hdm) ?_))
        intro z16 ez16 f17
        obtain rfl : z16 = 3 := by omega
        refine n_imul c_153_94 rfl (n_aload_n c_153_95 rfl (n_iload_n c_153_96 rfl (n_iload c_153_97 rfl (n_iadd c_153_99 rfl (n_ialoadV c_153_100 sc_117.n rfl rfl rfl (by omega) (t_117 hS (by omega)) ?_)))))
        intro z18 ez18 f19
        refine n_iadd c_153_101 rfl (n_istore (L2 := [some (2, 112), some (0, m), some (2, 117), some (0, f), some (0, 1), some (0, x), some (0, y), some (0, z0), some (0, ((0 * 3) + z18)), some (0, 1), some (0, 0), some (0, z12)]) c_153_102 rfl rfl (n_iload c_153_104 rfl (n_aload_n c_153_106 rfl (n_getV (bi := 0) c_153_107 sc_112.n rfl rfl rfl (t_dm hS hdm) ?_))))
        intro z20 ez20 f21
        obtain rfl : z20 = 3 := by omega
        refine n_idivT (z := 0) c_153_110 (by omega) (by omega) (by omega) (by decide) ?_
        refine n_istore (L2 := [some (2, 112), some (0, m), some (2, 117), some (0, f), some (0, 1), some (0, x), some (0, y), some (0, z0), some (0, ((0 * 3) + z18)), some (0, 0), some (0, 0), some (0, z12)]) c_153_111 rfl rfl (n_iinc (L2 := [some (2, 112), some (0, m), some (2, 117), some (0, f), some (0, 1), some (0, x), some (0, y), some (0, z0), some (0, ((0 * 3) + z18)), some (0, 0), some (0, (0 + 1)), some (0, z12)]) c_153_113 rfl rfl rfl (n_goto c_153_116 (n_iload c_153_19 rfl (n_iload c_153_21 rfl ?_))))
        refine n_if2_ge c_153_23 (by omega) (by omega) ?_ ?_
        · intro h22
          refine n_iload c_153_119 rfl ?_
          exact n_rI c_153_121 rfl ⟨rfl, by omega⟩
        · intro h23
          exfalso; omega
      · intro h24
        exfalso; omega
    · intro h25
      refine n_iload c_153_43 rfl (n_aload_n c_153_45 rfl (n_getV (bi := 0) c_153_46 sc_112.n rfl rfl rfl (t_dm hS hdm) ?_))
      intro z26 ez26 f27
      obtain rfl : z26 = 3 := by omega
      refine n_imul c_153_49 rfl (n_iload c_153_50 rfl (n_iload c_153_52 rfl (n_idivV c_153_54 (by omega) (by omega) ?_)))
      intro z28 _ f29
      refine n_aload_n c_153_55 rfl (n_getV (bi := 0) c_153_56 sc_112.n rfl rfl rfl (t_dm hS hdm) ?_)
      intro z30 ez30 f31
      obtain rfl : z30 = 3 := by omega
      refine n_iremV c_153_59 (by omega) (by omega) ?_
      intro z32 _ f33
      refine n_iadd c_153_60 rfl (n_istore (L2 := [some (2, 112), some (0, m), some (2, 117), some (0, f), some (0, 1), some (0, x), some (0, y), some (0, z0), some (0, 0), some (0, 1), some (0, 0), some (0, ((z12 * 3) + z32))]) c_153_61 rfl rfl (n_iload_n c_153_63 rfl (n_iconst c_153_64 ?_)))
      refine n_if2_le c_153_65 (by omega) (by omega) ?_ ?_
      · intro h34
        refine n_iload c_153_88 rfl (n_aload_n c_153_90 rfl (n_getV (bi := 0) c_153_91 sc_112.n rfl rfl rfl (t_dm hS hdm) ?_))
        intro z35 ez35 f36
        obtain rfl : z35 = 3 := by omega
        refine n_imul c_153_94 rfl (n_aload_n c_153_95 rfl (n_iload_n c_153_96 rfl (n_iload c_153_97 rfl (n_iadd c_153_99 rfl (n_ialoadV c_153_100 sc_117.n rfl rfl rfl (by omega) (t_117 hS (by omega)) ?_)))))
        intro z37 ez37 f38
        refine n_iadd c_153_101 rfl (n_istore (L2 := [some (2, 112), some (0, m), some (2, 117), some (0, f), some (0, 1), some (0, x), some (0, y), some (0, z0), some (0, ((0 * 3) + z37)), some (0, 1), some (0, 0), some (0, ((z12 * 3) + z32))]) c_153_102 rfl rfl (n_iload c_153_104 rfl (n_aload_n c_153_106 rfl (n_getV (bi := 0) c_153_107 sc_112.n rfl rfl rfl (t_dm hS hdm) ?_))))
        intro z39 ez39 f40
        obtain rfl : z39 = 3 := by omega
        refine n_idivT (z := 0) c_153_110 (by omega) (by omega) (by omega) (by decide) ?_
        refine n_istore (L2 := [some (2, 112), some (0, m), some (2, 117), some (0, f), some (0, 1), some (0, x), some (0, y), some (0, z0), some (0, ((0 * 3) + z37)), some (0, 0), some (0, 0), some (0, ((z12 * 3) + z32))]) c_153_111 rfl rfl (n_iinc (L2 := [some (2, 112), some (0, m), some (2, 117), some (0, f), some (0, 1), some (0, x), some (0, y), some (0, z0), some (0, ((0 * 3) + z37)), some (0, 0), some (0, (0 + 1)), some (0, ((z12 * 3) + z32))]) c_153_113 rfl rfl rfl (n_goto c_153_116 (n_iload c_153_19 rfl (n_iload c_153_21 rfl ?_))))
        refine n_if2_ge c_153_23 (by omega) (by omega) ?_ ?_
        · intro h41
          refine n_iload c_153_119 rfl ?_
          exact n_rI c_153_121 rfl ⟨rfl, by omega⟩
        · intro h42
          exfalso; omega
      · intro h43
        refine n_iload c_153_68 rfl (n_aload_n c_153_70 rfl (n_getV (bi := 0) c_153_71 sc_112.n rfl rfl rfl (t_dm hS hdm) ?_))
        intro z44 ez44 f45
        obtain rfl : z44 = 3 := by omega
        refine n_imul c_153_74 rfl (n_iload c_153_75 rfl (n_iload c_153_77 rfl (n_idivV c_153_79 (by omega) (by omega) ?_)))
        intro z46 _ f47
        refine n_aload_n c_153_80 rfl (n_getV (bi := 0) c_153_81 sc_112.n rfl rfl rfl (t_dm hS hdm) ?_)
        intro z48 ez48 f49
        obtain rfl : z48 = 3 := by omega
        refine n_iremV c_153_84 (by omega) (by omega) ?_
        intro z50 _ f51
        refine n_iadd c_153_85 rfl (n_istore (L2 := [some (2, 112), some (0, m), some (2, 117), some (0, f), some (0, 1), some (0, x), some (0, y), some (0, z0), some (0, 0), some (0, 1), some (0, 0), some (0, ((((z12 * 3) + z32) * 3) + z50))]) c_153_86 rfl rfl (n_iload c_153_88 rfl (n_aload_n c_153_90 rfl (n_getV (bi := 0) c_153_91 sc_112.n rfl rfl rfl (t_dm hS hdm) ?_))))
        intro z52 ez52 f53
        obtain rfl : z52 = 3 := by omega
        refine n_imul c_153_94 rfl (n_aload_n c_153_95 rfl (n_iload_n c_153_96 rfl (n_iload c_153_97 rfl (n_iadd c_153_99 rfl (n_ialoadV c_153_100 sc_117.n rfl rfl rfl (by omega) (t_117 hS (by omega)) ?_)))))
        intro z54 ez54 f55
        refine n_iadd c_153_101 rfl (n_istore (L2 := [some (2, 112), some (0, m), some (2, 117), some (0, f), some (0, 1), some (0, x), some (0, y), some (0, z0), some (0, ((0 * 3) + z54)), some (0, 1), some (0, 0), some (0, ((((z12 * 3) + z32) * 3) + z50))]) c_153_102 rfl rfl (n_iload c_153_104 rfl (n_aload_n c_153_106 rfl (n_getV (bi := 0) c_153_107 sc_112.n rfl rfl rfl (t_dm hS hdm) ?_))))
        intro z56 ez56 f57
        obtain rfl : z56 = 3 := by omega
        refine n_idivT (z := 0) c_153_110 (by omega) (by omega) (by omega) (by decide) ?_
        refine n_istore (L2 := [some (2, 112), some (0, m), some (2, 117), some (0, f), some (0, 1), some (0, x), some (0, y), some (0, z0), some (0, ((0 * 3) + z54)), some (0, 0), some (0, 0), some (0, ((((z12 * 3) + z32) * 3) + z50))]) c_153_111 rfl rfl (n_iinc (L2 := [some (2, 112), some (0, m), some (2, 117), some (0, f), some (0, 1), some (0, x), some (0, y), some (0, z0), some (0, ((0 * 3) + z54)), some (0, 0), some (0, (0 + 1)), some (0, ((((z12 * 3) + z32) * 3) + z50))]) c_153_113 rfl rfl rfl (n_goto c_153_116 (n_iload c_153_19 rfl (n_iload c_153_21 rfl ?_))))
        refine n_if2_ge c_153_23 (by omega) (by omega) ?_ ?_
        · intro h58
          refine n_iload c_153_119 rfl ?_
          exact n_rI c_153_121 rfl ⟨rfl, by omega⟩
        · intro h59
          exfalso; omega

set_option maxHeartbeats 4000000 in
theorem imageT2_3 {xs : List Int32} {e : Nat} {ac : Int} {M0 M : nM} {m f x y z0 : Int} (hS : Sf 3 ac M0 M) (hdm : M0 112 0 = 3) (hm : 0 ≤ m ∧ m ≤ 3) (hf : 0 ≤ f ∧ f ≤ 189) (hx : 0 ≤ x ∧ x ≤ 26) (hy : 0 ≤ y ∧ y ≤ 26) (hz0 : 0 ≤ z0 ∧ z0 ≤ 26) : nW xs (e + 1) 153 0 [some (2, 112), some (0, m), some (2, 117), some (0, f), some (0, 2), some (0, x), some (0, y), some (0, z0), none, none, none, none] [] M (nPI fun z M1 => M = M1 ∧ (0 ≤ z ∧ z ≤ 26)) := by
  have hd : (3 : Int) = 2 ∨ (3 : Int) = 3 := by decide
  have hac := hS.2.2.2.2
  refine n_iconst c_153_0 (n_istore (L2 := [some (2, 112), some (0, m), some (2, 117), some (0, f), some (0, 2), some (0, x), some (0, y), some (0, z0), some (0, 0), none, none, none]) c_153_1 rfl rfl (n_aload_n c_153_3 rfl (n_getV (bi := 0) c_153_4 sc_112.n rfl rfl rfl (t_dm hS hdm) ?_)))
  intro z1 ez1 f2
  obtain rfl : z1 = 3 := by omega
  refine n_iload c_153_7 rfl (n_iconst c_153_9 (n_isub c_153_10 rfl ?_))
  have hcst : ((2 - 1) : Int) = 1 := by omega
  rw [hcst]
  refine n_s2I c_153_11 rfl rfl rfl rfl (mpower1_3  hS ) ?_
  intro z3 M4 hP5
  obtain ⟨eM, f5⟩ := hP5
  subst eM
  obtain rfl : z3 = 3 := by omega
  refine n_istore (L2 := [some (2, 112), some (0, m), some (2, 117), some (0, f), some (0, 2), some (0, x), some (0, y), some (0, z0), some (0, 0), some (0, 3), none, none]) c_153_14 rfl rfl (n_iconst c_153_16 (n_istore (L2 := [some (2, 112), some (0, m), some (2, 117), some (0, f), some (0, 2), some (0, x), some (0, y), some (0, z0), some (0, 0), some (0, 3), some (0, 0), none]) c_153_17 rfl rfl (n_iload c_153_19 rfl (n_iload c_153_21 rfl ?_))))
  refine n_if2_ge c_153_23 (by omega) (by omega) ?_ ?_
  · intro h6
    exfalso; omega
  · intro h7
    refine n_iload c_153_26 rfl (n_iload c_153_28 rfl (n_idivV c_153_30 (by omega) (by omega) ?_))
    intro z8 _ f9
    refine n_aload_n c_153_31 rfl (n_getV (bi := 0) c_153_32 sc_112.n rfl rfl rfl (t_dm hS hdm) ?_)
    intro z10 ez10 f11
    obtain rfl : z10 = 3 := by omega
    refine n_iremV c_153_35 (by omega) (by omega) ?_
    intro z12 _ f13
    refine n_istore (L2 := [some (2, 112), some (0, m), some (2, 117), some (0, f), some (0, 2), some (0, x), some (0, y), some (0, z0), some (0, 0), some (0, 3), some (0, 0), some (0, z12)]) c_153_36 rfl rfl (n_iload_n c_153_38 rfl (n_iconst c_153_39 ?_))
    refine n_if2_le c_153_40 (by omega) (by omega) ?_ ?_
    · intro h14
      refine n_iload_n c_153_63 rfl (n_iconst c_153_64 ?_)
      refine n_if2_le c_153_65 (by omega) (by omega) ?_ ?_
      · intro h15
        refine n_iload c_153_88 rfl (n_aload_n c_153_90 rfl (n_getV (bi := 0) c_153_91 sc_112.n rfl rfl rfl (t_dm hS hdm) ?_))
        intro z16 ez16 f17
        obtain rfl : z16 = 3 := by omega
        refine n_imul c_153_94 rfl (n_aload_n c_153_95 rfl (n_iload_n c_153_96 rfl (n_iload c_153_97 rfl (n_iadd c_153_99 rfl (n_ialoadV c_153_100 sc_117.n rfl rfl rfl (by omega) (t_117 hS (by omega)) ?_)))))
        intro z18 ez18 f19
        refine n_iadd c_153_101 rfl (n_istore (L2 := [some (2, 112), some (0, m), some (2, 117), some (0, f), some (0, 2), some (0, x), some (0, y), some (0, z0), some (0, ((0 * 3) + z18)), some (0, 3), some (0, 0), some (0, z12)]) c_153_102 rfl rfl (n_iload c_153_104 rfl (n_aload_n c_153_106 rfl (n_getV (bi := 0) c_153_107 sc_112.n rfl rfl rfl (t_dm hS hdm) ?_))))
        intro z20 ez20 f21
        obtain rfl : z20 = 3 := by omega
        refine n_idivT (z := 1) c_153_110 (by omega) (by omega) (by omega) (by decide) ?_
        refine n_istore (L2 := [some (2, 112), some (0, m), some (2, 117), some (0, f), some (0, 2), some (0, x), some (0, y), some (0, z0), some (0, ((0 * 3) + z18)), some (0, 1), some (0, 0), some (0, z12)]) c_153_111 rfl rfl (n_iinc (L2 := [some (2, 112), some (0, m), some (2, 117), some (0, f), some (0, 2), some (0, x), some (0, y), some (0, z0), some (0, ((0 * 3) + z18)), some (0, 1), some (0, (0 + 1)), some (0, z12)]) c_153_113 rfl rfl rfl (n_goto c_153_116 (n_iload c_153_19 rfl (n_iload c_153_21 rfl ?_))))
        refine n_if2_ge c_153_23 (by omega) (by omega) ?_ ?_
        · intro h22
          exfalso; omega
        · intro h23
          refine n_iload c_153_26 rfl (n_iload c_153_28 rfl (n_idivV c_153_30 (by omega) (by omega) ?_))
          intro z24 _ f25
          refine n_aload_n c_153_31 rfl (n_getV (bi := 0) c_153_32 sc_112.n rfl rfl rfl (t_dm hS hdm) ?_)
          intro z26 ez26 f27
          obtain rfl : z26 = 3 := by omega
          refine n_iremV c_153_35 (by omega) (by omega) ?_
          intro z28 _ f29
          refine n_istore (L2 := [some (2, 112), some (0, m), some (2, 117), some (0, f), some (0, 2), some (0, x), some (0, y), some (0, z0), some (0, ((0 * 3) + z18)), some (0, 1), some (0, (0 + 1)), some (0, z28)]) c_153_36 rfl rfl (n_iload_n c_153_38 rfl (n_iconst c_153_39 ?_))
          refine n_if2_le c_153_40 (by omega) (by omega) ?_ ?_
          · intro h30
            refine n_iload_n c_153_63 rfl (n_iconst c_153_64 ?_)
            refine n_if2_le c_153_65 (by omega) (by omega) ?_ ?_
            · intro h31
              refine n_iload c_153_88 rfl (n_aload_n c_153_90 rfl (n_getV (bi := 0) c_153_91 sc_112.n rfl rfl rfl (t_dm hS hdm) ?_))
              intro z32 ez32 f33
              obtain rfl : z32 = 3 := by omega
              refine n_imul c_153_94 rfl (n_aload_n c_153_95 rfl (n_iload_n c_153_96 rfl (n_iload c_153_97 rfl (n_iadd c_153_99 rfl (n_ialoadV c_153_100 sc_117.n rfl rfl rfl (by omega) (t_117 hS (by omega)) ?_)))))
              intro z34 ez34 f35
              refine n_iadd c_153_101 rfl (n_istore (L2 := [some (2, 112), some (0, m), some (2, 117), some (0, f), some (0, 2), some (0, x), some (0, y), some (0, z0), some (0, ((((0 * 3) + z18) * 3) + z34)), some (0, 1), some (0, (0 + 1)), some (0, z28)]) c_153_102 rfl rfl (n_iload c_153_104 rfl (n_aload_n c_153_106 rfl (n_getV (bi := 0) c_153_107 sc_112.n rfl rfl rfl (t_dm hS hdm) ?_))))
              intro z36 ez36 f37
              obtain rfl : z36 = 3 := by omega
              refine n_idivT (z := 0) c_153_110 (by omega) (by omega) (by omega) (by decide) ?_
              refine n_istore (L2 := [some (2, 112), some (0, m), some (2, 117), some (0, f), some (0, 2), some (0, x), some (0, y), some (0, z0), some (0, ((((0 * 3) + z18) * 3) + z34)), some (0, 0), some (0, (0 + 1)), some (0, z28)]) c_153_111 rfl rfl (n_iinc (L2 := [some (2, 112), some (0, m), some (2, 117), some (0, f), some (0, 2), some (0, x), some (0, y), some (0, z0), some (0, ((((0 * 3) + z18) * 3) + z34)), some (0, 0), some (0, ((0 + 1) + 1)), some (0, z28)]) c_153_113 rfl rfl rfl (n_goto c_153_116 (n_iload c_153_19 rfl (n_iload c_153_21 rfl ?_))))
              refine n_if2_ge c_153_23 (by omega) (by omega) ?_ ?_
              · intro h38
                refine n_iload c_153_119 rfl ?_
                exact n_rI c_153_121 rfl ⟨rfl, by omega⟩
              · intro h39
                exfalso; omega
            · intro h40
              exfalso; omega
          · intro h41
            exfalso; omega
      · intro h42
        exfalso; omega
    · intro h43
      refine n_iload c_153_43 rfl (n_aload_n c_153_45 rfl (n_getV (bi := 0) c_153_46 sc_112.n rfl rfl rfl (t_dm hS hdm) ?_))
      intro z44 ez44 f45
      obtain rfl : z44 = 3 := by omega
      refine n_imul c_153_49 rfl (n_iload c_153_50 rfl (n_iload c_153_52 rfl (n_idivV c_153_54 (by omega) (by omega) ?_)))
      intro z46 _ f47
      refine n_aload_n c_153_55 rfl (n_getV (bi := 0) c_153_56 sc_112.n rfl rfl rfl (t_dm hS hdm) ?_)
      intro z48 ez48 f49
      obtain rfl : z48 = 3 := by omega
      refine n_iremV c_153_59 (by omega) (by omega) ?_
      intro z50 _ f51
      refine n_iadd c_153_60 rfl (n_istore (L2 := [some (2, 112), some (0, m), some (2, 117), some (0, f), some (0, 2), some (0, x), some (0, y), some (0, z0), some (0, 0), some (0, 3), some (0, 0), some (0, ((z12 * 3) + z50))]) c_153_61 rfl rfl (n_iload_n c_153_63 rfl (n_iconst c_153_64 ?_)))
      refine n_if2_le c_153_65 (by omega) (by omega) ?_ ?_
      · intro h52
        refine n_iload c_153_88 rfl (n_aload_n c_153_90 rfl (n_getV (bi := 0) c_153_91 sc_112.n rfl rfl rfl (t_dm hS hdm) ?_))
        intro z53 ez53 f54
        obtain rfl : z53 = 3 := by omega
        refine n_imul c_153_94 rfl (n_aload_n c_153_95 rfl (n_iload_n c_153_96 rfl (n_iload c_153_97 rfl (n_iadd c_153_99 rfl (n_ialoadV c_153_100 sc_117.n rfl rfl rfl (by omega) (t_117 hS (by omega)) ?_)))))
        intro z55 ez55 f56
        refine n_iadd c_153_101 rfl (n_istore (L2 := [some (2, 112), some (0, m), some (2, 117), some (0, f), some (0, 2), some (0, x), some (0, y), some (0, z0), some (0, ((0 * 3) + z55)), some (0, 3), some (0, 0), some (0, ((z12 * 3) + z50))]) c_153_102 rfl rfl (n_iload c_153_104 rfl (n_aload_n c_153_106 rfl (n_getV (bi := 0) c_153_107 sc_112.n rfl rfl rfl (t_dm hS hdm) ?_))))
        intro z57 ez57 f58
        obtain rfl : z57 = 3 := by omega
        refine n_idivT (z := 1) c_153_110 (by omega) (by omega) (by omega) (by decide) ?_
        refine n_istore (L2 := [some (2, 112), some (0, m), some (2, 117), some (0, f), some (0, 2), some (0, x), some (0, y), some (0, z0), some (0, ((0 * 3) + z55)), some (0, 1), some (0, 0), some (0, ((z12 * 3) + z50))]) c_153_111 rfl rfl (n_iinc (L2 := [some (2, 112), some (0, m), some (2, 117), some (0, f), some (0, 2), some (0, x), some (0, y), some (0, z0), some (0, ((0 * 3) + z55)), some (0, 1), some (0, (0 + 1)), some (0, ((z12 * 3) + z50))]) c_153_113 rfl rfl rfl (n_goto c_153_116 (n_iload c_153_19 rfl (n_iload c_153_21 rfl ?_))))
        refine n_if2_ge c_153_23 (by omega) (by omega) ?_ ?_
        · intro h59
          exfalso; omega
        · intro h60
          refine n_iload c_153_26 rfl (n_iload c_153_28 rfl (n_idivV c_153_30 (by omega) (by omega) ?_))
          intro z61 _ f62
          refine n_aload_n c_153_31 rfl (n_getV (bi := 0) c_153_32 sc_112.n rfl rfl rfl (t_dm hS hdm) ?_)
          intro z63 ez63 f64
          obtain rfl : z63 = 3 := by omega
          refine n_iremV c_153_35 (by omega) (by omega) ?_
          intro z65 _ f66
          refine n_istore (L2 := [some (2, 112), some (0, m), some (2, 117), some (0, f), some (0, 2), some (0, x), some (0, y), some (0, z0), some (0, ((0 * 3) + z55)), some (0, 1), some (0, (0 + 1)), some (0, z65)]) c_153_36 rfl rfl (n_iload_n c_153_38 rfl (n_iconst c_153_39 ?_))
          refine n_if2_le c_153_40 (by omega) (by omega) ?_ ?_
          · intro h67
            exfalso; omega
          · intro h68
            refine n_iload c_153_43 rfl (n_aload_n c_153_45 rfl (n_getV (bi := 0) c_153_46 sc_112.n rfl rfl rfl (t_dm hS hdm) ?_))
            intro z69 ez69 f70
            obtain rfl : z69 = 3 := by omega
            refine n_imul c_153_49 rfl (n_iload c_153_50 rfl (n_iload c_153_52 rfl (n_idivV c_153_54 (by omega) (by omega) ?_)))
            intro z71 _ f72
            refine n_aload_n c_153_55 rfl (n_getV (bi := 0) c_153_56 sc_112.n rfl rfl rfl (t_dm hS hdm) ?_)
            intro z73 ez73 f74
            obtain rfl : z73 = 3 := by omega
            refine n_iremV c_153_59 (by omega) (by omega) ?_
            intro z75 _ f76
            refine n_iadd c_153_60 rfl (n_istore (L2 := [some (2, 112), some (0, m), some (2, 117), some (0, f), some (0, 2), some (0, x), some (0, y), some (0, z0), some (0, ((0 * 3) + z55)), some (0, 1), some (0, (0 + 1)), some (0, ((z65 * 3) + z75))]) c_153_61 rfl rfl (n_iload_n c_153_63 rfl (n_iconst c_153_64 ?_)))
            refine n_if2_le c_153_65 (by omega) (by omega) ?_ ?_
            · intro h77
              refine n_iload c_153_88 rfl (n_aload_n c_153_90 rfl (n_getV (bi := 0) c_153_91 sc_112.n rfl rfl rfl (t_dm hS hdm) ?_))
              intro z78 ez78 f79
              obtain rfl : z78 = 3 := by omega
              refine n_imul c_153_94 rfl (n_aload_n c_153_95 rfl (n_iload_n c_153_96 rfl (n_iload c_153_97 rfl (n_iadd c_153_99 rfl (n_ialoadV c_153_100 sc_117.n rfl rfl rfl (by omega) (t_117 hS (by omega)) ?_)))))
              intro z80 ez80 f81
              refine n_iadd c_153_101 rfl (n_istore (L2 := [some (2, 112), some (0, m), some (2, 117), some (0, f), some (0, 2), some (0, x), some (0, y), some (0, z0), some (0, ((((0 * 3) + z55) * 3) + z80)), some (0, 1), some (0, (0 + 1)), some (0, ((z65 * 3) + z75))]) c_153_102 rfl rfl (n_iload c_153_104 rfl (n_aload_n c_153_106 rfl (n_getV (bi := 0) c_153_107 sc_112.n rfl rfl rfl (t_dm hS hdm) ?_))))
              intro z82 ez82 f83
              obtain rfl : z82 = 3 := by omega
              refine n_idivT (z := 0) c_153_110 (by omega) (by omega) (by omega) (by decide) ?_
              refine n_istore (L2 := [some (2, 112), some (0, m), some (2, 117), some (0, f), some (0, 2), some (0, x), some (0, y), some (0, z0), some (0, ((((0 * 3) + z55) * 3) + z80)), some (0, 0), some (0, (0 + 1)), some (0, ((z65 * 3) + z75))]) c_153_111 rfl rfl (n_iinc (L2 := [some (2, 112), some (0, m), some (2, 117), some (0, f), some (0, 2), some (0, x), some (0, y), some (0, z0), some (0, ((((0 * 3) + z55) * 3) + z80)), some (0, 0), some (0, ((0 + 1) + 1)), some (0, ((z65 * 3) + z75))]) c_153_113 rfl rfl rfl (n_goto c_153_116 (n_iload c_153_19 rfl (n_iload c_153_21 rfl ?_))))
              refine n_if2_ge c_153_23 (by omega) (by omega) ?_ ?_
              · intro h84
                refine n_iload c_153_119 rfl ?_
                exact n_rI c_153_121 rfl ⟨rfl, by omega⟩
              · intro h85
                exfalso; omega
            · intro h86
              exfalso; omega
      · intro h87
        refine n_iload c_153_68 rfl (n_aload_n c_153_70 rfl (n_getV (bi := 0) c_153_71 sc_112.n rfl rfl rfl (t_dm hS hdm) ?_))
        intro z88 ez88 f89
        obtain rfl : z88 = 3 := by omega
        refine n_imul c_153_74 rfl (n_iload c_153_75 rfl (n_iload c_153_77 rfl (n_idivV c_153_79 (by omega) (by omega) ?_)))
        intro z90 _ f91
        refine n_aload_n c_153_80 rfl (n_getV (bi := 0) c_153_81 sc_112.n rfl rfl rfl (t_dm hS hdm) ?_)
        intro z92 ez92 f93
        obtain rfl : z92 = 3 := by omega
        refine n_iremV c_153_84 (by omega) (by omega) ?_
        intro z94 _ f95
        refine n_iadd c_153_85 rfl (n_istore (L2 := [some (2, 112), some (0, m), some (2, 117), some (0, f), some (0, 2), some (0, x), some (0, y), some (0, z0), some (0, 0), some (0, 3), some (0, 0), some (0, ((((z12 * 3) + z50) * 3) + z94))]) c_153_86 rfl rfl (n_iload c_153_88 rfl (n_aload_n c_153_90 rfl (n_getV (bi := 0) c_153_91 sc_112.n rfl rfl rfl (t_dm hS hdm) ?_))))
        intro z96 ez96 f97
        obtain rfl : z96 = 3 := by omega
        refine n_imul c_153_94 rfl (n_aload_n c_153_95 rfl (n_iload_n c_153_96 rfl (n_iload c_153_97 rfl (n_iadd c_153_99 rfl (n_ialoadV c_153_100 sc_117.n rfl rfl rfl (by omega) (t_117 hS (by omega)) ?_)))))
        intro z98 ez98 f99
        refine n_iadd c_153_101 rfl (n_istore (L2 := [some (2, 112), some (0, m), some (2, 117), some (0, f), some (0, 2), some (0, x), some (0, y), some (0, z0), some (0, ((0 * 3) + z98)), some (0, 3), some (0, 0), some (0, ((((z12 * 3) + z50) * 3) + z94))]) c_153_102 rfl rfl (n_iload c_153_104 rfl (n_aload_n c_153_106 rfl (n_getV (bi := 0) c_153_107 sc_112.n rfl rfl rfl (t_dm hS hdm) ?_))))
        intro z100 ez100 f101
        obtain rfl : z100 = 3 := by omega
        refine n_idivT (z := 1) c_153_110 (by omega) (by omega) (by omega) (by decide) ?_
        refine n_istore (L2 := [some (2, 112), some (0, m), some (2, 117), some (0, f), some (0, 2), some (0, x), some (0, y), some (0, z0), some (0, ((0 * 3) + z98)), some (0, 1), some (0, 0), some (0, ((((z12 * 3) + z50) * 3) + z94))]) c_153_111 rfl rfl (n_iinc (L2 := [some (2, 112), some (0, m), some (2, 117), some (0, f), some (0, 2), some (0, x), some (0, y), some (0, z0), some (0, ((0 * 3) + z98)), some (0, 1), some (0, (0 + 1)), some (0, ((((z12 * 3) + z50) * 3) + z94))]) c_153_113 rfl rfl rfl (n_goto c_153_116 (n_iload c_153_19 rfl (n_iload c_153_21 rfl ?_))))
        refine n_if2_ge c_153_23 (by omega) (by omega) ?_ ?_
        · intro h102
          exfalso; omega
        · intro h103
          refine n_iload c_153_26 rfl (n_iload c_153_28 rfl (n_idivV c_153_30 (by omega) (by omega) ?_))
          intro z104 _ f105
          refine n_aload_n c_153_31 rfl (n_getV (bi := 0) c_153_32 sc_112.n rfl rfl rfl (t_dm hS hdm) ?_)
          intro z106 ez106 f107
          obtain rfl : z106 = 3 := by omega
          refine n_iremV c_153_35 (by omega) (by omega) ?_
          intro z108 _ f109
          refine n_istore (L2 := [some (2, 112), some (0, m), some (2, 117), some (0, f), some (0, 2), some (0, x), some (0, y), some (0, z0), some (0, ((0 * 3) + z98)), some (0, 1), some (0, (0 + 1)), some (0, z108)]) c_153_36 rfl rfl (n_iload_n c_153_38 rfl (n_iconst c_153_39 ?_))
          refine n_if2_le c_153_40 (by omega) (by omega) ?_ ?_
          · intro h110
            exfalso; omega
          · intro h111
            refine n_iload c_153_43 rfl (n_aload_n c_153_45 rfl (n_getV (bi := 0) c_153_46 sc_112.n rfl rfl rfl (t_dm hS hdm) ?_))
            intro z112 ez112 f113
            obtain rfl : z112 = 3 := by omega
            refine n_imul c_153_49 rfl (n_iload c_153_50 rfl (n_iload c_153_52 rfl (n_idivV c_153_54 (by omega) (by omega) ?_)))
            intro z114 _ f115
            refine n_aload_n c_153_55 rfl (n_getV (bi := 0) c_153_56 sc_112.n rfl rfl rfl (t_dm hS hdm) ?_)
            intro z116 ez116 f117
            obtain rfl : z116 = 3 := by omega
            refine n_iremV c_153_59 (by omega) (by omega) ?_
            intro z118 _ f119
            refine n_iadd c_153_60 rfl (n_istore (L2 := [some (2, 112), some (0, m), some (2, 117), some (0, f), some (0, 2), some (0, x), some (0, y), some (0, z0), some (0, ((0 * 3) + z98)), some (0, 1), some (0, (0 + 1)), some (0, ((z108 * 3) + z118))]) c_153_61 rfl rfl (n_iload_n c_153_63 rfl (n_iconst c_153_64 ?_)))
            refine n_if2_le c_153_65 (by omega) (by omega) ?_ ?_
            · intro h120
              exfalso; omega
            · intro h121
              refine n_iload c_153_68 rfl (n_aload_n c_153_70 rfl (n_getV (bi := 0) c_153_71 sc_112.n rfl rfl rfl (t_dm hS hdm) ?_))
              intro z122 ez122 f123
              obtain rfl : z122 = 3 := by omega
              refine n_imul c_153_74 rfl (n_iload c_153_75 rfl (n_iload c_153_77 rfl (n_idivV c_153_79 (by omega) (by omega) ?_)))
              intro z124 _ f125
              refine n_aload_n c_153_80 rfl (n_getV (bi := 0) c_153_81 sc_112.n rfl rfl rfl (t_dm hS hdm) ?_)
              intro z126 ez126 f127
              obtain rfl : z126 = 3 := by omega
              refine n_iremV c_153_84 (by omega) (by omega) ?_
              intro z128 _ f129
              refine n_iadd c_153_85 rfl (n_istore (L2 := [some (2, 112), some (0, m), some (2, 117), some (0, f), some (0, 2), some (0, x), some (0, y), some (0, z0), some (0, ((0 * 3) + z98)), some (0, 1), some (0, (0 + 1)), some (0, ((((z108 * 3) + z118) * 3) + z128))]) c_153_86 rfl rfl (n_iload c_153_88 rfl (n_aload_n c_153_90 rfl (n_getV (bi := 0) c_153_91 sc_112.n rfl rfl rfl (t_dm hS hdm) ?_))))
              intro z130 ez130 f131
              obtain rfl : z130 = 3 := by omega
              refine n_imul c_153_94 rfl (n_aload_n c_153_95 rfl (n_iload_n c_153_96 rfl (n_iload c_153_97 rfl (n_iadd c_153_99 rfl (n_ialoadV c_153_100 sc_117.n rfl rfl rfl (by omega) (t_117 hS (by omega)) ?_)))))
              intro z132 ez132 f133
              refine n_iadd c_153_101 rfl (n_istore (L2 := [some (2, 112), some (0, m), some (2, 117), some (0, f), some (0, 2), some (0, x), some (0, y), some (0, z0), some (0, ((((0 * 3) + z98) * 3) + z132)), some (0, 1), some (0, (0 + 1)), some (0, ((((z108 * 3) + z118) * 3) + z128))]) c_153_102 rfl rfl (n_iload c_153_104 rfl (n_aload_n c_153_106 rfl (n_getV (bi := 0) c_153_107 sc_112.n rfl rfl rfl (t_dm hS hdm) ?_))))
              intro z134 ez134 f135
              obtain rfl : z134 = 3 := by omega
              refine n_idivT (z := 0) c_153_110 (by omega) (by omega) (by omega) (by decide) ?_
              refine n_istore (L2 := [some (2, 112), some (0, m), some (2, 117), some (0, f), some (0, 2), some (0, x), some (0, y), some (0, z0), some (0, ((((0 * 3) + z98) * 3) + z132)), some (0, 0), some (0, (0 + 1)), some (0, ((((z108 * 3) + z118) * 3) + z128))]) c_153_111 rfl rfl (n_iinc (L2 := [some (2, 112), some (0, m), some (2, 117), some (0, f), some (0, 2), some (0, x), some (0, y), some (0, z0), some (0, ((((0 * 3) + z98) * 3) + z132)), some (0, 0), some (0, ((0 + 1) + 1)), some (0, ((((z108 * 3) + z118) * 3) + z128))]) c_153_113 rfl rfl rfl (n_goto c_153_116 (n_iload c_153_19 rfl (n_iload c_153_21 rfl ?_))))
              refine n_if2_ge c_153_23 (by omega) (by omega) ?_ ?_
              · intro h136
                refine n_iload c_153_119 rfl ?_
                exact n_rI c_153_121 rfl ⟨rfl, by omega⟩
              · intro h137
                exfalso; omega

set_option maxHeartbeats 4000000 in
theorem imageT3_3 {xs : List Int32} {e : Nat} {ac : Int} {M0 M : nM} {m f x y z0 : Int} (hS : Sf 3 ac M0 M) (hdm : M0 112 0 = 3) (hm : 0 ≤ m ∧ m ≤ 3) (hf : 0 ≤ f ∧ f ≤ 189) (hx : 0 ≤ x ∧ x ≤ 26) (hy : 0 ≤ y ∧ y ≤ 26) (hz0 : 0 ≤ z0 ∧ z0 ≤ 26) : nW xs (e + 1) 153 0 [some (2, 112), some (0, m), some (2, 117), some (0, f), some (0, 3), some (0, x), some (0, y), some (0, z0), none, none, none, none] [] M (nPI fun z M1 => M = M1 ∧ (0 ≤ z ∧ z ≤ 26)) := by
  have hd : (3 : Int) = 2 ∨ (3 : Int) = 3 := by decide
  have hac := hS.2.2.2.2
  refine n_iconst c_153_0 (n_istore (L2 := [some (2, 112), some (0, m), some (2, 117), some (0, f), some (0, 3), some (0, x), some (0, y), some (0, z0), some (0, 0), none, none, none]) c_153_1 rfl rfl (n_aload_n c_153_3 rfl (n_getV (bi := 0) c_153_4 sc_112.n rfl rfl rfl (t_dm hS hdm) ?_)))
  intro z1 ez1 f2
  obtain rfl : z1 = 3 := by omega
  refine n_iload c_153_7 rfl (n_iconst c_153_9 (n_isub c_153_10 rfl ?_))
  have hcst : ((3 - 1) : Int) = 2 := by omega
  rw [hcst]
  refine n_s2I c_153_11 rfl rfl rfl rfl (mpower2_3  hS ) ?_
  intro z3 M4 hP5
  obtain ⟨eM, f5⟩ := hP5
  subst eM
  obtain rfl : z3 = 9 := by omega
  refine n_istore (L2 := [some (2, 112), some (0, m), some (2, 117), some (0, f), some (0, 3), some (0, x), some (0, y), some (0, z0), some (0, 0), some (0, 9), none, none]) c_153_14 rfl rfl (n_iconst c_153_16 (n_istore (L2 := [some (2, 112), some (0, m), some (2, 117), some (0, f), some (0, 3), some (0, x), some (0, y), some (0, z0), some (0, 0), some (0, 9), some (0, 0), none]) c_153_17 rfl rfl (n_iload c_153_19 rfl (n_iload c_153_21 rfl ?_))))
  refine n_if2_ge c_153_23 (by omega) (by omega) ?_ ?_
  · intro h6
    exfalso; omega
  · intro h7
    refine n_iload c_153_26 rfl (n_iload c_153_28 rfl (n_idivV c_153_30 (by omega) (by omega) ?_))
    intro z8 _ f9
    refine n_aload_n c_153_31 rfl (n_getV (bi := 0) c_153_32 sc_112.n rfl rfl rfl (t_dm hS hdm) ?_)
    intro z10 ez10 f11
    obtain rfl : z10 = 3 := by omega
    refine n_iremV c_153_35 (by omega) (by omega) ?_
    intro z12 _ f13
    refine n_istore (L2 := [some (2, 112), some (0, m), some (2, 117), some (0, f), some (0, 3), some (0, x), some (0, y), some (0, z0), some (0, 0), some (0, 9), some (0, 0), some (0, z12)]) c_153_36 rfl rfl (n_iload_n c_153_38 rfl (n_iconst c_153_39 ?_))
    refine n_if2_le c_153_40 (by omega) (by omega) ?_ ?_
    · intro h14
      refine n_iload_n c_153_63 rfl (n_iconst c_153_64 ?_)
      refine n_if2_le c_153_65 (by omega) (by omega) ?_ ?_
      · intro h15
        refine n_iload c_153_88 rfl (n_aload_n c_153_90 rfl (n_getV (bi := 0) c_153_91 sc_112.n rfl rfl rfl (t_dm hS hdm) ?_))
        intro z16 ez16 f17
        obtain rfl : z16 = 3 := by omega
        refine n_imul c_153_94 rfl (n_aload_n c_153_95 rfl (n_iload_n c_153_96 rfl (n_iload c_153_97 rfl (n_iadd c_153_99 rfl (n_ialoadV c_153_100 sc_117.n rfl rfl rfl (by omega) (t_117 hS (by omega)) ?_)))))
        intro z18 ez18 f19
        refine n_iadd c_153_101 rfl (n_istore (L2 := [some (2, 112), some (0, m), some (2, 117), some (0, f), some (0, 3), some (0, x), some (0, y), some (0, z0), some (0, ((0 * 3) + z18)), some (0, 9), some (0, 0), some (0, z12)]) c_153_102 rfl rfl (n_iload c_153_104 rfl (n_aload_n c_153_106 rfl (n_getV (bi := 0) c_153_107 sc_112.n rfl rfl rfl (t_dm hS hdm) ?_))))
        intro z20 ez20 f21
        obtain rfl : z20 = 3 := by omega
        refine n_idivT (z := 3) c_153_110 (by omega) (by omega) (by omega) (by decide) ?_
        refine n_istore (L2 := [some (2, 112), some (0, m), some (2, 117), some (0, f), some (0, 3), some (0, x), some (0, y), some (0, z0), some (0, ((0 * 3) + z18)), some (0, 3), some (0, 0), some (0, z12)]) c_153_111 rfl rfl (n_iinc (L2 := [some (2, 112), some (0, m), some (2, 117), some (0, f), some (0, 3), some (0, x), some (0, y), some (0, z0), some (0, ((0 * 3) + z18)), some (0, 3), some (0, (0 + 1)), some (0, z12)]) c_153_113 rfl rfl rfl (n_goto c_153_116 (n_iload c_153_19 rfl (n_iload c_153_21 rfl ?_))))
        refine n_if2_ge c_153_23 (by omega) (by omega) ?_ ?_
        · intro h22
          exfalso; omega
        · intro h23
          refine n_iload c_153_26 rfl (n_iload c_153_28 rfl (n_idivV c_153_30 (by omega) (by omega) ?_))
          intro z24 _ f25
          refine n_aload_n c_153_31 rfl (n_getV (bi := 0) c_153_32 sc_112.n rfl rfl rfl (t_dm hS hdm) ?_)
          intro z26 ez26 f27
          obtain rfl : z26 = 3 := by omega
          refine n_iremV c_153_35 (by omega) (by omega) ?_
          intro z28 _ f29
          refine n_istore (L2 := [some (2, 112), some (0, m), some (2, 117), some (0, f), some (0, 3), some (0, x), some (0, y), some (0, z0), some (0, ((0 * 3) + z18)), some (0, 3), some (0, (0 + 1)), some (0, z28)]) c_153_36 rfl rfl (n_iload_n c_153_38 rfl (n_iconst c_153_39 ?_))
          refine n_if2_le c_153_40 (by omega) (by omega) ?_ ?_
          · intro h30
            refine n_iload_n c_153_63 rfl (n_iconst c_153_64 ?_)
            refine n_if2_le c_153_65 (by omega) (by omega) ?_ ?_
            · intro h31
              refine n_iload c_153_88 rfl (n_aload_n c_153_90 rfl (n_getV (bi := 0) c_153_91 sc_112.n rfl rfl rfl (t_dm hS hdm) ?_))
              intro z32 ez32 f33
              obtain rfl : z32 = 3 := by omega
              refine n_imul c_153_94 rfl (n_aload_n c_153_95 rfl (n_iload_n c_153_96 rfl (n_iload c_153_97 rfl (n_iadd c_153_99 rfl (n_ialoadV c_153_100 sc_117.n rfl rfl rfl (by omega) (t_117 hS (by omega)) ?_)))))
              intro z34 ez34 f35
              refine n_iadd c_153_101 rfl (n_istore (L2 := [some (2, 112), some (0, m), some (2, 117), some (0, f), some (0, 3), some (0, x), some (0, y), some (0, z0), some (0, ((((0 * 3) + z18) * 3) + z34)), some (0, 3), some (0, (0 + 1)), some (0, z28)]) c_153_102 rfl rfl (n_iload c_153_104 rfl (n_aload_n c_153_106 rfl (n_getV (bi := 0) c_153_107 sc_112.n rfl rfl rfl (t_dm hS hdm) ?_))))
              intro z36 ez36 f37
              obtain rfl : z36 = 3 := by omega
              refine n_idivT (z := 1) c_153_110 (by omega) (by omega) (by omega) (by decide) ?_
              refine n_istore (L2 := [some (2, 112), some (0, m), some (2, 117), some (0, f), some (0, 3), some (0, x), some (0, y), some (0, z0), some (0, ((((0 * 3) + z18) * 3) + z34)), some (0, 1), some (0, (0 + 1)), some (0, z28)]) c_153_111 rfl rfl (n_iinc (L2 := [some (2, 112), some (0, m), some (2, 117), some (0, f), some (0, 3), some (0, x), some (0, y), some (0, z0), some (0, ((((0 * 3) + z18) * 3) + z34)), some (0, 1), some (0, ((0 + 1) + 1)), some (0, z28)]) c_153_113 rfl rfl rfl (n_goto c_153_116 (n_iload c_153_19 rfl (n_iload c_153_21 rfl ?_))))
              refine n_if2_ge c_153_23 (by omega) (by omega) ?_ ?_
              · intro h38
                exfalso; omega
              · intro h39
                refine n_iload c_153_26 rfl (n_iload c_153_28 rfl (n_idivV c_153_30 (by omega) (by omega) ?_))
                intro z40 _ f41
                refine n_aload_n c_153_31 rfl (n_getV (bi := 0) c_153_32 sc_112.n rfl rfl rfl (t_dm hS hdm) ?_)
                intro z42 ez42 f43
                obtain rfl : z42 = 3 := by omega
                refine n_iremV c_153_35 (by omega) (by omega) ?_
                intro z44 _ f45
                refine n_istore (L2 := [some (2, 112), some (0, m), some (2, 117), some (0, f), some (0, 3), some (0, x), some (0, y), some (0, z0), some (0, ((((0 * 3) + z18) * 3) + z34)), some (0, 1), some (0, ((0 + 1) + 1)), some (0, z44)]) c_153_36 rfl rfl (n_iload_n c_153_38 rfl (n_iconst c_153_39 ?_))
                refine n_if2_le c_153_40 (by omega) (by omega) ?_ ?_
                · intro h46
                  refine n_iload_n c_153_63 rfl (n_iconst c_153_64 ?_)
                  refine n_if2_le c_153_65 (by omega) (by omega) ?_ ?_
                  · intro h47
                    refine n_iload c_153_88 rfl (n_aload_n c_153_90 rfl (n_getV (bi := 0) c_153_91 sc_112.n rfl rfl rfl (t_dm hS hdm) ?_))
                    intro z48 ez48 f49
                    obtain rfl : z48 = 3 := by omega
                    refine n_imul c_153_94 rfl (n_aload_n c_153_95 rfl (n_iload_n c_153_96 rfl (n_iload c_153_97 rfl (n_iadd c_153_99 rfl (n_ialoadV c_153_100 sc_117.n rfl rfl rfl (by omega) (t_117 hS (by omega)) ?_)))))
                    intro z50 ez50 f51
                    refine n_iadd c_153_101 rfl (n_istore (L2 := [some (2, 112), some (0, m), some (2, 117), some (0, f), some (0, 3), some (0, x), some (0, y), some (0, z0), some (0, ((((((0 * 3) + z18) * 3) + z34) * 3) + z50)), some (0, 1), some (0, ((0 + 1) + 1)), some (0, z44)]) c_153_102 rfl rfl (n_iload c_153_104 rfl (n_aload_n c_153_106 rfl (n_getV (bi := 0) c_153_107 sc_112.n rfl rfl rfl (t_dm hS hdm) ?_))))
                    intro z52 ez52 f53
                    obtain rfl : z52 = 3 := by omega
                    refine n_idivT (z := 0) c_153_110 (by omega) (by omega) (by omega) (by decide) ?_
                    refine n_istore (L2 := [some (2, 112), some (0, m), some (2, 117), some (0, f), some (0, 3), some (0, x), some (0, y), some (0, z0), some (0, ((((((0 * 3) + z18) * 3) + z34) * 3) + z50)), some (0, 0), some (0, ((0 + 1) + 1)), some (0, z44)]) c_153_111 rfl rfl (n_iinc (L2 := [some (2, 112), some (0, m), some (2, 117), some (0, f), some (0, 3), some (0, x), some (0, y), some (0, z0), some (0, ((((((0 * 3) + z18) * 3) + z34) * 3) + z50)), some (0, 0), some (0, (((0 + 1) + 1) + 1)), some (0, z44)]) c_153_113 rfl rfl rfl (n_goto c_153_116 (n_iload c_153_19 rfl (n_iload c_153_21 rfl ?_))))
                    refine n_if2_ge c_153_23 (by omega) (by omega) ?_ ?_
                    · intro h54
                      refine n_iload c_153_119 rfl ?_
                      exact n_rI c_153_121 rfl ⟨rfl, by omega⟩
                    · intro h55
                      exfalso; omega
                  · intro h56
                    exfalso; omega
                · intro h57
                  exfalso; omega
            · intro h58
              exfalso; omega
          · intro h59
            exfalso; omega
      · intro h60
        exfalso; omega
    · intro h61
      refine n_iload c_153_43 rfl (n_aload_n c_153_45 rfl (n_getV (bi := 0) c_153_46 sc_112.n rfl rfl rfl (t_dm hS hdm) ?_))
      intro z62 ez62 f63
      obtain rfl : z62 = 3 := by omega
      refine n_imul c_153_49 rfl (n_iload c_153_50 rfl (n_iload c_153_52 rfl (n_idivV c_153_54 (by omega) (by omega) ?_)))
      intro z64 _ f65
      refine n_aload_n c_153_55 rfl (n_getV (bi := 0) c_153_56 sc_112.n rfl rfl rfl (t_dm hS hdm) ?_)
      intro z66 ez66 f67
      obtain rfl : z66 = 3 := by omega
      refine n_iremV c_153_59 (by omega) (by omega) ?_
      intro z68 _ f69
      refine n_iadd c_153_60 rfl (n_istore (L2 := [some (2, 112), some (0, m), some (2, 117), some (0, f), some (0, 3), some (0, x), some (0, y), some (0, z0), some (0, 0), some (0, 9), some (0, 0), some (0, ((z12 * 3) + z68))]) c_153_61 rfl rfl (n_iload_n c_153_63 rfl (n_iconst c_153_64 ?_)))
      refine n_if2_le c_153_65 (by omega) (by omega) ?_ ?_
      · intro h70
        refine n_iload c_153_88 rfl (n_aload_n c_153_90 rfl (n_getV (bi := 0) c_153_91 sc_112.n rfl rfl rfl (t_dm hS hdm) ?_))
        intro z71 ez71 f72
        obtain rfl : z71 = 3 := by omega
        refine n_imul c_153_94 rfl (n_aload_n c_153_95 rfl (n_iload_n c_153_96 rfl (n_iload c_153_97 rfl (n_iadd c_153_99 rfl (n_ialoadV c_153_100 sc_117.n rfl rfl rfl (by omega) (t_117 hS (by omega)) ?_)))))
        intro z73 ez73 f74
        refine n_iadd c_153_101 rfl (n_istore (L2 := [some (2, 112), some (0, m), some (2, 117), some (0, f), some (0, 3), some (0, x), some (0, y), some (0, z0), some (0, ((0 * 3) + z73)), some (0, 9), some (0, 0), some (0, ((z12 * 3) + z68))]) c_153_102 rfl rfl (n_iload c_153_104 rfl (n_aload_n c_153_106 rfl (n_getV (bi := 0) c_153_107 sc_112.n rfl rfl rfl (t_dm hS hdm) ?_))))
        intro z75 ez75 f76
        obtain rfl : z75 = 3 := by omega
        refine n_idivT (z := 3) c_153_110 (by omega) (by omega) (by omega) (by decide) ?_
        refine n_istore (L2 := [some (2, 112), some (0, m), some (2, 117), some (0, f), some (0, 3), some (0, x), some (0, y), some (0, z0), some (0, ((0 * 3) + z73)), some (0, 3), some (0, 0), some (0, ((z12 * 3) + z68))]) c_153_111 rfl rfl (n_iinc (L2 := [some (2, 112), some (0, m), some (2, 117), some (0, f), some (0, 3), some (0, x), some (0, y), some (0, z0), some (0, ((0 * 3) + z73)), some (0, 3), some (0, (0 + 1)), some (0, ((z12 * 3) + z68))]) c_153_113 rfl rfl rfl (n_goto c_153_116 (n_iload c_153_19 rfl (n_iload c_153_21 rfl ?_))))
        refine n_if2_ge c_153_23 (by omega) (by omega) ?_ ?_
        · intro h77
          exfalso; omega
        · intro h78
          refine n_iload c_153_26 rfl (n_iload c_153_28 rfl (n_idivV c_153_30 (by omega) (by omega) ?_))
          intro z79 _ f80
          refine n_aload_n c_153_31 rfl (n_getV (bi := 0) c_153_32 sc_112.n rfl rfl rfl (t_dm hS hdm) ?_)
          intro z81 ez81 f82
          obtain rfl : z81 = 3 := by omega
          refine n_iremV c_153_35 (by omega) (by omega) ?_
          intro z83 _ f84
          refine n_istore (L2 := [some (2, 112), some (0, m), some (2, 117), some (0, f), some (0, 3), some (0, x), some (0, y), some (0, z0), some (0, ((0 * 3) + z73)), some (0, 3), some (0, (0 + 1)), some (0, z83)]) c_153_36 rfl rfl (n_iload_n c_153_38 rfl (n_iconst c_153_39 ?_))
          refine n_if2_le c_153_40 (by omega) (by omega) ?_ ?_
          · intro h85
            exfalso; omega
          · intro h86
            refine n_iload c_153_43 rfl (n_aload_n c_153_45 rfl (n_getV (bi := 0) c_153_46 sc_112.n rfl rfl rfl (t_dm hS hdm) ?_))
            intro z87 ez87 f88
            obtain rfl : z87 = 3 := by omega
            refine n_imul c_153_49 rfl (n_iload c_153_50 rfl (n_iload c_153_52 rfl (n_idivV c_153_54 (by omega) (by omega) ?_)))
            intro z89 _ f90
            refine n_aload_n c_153_55 rfl (n_getV (bi := 0) c_153_56 sc_112.n rfl rfl rfl (t_dm hS hdm) ?_)
            intro z91 ez91 f92
            obtain rfl : z91 = 3 := by omega
            refine n_iremV c_153_59 (by omega) (by omega) ?_
            intro z93 _ f94
            refine n_iadd c_153_60 rfl (n_istore (L2 := [some (2, 112), some (0, m), some (2, 117), some (0, f), some (0, 3), some (0, x), some (0, y), some (0, z0), some (0, ((0 * 3) + z73)), some (0, 3), some (0, (0 + 1)), some (0, ((z83 * 3) + z93))]) c_153_61 rfl rfl (n_iload_n c_153_63 rfl (n_iconst c_153_64 ?_)))
            refine n_if2_le c_153_65 (by omega) (by omega) ?_ ?_
            · intro h95
              refine n_iload c_153_88 rfl (n_aload_n c_153_90 rfl (n_getV (bi := 0) c_153_91 sc_112.n rfl rfl rfl (t_dm hS hdm) ?_))
              intro z96 ez96 f97
              obtain rfl : z96 = 3 := by omega
              refine n_imul c_153_94 rfl (n_aload_n c_153_95 rfl (n_iload_n c_153_96 rfl (n_iload c_153_97 rfl (n_iadd c_153_99 rfl (n_ialoadV c_153_100 sc_117.n rfl rfl rfl (by omega) (t_117 hS (by omega)) ?_)))))
              intro z98 ez98 f99
              refine n_iadd c_153_101 rfl (n_istore (L2 := [some (2, 112), some (0, m), some (2, 117), some (0, f), some (0, 3), some (0, x), some (0, y), some (0, z0), some (0, ((((0 * 3) + z73) * 3) + z98)), some (0, 3), some (0, (0 + 1)), some (0, ((z83 * 3) + z93))]) c_153_102 rfl rfl (n_iload c_153_104 rfl (n_aload_n c_153_106 rfl (n_getV (bi := 0) c_153_107 sc_112.n rfl rfl rfl (t_dm hS hdm) ?_))))
              intro z100 ez100 f101
              obtain rfl : z100 = 3 := by omega
              refine n_idivT (z := 1) c_153_110 (by omega) (by omega) (by omega) (by decide) ?_
              refine n_istore (L2 := [some (2, 112), some (0, m), some (2, 117), some (0, f), some (0, 3), some (0, x), some (0, y), some (0, z0), some (0, ((((0 * 3) + z73) * 3) + z98)), some (0, 1), some (0, (0 + 1)), some (0, ((z83 * 3) + z93))]) c_153_111 rfl rfl (n_iinc (L2 := [some (2, 112), some (0, m), some (2, 117), some (0, f), some (0, 3), some (0, x), some (0, y), some (0, z0), some (0, ((((0 * 3) + z73) * 3) + z98)), some (0, 1), some (0, ((0 + 1) + 1)), some (0, ((z83 * 3) + z93))]) c_153_113 rfl rfl rfl (n_goto c_153_116 (n_iload c_153_19 rfl (n_iload c_153_21 rfl ?_))))
              refine n_if2_ge c_153_23 (by omega) (by omega) ?_ ?_
              · intro h102
                exfalso; omega
              · intro h103
                refine n_iload c_153_26 rfl (n_iload c_153_28 rfl (n_idivV c_153_30 (by omega) (by omega) ?_))
                intro z104 _ f105
                refine n_aload_n c_153_31 rfl (n_getV (bi := 0) c_153_32 sc_112.n rfl rfl rfl (t_dm hS hdm) ?_)
                intro z106 ez106 f107
                obtain rfl : z106 = 3 := by omega
                refine n_iremV c_153_35 (by omega) (by omega) ?_
                intro z108 _ f109
                refine n_istore (L2 := [some (2, 112), some (0, m), some (2, 117), some (0, f), some (0, 3), some (0, x), some (0, y), some (0, z0), some (0, ((((0 * 3) + z73) * 3) + z98)), some (0, 1), some (0, ((0 + 1) + 1)), some (0, z108)]) c_153_36 rfl rfl (n_iload_n c_153_38 rfl (n_iconst c_153_39 ?_))
                refine n_if2_le c_153_40 (by omega) (by omega) ?_ ?_
                · intro h110
                  exfalso; omega
                · intro h111
                  refine n_iload c_153_43 rfl (n_aload_n c_153_45 rfl (n_getV (bi := 0) c_153_46 sc_112.n rfl rfl rfl (t_dm hS hdm) ?_))
                  intro z112 ez112 f113
                  obtain rfl : z112 = 3 := by omega
                  refine n_imul c_153_49 rfl (n_iload c_153_50 rfl (n_iload c_153_52 rfl (n_idivV c_153_54 (by omega) (by omega) ?_)))
                  intro z114 _ f115
                  refine n_aload_n c_153_55 rfl (n_getV (bi := 0) c_153_56 sc_112.n rfl rfl rfl (t_dm hS hdm) ?_)
                  intro z116 ez116 f117
                  obtain rfl : z116 = 3 := by omega
                  refine n_iremV c_153_59 (by omega) (by omega) ?_
                  intro z118 _ f119
                  refine n_iadd c_153_60 rfl (n_istore (L2 := [some (2, 112), some (0, m), some (2, 117), some (0, f), some (0, 3), some (0, x), some (0, y), some (0, z0), some (0, ((((0 * 3) + z73) * 3) + z98)), some (0, 1), some (0, ((0 + 1) + 1)), some (0, ((z108 * 3) + z118))]) c_153_61 rfl rfl (n_iload_n c_153_63 rfl (n_iconst c_153_64 ?_)))
                  refine n_if2_le c_153_65 (by omega) (by omega) ?_ ?_
                  · intro h120
                    refine n_iload c_153_88 rfl (n_aload_n c_153_90 rfl (n_getV (bi := 0) c_153_91 sc_112.n rfl rfl rfl (t_dm hS hdm) ?_))
                    intro z121 ez121 f122
                    obtain rfl : z121 = 3 := by omega
                    refine n_imul c_153_94 rfl (n_aload_n c_153_95 rfl (n_iload_n c_153_96 rfl (n_iload c_153_97 rfl (n_iadd c_153_99 rfl (n_ialoadV c_153_100 sc_117.n rfl rfl rfl (by omega) (t_117 hS (by omega)) ?_)))))
                    intro z123 ez123 f124
                    refine n_iadd c_153_101 rfl (n_istore (L2 := [some (2, 112), some (0, m), some (2, 117), some (0, f), some (0, 3), some (0, x), some (0, y), some (0, z0), some (0, ((((((0 * 3) + z73) * 3) + z98) * 3) + z123)), some (0, 1), some (0, ((0 + 1) + 1)), some (0, ((z108 * 3) + z118))]) c_153_102 rfl rfl (n_iload c_153_104 rfl (n_aload_n c_153_106 rfl (n_getV (bi := 0) c_153_107 sc_112.n rfl rfl rfl (t_dm hS hdm) ?_))))
                    intro z125 ez125 f126
                    obtain rfl : z125 = 3 := by omega
                    refine n_idivT (z := 0) c_153_110 (by omega) (by omega) (by omega) (by decide) ?_
                    refine n_istore (L2 := [some (2, 112), some (0, m), some (2, 117), some (0, f), some (0, 3), some (0, x), some (0, y), some (0, z0), some (0, ((((((0 * 3) + z73) * 3) + z98) * 3) + z123)), some (0, 0), some (0, ((0 + 1) + 1)), some (0, ((z108 * 3) + z118))]) c_153_111 rfl rfl (n_iinc (L2 := [some (2, 112), some (0, m), some (2, 117), some (0, f), some (0, 3), some (0, x), some (0, y), some (0, z0), some (0, ((((((0 * 3) + z73) * 3) + z98) * 3) + z123)), some (0, 0), some (0, (((0 + 1) + 1) + 1)), some (0, ((z108 * 3) + z118))]) c_153_113 rfl rfl rfl (n_goto c_153_116 (n_iload c_153_19 rfl (n_iload c_153_21 rfl ?_))))
                    refine n_if2_ge c_153_23 (by omega) (by omega) ?_ ?_
                    · intro h127
                      refine n_iload c_153_119 rfl ?_
                      exact n_rI c_153_121 rfl ⟨rfl, by omega⟩
                    · intro h128
                      exfalso; omega
                  · intro h129
                    exfalso; omega
            · intro h130
              exfalso; omega
      · intro h131
        refine n_iload c_153_68 rfl (n_aload_n c_153_70 rfl (n_getV (bi := 0) c_153_71 sc_112.n rfl rfl rfl (t_dm hS hdm) ?_))
        intro z132 ez132 f133
        obtain rfl : z132 = 3 := by omega
        refine n_imul c_153_74 rfl (n_iload c_153_75 rfl (n_iload c_153_77 rfl (n_idivV c_153_79 (by omega) (by omega) ?_)))
        intro z134 _ f135
        refine n_aload_n c_153_80 rfl (n_getV (bi := 0) c_153_81 sc_112.n rfl rfl rfl (t_dm hS hdm) ?_)
        intro z136 ez136 f137
        obtain rfl : z136 = 3 := by omega
        refine n_iremV c_153_84 (by omega) (by omega) ?_
        intro z138 _ f139
        refine n_iadd c_153_85 rfl (n_istore (L2 := [some (2, 112), some (0, m), some (2, 117), some (0, f), some (0, 3), some (0, x), some (0, y), some (0, z0), some (0, 0), some (0, 9), some (0, 0), some (0, ((((z12 * 3) + z68) * 3) + z138))]) c_153_86 rfl rfl (n_iload c_153_88 rfl (n_aload_n c_153_90 rfl (n_getV (bi := 0) c_153_91 sc_112.n rfl rfl rfl (t_dm hS hdm) ?_))))
        intro z140 ez140 f141
        obtain rfl : z140 = 3 := by omega
        refine n_imul c_153_94 rfl (n_aload_n c_153_95 rfl (n_iload_n c_153_96 rfl (n_iload c_153_97 rfl (n_iadd c_153_99 rfl (n_ialoadV c_153_100 sc_117.n rfl rfl rfl (by omega) (t_117 hS (by omega)) ?_)))))
        intro z142 ez142 f143
        refine n_iadd c_153_101 rfl (n_istore (L2 := [some (2, 112), some (0, m), some (2, 117), some (0, f), some (0, 3), some (0, x), some (0, y), some (0, z0), some (0, ((0 * 3) + z142)), some (0, 9), some (0, 0), some (0, ((((z12 * 3) + z68) * 3) + z138))]) c_153_102 rfl rfl (n_iload c_153_104 rfl (n_aload_n c_153_106 rfl (n_getV (bi := 0) c_153_107 sc_112.n rfl rfl rfl (t_dm hS hdm) ?_))))
        intro z144 ez144 f145
        obtain rfl : z144 = 3 := by omega
        refine n_idivT (z := 3) c_153_110 (by omega) (by omega) (by omega) (by decide) ?_
        refine n_istore (L2 := [some (2, 112), some (0, m), some (2, 117), some (0, f), some (0, 3), some (0, x), some (0, y), some (0, z0), some (0, ((0 * 3) + z142)), some (0, 3), some (0, 0), some (0, ((((z12 * 3) + z68) * 3) + z138))]) c_153_111 rfl rfl (n_iinc (L2 := [some (2, 112), some (0, m), some (2, 117), some (0, f), some (0, 3), some (0, x), some (0, y), some (0, z0), some (0, ((0 * 3) + z142)), some (0, 3), some (0, (0 + 1)), some (0, ((((z12 * 3) + z68) * 3) + z138))]) c_153_113 rfl rfl rfl (n_goto c_153_116 (n_iload c_153_19 rfl (n_iload c_153_21 rfl ?_))))
        refine n_if2_ge c_153_23 (by omega) (by omega) ?_ ?_
        · intro h146
          exfalso; omega
        · intro h147
          refine n_iload c_153_26 rfl (n_iload c_153_28 rfl (n_idivV c_153_30 (by omega) (by omega) ?_))
          intro z148 _ f149
          refine n_aload_n c_153_31 rfl (n_getV (bi := 0) c_153_32 sc_112.n rfl rfl rfl (t_dm hS hdm) ?_)
          intro z150 ez150 f151
          obtain rfl : z150 = 3 := by omega
          refine n_iremV c_153_35 (by omega) (by omega) ?_
          intro z152 _ f153
          refine n_istore (L2 := [some (2, 112), some (0, m), some (2, 117), some (0, f), some (0, 3), some (0, x), some (0, y), some (0, z0), some (0, ((0 * 3) + z142)), some (0, 3), some (0, (0 + 1)), some (0, z152)]) c_153_36 rfl rfl (n_iload_n c_153_38 rfl (n_iconst c_153_39 ?_))
          refine n_if2_le c_153_40 (by omega) (by omega) ?_ ?_
          · intro h154
            exfalso; omega
          · intro h155
            refine n_iload c_153_43 rfl (n_aload_n c_153_45 rfl (n_getV (bi := 0) c_153_46 sc_112.n rfl rfl rfl (t_dm hS hdm) ?_))
            intro z156 ez156 f157
            obtain rfl : z156 = 3 := by omega
            refine n_imul c_153_49 rfl (n_iload c_153_50 rfl (n_iload c_153_52 rfl (n_idivV c_153_54 (by omega) (by omega) ?_)))
            intro z158 _ f159
            refine n_aload_n c_153_55 rfl (n_getV (bi := 0) c_153_56 sc_112.n rfl rfl rfl (t_dm hS hdm) ?_)
            intro z160 ez160 f161
            obtain rfl : z160 = 3 := by omega
            refine n_iremV c_153_59 (by omega) (by omega) ?_
            intro z162 _ f163
            refine n_iadd c_153_60 rfl (n_istore (L2 := [some (2, 112), some (0, m), some (2, 117), some (0, f), some (0, 3), some (0, x), some (0, y), some (0, z0), some (0, ((0 * 3) + z142)), some (0, 3), some (0, (0 + 1)), some (0, ((z152 * 3) + z162))]) c_153_61 rfl rfl (n_iload_n c_153_63 rfl (n_iconst c_153_64 ?_)))
            refine n_if2_le c_153_65 (by omega) (by omega) ?_ ?_
            · intro h164
              exfalso; omega
            · intro h165
              refine n_iload c_153_68 rfl (n_aload_n c_153_70 rfl (n_getV (bi := 0) c_153_71 sc_112.n rfl rfl rfl (t_dm hS hdm) ?_))
              intro z166 ez166 f167
              obtain rfl : z166 = 3 := by omega
              refine n_imul c_153_74 rfl (n_iload c_153_75 rfl (n_iload c_153_77 rfl (n_idivV c_153_79 (by omega) (by omega) ?_)))
              intro z168 _ f169
              refine n_aload_n c_153_80 rfl (n_getV (bi := 0) c_153_81 sc_112.n rfl rfl rfl (t_dm hS hdm) ?_)
              intro z170 ez170 f171
              obtain rfl : z170 = 3 := by omega
              refine n_iremV c_153_84 (by omega) (by omega) ?_
              intro z172 _ f173
              refine n_iadd c_153_85 rfl (n_istore (L2 := [some (2, 112), some (0, m), some (2, 117), some (0, f), some (0, 3), some (0, x), some (0, y), some (0, z0), some (0, ((0 * 3) + z142)), some (0, 3), some (0, (0 + 1)), some (0, ((((z152 * 3) + z162) * 3) + z172))]) c_153_86 rfl rfl (n_iload c_153_88 rfl (n_aload_n c_153_90 rfl (n_getV (bi := 0) c_153_91 sc_112.n rfl rfl rfl (t_dm hS hdm) ?_))))
              intro z174 ez174 f175
              obtain rfl : z174 = 3 := by omega
              refine n_imul c_153_94 rfl (n_aload_n c_153_95 rfl (n_iload_n c_153_96 rfl (n_iload c_153_97 rfl (n_iadd c_153_99 rfl (n_ialoadV c_153_100 sc_117.n rfl rfl rfl (by omega) (t_117 hS (by omega)) ?_)))))
              intro z176 ez176 f177
              refine n_iadd c_153_101 rfl (n_istore (L2 := [some (2, 112), some (0, m), some (2, 117), some (0, f), some (0, 3), some (0, x), some (0, y), some (0, z0), some (0, ((((0 * 3) + z142) * 3) + z176)), some (0, 3), some (0, (0 + 1)), some (0, ((((z152 * 3) + z162) * 3) + z172))]) c_153_102 rfl rfl (n_iload c_153_104 rfl (n_aload_n c_153_106 rfl (n_getV (bi := 0) c_153_107 sc_112.n rfl rfl rfl (t_dm hS hdm) ?_))))
              intro z178 ez178 f179
              obtain rfl : z178 = 3 := by omega
              refine n_idivT (z := 1) c_153_110 (by omega) (by omega) (by omega) (by decide) ?_
              refine n_istore (L2 := [some (2, 112), some (0, m), some (2, 117), some (0, f), some (0, 3), some (0, x), some (0, y), some (0, z0), some (0, ((((0 * 3) + z142) * 3) + z176)), some (0, 1), some (0, (0 + 1)), some (0, ((((z152 * 3) + z162) * 3) + z172))]) c_153_111 rfl rfl (n_iinc (L2 := [some (2, 112), some (0, m), some (2, 117), some (0, f), some (0, 3), some (0, x), some (0, y), some (0, z0), some (0, ((((0 * 3) + z142) * 3) + z176)), some (0, 1), some (0, ((0 + 1) + 1)), some (0, ((((z152 * 3) + z162) * 3) + z172))]) c_153_113 rfl rfl rfl (n_goto c_153_116 (n_iload c_153_19 rfl (n_iload c_153_21 rfl ?_))))
              refine n_if2_ge c_153_23 (by omega) (by omega) ?_ ?_
              · intro h180
                exfalso; omega
              · intro h181
                refine n_iload c_153_26 rfl (n_iload c_153_28 rfl (n_idivV c_153_30 (by omega) (by omega) ?_))
                intro z182 _ f183
                refine n_aload_n c_153_31 rfl (n_getV (bi := 0) c_153_32 sc_112.n rfl rfl rfl (t_dm hS hdm) ?_)
                intro z184 ez184 f185
                obtain rfl : z184 = 3 := by omega
                refine n_iremV c_153_35 (by omega) (by omega) ?_
                intro z186 _ f187
                refine n_istore (L2 := [some (2, 112), some (0, m), some (2, 117), some (0, f), some (0, 3), some (0, x), some (0, y), some (0, z0), some (0, ((((0 * 3) + z142) * 3) + z176)), some (0, 1), some (0, ((0 + 1) + 1)), some (0, z186)]) c_153_36 rfl rfl (n_iload_n c_153_38 rfl (n_iconst c_153_39 ?_))
                refine n_if2_le c_153_40 (by omega) (by omega) ?_ ?_
                · intro h188
                  exfalso; omega
                · intro h189
                  refine n_iload c_153_43 rfl (n_aload_n c_153_45 rfl (n_getV (bi := 0) c_153_46 sc_112.n rfl rfl rfl (t_dm hS hdm) ?_))
                  intro z190 ez190 f191
                  obtain rfl : z190 = 3 := by omega
                  refine n_imul c_153_49 rfl (n_iload c_153_50 rfl (n_iload c_153_52 rfl (n_idivV c_153_54 (by omega) (by omega) ?_)))
                  intro z192 _ f193
                  refine n_aload_n c_153_55 rfl (n_getV (bi := 0) c_153_56 sc_112.n rfl rfl rfl (t_dm hS hdm) ?_)
                  intro z194 ez194 f195
                  obtain rfl : z194 = 3 := by omega
                  refine n_iremV c_153_59 (by omega) (by omega) ?_
                  intro z196 _ f197
                  refine n_iadd c_153_60 rfl (n_istore (L2 := [some (2, 112), some (0, m), some (2, 117), some (0, f), some (0, 3), some (0, x), some (0, y), some (0, z0), some (0, ((((0 * 3) + z142) * 3) + z176)), some (0, 1), some (0, ((0 + 1) + 1)), some (0, ((z186 * 3) + z196))]) c_153_61 rfl rfl (n_iload_n c_153_63 rfl (n_iconst c_153_64 ?_)))
                  refine n_if2_le c_153_65 (by omega) (by omega) ?_ ?_
                  · intro h198
                    exfalso; omega
                  · intro h199
                    refine n_iload c_153_68 rfl (n_aload_n c_153_70 rfl (n_getV (bi := 0) c_153_71 sc_112.n rfl rfl rfl (t_dm hS hdm) ?_))
                    intro z200 ez200 f201
                    obtain rfl : z200 = 3 := by omega
                    refine n_imul c_153_74 rfl (n_iload c_153_75 rfl (n_iload c_153_77 rfl (n_idivV c_153_79 (by omega) (by omega) ?_)))
                    intro z202 _ f203
                    refine n_aload_n c_153_80 rfl (n_getV (bi := 0) c_153_81 sc_112.n rfl rfl rfl (t_dm hS hdm) ?_)
                    intro z204 ez204 f205
                    obtain rfl : z204 = 3 := by omega
                    refine n_iremV c_153_84 (by omega) (by omega) ?_
                    intro z206 _ f207
                    refine n_iadd c_153_85 rfl (n_istore (L2 := [some (2, 112), some (0, m), some (2, 117), some (0, f), some (0, 3), some (0, x), some (0, y), some (0, z0), some (0, ((((0 * 3) + z142) * 3) + z176)), some (0, 1), some (0, ((0 + 1) + 1)), some (0, ((((z186 * 3) + z196) * 3) + z206))]) c_153_86 rfl rfl (n_iload c_153_88 rfl (n_aload_n c_153_90 rfl (n_getV (bi := 0) c_153_91 sc_112.n rfl rfl rfl (t_dm hS hdm) ?_))))
                    intro z208 ez208 f209
                    obtain rfl : z208 = 3 := by omega
                    refine n_imul c_153_94 rfl (n_aload_n c_153_95 rfl (n_iload_n c_153_96 rfl (n_iload c_153_97 rfl (n_iadd c_153_99 rfl (n_ialoadV c_153_100 sc_117.n rfl rfl rfl (by omega) (t_117 hS (by omega)) ?_)))))
                    intro z210 ez210 f211
                    refine n_iadd c_153_101 rfl (n_istore (L2 := [some (2, 112), some (0, m), some (2, 117), some (0, f), some (0, 3), some (0, x), some (0, y), some (0, z0), some (0, ((((((0 * 3) + z142) * 3) + z176) * 3) + z210)), some (0, 1), some (0, ((0 + 1) + 1)), some (0, ((((z186 * 3) + z196) * 3) + z206))]) c_153_102 rfl rfl (n_iload c_153_104 rfl (n_aload_n c_153_106 rfl (n_getV (bi := 0) c_153_107 sc_112.n rfl rfl rfl (t_dm hS hdm) ?_))))
                    intro z212 ez212 f213
                    obtain rfl : z212 = 3 := by omega
                    refine n_idivT (z := 0) c_153_110 (by omega) (by omega) (by omega) (by decide) ?_
                    refine n_istore (L2 := [some (2, 112), some (0, m), some (2, 117), some (0, f), some (0, 3), some (0, x), some (0, y), some (0, z0), some (0, ((((((0 * 3) + z142) * 3) + z176) * 3) + z210)), some (0, 0), some (0, ((0 + 1) + 1)), some (0, ((((z186 * 3) + z196) * 3) + z206))]) c_153_111 rfl rfl (n_iinc (L2 := [some (2, 112), some (0, m), some (2, 117), some (0, f), some (0, 3), some (0, x), some (0, y), some (0, z0), some (0, ((((((0 * 3) + z142) * 3) + z176) * 3) + z210)), some (0, 0), some (0, (((0 + 1) + 1) + 1)), some (0, ((((z186 * 3) + z196) * 3) + z206))]) c_153_113 rfl rfl rfl (n_goto c_153_116 (n_iload c_153_19 rfl (n_iload c_153_21 rfl ?_))))
                    refine n_if2_ge c_153_23 (by omega) (by omega) ?_ ?_
                    · intro h214
                      refine n_iload c_153_119 rfl ?_
                      exact n_rI c_153_121 rfl ⟨rfl, by omega⟩
                    · intro h215
                      exfalso; omega

set_option maxHeartbeats 4000000 in
theorem imageT_3 {xs : List Int32} {e : Nat} {ac : Int} {M0 M : nM} {m f k x y z0 : Int} (hS : Sf 3 ac M0 M) (hdm : M0 112 0 = 3) (hm : 0 ≤ m ∧ m ≤ 3) (hf : 0 ≤ f ∧ f ≤ 189) (hk : 0 ≤ k ∧ k ≤ 3) (hx : 0 ≤ x ∧ x ≤ 26) (hy : 0 ≤ y ∧ y ≤ 26) (hz0 : 0 ≤ z0 ∧ z0 ≤ 26) : nW xs (e + 1) 153 0 [some (2, 112), some (0, m), some (2, 117), some (0, f), some (0, k), some (0, x), some (0, y), some (0, z0), none, none, none, none] [] M (nPI fun z M1 => M = M1 ∧ (0 ≤ z ∧ z ≤ 26)) := by
  rcases (show k = 0 ∨ k = 1 ∨ k = 2 ∨ k = 3 by omega) with rfl | rfl | rfl | rfl
  · exact n_post (imageT0_3 hS hdm (by omega) (by omega) (by omega) (by omega) (by omega)) (fun w M1 h => by obtain ⟨z, rfl, h1, h2⟩ := h; exact ⟨z, rfl, h1, by omega⟩)
  · exact n_post (imageT1_3 hS hdm (by omega) (by omega) (by omega) (by omega) (by omega)) (fun w M1 h => by obtain ⟨z, rfl, h1, h2⟩ := h; exact ⟨z, rfl, h1, by omega⟩)
  · exact n_post (imageT2_3 hS hdm (by omega) (by omega) (by omega) (by omega) (by omega)) (fun w M1 h => by obtain ⟨z, rfl, h1, h2⟩ := h; exact ⟨z, rfl, h1, by omega⟩)
  · exact n_post (imageT3_3 hS hdm (by omega) (by omega) (by omega) (by omega) (by omega)) (fun w M1 h => by obtain ⟨z, rfl, h1, h2⟩ := h; exact ⟨z, rfl, h1, by omega⟩)

set_option maxHeartbeats 4000000 in
theorem escapesT0_3_c {xs : List Int32} {e : Nat} {ac : Int} {M0 M : nM} {m f s : Int} (hS : Sf 3 ac M0 M) (hdm : M0 112 0 = 3) (hm : 0 ≤ m ∧ m ≤ 3) (hf : 0 ≤ f ∧ f ≤ 189) (hs : -9223372036854775808 ≤ s ∧ s ≤ 9223372036854775807) : ∀ nn : Nat, (∀ (x7 x8 : Int), (1 ≤ x7 ∧ x7 ≤ 1) → (0 ≤ x8 ∧ x8 ≤ 1) → (1 - x8) * 38 + 38 < (nn : Int) → nW xs (e + 2) 154 14 [some (2, 112), some (0, m), some (2, 117), some (0, f), some (0, 0), some (1, s), none, some (0, x7), some (0, x8), none, none, none] [] M (nPI fun z M1 => M = M1 ∧ (-1 ≤ z ∧ z ≤ 26) ∧ (z = -1 ∨ n_land (n_lshr s z) 1 = 0))) ∧ (∀ (x7 x8 x9 : Int), (1 ≤ x7 ∧ x7 ≤ 1) → (0 ≤ x8 ∧ x8 ≤ 0) → (0 ≤ x9 ∧ x9 ≤ 1) → (1 - x8) * 38 + (1 - x9) * 12 + 13 < (nn : Int) → nW xs (e + 2) 154 39 [some (2, 112), some (0, m), some (2, 117), some (0, f), some (0, 0), some (1, s), none, some (0, x7), some (0, x8), some (0, x9), none, none] [] M (nPI fun z M1 => M = M1 ∧ (-1 ≤ z ∧ z ≤ 26) ∧ (z = -1 ∨ n_land (n_lshr s z) 1 = 0))) ∧ (∀ (x7 x8 x9 : Int), (1 ≤ x7 ∧ x7 ≤ 1) → (0 ≤ x8 ∧ x8 ≤ 0) → (0 ≤ x9 ∧ x9 ≤ 0) → (1 - x8) * 38 + (1 - x9) * 12 + 12 < (nn : Int) → nW xs (e + 2) 154 75 [some (2, 112), some (0, m), some (2, 117), some (0, f), some (0, 0), some (1, s), none, some (0, x7), some (0, x8), some (0, x9), none, none] [] M (nPI fun z M1 => M = M1 ∧ (-1 ≤ z ∧ z ≤ 26) ∧ (z = -1 ∨ n_land (n_lshr s z) 1 = 0))) ∧ (∀ (x7 x8 x9 x10 : Int), (1 ≤ x7 ∧ x7 ≤ 1) → (0 ≤ x8 ∧ x8 ≤ 0) → (0 ≤ x9 ∧ x9 ≤ 0) → (0 ≤ x10 ∧ x10 ≤ 1) → (1 - x8) * 38 + (1 - x9) * 12 + (1 - x10) * 3 + 5 < (nn : Int) → nW xs (e + 2) 154 78 [some (2, 112), some (0, m), some (2, 117), some (0, f), some (0, 0), some (1, s), none, some (0, x7), some (0, x8), some (0, x9), some (0, x10), none] [] M (nPI fun z M1 => M = M1 ∧ (-1 ≤ z ∧ z ≤ 26) ∧ (z = -1 ∨ n_land (n_lshr s z) 1 = 0))) ∧ (∀ (x7 x8 x9 x10 : Int), (1 ≤ x7 ∧ x7 ≤ 1) → (0 ≤ x8 ∧ x8 ≤ 0) → (0 ≤ x9 ∧ x9 ≤ 0) → (0 ≤ x10 ∧ x10 ≤ 0) → (1 - x8) * 38 + (1 - x9) * 12 + (1 - x10) * 3 + 4 < (nn : Int) → nW xs (e + 2) 154 114 [some (2, 112), some (0, m), some (2, 117), some (0, f), some (0, 0), some (1, s), none, some (0, x7), some (0, x8), some (0, x9), some (0, x10), none] [] M (nPI fun z M1 => M = M1 ∧ (-1 ≤ z ∧ z ≤ 26) ∧ (z = -1 ∨ n_land (n_lshr s z) 1 = 0))) ∧ (∀ (x7 x8 x9 x10 : Int), (1 ≤ x7 ∧ x7 ≤ 1) → (0 ≤ x8 ∧ x8 ≤ 0) → (0 ≤ x9 ∧ x9 ≤ 0) → (0 ≤ x10 ∧ x10 ≤ 0) → (1 - x8) * 38 + (1 - x9) * 12 + (1 - x10) * 3 + 3 < (nn : Int) → nW xs (e + 2) 154 146 [some (2, 112), some (0, m), some (2, 117), some (0, f), some (0, 0), some (1, s), none, some (0, x7), some (0, x8), some (0, x9), some (0, x10), none] [] M (nPI fun z M1 => M = M1 ∧ (-1 ≤ z ∧ z ≤ 26) ∧ (z = -1 ∨ n_land (n_lshr s z) 1 = 0))) ∧ (∀ (x7 x8 x9 : Int), (1 ≤ x7 ∧ x7 ≤ 1) → (0 ≤ x8 ∧ x8 ≤ 0) → (0 ≤ x9 ∧ x9 ≤ 0) → (1 - x8) * 38 + (1 - x9) * 12 + 2 < (nn : Int) → nW xs (e + 2) 154 152 [some (2, 112), some (0, m), some (2, 117), some (0, f), some (0, 0), some (1, s), none, some (0, x7), some (0, x8), some (0, x9), none, none] [] M (nPI fun z M1 => M = M1 ∧ (-1 ≤ z ∧ z ≤ 26) ∧ (z = -1 ∨ n_land (n_lshr s z) 1 = 0))) ∧ (∀ (x7 x8 : Int), (1 ≤ x7 ∧ x7 ≤ 1) → (0 ≤ x8 ∧ x8 ≤ 0) → (1 - x8) * 38 + 1 < (nn : Int) → nW xs (e + 2) 154 158 [some (2, 112), some (0, m), some (2, 117), some (0, f), some (0, 0), some (1, s), none, some (0, x7), some (0, x8), none, none, none] [] M (nPI fun z M1 => M = M1 ∧ (-1 ≤ z ∧ z ≤ 26) ∧ (z = -1 ∨ n_land (n_lshr s z) 1 = 0))) := by
  have hd : (3 : Int) = 2 ∨ (3 : Int) = 3 := by decide
  have hac := hS.2.2.2.2
  intro nn
  induction nn with
  | zero => refine ⟨?_, ?_, ?_, ?_, ?_, ?_, ?_, ?_⟩ <;> (intros; omega)
  | succ nn ih =>
    refine ⟨?_, ?_, ?_, ?_, ?_, ?_, ?_, ?_⟩
    · intro x7 x8 k7 k8 hnn
      refine n_iload c_154_14 rfl (n_iload c_154_16 rfl ?_)
      refine n_if2_ge c_154_18 (by omega) (by omega) ?_ ?_
      · intro h1
        refine n_iconst c_154_164 ?_
        exact n_rI c_154_165 rfl ⟨rfl, by omega, by first | omega | (refine Or.inr ?_; subst_vars; assumption)⟩
      · intro h2
        refine n_lload c_154_21 rfl (n_iload c_154_23 rfl (n_i_lshr c_154_25 rfl ?_))
        have f3 := n_lshr_r s x8
        generalize gz4 : (n_lshr s x8) = z4 at f3 ⊢
        refine n_lconst (n := 1) c_154_26 rfl (n_i_land c_154_27 rfl ?_)
        have f5 := n_land_r z4 1
        generalize gz6 : (n_land z4 1) = z6 at f5 ⊢
        refine n_lconst (n := 0) c_154_28 rfl (n_lcmp c_154_29 ?_)
        refine n_lif_ne c_154_30 (by omega) (by omega) ?_ ?_
        · intro h7
          refine n_iconst c_154_36 (n_istore (L2 := [some (2, 112), some (0, m), some (2, 117), some (0, f), some (0, 0), some (1, s), none, some (0, x7), some (0, x8), some (0, 0), none, none]) c_154_37 rfl rfl (n_fg (le_s (le_s (le_s (le_s (le_s (le_s (le_n (le_s (le_s (le_s (le_n (le_n le_0)))))))))))) ?_))
          exact ih.2.1 _ _ _ (by omega) (by omega) (by omega) (by omega)
        · intro h8
          refine n_goto c_154_33 (n_fg (le_s (le_s (le_s (le_s (le_s (le_s (le_n (le_s (le_s (le_n (le_n (le_n le_0)))))))))))) ?_)
          exact ih.2.2.2.2.2.2.2 _ _ (by omega) (by omega) (by omega)
    · intro x7 x8 x9 k7 k8 k9 hnn
      refine n_iload c_154_39 rfl (n_iload_n c_154_41 rfl (n_iconst c_154_42 ?_))
      refine n_if2_le c_154_43 (by omega) (by omega) ?_ ?_
      · intro h1
        refine n_iconst c_154_51 ?_
        refine n_if2_ge c_154_52 (by omega) (by omega) ?_ ?_
        · intro h2
          refine n_fg (le_s (le_s (le_s (le_s (le_s (le_s (le_n (le_s (le_s (le_n (le_n (le_n le_0)))))))))))) ?_
          exact ih.2.2.2.2.2.2.2 _ _ (by omega) (by omega) (by omega)
        · intro h3
          refine n_iload_n c_154_55 rfl (n_iconst c_154_56 ?_)
          refine n_if2_le c_154_57 (by omega) (by omega) ?_ ?_
          · intro h4
            refine n_fg (le_s (le_s (le_s (le_s (le_s (le_s (le_n (le_s (le_s (le_s (le_n (le_n le_0)))))))))))) ?_
            exact ih.2.2.1 _ _ _ (by omega) (by omega) (by omega) (by omega)
          · intro h5
            exfalso; omega
      · intro h6
        refine n_iload c_154_46 rfl (n_goto c_154_48 ?_)
        refine n_if2_ge c_154_52 (by omega) (by omega) ?_ ?_
        · intro h7
          refine n_fg (le_s (le_s (le_s (le_s (le_s (le_s (le_n (le_s (le_s (le_n (le_n (le_n le_0)))))))))))) ?_
          exact ih.2.2.2.2.2.2.2 _ _ (by omega) (by omega) (by omega)
        · intro h8
          refine n_iload_n c_154_55 rfl (n_iconst c_154_56 ?_)
          refine n_if2_le c_154_57 (by omega) (by omega) ?_ ?_
          · intro h9
            exfalso; omega
          · intro h10
            refine n_lload c_154_60 rfl (n_iload c_154_62 rfl (n_i_lshr c_154_64 rfl ?_))
            have f11 := n_lshr_r s x9
            generalize gz12 : (n_lshr s x9) = z12 at f11 ⊢
            refine n_lconst (n := 1) c_154_65 rfl (n_i_land c_154_66 rfl ?_)
            have f13 := n_land_r z12 1
            generalize gz14 : (n_land z12 1) = z14 at f13 ⊢
            refine n_lconst (n := 0) c_154_67 rfl (n_lcmp c_154_68 ?_)
            refine n_lif_ne c_154_69 (by omega) (by omega) ?_ ?_
            · intro h15
              refine n_fg (le_s (le_s (le_s (le_s (le_s (le_s (le_n (le_s (le_s (le_s (le_n (le_n le_0)))))))))))) ?_
              exact ih.2.2.1 _ _ _ (by omega) (by omega) (by omega) (by omega)
            · intro h16
              refine n_goto c_154_72 (n_fg (le_s (le_s (le_s (le_s (le_s (le_s (le_n (le_s (le_s (le_s (le_n (le_n le_0)))))))))))) ?_)
              exact ih.2.2.2.2.2.2.1 _ _ _ (by omega) (by omega) (by omega) (by omega)
    · intro x7 x8 x9 k7 k8 k9 hnn
      refine n_iconst c_154_75 (n_istore (L2 := [some (2, 112), some (0, m), some (2, 117), some (0, f), some (0, 0), some (1, s), none, some (0, x7), some (0, x8), some (0, x9), some (0, 0), none]) c_154_76 rfl rfl (n_fg (le_s (le_s (le_s (le_s (le_s (le_s (le_n (le_s (le_s (le_s (le_s (le_n le_0)))))))))))) ?_))
      exact ih.2.2.2.1 _ _ _ _ (by omega) (by omega) (by omega) (by omega) (by omega)
    · intro x7 x8 x9 x10 k7 k8 k9 k10 hnn
      refine n_iload c_154_78 rfl (n_iload_n c_154_80 rfl (n_iconst c_154_81 ?_))
      refine n_if2_le c_154_82 (by omega) (by omega) ?_ ?_
      · intro h1
        refine n_iconst c_154_90 ?_
        refine n_if2_ge c_154_91 (by omega) (by omega) ?_ ?_
        · intro h2
          refine n_fg (le_s (le_s (le_s (le_s (le_s (le_s (le_n (le_s (le_s (le_s (le_n (le_n le_0)))))))))))) ?_
          exact ih.2.2.2.2.2.2.1 _ _ _ (by omega) (by omega) (by omega) (by omega)
        · intro h3
          refine n_iload_n c_154_94 rfl (n_iconst c_154_95 ?_)
          refine n_if2_le c_154_96 (by omega) (by omega) ?_ ?_
          · intro h4
            refine n_fg (le_s (le_s (le_s (le_s (le_s (le_s (le_n (le_s (le_s (le_s (le_s (le_n le_0)))))))))))) ?_
            exact ih.2.2.2.2.1 _ _ _ _ (by omega) (by omega) (by omega) (by omega) (by omega)
          · intro h5
            exfalso; omega
      · intro h6
        refine n_iload c_154_85 rfl (n_goto c_154_87 ?_)
        refine n_if2_ge c_154_91 (by omega) (by omega) ?_ ?_
        · intro h7
          refine n_fg (le_s (le_s (le_s (le_s (le_s (le_s (le_n (le_s (le_s (le_s (le_n (le_n le_0)))))))))))) ?_
          exact ih.2.2.2.2.2.2.1 _ _ _ (by omega) (by omega) (by omega) (by omega)
        · intro h8
          refine n_iload_n c_154_94 rfl (n_iconst c_154_95 ?_)
          refine n_if2_le c_154_96 (by omega) (by omega) ?_ ?_
          · intro h9
            exfalso; omega
          · intro h10
            refine n_lload c_154_99 rfl (n_iload c_154_101 rfl (n_i_lshr c_154_103 rfl ?_))
            have f11 := n_lshr_r s x10
            generalize gz12 : (n_lshr s x10) = z12 at f11 ⊢
            refine n_lconst (n := 1) c_154_104 rfl (n_i_land c_154_105 rfl ?_)
            have f13 := n_land_r z12 1
            generalize gz14 : (n_land z12 1) = z14 at f13 ⊢
            refine n_lconst (n := 0) c_154_106 rfl (n_lcmp c_154_107 ?_)
            refine n_lif_ne c_154_108 (by omega) (by omega) ?_ ?_
            · intro h15
              refine n_fg (le_s (le_s (le_s (le_s (le_s (le_s (le_n (le_s (le_s (le_s (le_s (le_n le_0)))))))))))) ?_
              exact ih.2.2.2.2.1 _ _ _ _ (by omega) (by omega) (by omega) (by omega) (by omega)
            · intro h16
              refine n_goto c_154_111 (n_fg (le_s (le_s (le_s (le_s (le_s (le_s (le_n (le_s (le_s (le_s (le_s (le_n le_0)))))))))))) ?_)
              exact ih.2.2.2.2.2.1 _ _ _ _ (by omega) (by omega) (by omega) (by omega) (by omega)
    · intro x7 x8 x9 x10 k7 k8 k9 k10 hnn
      refine n_aload_n c_154_114 rfl (n_iload_n c_154_115 rfl (n_aload_n c_154_116 rfl (n_iload_n c_154_117 rfl (n_iload c_154_118 rfl (n_iload c_154_120 rfl (n_iload c_154_122 rfl (n_iload c_154_124 rfl (n_v7I c_154_126 rfl sc_112.n rfl rfl rfl rfl (imageT0_3 (m := m) (f := f) (x := x8) (y := x9) (z0 := x10) hS hdm (by omega) (by omega) (by omega) (by omega) (by omega)) ?_))))))))
      intro z1 M2 hP3
      obtain ⟨eM, f3⟩ := hP3
      subst eM
      refine n_istore (L2 := [some (2, 112), some (0, m), some (2, 117), some (0, f), some (0, 0), some (1, s), none, some (0, x7), some (0, x8), some (0, x9), some (0, x10), some (0, z1)]) c_154_129 rfl rfl (n_lload c_154_131 rfl (n_iload c_154_133 rfl (n_i_lshr c_154_135 rfl ?_)))
      have f4 := n_lshr_r s z1
      generalize gz5 : (n_lshr s z1) = z5 at f4 ⊢
      refine n_lconst (n := 1) c_154_136 rfl (n_i_land c_154_137 rfl ?_)
      have f6 := n_land_r z5 1
      generalize gz7 : (n_land z5 1) = z7 at f6 ⊢
      refine n_lconst (n := 0) c_154_138 rfl (n_lcmp c_154_139 ?_)
      refine n_lif_ne c_154_140 (by omega) (by omega) ?_ ?_
      · intro h8
        refine n_fg (le_s (le_s (le_s (le_s (le_s (le_s (le_n (le_s (le_s (le_s (le_s (le_n le_0)))))))))))) ?_
        exact ih.2.2.2.2.2.1 _ _ _ _ (by omega) (by omega) (by omega) (by omega) (by omega)
      · intro h9
        refine n_iload c_154_143 rfl ?_
        exact n_rI c_154_145 rfl ⟨rfl, by omega, by first | omega | (refine Or.inr ?_; subst_vars; assumption)⟩
    · intro x7 x8 x9 x10 k7 k8 k9 k10 hnn
      refine n_iinc (L2 := [some (2, 112), some (0, m), some (2, 117), some (0, f), some (0, 0), some (1, s), none, some (0, x7), some (0, x8), some (0, x9), some (0, (x10 + 1)), none]) c_154_146 rfl rfl rfl (n_goto c_154_149 (n_fg (le_s (le_s (le_s (le_s (le_s (le_s (le_n (le_s (le_s (le_s (le_s (le_n le_0)))))))))))) ?_))
      exact ih.2.2.2.1 _ _ _ _ (by omega) (by omega) (by omega) (by omega) (by omega)
    · intro x7 x8 x9 k7 k8 k9 hnn
      refine n_iinc (L2 := [some (2, 112), some (0, m), some (2, 117), some (0, f), some (0, 0), some (1, s), none, some (0, x7), some (0, x8), some (0, (x9 + 1)), none, none]) c_154_152 rfl rfl rfl (n_goto c_154_155 (n_fg (le_s (le_s (le_s (le_s (le_s (le_s (le_n (le_s (le_s (le_s (le_n (le_n le_0)))))))))))) ?_))
      exact ih.2.1 _ _ _ (by omega) (by omega) (by omega) (by omega)
    · intro x7 x8 k7 k8 hnn
      refine n_iinc (L2 := [some (2, 112), some (0, m), some (2, 117), some (0, f), some (0, 0), some (1, s), none, some (0, x7), some (0, (x8 + 1)), none, none, none]) c_154_158 rfl rfl rfl (n_goto c_154_161 (n_fg (le_s (le_s (le_s (le_s (le_s (le_s (le_n (le_s (le_s (le_n (le_n (le_n le_0)))))))))))) ?_))
      exact ih.1 _ _ (by omega) (by omega) (by omega)
set_option maxHeartbeats 4000000 in
theorem escapesT0_3 {xs : List Int32} {e : Nat} {ac : Int} {M0 M : nM} {m f s : Int} (hS : Sf 3 ac M0 M) (hdm : M0 112 0 = 3) (hm : 0 ≤ m ∧ m ≤ 3) (hf : 0 ≤ f ∧ f ≤ 189) (hs : -9223372036854775808 ≤ s ∧ s ≤ 9223372036854775807) : nW xs (e + 2) 154 0 [some (2, 112), some (0, m), some (2, 117), some (0, f), some (0, 0), some (1, s), none, none, none, none, none, none] [] M (nPI fun z M1 => M = M1 ∧ (-1 ≤ z ∧ z ≤ 26) ∧ (z = -1 ∨ n_land (n_lshr s z) 1 = 0)) := by
  have hd : (3 : Int) = 2 ∨ (3 : Int) = 3 := by decide
  have hac := hS.2.2.2.2
  refine n_aload_n c_154_0 rfl (n_getV (bi := 0) c_154_1 sc_112.n rfl rfl rfl (t_dm hS hdm) ?_)
  intro z1 ez1 f2
  obtain rfl : z1 = 3 := by omega
  refine n_iload c_154_4 rfl (n_s2I c_154_6 rfl rfl rfl rfl (mpower0_3  hS ) ?_)
  intro z3 M4 hP5
  obtain ⟨eM, f5⟩ := hP5
  subst eM
  obtain rfl : z3 = 1 := by omega
  refine n_istore (L2 := [some (2, 112), some (0, m), some (2, 117), some (0, f), some (0, 0), some (1, s), none, some (0, 1), none, none, none, none]) c_154_9 rfl rfl (n_iconst c_154_11 (n_istore (L2 := [some (2, 112), some (0, m), some (2, 117), some (0, f), some (0, 0), some (1, s), none, some (0, 1), some (0, 0), none, none, none]) c_154_12 rfl rfl (n_fg (le_s (le_s (le_s (le_s (le_s (le_s (le_n (le_s (le_s (le_n (le_n (le_n le_0)))))))))))) ?_)))
  exact (escapesT0_3_c hS hdm hm hf hs 238).1 _ _ (by omega) (by omega) (by omega)

/-! The methods, by program. -/
set_option maxHeartbeats 4000000 in
theorem escapesT1_3_c {xs : List Int32} {e : Nat} {ac : Int} {M0 M : nM} {m f s : Int} (hS : Sf 3 ac M0 M) (hdm : M0 112 0 = 3) (hm : 0 ≤ m ∧ m ≤ 3) (hf : 0 ≤ f ∧ f ≤ 189) (hs : -9223372036854775808 ≤ s ∧ s ≤ 9223372036854775807) : ∀ nn : Nat, (∀ (x7 x8 : Int), (3 ≤ x7 ∧ x7 ≤ 3) → (0 ≤ x8 ∧ x8 ≤ 3) → (3 - x8) * 92 + 92 < (nn : Int) → nW xs (e + 2) 154 14 [some (2, 112), some (0, m), some (2, 117), some (0, f), some (0, 1), some (1, s), none, some (0, x7), some (0, x8), none, none, none] [] M (nPI fun z M1 => M = M1 ∧ (-1 ≤ z ∧ z ≤ 26) ∧ (z = -1 ∨ n_land (n_lshr s z) 1 = 0))) ∧ (∀ (x7 x8 x9 : Int), (3 ≤ x7 ∧ x7 ≤ 3) → (0 ≤ x8 ∧ x8 ≤ 2) → (0 ≤ x9 ∧ x9 ≤ 3) → (3 - x8) * 92 + (3 - x9) * 18 + 19 < (nn : Int) → nW xs (e + 2) 154 39 [some (2, 112), some (0, m), some (2, 117), some (0, f), some (0, 1), some (1, s), none, some (0, x7), some (0, x8), some (0, x9), none, none] [] M (nPI fun z M1 => M = M1 ∧ (-1 ≤ z ∧ z ≤ 26) ∧ (z = -1 ∨ n_land (n_lshr s z) 1 = 0))) ∧ (∀ (x7 x8 x9 : Int), (3 ≤ x7 ∧ x7 ≤ 3) → (0 ≤ x8 ∧ x8 ≤ 2) → (0 ≤ x9 ∧ x9 ≤ 2) → (3 - x8) * 92 + (3 - x9) * 18 + 18 < (nn : Int) → nW xs (e + 2) 154 75 [some (2, 112), some (0, m), some (2, 117), some (0, f), some (0, 1), some (1, s), none, some (0, x7), some (0, x8), some (0, x9), none, none] [] M (nPI fun z M1 => M = M1 ∧ (-1 ≤ z ∧ z ≤ 26) ∧ (z = -1 ∨ n_land (n_lshr s z) 1 = 0))) ∧ (∀ (x7 x8 x9 x10 : Int), (3 ≤ x7 ∧ x7 ≤ 3) → (0 ≤ x8 ∧ x8 ≤ 2) → (0 ≤ x9 ∧ x9 ≤ 2) → (0 ≤ x10 ∧ x10 ≤ 3) → (3 - x8) * 92 + (3 - x9) * 18 + (3 - x10) * 3 + 5 < (nn : Int) → nW xs (e + 2) 154 78 [some (2, 112), some (0, m), some (2, 117), some (0, f), some (0, 1), some (1, s), none, some (0, x7), some (0, x8), some (0, x9), some (0, x10), none] [] M (nPI fun z M1 => M = M1 ∧ (-1 ≤ z ∧ z ≤ 26) ∧ (z = -1 ∨ n_land (n_lshr s z) 1 = 0))) ∧ (∀ (x7 x8 x9 x10 : Int), (3 ≤ x7 ∧ x7 ≤ 3) → (0 ≤ x8 ∧ x8 ≤ 2) → (0 ≤ x9 ∧ x9 ≤ 2) → (0 ≤ x10 ∧ x10 ≤ 2) → (3 - x8) * 92 + (3 - x9) * 18 + (3 - x10) * 3 + 4 < (nn : Int) → nW xs (e + 2) 154 114 [some (2, 112), some (0, m), some (2, 117), some (0, f), some (0, 1), some (1, s), none, some (0, x7), some (0, x8), some (0, x9), some (0, x10), none] [] M (nPI fun z M1 => M = M1 ∧ (-1 ≤ z ∧ z ≤ 26) ∧ (z = -1 ∨ n_land (n_lshr s z) 1 = 0))) ∧ (∀ (x7 x8 x9 x10 : Int), (3 ≤ x7 ∧ x7 ≤ 3) → (0 ≤ x8 ∧ x8 ≤ 2) → (0 ≤ x9 ∧ x9 ≤ 2) → (0 ≤ x10 ∧ x10 ≤ 2) → (3 - x8) * 92 + (3 - x9) * 18 + (3 - x10) * 3 + 3 < (nn : Int) → nW xs (e + 2) 154 146 [some (2, 112), some (0, m), some (2, 117), some (0, f), some (0, 1), some (1, s), none, some (0, x7), some (0, x8), some (0, x9), some (0, x10), none] [] M (nPI fun z M1 => M = M1 ∧ (-1 ≤ z ∧ z ≤ 26) ∧ (z = -1 ∨ n_land (n_lshr s z) 1 = 0))) ∧ (∀ (x7 x8 x9 : Int), (3 ≤ x7 ∧ x7 ≤ 3) → (0 ≤ x8 ∧ x8 ≤ 2) → (0 ≤ x9 ∧ x9 ≤ 2) → (3 - x8) * 92 + (3 - x9) * 18 + 2 < (nn : Int) → nW xs (e + 2) 154 152 [some (2, 112), some (0, m), some (2, 117), some (0, f), some (0, 1), some (1, s), none, some (0, x7), some (0, x8), some (0, x9), none, none] [] M (nPI fun z M1 => M = M1 ∧ (-1 ≤ z ∧ z ≤ 26) ∧ (z = -1 ∨ n_land (n_lshr s z) 1 = 0))) ∧ (∀ (x7 x8 : Int), (3 ≤ x7 ∧ x7 ≤ 3) → (0 ≤ x8 ∧ x8 ≤ 2) → (3 - x8) * 92 + 1 < (nn : Int) → nW xs (e + 2) 154 158 [some (2, 112), some (0, m), some (2, 117), some (0, f), some (0, 1), some (1, s), none, some (0, x7), some (0, x8), none, none, none] [] M (nPI fun z M1 => M = M1 ∧ (-1 ≤ z ∧ z ≤ 26) ∧ (z = -1 ∨ n_land (n_lshr s z) 1 = 0))) := by
  have hd : (3 : Int) = 2 ∨ (3 : Int) = 3 := by decide
  have hac := hS.2.2.2.2
  intro nn
  induction nn with
  | zero => refine ⟨?_, ?_, ?_, ?_, ?_, ?_, ?_, ?_⟩ <;> (intros; omega)
  | succ nn ih =>
    refine ⟨?_, ?_, ?_, ?_, ?_, ?_, ?_, ?_⟩
    · intro x7 x8 k7 k8 hnn
      refine n_iload c_154_14 rfl (n_iload c_154_16 rfl ?_)
      refine n_if2_ge c_154_18 (by omega) (by omega) ?_ ?_
      · intro h1
        refine n_iconst c_154_164 ?_
        exact n_rI c_154_165 rfl ⟨rfl, by omega, by first | omega | (refine Or.inr ?_; subst_vars; assumption)⟩
      · intro h2
        refine n_lload c_154_21 rfl (n_iload c_154_23 rfl (n_i_lshr c_154_25 rfl ?_))
        have f3 := n_lshr_r s x8
        generalize gz4 : (n_lshr s x8) = z4 at f3 ⊢
        refine n_lconst (n := 1) c_154_26 rfl (n_i_land c_154_27 rfl ?_)
        have f5 := n_land_r z4 1
        generalize gz6 : (n_land z4 1) = z6 at f5 ⊢
        refine n_lconst (n := 0) c_154_28 rfl (n_lcmp c_154_29 ?_)
        refine n_lif_ne c_154_30 (by omega) (by omega) ?_ ?_
        · intro h7
          refine n_iconst c_154_36 (n_istore (L2 := [some (2, 112), some (0, m), some (2, 117), some (0, f), some (0, 1), some (1, s), none, some (0, x7), some (0, x8), some (0, 0), none, none]) c_154_37 rfl rfl (n_fg (le_s (le_s (le_s (le_s (le_s (le_s (le_n (le_s (le_s (le_s (le_n (le_n le_0)))))))))))) ?_))
          exact ih.2.1 _ _ _ (by omega) (by omega) (by omega) (by omega)
        · intro h8
          refine n_goto c_154_33 (n_fg (le_s (le_s (le_s (le_s (le_s (le_s (le_n (le_s (le_s (le_n (le_n (le_n le_0)))))))))))) ?_)
          exact ih.2.2.2.2.2.2.2 _ _ (by omega) (by omega) (by omega)
    · intro x7 x8 x9 k7 k8 k9 hnn
      refine n_iload c_154_39 rfl (n_iload_n c_154_41 rfl (n_iconst c_154_42 ?_))
      refine n_if2_le c_154_43 (by omega) (by omega) ?_ ?_
      · intro h1
        refine n_iconst c_154_51 ?_
        refine n_if2_ge c_154_52 (by omega) (by omega) ?_ ?_
        · intro h2
          refine n_fg (le_s (le_s (le_s (le_s (le_s (le_s (le_n (le_s (le_s (le_n (le_n (le_n le_0)))))))))))) ?_
          exact ih.2.2.2.2.2.2.2 _ _ (by omega) (by omega) (by omega)
        · intro h3
          refine n_iload_n c_154_55 rfl (n_iconst c_154_56 ?_)
          refine n_if2_le c_154_57 (by omega) (by omega) ?_ ?_
          · intro h4
            refine n_fg (le_s (le_s (le_s (le_s (le_s (le_s (le_n (le_s (le_s (le_s (le_n (le_n le_0)))))))))))) ?_
            exact ih.2.2.1 _ _ _ (by omega) (by omega) (by omega) (by omega)
          · intro h5
            exfalso; omega
      · intro h6
        refine n_iload c_154_46 rfl (n_goto c_154_48 ?_)
        refine n_if2_ge c_154_52 (by omega) (by omega) ?_ ?_
        · intro h7
          refine n_fg (le_s (le_s (le_s (le_s (le_s (le_s (le_n (le_s (le_s (le_n (le_n (le_n le_0)))))))))))) ?_
          exact ih.2.2.2.2.2.2.2 _ _ (by omega) (by omega) (by omega)
        · intro h8
          refine n_iload_n c_154_55 rfl (n_iconst c_154_56 ?_)
          refine n_if2_le c_154_57 (by omega) (by omega) ?_ ?_
          · intro h9
            exfalso; omega
          · intro h10
            refine n_lload c_154_60 rfl (n_iload c_154_62 rfl (n_i_lshr c_154_64 rfl ?_))
            have f11 := n_lshr_r s x9
            generalize gz12 : (n_lshr s x9) = z12 at f11 ⊢
            refine n_lconst (n := 1) c_154_65 rfl (n_i_land c_154_66 rfl ?_)
            have f13 := n_land_r z12 1
            generalize gz14 : (n_land z12 1) = z14 at f13 ⊢
            refine n_lconst (n := 0) c_154_67 rfl (n_lcmp c_154_68 ?_)
            refine n_lif_ne c_154_69 (by omega) (by omega) ?_ ?_
            · intro h15
              refine n_fg (le_s (le_s (le_s (le_s (le_s (le_s (le_n (le_s (le_s (le_s (le_n (le_n le_0)))))))))))) ?_
              exact ih.2.2.1 _ _ _ (by omega) (by omega) (by omega) (by omega)
            · intro h16
              refine n_goto c_154_72 (n_fg (le_s (le_s (le_s (le_s (le_s (le_s (le_n (le_s (le_s (le_s (le_n (le_n le_0)))))))))))) ?_)
              exact ih.2.2.2.2.2.2.1 _ _ _ (by omega) (by omega) (by omega) (by omega)
    · intro x7 x8 x9 k7 k8 k9 hnn
      refine n_iconst c_154_75 (n_istore (L2 := [some (2, 112), some (0, m), some (2, 117), some (0, f), some (0, 1), some (1, s), none, some (0, x7), some (0, x8), some (0, x9), some (0, 0), none]) c_154_76 rfl rfl (n_fg (le_s (le_s (le_s (le_s (le_s (le_s (le_n (le_s (le_s (le_s (le_s (le_n le_0)))))))))))) ?_))
      exact ih.2.2.2.1 _ _ _ _ (by omega) (by omega) (by omega) (by omega) (by omega)
    · intro x7 x8 x9 x10 k7 k8 k9 k10 hnn
      refine n_iload c_154_78 rfl (n_iload_n c_154_80 rfl (n_iconst c_154_81 ?_))
      refine n_if2_le c_154_82 (by omega) (by omega) ?_ ?_
      · intro h1
        refine n_iconst c_154_90 ?_
        refine n_if2_ge c_154_91 (by omega) (by omega) ?_ ?_
        · intro h2
          refine n_fg (le_s (le_s (le_s (le_s (le_s (le_s (le_n (le_s (le_s (le_s (le_n (le_n le_0)))))))))))) ?_
          exact ih.2.2.2.2.2.2.1 _ _ _ (by omega) (by omega) (by omega) (by omega)
        · intro h3
          refine n_iload_n c_154_94 rfl (n_iconst c_154_95 ?_)
          refine n_if2_le c_154_96 (by omega) (by omega) ?_ ?_
          · intro h4
            refine n_fg (le_s (le_s (le_s (le_s (le_s (le_s (le_n (le_s (le_s (le_s (le_s (le_n le_0)))))))))))) ?_
            exact ih.2.2.2.2.1 _ _ _ _ (by omega) (by omega) (by omega) (by omega) (by omega)
          · intro h5
            exfalso; omega
      · intro h6
        refine n_iload c_154_85 rfl (n_goto c_154_87 ?_)
        refine n_if2_ge c_154_91 (by omega) (by omega) ?_ ?_
        · intro h7
          refine n_fg (le_s (le_s (le_s (le_s (le_s (le_s (le_n (le_s (le_s (le_s (le_n (le_n le_0)))))))))))) ?_
          exact ih.2.2.2.2.2.2.1 _ _ _ (by omega) (by omega) (by omega) (by omega)
        · intro h8
          refine n_iload_n c_154_94 rfl (n_iconst c_154_95 ?_)
          refine n_if2_le c_154_96 (by omega) (by omega) ?_ ?_
          · intro h9
            exfalso; omega
          · intro h10
            refine n_lload c_154_99 rfl (n_iload c_154_101 rfl (n_i_lshr c_154_103 rfl ?_))
            have f11 := n_lshr_r s x10
            generalize gz12 : (n_lshr s x10) = z12 at f11 ⊢
            refine n_lconst (n := 1) c_154_104 rfl (n_i_land c_154_105 rfl ?_)
            have f13 := n_land_r z12 1
            generalize gz14 : (n_land z12 1) = z14 at f13 ⊢
            refine n_lconst (n := 0) c_154_106 rfl (n_lcmp c_154_107 ?_)
            refine n_lif_ne c_154_108 (by omega) (by omega) ?_ ?_
            · intro h15
              refine n_fg (le_s (le_s (le_s (le_s (le_s (le_s (le_n (le_s (le_s (le_s (le_s (le_n le_0)))))))))))) ?_
              exact ih.2.2.2.2.1 _ _ _ _ (by omega) (by omega) (by omega) (by omega) (by omega)
            · intro h16
              refine n_goto c_154_111 (n_fg (le_s (le_s (le_s (le_s (le_s (le_s (le_n (le_s (le_s (le_s (le_s (le_n le_0)))))))))))) ?_)
              exact ih.2.2.2.2.2.1 _ _ _ _ (by omega) (by omega) (by omega) (by omega) (by omega)
    · intro x7 x8 x9 x10 k7 k8 k9 k10 hnn
      refine n_aload_n c_154_114 rfl (n_iload_n c_154_115 rfl (n_aload_n c_154_116 rfl (n_iload_n c_154_117 rfl (n_iload c_154_118 rfl (n_iload c_154_120 rfl (n_iload c_154_122 rfl (n_iload c_154_124 rfl (n_v7I c_154_126 rfl sc_112.n rfl rfl rfl rfl (imageT1_3 (m := m) (f := f) (x := x8) (y := x9) (z0 := x10) hS hdm (by omega) (by omega) (by omega) (by omega) (by omega)) ?_))))))))
      intro z1 M2 hP3
      obtain ⟨eM, f3⟩ := hP3
      subst eM
      refine n_istore (L2 := [some (2, 112), some (0, m), some (2, 117), some (0, f), some (0, 1), some (1, s), none, some (0, x7), some (0, x8), some (0, x9), some (0, x10), some (0, z1)]) c_154_129 rfl rfl (n_lload c_154_131 rfl (n_iload c_154_133 rfl (n_i_lshr c_154_135 rfl ?_)))
      have f4 := n_lshr_r s z1
      generalize gz5 : (n_lshr s z1) = z5 at f4 ⊢
      refine n_lconst (n := 1) c_154_136 rfl (n_i_land c_154_137 rfl ?_)
      have f6 := n_land_r z5 1
      generalize gz7 : (n_land z5 1) = z7 at f6 ⊢
      refine n_lconst (n := 0) c_154_138 rfl (n_lcmp c_154_139 ?_)
      refine n_lif_ne c_154_140 (by omega) (by omega) ?_ ?_
      · intro h8
        refine n_fg (le_s (le_s (le_s (le_s (le_s (le_s (le_n (le_s (le_s (le_s (le_s (le_n le_0)))))))))))) ?_
        exact ih.2.2.2.2.2.1 _ _ _ _ (by omega) (by omega) (by omega) (by omega) (by omega)
      · intro h9
        refine n_iload c_154_143 rfl ?_
        exact n_rI c_154_145 rfl ⟨rfl, by omega, by first | omega | (refine Or.inr ?_; subst_vars; assumption)⟩
    · intro x7 x8 x9 x10 k7 k8 k9 k10 hnn
      refine n_iinc (L2 := [some (2, 112), some (0, m), some (2, 117), some (0, f), some (0, 1), some (1, s), none, some (0, x7), some (0, x8), some (0, x9), some (0, (x10 + 1)), none]) c_154_146 rfl rfl rfl (n_goto c_154_149 (n_fg (le_s (le_s (le_s (le_s (le_s (le_s (le_n (le_s (le_s (le_s (le_s (le_n le_0)))))))))))) ?_))
      exact ih.2.2.2.1 _ _ _ _ (by omega) (by omega) (by omega) (by omega) (by omega)
    · intro x7 x8 x9 k7 k8 k9 hnn
      refine n_iinc (L2 := [some (2, 112), some (0, m), some (2, 117), some (0, f), some (0, 1), some (1, s), none, some (0, x7), some (0, x8), some (0, (x9 + 1)), none, none]) c_154_152 rfl rfl rfl (n_goto c_154_155 (n_fg (le_s (le_s (le_s (le_s (le_s (le_s (le_n (le_s (le_s (le_s (le_n (le_n le_0)))))))))))) ?_))
      exact ih.2.1 _ _ _ (by omega) (by omega) (by omega) (by omega)
    · intro x7 x8 k7 k8 hnn
      refine n_iinc (L2 := [some (2, 112), some (0, m), some (2, 117), some (0, f), some (0, 1), some (1, s), none, some (0, x7), some (0, (x8 + 1)), none, none, none]) c_154_158 rfl rfl rfl (n_goto c_154_161 (n_fg (le_s (le_s (le_s (le_s (le_s (le_s (le_n (le_s (le_s (le_n (le_n (le_n le_0)))))))))))) ?_))
      exact ih.1 _ _ (by omega) (by omega) (by omega)
set_option maxHeartbeats 4000000 in
theorem escapesT1_3 {xs : List Int32} {e : Nat} {ac : Int} {M0 M : nM} {m f s : Int} (hS : Sf 3 ac M0 M) (hdm : M0 112 0 = 3) (hm : 0 ≤ m ∧ m ≤ 3) (hf : 0 ≤ f ∧ f ≤ 189) (hs : -9223372036854775808 ≤ s ∧ s ≤ 9223372036854775807) : nW xs (e + 2) 154 0 [some (2, 112), some (0, m), some (2, 117), some (0, f), some (0, 1), some (1, s), none, none, none, none, none, none] [] M (nPI fun z M1 => M = M1 ∧ (-1 ≤ z ∧ z ≤ 26) ∧ (z = -1 ∨ n_land (n_lshr s z) 1 = 0)) := by
  have hd : (3 : Int) = 2 ∨ (3 : Int) = 3 := by decide
  have hac := hS.2.2.2.2
  refine n_aload_n c_154_0 rfl (n_getV (bi := 0) c_154_1 sc_112.n rfl rfl rfl (t_dm hS hdm) ?_)
  intro z1 ez1 f2
  obtain rfl : z1 = 3 := by omega
  refine n_iload c_154_4 rfl (n_s2I c_154_6 rfl rfl rfl rfl (mpower1_3  hS ) ?_)
  intro z3 M4 hP5
  obtain ⟨eM, f5⟩ := hP5
  subst eM
  obtain rfl : z3 = 3 := by omega
  refine n_istore (L2 := [some (2, 112), some (0, m), some (2, 117), some (0, f), some (0, 1), some (1, s), none, some (0, 3), none, none, none, none]) c_154_9 rfl rfl (n_iconst c_154_11 (n_istore (L2 := [some (2, 112), some (0, m), some (2, 117), some (0, f), some (0, 1), some (1, s), none, some (0, 3), some (0, 0), none, none, none]) c_154_12 rfl rfl (n_fg (le_s (le_s (le_s (le_s (le_s (le_s (le_n (le_s (le_s (le_n (le_n (le_n le_0)))))))))))) ?_)))
  exact (escapesT1_3_c hS hdm hm hf hs 930).1 _ _ (by omega) (by omega) (by omega)

set_option maxHeartbeats 4000000 in
theorem escapesT2_3_c {xs : List Int32} {e : Nat} {ac : Int} {M0 M : nM} {m f s : Int} (hS : Sf 3 ac M0 M) (hdm : M0 112 0 = 3) (hm : 0 ≤ m ∧ m ≤ 3) (hf : 0 ≤ f ∧ f ≤ 189) (hs : -9223372036854775808 ≤ s ∧ s ≤ 9223372036854775807) : ∀ nn : Nat, (∀ (x7 x8 : Int), (9 ≤ x7 ∧ x7 ≤ 9) → (0 ≤ x8 ∧ x8 ≤ 9) → (9 - x8) * 398 + 398 < (nn : Int) → nW xs (e + 2) 154 14 [some (2, 112), some (0, m), some (2, 117), some (0, f), some (0, 2), some (1, s), none, some (0, x7), some (0, x8), none, none, none] [] M (nPI fun z M1 => M = M1 ∧ (-1 ≤ z ∧ z ≤ 26) ∧ (z = -1 ∨ n_land (n_lshr s z) 1 = 0))) ∧ (∀ (x7 x8 x9 : Int), (9 ≤ x7 ∧ x7 ≤ 9) → (0 ≤ x8 ∧ x8 ≤ 8) → (0 ≤ x9 ∧ x9 ≤ 9) → (9 - x8) * 398 + (9 - x9) * 36 + 37 < (nn : Int) → nW xs (e + 2) 154 39 [some (2, 112), some (0, m), some (2, 117), some (0, f), some (0, 2), some (1, s), none, some (0, x7), some (0, x8), some (0, x9), none, none] [] M (nPI fun z M1 => M = M1 ∧ (-1 ≤ z ∧ z ≤ 26) ∧ (z = -1 ∨ n_land (n_lshr s z) 1 = 0))) ∧ (∀ (x7 x8 x9 : Int), (9 ≤ x7 ∧ x7 ≤ 9) → (0 ≤ x8 ∧ x8 ≤ 8) → (0 ≤ x9 ∧ x9 ≤ 8) → (9 - x8) * 398 + (9 - x9) * 36 + 36 < (nn : Int) → nW xs (e + 2) 154 75 [some (2, 112), some (0, m), some (2, 117), some (0, f), some (0, 2), some (1, s), none, some (0, x7), some (0, x8), some (0, x9), none, none] [] M (nPI fun z M1 => M = M1 ∧ (-1 ≤ z ∧ z ≤ 26) ∧ (z = -1 ∨ n_land (n_lshr s z) 1 = 0))) ∧ (∀ (x7 x8 x9 x10 : Int), (9 ≤ x7 ∧ x7 ≤ 9) → (0 ≤ x8 ∧ x8 ≤ 8) → (0 ≤ x9 ∧ x9 ≤ 8) → (0 ≤ x10 ∧ x10 ≤ 9) → (9 - x8) * 398 + (9 - x9) * 36 + (9 - x10) * 3 + 5 < (nn : Int) → nW xs (e + 2) 154 78 [some (2, 112), some (0, m), some (2, 117), some (0, f), some (0, 2), some (1, s), none, some (0, x7), some (0, x8), some (0, x9), some (0, x10), none] [] M (nPI fun z M1 => M = M1 ∧ (-1 ≤ z ∧ z ≤ 26) ∧ (z = -1 ∨ n_land (n_lshr s z) 1 = 0))) ∧ (∀ (x7 x8 x9 x10 : Int), (9 ≤ x7 ∧ x7 ≤ 9) → (0 ≤ x8 ∧ x8 ≤ 8) → (0 ≤ x9 ∧ x9 ≤ 8) → (0 ≤ x10 ∧ x10 ≤ 8) → (9 - x8) * 398 + (9 - x9) * 36 + (9 - x10) * 3 + 4 < (nn : Int) → nW xs (e + 2) 154 114 [some (2, 112), some (0, m), some (2, 117), some (0, f), some (0, 2), some (1, s), none, some (0, x7), some (0, x8), some (0, x9), some (0, x10), none] [] M (nPI fun z M1 => M = M1 ∧ (-1 ≤ z ∧ z ≤ 26) ∧ (z = -1 ∨ n_land (n_lshr s z) 1 = 0))) ∧ (∀ (x7 x8 x9 x10 : Int), (9 ≤ x7 ∧ x7 ≤ 9) → (0 ≤ x8 ∧ x8 ≤ 8) → (0 ≤ x9 ∧ x9 ≤ 8) → (0 ≤ x10 ∧ x10 ≤ 8) → (9 - x8) * 398 + (9 - x9) * 36 + (9 - x10) * 3 + 3 < (nn : Int) → nW xs (e + 2) 154 146 [some (2, 112), some (0, m), some (2, 117), some (0, f), some (0, 2), some (1, s), none, some (0, x7), some (0, x8), some (0, x9), some (0, x10), none] [] M (nPI fun z M1 => M = M1 ∧ (-1 ≤ z ∧ z ≤ 26) ∧ (z = -1 ∨ n_land (n_lshr s z) 1 = 0))) ∧ (∀ (x7 x8 x9 : Int), (9 ≤ x7 ∧ x7 ≤ 9) → (0 ≤ x8 ∧ x8 ≤ 8) → (0 ≤ x9 ∧ x9 ≤ 8) → (9 - x8) * 398 + (9 - x9) * 36 + 2 < (nn : Int) → nW xs (e + 2) 154 152 [some (2, 112), some (0, m), some (2, 117), some (0, f), some (0, 2), some (1, s), none, some (0, x7), some (0, x8), some (0, x9), none, none] [] M (nPI fun z M1 => M = M1 ∧ (-1 ≤ z ∧ z ≤ 26) ∧ (z = -1 ∨ n_land (n_lshr s z) 1 = 0))) ∧ (∀ (x7 x8 : Int), (9 ≤ x7 ∧ x7 ≤ 9) → (0 ≤ x8 ∧ x8 ≤ 8) → (9 - x8) * 398 + 1 < (nn : Int) → nW xs (e + 2) 154 158 [some (2, 112), some (0, m), some (2, 117), some (0, f), some (0, 2), some (1, s), none, some (0, x7), some (0, x8), none, none, none] [] M (nPI fun z M1 => M = M1 ∧ (-1 ≤ z ∧ z ≤ 26) ∧ (z = -1 ∨ n_land (n_lshr s z) 1 = 0))) := by
  have hd : (3 : Int) = 2 ∨ (3 : Int) = 3 := by decide
  have hac := hS.2.2.2.2
  intro nn
  induction nn with
  | zero => refine ⟨?_, ?_, ?_, ?_, ?_, ?_, ?_, ?_⟩ <;> (intros; omega)
  | succ nn ih =>
    refine ⟨?_, ?_, ?_, ?_, ?_, ?_, ?_, ?_⟩
    · intro x7 x8 k7 k8 hnn
      refine n_iload c_154_14 rfl (n_iload c_154_16 rfl ?_)
      refine n_if2_ge c_154_18 (by omega) (by omega) ?_ ?_
      · intro h1
        refine n_iconst c_154_164 ?_
        exact n_rI c_154_165 rfl ⟨rfl, by omega, by first | omega | (refine Or.inr ?_; subst_vars; assumption)⟩
      · intro h2
        refine n_lload c_154_21 rfl (n_iload c_154_23 rfl (n_i_lshr c_154_25 rfl ?_))
        have f3 := n_lshr_r s x8
        generalize gz4 : (n_lshr s x8) = z4 at f3 ⊢
        refine n_lconst (n := 1) c_154_26 rfl (n_i_land c_154_27 rfl ?_)
        have f5 := n_land_r z4 1
        generalize gz6 : (n_land z4 1) = z6 at f5 ⊢
        refine n_lconst (n := 0) c_154_28 rfl (n_lcmp c_154_29 ?_)
        refine n_lif_ne c_154_30 (by omega) (by omega) ?_ ?_
        · intro h7
          refine n_iconst c_154_36 (n_istore (L2 := [some (2, 112), some (0, m), some (2, 117), some (0, f), some (0, 2), some (1, s), none, some (0, x7), some (0, x8), some (0, 0), none, none]) c_154_37 rfl rfl (n_fg (le_s (le_s (le_s (le_s (le_s (le_s (le_n (le_s (le_s (le_s (le_n (le_n le_0)))))))))))) ?_))
          exact ih.2.1 _ _ _ (by omega) (by omega) (by omega) (by omega)
        · intro h8
          refine n_goto c_154_33 (n_fg (le_s (le_s (le_s (le_s (le_s (le_s (le_n (le_s (le_s (le_n (le_n (le_n le_0)))))))))))) ?_)
          exact ih.2.2.2.2.2.2.2 _ _ (by omega) (by omega) (by omega)
    · intro x7 x8 x9 k7 k8 k9 hnn
      refine n_iload c_154_39 rfl (n_iload_n c_154_41 rfl (n_iconst c_154_42 ?_))
      refine n_if2_le c_154_43 (by omega) (by omega) ?_ ?_
      · intro h1
        refine n_iconst c_154_51 ?_
        refine n_if2_ge c_154_52 (by omega) (by omega) ?_ ?_
        · intro h2
          refine n_fg (le_s (le_s (le_s (le_s (le_s (le_s (le_n (le_s (le_s (le_n (le_n (le_n le_0)))))))))))) ?_
          exact ih.2.2.2.2.2.2.2 _ _ (by omega) (by omega) (by omega)
        · intro h3
          refine n_iload_n c_154_55 rfl (n_iconst c_154_56 ?_)
          refine n_if2_le c_154_57 (by omega) (by omega) ?_ ?_
          · intro h4
            refine n_fg (le_s (le_s (le_s (le_s (le_s (le_s (le_n (le_s (le_s (le_s (le_n (le_n le_0)))))))))))) ?_
            exact ih.2.2.1 _ _ _ (by omega) (by omega) (by omega) (by omega)
          · intro h5
            exfalso; omega
      · intro h6
        refine n_iload c_154_46 rfl (n_goto c_154_48 ?_)
        refine n_if2_ge c_154_52 (by omega) (by omega) ?_ ?_
        · intro h7
          refine n_fg (le_s (le_s (le_s (le_s (le_s (le_s (le_n (le_s (le_s (le_n (le_n (le_n le_0)))))))))))) ?_
          exact ih.2.2.2.2.2.2.2 _ _ (by omega) (by omega) (by omega)
        · intro h8
          refine n_iload_n c_154_55 rfl (n_iconst c_154_56 ?_)
          refine n_if2_le c_154_57 (by omega) (by omega) ?_ ?_
          · intro h9
            exfalso; omega
          · intro h10
            refine n_lload c_154_60 rfl (n_iload c_154_62 rfl (n_i_lshr c_154_64 rfl ?_))
            have f11 := n_lshr_r s x9
            generalize gz12 : (n_lshr s x9) = z12 at f11 ⊢
            refine n_lconst (n := 1) c_154_65 rfl (n_i_land c_154_66 rfl ?_)
            have f13 := n_land_r z12 1
            generalize gz14 : (n_land z12 1) = z14 at f13 ⊢
            refine n_lconst (n := 0) c_154_67 rfl (n_lcmp c_154_68 ?_)
            refine n_lif_ne c_154_69 (by omega) (by omega) ?_ ?_
            · intro h15
              refine n_fg (le_s (le_s (le_s (le_s (le_s (le_s (le_n (le_s (le_s (le_s (le_n (le_n le_0)))))))))))) ?_
              exact ih.2.2.1 _ _ _ (by omega) (by omega) (by omega) (by omega)
            · intro h16
              refine n_goto c_154_72 (n_fg (le_s (le_s (le_s (le_s (le_s (le_s (le_n (le_s (le_s (le_s (le_n (le_n le_0)))))))))))) ?_)
              exact ih.2.2.2.2.2.2.1 _ _ _ (by omega) (by omega) (by omega) (by omega)
    · intro x7 x8 x9 k7 k8 k9 hnn
      refine n_iconst c_154_75 (n_istore (L2 := [some (2, 112), some (0, m), some (2, 117), some (0, f), some (0, 2), some (1, s), none, some (0, x7), some (0, x8), some (0, x9), some (0, 0), none]) c_154_76 rfl rfl (n_fg (le_s (le_s (le_s (le_s (le_s (le_s (le_n (le_s (le_s (le_s (le_s (le_n le_0)))))))))))) ?_))
      exact ih.2.2.2.1 _ _ _ _ (by omega) (by omega) (by omega) (by omega) (by omega)
    · intro x7 x8 x9 x10 k7 k8 k9 k10 hnn
      refine n_iload c_154_78 rfl (n_iload_n c_154_80 rfl (n_iconst c_154_81 ?_))
      refine n_if2_le c_154_82 (by omega) (by omega) ?_ ?_
      · intro h1
        refine n_iconst c_154_90 ?_
        refine n_if2_ge c_154_91 (by omega) (by omega) ?_ ?_
        · intro h2
          refine n_fg (le_s (le_s (le_s (le_s (le_s (le_s (le_n (le_s (le_s (le_s (le_n (le_n le_0)))))))))))) ?_
          exact ih.2.2.2.2.2.2.1 _ _ _ (by omega) (by omega) (by omega) (by omega)
        · intro h3
          refine n_iload_n c_154_94 rfl (n_iconst c_154_95 ?_)
          refine n_if2_le c_154_96 (by omega) (by omega) ?_ ?_
          · intro h4
            refine n_fg (le_s (le_s (le_s (le_s (le_s (le_s (le_n (le_s (le_s (le_s (le_s (le_n le_0)))))))))))) ?_
            exact ih.2.2.2.2.1 _ _ _ _ (by omega) (by omega) (by omega) (by omega) (by omega)
          · intro h5
            exfalso; omega
      · intro h6
        refine n_iload c_154_85 rfl (n_goto c_154_87 ?_)
        refine n_if2_ge c_154_91 (by omega) (by omega) ?_ ?_
        · intro h7
          refine n_fg (le_s (le_s (le_s (le_s (le_s (le_s (le_n (le_s (le_s (le_s (le_n (le_n le_0)))))))))))) ?_
          exact ih.2.2.2.2.2.2.1 _ _ _ (by omega) (by omega) (by omega) (by omega)
        · intro h8
          refine n_iload_n c_154_94 rfl (n_iconst c_154_95 ?_)
          refine n_if2_le c_154_96 (by omega) (by omega) ?_ ?_
          · intro h9
            exfalso; omega
          · intro h10
            refine n_lload c_154_99 rfl (n_iload c_154_101 rfl (n_i_lshr c_154_103 rfl ?_))
            have f11 := n_lshr_r s x10
            generalize gz12 : (n_lshr s x10) = z12 at f11 ⊢
            refine n_lconst (n := 1) c_154_104 rfl (n_i_land c_154_105 rfl ?_)
            have f13 := n_land_r z12 1
            generalize gz14 : (n_land z12 1) = z14 at f13 ⊢
            refine n_lconst (n := 0) c_154_106 rfl (n_lcmp c_154_107 ?_)
            refine n_lif_ne c_154_108 (by omega) (by omega) ?_ ?_
            · intro h15
              refine n_fg (le_s (le_s (le_s (le_s (le_s (le_s (le_n (le_s (le_s (le_s (le_s (le_n le_0)))))))))))) ?_
              exact ih.2.2.2.2.1 _ _ _ _ (by omega) (by omega) (by omega) (by omega) (by omega)
            · intro h16
              refine n_goto c_154_111 (n_fg (le_s (le_s (le_s (le_s (le_s (le_s (le_n (le_s (le_s (le_s (le_s (le_n le_0)))))))))))) ?_)
              exact ih.2.2.2.2.2.1 _ _ _ _ (by omega) (by omega) (by omega) (by omega) (by omega)
    · intro x7 x8 x9 x10 k7 k8 k9 k10 hnn
      refine n_aload_n c_154_114 rfl (n_iload_n c_154_115 rfl (n_aload_n c_154_116 rfl (n_iload_n c_154_117 rfl (n_iload c_154_118 rfl (n_iload c_154_120 rfl (n_iload c_154_122 rfl (n_iload c_154_124 rfl (n_v7I c_154_126 rfl sc_112.n rfl rfl rfl rfl (imageT2_3 (m := m) (f := f) (x := x8) (y := x9) (z0 := x10) hS hdm (by omega) (by omega) (by omega) (by omega) (by omega)) ?_))))))))
      intro z1 M2 hP3
      obtain ⟨eM, f3⟩ := hP3
      subst eM
      refine n_istore (L2 := [some (2, 112), some (0, m), some (2, 117), some (0, f), some (0, 2), some (1, s), none, some (0, x7), some (0, x8), some (0, x9), some (0, x10), some (0, z1)]) c_154_129 rfl rfl (n_lload c_154_131 rfl (n_iload c_154_133 rfl (n_i_lshr c_154_135 rfl ?_)))
      have f4 := n_lshr_r s z1
      generalize gz5 : (n_lshr s z1) = z5 at f4 ⊢
      refine n_lconst (n := 1) c_154_136 rfl (n_i_land c_154_137 rfl ?_)
      have f6 := n_land_r z5 1
      generalize gz7 : (n_land z5 1) = z7 at f6 ⊢
      refine n_lconst (n := 0) c_154_138 rfl (n_lcmp c_154_139 ?_)
      refine n_lif_ne c_154_140 (by omega) (by omega) ?_ ?_
      · intro h8
        refine n_fg (le_s (le_s (le_s (le_s (le_s (le_s (le_n (le_s (le_s (le_s (le_s (le_n le_0)))))))))))) ?_
        exact ih.2.2.2.2.2.1 _ _ _ _ (by omega) (by omega) (by omega) (by omega) (by omega)
      · intro h9
        refine n_iload c_154_143 rfl ?_
        exact n_rI c_154_145 rfl ⟨rfl, by omega, by first | omega | (refine Or.inr ?_; subst_vars; assumption)⟩
    · intro x7 x8 x9 x10 k7 k8 k9 k10 hnn
      refine n_iinc (L2 := [some (2, 112), some (0, m), some (2, 117), some (0, f), some (0, 2), some (1, s), none, some (0, x7), some (0, x8), some (0, x9), some (0, (x10 + 1)), none]) c_154_146 rfl rfl rfl (n_goto c_154_149 (n_fg (le_s (le_s (le_s (le_s (le_s (le_s (le_n (le_s (le_s (le_s (le_s (le_n le_0)))))))))))) ?_))
      exact ih.2.2.2.1 _ _ _ _ (by omega) (by omega) (by omega) (by omega) (by omega)
    · intro x7 x8 x9 k7 k8 k9 hnn
      refine n_iinc (L2 := [some (2, 112), some (0, m), some (2, 117), some (0, f), some (0, 2), some (1, s), none, some (0, x7), some (0, x8), some (0, (x9 + 1)), none, none]) c_154_152 rfl rfl rfl (n_goto c_154_155 (n_fg (le_s (le_s (le_s (le_s (le_s (le_s (le_n (le_s (le_s (le_s (le_n (le_n le_0)))))))))))) ?_))
      exact ih.2.1 _ _ _ (by omega) (by omega) (by omega) (by omega)
    · intro x7 x8 k7 k8 hnn
      refine n_iinc (L2 := [some (2, 112), some (0, m), some (2, 117), some (0, f), some (0, 2), some (1, s), none, some (0, x7), some (0, (x8 + 1)), none, none, none]) c_154_158 rfl rfl rfl (n_goto c_154_161 (n_fg (le_s (le_s (le_s (le_s (le_s (le_s (le_n (le_s (le_s (le_n (le_n (le_n le_0)))))))))))) ?_))
      exact ih.1 _ _ (by omega) (by omega) (by omega)
set_option maxHeartbeats 4000000 in
theorem escapesT2_3 {xs : List Int32} {e : Nat} {ac : Int} {M0 M : nM} {m f s : Int} (hS : Sf 3 ac M0 M) (hdm : M0 112 0 = 3) (hm : 0 ≤ m ∧ m ≤ 3) (hf : 0 ≤ f ∧ f ≤ 189) (hs : -9223372036854775808 ≤ s ∧ s ≤ 9223372036854775807) : nW xs (e + 2) 154 0 [some (2, 112), some (0, m), some (2, 117), some (0, f), some (0, 2), some (1, s), none, none, none, none, none, none] [] M (nPI fun z M1 => M = M1 ∧ (-1 ≤ z ∧ z ≤ 26) ∧ (z = -1 ∨ n_land (n_lshr s z) 1 = 0)) := by
  have hd : (3 : Int) = 2 ∨ (3 : Int) = 3 := by decide
  have hac := hS.2.2.2.2
  refine n_aload_n c_154_0 rfl (n_getV (bi := 0) c_154_1 sc_112.n rfl rfl rfl (t_dm hS hdm) ?_)
  intro z1 ez1 f2
  obtain rfl : z1 = 3 := by omega
  refine n_iload c_154_4 rfl (n_s2I c_154_6 rfl rfl rfl rfl (mpower2_3  hS ) ?_)
  intro z3 M4 hP5
  obtain ⟨eM, f5⟩ := hP5
  subst eM
  obtain rfl : z3 = 9 := by omega
  refine n_istore (L2 := [some (2, 112), some (0, m), some (2, 117), some (0, f), some (0, 2), some (1, s), none, some (0, 9), none, none, none, none]) c_154_9 rfl rfl (n_iconst c_154_11 (n_istore (L2 := [some (2, 112), some (0, m), some (2, 117), some (0, f), some (0, 2), some (1, s), none, some (0, 9), some (0, 0), none, none, none]) c_154_12 rfl rfl (n_fg (le_s (le_s (le_s (le_s (le_s (le_s (le_n (le_s (le_s (le_n (le_n (le_n le_0)))))))))))) ?_)))
  exact (escapesT2_3_c hS hdm hm hf hs 8766).1 _ _ (by omega) (by omega) (by omega)

set_option maxHeartbeats 4000000 in
theorem escapesT3_3_c {xs : List Int32} {e : Nat} {ac : Int} {M0 M : nM} {m f s : Int} (hS : Sf 3 ac M0 M) (hdm : M0 112 0 = 3) (hm : 0 ≤ m ∧ m ≤ 3) (hf : 0 ≤ f ∧ f ≤ 189) (hs : -9223372036854775808 ≤ s ∧ s ≤ 9223372036854775807) : ∀ nn : Nat, (∀ (x7 x8 : Int), (27 ≤ x7 ∧ x7 ≤ 27) → (0 ≤ x8 ∧ x8 ≤ 27) → (27 - x8) * 2612 + 2612 < (nn : Int) → nW xs (e + 2) 154 14 [some (2, 112), some (0, m), some (2, 117), some (0, f), some (0, 3), some (1, s), none, some (0, x7), some (0, x8), none, none, none] [] M (nPI fun z M1 => M = M1 ∧ (-1 ≤ z ∧ z ≤ 26) ∧ (z = -1 ∨ n_land (n_lshr s z) 1 = 0))) ∧ (∀ (x7 x8 x9 : Int), (27 ≤ x7 ∧ x7 ≤ 27) → (0 ≤ x8 ∧ x8 ≤ 26) → (0 ≤ x9 ∧ x9 ≤ 27) → (27 - x8) * 2612 + (27 - x9) * 90 + 91 < (nn : Int) → nW xs (e + 2) 154 39 [some (2, 112), some (0, m), some (2, 117), some (0, f), some (0, 3), some (1, s), none, some (0, x7), some (0, x8), some (0, x9), none, none] [] M (nPI fun z M1 => M = M1 ∧ (-1 ≤ z ∧ z ≤ 26) ∧ (z = -1 ∨ n_land (n_lshr s z) 1 = 0))) ∧ (∀ (x7 x8 x9 : Int), (27 ≤ x7 ∧ x7 ≤ 27) → (0 ≤ x8 ∧ x8 ≤ 26) → (0 ≤ x9 ∧ x9 ≤ 26) → (27 - x8) * 2612 + (27 - x9) * 90 + 90 < (nn : Int) → nW xs (e + 2) 154 75 [some (2, 112), some (0, m), some (2, 117), some (0, f), some (0, 3), some (1, s), none, some (0, x7), some (0, x8), some (0, x9), none, none] [] M (nPI fun z M1 => M = M1 ∧ (-1 ≤ z ∧ z ≤ 26) ∧ (z = -1 ∨ n_land (n_lshr s z) 1 = 0))) ∧ (∀ (x7 x8 x9 x10 : Int), (27 ≤ x7 ∧ x7 ≤ 27) → (0 ≤ x8 ∧ x8 ≤ 26) → (0 ≤ x9 ∧ x9 ≤ 26) → (0 ≤ x10 ∧ x10 ≤ 27) → (27 - x8) * 2612 + (27 - x9) * 90 + (27 - x10) * 3 + 5 < (nn : Int) → nW xs (e + 2) 154 78 [some (2, 112), some (0, m), some (2, 117), some (0, f), some (0, 3), some (1, s), none, some (0, x7), some (0, x8), some (0, x9), some (0, x10), none] [] M (nPI fun z M1 => M = M1 ∧ (-1 ≤ z ∧ z ≤ 26) ∧ (z = -1 ∨ n_land (n_lshr s z) 1 = 0))) ∧ (∀ (x7 x8 x9 x10 : Int), (27 ≤ x7 ∧ x7 ≤ 27) → (0 ≤ x8 ∧ x8 ≤ 26) → (0 ≤ x9 ∧ x9 ≤ 26) → (0 ≤ x10 ∧ x10 ≤ 26) → (27 - x8) * 2612 + (27 - x9) * 90 + (27 - x10) * 3 + 4 < (nn : Int) → nW xs (e + 2) 154 114 [some (2, 112), some (0, m), some (2, 117), some (0, f), some (0, 3), some (1, s), none, some (0, x7), some (0, x8), some (0, x9), some (0, x10), none] [] M (nPI fun z M1 => M = M1 ∧ (-1 ≤ z ∧ z ≤ 26) ∧ (z = -1 ∨ n_land (n_lshr s z) 1 = 0))) ∧ (∀ (x7 x8 x9 x10 : Int), (27 ≤ x7 ∧ x7 ≤ 27) → (0 ≤ x8 ∧ x8 ≤ 26) → (0 ≤ x9 ∧ x9 ≤ 26) → (0 ≤ x10 ∧ x10 ≤ 26) → (27 - x8) * 2612 + (27 - x9) * 90 + (27 - x10) * 3 + 3 < (nn : Int) → nW xs (e + 2) 154 146 [some (2, 112), some (0, m), some (2, 117), some (0, f), some (0, 3), some (1, s), none, some (0, x7), some (0, x8), some (0, x9), some (0, x10), none] [] M (nPI fun z M1 => M = M1 ∧ (-1 ≤ z ∧ z ≤ 26) ∧ (z = -1 ∨ n_land (n_lshr s z) 1 = 0))) ∧ (∀ (x7 x8 x9 : Int), (27 ≤ x7 ∧ x7 ≤ 27) → (0 ≤ x8 ∧ x8 ≤ 26) → (0 ≤ x9 ∧ x9 ≤ 26) → (27 - x8) * 2612 + (27 - x9) * 90 + 2 < (nn : Int) → nW xs (e + 2) 154 152 [some (2, 112), some (0, m), some (2, 117), some (0, f), some (0, 3), some (1, s), none, some (0, x7), some (0, x8), some (0, x9), none, none] [] M (nPI fun z M1 => M = M1 ∧ (-1 ≤ z ∧ z ≤ 26) ∧ (z = -1 ∨ n_land (n_lshr s z) 1 = 0))) ∧ (∀ (x7 x8 : Int), (27 ≤ x7 ∧ x7 ≤ 27) → (0 ≤ x8 ∧ x8 ≤ 26) → (27 - x8) * 2612 + 1 < (nn : Int) → nW xs (e + 2) 154 158 [some (2, 112), some (0, m), some (2, 117), some (0, f), some (0, 3), some (1, s), none, some (0, x7), some (0, x8), none, none, none] [] M (nPI fun z M1 => M = M1 ∧ (-1 ≤ z ∧ z ≤ 26) ∧ (z = -1 ∨ n_land (n_lshr s z) 1 = 0))) := by
  have hd : (3 : Int) = 2 ∨ (3 : Int) = 3 := by decide
  have hac := hS.2.2.2.2
  intro nn
  induction nn with
  | zero => refine ⟨?_, ?_, ?_, ?_, ?_, ?_, ?_, ?_⟩ <;> (intros; omega)
  | succ nn ih =>
    refine ⟨?_, ?_, ?_, ?_, ?_, ?_, ?_, ?_⟩
    · intro x7 x8 k7 k8 hnn
      refine n_iload c_154_14 rfl (n_iload c_154_16 rfl ?_)
      refine n_if2_ge c_154_18 (by omega) (by omega) ?_ ?_
      · intro h1
        refine n_iconst c_154_164 ?_
        exact n_rI c_154_165 rfl ⟨rfl, by omega, by first | omega | (refine Or.inr ?_; subst_vars; assumption)⟩
      · intro h2
        refine n_lload c_154_21 rfl (n_iload c_154_23 rfl (n_i_lshr c_154_25 rfl ?_))
        have f3 := n_lshr_r s x8
        generalize gz4 : (n_lshr s x8) = z4 at f3 ⊢
        refine n_lconst (n := 1) c_154_26 rfl (n_i_land c_154_27 rfl ?_)
        have f5 := n_land_r z4 1
        generalize gz6 : (n_land z4 1) = z6 at f5 ⊢
        refine n_lconst (n := 0) c_154_28 rfl (n_lcmp c_154_29 ?_)
        refine n_lif_ne c_154_30 (by omega) (by omega) ?_ ?_
        · intro h7
          refine n_iconst c_154_36 (n_istore (L2 := [some (2, 112), some (0, m), some (2, 117), some (0, f), some (0, 3), some (1, s), none, some (0, x7), some (0, x8), some (0, 0), none, none]) c_154_37 rfl rfl (n_fg (le_s (le_s (le_s (le_s (le_s (le_s (le_n (le_s (le_s (le_s (le_n (le_n le_0)))))))))))) ?_))
          exact ih.2.1 _ _ _ (by omega) (by omega) (by omega) (by omega)
        · intro h8
          refine n_goto c_154_33 (n_fg (le_s (le_s (le_s (le_s (le_s (le_s (le_n (le_s (le_s (le_n (le_n (le_n le_0)))))))))))) ?_)
          exact ih.2.2.2.2.2.2.2 _ _ (by omega) (by omega) (by omega)
    · intro x7 x8 x9 k7 k8 k9 hnn
      refine n_iload c_154_39 rfl (n_iload_n c_154_41 rfl (n_iconst c_154_42 ?_))
      refine n_if2_le c_154_43 (by omega) (by omega) ?_ ?_
      · intro h1
        refine n_iconst c_154_51 ?_
        refine n_if2_ge c_154_52 (by omega) (by omega) ?_ ?_
        · intro h2
          refine n_fg (le_s (le_s (le_s (le_s (le_s (le_s (le_n (le_s (le_s (le_n (le_n (le_n le_0)))))))))))) ?_
          exact ih.2.2.2.2.2.2.2 _ _ (by omega) (by omega) (by omega)
        · intro h3
          refine n_iload_n c_154_55 rfl (n_iconst c_154_56 ?_)
          refine n_if2_le c_154_57 (by omega) (by omega) ?_ ?_
          · intro h4
            refine n_fg (le_s (le_s (le_s (le_s (le_s (le_s (le_n (le_s (le_s (le_s (le_n (le_n le_0)))))))))))) ?_
            exact ih.2.2.1 _ _ _ (by omega) (by omega) (by omega) (by omega)
          · intro h5
            exfalso; omega
      · intro h6
        refine n_iload c_154_46 rfl (n_goto c_154_48 ?_)
        refine n_if2_ge c_154_52 (by omega) (by omega) ?_ ?_
        · intro h7
          refine n_fg (le_s (le_s (le_s (le_s (le_s (le_s (le_n (le_s (le_s (le_n (le_n (le_n le_0)))))))))))) ?_
          exact ih.2.2.2.2.2.2.2 _ _ (by omega) (by omega) (by omega)
        · intro h8
          refine n_iload_n c_154_55 rfl (n_iconst c_154_56 ?_)
          refine n_if2_le c_154_57 (by omega) (by omega) ?_ ?_
          · intro h9
            exfalso; omega
          · intro h10
            refine n_lload c_154_60 rfl (n_iload c_154_62 rfl (n_i_lshr c_154_64 rfl ?_))
            have f11 := n_lshr_r s x9
            generalize gz12 : (n_lshr s x9) = z12 at f11 ⊢
            refine n_lconst (n := 1) c_154_65 rfl (n_i_land c_154_66 rfl ?_)
            have f13 := n_land_r z12 1
            generalize gz14 : (n_land z12 1) = z14 at f13 ⊢
            refine n_lconst (n := 0) c_154_67 rfl (n_lcmp c_154_68 ?_)
            refine n_lif_ne c_154_69 (by omega) (by omega) ?_ ?_
            · intro h15
              refine n_fg (le_s (le_s (le_s (le_s (le_s (le_s (le_n (le_s (le_s (le_s (le_n (le_n le_0)))))))))))) ?_
              exact ih.2.2.1 _ _ _ (by omega) (by omega) (by omega) (by omega)
            · intro h16
              refine n_goto c_154_72 (n_fg (le_s (le_s (le_s (le_s (le_s (le_s (le_n (le_s (le_s (le_s (le_n (le_n le_0)))))))))))) ?_)
              exact ih.2.2.2.2.2.2.1 _ _ _ (by omega) (by omega) (by omega) (by omega)
    · intro x7 x8 x9 k7 k8 k9 hnn
      refine n_iconst c_154_75 (n_istore (L2 := [some (2, 112), some (0, m), some (2, 117), some (0, f), some (0, 3), some (1, s), none, some (0, x7), some (0, x8), some (0, x9), some (0, 0), none]) c_154_76 rfl rfl (n_fg (le_s (le_s (le_s (le_s (le_s (le_s (le_n (le_s (le_s (le_s (le_s (le_n le_0)))))))))))) ?_))
      exact ih.2.2.2.1 _ _ _ _ (by omega) (by omega) (by omega) (by omega) (by omega)
    · intro x7 x8 x9 x10 k7 k8 k9 k10 hnn
      refine n_iload c_154_78 rfl (n_iload_n c_154_80 rfl (n_iconst c_154_81 ?_))
      refine n_if2_le c_154_82 (by omega) (by omega) ?_ ?_
      · intro h1
        refine n_iconst c_154_90 ?_
        refine n_if2_ge c_154_91 (by omega) (by omega) ?_ ?_
        · intro h2
          refine n_fg (le_s (le_s (le_s (le_s (le_s (le_s (le_n (le_s (le_s (le_s (le_n (le_n le_0)))))))))))) ?_
          exact ih.2.2.2.2.2.2.1 _ _ _ (by omega) (by omega) (by omega) (by omega)
        · intro h3
          refine n_iload_n c_154_94 rfl (n_iconst c_154_95 ?_)
          refine n_if2_le c_154_96 (by omega) (by omega) ?_ ?_
          · intro h4
            refine n_fg (le_s (le_s (le_s (le_s (le_s (le_s (le_n (le_s (le_s (le_s (le_s (le_n le_0)))))))))))) ?_
            exact ih.2.2.2.2.1 _ _ _ _ (by omega) (by omega) (by omega) (by omega) (by omega)
          · intro h5
            exfalso; omega
      · intro h6
        refine n_iload c_154_85 rfl (n_goto c_154_87 ?_)
        refine n_if2_ge c_154_91 (by omega) (by omega) ?_ ?_
        · intro h7
          refine n_fg (le_s (le_s (le_s (le_s (le_s (le_s (le_n (le_s (le_s (le_s (le_n (le_n le_0)))))))))))) ?_
          exact ih.2.2.2.2.2.2.1 _ _ _ (by omega) (by omega) (by omega) (by omega)
        · intro h8
          refine n_iload_n c_154_94 rfl (n_iconst c_154_95 ?_)
          refine n_if2_le c_154_96 (by omega) (by omega) ?_ ?_
          · intro h9
            exfalso; omega
          · intro h10
            refine n_lload c_154_99 rfl (n_iload c_154_101 rfl (n_i_lshr c_154_103 rfl ?_))
            have f11 := n_lshr_r s x10
            generalize gz12 : (n_lshr s x10) = z12 at f11 ⊢
            refine n_lconst (n := 1) c_154_104 rfl (n_i_land c_154_105 rfl ?_)
            have f13 := n_land_r z12 1
            generalize gz14 : (n_land z12 1) = z14 at f13 ⊢
            refine n_lconst (n := 0) c_154_106 rfl (n_lcmp c_154_107 ?_)
            refine n_lif_ne c_154_108 (by omega) (by omega) ?_ ?_
            · intro h15
              refine n_fg (le_s (le_s (le_s (le_s (le_s (le_s (le_n (le_s (le_s (le_s (le_s (le_n le_0)))))))))))) ?_
              exact ih.2.2.2.2.1 _ _ _ _ (by omega) (by omega) (by omega) (by omega) (by omega)
            · intro h16
              refine n_goto c_154_111 (n_fg (le_s (le_s (le_s (le_s (le_s (le_s (le_n (le_s (le_s (le_s (le_s (le_n le_0)))))))))))) ?_)
              exact ih.2.2.2.2.2.1 _ _ _ _ (by omega) (by omega) (by omega) (by omega) (by omega)
    · intro x7 x8 x9 x10 k7 k8 k9 k10 hnn
      refine n_aload_n c_154_114 rfl (n_iload_n c_154_115 rfl (n_aload_n c_154_116 rfl (n_iload_n c_154_117 rfl (n_iload c_154_118 rfl (n_iload c_154_120 rfl (n_iload c_154_122 rfl (n_iload c_154_124 rfl (n_v7I c_154_126 rfl sc_112.n rfl rfl rfl rfl (imageT3_3 (m := m) (f := f) (x := x8) (y := x9) (z0 := x10) hS hdm (by omega) (by omega) (by omega) (by omega) (by omega)) ?_))))))))
      intro z1 M2 hP3
      obtain ⟨eM, f3⟩ := hP3
      subst eM
      refine n_istore (L2 := [some (2, 112), some (0, m), some (2, 117), some (0, f), some (0, 3), some (1, s), none, some (0, x7), some (0, x8), some (0, x9), some (0, x10), some (0, z1)]) c_154_129 rfl rfl (n_lload c_154_131 rfl (n_iload c_154_133 rfl (n_i_lshr c_154_135 rfl ?_)))
      have f4 := n_lshr_r s z1
      generalize gz5 : (n_lshr s z1) = z5 at f4 ⊢
      refine n_lconst (n := 1) c_154_136 rfl (n_i_land c_154_137 rfl ?_)
      have f6 := n_land_r z5 1
      generalize gz7 : (n_land z5 1) = z7 at f6 ⊢
      refine n_lconst (n := 0) c_154_138 rfl (n_lcmp c_154_139 ?_)
      refine n_lif_ne c_154_140 (by omega) (by omega) ?_ ?_
      · intro h8
        refine n_fg (le_s (le_s (le_s (le_s (le_s (le_s (le_n (le_s (le_s (le_s (le_s (le_n le_0)))))))))))) ?_
        exact ih.2.2.2.2.2.1 _ _ _ _ (by omega) (by omega) (by omega) (by omega) (by omega)
      · intro h9
        refine n_iload c_154_143 rfl ?_
        exact n_rI c_154_145 rfl ⟨rfl, by omega, by first | omega | (refine Or.inr ?_; subst_vars; assumption)⟩
    · intro x7 x8 x9 x10 k7 k8 k9 k10 hnn
      refine n_iinc (L2 := [some (2, 112), some (0, m), some (2, 117), some (0, f), some (0, 3), some (1, s), none, some (0, x7), some (0, x8), some (0, x9), some (0, (x10 + 1)), none]) c_154_146 rfl rfl rfl (n_goto c_154_149 (n_fg (le_s (le_s (le_s (le_s (le_s (le_s (le_n (le_s (le_s (le_s (le_s (le_n le_0)))))))))))) ?_))
      exact ih.2.2.2.1 _ _ _ _ (by omega) (by omega) (by omega) (by omega) (by omega)
    · intro x7 x8 x9 k7 k8 k9 hnn
      refine n_iinc (L2 := [some (2, 112), some (0, m), some (2, 117), some (0, f), some (0, 3), some (1, s), none, some (0, x7), some (0, x8), some (0, (x9 + 1)), none, none]) c_154_152 rfl rfl rfl (n_goto c_154_155 (n_fg (le_s (le_s (le_s (le_s (le_s (le_s (le_n (le_s (le_s (le_s (le_n (le_n le_0)))))))))))) ?_))
      exact ih.2.1 _ _ _ (by omega) (by omega) (by omega) (by omega)
    · intro x7 x8 k7 k8 hnn
      refine n_iinc (L2 := [some (2, 112), some (0, m), some (2, 117), some (0, f), some (0, 3), some (1, s), none, some (0, x7), some (0, (x8 + 1)), none, none, none]) c_154_158 rfl rfl rfl (n_goto c_154_161 (n_fg (le_s (le_s (le_s (le_s (le_s (le_s (le_n (le_s (le_s (le_n (le_n (le_n le_0)))))))))))) ?_))
      exact ih.1 _ _ (by omega) (by omega) (by omega)
set_option maxHeartbeats 4000000 in
theorem escapesT3_3 {xs : List Int32} {e : Nat} {ac : Int} {M0 M : nM} {m f s : Int} (hS : Sf 3 ac M0 M) (hdm : M0 112 0 = 3) (hm : 0 ≤ m ∧ m ≤ 3) (hf : 0 ≤ f ∧ f ≤ 189) (hs : -9223372036854775808 ≤ s ∧ s ≤ 9223372036854775807) : nW xs (e + 2) 154 0 [some (2, 112), some (0, m), some (2, 117), some (0, f), some (0, 3), some (1, s), none, none, none, none, none, none] [] M (nPI fun z M1 => M = M1 ∧ (-1 ≤ z ∧ z ≤ 26) ∧ (z = -1 ∨ n_land (n_lshr s z) 1 = 0)) := by
  have hd : (3 : Int) = 2 ∨ (3 : Int) = 3 := by decide
  have hac := hS.2.2.2.2
  refine n_aload_n c_154_0 rfl (n_getV (bi := 0) c_154_1 sc_112.n rfl rfl rfl (t_dm hS hdm) ?_)
  intro z1 ez1 f2
  obtain rfl : z1 = 3 := by omega
  refine n_iload c_154_4 rfl (n_s2I c_154_6 rfl rfl rfl rfl (mpower3_3  hS ) ?_)
  intro z3 M4 hP5
  obtain ⟨eM, f5⟩ := hP5
  subst eM
  obtain rfl : z3 = 27 := by omega
  refine n_istore (L2 := [some (2, 112), some (0, m), some (2, 117), some (0, f), some (0, 3), some (1, s), none, some (0, 27), none, none, none, none]) c_154_9 rfl rfl (n_iconst c_154_11 (n_istore (L2 := [some (2, 112), some (0, m), some (2, 117), some (0, f), some (0, 3), some (1, s), none, some (0, 27), some (0, 0), none, none, none]) c_154_12 rfl rfl (n_fg (le_s (le_s (le_s (le_s (le_s (le_s (le_n (le_s (le_s (le_n (le_n (le_n le_0)))))))))))) ?_)))
  exact (escapesT3_3_c hS hdm hm hf hs 151506).1 _ _ (by omega) (by omega) (by omega)

set_option maxHeartbeats 4000000 in
theorem escapesT_3 {xs : List Int32} {e : Nat} {ac : Int} {M0 M : nM} {m f k s : Int} (hS : Sf 3 ac M0 M) (hdm : M0 112 0 = 3) (hm : 0 ≤ m ∧ m ≤ 3) (hf : 0 ≤ f ∧ f ≤ 189) (hk : 0 ≤ k ∧ k ≤ 3) (hs : -9223372036854775808 ≤ s ∧ s ≤ 9223372036854775807) : nW xs (e + 2) 154 0 [some (2, 112), some (0, m), some (2, 117), some (0, f), some (0, k), some (1, s), none, none, none, none, none, none] [] M (nPI fun z M1 => M = M1 ∧ (-1 ≤ z ∧ z ≤ 26) ∧ (z = -1 ∨ n_land (n_lshr s z) 1 = 0)) := by
  rcases (show k = 0 ∨ k = 1 ∨ k = 2 ∨ k = 3 by omega) with rfl | rfl | rfl | rfl
  · exact n_post (escapesT0_3 hS hdm (by omega) (by omega) (by omega)) (fun w M1 h => by obtain ⟨z, rfl, h1, h2, h3⟩ := h; exact ⟨z, rfl, h1, by omega, h3⟩)
  · exact n_post (escapesT1_3 hS hdm (by omega) (by omega) (by omega)) (fun w M1 h => by obtain ⟨z, rfl, h1, h2, h3⟩ := h; exact ⟨z, rfl, h1, by omega, h3⟩)
  · exact n_post (escapesT2_3 hS hdm (by omega) (by omega) (by omega)) (fun w M1 h => by obtain ⟨z, rfl, h1, h2, h3⟩ := h; exact ⟨z, rfl, h1, by omega, h3⟩)
  · exact n_post (escapesT3_3 hS hdm (by omega) (by omega) (by omega)) (fun w M1 h => by obtain ⟨z, rfl, h1, h2, h3⟩ := h; exact ⟨z, rfl, h1, by omega, h3⟩)

set_option maxHeartbeats 4000000 in
theorem imageH0_3 {xs : List Int32} {e : Nat} {ac : Int} {M0 M : nM} {m f x y z0 : Int} (hS : Sf 3 ac M0 M) (hdm : M0 112 0 = 3) (hm : 0 ≤ m ∧ m ≤ 3) (hf : 0 ≤ f ∧ f ≤ 0) (hx : 0 ≤ x ∧ x ≤ 26) (hy : 0 ≤ y ∧ y ≤ 26) (hz0 : 0 ≤ z0 ∧ z0 ≤ 26) : nW xs (e + 1) 153 0 [some (2, 112), some (0, m), some (2, 127), some (0, f), some (0, 0), some (0, x), some (0, y), some (0, z0), none, none, none, none] [] M (nPI fun z M1 => M = M1 ∧ (0 ≤ z ∧ z ≤ 26)) := by
  have hd : (3 : Int) = 2 ∨ (3 : Int) = 3 := by decide
  have hac := hS.2.2.2.2
  refine n_iconst c_153_0 (n_istore (L2 := [some (2, 112), some (0, m), some (2, 127), some (0, f), some (0, 0), some (0, x), some (0, y), some (0, z0), some (0, 0), none, none, none]) c_153_1 rfl rfl (n_aload_n c_153_3 rfl (n_getV (bi := 0) c_153_4 sc_112.n rfl rfl rfl (t_dm hS hdm) ?_)))
  intro z1 ez1 f2
  obtain rfl : z1 = 3 := by omega
  refine n_iload c_153_7 rfl (n_iconst c_153_9 (n_isub c_153_10 rfl (n_s2I c_153_11 rfl rfl rfl rfl (mpowerN_3 (n := (0 - 1)) hS (by omega)) ?_)))
  intro z3 M4 hP5
  obtain ⟨eM, f5⟩ := hP5
  subst eM
  obtain rfl : z3 = 1 := by omega
  refine n_istore (L2 := [some (2, 112), some (0, m), some (2, 127), some (0, f), some (0, 0), some (0, x), some (0, y), some (0, z0), some (0, 0), some (0, 1), none, none]) c_153_14 rfl rfl (n_iconst c_153_16 (n_istore (L2 := [some (2, 112), some (0, m), some (2, 127), some (0, f), some (0, 0), some (0, x), some (0, y), some (0, z0), some (0, 0), some (0, 1), some (0, 0), none]) c_153_17 rfl rfl (n_iload c_153_19 rfl (n_iload c_153_21 rfl ?_))))
  refine n_if2_ge c_153_23 (by omega) (by omega) ?_ ?_
  · intro h6
    refine n_iload c_153_119 rfl ?_
    exact n_rI c_153_121 rfl ⟨rfl, by omega⟩
  · intro h7
    exfalso; omega

set_option maxHeartbeats 4000000 in
theorem imageH1_3 {xs : List Int32} {e : Nat} {ac : Int} {M0 M : nM} {m f x y z0 : Int} (hS : Sf 3 ac M0 M) (hdm : M0 112 0 = 3) (hm : 0 ≤ m ∧ m ≤ 3) (hf : 0 ≤ f ∧ f ≤ 0) (hx : 0 ≤ x ∧ x ≤ 26) (hy : 0 ≤ y ∧ y ≤ 26) (hz0 : 0 ≤ z0 ∧ z0 ≤ 26) : nW xs (e + 1) 153 0 [some (2, 112), some (0, m), some (2, 127), some (0, f), some (0, 1), some (0, x), some (0, y), some (0, z0), none, none, none, none] [] M (nPI fun z M1 => M = M1 ∧ (0 ≤ z ∧ z ≤ 26)) := by
  have hd : (3 : Int) = 2 ∨ (3 : Int) = 3 := by decide
  have hac := hS.2.2.2.2
  refine n_iconst c_153_0 (n_istore (L2 := [some (2, 112), some (0, m), some (2, 127), some (0, f), some (0, 1), some (0, x), some (0, y), some (0, z0), some (0, 0), none, none, none]) c_153_1 rfl rfl (n_aload_n c_153_3 rfl (n_getV (bi := 0) c_153_4 sc_112.n rfl rfl rfl (t_dm hS hdm) ?_)))
  intro z1 ez1 f2
  obtain rfl : z1 = 3 := by omega
  refine n_iload c_153_7 rfl (n_iconst c_153_9 (n_isub c_153_10 rfl ?_))
  have hcst : ((1 - 1) : Int) = 0 := by omega
  rw [hcst]
  refine n_s2I c_153_11 rfl rfl rfl rfl (mpower0_3  hS ) ?_
  intro z3 M4 hP5
  obtain ⟨eM, f5⟩ := hP5
  subst eM
  obtain rfl : z3 = 1 := by omega
  refine n_istore (L2 := [some (2, 112), some (0, m), some (2, 127), some (0, f), some (0, 1), some (0, x), some (0, y), some (0, z0), some (0, 0), some (0, 1), none, none]) c_153_14 rfl rfl (n_iconst c_153_16 (n_istore (L2 := [some (2, 112), some (0, m), some (2, 127), some (0, f), some (0, 1), some (0, x), some (0, y), some (0, z0), some (0, 0), some (0, 1), some (0, 0), none]) c_153_17 rfl rfl (n_iload c_153_19 rfl (n_iload c_153_21 rfl ?_))))
  refine n_if2_ge c_153_23 (by omega) (by omega) ?_ ?_
  · intro h6
    exfalso; omega
  · intro h7
    refine n_iload c_153_26 rfl (n_iload c_153_28 rfl (n_idivV c_153_30 (by omega) (by omega) ?_))
    intro z8 _ f9
    refine n_aload_n c_153_31 rfl (n_getV (bi := 0) c_153_32 sc_112.n rfl rfl rfl (t_dm hS hdm) ?_)
    intro z10 ez10 f11
    obtain rfl : z10 = 3 := by omega
    refine n_iremV c_153_35 (by omega) (by omega) ?_
    intro z12 _ f13
    refine n_istore (L2 := [some (2, 112), some (0, m), some (2, 127), some (0, f), some (0, 1), some (0, x), some (0, y), some (0, z0), some (0, 0), some (0, 1), some (0, 0), some (0, z12)]) c_153_36 rfl rfl (n_iload_n c_153_38 rfl (n_iconst c_153_39 ?_))
    refine n_if2_le c_153_40 (by omega) (by omega) ?_ ?_
    · intro h14
      refine n_iload_n c_153_63 rfl (n_iconst c_153_64 ?_)
      refine n_if2_le c_153_65 (by omega) (by omega) ?_ ?_
      · intro h15
        refine n_iload c_153_88 rfl (n_aload_n c_153_90 rfl (n_getV (bi := 0) c_153_91 sc_112.n rfl rfl rfl (t_dm hS hdm) ?_))
        intro z16 ez16 f17
        obtain rfl : z16 = 3 := by omega
        refine n_imul c_153_94 rfl (n_aload_n c_153_95 rfl (n_iload_n c_153_96 rfl (n_iload c_153_97 rfl (n_iadd c_153_99 rfl (n_ialoadV c_153_100 sc_127.n rfl rfl rfl (by omega) (t_127 hS (by omega)) ?_)))))
        intro z18 ez18 f19
        refine n_iadd c_153_101 rfl (n_istore (L2 := [some (2, 112), some (0, m), some (2, 127), some (0, f), some (0, 1), some (0, x), some (0, y), some (0, z0), some (0, ((0 * 3) + z18)), some (0, 1), some (0, 0), some (0, z12)]) c_153_102 rfl rfl (n_iload c_153_104 rfl (n_aload_n c_153_106 rfl (n_getV (bi := 0) c_153_107 sc_112.n rfl rfl rfl (t_dm hS hdm) ?_))))
        intro z20 ez20 f21
        obtain rfl : z20 = 3 := by omega
        refine n_idivT (z := 0) c_153_110 (by omega) (by omega) (by omega) (by decide) ?_
        refine n_istore (L2 := [some (2, 112), some (0, m), some (2, 127), some (0, f), some (0, 1), some (0, x), some (0, y), some (0, z0), some (0, ((0 * 3) + z18)), some (0, 0), some (0, 0), some (0, z12)]) c_153_111 rfl rfl (n_iinc (L2 := [some (2, 112), some (0, m), some (2, 127), some (0, f), some (0, 1), some (0, x), some (0, y), some (0, z0), some (0, ((0 * 3) + z18)), some (0, 0), some (0, (0 + 1)), some (0, z12)]) c_153_113 rfl rfl rfl (n_goto c_153_116 (n_iload c_153_19 rfl (n_iload c_153_21 rfl ?_))))
        refine n_if2_ge c_153_23 (by omega) (by omega) ?_ ?_
        · intro h22
          refine n_iload c_153_119 rfl ?_
          exact n_rI c_153_121 rfl ⟨rfl, by omega⟩
        · intro h23
          exfalso; omega
      · intro h24
        exfalso; omega
    · intro h25
      refine n_iload c_153_43 rfl (n_aload_n c_153_45 rfl (n_getV (bi := 0) c_153_46 sc_112.n rfl rfl rfl (t_dm hS hdm) ?_))
      intro z26 ez26 f27
      obtain rfl : z26 = 3 := by omega
      refine n_imul c_153_49 rfl (n_iload c_153_50 rfl (n_iload c_153_52 rfl (n_idivV c_153_54 (by omega) (by omega) ?_)))
      intro z28 _ f29
      refine n_aload_n c_153_55 rfl (n_getV (bi := 0) c_153_56 sc_112.n rfl rfl rfl (t_dm hS hdm) ?_)
      intro z30 ez30 f31
      obtain rfl : z30 = 3 := by omega
      refine n_iremV c_153_59 (by omega) (by omega) ?_
      intro z32 _ f33
      refine n_iadd c_153_60 rfl (n_istore (L2 := [some (2, 112), some (0, m), some (2, 127), some (0, f), some (0, 1), some (0, x), some (0, y), some (0, z0), some (0, 0), some (0, 1), some (0, 0), some (0, ((z12 * 3) + z32))]) c_153_61 rfl rfl (n_iload_n c_153_63 rfl (n_iconst c_153_64 ?_)))
      refine n_if2_le c_153_65 (by omega) (by omega) ?_ ?_
      · intro h34
        refine n_iload c_153_88 rfl (n_aload_n c_153_90 rfl (n_getV (bi := 0) c_153_91 sc_112.n rfl rfl rfl (t_dm hS hdm) ?_))
        intro z35 ez35 f36
        obtain rfl : z35 = 3 := by omega
        refine n_imul c_153_94 rfl (n_aload_n c_153_95 rfl (n_iload_n c_153_96 rfl (n_iload c_153_97 rfl (n_iadd c_153_99 rfl (n_ialoadV c_153_100 sc_127.n rfl rfl rfl (by omega) (t_127 hS (by omega)) ?_)))))
        intro z37 ez37 f38
        refine n_iadd c_153_101 rfl (n_istore (L2 := [some (2, 112), some (0, m), some (2, 127), some (0, f), some (0, 1), some (0, x), some (0, y), some (0, z0), some (0, ((0 * 3) + z37)), some (0, 1), some (0, 0), some (0, ((z12 * 3) + z32))]) c_153_102 rfl rfl (n_iload c_153_104 rfl (n_aload_n c_153_106 rfl (n_getV (bi := 0) c_153_107 sc_112.n rfl rfl rfl (t_dm hS hdm) ?_))))
        intro z39 ez39 f40
        obtain rfl : z39 = 3 := by omega
        refine n_idivT (z := 0) c_153_110 (by omega) (by omega) (by omega) (by decide) ?_
        refine n_istore (L2 := [some (2, 112), some (0, m), some (2, 127), some (0, f), some (0, 1), some (0, x), some (0, y), some (0, z0), some (0, ((0 * 3) + z37)), some (0, 0), some (0, 0), some (0, ((z12 * 3) + z32))]) c_153_111 rfl rfl (n_iinc (L2 := [some (2, 112), some (0, m), some (2, 127), some (0, f), some (0, 1), some (0, x), some (0, y), some (0, z0), some (0, ((0 * 3) + z37)), some (0, 0), some (0, (0 + 1)), some (0, ((z12 * 3) + z32))]) c_153_113 rfl rfl rfl (n_goto c_153_116 (n_iload c_153_19 rfl (n_iload c_153_21 rfl ?_))))
        refine n_if2_ge c_153_23 (by omega) (by omega) ?_ ?_
        · intro h41
          refine n_iload c_153_119 rfl ?_
          exact n_rI c_153_121 rfl ⟨rfl, by omega⟩
        · intro h42
          exfalso; omega
      · intro h43
        refine n_iload c_153_68 rfl (n_aload_n c_153_70 rfl (n_getV (bi := 0) c_153_71 sc_112.n rfl rfl rfl (t_dm hS hdm) ?_))
        intro z44 ez44 f45
        obtain rfl : z44 = 3 := by omega
        refine n_imul c_153_74 rfl (n_iload c_153_75 rfl (n_iload c_153_77 rfl (n_idivV c_153_79 (by omega) (by omega) ?_)))
        intro z46 _ f47
        refine n_aload_n c_153_80 rfl (n_getV (bi := 0) c_153_81 sc_112.n rfl rfl rfl (t_dm hS hdm) ?_)
        intro z48 ez48 f49
        obtain rfl : z48 = 3 := by omega
        refine n_iremV c_153_84 (by omega) (by omega) ?_
        intro z50 _ f51
        refine n_iadd c_153_85 rfl (n_istore (L2 := [some (2, 112), some (0, m), some (2, 127), some (0, f), some (0, 1), some (0, x), some (0, y), some (0, z0), some (0, 0), some (0, 1), some (0, 0), some (0, ((((z12 * 3) + z32) * 3) + z50))]) c_153_86 rfl rfl (n_iload c_153_88 rfl (n_aload_n c_153_90 rfl (n_getV (bi := 0) c_153_91 sc_112.n rfl rfl rfl (t_dm hS hdm) ?_))))
        intro z52 ez52 f53
        obtain rfl : z52 = 3 := by omega
        refine n_imul c_153_94 rfl (n_aload_n c_153_95 rfl (n_iload_n c_153_96 rfl (n_iload c_153_97 rfl (n_iadd c_153_99 rfl (n_ialoadV c_153_100 sc_127.n rfl rfl rfl (by omega) (t_127 hS (by omega)) ?_)))))
        intro z54 ez54 f55
        refine n_iadd c_153_101 rfl (n_istore (L2 := [some (2, 112), some (0, m), some (2, 127), some (0, f), some (0, 1), some (0, x), some (0, y), some (0, z0), some (0, ((0 * 3) + z54)), some (0, 1), some (0, 0), some (0, ((((z12 * 3) + z32) * 3) + z50))]) c_153_102 rfl rfl (n_iload c_153_104 rfl (n_aload_n c_153_106 rfl (n_getV (bi := 0) c_153_107 sc_112.n rfl rfl rfl (t_dm hS hdm) ?_))))
        intro z56 ez56 f57
        obtain rfl : z56 = 3 := by omega
        refine n_idivT (z := 0) c_153_110 (by omega) (by omega) (by omega) (by decide) ?_
        refine n_istore (L2 := [some (2, 112), some (0, m), some (2, 127), some (0, f), some (0, 1), some (0, x), some (0, y), some (0, z0), some (0, ((0 * 3) + z54)), some (0, 0), some (0, 0), some (0, ((((z12 * 3) + z32) * 3) + z50))]) c_153_111 rfl rfl (n_iinc (L2 := [some (2, 112), some (0, m), some (2, 127), some (0, f), some (0, 1), some (0, x), some (0, y), some (0, z0), some (0, ((0 * 3) + z54)), some (0, 0), some (0, (0 + 1)), some (0, ((((z12 * 3) + z32) * 3) + z50))]) c_153_113 rfl rfl rfl (n_goto c_153_116 (n_iload c_153_19 rfl (n_iload c_153_21 rfl ?_))))
        refine n_if2_ge c_153_23 (by omega) (by omega) ?_ ?_
        · intro h58
          refine n_iload c_153_119 rfl ?_
          exact n_rI c_153_121 rfl ⟨rfl, by omega⟩
        · intro h59
          exfalso; omega

set_option maxHeartbeats 4000000 in
theorem imageH2_3 {xs : List Int32} {e : Nat} {ac : Int} {M0 M : nM} {m f x y z0 : Int} (hS : Sf 3 ac M0 M) (hdm : M0 112 0 = 3) (hm : 0 ≤ m ∧ m ≤ 3) (hf : 0 ≤ f ∧ f ≤ 0) (hx : 0 ≤ x ∧ x ≤ 26) (hy : 0 ≤ y ∧ y ≤ 26) (hz0 : 0 ≤ z0 ∧ z0 ≤ 26) : nW xs (e + 1) 153 0 [some (2, 112), some (0, m), some (2, 127), some (0, f), some (0, 2), some (0, x), some (0, y), some (0, z0), none, none, none, none] [] M (nPI fun z M1 => M = M1 ∧ (0 ≤ z ∧ z ≤ 26)) := by
  have hd : (3 : Int) = 2 ∨ (3 : Int) = 3 := by decide
  have hac := hS.2.2.2.2
  refine n_iconst c_153_0 (n_istore (L2 := [some (2, 112), some (0, m), some (2, 127), some (0, f), some (0, 2), some (0, x), some (0, y), some (0, z0), some (0, 0), none, none, none]) c_153_1 rfl rfl (n_aload_n c_153_3 rfl (n_getV (bi := 0) c_153_4 sc_112.n rfl rfl rfl (t_dm hS hdm) ?_)))
  intro z1 ez1 f2
  obtain rfl : z1 = 3 := by omega
  refine n_iload c_153_7 rfl (n_iconst c_153_9 (n_isub c_153_10 rfl ?_))
  have hcst : ((2 - 1) : Int) = 1 := by omega
  rw [hcst]
  refine n_s2I c_153_11 rfl rfl rfl rfl (mpower1_3  hS ) ?_
  intro z3 M4 hP5
  obtain ⟨eM, f5⟩ := hP5
  subst eM
  obtain rfl : z3 = 3 := by omega
  refine n_istore (L2 := [some (2, 112), some (0, m), some (2, 127), some (0, f), some (0, 2), some (0, x), some (0, y), some (0, z0), some (0, 0), some (0, 3), none, none]) c_153_14 rfl rfl (n_iconst c_153_16 (n_istore (L2 := [some (2, 112), some (0, m), some (2, 127), some (0, f), some (0, 2), some (0, x), some (0, y), some (0, z0), some (0, 0), some (0, 3), some (0, 0), none]) c_153_17 rfl rfl (n_iload c_153_19 rfl (n_iload c_153_21 rfl ?_))))
  refine n_if2_ge c_153_23 (by omega) (by omega) ?_ ?_
  · intro h6
    exfalso; omega
  · intro h7
    refine n_iload c_153_26 rfl (n_iload c_153_28 rfl (n_idivV c_153_30 (by omega) (by omega) ?_))
    intro z8 _ f9
    refine n_aload_n c_153_31 rfl (n_getV (bi := 0) c_153_32 sc_112.n rfl rfl rfl (t_dm hS hdm) ?_)
    intro z10 ez10 f11
    obtain rfl : z10 = 3 := by omega
    refine n_iremV c_153_35 (by omega) (by omega) ?_
    intro z12 _ f13
    refine n_istore (L2 := [some (2, 112), some (0, m), some (2, 127), some (0, f), some (0, 2), some (0, x), some (0, y), some (0, z0), some (0, 0), some (0, 3), some (0, 0), some (0, z12)]) c_153_36 rfl rfl (n_iload_n c_153_38 rfl (n_iconst c_153_39 ?_))
    refine n_if2_le c_153_40 (by omega) (by omega) ?_ ?_
    · intro h14
      refine n_iload_n c_153_63 rfl (n_iconst c_153_64 ?_)
      refine n_if2_le c_153_65 (by omega) (by omega) ?_ ?_
      · intro h15
        refine n_iload c_153_88 rfl (n_aload_n c_153_90 rfl (n_getV (bi := 0) c_153_91 sc_112.n rfl rfl rfl (t_dm hS hdm) ?_))
        intro z16 ez16 f17
        obtain rfl : z16 = 3 := by omega
        refine n_imul c_153_94 rfl (n_aload_n c_153_95 rfl (n_iload_n c_153_96 rfl (n_iload c_153_97 rfl (n_iadd c_153_99 rfl (n_ialoadV c_153_100 sc_127.n rfl rfl rfl (by omega) (t_127 hS (by omega)) ?_)))))
        intro z18 ez18 f19
        refine n_iadd c_153_101 rfl (n_istore (L2 := [some (2, 112), some (0, m), some (2, 127), some (0, f), some (0, 2), some (0, x), some (0, y), some (0, z0), some (0, ((0 * 3) + z18)), some (0, 3), some (0, 0), some (0, z12)]) c_153_102 rfl rfl (n_iload c_153_104 rfl (n_aload_n c_153_106 rfl (n_getV (bi := 0) c_153_107 sc_112.n rfl rfl rfl (t_dm hS hdm) ?_))))
        intro z20 ez20 f21
        obtain rfl : z20 = 3 := by omega
        refine n_idivT (z := 1) c_153_110 (by omega) (by omega) (by omega) (by decide) ?_
        refine n_istore (L2 := [some (2, 112), some (0, m), some (2, 127), some (0, f), some (0, 2), some (0, x), some (0, y), some (0, z0), some (0, ((0 * 3) + z18)), some (0, 1), some (0, 0), some (0, z12)]) c_153_111 rfl rfl (n_iinc (L2 := [some (2, 112), some (0, m), some (2, 127), some (0, f), some (0, 2), some (0, x), some (0, y), some (0, z0), some (0, ((0 * 3) + z18)), some (0, 1), some (0, (0 + 1)), some (0, z12)]) c_153_113 rfl rfl rfl (n_goto c_153_116 (n_iload c_153_19 rfl (n_iload c_153_21 rfl ?_))))
        refine n_if2_ge c_153_23 (by omega) (by omega) ?_ ?_
        · intro h22
          exfalso; omega
        · intro h23
          refine n_iload c_153_26 rfl (n_iload c_153_28 rfl (n_idivV c_153_30 (by omega) (by omega) ?_))
          intro z24 _ f25
          refine n_aload_n c_153_31 rfl (n_getV (bi := 0) c_153_32 sc_112.n rfl rfl rfl (t_dm hS hdm) ?_)
          intro z26 ez26 f27
          obtain rfl : z26 = 3 := by omega
          refine n_iremV c_153_35 (by omega) (by omega) ?_
          intro z28 _ f29
          refine n_istore (L2 := [some (2, 112), some (0, m), some (2, 127), some (0, f), some (0, 2), some (0, x), some (0, y), some (0, z0), some (0, ((0 * 3) + z18)), some (0, 1), some (0, (0 + 1)), some (0, z28)]) c_153_36 rfl rfl (n_iload_n c_153_38 rfl (n_iconst c_153_39 ?_))
          refine n_if2_le c_153_40 (by omega) (by omega) ?_ ?_
          · intro h30
            refine n_iload_n c_153_63 rfl (n_iconst c_153_64 ?_)
            refine n_if2_le c_153_65 (by omega) (by omega) ?_ ?_
            · intro h31
              refine n_iload c_153_88 rfl (n_aload_n c_153_90 rfl (n_getV (bi := 0) c_153_91 sc_112.n rfl rfl rfl (t_dm hS hdm) ?_))
              intro z32 ez32 f33
              obtain rfl : z32 = 3 := by omega
              refine n_imul c_153_94 rfl (n_aload_n c_153_95 rfl (n_iload_n c_153_96 rfl (n_iload c_153_97 rfl (n_iadd c_153_99 rfl (n_ialoadV c_153_100 sc_127.n rfl rfl rfl (by omega) (t_127 hS (by omega)) ?_)))))
              intro z34 ez34 f35
              refine n_iadd c_153_101 rfl (n_istore (L2 := [some (2, 112), some (0, m), some (2, 127), some (0, f), some (0, 2), some (0, x), some (0, y), some (0, z0), some (0, ((((0 * 3) + z18) * 3) + z34)), some (0, 1), some (0, (0 + 1)), some (0, z28)]) c_153_102 rfl rfl (n_iload c_153_104 rfl (n_aload_n c_153_106 rfl (n_getV (bi := 0) c_153_107 sc_112.n rfl rfl rfl (t_dm hS hdm) ?_))))
              intro z36 ez36 f37
              obtain rfl : z36 = 3 := by omega
              refine n_idivT (z := 0) c_153_110 (by omega) (by omega) (by omega) (by decide) ?_
              refine n_istore (L2 := [some (2, 112), some (0, m), some (2, 127), some (0, f), some (0, 2), some (0, x), some (0, y), some (0, z0), some (0, ((((0 * 3) + z18) * 3) + z34)), some (0, 0), some (0, (0 + 1)), some (0, z28)]) c_153_111 rfl rfl (n_iinc (L2 := [some (2, 112), some (0, m), some (2, 127), some (0, f), some (0, 2), some (0, x), some (0, y), some (0, z0), some (0, ((((0 * 3) + z18) * 3) + z34)), some (0, 0), some (0, ((0 + 1) + 1)), some (0, z28)]) c_153_113 rfl rfl rfl (n_goto c_153_116 (n_iload c_153_19 rfl (n_iload c_153_21 rfl ?_))))
              refine n_if2_ge c_153_23 (by omega) (by omega) ?_ ?_
              · intro h38
                refine n_iload c_153_119 rfl ?_
                exact n_rI c_153_121 rfl ⟨rfl, by omega⟩
              · intro h39
                exfalso; omega
            · intro h40
              exfalso; omega
          · intro h41
            exfalso; omega
      · intro h42
        exfalso; omega
    · intro h43
      refine n_iload c_153_43 rfl (n_aload_n c_153_45 rfl (n_getV (bi := 0) c_153_46 sc_112.n rfl rfl rfl (t_dm hS hdm) ?_))
      intro z44 ez44 f45
      obtain rfl : z44 = 3 := by omega
      refine n_imul c_153_49 rfl (n_iload c_153_50 rfl (n_iload c_153_52 rfl (n_idivV c_153_54 (by omega) (by omega) ?_)))
      intro z46 _ f47
      refine n_aload_n c_153_55 rfl (n_getV (bi := 0) c_153_56 sc_112.n rfl rfl rfl (t_dm hS hdm) ?_)
      intro z48 ez48 f49
      obtain rfl : z48 = 3 := by omega
      refine n_iremV c_153_59 (by omega) (by omega) ?_
      intro z50 _ f51
      refine n_iadd c_153_60 rfl (n_istore (L2 := [some (2, 112), some (0, m), some (2, 127), some (0, f), some (0, 2), some (0, x), some (0, y), some (0, z0), some (0, 0), some (0, 3), some (0, 0), some (0, ((z12 * 3) + z50))]) c_153_61 rfl rfl (n_iload_n c_153_63 rfl (n_iconst c_153_64 ?_)))
      refine n_if2_le c_153_65 (by omega) (by omega) ?_ ?_
      · intro h52
        refine n_iload c_153_88 rfl (n_aload_n c_153_90 rfl (n_getV (bi := 0) c_153_91 sc_112.n rfl rfl rfl (t_dm hS hdm) ?_))
        intro z53 ez53 f54
        obtain rfl : z53 = 3 := by omega
        refine n_imul c_153_94 rfl (n_aload_n c_153_95 rfl (n_iload_n c_153_96 rfl (n_iload c_153_97 rfl (n_iadd c_153_99 rfl (n_ialoadV c_153_100 sc_127.n rfl rfl rfl (by omega) (t_127 hS (by omega)) ?_)))))
        intro z55 ez55 f56
        refine n_iadd c_153_101 rfl (n_istore (L2 := [some (2, 112), some (0, m), some (2, 127), some (0, f), some (0, 2), some (0, x), some (0, y), some (0, z0), some (0, ((0 * 3) + z55)), some (0, 3), some (0, 0), some (0, ((z12 * 3) + z50))]) c_153_102 rfl rfl (n_iload c_153_104 rfl (n_aload_n c_153_106 rfl (n_getV (bi := 0) c_153_107 sc_112.n rfl rfl rfl (t_dm hS hdm) ?_))))
        intro z57 ez57 f58
        obtain rfl : z57 = 3 := by omega
        refine n_idivT (z := 1) c_153_110 (by omega) (by omega) (by omega) (by decide) ?_
        refine n_istore (L2 := [some (2, 112), some (0, m), some (2, 127), some (0, f), some (0, 2), some (0, x), some (0, y), some (0, z0), some (0, ((0 * 3) + z55)), some (0, 1), some (0, 0), some (0, ((z12 * 3) + z50))]) c_153_111 rfl rfl (n_iinc (L2 := [some (2, 112), some (0, m), some (2, 127), some (0, f), some (0, 2), some (0, x), some (0, y), some (0, z0), some (0, ((0 * 3) + z55)), some (0, 1), some (0, (0 + 1)), some (0, ((z12 * 3) + z50))]) c_153_113 rfl rfl rfl (n_goto c_153_116 (n_iload c_153_19 rfl (n_iload c_153_21 rfl ?_))))
        refine n_if2_ge c_153_23 (by omega) (by omega) ?_ ?_
        · intro h59
          exfalso; omega
        · intro h60
          refine n_iload c_153_26 rfl (n_iload c_153_28 rfl (n_idivV c_153_30 (by omega) (by omega) ?_))
          intro z61 _ f62
          refine n_aload_n c_153_31 rfl (n_getV (bi := 0) c_153_32 sc_112.n rfl rfl rfl (t_dm hS hdm) ?_)
          intro z63 ez63 f64
          obtain rfl : z63 = 3 := by omega
          refine n_iremV c_153_35 (by omega) (by omega) ?_
          intro z65 _ f66
          refine n_istore (L2 := [some (2, 112), some (0, m), some (2, 127), some (0, f), some (0, 2), some (0, x), some (0, y), some (0, z0), some (0, ((0 * 3) + z55)), some (0, 1), some (0, (0 + 1)), some (0, z65)]) c_153_36 rfl rfl (n_iload_n c_153_38 rfl (n_iconst c_153_39 ?_))
          refine n_if2_le c_153_40 (by omega) (by omega) ?_ ?_
          · intro h67
            exfalso; omega
          · intro h68
            refine n_iload c_153_43 rfl (n_aload_n c_153_45 rfl (n_getV (bi := 0) c_153_46 sc_112.n rfl rfl rfl (t_dm hS hdm) ?_))
            intro z69 ez69 f70
            obtain rfl : z69 = 3 := by omega
            refine n_imul c_153_49 rfl (n_iload c_153_50 rfl (n_iload c_153_52 rfl (n_idivV c_153_54 (by omega) (by omega) ?_)))
            intro z71 _ f72
            refine n_aload_n c_153_55 rfl (n_getV (bi := 0) c_153_56 sc_112.n rfl rfl rfl (t_dm hS hdm) ?_)
            intro z73 ez73 f74
            obtain rfl : z73 = 3 := by omega
            refine n_iremV c_153_59 (by omega) (by omega) ?_
            intro z75 _ f76
            refine n_iadd c_153_60 rfl (n_istore (L2 := [some (2, 112), some (0, m), some (2, 127), some (0, f), some (0, 2), some (0, x), some (0, y), some (0, z0), some (0, ((0 * 3) + z55)), some (0, 1), some (0, (0 + 1)), some (0, ((z65 * 3) + z75))]) c_153_61 rfl rfl (n_iload_n c_153_63 rfl (n_iconst c_153_64 ?_)))
            refine n_if2_le c_153_65 (by omega) (by omega) ?_ ?_
            · intro h77
              refine n_iload c_153_88 rfl (n_aload_n c_153_90 rfl (n_getV (bi := 0) c_153_91 sc_112.n rfl rfl rfl (t_dm hS hdm) ?_))
              intro z78 ez78 f79
              obtain rfl : z78 = 3 := by omega
              refine n_imul c_153_94 rfl (n_aload_n c_153_95 rfl (n_iload_n c_153_96 rfl (n_iload c_153_97 rfl (n_iadd c_153_99 rfl (n_ialoadV c_153_100 sc_127.n rfl rfl rfl (by omega) (t_127 hS (by omega)) ?_)))))
              intro z80 ez80 f81
              refine n_iadd c_153_101 rfl (n_istore (L2 := [some (2, 112), some (0, m), some (2, 127), some (0, f), some (0, 2), some (0, x), some (0, y), some (0, z0), some (0, ((((0 * 3) + z55) * 3) + z80)), some (0, 1), some (0, (0 + 1)), some (0, ((z65 * 3) + z75))]) c_153_102 rfl rfl (n_iload c_153_104 rfl (n_aload_n c_153_106 rfl (n_getV (bi := 0) c_153_107 sc_112.n rfl rfl rfl (t_dm hS hdm) ?_))))
              intro z82 ez82 f83
              obtain rfl : z82 = 3 := by omega
              refine n_idivT (z := 0) c_153_110 (by omega) (by omega) (by omega) (by decide) ?_
              refine n_istore (L2 := [some (2, 112), some (0, m), some (2, 127), some (0, f), some (0, 2), some (0, x), some (0, y), some (0, z0), some (0, ((((0 * 3) + z55) * 3) + z80)), some (0, 0), some (0, (0 + 1)), some (0, ((z65 * 3) + z75))]) c_153_111 rfl rfl (n_iinc (L2 := [some (2, 112), some (0, m), some (2, 127), some (0, f), some (0, 2), some (0, x), some (0, y), some (0, z0), some (0, ((((0 * 3) + z55) * 3) + z80)), some (0, 0), some (0, ((0 + 1) + 1)), some (0, ((z65 * 3) + z75))]) c_153_113 rfl rfl rfl (n_goto c_153_116 (n_iload c_153_19 rfl (n_iload c_153_21 rfl ?_))))
              refine n_if2_ge c_153_23 (by omega) (by omega) ?_ ?_
              · intro h84
                refine n_iload c_153_119 rfl ?_
                exact n_rI c_153_121 rfl ⟨rfl, by omega⟩
              · intro h85
                exfalso; omega
            · intro h86
              exfalso; omega
      · intro h87
        refine n_iload c_153_68 rfl (n_aload_n c_153_70 rfl (n_getV (bi := 0) c_153_71 sc_112.n rfl rfl rfl (t_dm hS hdm) ?_))
        intro z88 ez88 f89
        obtain rfl : z88 = 3 := by omega
        refine n_imul c_153_74 rfl (n_iload c_153_75 rfl (n_iload c_153_77 rfl (n_idivV c_153_79 (by omega) (by omega) ?_)))
        intro z90 _ f91
        refine n_aload_n c_153_80 rfl (n_getV (bi := 0) c_153_81 sc_112.n rfl rfl rfl (t_dm hS hdm) ?_)
        intro z92 ez92 f93
        obtain rfl : z92 = 3 := by omega
        refine n_iremV c_153_84 (by omega) (by omega) ?_
        intro z94 _ f95
        refine n_iadd c_153_85 rfl (n_istore (L2 := [some (2, 112), some (0, m), some (2, 127), some (0, f), some (0, 2), some (0, x), some (0, y), some (0, z0), some (0, 0), some (0, 3), some (0, 0), some (0, ((((z12 * 3) + z50) * 3) + z94))]) c_153_86 rfl rfl (n_iload c_153_88 rfl (n_aload_n c_153_90 rfl (n_getV (bi := 0) c_153_91 sc_112.n rfl rfl rfl (t_dm hS hdm) ?_))))
        intro z96 ez96 f97
        obtain rfl : z96 = 3 := by omega
        refine n_imul c_153_94 rfl (n_aload_n c_153_95 rfl (n_iload_n c_153_96 rfl (n_iload c_153_97 rfl (n_iadd c_153_99 rfl (n_ialoadV c_153_100 sc_127.n rfl rfl rfl (by omega) (t_127 hS (by omega)) ?_)))))
        intro z98 ez98 f99
        refine n_iadd c_153_101 rfl (n_istore (L2 := [some (2, 112), some (0, m), some (2, 127), some (0, f), some (0, 2), some (0, x), some (0, y), some (0, z0), some (0, ((0 * 3) + z98)), some (0, 3), some (0, 0), some (0, ((((z12 * 3) + z50) * 3) + z94))]) c_153_102 rfl rfl (n_iload c_153_104 rfl (n_aload_n c_153_106 rfl (n_getV (bi := 0) c_153_107 sc_112.n rfl rfl rfl (t_dm hS hdm) ?_))))
        intro z100 ez100 f101
        obtain rfl : z100 = 3 := by omega
        refine n_idivT (z := 1) c_153_110 (by omega) (by omega) (by omega) (by decide) ?_
        refine n_istore (L2 := [some (2, 112), some (0, m), some (2, 127), some (0, f), some (0, 2), some (0, x), some (0, y), some (0, z0), some (0, ((0 * 3) + z98)), some (0, 1), some (0, 0), some (0, ((((z12 * 3) + z50) * 3) + z94))]) c_153_111 rfl rfl (n_iinc (L2 := [some (2, 112), some (0, m), some (2, 127), some (0, f), some (0, 2), some (0, x), some (0, y), some (0, z0), some (0, ((0 * 3) + z98)), some (0, 1), some (0, (0 + 1)), some (0, ((((z12 * 3) + z50) * 3) + z94))]) c_153_113 rfl rfl rfl (n_goto c_153_116 (n_iload c_153_19 rfl (n_iload c_153_21 rfl ?_))))
        refine n_if2_ge c_153_23 (by omega) (by omega) ?_ ?_
        · intro h102
          exfalso; omega
        · intro h103
          refine n_iload c_153_26 rfl (n_iload c_153_28 rfl (n_idivV c_153_30 (by omega) (by omega) ?_))
          intro z104 _ f105
          refine n_aload_n c_153_31 rfl (n_getV (bi := 0) c_153_32 sc_112.n rfl rfl rfl (t_dm hS hdm) ?_)
          intro z106 ez106 f107
          obtain rfl : z106 = 3 := by omega
          refine n_iremV c_153_35 (by omega) (by omega) ?_
          intro z108 _ f109
          refine n_istore (L2 := [some (2, 112), some (0, m), some (2, 127), some (0, f), some (0, 2), some (0, x), some (0, y), some (0, z0), some (0, ((0 * 3) + z98)), some (0, 1), some (0, (0 + 1)), some (0, z108)]) c_153_36 rfl rfl (n_iload_n c_153_38 rfl (n_iconst c_153_39 ?_))
          refine n_if2_le c_153_40 (by omega) (by omega) ?_ ?_
          · intro h110
            exfalso; omega
          · intro h111
            refine n_iload c_153_43 rfl (n_aload_n c_153_45 rfl (n_getV (bi := 0) c_153_46 sc_112.n rfl rfl rfl (t_dm hS hdm) ?_))
            intro z112 ez112 f113
            obtain rfl : z112 = 3 := by omega
            refine n_imul c_153_49 rfl (n_iload c_153_50 rfl (n_iload c_153_52 rfl (n_idivV c_153_54 (by omega) (by omega) ?_)))
            intro z114 _ f115
            refine n_aload_n c_153_55 rfl (n_getV (bi := 0) c_153_56 sc_112.n rfl rfl rfl (t_dm hS hdm) ?_)
            intro z116 ez116 f117
            obtain rfl : z116 = 3 := by omega
            refine n_iremV c_153_59 (by omega) (by omega) ?_
            intro z118 _ f119
            refine n_iadd c_153_60 rfl (n_istore (L2 := [some (2, 112), some (0, m), some (2, 127), some (0, f), some (0, 2), some (0, x), some (0, y), some (0, z0), some (0, ((0 * 3) + z98)), some (0, 1), some (0, (0 + 1)), some (0, ((z108 * 3) + z118))]) c_153_61 rfl rfl (n_iload_n c_153_63 rfl (n_iconst c_153_64 ?_)))
            refine n_if2_le c_153_65 (by omega) (by omega) ?_ ?_
            · intro h120
              exfalso; omega
            · intro h121
              refine n_iload c_153_68 rfl (n_aload_n c_153_70 rfl (n_getV (bi := 0) c_153_71 sc_112.n rfl rfl rfl (t_dm hS hdm) ?_))
              intro z122 ez122 f123
              obtain rfl : z122 = 3 := by omega
              refine n_imul c_153_74 rfl (n_iload c_153_75 rfl (n_iload c_153_77 rfl (n_idivV c_153_79 (by omega) (by omega) ?_)))
              intro z124 _ f125
              refine n_aload_n c_153_80 rfl (n_getV (bi := 0) c_153_81 sc_112.n rfl rfl rfl (t_dm hS hdm) ?_)
              intro z126 ez126 f127
              obtain rfl : z126 = 3 := by omega
              refine n_iremV c_153_84 (by omega) (by omega) ?_
              intro z128 _ f129
              refine n_iadd c_153_85 rfl (n_istore (L2 := [some (2, 112), some (0, m), some (2, 127), some (0, f), some (0, 2), some (0, x), some (0, y), some (0, z0), some (0, ((0 * 3) + z98)), some (0, 1), some (0, (0 + 1)), some (0, ((((z108 * 3) + z118) * 3) + z128))]) c_153_86 rfl rfl (n_iload c_153_88 rfl (n_aload_n c_153_90 rfl (n_getV (bi := 0) c_153_91 sc_112.n rfl rfl rfl (t_dm hS hdm) ?_))))
              intro z130 ez130 f131
              obtain rfl : z130 = 3 := by omega
              refine n_imul c_153_94 rfl (n_aload_n c_153_95 rfl (n_iload_n c_153_96 rfl (n_iload c_153_97 rfl (n_iadd c_153_99 rfl (n_ialoadV c_153_100 sc_127.n rfl rfl rfl (by omega) (t_127 hS (by omega)) ?_)))))
              intro z132 ez132 f133
              refine n_iadd c_153_101 rfl (n_istore (L2 := [some (2, 112), some (0, m), some (2, 127), some (0, f), some (0, 2), some (0, x), some (0, y), some (0, z0), some (0, ((((0 * 3) + z98) * 3) + z132)), some (0, 1), some (0, (0 + 1)), some (0, ((((z108 * 3) + z118) * 3) + z128))]) c_153_102 rfl rfl (n_iload c_153_104 rfl (n_aload_n c_153_106 rfl (n_getV (bi := 0) c_153_107 sc_112.n rfl rfl rfl (t_dm hS hdm) ?_))))
              intro z134 ez134 f135
              obtain rfl : z134 = 3 := by omega
              refine n_idivT (z := 0) c_153_110 (by omega) (by omega) (by omega) (by decide) ?_
              refine n_istore (L2 := [some (2, 112), some (0, m), some (2, 127), some (0, f), some (0, 2), some (0, x), some (0, y), some (0, z0), some (0, ((((0 * 3) + z98) * 3) + z132)), some (0, 0), some (0, (0 + 1)), some (0, ((((z108 * 3) + z118) * 3) + z128))]) c_153_111 rfl rfl (n_iinc (L2 := [some (2, 112), some (0, m), some (2, 127), some (0, f), some (0, 2), some (0, x), some (0, y), some (0, z0), some (0, ((((0 * 3) + z98) * 3) + z132)), some (0, 0), some (0, ((0 + 1) + 1)), some (0, ((((z108 * 3) + z118) * 3) + z128))]) c_153_113 rfl rfl rfl (n_goto c_153_116 (n_iload c_153_19 rfl (n_iload c_153_21 rfl ?_))))
              refine n_if2_ge c_153_23 (by omega) (by omega) ?_ ?_
              · intro h136
                refine n_iload c_153_119 rfl ?_
                exact n_rI c_153_121 rfl ⟨rfl, by omega⟩
              · intro h137
                exfalso; omega

set_option maxHeartbeats 4000000 in
theorem imageH3_3 {xs : List Int32} {e : Nat} {ac : Int} {M0 M : nM} {m f x y z0 : Int} (hS : Sf 3 ac M0 M) (hdm : M0 112 0 = 3) (hm : 0 ≤ m ∧ m ≤ 3) (hf : 0 ≤ f ∧ f ≤ 0) (hx : 0 ≤ x ∧ x ≤ 26) (hy : 0 ≤ y ∧ y ≤ 26) (hz0 : 0 ≤ z0 ∧ z0 ≤ 26) : nW xs (e + 1) 153 0 [some (2, 112), some (0, m), some (2, 127), some (0, f), some (0, 3), some (0, x), some (0, y), some (0, z0), none, none, none, none] [] M (nPI fun z M1 => M = M1 ∧ (0 ≤ z ∧ z ≤ 26)) := by
  have hd : (3 : Int) = 2 ∨ (3 : Int) = 3 := by decide
  have hac := hS.2.2.2.2
  refine n_iconst c_153_0 (n_istore (L2 := [some (2, 112), some (0, m), some (2, 127), some (0, f), some (0, 3), some (0, x), some (0, y), some (0, z0), some (0, 0), none, none, none]) c_153_1 rfl rfl (n_aload_n c_153_3 rfl (n_getV (bi := 0) c_153_4 sc_112.n rfl rfl rfl (t_dm hS hdm) ?_)))
  intro z1 ez1 f2
  obtain rfl : z1 = 3 := by omega
  refine n_iload c_153_7 rfl (n_iconst c_153_9 (n_isub c_153_10 rfl ?_))
  have hcst : ((3 - 1) : Int) = 2 := by omega
  rw [hcst]
  refine n_s2I c_153_11 rfl rfl rfl rfl (mpower2_3  hS ) ?_
  intro z3 M4 hP5
  obtain ⟨eM, f5⟩ := hP5
  subst eM
  obtain rfl : z3 = 9 := by omega
  refine n_istore (L2 := [some (2, 112), some (0, m), some (2, 127), some (0, f), some (0, 3), some (0, x), some (0, y), some (0, z0), some (0, 0), some (0, 9), none, none]) c_153_14 rfl rfl (n_iconst c_153_16 (n_istore (L2 := [some (2, 112), some (0, m), some (2, 127), some (0, f), some (0, 3), some (0, x), some (0, y), some (0, z0), some (0, 0), some (0, 9), some (0, 0), none]) c_153_17 rfl rfl (n_iload c_153_19 rfl (n_iload c_153_21 rfl ?_))))
  refine n_if2_ge c_153_23 (by omega) (by omega) ?_ ?_
  · intro h6
    exfalso; omega
  · intro h7
    refine n_iload c_153_26 rfl (n_iload c_153_28 rfl (n_idivV c_153_30 (by omega) (by omega) ?_))
    intro z8 _ f9
    refine n_aload_n c_153_31 rfl (n_getV (bi := 0) c_153_32 sc_112.n rfl rfl rfl (t_dm hS hdm) ?_)
    intro z10 ez10 f11
    obtain rfl : z10 = 3 := by omega
    refine n_iremV c_153_35 (by omega) (by omega) ?_
    intro z12 _ f13
    refine n_istore (L2 := [some (2, 112), some (0, m), some (2, 127), some (0, f), some (0, 3), some (0, x), some (0, y), some (0, z0), some (0, 0), some (0, 9), some (0, 0), some (0, z12)]) c_153_36 rfl rfl (n_iload_n c_153_38 rfl (n_iconst c_153_39 ?_))
    refine n_if2_le c_153_40 (by omega) (by omega) ?_ ?_
    · intro h14
      refine n_iload_n c_153_63 rfl (n_iconst c_153_64 ?_)
      refine n_if2_le c_153_65 (by omega) (by omega) ?_ ?_
      · intro h15
        refine n_iload c_153_88 rfl (n_aload_n c_153_90 rfl (n_getV (bi := 0) c_153_91 sc_112.n rfl rfl rfl (t_dm hS hdm) ?_))
        intro z16 ez16 f17
        obtain rfl : z16 = 3 := by omega
        refine n_imul c_153_94 rfl (n_aload_n c_153_95 rfl (n_iload_n c_153_96 rfl (n_iload c_153_97 rfl (n_iadd c_153_99 rfl (n_ialoadV c_153_100 sc_127.n rfl rfl rfl (by omega) (t_127 hS (by omega)) ?_)))))
        intro z18 ez18 f19
        refine n_iadd c_153_101 rfl (n_istore (L2 := [some (2, 112), some (0, m), some (2, 127), some (0, f), some (0, 3), some (0, x), some (0, y), some (0, z0), some (0, ((0 * 3) + z18)), some (0, 9), some (0, 0), some (0, z12)]) c_153_102 rfl rfl (n_iload c_153_104 rfl (n_aload_n c_153_106 rfl (n_getV (bi := 0) c_153_107 sc_112.n rfl rfl rfl (t_dm hS hdm) ?_))))
        intro z20 ez20 f21
        obtain rfl : z20 = 3 := by omega
        refine n_idivT (z := 3) c_153_110 (by omega) (by omega) (by omega) (by decide) ?_
        refine n_istore (L2 := [some (2, 112), some (0, m), some (2, 127), some (0, f), some (0, 3), some (0, x), some (0, y), some (0, z0), some (0, ((0 * 3) + z18)), some (0, 3), some (0, 0), some (0, z12)]) c_153_111 rfl rfl (n_iinc (L2 := [some (2, 112), some (0, m), some (2, 127), some (0, f), some (0, 3), some (0, x), some (0, y), some (0, z0), some (0, ((0 * 3) + z18)), some (0, 3), some (0, (0 + 1)), some (0, z12)]) c_153_113 rfl rfl rfl (n_goto c_153_116 (n_iload c_153_19 rfl (n_iload c_153_21 rfl ?_))))
        refine n_if2_ge c_153_23 (by omega) (by omega) ?_ ?_
        · intro h22
          exfalso; omega
        · intro h23
          refine n_iload c_153_26 rfl (n_iload c_153_28 rfl (n_idivV c_153_30 (by omega) (by omega) ?_))
          intro z24 _ f25
          refine n_aload_n c_153_31 rfl (n_getV (bi := 0) c_153_32 sc_112.n rfl rfl rfl (t_dm hS hdm) ?_)
          intro z26 ez26 f27
          obtain rfl : z26 = 3 := by omega
          refine n_iremV c_153_35 (by omega) (by omega) ?_
          intro z28 _ f29
          refine n_istore (L2 := [some (2, 112), some (0, m), some (2, 127), some (0, f), some (0, 3), some (0, x), some (0, y), some (0, z0), some (0, ((0 * 3) + z18)), some (0, 3), some (0, (0 + 1)), some (0, z28)]) c_153_36 rfl rfl (n_iload_n c_153_38 rfl (n_iconst c_153_39 ?_))
          refine n_if2_le c_153_40 (by omega) (by omega) ?_ ?_
          · intro h30
            refine n_iload_n c_153_63 rfl (n_iconst c_153_64 ?_)
            refine n_if2_le c_153_65 (by omega) (by omega) ?_ ?_
            · intro h31
              refine n_iload c_153_88 rfl (n_aload_n c_153_90 rfl (n_getV (bi := 0) c_153_91 sc_112.n rfl rfl rfl (t_dm hS hdm) ?_))
              intro z32 ez32 f33
              obtain rfl : z32 = 3 := by omega
              refine n_imul c_153_94 rfl (n_aload_n c_153_95 rfl (n_iload_n c_153_96 rfl (n_iload c_153_97 rfl (n_iadd c_153_99 rfl (n_ialoadV c_153_100 sc_127.n rfl rfl rfl (by omega) (t_127 hS (by omega)) ?_)))))
              intro z34 ez34 f35
              refine n_iadd c_153_101 rfl (n_istore (L2 := [some (2, 112), some (0, m), some (2, 127), some (0, f), some (0, 3), some (0, x), some (0, y), some (0, z0), some (0, ((((0 * 3) + z18) * 3) + z34)), some (0, 3), some (0, (0 + 1)), some (0, z28)]) c_153_102 rfl rfl (n_iload c_153_104 rfl (n_aload_n c_153_106 rfl (n_getV (bi := 0) c_153_107 sc_112.n rfl rfl rfl (t_dm hS hdm) ?_))))
              intro z36 ez36 f37
              obtain rfl : z36 = 3 := by omega
              refine n_idivT (z := 1) c_153_110 (by omega) (by omega) (by omega) (by decide) ?_
              refine n_istore (L2 := [some (2, 112), some (0, m), some (2, 127), some (0, f), some (0, 3), some (0, x), some (0, y), some (0, z0), some (0, ((((0 * 3) + z18) * 3) + z34)), some (0, 1), some (0, (0 + 1)), some (0, z28)]) c_153_111 rfl rfl (n_iinc (L2 := [some (2, 112), some (0, m), some (2, 127), some (0, f), some (0, 3), some (0, x), some (0, y), some (0, z0), some (0, ((((0 * 3) + z18) * 3) + z34)), some (0, 1), some (0, ((0 + 1) + 1)), some (0, z28)]) c_153_113 rfl rfl rfl (n_goto c_153_116 (n_iload c_153_19 rfl (n_iload c_153_21 rfl ?_))))
              refine n_if2_ge c_153_23 (by omega) (by omega) ?_ ?_
              · intro h38
                exfalso; omega
              · intro h39
                refine n_iload c_153_26 rfl (n_iload c_153_28 rfl (n_idivV c_153_30 (by omega) (by omega) ?_))
                intro z40 _ f41
                refine n_aload_n c_153_31 rfl (n_getV (bi := 0) c_153_32 sc_112.n rfl rfl rfl (t_dm hS hdm) ?_)
                intro z42 ez42 f43
                obtain rfl : z42 = 3 := by omega
                refine n_iremV c_153_35 (by omega) (by omega) ?_
                intro z44 _ f45
                refine n_istore (L2 := [some (2, 112), some (0, m), some (2, 127), some (0, f), some (0, 3), some (0, x), some (0, y), some (0, z0), some (0, ((((0 * 3) + z18) * 3) + z34)), some (0, 1), some (0, ((0 + 1) + 1)), some (0, z44)]) c_153_36 rfl rfl (n_iload_n c_153_38 rfl (n_iconst c_153_39 ?_))
                refine n_if2_le c_153_40 (by omega) (by omega) ?_ ?_
                · intro h46
                  refine n_iload_n c_153_63 rfl (n_iconst c_153_64 ?_)
                  refine n_if2_le c_153_65 (by omega) (by omega) ?_ ?_
                  · intro h47
                    refine n_iload c_153_88 rfl (n_aload_n c_153_90 rfl (n_getV (bi := 0) c_153_91 sc_112.n rfl rfl rfl (t_dm hS hdm) ?_))
                    intro z48 ez48 f49
                    obtain rfl : z48 = 3 := by omega
                    refine n_imul c_153_94 rfl (n_aload_n c_153_95 rfl (n_iload_n c_153_96 rfl (n_iload c_153_97 rfl (n_iadd c_153_99 rfl (n_ialoadV c_153_100 sc_127.n rfl rfl rfl (by omega) (t_127 hS (by omega)) ?_)))))
                    intro z50 ez50 f51
                    refine n_iadd c_153_101 rfl (n_istore (L2 := [some (2, 112), some (0, m), some (2, 127), some (0, f), some (0, 3), some (0, x), some (0, y), some (0, z0), some (0, ((((((0 * 3) + z18) * 3) + z34) * 3) + z50)), some (0, 1), some (0, ((0 + 1) + 1)), some (0, z44)]) c_153_102 rfl rfl (n_iload c_153_104 rfl (n_aload_n c_153_106 rfl (n_getV (bi := 0) c_153_107 sc_112.n rfl rfl rfl (t_dm hS hdm) ?_))))
                    intro z52 ez52 f53
                    obtain rfl : z52 = 3 := by omega
                    refine n_idivT (z := 0) c_153_110 (by omega) (by omega) (by omega) (by decide) ?_
                    refine n_istore (L2 := [some (2, 112), some (0, m), some (2, 127), some (0, f), some (0, 3), some (0, x), some (0, y), some (0, z0), some (0, ((((((0 * 3) + z18) * 3) + z34) * 3) + z50)), some (0, 0), some (0, ((0 + 1) + 1)), some (0, z44)]) c_153_111 rfl rfl (n_iinc (L2 := [some (2, 112), some (0, m), some (2, 127), some (0, f), some (0, 3), some (0, x), some (0, y), some (0, z0), some (0, ((((((0 * 3) + z18) * 3) + z34) * 3) + z50)), some (0, 0), some (0, (((0 + 1) + 1) + 1)), some (0, z44)]) c_153_113 rfl rfl rfl (n_goto c_153_116 (n_iload c_153_19 rfl (n_iload c_153_21 rfl ?_))))
                    refine n_if2_ge c_153_23 (by omega) (by omega) ?_ ?_
                    · intro h54
                      refine n_iload c_153_119 rfl ?_
                      exact n_rI c_153_121 rfl ⟨rfl, by omega⟩
                    · intro h55
                      exfalso; omega
                  · intro h56
                    exfalso; omega
                · intro h57
                  exfalso; omega
            · intro h58
              exfalso; omega
          · intro h59
            exfalso; omega
      · intro h60
        exfalso; omega
    · intro h61
      refine n_iload c_153_43 rfl (n_aload_n c_153_45 rfl (n_getV (bi := 0) c_153_46 sc_112.n rfl rfl rfl (t_dm hS hdm) ?_))
      intro z62 ez62 f63
      obtain rfl : z62 = 3 := by omega
      refine n_imul c_153_49 rfl (n_iload c_153_50 rfl (n_iload c_153_52 rfl (n_idivV c_153_54 (by omega) (by omega) ?_)))
      intro z64 _ f65
      refine n_aload_n c_153_55 rfl (n_getV (bi := 0) c_153_56 sc_112.n rfl rfl rfl (t_dm hS hdm) ?_)
      intro z66 ez66 f67
      obtain rfl : z66 = 3 := by omega
      refine n_iremV c_153_59 (by omega) (by omega) ?_
      intro z68 _ f69
      refine n_iadd c_153_60 rfl (n_istore (L2 := [some (2, 112), some (0, m), some (2, 127), some (0, f), some (0, 3), some (0, x), some (0, y), some (0, z0), some (0, 0), some (0, 9), some (0, 0), some (0, ((z12 * 3) + z68))]) c_153_61 rfl rfl (n_iload_n c_153_63 rfl (n_iconst c_153_64 ?_)))
      refine n_if2_le c_153_65 (by omega) (by omega) ?_ ?_
      · intro h70
        refine n_iload c_153_88 rfl (n_aload_n c_153_90 rfl (n_getV (bi := 0) c_153_91 sc_112.n rfl rfl rfl (t_dm hS hdm) ?_))
        intro z71 ez71 f72
        obtain rfl : z71 = 3 := by omega
        refine n_imul c_153_94 rfl (n_aload_n c_153_95 rfl (n_iload_n c_153_96 rfl (n_iload c_153_97 rfl (n_iadd c_153_99 rfl (n_ialoadV c_153_100 sc_127.n rfl rfl rfl (by omega) (t_127 hS (by omega)) ?_)))))
        intro z73 ez73 f74
        refine n_iadd c_153_101 rfl (n_istore (L2 := [some (2, 112), some (0, m), some (2, 127), some (0, f), some (0, 3), some (0, x), some (0, y), some (0, z0), some (0, ((0 * 3) + z73)), some (0, 9), some (0, 0), some (0, ((z12 * 3) + z68))]) c_153_102 rfl rfl (n_iload c_153_104 rfl (n_aload_n c_153_106 rfl (n_getV (bi := 0) c_153_107 sc_112.n rfl rfl rfl (t_dm hS hdm) ?_))))
        intro z75 ez75 f76
        obtain rfl : z75 = 3 := by omega
        refine n_idivT (z := 3) c_153_110 (by omega) (by omega) (by omega) (by decide) ?_
        refine n_istore (L2 := [some (2, 112), some (0, m), some (2, 127), some (0, f), some (0, 3), some (0, x), some (0, y), some (0, z0), some (0, ((0 * 3) + z73)), some (0, 3), some (0, 0), some (0, ((z12 * 3) + z68))]) c_153_111 rfl rfl (n_iinc (L2 := [some (2, 112), some (0, m), some (2, 127), some (0, f), some (0, 3), some (0, x), some (0, y), some (0, z0), some (0, ((0 * 3) + z73)), some (0, 3), some (0, (0 + 1)), some (0, ((z12 * 3) + z68))]) c_153_113 rfl rfl rfl (n_goto c_153_116 (n_iload c_153_19 rfl (n_iload c_153_21 rfl ?_))))
        refine n_if2_ge c_153_23 (by omega) (by omega) ?_ ?_
        · intro h77
          exfalso; omega
        · intro h78
          refine n_iload c_153_26 rfl (n_iload c_153_28 rfl (n_idivV c_153_30 (by omega) (by omega) ?_))
          intro z79 _ f80
          refine n_aload_n c_153_31 rfl (n_getV (bi := 0) c_153_32 sc_112.n rfl rfl rfl (t_dm hS hdm) ?_)
          intro z81 ez81 f82
          obtain rfl : z81 = 3 := by omega
          refine n_iremV c_153_35 (by omega) (by omega) ?_
          intro z83 _ f84
          refine n_istore (L2 := [some (2, 112), some (0, m), some (2, 127), some (0, f), some (0, 3), some (0, x), some (0, y), some (0, z0), some (0, ((0 * 3) + z73)), some (0, 3), some (0, (0 + 1)), some (0, z83)]) c_153_36 rfl rfl (n_iload_n c_153_38 rfl (n_iconst c_153_39 ?_))
          refine n_if2_le c_153_40 (by omega) (by omega) ?_ ?_
          · intro h85
            exfalso; omega
          · intro h86
            refine n_iload c_153_43 rfl (n_aload_n c_153_45 rfl (n_getV (bi := 0) c_153_46 sc_112.n rfl rfl rfl (t_dm hS hdm) ?_))
            intro z87 ez87 f88
            obtain rfl : z87 = 3 := by omega
            refine n_imul c_153_49 rfl (n_iload c_153_50 rfl (n_iload c_153_52 rfl (n_idivV c_153_54 (by omega) (by omega) ?_)))
            intro z89 _ f90
            refine n_aload_n c_153_55 rfl (n_getV (bi := 0) c_153_56 sc_112.n rfl rfl rfl (t_dm hS hdm) ?_)
            intro z91 ez91 f92
            obtain rfl : z91 = 3 := by omega
            refine n_iremV c_153_59 (by omega) (by omega) ?_
            intro z93 _ f94
            refine n_iadd c_153_60 rfl (n_istore (L2 := [some (2, 112), some (0, m), some (2, 127), some (0, f), some (0, 3), some (0, x), some (0, y), some (0, z0), some (0, ((0 * 3) + z73)), some (0, 3), some (0, (0 + 1)), some (0, ((z83 * 3) + z93))]) c_153_61 rfl rfl (n_iload_n c_153_63 rfl (n_iconst c_153_64 ?_)))
            refine n_if2_le c_153_65 (by omega) (by omega) ?_ ?_
            · intro h95
              refine n_iload c_153_88 rfl (n_aload_n c_153_90 rfl (n_getV (bi := 0) c_153_91 sc_112.n rfl rfl rfl (t_dm hS hdm) ?_))
              intro z96 ez96 f97
              obtain rfl : z96 = 3 := by omega
              refine n_imul c_153_94 rfl (n_aload_n c_153_95 rfl (n_iload_n c_153_96 rfl (n_iload c_153_97 rfl (n_iadd c_153_99 rfl (n_ialoadV c_153_100 sc_127.n rfl rfl rfl (by omega) (t_127 hS (by omega)) ?_)))))
              intro z98 ez98 f99
              refine n_iadd c_153_101 rfl (n_istore (L2 := [some (2, 112), some (0, m), some (2, 127), some (0, f), some (0, 3), some (0, x), some (0, y), some (0, z0), some (0, ((((0 * 3) + z73) * 3) + z98)), some (0, 3), some (0, (0 + 1)), some (0, ((z83 * 3) + z93))]) c_153_102 rfl rfl (n_iload c_153_104 rfl (n_aload_n c_153_106 rfl (n_getV (bi := 0) c_153_107 sc_112.n rfl rfl rfl (t_dm hS hdm) ?_))))
              intro z100 ez100 f101
              obtain rfl : z100 = 3 := by omega
              refine n_idivT (z := 1) c_153_110 (by omega) (by omega) (by omega) (by decide) ?_
              refine n_istore (L2 := [some (2, 112), some (0, m), some (2, 127), some (0, f), some (0, 3), some (0, x), some (0, y), some (0, z0), some (0, ((((0 * 3) + z73) * 3) + z98)), some (0, 1), some (0, (0 + 1)), some (0, ((z83 * 3) + z93))]) c_153_111 rfl rfl (n_iinc (L2 := [some (2, 112), some (0, m), some (2, 127), some (0, f), some (0, 3), some (0, x), some (0, y), some (0, z0), some (0, ((((0 * 3) + z73) * 3) + z98)), some (0, 1), some (0, ((0 + 1) + 1)), some (0, ((z83 * 3) + z93))]) c_153_113 rfl rfl rfl (n_goto c_153_116 (n_iload c_153_19 rfl (n_iload c_153_21 rfl ?_))))
              refine n_if2_ge c_153_23 (by omega) (by omega) ?_ ?_
              · intro h102
                exfalso; omega
              · intro h103
                refine n_iload c_153_26 rfl (n_iload c_153_28 rfl (n_idivV c_153_30 (by omega) (by omega) ?_))
                intro z104 _ f105
                refine n_aload_n c_153_31 rfl (n_getV (bi := 0) c_153_32 sc_112.n rfl rfl rfl (t_dm hS hdm) ?_)
                intro z106 ez106 f107
                obtain rfl : z106 = 3 := by omega
                refine n_iremV c_153_35 (by omega) (by omega) ?_
                intro z108 _ f109
                refine n_istore (L2 := [some (2, 112), some (0, m), some (2, 127), some (0, f), some (0, 3), some (0, x), some (0, y), some (0, z0), some (0, ((((0 * 3) + z73) * 3) + z98)), some (0, 1), some (0, ((0 + 1) + 1)), some (0, z108)]) c_153_36 rfl rfl (n_iload_n c_153_38 rfl (n_iconst c_153_39 ?_))
                refine n_if2_le c_153_40 (by omega) (by omega) ?_ ?_
                · intro h110
                  exfalso; omega
                · intro h111
                  refine n_iload c_153_43 rfl (n_aload_n c_153_45 rfl (n_getV (bi := 0) c_153_46 sc_112.n rfl rfl rfl (t_dm hS hdm) ?_))
                  intro z112 ez112 f113
                  obtain rfl : z112 = 3 := by omega
                  refine n_imul c_153_49 rfl (n_iload c_153_50 rfl (n_iload c_153_52 rfl (n_idivV c_153_54 (by omega) (by omega) ?_)))
                  intro z114 _ f115
                  refine n_aload_n c_153_55 rfl (n_getV (bi := 0) c_153_56 sc_112.n rfl rfl rfl (t_dm hS hdm) ?_)
                  intro z116 ez116 f117
                  obtain rfl : z116 = 3 := by omega
                  refine n_iremV c_153_59 (by omega) (by omega) ?_
                  intro z118 _ f119
                  refine n_iadd c_153_60 rfl (n_istore (L2 := [some (2, 112), some (0, m), some (2, 127), some (0, f), some (0, 3), some (0, x), some (0, y), some (0, z0), some (0, ((((0 * 3) + z73) * 3) + z98)), some (0, 1), some (0, ((0 + 1) + 1)), some (0, ((z108 * 3) + z118))]) c_153_61 rfl rfl (n_iload_n c_153_63 rfl (n_iconst c_153_64 ?_)))
                  refine n_if2_le c_153_65 (by omega) (by omega) ?_ ?_
                  · intro h120
                    refine n_iload c_153_88 rfl (n_aload_n c_153_90 rfl (n_getV (bi := 0) c_153_91 sc_112.n rfl rfl rfl (t_dm hS hdm) ?_))
                    intro z121 ez121 f122
                    obtain rfl : z121 = 3 := by omega
                    refine n_imul c_153_94 rfl (n_aload_n c_153_95 rfl (n_iload_n c_153_96 rfl (n_iload c_153_97 rfl (n_iadd c_153_99 rfl (n_ialoadV c_153_100 sc_127.n rfl rfl rfl (by omega) (t_127 hS (by omega)) ?_)))))
                    intro z123 ez123 f124
                    refine n_iadd c_153_101 rfl (n_istore (L2 := [some (2, 112), some (0, m), some (2, 127), some (0, f), some (0, 3), some (0, x), some (0, y), some (0, z0), some (0, ((((((0 * 3) + z73) * 3) + z98) * 3) + z123)), some (0, 1), some (0, ((0 + 1) + 1)), some (0, ((z108 * 3) + z118))]) c_153_102 rfl rfl (n_iload c_153_104 rfl (n_aload_n c_153_106 rfl (n_getV (bi := 0) c_153_107 sc_112.n rfl rfl rfl (t_dm hS hdm) ?_))))
                    intro z125 ez125 f126
                    obtain rfl : z125 = 3 := by omega
                    refine n_idivT (z := 0) c_153_110 (by omega) (by omega) (by omega) (by decide) ?_
                    refine n_istore (L2 := [some (2, 112), some (0, m), some (2, 127), some (0, f), some (0, 3), some (0, x), some (0, y), some (0, z0), some (0, ((((((0 * 3) + z73) * 3) + z98) * 3) + z123)), some (0, 0), some (0, ((0 + 1) + 1)), some (0, ((z108 * 3) + z118))]) c_153_111 rfl rfl (n_iinc (L2 := [some (2, 112), some (0, m), some (2, 127), some (0, f), some (0, 3), some (0, x), some (0, y), some (0, z0), some (0, ((((((0 * 3) + z73) * 3) + z98) * 3) + z123)), some (0, 0), some (0, (((0 + 1) + 1) + 1)), some (0, ((z108 * 3) + z118))]) c_153_113 rfl rfl rfl (n_goto c_153_116 (n_iload c_153_19 rfl (n_iload c_153_21 rfl ?_))))
                    refine n_if2_ge c_153_23 (by omega) (by omega) ?_ ?_
                    · intro h127
                      refine n_iload c_153_119 rfl ?_
                      exact n_rI c_153_121 rfl ⟨rfl, by omega⟩
                    · intro h128
                      exfalso; omega
                  · intro h129
                    exfalso; omega
            · intro h130
              exfalso; omega
      · intro h131
        refine n_iload c_153_68 rfl (n_aload_n c_153_70 rfl (n_getV (bi := 0) c_153_71 sc_112.n rfl rfl rfl (t_dm hS hdm) ?_))
        intro z132 ez132 f133
        obtain rfl : z132 = 3 := by omega
        refine n_imul c_153_74 rfl (n_iload c_153_75 rfl (n_iload c_153_77 rfl (n_idivV c_153_79 (by omega) (by omega) ?_)))
        intro z134 _ f135
        refine n_aload_n c_153_80 rfl (n_getV (bi := 0) c_153_81 sc_112.n rfl rfl rfl (t_dm hS hdm) ?_)
        intro z136 ez136 f137
        obtain rfl : z136 = 3 := by omega
        refine n_iremV c_153_84 (by omega) (by omega) ?_
        intro z138 _ f139
        refine n_iadd c_153_85 rfl (n_istore (L2 := [some (2, 112), some (0, m), some (2, 127), some (0, f), some (0, 3), some (0, x), some (0, y), some (0, z0), some (0, 0), some (0, 9), some (0, 0), some (0, ((((z12 * 3) + z68) * 3) + z138))]) c_153_86 rfl rfl (n_iload c_153_88 rfl (n_aload_n c_153_90 rfl (n_getV (bi := 0) c_153_91 sc_112.n rfl rfl rfl (t_dm hS hdm) ?_))))
        intro z140 ez140 f141
        obtain rfl : z140 = 3 := by omega
        refine n_imul c_153_94 rfl (n_aload_n c_153_95 rfl (n_iload_n c_153_96 rfl (n_iload c_153_97 rfl (n_iadd c_153_99 rfl (n_ialoadV c_153_100 sc_127.n rfl rfl rfl (by omega) (t_127 hS (by omega)) ?_)))))
        intro z142 ez142 f143
        refine n_iadd c_153_101 rfl (n_istore (L2 := [some (2, 112), some (0, m), some (2, 127), some (0, f), some (0, 3), some (0, x), some (0, y), some (0, z0), some (0, ((0 * 3) + z142)), some (0, 9), some (0, 0), some (0, ((((z12 * 3) + z68) * 3) + z138))]) c_153_102 rfl rfl (n_iload c_153_104 rfl (n_aload_n c_153_106 rfl (n_getV (bi := 0) c_153_107 sc_112.n rfl rfl rfl (t_dm hS hdm) ?_))))
        intro z144 ez144 f145
        obtain rfl : z144 = 3 := by omega
        refine n_idivT (z := 3) c_153_110 (by omega) (by omega) (by omega) (by decide) ?_
        refine n_istore (L2 := [some (2, 112), some (0, m), some (2, 127), some (0, f), some (0, 3), some (0, x), some (0, y), some (0, z0), some (0, ((0 * 3) + z142)), some (0, 3), some (0, 0), some (0, ((((z12 * 3) + z68) * 3) + z138))]) c_153_111 rfl rfl (n_iinc (L2 := [some (2, 112), some (0, m), some (2, 127), some (0, f), some (0, 3), some (0, x), some (0, y), some (0, z0), some (0, ((0 * 3) + z142)), some (0, 3), some (0, (0 + 1)), some (0, ((((z12 * 3) + z68) * 3) + z138))]) c_153_113 rfl rfl rfl (n_goto c_153_116 (n_iload c_153_19 rfl (n_iload c_153_21 rfl ?_))))
        refine n_if2_ge c_153_23 (by omega) (by omega) ?_ ?_
        · intro h146
          exfalso; omega
        · intro h147
          refine n_iload c_153_26 rfl (n_iload c_153_28 rfl (n_idivV c_153_30 (by omega) (by omega) ?_))
          intro z148 _ f149
          refine n_aload_n c_153_31 rfl (n_getV (bi := 0) c_153_32 sc_112.n rfl rfl rfl (t_dm hS hdm) ?_)
          intro z150 ez150 f151
          obtain rfl : z150 = 3 := by omega
          refine n_iremV c_153_35 (by omega) (by omega) ?_
          intro z152 _ f153
          refine n_istore (L2 := [some (2, 112), some (0, m), some (2, 127), some (0, f), some (0, 3), some (0, x), some (0, y), some (0, z0), some (0, ((0 * 3) + z142)), some (0, 3), some (0, (0 + 1)), some (0, z152)]) c_153_36 rfl rfl (n_iload_n c_153_38 rfl (n_iconst c_153_39 ?_))
          refine n_if2_le c_153_40 (by omega) (by omega) ?_ ?_
          · intro h154
            exfalso; omega
          · intro h155
            refine n_iload c_153_43 rfl (n_aload_n c_153_45 rfl (n_getV (bi := 0) c_153_46 sc_112.n rfl rfl rfl (t_dm hS hdm) ?_))
            intro z156 ez156 f157
            obtain rfl : z156 = 3 := by omega
            refine n_imul c_153_49 rfl (n_iload c_153_50 rfl (n_iload c_153_52 rfl (n_idivV c_153_54 (by omega) (by omega) ?_)))
            intro z158 _ f159
            refine n_aload_n c_153_55 rfl (n_getV (bi := 0) c_153_56 sc_112.n rfl rfl rfl (t_dm hS hdm) ?_)
            intro z160 ez160 f161
            obtain rfl : z160 = 3 := by omega
            refine n_iremV c_153_59 (by omega) (by omega) ?_
            intro z162 _ f163
            refine n_iadd c_153_60 rfl (n_istore (L2 := [some (2, 112), some (0, m), some (2, 127), some (0, f), some (0, 3), some (0, x), some (0, y), some (0, z0), some (0, ((0 * 3) + z142)), some (0, 3), some (0, (0 + 1)), some (0, ((z152 * 3) + z162))]) c_153_61 rfl rfl (n_iload_n c_153_63 rfl (n_iconst c_153_64 ?_)))
            refine n_if2_le c_153_65 (by omega) (by omega) ?_ ?_
            · intro h164
              exfalso; omega
            · intro h165
              refine n_iload c_153_68 rfl (n_aload_n c_153_70 rfl (n_getV (bi := 0) c_153_71 sc_112.n rfl rfl rfl (t_dm hS hdm) ?_))
              intro z166 ez166 f167
              obtain rfl : z166 = 3 := by omega
              refine n_imul c_153_74 rfl (n_iload c_153_75 rfl (n_iload c_153_77 rfl (n_idivV c_153_79 (by omega) (by omega) ?_)))
              intro z168 _ f169
              refine n_aload_n c_153_80 rfl (n_getV (bi := 0) c_153_81 sc_112.n rfl rfl rfl (t_dm hS hdm) ?_)
              intro z170 ez170 f171
              obtain rfl : z170 = 3 := by omega
              refine n_iremV c_153_84 (by omega) (by omega) ?_
              intro z172 _ f173
              refine n_iadd c_153_85 rfl (n_istore (L2 := [some (2, 112), some (0, m), some (2, 127), some (0, f), some (0, 3), some (0, x), some (0, y), some (0, z0), some (0, ((0 * 3) + z142)), some (0, 3), some (0, (0 + 1)), some (0, ((((z152 * 3) + z162) * 3) + z172))]) c_153_86 rfl rfl (n_iload c_153_88 rfl (n_aload_n c_153_90 rfl (n_getV (bi := 0) c_153_91 sc_112.n rfl rfl rfl (t_dm hS hdm) ?_))))
              intro z174 ez174 f175
              obtain rfl : z174 = 3 := by omega
              refine n_imul c_153_94 rfl (n_aload_n c_153_95 rfl (n_iload_n c_153_96 rfl (n_iload c_153_97 rfl (n_iadd c_153_99 rfl (n_ialoadV c_153_100 sc_127.n rfl rfl rfl (by omega) (t_127 hS (by omega)) ?_)))))
              intro z176 ez176 f177
              refine n_iadd c_153_101 rfl (n_istore (L2 := [some (2, 112), some (0, m), some (2, 127), some (0, f), some (0, 3), some (0, x), some (0, y), some (0, z0), some (0, ((((0 * 3) + z142) * 3) + z176)), some (0, 3), some (0, (0 + 1)), some (0, ((((z152 * 3) + z162) * 3) + z172))]) c_153_102 rfl rfl (n_iload c_153_104 rfl (n_aload_n c_153_106 rfl (n_getV (bi := 0) c_153_107 sc_112.n rfl rfl rfl (t_dm hS hdm) ?_))))
              intro z178 ez178 f179
              obtain rfl : z178 = 3 := by omega
              refine n_idivT (z := 1) c_153_110 (by omega) (by omega) (by omega) (by decide) ?_
              refine n_istore (L2 := [some (2, 112), some (0, m), some (2, 127), some (0, f), some (0, 3), some (0, x), some (0, y), some (0, z0), some (0, ((((0 * 3) + z142) * 3) + z176)), some (0, 1), some (0, (0 + 1)), some (0, ((((z152 * 3) + z162) * 3) + z172))]) c_153_111 rfl rfl (n_iinc (L2 := [some (2, 112), some (0, m), some (2, 127), some (0, f), some (0, 3), some (0, x), some (0, y), some (0, z0), some (0, ((((0 * 3) + z142) * 3) + z176)), some (0, 1), some (0, ((0 + 1) + 1)), some (0, ((((z152 * 3) + z162) * 3) + z172))]) c_153_113 rfl rfl rfl (n_goto c_153_116 (n_iload c_153_19 rfl (n_iload c_153_21 rfl ?_))))
              refine n_if2_ge c_153_23 (by omega) (by omega) ?_ ?_
              · intro h180
                exfalso; omega
              · intro h181
                refine n_iload c_153_26 rfl (n_iload c_153_28 rfl (n_idivV c_153_30 (by omega) (by omega) ?_))
                intro z182 _ f183
                refine n_aload_n c_153_31 rfl (n_getV (bi := 0) c_153_32 sc_112.n rfl rfl rfl (t_dm hS hdm) ?_)
                intro z184 ez184 f185
                obtain rfl : z184 = 3 := by omega
                refine n_iremV c_153_35 (by omega) (by omega) ?_
                intro z186 _ f187
                refine n_istore (L2 := [some (2, 112), some (0, m), some (2, 127), some (0, f), some (0, 3), some (0, x), some (0, y), some (0, z0), some (0, ((((0 * 3) + z142) * 3) + z176)), some (0, 1), some (0, ((0 + 1) + 1)), some (0, z186)]) c_153_36 rfl rfl (n_iload_n c_153_38 rfl (n_iconst c_153_39 ?_))
                refine n_if2_le c_153_40 (by omega) (by omega) ?_ ?_
                · intro h188
                  exfalso; omega
                · intro h189
                  refine n_iload c_153_43 rfl (n_aload_n c_153_45 rfl (n_getV (bi := 0) c_153_46 sc_112.n rfl rfl rfl (t_dm hS hdm) ?_))
                  intro z190 ez190 f191
                  obtain rfl : z190 = 3 := by omega
                  refine n_imul c_153_49 rfl (n_iload c_153_50 rfl (n_iload c_153_52 rfl (n_idivV c_153_54 (by omega) (by omega) ?_)))
                  intro z192 _ f193
                  refine n_aload_n c_153_55 rfl (n_getV (bi := 0) c_153_56 sc_112.n rfl rfl rfl (t_dm hS hdm) ?_)
                  intro z194 ez194 f195
                  obtain rfl : z194 = 3 := by omega
                  refine n_iremV c_153_59 (by omega) (by omega) ?_
                  intro z196 _ f197
                  refine n_iadd c_153_60 rfl (n_istore (L2 := [some (2, 112), some (0, m), some (2, 127), some (0, f), some (0, 3), some (0, x), some (0, y), some (0, z0), some (0, ((((0 * 3) + z142) * 3) + z176)), some (0, 1), some (0, ((0 + 1) + 1)), some (0, ((z186 * 3) + z196))]) c_153_61 rfl rfl (n_iload_n c_153_63 rfl (n_iconst c_153_64 ?_)))
                  refine n_if2_le c_153_65 (by omega) (by omega) ?_ ?_
                  · intro h198
                    exfalso; omega
                  · intro h199
                    refine n_iload c_153_68 rfl (n_aload_n c_153_70 rfl (n_getV (bi := 0) c_153_71 sc_112.n rfl rfl rfl (t_dm hS hdm) ?_))
                    intro z200 ez200 f201
                    obtain rfl : z200 = 3 := by omega
                    refine n_imul c_153_74 rfl (n_iload c_153_75 rfl (n_iload c_153_77 rfl (n_idivV c_153_79 (by omega) (by omega) ?_)))
                    intro z202 _ f203
                    refine n_aload_n c_153_80 rfl (n_getV (bi := 0) c_153_81 sc_112.n rfl rfl rfl (t_dm hS hdm) ?_)
                    intro z204 ez204 f205
                    obtain rfl : z204 = 3 := by omega
                    refine n_iremV c_153_84 (by omega) (by omega) ?_
                    intro z206 _ f207
                    refine n_iadd c_153_85 rfl (n_istore (L2 := [some (2, 112), some (0, m), some (2, 127), some (0, f), some (0, 3), some (0, x), some (0, y), some (0, z0), some (0, ((((0 * 3) + z142) * 3) + z176)), some (0, 1), some (0, ((0 + 1) + 1)), some (0, ((((z186 * 3) + z196) * 3) + z206))]) c_153_86 rfl rfl (n_iload c_153_88 rfl (n_aload_n c_153_90 rfl (n_getV (bi := 0) c_153_91 sc_112.n rfl rfl rfl (t_dm hS hdm) ?_))))
                    intro z208 ez208 f209
                    obtain rfl : z208 = 3 := by omega
                    refine n_imul c_153_94 rfl (n_aload_n c_153_95 rfl (n_iload_n c_153_96 rfl (n_iload c_153_97 rfl (n_iadd c_153_99 rfl (n_ialoadV c_153_100 sc_127.n rfl rfl rfl (by omega) (t_127 hS (by omega)) ?_)))))
                    intro z210 ez210 f211
                    refine n_iadd c_153_101 rfl (n_istore (L2 := [some (2, 112), some (0, m), some (2, 127), some (0, f), some (0, 3), some (0, x), some (0, y), some (0, z0), some (0, ((((((0 * 3) + z142) * 3) + z176) * 3) + z210)), some (0, 1), some (0, ((0 + 1) + 1)), some (0, ((((z186 * 3) + z196) * 3) + z206))]) c_153_102 rfl rfl (n_iload c_153_104 rfl (n_aload_n c_153_106 rfl (n_getV (bi := 0) c_153_107 sc_112.n rfl rfl rfl (t_dm hS hdm) ?_))))
                    intro z212 ez212 f213
                    obtain rfl : z212 = 3 := by omega
                    refine n_idivT (z := 0) c_153_110 (by omega) (by omega) (by omega) (by decide) ?_
                    refine n_istore (L2 := [some (2, 112), some (0, m), some (2, 127), some (0, f), some (0, 3), some (0, x), some (0, y), some (0, z0), some (0, ((((((0 * 3) + z142) * 3) + z176) * 3) + z210)), some (0, 0), some (0, ((0 + 1) + 1)), some (0, ((((z186 * 3) + z196) * 3) + z206))]) c_153_111 rfl rfl (n_iinc (L2 := [some (2, 112), some (0, m), some (2, 127), some (0, f), some (0, 3), some (0, x), some (0, y), some (0, z0), some (0, ((((((0 * 3) + z142) * 3) + z176) * 3) + z210)), some (0, 0), some (0, (((0 + 1) + 1) + 1)), some (0, ((((z186 * 3) + z196) * 3) + z206))]) c_153_113 rfl rfl rfl (n_goto c_153_116 (n_iload c_153_19 rfl (n_iload c_153_21 rfl ?_))))
                    refine n_if2_ge c_153_23 (by omega) (by omega) ?_ ?_
                    · intro h214
                      refine n_iload c_153_119 rfl ?_
                      exact n_rI c_153_121 rfl ⟨rfl, by omega⟩
                    · intro h215
                      exfalso; omega

set_option maxHeartbeats 4000000 in
theorem imageH_3 {xs : List Int32} {e : Nat} {ac : Int} {M0 M : nM} {m f k x y z0 : Int} (hS : Sf 3 ac M0 M) (hdm : M0 112 0 = 3) (hm : 0 ≤ m ∧ m ≤ 3) (hf : 0 ≤ f ∧ f ≤ 0) (hk : 0 ≤ k ∧ k ≤ 3) (hx : 0 ≤ x ∧ x ≤ 26) (hy : 0 ≤ y ∧ y ≤ 26) (hz0 : 0 ≤ z0 ∧ z0 ≤ 26) : nW xs (e + 1) 153 0 [some (2, 112), some (0, m), some (2, 127), some (0, f), some (0, k), some (0, x), some (0, y), some (0, z0), none, none, none, none] [] M (nPI fun z M1 => M = M1 ∧ (0 ≤ z ∧ z ≤ 26)) := by
  rcases (show k = 0 ∨ k = 1 ∨ k = 2 ∨ k = 3 by omega) with rfl | rfl | rfl | rfl
  · exact n_post (imageH0_3 hS hdm (by omega) (by omega) (by omega) (by omega) (by omega)) (fun w M1 h => by obtain ⟨z, rfl, h1, h2⟩ := h; exact ⟨z, rfl, h1, by omega⟩)
  · exact n_post (imageH1_3 hS hdm (by omega) (by omega) (by omega) (by omega) (by omega)) (fun w M1 h => by obtain ⟨z, rfl, h1, h2⟩ := h; exact ⟨z, rfl, h1, by omega⟩)
  · exact n_post (imageH2_3 hS hdm (by omega) (by omega) (by omega) (by omega) (by omega)) (fun w M1 h => by obtain ⟨z, rfl, h1, h2⟩ := h; exact ⟨z, rfl, h1, by omega⟩)
  · exact n_post (imageH3_3 hS hdm (by omega) (by omega) (by omega) (by omega) (by omega)) (fun w M1 h => by obtain ⟨z, rfl, h1, h2⟩ := h; exact ⟨z, rfl, h1, by omega⟩)

set_option maxHeartbeats 4000000 in
theorem escapesH0_3_c {xs : List Int32} {e : Nat} {ac : Int} {M0 M : nM} {m f s : Int} (hS : Sf 3 ac M0 M) (hdm : M0 112 0 = 3) (hm : 0 ≤ m ∧ m ≤ 3) (hf : 0 ≤ f ∧ f ≤ 0) (hs : -9223372036854775808 ≤ s ∧ s ≤ 9223372036854775807) : ∀ nn : Nat, (∀ (x7 x8 : Int), (1 ≤ x7 ∧ x7 ≤ 1) → (0 ≤ x8 ∧ x8 ≤ 1) → (1 - x8) * 38 + 38 < (nn : Int) → nW xs (e + 2) 154 14 [some (2, 112), some (0, m), some (2, 127), some (0, f), some (0, 0), some (1, s), none, some (0, x7), some (0, x8), none, none, none] [] M (nPI fun z M1 => M = M1 ∧ (-1 ≤ z ∧ z ≤ 26) ∧ (z = -1 ∨ n_land (n_lshr s z) 1 = 0))) ∧ (∀ (x7 x8 x9 : Int), (1 ≤ x7 ∧ x7 ≤ 1) → (0 ≤ x8 ∧ x8 ≤ 0) → (0 ≤ x9 ∧ x9 ≤ 1) → (1 - x8) * 38 + (1 - x9) * 12 + 13 < (nn : Int) → nW xs (e + 2) 154 39 [some (2, 112), some (0, m), some (2, 127), some (0, f), some (0, 0), some (1, s), none, some (0, x7), some (0, x8), some (0, x9), none, none] [] M (nPI fun z M1 => M = M1 ∧ (-1 ≤ z ∧ z ≤ 26) ∧ (z = -1 ∨ n_land (n_lshr s z) 1 = 0))) ∧ (∀ (x7 x8 x9 : Int), (1 ≤ x7 ∧ x7 ≤ 1) → (0 ≤ x8 ∧ x8 ≤ 0) → (0 ≤ x9 ∧ x9 ≤ 0) → (1 - x8) * 38 + (1 - x9) * 12 + 12 < (nn : Int) → nW xs (e + 2) 154 75 [some (2, 112), some (0, m), some (2, 127), some (0, f), some (0, 0), some (1, s), none, some (0, x7), some (0, x8), some (0, x9), none, none] [] M (nPI fun z M1 => M = M1 ∧ (-1 ≤ z ∧ z ≤ 26) ∧ (z = -1 ∨ n_land (n_lshr s z) 1 = 0))) ∧ (∀ (x7 x8 x9 x10 : Int), (1 ≤ x7 ∧ x7 ≤ 1) → (0 ≤ x8 ∧ x8 ≤ 0) → (0 ≤ x9 ∧ x9 ≤ 0) → (0 ≤ x10 ∧ x10 ≤ 1) → (1 - x8) * 38 + (1 - x9) * 12 + (1 - x10) * 3 + 5 < (nn : Int) → nW xs (e + 2) 154 78 [some (2, 112), some (0, m), some (2, 127), some (0, f), some (0, 0), some (1, s), none, some (0, x7), some (0, x8), some (0, x9), some (0, x10), none] [] M (nPI fun z M1 => M = M1 ∧ (-1 ≤ z ∧ z ≤ 26) ∧ (z = -1 ∨ n_land (n_lshr s z) 1 = 0))) ∧ (∀ (x7 x8 x9 x10 : Int), (1 ≤ x7 ∧ x7 ≤ 1) → (0 ≤ x8 ∧ x8 ≤ 0) → (0 ≤ x9 ∧ x9 ≤ 0) → (0 ≤ x10 ∧ x10 ≤ 0) → (1 - x8) * 38 + (1 - x9) * 12 + (1 - x10) * 3 + 4 < (nn : Int) → nW xs (e + 2) 154 114 [some (2, 112), some (0, m), some (2, 127), some (0, f), some (0, 0), some (1, s), none, some (0, x7), some (0, x8), some (0, x9), some (0, x10), none] [] M (nPI fun z M1 => M = M1 ∧ (-1 ≤ z ∧ z ≤ 26) ∧ (z = -1 ∨ n_land (n_lshr s z) 1 = 0))) ∧ (∀ (x7 x8 x9 x10 : Int), (1 ≤ x7 ∧ x7 ≤ 1) → (0 ≤ x8 ∧ x8 ≤ 0) → (0 ≤ x9 ∧ x9 ≤ 0) → (0 ≤ x10 ∧ x10 ≤ 0) → (1 - x8) * 38 + (1 - x9) * 12 + (1 - x10) * 3 + 3 < (nn : Int) → nW xs (e + 2) 154 146 [some (2, 112), some (0, m), some (2, 127), some (0, f), some (0, 0), some (1, s), none, some (0, x7), some (0, x8), some (0, x9), some (0, x10), none] [] M (nPI fun z M1 => M = M1 ∧ (-1 ≤ z ∧ z ≤ 26) ∧ (z = -1 ∨ n_land (n_lshr s z) 1 = 0))) ∧ (∀ (x7 x8 x9 : Int), (1 ≤ x7 ∧ x7 ≤ 1) → (0 ≤ x8 ∧ x8 ≤ 0) → (0 ≤ x9 ∧ x9 ≤ 0) → (1 - x8) * 38 + (1 - x9) * 12 + 2 < (nn : Int) → nW xs (e + 2) 154 152 [some (2, 112), some (0, m), some (2, 127), some (0, f), some (0, 0), some (1, s), none, some (0, x7), some (0, x8), some (0, x9), none, none] [] M (nPI fun z M1 => M = M1 ∧ (-1 ≤ z ∧ z ≤ 26) ∧ (z = -1 ∨ n_land (n_lshr s z) 1 = 0))) ∧ (∀ (x7 x8 : Int), (1 ≤ x7 ∧ x7 ≤ 1) → (0 ≤ x8 ∧ x8 ≤ 0) → (1 - x8) * 38 + 1 < (nn : Int) → nW xs (e + 2) 154 158 [some (2, 112), some (0, m), some (2, 127), some (0, f), some (0, 0), some (1, s), none, some (0, x7), some (0, x8), none, none, none] [] M (nPI fun z M1 => M = M1 ∧ (-1 ≤ z ∧ z ≤ 26) ∧ (z = -1 ∨ n_land (n_lshr s z) 1 = 0))) := by
  have hd : (3 : Int) = 2 ∨ (3 : Int) = 3 := by decide
  have hac := hS.2.2.2.2
  intro nn
  induction nn with
  | zero => refine ⟨?_, ?_, ?_, ?_, ?_, ?_, ?_, ?_⟩ <;> (intros; omega)
  | succ nn ih =>
    refine ⟨?_, ?_, ?_, ?_, ?_, ?_, ?_, ?_⟩
    · intro x7 x8 k7 k8 hnn
      refine n_iload c_154_14 rfl (n_iload c_154_16 rfl ?_)
      refine n_if2_ge c_154_18 (by omega) (by omega) ?_ ?_
      · intro h1
        refine n_iconst c_154_164 ?_
        exact n_rI c_154_165 rfl ⟨rfl, by omega, by first | omega | (refine Or.inr ?_; subst_vars; assumption)⟩
      · intro h2
        refine n_lload c_154_21 rfl (n_iload c_154_23 rfl (n_i_lshr c_154_25 rfl ?_))
        have f3 := n_lshr_r s x8
        generalize gz4 : (n_lshr s x8) = z4 at f3 ⊢
        refine n_lconst (n := 1) c_154_26 rfl (n_i_land c_154_27 rfl ?_)
        have f5 := n_land_r z4 1
        generalize gz6 : (n_land z4 1) = z6 at f5 ⊢
        refine n_lconst (n := 0) c_154_28 rfl (n_lcmp c_154_29 ?_)
        refine n_lif_ne c_154_30 (by omega) (by omega) ?_ ?_
        · intro h7
          refine n_iconst c_154_36 (n_istore (L2 := [some (2, 112), some (0, m), some (2, 127), some (0, f), some (0, 0), some (1, s), none, some (0, x7), some (0, x8), some (0, 0), none, none]) c_154_37 rfl rfl (n_fg (le_s (le_s (le_s (le_s (le_s (le_s (le_n (le_s (le_s (le_s (le_n (le_n le_0)))))))))))) ?_))
          exact ih.2.1 _ _ _ (by omega) (by omega) (by omega) (by omega)
        · intro h8
          refine n_goto c_154_33 (n_fg (le_s (le_s (le_s (le_s (le_s (le_s (le_n (le_s (le_s (le_n (le_n (le_n le_0)))))))))))) ?_)
          exact ih.2.2.2.2.2.2.2 _ _ (by omega) (by omega) (by omega)
    · intro x7 x8 x9 k7 k8 k9 hnn
      refine n_iload c_154_39 rfl (n_iload_n c_154_41 rfl (n_iconst c_154_42 ?_))
      refine n_if2_le c_154_43 (by omega) (by omega) ?_ ?_
      · intro h1
        refine n_iconst c_154_51 ?_
        refine n_if2_ge c_154_52 (by omega) (by omega) ?_ ?_
        · intro h2
          refine n_fg (le_s (le_s (le_s (le_s (le_s (le_s (le_n (le_s (le_s (le_n (le_n (le_n le_0)))))))))))) ?_
          exact ih.2.2.2.2.2.2.2 _ _ (by omega) (by omega) (by omega)
        · intro h3
          refine n_iload_n c_154_55 rfl (n_iconst c_154_56 ?_)
          refine n_if2_le c_154_57 (by omega) (by omega) ?_ ?_
          · intro h4
            refine n_fg (le_s (le_s (le_s (le_s (le_s (le_s (le_n (le_s (le_s (le_s (le_n (le_n le_0)))))))))))) ?_
            exact ih.2.2.1 _ _ _ (by omega) (by omega) (by omega) (by omega)
          · intro h5
            exfalso; omega
      · intro h6
        refine n_iload c_154_46 rfl (n_goto c_154_48 ?_)
        refine n_if2_ge c_154_52 (by omega) (by omega) ?_ ?_
        · intro h7
          refine n_fg (le_s (le_s (le_s (le_s (le_s (le_s (le_n (le_s (le_s (le_n (le_n (le_n le_0)))))))))))) ?_
          exact ih.2.2.2.2.2.2.2 _ _ (by omega) (by omega) (by omega)
        · intro h8
          refine n_iload_n c_154_55 rfl (n_iconst c_154_56 ?_)
          refine n_if2_le c_154_57 (by omega) (by omega) ?_ ?_
          · intro h9
            exfalso; omega
          · intro h10
            refine n_lload c_154_60 rfl (n_iload c_154_62 rfl (n_i_lshr c_154_64 rfl ?_))
            have f11 := n_lshr_r s x9
            generalize gz12 : (n_lshr s x9) = z12 at f11 ⊢
            refine n_lconst (n := 1) c_154_65 rfl (n_i_land c_154_66 rfl ?_)
            have f13 := n_land_r z12 1
            generalize gz14 : (n_land z12 1) = z14 at f13 ⊢
            refine n_lconst (n := 0) c_154_67 rfl (n_lcmp c_154_68 ?_)
            refine n_lif_ne c_154_69 (by omega) (by omega) ?_ ?_
            · intro h15
              refine n_fg (le_s (le_s (le_s (le_s (le_s (le_s (le_n (le_s (le_s (le_s (le_n (le_n le_0)))))))))))) ?_
              exact ih.2.2.1 _ _ _ (by omega) (by omega) (by omega) (by omega)
            · intro h16
              refine n_goto c_154_72 (n_fg (le_s (le_s (le_s (le_s (le_s (le_s (le_n (le_s (le_s (le_s (le_n (le_n le_0)))))))))))) ?_)
              exact ih.2.2.2.2.2.2.1 _ _ _ (by omega) (by omega) (by omega) (by omega)
    · intro x7 x8 x9 k7 k8 k9 hnn
      refine n_iconst c_154_75 (n_istore (L2 := [some (2, 112), some (0, m), some (2, 127), some (0, f), some (0, 0), some (1, s), none, some (0, x7), some (0, x8), some (0, x9), some (0, 0), none]) c_154_76 rfl rfl (n_fg (le_s (le_s (le_s (le_s (le_s (le_s (le_n (le_s (le_s (le_s (le_s (le_n le_0)))))))))))) ?_))
      exact ih.2.2.2.1 _ _ _ _ (by omega) (by omega) (by omega) (by omega) (by omega)
    · intro x7 x8 x9 x10 k7 k8 k9 k10 hnn
      refine n_iload c_154_78 rfl (n_iload_n c_154_80 rfl (n_iconst c_154_81 ?_))
      refine n_if2_le c_154_82 (by omega) (by omega) ?_ ?_
      · intro h1
        refine n_iconst c_154_90 ?_
        refine n_if2_ge c_154_91 (by omega) (by omega) ?_ ?_
        · intro h2
          refine n_fg (le_s (le_s (le_s (le_s (le_s (le_s (le_n (le_s (le_s (le_s (le_n (le_n le_0)))))))))))) ?_
          exact ih.2.2.2.2.2.2.1 _ _ _ (by omega) (by omega) (by omega) (by omega)
        · intro h3
          refine n_iload_n c_154_94 rfl (n_iconst c_154_95 ?_)
          refine n_if2_le c_154_96 (by omega) (by omega) ?_ ?_
          · intro h4
            refine n_fg (le_s (le_s (le_s (le_s (le_s (le_s (le_n (le_s (le_s (le_s (le_s (le_n le_0)))))))))))) ?_
            exact ih.2.2.2.2.1 _ _ _ _ (by omega) (by omega) (by omega) (by omega) (by omega)
          · intro h5
            exfalso; omega
      · intro h6
        refine n_iload c_154_85 rfl (n_goto c_154_87 ?_)
        refine n_if2_ge c_154_91 (by omega) (by omega) ?_ ?_
        · intro h7
          refine n_fg (le_s (le_s (le_s (le_s (le_s (le_s (le_n (le_s (le_s (le_s (le_n (le_n le_0)))))))))))) ?_
          exact ih.2.2.2.2.2.2.1 _ _ _ (by omega) (by omega) (by omega) (by omega)
        · intro h8
          refine n_iload_n c_154_94 rfl (n_iconst c_154_95 ?_)
          refine n_if2_le c_154_96 (by omega) (by omega) ?_ ?_
          · intro h9
            exfalso; omega
          · intro h10
            refine n_lload c_154_99 rfl (n_iload c_154_101 rfl (n_i_lshr c_154_103 rfl ?_))
            have f11 := n_lshr_r s x10
            generalize gz12 : (n_lshr s x10) = z12 at f11 ⊢
            refine n_lconst (n := 1) c_154_104 rfl (n_i_land c_154_105 rfl ?_)
            have f13 := n_land_r z12 1
            generalize gz14 : (n_land z12 1) = z14 at f13 ⊢
            refine n_lconst (n := 0) c_154_106 rfl (n_lcmp c_154_107 ?_)
            refine n_lif_ne c_154_108 (by omega) (by omega) ?_ ?_
            · intro h15
              refine n_fg (le_s (le_s (le_s (le_s (le_s (le_s (le_n (le_s (le_s (le_s (le_s (le_n le_0)))))))))))) ?_
              exact ih.2.2.2.2.1 _ _ _ _ (by omega) (by omega) (by omega) (by omega) (by omega)
            · intro h16
              refine n_goto c_154_111 (n_fg (le_s (le_s (le_s (le_s (le_s (le_s (le_n (le_s (le_s (le_s (le_s (le_n le_0)))))))))))) ?_)
              exact ih.2.2.2.2.2.1 _ _ _ _ (by omega) (by omega) (by omega) (by omega) (by omega)
    · intro x7 x8 x9 x10 k7 k8 k9 k10 hnn
      refine n_aload_n c_154_114 rfl (n_iload_n c_154_115 rfl (n_aload_n c_154_116 rfl (n_iload_n c_154_117 rfl (n_iload c_154_118 rfl (n_iload c_154_120 rfl (n_iload c_154_122 rfl (n_iload c_154_124 rfl (n_v7I c_154_126 rfl sc_112.n rfl rfl rfl rfl (imageH0_3 (m := m) (f := f) (x := x8) (y := x9) (z0 := x10) hS hdm (by omega) (by omega) (by omega) (by omega) (by omega)) ?_))))))))
      intro z1 M2 hP3
      obtain ⟨eM, f3⟩ := hP3
      subst eM
      refine n_istore (L2 := [some (2, 112), some (0, m), some (2, 127), some (0, f), some (0, 0), some (1, s), none, some (0, x7), some (0, x8), some (0, x9), some (0, x10), some (0, z1)]) c_154_129 rfl rfl (n_lload c_154_131 rfl (n_iload c_154_133 rfl (n_i_lshr c_154_135 rfl ?_)))
      have f4 := n_lshr_r s z1
      generalize gz5 : (n_lshr s z1) = z5 at f4 ⊢
      refine n_lconst (n := 1) c_154_136 rfl (n_i_land c_154_137 rfl ?_)
      have f6 := n_land_r z5 1
      generalize gz7 : (n_land z5 1) = z7 at f6 ⊢
      refine n_lconst (n := 0) c_154_138 rfl (n_lcmp c_154_139 ?_)
      refine n_lif_ne c_154_140 (by omega) (by omega) ?_ ?_
      · intro h8
        refine n_fg (le_s (le_s (le_s (le_s (le_s (le_s (le_n (le_s (le_s (le_s (le_s (le_n le_0)))))))))))) ?_
        exact ih.2.2.2.2.2.1 _ _ _ _ (by omega) (by omega) (by omega) (by omega) (by omega)
      · intro h9
        refine n_iload c_154_143 rfl ?_
        exact n_rI c_154_145 rfl ⟨rfl, by omega, by first | omega | (refine Or.inr ?_; subst_vars; assumption)⟩
    · intro x7 x8 x9 x10 k7 k8 k9 k10 hnn
      refine n_iinc (L2 := [some (2, 112), some (0, m), some (2, 127), some (0, f), some (0, 0), some (1, s), none, some (0, x7), some (0, x8), some (0, x9), some (0, (x10 + 1)), none]) c_154_146 rfl rfl rfl (n_goto c_154_149 (n_fg (le_s (le_s (le_s (le_s (le_s (le_s (le_n (le_s (le_s (le_s (le_s (le_n le_0)))))))))))) ?_))
      exact ih.2.2.2.1 _ _ _ _ (by omega) (by omega) (by omega) (by omega) (by omega)
    · intro x7 x8 x9 k7 k8 k9 hnn
      refine n_iinc (L2 := [some (2, 112), some (0, m), some (2, 127), some (0, f), some (0, 0), some (1, s), none, some (0, x7), some (0, x8), some (0, (x9 + 1)), none, none]) c_154_152 rfl rfl rfl (n_goto c_154_155 (n_fg (le_s (le_s (le_s (le_s (le_s (le_s (le_n (le_s (le_s (le_s (le_n (le_n le_0)))))))))))) ?_))
      exact ih.2.1 _ _ _ (by omega) (by omega) (by omega) (by omega)
    · intro x7 x8 k7 k8 hnn
      refine n_iinc (L2 := [some (2, 112), some (0, m), some (2, 127), some (0, f), some (0, 0), some (1, s), none, some (0, x7), some (0, (x8 + 1)), none, none, none]) c_154_158 rfl rfl rfl (n_goto c_154_161 (n_fg (le_s (le_s (le_s (le_s (le_s (le_s (le_n (le_s (le_s (le_n (le_n (le_n le_0)))))))))))) ?_))
      exact ih.1 _ _ (by omega) (by omega) (by omega)
set_option maxHeartbeats 4000000 in
theorem escapesH0_3 {xs : List Int32} {e : Nat} {ac : Int} {M0 M : nM} {m f s : Int} (hS : Sf 3 ac M0 M) (hdm : M0 112 0 = 3) (hm : 0 ≤ m ∧ m ≤ 3) (hf : 0 ≤ f ∧ f ≤ 0) (hs : -9223372036854775808 ≤ s ∧ s ≤ 9223372036854775807) : nW xs (e + 2) 154 0 [some (2, 112), some (0, m), some (2, 127), some (0, f), some (0, 0), some (1, s), none, none, none, none, none, none] [] M (nPI fun z M1 => M = M1 ∧ (-1 ≤ z ∧ z ≤ 26) ∧ (z = -1 ∨ n_land (n_lshr s z) 1 = 0)) := by
  have hd : (3 : Int) = 2 ∨ (3 : Int) = 3 := by decide
  have hac := hS.2.2.2.2
  refine n_aload_n c_154_0 rfl (n_getV (bi := 0) c_154_1 sc_112.n rfl rfl rfl (t_dm hS hdm) ?_)
  intro z1 ez1 f2
  obtain rfl : z1 = 3 := by omega
  refine n_iload c_154_4 rfl (n_s2I c_154_6 rfl rfl rfl rfl (mpower0_3  hS ) ?_)
  intro z3 M4 hP5
  obtain ⟨eM, f5⟩ := hP5
  subst eM
  obtain rfl : z3 = 1 := by omega
  refine n_istore (L2 := [some (2, 112), some (0, m), some (2, 127), some (0, f), some (0, 0), some (1, s), none, some (0, 1), none, none, none, none]) c_154_9 rfl rfl (n_iconst c_154_11 (n_istore (L2 := [some (2, 112), some (0, m), some (2, 127), some (0, f), some (0, 0), some (1, s), none, some (0, 1), some (0, 0), none, none, none]) c_154_12 rfl rfl (n_fg (le_s (le_s (le_s (le_s (le_s (le_s (le_n (le_s (le_s (le_n (le_n (le_n le_0)))))))))))) ?_)))
  exact (escapesH0_3_c hS hdm hm hf hs 238).1 _ _ (by omega) (by omega) (by omega)

/-! The methods, by program. -/
set_option maxHeartbeats 4000000 in
theorem escapesH1_3_c {xs : List Int32} {e : Nat} {ac : Int} {M0 M : nM} {m f s : Int} (hS : Sf 3 ac M0 M) (hdm : M0 112 0 = 3) (hm : 0 ≤ m ∧ m ≤ 3) (hf : 0 ≤ f ∧ f ≤ 0) (hs : -9223372036854775808 ≤ s ∧ s ≤ 9223372036854775807) : ∀ nn : Nat, (∀ (x7 x8 : Int), (3 ≤ x7 ∧ x7 ≤ 3) → (0 ≤ x8 ∧ x8 ≤ 3) → (3 - x8) * 92 + 92 < (nn : Int) → nW xs (e + 2) 154 14 [some (2, 112), some (0, m), some (2, 127), some (0, f), some (0, 1), some (1, s), none, some (0, x7), some (0, x8), none, none, none] [] M (nPI fun z M1 => M = M1 ∧ (-1 ≤ z ∧ z ≤ 26) ∧ (z = -1 ∨ n_land (n_lshr s z) 1 = 0))) ∧ (∀ (x7 x8 x9 : Int), (3 ≤ x7 ∧ x7 ≤ 3) → (0 ≤ x8 ∧ x8 ≤ 2) → (0 ≤ x9 ∧ x9 ≤ 3) → (3 - x8) * 92 + (3 - x9) * 18 + 19 < (nn : Int) → nW xs (e + 2) 154 39 [some (2, 112), some (0, m), some (2, 127), some (0, f), some (0, 1), some (1, s), none, some (0, x7), some (0, x8), some (0, x9), none, none] [] M (nPI fun z M1 => M = M1 ∧ (-1 ≤ z ∧ z ≤ 26) ∧ (z = -1 ∨ n_land (n_lshr s z) 1 = 0))) ∧ (∀ (x7 x8 x9 : Int), (3 ≤ x7 ∧ x7 ≤ 3) → (0 ≤ x8 ∧ x8 ≤ 2) → (0 ≤ x9 ∧ x9 ≤ 2) → (3 - x8) * 92 + (3 - x9) * 18 + 18 < (nn : Int) → nW xs (e + 2) 154 75 [some (2, 112), some (0, m), some (2, 127), some (0, f), some (0, 1), some (1, s), none, some (0, x7), some (0, x8), some (0, x9), none, none] [] M (nPI fun z M1 => M = M1 ∧ (-1 ≤ z ∧ z ≤ 26) ∧ (z = -1 ∨ n_land (n_lshr s z) 1 = 0))) ∧ (∀ (x7 x8 x9 x10 : Int), (3 ≤ x7 ∧ x7 ≤ 3) → (0 ≤ x8 ∧ x8 ≤ 2) → (0 ≤ x9 ∧ x9 ≤ 2) → (0 ≤ x10 ∧ x10 ≤ 3) → (3 - x8) * 92 + (3 - x9) * 18 + (3 - x10) * 3 + 5 < (nn : Int) → nW xs (e + 2) 154 78 [some (2, 112), some (0, m), some (2, 127), some (0, f), some (0, 1), some (1, s), none, some (0, x7), some (0, x8), some (0, x9), some (0, x10), none] [] M (nPI fun z M1 => M = M1 ∧ (-1 ≤ z ∧ z ≤ 26) ∧ (z = -1 ∨ n_land (n_lshr s z) 1 = 0))) ∧ (∀ (x7 x8 x9 x10 : Int), (3 ≤ x7 ∧ x7 ≤ 3) → (0 ≤ x8 ∧ x8 ≤ 2) → (0 ≤ x9 ∧ x9 ≤ 2) → (0 ≤ x10 ∧ x10 ≤ 2) → (3 - x8) * 92 + (3 - x9) * 18 + (3 - x10) * 3 + 4 < (nn : Int) → nW xs (e + 2) 154 114 [some (2, 112), some (0, m), some (2, 127), some (0, f), some (0, 1), some (1, s), none, some (0, x7), some (0, x8), some (0, x9), some (0, x10), none] [] M (nPI fun z M1 => M = M1 ∧ (-1 ≤ z ∧ z ≤ 26) ∧ (z = -1 ∨ n_land (n_lshr s z) 1 = 0))) ∧ (∀ (x7 x8 x9 x10 : Int), (3 ≤ x7 ∧ x7 ≤ 3) → (0 ≤ x8 ∧ x8 ≤ 2) → (0 ≤ x9 ∧ x9 ≤ 2) → (0 ≤ x10 ∧ x10 ≤ 2) → (3 - x8) * 92 + (3 - x9) * 18 + (3 - x10) * 3 + 3 < (nn : Int) → nW xs (e + 2) 154 146 [some (2, 112), some (0, m), some (2, 127), some (0, f), some (0, 1), some (1, s), none, some (0, x7), some (0, x8), some (0, x9), some (0, x10), none] [] M (nPI fun z M1 => M = M1 ∧ (-1 ≤ z ∧ z ≤ 26) ∧ (z = -1 ∨ n_land (n_lshr s z) 1 = 0))) ∧ (∀ (x7 x8 x9 : Int), (3 ≤ x7 ∧ x7 ≤ 3) → (0 ≤ x8 ∧ x8 ≤ 2) → (0 ≤ x9 ∧ x9 ≤ 2) → (3 - x8) * 92 + (3 - x9) * 18 + 2 < (nn : Int) → nW xs (e + 2) 154 152 [some (2, 112), some (0, m), some (2, 127), some (0, f), some (0, 1), some (1, s), none, some (0, x7), some (0, x8), some (0, x9), none, none] [] M (nPI fun z M1 => M = M1 ∧ (-1 ≤ z ∧ z ≤ 26) ∧ (z = -1 ∨ n_land (n_lshr s z) 1 = 0))) ∧ (∀ (x7 x8 : Int), (3 ≤ x7 ∧ x7 ≤ 3) → (0 ≤ x8 ∧ x8 ≤ 2) → (3 - x8) * 92 + 1 < (nn : Int) → nW xs (e + 2) 154 158 [some (2, 112), some (0, m), some (2, 127), some (0, f), some (0, 1), some (1, s), none, some (0, x7), some (0, x8), none, none, none] [] M (nPI fun z M1 => M = M1 ∧ (-1 ≤ z ∧ z ≤ 26) ∧ (z = -1 ∨ n_land (n_lshr s z) 1 = 0))) := by
  have hd : (3 : Int) = 2 ∨ (3 : Int) = 3 := by decide
  have hac := hS.2.2.2.2
  intro nn
  induction nn with
  | zero => refine ⟨?_, ?_, ?_, ?_, ?_, ?_, ?_, ?_⟩ <;> (intros; omega)
  | succ nn ih =>
    refine ⟨?_, ?_, ?_, ?_, ?_, ?_, ?_, ?_⟩
    · intro x7 x8 k7 k8 hnn
      refine n_iload c_154_14 rfl (n_iload c_154_16 rfl ?_)
      refine n_if2_ge c_154_18 (by omega) (by omega) ?_ ?_
      · intro h1
        refine n_iconst c_154_164 ?_
        exact n_rI c_154_165 rfl ⟨rfl, by omega, by first | omega | (refine Or.inr ?_; subst_vars; assumption)⟩
      · intro h2
        refine n_lload c_154_21 rfl (n_iload c_154_23 rfl (n_i_lshr c_154_25 rfl ?_))
        have f3 := n_lshr_r s x8
        generalize gz4 : (n_lshr s x8) = z4 at f3 ⊢
        refine n_lconst (n := 1) c_154_26 rfl (n_i_land c_154_27 rfl ?_)
        have f5 := n_land_r z4 1
        generalize gz6 : (n_land z4 1) = z6 at f5 ⊢
        refine n_lconst (n := 0) c_154_28 rfl (n_lcmp c_154_29 ?_)
        refine n_lif_ne c_154_30 (by omega) (by omega) ?_ ?_
        · intro h7
          refine n_iconst c_154_36 (n_istore (L2 := [some (2, 112), some (0, m), some (2, 127), some (0, f), some (0, 1), some (1, s), none, some (0, x7), some (0, x8), some (0, 0), none, none]) c_154_37 rfl rfl (n_fg (le_s (le_s (le_s (le_s (le_s (le_s (le_n (le_s (le_s (le_s (le_n (le_n le_0)))))))))))) ?_))
          exact ih.2.1 _ _ _ (by omega) (by omega) (by omega) (by omega)
        · intro h8
          refine n_goto c_154_33 (n_fg (le_s (le_s (le_s (le_s (le_s (le_s (le_n (le_s (le_s (le_n (le_n (le_n le_0)))))))))))) ?_)
          exact ih.2.2.2.2.2.2.2 _ _ (by omega) (by omega) (by omega)
    · intro x7 x8 x9 k7 k8 k9 hnn
      refine n_iload c_154_39 rfl (n_iload_n c_154_41 rfl (n_iconst c_154_42 ?_))
      refine n_if2_le c_154_43 (by omega) (by omega) ?_ ?_
      · intro h1
        refine n_iconst c_154_51 ?_
        refine n_if2_ge c_154_52 (by omega) (by omega) ?_ ?_
        · intro h2
          refine n_fg (le_s (le_s (le_s (le_s (le_s (le_s (le_n (le_s (le_s (le_n (le_n (le_n le_0)))))))))))) ?_
          exact ih.2.2.2.2.2.2.2 _ _ (by omega) (by omega) (by omega)
        · intro h3
          refine n_iload_n c_154_55 rfl (n_iconst c_154_56 ?_)
          refine n_if2_le c_154_57 (by omega) (by omega) ?_ ?_
          · intro h4
            refine n_fg (le_s (le_s (le_s (le_s (le_s (le_s (le_n (le_s (le_s (le_s (le_n (le_n le_0)))))))))))) ?_
            exact ih.2.2.1 _ _ _ (by omega) (by omega) (by omega) (by omega)
          · intro h5
            exfalso; omega
      · intro h6
        refine n_iload c_154_46 rfl (n_goto c_154_48 ?_)
        refine n_if2_ge c_154_52 (by omega) (by omega) ?_ ?_
        · intro h7
          refine n_fg (le_s (le_s (le_s (le_s (le_s (le_s (le_n (le_s (le_s (le_n (le_n (le_n le_0)))))))))))) ?_
          exact ih.2.2.2.2.2.2.2 _ _ (by omega) (by omega) (by omega)
        · intro h8
          refine n_iload_n c_154_55 rfl (n_iconst c_154_56 ?_)
          refine n_if2_le c_154_57 (by omega) (by omega) ?_ ?_
          · intro h9
            exfalso; omega
          · intro h10
            refine n_lload c_154_60 rfl (n_iload c_154_62 rfl (n_i_lshr c_154_64 rfl ?_))
            have f11 := n_lshr_r s x9
            generalize gz12 : (n_lshr s x9) = z12 at f11 ⊢
            refine n_lconst (n := 1) c_154_65 rfl (n_i_land c_154_66 rfl ?_)
            have f13 := n_land_r z12 1
            generalize gz14 : (n_land z12 1) = z14 at f13 ⊢
            refine n_lconst (n := 0) c_154_67 rfl (n_lcmp c_154_68 ?_)
            refine n_lif_ne c_154_69 (by omega) (by omega) ?_ ?_
            · intro h15
              refine n_fg (le_s (le_s (le_s (le_s (le_s (le_s (le_n (le_s (le_s (le_s (le_n (le_n le_0)))))))))))) ?_
              exact ih.2.2.1 _ _ _ (by omega) (by omega) (by omega) (by omega)
            · intro h16
              refine n_goto c_154_72 (n_fg (le_s (le_s (le_s (le_s (le_s (le_s (le_n (le_s (le_s (le_s (le_n (le_n le_0)))))))))))) ?_)
              exact ih.2.2.2.2.2.2.1 _ _ _ (by omega) (by omega) (by omega) (by omega)
    · intro x7 x8 x9 k7 k8 k9 hnn
      refine n_iconst c_154_75 (n_istore (L2 := [some (2, 112), some (0, m), some (2, 127), some (0, f), some (0, 1), some (1, s), none, some (0, x7), some (0, x8), some (0, x9), some (0, 0), none]) c_154_76 rfl rfl (n_fg (le_s (le_s (le_s (le_s (le_s (le_s (le_n (le_s (le_s (le_s (le_s (le_n le_0)))))))))))) ?_))
      exact ih.2.2.2.1 _ _ _ _ (by omega) (by omega) (by omega) (by omega) (by omega)
    · intro x7 x8 x9 x10 k7 k8 k9 k10 hnn
      refine n_iload c_154_78 rfl (n_iload_n c_154_80 rfl (n_iconst c_154_81 ?_))
      refine n_if2_le c_154_82 (by omega) (by omega) ?_ ?_
      · intro h1
        refine n_iconst c_154_90 ?_
        refine n_if2_ge c_154_91 (by omega) (by omega) ?_ ?_
        · intro h2
          refine n_fg (le_s (le_s (le_s (le_s (le_s (le_s (le_n (le_s (le_s (le_s (le_n (le_n le_0)))))))))))) ?_
          exact ih.2.2.2.2.2.2.1 _ _ _ (by omega) (by omega) (by omega) (by omega)
        · intro h3
          refine n_iload_n c_154_94 rfl (n_iconst c_154_95 ?_)
          refine n_if2_le c_154_96 (by omega) (by omega) ?_ ?_
          · intro h4
            refine n_fg (le_s (le_s (le_s (le_s (le_s (le_s (le_n (le_s (le_s (le_s (le_s (le_n le_0)))))))))))) ?_
            exact ih.2.2.2.2.1 _ _ _ _ (by omega) (by omega) (by omega) (by omega) (by omega)
          · intro h5
            exfalso; omega
      · intro h6
        refine n_iload c_154_85 rfl (n_goto c_154_87 ?_)
        refine n_if2_ge c_154_91 (by omega) (by omega) ?_ ?_
        · intro h7
          refine n_fg (le_s (le_s (le_s (le_s (le_s (le_s (le_n (le_s (le_s (le_s (le_n (le_n le_0)))))))))))) ?_
          exact ih.2.2.2.2.2.2.1 _ _ _ (by omega) (by omega) (by omega) (by omega)
        · intro h8
          refine n_iload_n c_154_94 rfl (n_iconst c_154_95 ?_)
          refine n_if2_le c_154_96 (by omega) (by omega) ?_ ?_
          · intro h9
            exfalso; omega
          · intro h10
            refine n_lload c_154_99 rfl (n_iload c_154_101 rfl (n_i_lshr c_154_103 rfl ?_))
            have f11 := n_lshr_r s x10
            generalize gz12 : (n_lshr s x10) = z12 at f11 ⊢
            refine n_lconst (n := 1) c_154_104 rfl (n_i_land c_154_105 rfl ?_)
            have f13 := n_land_r z12 1
            generalize gz14 : (n_land z12 1) = z14 at f13 ⊢
            refine n_lconst (n := 0) c_154_106 rfl (n_lcmp c_154_107 ?_)
            refine n_lif_ne c_154_108 (by omega) (by omega) ?_ ?_
            · intro h15
              refine n_fg (le_s (le_s (le_s (le_s (le_s (le_s (le_n (le_s (le_s (le_s (le_s (le_n le_0)))))))))))) ?_
              exact ih.2.2.2.2.1 _ _ _ _ (by omega) (by omega) (by omega) (by omega) (by omega)
            · intro h16
              refine n_goto c_154_111 (n_fg (le_s (le_s (le_s (le_s (le_s (le_s (le_n (le_s (le_s (le_s (le_s (le_n le_0)))))))))))) ?_)
              exact ih.2.2.2.2.2.1 _ _ _ _ (by omega) (by omega) (by omega) (by omega) (by omega)
    · intro x7 x8 x9 x10 k7 k8 k9 k10 hnn
      refine n_aload_n c_154_114 rfl (n_iload_n c_154_115 rfl (n_aload_n c_154_116 rfl (n_iload_n c_154_117 rfl (n_iload c_154_118 rfl (n_iload c_154_120 rfl (n_iload c_154_122 rfl (n_iload c_154_124 rfl (n_v7I c_154_126 rfl sc_112.n rfl rfl rfl rfl (imageH1_3 (m := m) (f := f) (x := x8) (y := x9) (z0 := x10) hS hdm (by omega) (by omega) (by omega) (by omega) (by omega)) ?_))))))))
      intro z1 M2 hP3
      obtain ⟨eM, f3⟩ := hP3
      subst eM
      refine n_istore (L2 := [some (2, 112), some (0, m), some (2, 127), some (0, f), some (0, 1), some (1, s), none, some (0, x7), some (0, x8), some (0, x9), some (0, x10), some (0, z1)]) c_154_129 rfl rfl (n_lload c_154_131 rfl (n_iload c_154_133 rfl (n_i_lshr c_154_135 rfl ?_)))
      have f4 := n_lshr_r s z1
      generalize gz5 : (n_lshr s z1) = z5 at f4 ⊢
      refine n_lconst (n := 1) c_154_136 rfl (n_i_land c_154_137 rfl ?_)
      have f6 := n_land_r z5 1
      generalize gz7 : (n_land z5 1) = z7 at f6 ⊢
      refine n_lconst (n := 0) c_154_138 rfl (n_lcmp c_154_139 ?_)
      refine n_lif_ne c_154_140 (by omega) (by omega) ?_ ?_
      · intro h8
        refine n_fg (le_s (le_s (le_s (le_s (le_s (le_s (le_n (le_s (le_s (le_s (le_s (le_n le_0)))))))))))) ?_
        exact ih.2.2.2.2.2.1 _ _ _ _ (by omega) (by omega) (by omega) (by omega) (by omega)
      · intro h9
        refine n_iload c_154_143 rfl ?_
        exact n_rI c_154_145 rfl ⟨rfl, by omega, by first | omega | (refine Or.inr ?_; subst_vars; assumption)⟩
    · intro x7 x8 x9 x10 k7 k8 k9 k10 hnn
      refine n_iinc (L2 := [some (2, 112), some (0, m), some (2, 127), some (0, f), some (0, 1), some (1, s), none, some (0, x7), some (0, x8), some (0, x9), some (0, (x10 + 1)), none]) c_154_146 rfl rfl rfl (n_goto c_154_149 (n_fg (le_s (le_s (le_s (le_s (le_s (le_s (le_n (le_s (le_s (le_s (le_s (le_n le_0)))))))))))) ?_))
      exact ih.2.2.2.1 _ _ _ _ (by omega) (by omega) (by omega) (by omega) (by omega)
    · intro x7 x8 x9 k7 k8 k9 hnn
      refine n_iinc (L2 := [some (2, 112), some (0, m), some (2, 127), some (0, f), some (0, 1), some (1, s), none, some (0, x7), some (0, x8), some (0, (x9 + 1)), none, none]) c_154_152 rfl rfl rfl (n_goto c_154_155 (n_fg (le_s (le_s (le_s (le_s (le_s (le_s (le_n (le_s (le_s (le_s (le_n (le_n le_0)))))))))))) ?_))
      exact ih.2.1 _ _ _ (by omega) (by omega) (by omega) (by omega)
    · intro x7 x8 k7 k8 hnn
      refine n_iinc (L2 := [some (2, 112), some (0, m), some (2, 127), some (0, f), some (0, 1), some (1, s), none, some (0, x7), some (0, (x8 + 1)), none, none, none]) c_154_158 rfl rfl rfl (n_goto c_154_161 (n_fg (le_s (le_s (le_s (le_s (le_s (le_s (le_n (le_s (le_s (le_n (le_n (le_n le_0)))))))))))) ?_))
      exact ih.1 _ _ (by omega) (by omega) (by omega)
set_option maxHeartbeats 4000000 in
theorem escapesH1_3 {xs : List Int32} {e : Nat} {ac : Int} {M0 M : nM} {m f s : Int} (hS : Sf 3 ac M0 M) (hdm : M0 112 0 = 3) (hm : 0 ≤ m ∧ m ≤ 3) (hf : 0 ≤ f ∧ f ≤ 0) (hs : -9223372036854775808 ≤ s ∧ s ≤ 9223372036854775807) : nW xs (e + 2) 154 0 [some (2, 112), some (0, m), some (2, 127), some (0, f), some (0, 1), some (1, s), none, none, none, none, none, none] [] M (nPI fun z M1 => M = M1 ∧ (-1 ≤ z ∧ z ≤ 26) ∧ (z = -1 ∨ n_land (n_lshr s z) 1 = 0)) := by
  have hd : (3 : Int) = 2 ∨ (3 : Int) = 3 := by decide
  have hac := hS.2.2.2.2
  refine n_aload_n c_154_0 rfl (n_getV (bi := 0) c_154_1 sc_112.n rfl rfl rfl (t_dm hS hdm) ?_)
  intro z1 ez1 f2
  obtain rfl : z1 = 3 := by omega
  refine n_iload c_154_4 rfl (n_s2I c_154_6 rfl rfl rfl rfl (mpower1_3  hS ) ?_)
  intro z3 M4 hP5
  obtain ⟨eM, f5⟩ := hP5
  subst eM
  obtain rfl : z3 = 3 := by omega
  refine n_istore (L2 := [some (2, 112), some (0, m), some (2, 127), some (0, f), some (0, 1), some (1, s), none, some (0, 3), none, none, none, none]) c_154_9 rfl rfl (n_iconst c_154_11 (n_istore (L2 := [some (2, 112), some (0, m), some (2, 127), some (0, f), some (0, 1), some (1, s), none, some (0, 3), some (0, 0), none, none, none]) c_154_12 rfl rfl (n_fg (le_s (le_s (le_s (le_s (le_s (le_s (le_n (le_s (le_s (le_n (le_n (le_n le_0)))))))))))) ?_)))
  exact (escapesH1_3_c hS hdm hm hf hs 930).1 _ _ (by omega) (by omega) (by omega)

set_option maxHeartbeats 4000000 in
theorem escapesH2_3_c {xs : List Int32} {e : Nat} {ac : Int} {M0 M : nM} {m f s : Int} (hS : Sf 3 ac M0 M) (hdm : M0 112 0 = 3) (hm : 0 ≤ m ∧ m ≤ 3) (hf : 0 ≤ f ∧ f ≤ 0) (hs : -9223372036854775808 ≤ s ∧ s ≤ 9223372036854775807) : ∀ nn : Nat, (∀ (x7 x8 : Int), (9 ≤ x7 ∧ x7 ≤ 9) → (0 ≤ x8 ∧ x8 ≤ 9) → (9 - x8) * 398 + 398 < (nn : Int) → nW xs (e + 2) 154 14 [some (2, 112), some (0, m), some (2, 127), some (0, f), some (0, 2), some (1, s), none, some (0, x7), some (0, x8), none, none, none] [] M (nPI fun z M1 => M = M1 ∧ (-1 ≤ z ∧ z ≤ 26) ∧ (z = -1 ∨ n_land (n_lshr s z) 1 = 0))) ∧ (∀ (x7 x8 x9 : Int), (9 ≤ x7 ∧ x7 ≤ 9) → (0 ≤ x8 ∧ x8 ≤ 8) → (0 ≤ x9 ∧ x9 ≤ 9) → (9 - x8) * 398 + (9 - x9) * 36 + 37 < (nn : Int) → nW xs (e + 2) 154 39 [some (2, 112), some (0, m), some (2, 127), some (0, f), some (0, 2), some (1, s), none, some (0, x7), some (0, x8), some (0, x9), none, none] [] M (nPI fun z M1 => M = M1 ∧ (-1 ≤ z ∧ z ≤ 26) ∧ (z = -1 ∨ n_land (n_lshr s z) 1 = 0))) ∧ (∀ (x7 x8 x9 : Int), (9 ≤ x7 ∧ x7 ≤ 9) → (0 ≤ x8 ∧ x8 ≤ 8) → (0 ≤ x9 ∧ x9 ≤ 8) → (9 - x8) * 398 + (9 - x9) * 36 + 36 < (nn : Int) → nW xs (e + 2) 154 75 [some (2, 112), some (0, m), some (2, 127), some (0, f), some (0, 2), some (1, s), none, some (0, x7), some (0, x8), some (0, x9), none, none] [] M (nPI fun z M1 => M = M1 ∧ (-1 ≤ z ∧ z ≤ 26) ∧ (z = -1 ∨ n_land (n_lshr s z) 1 = 0))) ∧ (∀ (x7 x8 x9 x10 : Int), (9 ≤ x7 ∧ x7 ≤ 9) → (0 ≤ x8 ∧ x8 ≤ 8) → (0 ≤ x9 ∧ x9 ≤ 8) → (0 ≤ x10 ∧ x10 ≤ 9) → (9 - x8) * 398 + (9 - x9) * 36 + (9 - x10) * 3 + 5 < (nn : Int) → nW xs (e + 2) 154 78 [some (2, 112), some (0, m), some (2, 127), some (0, f), some (0, 2), some (1, s), none, some (0, x7), some (0, x8), some (0, x9), some (0, x10), none] [] M (nPI fun z M1 => M = M1 ∧ (-1 ≤ z ∧ z ≤ 26) ∧ (z = -1 ∨ n_land (n_lshr s z) 1 = 0))) ∧ (∀ (x7 x8 x9 x10 : Int), (9 ≤ x7 ∧ x7 ≤ 9) → (0 ≤ x8 ∧ x8 ≤ 8) → (0 ≤ x9 ∧ x9 ≤ 8) → (0 ≤ x10 ∧ x10 ≤ 8) → (9 - x8) * 398 + (9 - x9) * 36 + (9 - x10) * 3 + 4 < (nn : Int) → nW xs (e + 2) 154 114 [some (2, 112), some (0, m), some (2, 127), some (0, f), some (0, 2), some (1, s), none, some (0, x7), some (0, x8), some (0, x9), some (0, x10), none] [] M (nPI fun z M1 => M = M1 ∧ (-1 ≤ z ∧ z ≤ 26) ∧ (z = -1 ∨ n_land (n_lshr s z) 1 = 0))) ∧ (∀ (x7 x8 x9 x10 : Int), (9 ≤ x7 ∧ x7 ≤ 9) → (0 ≤ x8 ∧ x8 ≤ 8) → (0 ≤ x9 ∧ x9 ≤ 8) → (0 ≤ x10 ∧ x10 ≤ 8) → (9 - x8) * 398 + (9 - x9) * 36 + (9 - x10) * 3 + 3 < (nn : Int) → nW xs (e + 2) 154 146 [some (2, 112), some (0, m), some (2, 127), some (0, f), some (0, 2), some (1, s), none, some (0, x7), some (0, x8), some (0, x9), some (0, x10), none] [] M (nPI fun z M1 => M = M1 ∧ (-1 ≤ z ∧ z ≤ 26) ∧ (z = -1 ∨ n_land (n_lshr s z) 1 = 0))) ∧ (∀ (x7 x8 x9 : Int), (9 ≤ x7 ∧ x7 ≤ 9) → (0 ≤ x8 ∧ x8 ≤ 8) → (0 ≤ x9 ∧ x9 ≤ 8) → (9 - x8) * 398 + (9 - x9) * 36 + 2 < (nn : Int) → nW xs (e + 2) 154 152 [some (2, 112), some (0, m), some (2, 127), some (0, f), some (0, 2), some (1, s), none, some (0, x7), some (0, x8), some (0, x9), none, none] [] M (nPI fun z M1 => M = M1 ∧ (-1 ≤ z ∧ z ≤ 26) ∧ (z = -1 ∨ n_land (n_lshr s z) 1 = 0))) ∧ (∀ (x7 x8 : Int), (9 ≤ x7 ∧ x7 ≤ 9) → (0 ≤ x8 ∧ x8 ≤ 8) → (9 - x8) * 398 + 1 < (nn : Int) → nW xs (e + 2) 154 158 [some (2, 112), some (0, m), some (2, 127), some (0, f), some (0, 2), some (1, s), none, some (0, x7), some (0, x8), none, none, none] [] M (nPI fun z M1 => M = M1 ∧ (-1 ≤ z ∧ z ≤ 26) ∧ (z = -1 ∨ n_land (n_lshr s z) 1 = 0))) := by
  have hd : (3 : Int) = 2 ∨ (3 : Int) = 3 := by decide
  have hac := hS.2.2.2.2
  intro nn
  induction nn with
  | zero => refine ⟨?_, ?_, ?_, ?_, ?_, ?_, ?_, ?_⟩ <;> (intros; omega)
  | succ nn ih =>
    refine ⟨?_, ?_, ?_, ?_, ?_, ?_, ?_, ?_⟩
    · intro x7 x8 k7 k8 hnn
      refine n_iload c_154_14 rfl (n_iload c_154_16 rfl ?_)
      refine n_if2_ge c_154_18 (by omega) (by omega) ?_ ?_
      · intro h1
        refine n_iconst c_154_164 ?_
        exact n_rI c_154_165 rfl ⟨rfl, by omega, by first | omega | (refine Or.inr ?_; subst_vars; assumption)⟩
      · intro h2
        refine n_lload c_154_21 rfl (n_iload c_154_23 rfl (n_i_lshr c_154_25 rfl ?_))
        have f3 := n_lshr_r s x8
        generalize gz4 : (n_lshr s x8) = z4 at f3 ⊢
        refine n_lconst (n := 1) c_154_26 rfl (n_i_land c_154_27 rfl ?_)
        have f5 := n_land_r z4 1
        generalize gz6 : (n_land z4 1) = z6 at f5 ⊢
        refine n_lconst (n := 0) c_154_28 rfl (n_lcmp c_154_29 ?_)
        refine n_lif_ne c_154_30 (by omega) (by omega) ?_ ?_
        · intro h7
          refine n_iconst c_154_36 (n_istore (L2 := [some (2, 112), some (0, m), some (2, 127), some (0, f), some (0, 2), some (1, s), none, some (0, x7), some (0, x8), some (0, 0), none, none]) c_154_37 rfl rfl (n_fg (le_s (le_s (le_s (le_s (le_s (le_s (le_n (le_s (le_s (le_s (le_n (le_n le_0)))))))))))) ?_))
          exact ih.2.1 _ _ _ (by omega) (by omega) (by omega) (by omega)
        · intro h8
          refine n_goto c_154_33 (n_fg (le_s (le_s (le_s (le_s (le_s (le_s (le_n (le_s (le_s (le_n (le_n (le_n le_0)))))))))))) ?_)
          exact ih.2.2.2.2.2.2.2 _ _ (by omega) (by omega) (by omega)
    · intro x7 x8 x9 k7 k8 k9 hnn
      refine n_iload c_154_39 rfl (n_iload_n c_154_41 rfl (n_iconst c_154_42 ?_))
      refine n_if2_le c_154_43 (by omega) (by omega) ?_ ?_
      · intro h1
        refine n_iconst c_154_51 ?_
        refine n_if2_ge c_154_52 (by omega) (by omega) ?_ ?_
        · intro h2
          refine n_fg (le_s (le_s (le_s (le_s (le_s (le_s (le_n (le_s (le_s (le_n (le_n (le_n le_0)))))))))))) ?_
          exact ih.2.2.2.2.2.2.2 _ _ (by omega) (by omega) (by omega)
        · intro h3
          refine n_iload_n c_154_55 rfl (n_iconst c_154_56 ?_)
          refine n_if2_le c_154_57 (by omega) (by omega) ?_ ?_
          · intro h4
            refine n_fg (le_s (le_s (le_s (le_s (le_s (le_s (le_n (le_s (le_s (le_s (le_n (le_n le_0)))))))))))) ?_
            exact ih.2.2.1 _ _ _ (by omega) (by omega) (by omega) (by omega)
          · intro h5
            exfalso; omega
      · intro h6
        refine n_iload c_154_46 rfl (n_goto c_154_48 ?_)
        refine n_if2_ge c_154_52 (by omega) (by omega) ?_ ?_
        · intro h7
          refine n_fg (le_s (le_s (le_s (le_s (le_s (le_s (le_n (le_s (le_s (le_n (le_n (le_n le_0)))))))))))) ?_
          exact ih.2.2.2.2.2.2.2 _ _ (by omega) (by omega) (by omega)
        · intro h8
          refine n_iload_n c_154_55 rfl (n_iconst c_154_56 ?_)
          refine n_if2_le c_154_57 (by omega) (by omega) ?_ ?_
          · intro h9
            exfalso; omega
          · intro h10
            refine n_lload c_154_60 rfl (n_iload c_154_62 rfl (n_i_lshr c_154_64 rfl ?_))
            have f11 := n_lshr_r s x9
            generalize gz12 : (n_lshr s x9) = z12 at f11 ⊢
            refine n_lconst (n := 1) c_154_65 rfl (n_i_land c_154_66 rfl ?_)
            have f13 := n_land_r z12 1
            generalize gz14 : (n_land z12 1) = z14 at f13 ⊢
            refine n_lconst (n := 0) c_154_67 rfl (n_lcmp c_154_68 ?_)
            refine n_lif_ne c_154_69 (by omega) (by omega) ?_ ?_
            · intro h15
              refine n_fg (le_s (le_s (le_s (le_s (le_s (le_s (le_n (le_s (le_s (le_s (le_n (le_n le_0)))))))))))) ?_
              exact ih.2.2.1 _ _ _ (by omega) (by omega) (by omega) (by omega)
            · intro h16
              refine n_goto c_154_72 (n_fg (le_s (le_s (le_s (le_s (le_s (le_s (le_n (le_s (le_s (le_s (le_n (le_n le_0)))))))))))) ?_)
              exact ih.2.2.2.2.2.2.1 _ _ _ (by omega) (by omega) (by omega) (by omega)
    · intro x7 x8 x9 k7 k8 k9 hnn
      refine n_iconst c_154_75 (n_istore (L2 := [some (2, 112), some (0, m), some (2, 127), some (0, f), some (0, 2), some (1, s), none, some (0, x7), some (0, x8), some (0, x9), some (0, 0), none]) c_154_76 rfl rfl (n_fg (le_s (le_s (le_s (le_s (le_s (le_s (le_n (le_s (le_s (le_s (le_s (le_n le_0)))))))))))) ?_))
      exact ih.2.2.2.1 _ _ _ _ (by omega) (by omega) (by omega) (by omega) (by omega)
    · intro x7 x8 x9 x10 k7 k8 k9 k10 hnn
      refine n_iload c_154_78 rfl (n_iload_n c_154_80 rfl (n_iconst c_154_81 ?_))
      refine n_if2_le c_154_82 (by omega) (by omega) ?_ ?_
      · intro h1
        refine n_iconst c_154_90 ?_
        refine n_if2_ge c_154_91 (by omega) (by omega) ?_ ?_
        · intro h2
          refine n_fg (le_s (le_s (le_s (le_s (le_s (le_s (le_n (le_s (le_s (le_s (le_n (le_n le_0)))))))))))) ?_
          exact ih.2.2.2.2.2.2.1 _ _ _ (by omega) (by omega) (by omega) (by omega)
        · intro h3
          refine n_iload_n c_154_94 rfl (n_iconst c_154_95 ?_)
          refine n_if2_le c_154_96 (by omega) (by omega) ?_ ?_
          · intro h4
            refine n_fg (le_s (le_s (le_s (le_s (le_s (le_s (le_n (le_s (le_s (le_s (le_s (le_n le_0)))))))))))) ?_
            exact ih.2.2.2.2.1 _ _ _ _ (by omega) (by omega) (by omega) (by omega) (by omega)
          · intro h5
            exfalso; omega
      · intro h6
        refine n_iload c_154_85 rfl (n_goto c_154_87 ?_)
        refine n_if2_ge c_154_91 (by omega) (by omega) ?_ ?_
        · intro h7
          refine n_fg (le_s (le_s (le_s (le_s (le_s (le_s (le_n (le_s (le_s (le_s (le_n (le_n le_0)))))))))))) ?_
          exact ih.2.2.2.2.2.2.1 _ _ _ (by omega) (by omega) (by omega) (by omega)
        · intro h8
          refine n_iload_n c_154_94 rfl (n_iconst c_154_95 ?_)
          refine n_if2_le c_154_96 (by omega) (by omega) ?_ ?_
          · intro h9
            exfalso; omega
          · intro h10
            refine n_lload c_154_99 rfl (n_iload c_154_101 rfl (n_i_lshr c_154_103 rfl ?_))
            have f11 := n_lshr_r s x10
            generalize gz12 : (n_lshr s x10) = z12 at f11 ⊢
            refine n_lconst (n := 1) c_154_104 rfl (n_i_land c_154_105 rfl ?_)
            have f13 := n_land_r z12 1
            generalize gz14 : (n_land z12 1) = z14 at f13 ⊢
            refine n_lconst (n := 0) c_154_106 rfl (n_lcmp c_154_107 ?_)
            refine n_lif_ne c_154_108 (by omega) (by omega) ?_ ?_
            · intro h15
              refine n_fg (le_s (le_s (le_s (le_s (le_s (le_s (le_n (le_s (le_s (le_s (le_s (le_n le_0)))))))))))) ?_
              exact ih.2.2.2.2.1 _ _ _ _ (by omega) (by omega) (by omega) (by omega) (by omega)
            · intro h16
              refine n_goto c_154_111 (n_fg (le_s (le_s (le_s (le_s (le_s (le_s (le_n (le_s (le_s (le_s (le_s (le_n le_0)))))))))))) ?_)
              exact ih.2.2.2.2.2.1 _ _ _ _ (by omega) (by omega) (by omega) (by omega) (by omega)
    · intro x7 x8 x9 x10 k7 k8 k9 k10 hnn
      refine n_aload_n c_154_114 rfl (n_iload_n c_154_115 rfl (n_aload_n c_154_116 rfl (n_iload_n c_154_117 rfl (n_iload c_154_118 rfl (n_iload c_154_120 rfl (n_iload c_154_122 rfl (n_iload c_154_124 rfl (n_v7I c_154_126 rfl sc_112.n rfl rfl rfl rfl (imageH2_3 (m := m) (f := f) (x := x8) (y := x9) (z0 := x10) hS hdm (by omega) (by omega) (by omega) (by omega) (by omega)) ?_))))))))
      intro z1 M2 hP3
      obtain ⟨eM, f3⟩ := hP3
      subst eM
      refine n_istore (L2 := [some (2, 112), some (0, m), some (2, 127), some (0, f), some (0, 2), some (1, s), none, some (0, x7), some (0, x8), some (0, x9), some (0, x10), some (0, z1)]) c_154_129 rfl rfl (n_lload c_154_131 rfl (n_iload c_154_133 rfl (n_i_lshr c_154_135 rfl ?_)))
      have f4 := n_lshr_r s z1
      generalize gz5 : (n_lshr s z1) = z5 at f4 ⊢
      refine n_lconst (n := 1) c_154_136 rfl (n_i_land c_154_137 rfl ?_)
      have f6 := n_land_r z5 1
      generalize gz7 : (n_land z5 1) = z7 at f6 ⊢
      refine n_lconst (n := 0) c_154_138 rfl (n_lcmp c_154_139 ?_)
      refine n_lif_ne c_154_140 (by omega) (by omega) ?_ ?_
      · intro h8
        refine n_fg (le_s (le_s (le_s (le_s (le_s (le_s (le_n (le_s (le_s (le_s (le_s (le_n le_0)))))))))))) ?_
        exact ih.2.2.2.2.2.1 _ _ _ _ (by omega) (by omega) (by omega) (by omega) (by omega)
      · intro h9
        refine n_iload c_154_143 rfl ?_
        exact n_rI c_154_145 rfl ⟨rfl, by omega, by first | omega | (refine Or.inr ?_; subst_vars; assumption)⟩
    · intro x7 x8 x9 x10 k7 k8 k9 k10 hnn
      refine n_iinc (L2 := [some (2, 112), some (0, m), some (2, 127), some (0, f), some (0, 2), some (1, s), none, some (0, x7), some (0, x8), some (0, x9), some (0, (x10 + 1)), none]) c_154_146 rfl rfl rfl (n_goto c_154_149 (n_fg (le_s (le_s (le_s (le_s (le_s (le_s (le_n (le_s (le_s (le_s (le_s (le_n le_0)))))))))))) ?_))
      exact ih.2.2.2.1 _ _ _ _ (by omega) (by omega) (by omega) (by omega) (by omega)
    · intro x7 x8 x9 k7 k8 k9 hnn
      refine n_iinc (L2 := [some (2, 112), some (0, m), some (2, 127), some (0, f), some (0, 2), some (1, s), none, some (0, x7), some (0, x8), some (0, (x9 + 1)), none, none]) c_154_152 rfl rfl rfl (n_goto c_154_155 (n_fg (le_s (le_s (le_s (le_s (le_s (le_s (le_n (le_s (le_s (le_s (le_n (le_n le_0)))))))))))) ?_))
      exact ih.2.1 _ _ _ (by omega) (by omega) (by omega) (by omega)
    · intro x7 x8 k7 k8 hnn
      refine n_iinc (L2 := [some (2, 112), some (0, m), some (2, 127), some (0, f), some (0, 2), some (1, s), none, some (0, x7), some (0, (x8 + 1)), none, none, none]) c_154_158 rfl rfl rfl (n_goto c_154_161 (n_fg (le_s (le_s (le_s (le_s (le_s (le_s (le_n (le_s (le_s (le_n (le_n (le_n le_0)))))))))))) ?_))
      exact ih.1 _ _ (by omega) (by omega) (by omega)
set_option maxHeartbeats 4000000 in
theorem escapesH2_3 {xs : List Int32} {e : Nat} {ac : Int} {M0 M : nM} {m f s : Int} (hS : Sf 3 ac M0 M) (hdm : M0 112 0 = 3) (hm : 0 ≤ m ∧ m ≤ 3) (hf : 0 ≤ f ∧ f ≤ 0) (hs : -9223372036854775808 ≤ s ∧ s ≤ 9223372036854775807) : nW xs (e + 2) 154 0 [some (2, 112), some (0, m), some (2, 127), some (0, f), some (0, 2), some (1, s), none, none, none, none, none, none] [] M (nPI fun z M1 => M = M1 ∧ (-1 ≤ z ∧ z ≤ 26) ∧ (z = -1 ∨ n_land (n_lshr s z) 1 = 0)) := by
  have hd : (3 : Int) = 2 ∨ (3 : Int) = 3 := by decide
  have hac := hS.2.2.2.2
  refine n_aload_n c_154_0 rfl (n_getV (bi := 0) c_154_1 sc_112.n rfl rfl rfl (t_dm hS hdm) ?_)
  intro z1 ez1 f2
  obtain rfl : z1 = 3 := by omega
  refine n_iload c_154_4 rfl (n_s2I c_154_6 rfl rfl rfl rfl (mpower2_3  hS ) ?_)
  intro z3 M4 hP5
  obtain ⟨eM, f5⟩ := hP5
  subst eM
  obtain rfl : z3 = 9 := by omega
  refine n_istore (L2 := [some (2, 112), some (0, m), some (2, 127), some (0, f), some (0, 2), some (1, s), none, some (0, 9), none, none, none, none]) c_154_9 rfl rfl (n_iconst c_154_11 (n_istore (L2 := [some (2, 112), some (0, m), some (2, 127), some (0, f), some (0, 2), some (1, s), none, some (0, 9), some (0, 0), none, none, none]) c_154_12 rfl rfl (n_fg (le_s (le_s (le_s (le_s (le_s (le_s (le_n (le_s (le_s (le_n (le_n (le_n le_0)))))))))))) ?_)))
  exact (escapesH2_3_c hS hdm hm hf hs 8766).1 _ _ (by omega) (by omega) (by omega)

set_option maxHeartbeats 4000000 in
theorem escapesH3_3_c {xs : List Int32} {e : Nat} {ac : Int} {M0 M : nM} {m f s : Int} (hS : Sf 3 ac M0 M) (hdm : M0 112 0 = 3) (hm : 0 ≤ m ∧ m ≤ 3) (hf : 0 ≤ f ∧ f ≤ 0) (hs : -9223372036854775808 ≤ s ∧ s ≤ 9223372036854775807) : ∀ nn : Nat, (∀ (x7 x8 : Int), (27 ≤ x7 ∧ x7 ≤ 27) → (0 ≤ x8 ∧ x8 ≤ 27) → (27 - x8) * 2612 + 2612 < (nn : Int) → nW xs (e + 2) 154 14 [some (2, 112), some (0, m), some (2, 127), some (0, f), some (0, 3), some (1, s), none, some (0, x7), some (0, x8), none, none, none] [] M (nPI fun z M1 => M = M1 ∧ (-1 ≤ z ∧ z ≤ 26) ∧ (z = -1 ∨ n_land (n_lshr s z) 1 = 0))) ∧ (∀ (x7 x8 x9 : Int), (27 ≤ x7 ∧ x7 ≤ 27) → (0 ≤ x8 ∧ x8 ≤ 26) → (0 ≤ x9 ∧ x9 ≤ 27) → (27 - x8) * 2612 + (27 - x9) * 90 + 91 < (nn : Int) → nW xs (e + 2) 154 39 [some (2, 112), some (0, m), some (2, 127), some (0, f), some (0, 3), some (1, s), none, some (0, x7), some (0, x8), some (0, x9), none, none] [] M (nPI fun z M1 => M = M1 ∧ (-1 ≤ z ∧ z ≤ 26) ∧ (z = -1 ∨ n_land (n_lshr s z) 1 = 0))) ∧ (∀ (x7 x8 x9 : Int), (27 ≤ x7 ∧ x7 ≤ 27) → (0 ≤ x8 ∧ x8 ≤ 26) → (0 ≤ x9 ∧ x9 ≤ 26) → (27 - x8) * 2612 + (27 - x9) * 90 + 90 < (nn : Int) → nW xs (e + 2) 154 75 [some (2, 112), some (0, m), some (2, 127), some (0, f), some (0, 3), some (1, s), none, some (0, x7), some (0, x8), some (0, x9), none, none] [] M (nPI fun z M1 => M = M1 ∧ (-1 ≤ z ∧ z ≤ 26) ∧ (z = -1 ∨ n_land (n_lshr s z) 1 = 0))) ∧ (∀ (x7 x8 x9 x10 : Int), (27 ≤ x7 ∧ x7 ≤ 27) → (0 ≤ x8 ∧ x8 ≤ 26) → (0 ≤ x9 ∧ x9 ≤ 26) → (0 ≤ x10 ∧ x10 ≤ 27) → (27 - x8) * 2612 + (27 - x9) * 90 + (27 - x10) * 3 + 5 < (nn : Int) → nW xs (e + 2) 154 78 [some (2, 112), some (0, m), some (2, 127), some (0, f), some (0, 3), some (1, s), none, some (0, x7), some (0, x8), some (0, x9), some (0, x10), none] [] M (nPI fun z M1 => M = M1 ∧ (-1 ≤ z ∧ z ≤ 26) ∧ (z = -1 ∨ n_land (n_lshr s z) 1 = 0))) ∧ (∀ (x7 x8 x9 x10 : Int), (27 ≤ x7 ∧ x7 ≤ 27) → (0 ≤ x8 ∧ x8 ≤ 26) → (0 ≤ x9 ∧ x9 ≤ 26) → (0 ≤ x10 ∧ x10 ≤ 26) → (27 - x8) * 2612 + (27 - x9) * 90 + (27 - x10) * 3 + 4 < (nn : Int) → nW xs (e + 2) 154 114 [some (2, 112), some (0, m), some (2, 127), some (0, f), some (0, 3), some (1, s), none, some (0, x7), some (0, x8), some (0, x9), some (0, x10), none] [] M (nPI fun z M1 => M = M1 ∧ (-1 ≤ z ∧ z ≤ 26) ∧ (z = -1 ∨ n_land (n_lshr s z) 1 = 0))) ∧ (∀ (x7 x8 x9 x10 : Int), (27 ≤ x7 ∧ x7 ≤ 27) → (0 ≤ x8 ∧ x8 ≤ 26) → (0 ≤ x9 ∧ x9 ≤ 26) → (0 ≤ x10 ∧ x10 ≤ 26) → (27 - x8) * 2612 + (27 - x9) * 90 + (27 - x10) * 3 + 3 < (nn : Int) → nW xs (e + 2) 154 146 [some (2, 112), some (0, m), some (2, 127), some (0, f), some (0, 3), some (1, s), none, some (0, x7), some (0, x8), some (0, x9), some (0, x10), none] [] M (nPI fun z M1 => M = M1 ∧ (-1 ≤ z ∧ z ≤ 26) ∧ (z = -1 ∨ n_land (n_lshr s z) 1 = 0))) ∧ (∀ (x7 x8 x9 : Int), (27 ≤ x7 ∧ x7 ≤ 27) → (0 ≤ x8 ∧ x8 ≤ 26) → (0 ≤ x9 ∧ x9 ≤ 26) → (27 - x8) * 2612 + (27 - x9) * 90 + 2 < (nn : Int) → nW xs (e + 2) 154 152 [some (2, 112), some (0, m), some (2, 127), some (0, f), some (0, 3), some (1, s), none, some (0, x7), some (0, x8), some (0, x9), none, none] [] M (nPI fun z M1 => M = M1 ∧ (-1 ≤ z ∧ z ≤ 26) ∧ (z = -1 ∨ n_land (n_lshr s z) 1 = 0))) ∧ (∀ (x7 x8 : Int), (27 ≤ x7 ∧ x7 ≤ 27) → (0 ≤ x8 ∧ x8 ≤ 26) → (27 - x8) * 2612 + 1 < (nn : Int) → nW xs (e + 2) 154 158 [some (2, 112), some (0, m), some (2, 127), some (0, f), some (0, 3), some (1, s), none, some (0, x7), some (0, x8), none, none, none] [] M (nPI fun z M1 => M = M1 ∧ (-1 ≤ z ∧ z ≤ 26) ∧ (z = -1 ∨ n_land (n_lshr s z) 1 = 0))) := by
  have hd : (3 : Int) = 2 ∨ (3 : Int) = 3 := by decide
  have hac := hS.2.2.2.2
  intro nn
  induction nn with
  | zero => refine ⟨?_, ?_, ?_, ?_, ?_, ?_, ?_, ?_⟩ <;> (intros; omega)
  | succ nn ih =>
    refine ⟨?_, ?_, ?_, ?_, ?_, ?_, ?_, ?_⟩
    · intro x7 x8 k7 k8 hnn
      refine n_iload c_154_14 rfl (n_iload c_154_16 rfl ?_)
      refine n_if2_ge c_154_18 (by omega) (by omega) ?_ ?_
      · intro h1
        refine n_iconst c_154_164 ?_
        exact n_rI c_154_165 rfl ⟨rfl, by omega, by first | omega | (refine Or.inr ?_; subst_vars; assumption)⟩
      · intro h2
        refine n_lload c_154_21 rfl (n_iload c_154_23 rfl (n_i_lshr c_154_25 rfl ?_))
        have f3 := n_lshr_r s x8
        generalize gz4 : (n_lshr s x8) = z4 at f3 ⊢
        refine n_lconst (n := 1) c_154_26 rfl (n_i_land c_154_27 rfl ?_)
        have f5 := n_land_r z4 1
        generalize gz6 : (n_land z4 1) = z6 at f5 ⊢
        refine n_lconst (n := 0) c_154_28 rfl (n_lcmp c_154_29 ?_)
        refine n_lif_ne c_154_30 (by omega) (by omega) ?_ ?_
        · intro h7
          refine n_iconst c_154_36 (n_istore (L2 := [some (2, 112), some (0, m), some (2, 127), some (0, f), some (0, 3), some (1, s), none, some (0, x7), some (0, x8), some (0, 0), none, none]) c_154_37 rfl rfl (n_fg (le_s (le_s (le_s (le_s (le_s (le_s (le_n (le_s (le_s (le_s (le_n (le_n le_0)))))))))))) ?_))
          exact ih.2.1 _ _ _ (by omega) (by omega) (by omega) (by omega)
        · intro h8
          refine n_goto c_154_33 (n_fg (le_s (le_s (le_s (le_s (le_s (le_s (le_n (le_s (le_s (le_n (le_n (le_n le_0)))))))))))) ?_)
          exact ih.2.2.2.2.2.2.2 _ _ (by omega) (by omega) (by omega)
    · intro x7 x8 x9 k7 k8 k9 hnn
      refine n_iload c_154_39 rfl (n_iload_n c_154_41 rfl (n_iconst c_154_42 ?_))
      refine n_if2_le c_154_43 (by omega) (by omega) ?_ ?_
      · intro h1
        refine n_iconst c_154_51 ?_
        refine n_if2_ge c_154_52 (by omega) (by omega) ?_ ?_
        · intro h2
          refine n_fg (le_s (le_s (le_s (le_s (le_s (le_s (le_n (le_s (le_s (le_n (le_n (le_n le_0)))))))))))) ?_
          exact ih.2.2.2.2.2.2.2 _ _ (by omega) (by omega) (by omega)
        · intro h3
          refine n_iload_n c_154_55 rfl (n_iconst c_154_56 ?_)
          refine n_if2_le c_154_57 (by omega) (by omega) ?_ ?_
          · intro h4
            refine n_fg (le_s (le_s (le_s (le_s (le_s (le_s (le_n (le_s (le_s (le_s (le_n (le_n le_0)))))))))))) ?_
            exact ih.2.2.1 _ _ _ (by omega) (by omega) (by omega) (by omega)
          · intro h5
            exfalso; omega
      · intro h6
        refine n_iload c_154_46 rfl (n_goto c_154_48 ?_)
        refine n_if2_ge c_154_52 (by omega) (by omega) ?_ ?_
        · intro h7
          refine n_fg (le_s (le_s (le_s (le_s (le_s (le_s (le_n (le_s (le_s (le_n (le_n (le_n le_0)))))))))))) ?_
          exact ih.2.2.2.2.2.2.2 _ _ (by omega) (by omega) (by omega)
        · intro h8
          refine n_iload_n c_154_55 rfl (n_iconst c_154_56 ?_)
          refine n_if2_le c_154_57 (by omega) (by omega) ?_ ?_
          · intro h9
            exfalso; omega
          · intro h10
            refine n_lload c_154_60 rfl (n_iload c_154_62 rfl (n_i_lshr c_154_64 rfl ?_))
            have f11 := n_lshr_r s x9
            generalize gz12 : (n_lshr s x9) = z12 at f11 ⊢
            refine n_lconst (n := 1) c_154_65 rfl (n_i_land c_154_66 rfl ?_)
            have f13 := n_land_r z12 1
            generalize gz14 : (n_land z12 1) = z14 at f13 ⊢
            refine n_lconst (n := 0) c_154_67 rfl (n_lcmp c_154_68 ?_)
            refine n_lif_ne c_154_69 (by omega) (by omega) ?_ ?_
            · intro h15
              refine n_fg (le_s (le_s (le_s (le_s (le_s (le_s (le_n (le_s (le_s (le_s (le_n (le_n le_0)))))))))))) ?_
              exact ih.2.2.1 _ _ _ (by omega) (by omega) (by omega) (by omega)
            · intro h16
              refine n_goto c_154_72 (n_fg (le_s (le_s (le_s (le_s (le_s (le_s (le_n (le_s (le_s (le_s (le_n (le_n le_0)))))))))))) ?_)
              exact ih.2.2.2.2.2.2.1 _ _ _ (by omega) (by omega) (by omega) (by omega)
    · intro x7 x8 x9 k7 k8 k9 hnn
      refine n_iconst c_154_75 (n_istore (L2 := [some (2, 112), some (0, m), some (2, 127), some (0, f), some (0, 3), some (1, s), none, some (0, x7), some (0, x8), some (0, x9), some (0, 0), none]) c_154_76 rfl rfl (n_fg (le_s (le_s (le_s (le_s (le_s (le_s (le_n (le_s (le_s (le_s (le_s (le_n le_0)))))))))))) ?_))
      exact ih.2.2.2.1 _ _ _ _ (by omega) (by omega) (by omega) (by omega) (by omega)
    · intro x7 x8 x9 x10 k7 k8 k9 k10 hnn
      refine n_iload c_154_78 rfl (n_iload_n c_154_80 rfl (n_iconst c_154_81 ?_))
      refine n_if2_le c_154_82 (by omega) (by omega) ?_ ?_
      · intro h1
        refine n_iconst c_154_90 ?_
        refine n_if2_ge c_154_91 (by omega) (by omega) ?_ ?_
        · intro h2
          refine n_fg (le_s (le_s (le_s (le_s (le_s (le_s (le_n (le_s (le_s (le_s (le_n (le_n le_0)))))))))))) ?_
          exact ih.2.2.2.2.2.2.1 _ _ _ (by omega) (by omega) (by omega) (by omega)
        · intro h3
          refine n_iload_n c_154_94 rfl (n_iconst c_154_95 ?_)
          refine n_if2_le c_154_96 (by omega) (by omega) ?_ ?_
          · intro h4
            refine n_fg (le_s (le_s (le_s (le_s (le_s (le_s (le_n (le_s (le_s (le_s (le_s (le_n le_0)))))))))))) ?_
            exact ih.2.2.2.2.1 _ _ _ _ (by omega) (by omega) (by omega) (by omega) (by omega)
          · intro h5
            exfalso; omega
      · intro h6
        refine n_iload c_154_85 rfl (n_goto c_154_87 ?_)
        refine n_if2_ge c_154_91 (by omega) (by omega) ?_ ?_
        · intro h7
          refine n_fg (le_s (le_s (le_s (le_s (le_s (le_s (le_n (le_s (le_s (le_s (le_n (le_n le_0)))))))))))) ?_
          exact ih.2.2.2.2.2.2.1 _ _ _ (by omega) (by omega) (by omega) (by omega)
        · intro h8
          refine n_iload_n c_154_94 rfl (n_iconst c_154_95 ?_)
          refine n_if2_le c_154_96 (by omega) (by omega) ?_ ?_
          · intro h9
            exfalso; omega
          · intro h10
            refine n_lload c_154_99 rfl (n_iload c_154_101 rfl (n_i_lshr c_154_103 rfl ?_))
            have f11 := n_lshr_r s x10
            generalize gz12 : (n_lshr s x10) = z12 at f11 ⊢
            refine n_lconst (n := 1) c_154_104 rfl (n_i_land c_154_105 rfl ?_)
            have f13 := n_land_r z12 1
            generalize gz14 : (n_land z12 1) = z14 at f13 ⊢
            refine n_lconst (n := 0) c_154_106 rfl (n_lcmp c_154_107 ?_)
            refine n_lif_ne c_154_108 (by omega) (by omega) ?_ ?_
            · intro h15
              refine n_fg (le_s (le_s (le_s (le_s (le_s (le_s (le_n (le_s (le_s (le_s (le_s (le_n le_0)))))))))))) ?_
              exact ih.2.2.2.2.1 _ _ _ _ (by omega) (by omega) (by omega) (by omega) (by omega)
            · intro h16
              refine n_goto c_154_111 (n_fg (le_s (le_s (le_s (le_s (le_s (le_s (le_n (le_s (le_s (le_s (le_s (le_n le_0)))))))))))) ?_)
              exact ih.2.2.2.2.2.1 _ _ _ _ (by omega) (by omega) (by omega) (by omega) (by omega)
    · intro x7 x8 x9 x10 k7 k8 k9 k10 hnn
      refine n_aload_n c_154_114 rfl (n_iload_n c_154_115 rfl (n_aload_n c_154_116 rfl (n_iload_n c_154_117 rfl (n_iload c_154_118 rfl (n_iload c_154_120 rfl (n_iload c_154_122 rfl (n_iload c_154_124 rfl (n_v7I c_154_126 rfl sc_112.n rfl rfl rfl rfl (imageH3_3 (m := m) (f := f) (x := x8) (y := x9) (z0 := x10) hS hdm (by omega) (by omega) (by omega) (by omega) (by omega)) ?_))))))))
      intro z1 M2 hP3
      obtain ⟨eM, f3⟩ := hP3
      subst eM
      refine n_istore (L2 := [some (2, 112), some (0, m), some (2, 127), some (0, f), some (0, 3), some (1, s), none, some (0, x7), some (0, x8), some (0, x9), some (0, x10), some (0, z1)]) c_154_129 rfl rfl (n_lload c_154_131 rfl (n_iload c_154_133 rfl (n_i_lshr c_154_135 rfl ?_)))
      have f4 := n_lshr_r s z1
      generalize gz5 : (n_lshr s z1) = z5 at f4 ⊢
      refine n_lconst (n := 1) c_154_136 rfl (n_i_land c_154_137 rfl ?_)
      have f6 := n_land_r z5 1
      generalize gz7 : (n_land z5 1) = z7 at f6 ⊢
      refine n_lconst (n := 0) c_154_138 rfl (n_lcmp c_154_139 ?_)
      refine n_lif_ne c_154_140 (by omega) (by omega) ?_ ?_
      · intro h8
        refine n_fg (le_s (le_s (le_s (le_s (le_s (le_s (le_n (le_s (le_s (le_s (le_s (le_n le_0)))))))))))) ?_
        exact ih.2.2.2.2.2.1 _ _ _ _ (by omega) (by omega) (by omega) (by omega) (by omega)
      · intro h9
        refine n_iload c_154_143 rfl ?_
        exact n_rI c_154_145 rfl ⟨rfl, by omega, by first | omega | (refine Or.inr ?_; subst_vars; assumption)⟩
    · intro x7 x8 x9 x10 k7 k8 k9 k10 hnn
      refine n_iinc (L2 := [some (2, 112), some (0, m), some (2, 127), some (0, f), some (0, 3), some (1, s), none, some (0, x7), some (0, x8), some (0, x9), some (0, (x10 + 1)), none]) c_154_146 rfl rfl rfl (n_goto c_154_149 (n_fg (le_s (le_s (le_s (le_s (le_s (le_s (le_n (le_s (le_s (le_s (le_s (le_n le_0)))))))))))) ?_))
      exact ih.2.2.2.1 _ _ _ _ (by omega) (by omega) (by omega) (by omega) (by omega)
    · intro x7 x8 x9 k7 k8 k9 hnn
      refine n_iinc (L2 := [some (2, 112), some (0, m), some (2, 127), some (0, f), some (0, 3), some (1, s), none, some (0, x7), some (0, x8), some (0, (x9 + 1)), none, none]) c_154_152 rfl rfl rfl (n_goto c_154_155 (n_fg (le_s (le_s (le_s (le_s (le_s (le_s (le_n (le_s (le_s (le_s (le_n (le_n le_0)))))))))))) ?_))
      exact ih.2.1 _ _ _ (by omega) (by omega) (by omega) (by omega)
    · intro x7 x8 k7 k8 hnn
      refine n_iinc (L2 := [some (2, 112), some (0, m), some (2, 127), some (0, f), some (0, 3), some (1, s), none, some (0, x7), some (0, (x8 + 1)), none, none, none]) c_154_158 rfl rfl rfl (n_goto c_154_161 (n_fg (le_s (le_s (le_s (le_s (le_s (le_s (le_n (le_s (le_s (le_n (le_n (le_n le_0)))))))))))) ?_))
      exact ih.1 _ _ (by omega) (by omega) (by omega)
set_option maxHeartbeats 4000000 in
theorem escapesH3_3 {xs : List Int32} {e : Nat} {ac : Int} {M0 M : nM} {m f s : Int} (hS : Sf 3 ac M0 M) (hdm : M0 112 0 = 3) (hm : 0 ≤ m ∧ m ≤ 3) (hf : 0 ≤ f ∧ f ≤ 0) (hs : -9223372036854775808 ≤ s ∧ s ≤ 9223372036854775807) : nW xs (e + 2) 154 0 [some (2, 112), some (0, m), some (2, 127), some (0, f), some (0, 3), some (1, s), none, none, none, none, none, none] [] M (nPI fun z M1 => M = M1 ∧ (-1 ≤ z ∧ z ≤ 26) ∧ (z = -1 ∨ n_land (n_lshr s z) 1 = 0)) := by
  have hd : (3 : Int) = 2 ∨ (3 : Int) = 3 := by decide
  have hac := hS.2.2.2.2
  refine n_aload_n c_154_0 rfl (n_getV (bi := 0) c_154_1 sc_112.n rfl rfl rfl (t_dm hS hdm) ?_)
  intro z1 ez1 f2
  obtain rfl : z1 = 3 := by omega
  refine n_iload c_154_4 rfl (n_s2I c_154_6 rfl rfl rfl rfl (mpower3_3  hS ) ?_)
  intro z3 M4 hP5
  obtain ⟨eM, f5⟩ := hP5
  subst eM
  obtain rfl : z3 = 27 := by omega
  refine n_istore (L2 := [some (2, 112), some (0, m), some (2, 127), some (0, f), some (0, 3), some (1, s), none, some (0, 27), none, none, none, none]) c_154_9 rfl rfl (n_iconst c_154_11 (n_istore (L2 := [some (2, 112), some (0, m), some (2, 127), some (0, f), some (0, 3), some (1, s), none, some (0, 27), some (0, 0), none, none, none]) c_154_12 rfl rfl (n_fg (le_s (le_s (le_s (le_s (le_s (le_s (le_n (le_s (le_s (le_n (le_n (le_n le_0)))))))))))) ?_)))
  exact (escapesH3_3_c hS hdm hm hf hs 151506).1 _ _ (by omega) (by omega) (by omega)

set_option maxHeartbeats 4000000 in
theorem escapesH_3 {xs : List Int32} {e : Nat} {ac : Int} {M0 M : nM} {m f k s : Int} (hS : Sf 3 ac M0 M) (hdm : M0 112 0 = 3) (hm : 0 ≤ m ∧ m ≤ 3) (hf : 0 ≤ f ∧ f ≤ 0) (hk : 0 ≤ k ∧ k ≤ 3) (hs : -9223372036854775808 ≤ s ∧ s ≤ 9223372036854775807) : nW xs (e + 2) 154 0 [some (2, 112), some (0, m), some (2, 127), some (0, f), some (0, k), some (1, s), none, none, none, none, none, none] [] M (nPI fun z M1 => M = M1 ∧ (-1 ≤ z ∧ z ≤ 26) ∧ (z = -1 ∨ n_land (n_lshr s z) 1 = 0)) := by
  rcases (show k = 0 ∨ k = 1 ∨ k = 2 ∨ k = 3 by omega) with rfl | rfl | rfl | rfl
  · exact n_post (escapesH0_3 hS hdm (by omega) (by omega) (by omega)) (fun w M1 h => by obtain ⟨z, rfl, h1, h2, h3⟩ := h; exact ⟨z, rfl, h1, by omega, h3⟩)
  · exact n_post (escapesH1_3 hS hdm (by omega) (by omega) (by omega)) (fun w M1 h => by obtain ⟨z, rfl, h1, h2, h3⟩ := h; exact ⟨z, rfl, h1, by omega, h3⟩)
  · exact n_post (escapesH2_3 hS hdm (by omega) (by omega) (by omega)) (fun w M1 h => by obtain ⟨z, rfl, h1, h2, h3⟩ := h; exact ⟨z, rfl, h1, by omega, h3⟩)
  · exact n_post (escapesH3_3 hS hdm (by omega) (by omega) (by omega)) (fun w M1 h => by obtain ⟨z, rfl, h1, h2, h3⟩ := h; exact ⟨z, rfl, h1, by omega, h3⟩)

set_option maxHeartbeats 4000000 in
theorem mkeepsSet_3 {xs : List Int32} {e : Nat} {ac : Int} {M0 M : nM} {a k s : Int} (hS : Sf 3 ac M0 M) (hdm : M0 112 0 = 3) (ha : 0 ≤ a ∧ a ≤ 7) (hk : 0 ≤ k ∧ k ≤ 3) (hs : -9223372036854775808 ≤ s ∧ s ≤ 9223372036854775807) : nW xs (e + 3) 155 0 [some (2, 112), some (0, a), some (0, k), some (1, s), none] [] M (nPI fun z M1 => M = M1 ∧ (0 ≤ z ∧ z ≤ 1)) := by
  have hd : (3 : Int) = 2 ∨ (3 : Int) = 3 := by decide
  have hac := hS.2.2.2.2
  refine n_aload_n c_155_0 rfl (n_aload_n c_155_1 rfl (n_getR c_155_2 sc_112.n rfl rfl rfl r_112_5 (n_iload_n c_155_5 rfl (n_ialoadV c_155_6 sc_116.n rfl rfl rfl (by omega) (t_116 hS (by omega)) ?_))))
  intro z1 ez1 f2
  refine n_aload_n c_155_7 rfl (n_getR c_155_8 sc_112.n rfl rfl rfl r_112_6 (n_bipush c_155_11 rfl (n_iload_n c_155_13 rfl (n_imul c_155_14 rfl (n_iload_n c_155_15 rfl (n_lload_n c_155_16 rfl (n_v5I c_155_17 rfl sc_112.n rfl rfl rfl rfl (escapesT_3 (m := z1) (f := (27 * a)) (k := k) (s := s) hS hdm (by omega) (by omega) (by omega) (by omega)) ?_)))))))
  intro z3 M4 hP5
  obtain ⟨eM, f5, f5p0⟩ := hP5
  subst eM
  refine n_iconst c_155_20 ?_
  refine n_if2_ne c_155_21 (by omega) (by omega) ?_ ?_
  · intro h6
    refine n_iconst c_155_28 ?_
    exact n_rZ c_155_29 rfl (by omega) ⟨rfl, by omega⟩
  · intro h7
    refine n_iconst c_155_24 (n_goto c_155_25 ?_)
    exact n_rZ c_155_29 rfl (by omega) ⟨rfl, by omega⟩

set_option maxHeartbeats 4000000 in
theorem mallKeep_3_c {xs : List Int32} {e : Nat} {ac : Int} {M0 M : nM} {k s : Int} (hS : Sf 3 ac M0 M) (hdm : M0 112 0 = 3) (hk : 0 ≤ k ∧ k ≤ 3) (hs : -9223372036854775808 ≤ s ∧ s ≤ 9223372036854775807) : ∀ nn : Nat, (∀ (x4 : Int), (0 ≤ x4 ∧ x4 ≤ 8) → (8 - x4) * 1 + 1 < (nn : Int) → nW xs (e + 4) 156 3 [some (2, 112), some (0, k), some (1, s), none, some (0, x4)] [] M (nPI fun z M1 => M = M1 ∧ (0 ≤ z ∧ z ≤ 1))) := by
  have hd : (3 : Int) = 2 ∨ (3 : Int) = 3 := by decide
  have hac := hS.2.2.2.2
  intro nn
  induction nn with
  | zero => intros; omega
  | succ nn ih =>
    intro x4 k4 hnn
    refine n_iload c_156_3 rfl (n_aload_n c_156_5 rfl (n_getV (bi := 4) c_156_6 sc_112.n rfl rfl rfl (t_112_4 hS) ?_))
    intro z1 ez1 f2
    refine n_if2_ge c_156_9 (by omega) (by omega) ?_ ?_
    · intro h3
      refine n_iconst c_156_31 ?_
      exact n_rZ c_156_32 rfl (by omega) ⟨rfl, by omega⟩
    · intro h4
      refine n_aload_n c_156_12 rfl (n_iload c_156_13 rfl (n_iload_n c_156_15 rfl (n_lload_n c_156_16 rfl (n_v3I c_156_17 rfl sc_112.n rfl rfl rfl rfl (mkeepsSet_3 (a := x4) (k := k) (s := s) hS hdm (by omega) (by omega) (by omega)) ?_))))
      intro z5 M6 hP7
      obtain ⟨eM, f7⟩ := hP7
      subst eM
      refine n_if0_ne c_156_20 (by omega) ?_ ?_
      · intro h8
        refine n_iinc (L2 := [some (2, 112), some (0, k), some (1, s), none, some (0, (x4 + 1))]) c_156_25 rfl rfl rfl (n_goto c_156_28 (n_fg (le_s (le_s (le_s (le_n (le_s le_0))))) ?_))
        exact ih _ (by omega) (by omega)
      · intro h9
        refine n_iconst c_156_23 ?_
        exact n_rZ c_156_24 rfl (by omega) ⟨rfl, by omega⟩
set_option maxHeartbeats 4000000 in
theorem mallKeep_3 {xs : List Int32} {e : Nat} {ac : Int} {M0 M : nM} {k s : Int} (hS : Sf 3 ac M0 M) (hdm : M0 112 0 = 3) (hk : 0 ≤ k ∧ k ≤ 3) (hs : -9223372036854775808 ≤ s ∧ s ≤ 9223372036854775807) : nW xs (e + 4) 156 0 [some (2, 112), some (0, k), some (1, s), none, none] [] M (nPI fun z M1 => M = M1 ∧ (0 ≤ z ∧ z ≤ 1)) := by
  have hd : (3 : Int) = 2 ∨ (3 : Int) = 3 := by decide
  have hac := hS.2.2.2.2
  refine n_iconst c_156_0 (n_istore (L2 := [some (2, 112), some (0, k), some (1, s), none, some (0, 0)]) c_156_1 rfl rfl (n_fg (le_s (le_s (le_s (le_n (le_s le_0))))) ?_))
  exact (mallKeep_3_c hS hdm hk hs 30) _ (by omega) (by omega)

set_option maxHeartbeats 4000000 in
theorem mkeeps_3_c {xs : List Int32} {e : Nat} {ac : Int} {M0 M : nM} {a l : Int} (hS : Sf 3 ac M0 M) (hdm : M0 112 0 = 3) (ha : -2147483648 ≤ a ∧ a ≤ 2147483647) (hl : -2147483648 ≤ l ∧ l ≤ 2147483647) : ∀ nn : Nat, (1 < (nn : Int) → nW xs (e + 4) 158 24 [none, none, none] [] M (nPI fun z M1 => M = M1 ∧ (-2147483648 ≤ z ∧ z ≤ 2147483647))) := by
  have hd : (3 : Int) = 2 ∨ (3 : Int) = 3 := by decide
  have hac := hS.2.2.2.2
  intro nn
  induction nn with
  | zero => intros; omega
  | succ nn ih =>
    intro hnn
    refine n_iconst c_158_24 (n_goto c_158_25 ?_)
    exact n_rI c_158_53 rfl ⟨rfl, by omega⟩
set_option maxHeartbeats 4000000 in
theorem mkeeps_3 {xs : List Int32} {e : Nat} {ac : Int} {M0 M : nM} {a l : Int} (hS : Sf 3 ac M0 M) (hdm : M0 112 0 = 3) (ha : -2147483648 ≤ a ∧ a ≤ 2147483647) (hl : -2147483648 ≤ l ∧ l ≤ 2147483647) : nW xs (e + 4) 158 0 [some (2, 112), some (0, a), some (0, l)] [] M (nPI fun z M1 => M = M1 ∧ (-2147483648 ≤ z ∧ z ≤ 2147483647)) := by
  have hd : (3 : Int) = 2 ∨ (3 : Int) = 3 := by decide
  have hac := hS.2.2.2.2
  refine n_iload_n c_158_0 rfl ?_
  refine n_if0_lt c_158_1 (by omega) ?_ ?_
  · intro h1
    refine n_fg (le_n (le_n (le_n le_0))) ?_
    exact (mkeeps_3_c hS hdm ha hl 12)   (by omega)
  · intro h2
    refine n_iload_n c_158_4 rfl (n_aload_n c_158_5 rfl (n_getV (bi := 4) c_158_6 sc_112.n rfl rfl rfl (t_112_4 hS) ?_))
    intro z3 ez3 f4
    refine n_if2_ge c_158_9 (by omega) (by omega) ?_ ?_
    · intro h5
      refine n_fg (le_n (le_n (le_n le_0))) ?_
      exact (mkeeps_3_c hS hdm ha hl 12)   (by omega)
    · intro h6
      refine n_iload_n c_158_12 rfl ?_
      refine n_if0_lt c_158_13 (by omega) ?_ ?_
      · intro h7
        refine n_fg (le_n (le_n (le_n le_0))) ?_
        exact (mkeeps_3_c hS hdm ha hl 12)   (by omega)
      · intro h8
        refine n_iload_n c_158_16 rfl (n_aload_n c_158_17 rfl (n_getV (bi := 7) c_158_18 sc_112.n rfl rfl rfl (t_112_7 hS) ?_))
        intro z9 ez9 f10
        refine n_if2_lt c_158_21 (by omega) (by omega) ?_ ?_
        · intro h11
          refine n_aload_n c_158_28 rfl (n_iload_n c_158_29 rfl (n_aload_n c_158_30 rfl (n_getR c_158_31 sc_112.n rfl rfl rfl r_112_8 (n_iload_n c_158_34 rfl (n_ialoadV c_158_35 sc_118.n rfl rfl rfl (by omega) (t_118 hS (by omega)) ?_)))))
          intro z12 ez12 f13
          refine n_aload_n c_158_36 rfl (n_getR c_158_37 sc_112.n rfl rfl rfl r_112_9 (n_iload_n c_158_40 rfl (n_laloadV c_158_41 sc_119.n rfl rfl rfl (by omega) (t_119 hS (by omega)) ?_)))
          intro z14 ez14 f15
          refine n_v3I c_158_42 rfl sc_112.n rfl rfl rfl rfl (mkeepsSet_3 (a := a) (k := z12) (s := z14) hS hdm (by omega) (by omega) (by omega)) ?_
          intro z16 M17 hP18
          obtain ⟨eM, f18⟩ := hP18
          subst eM
          refine n_if0_eq c_158_45 (by omega) ?_ ?_
          · intro h19
            refine n_iconst c_158_52 ?_
            exact n_rI c_158_53 rfl ⟨rfl, by omega⟩
          · intro h20
            refine n_iconst c_158_48 (n_goto c_158_49 ?_)
            exact n_rI c_158_53 rfl ⟨rfl, by omega⟩
        · intro h21
          refine n_fg (le_n (le_n (le_n le_0))) ?_
          exact (mkeeps_3_c hS hdm ha hl 12)   (by omega)

set_option maxHeartbeats 4000000 in
theorem mlaws_3_c {xs : List Int32} {e : Nat} {ac : Int} {M0 M : nM} {k : Int} (hS : Sf 3 ac M0 M) (hdm : M0 112 0 = 3) (hk : -2147483648 ≤ k ∧ k ≤ 2147483647) : ∀ nn : Nat, (134217731 < (nn : Int) → nW xs (e + 5) 160 10 [none, none, none, none, none] [] M (nPI fun z M1 => M = M1 ∧ (-2147483648 ≤ z ∧ z ≤ 2147483647))) ∧ (∀ (x2 x3 : Int), (1 ≤ k ∧ k ≤ 2) → (-2147483648 ≤ x2 ∧ x2 ≤ 2147483647) → (0 ≤ x3 ∧ x3 ≤ 134217728) → (134217728 - x3) * 1 + 1 < (nn : Int) → nW xs (e + 5) 160 16 [some (2, 112), some (0, k), some (0, x2), some (1, x3), none] [] M (nPI fun z M1 => M = M1 ∧ (-2147483648 ≤ z ∧ z ≤ 2147483647))) := by
  have hd : (3 : Int) = 2 ∨ (3 : Int) = 3 := by decide
  have hac := hS.2.2.2.2
  intro nn
  induction nn with
  | zero => refine ⟨?_, ?_⟩ <;> (intros; omega)
  | succ nn ih =>
    refine ⟨?_, ?_⟩
    · intro hnn
      refine n_iconst c_160_10 ?_
      exact n_rI c_160_11 rfl ⟨rfl, by omega⟩
    · intro x2 x3 k1 k2 k3 hnn
      refine n_lload_n c_160_16 rfl (n_lconst (n := 1) c_160_17 rfl (n_aload_n c_160_18 rfl (n_getV (bi := 0) c_160_19 sc_112.n rfl rfl rfl (t_dm hS hdm) ?_)))
      intro z1 ez1 f2
      obtain rfl : z1 = 3 := by omega
      refine n_iload_n c_160_22 rfl (n_s2I c_160_23 rfl rfl rfl rfl (mpowerU3_3 (n := k) hS (by omega)) ?_)
      intro z3 M4 hP5
      obtain ⟨eM, f5⟩ := hP5
      subst eM
      refine n_i_lshl c_160_26 rfl ?_
      have f6 := n_lshl_1 (y := z3) (a := 1) (b := 27) (by decide) (by omega)
      generalize (n_lshl 1 z3) = z7 at f6 ⊢
      refine n_lcmp c_160_27 ?_
      refine n_lif_ge c_160_28 (by omega) (by omega) ?_ ?_
      · intro h8
        refine n_iload_n c_160_55 rfl ?_
        exact n_rI c_160_56 rfl ⟨rfl, by omega⟩
      · intro h9
        refine n_iload_n c_160_31 rfl (n_aload_n c_160_32 rfl (n_iload_n c_160_33 rfl (n_lload_n c_160_34 rfl (n_v2I c_160_35 rfl sc_112.n rfl rfl rfl rfl (mallKeep_3 (k := k) (s := x3) hS hdm (by omega) (by omega)) ?_))))
        intro z10 M11 hP12
        obtain ⟨eM, f12⟩ := hP12
        subst eM
        refine n_if0_eq c_160_38 (by omega) ?_ ?_
        · intro h13
          refine n_iconst c_160_45 (n_iadd c_160_46 rfl (n_istore_n (L2 := [some (2, 112), some (0, k), some (0, (x2 + 0)), some (1, x3), none]) c_160_47 rfl rfl (n_lload_n c_160_48 rfl (n_lconst (n := 1) c_160_49 rfl (n_ladd c_160_50 rfl (n_lstore_n (L2 := [some (2, 112), some (0, k), some (0, (x2 + 0)), some (1, (x3 + 1)), none]) c_160_51 rfl rfl (n_goto c_160_52 (n_fg (le_s (le_s (le_s (le_s (le_n le_0))))) ?_))))))))
          exact ih.2 _ _ (by omega) (by omega) (by omega) (by omega)
        · intro h14
          refine n_iconst c_160_41 (n_goto c_160_42 (n_iadd c_160_46 rfl (n_wrap ?_)))
          have f15 := n_wr_r (x2 + 1)
          generalize n_wr (x2 + 1) = z16 at f15 ⊢
          refine n_istore_n (L2 := [some (2, 112), some (0, k), some (0, z16), some (1, x3), none]) c_160_47 rfl rfl (n_lload_n c_160_48 rfl (n_lconst (n := 1) c_160_49 rfl (n_ladd c_160_50 rfl (n_lstore_n (L2 := [some (2, 112), some (0, k), some (0, z16), some (1, (x3 + 1)), none]) c_160_51 rfl rfl (n_goto c_160_52 (n_fg (le_s (le_s (le_s (le_s (le_n le_0))))) ?_))))))
          exact ih.2 _ _ (by omega) (by omega) (by omega) (by omega)
set_option maxHeartbeats 4000000 in
theorem mlaws_3 {xs : List Int32} {e : Nat} {ac : Int} {M0 M : nM} {k : Int} (hS : Sf 3 ac M0 M) (hdm : M0 112 0 = 3) (hk : -2147483648 ≤ k ∧ k ≤ 2147483647) : nW xs (e + 5) 160 0 [some (2, 112), some (0, k), none, none, none] [] M (nPI fun z M1 => M = M1 ∧ (-2147483648 ≤ z ∧ z ≤ 2147483647)) := by
  have hd : (3 : Int) = 2 ∨ (3 : Int) = 3 := by decide
  have hac := hS.2.2.2.2
  refine n_iload_n c_160_0 rfl (n_iconst c_160_1 ?_)
  refine n_if2_lt c_160_2 (by omega) (by omega) ?_ ?_
  · intro h1
    refine n_fg (le_n (le_n (le_n (le_n (le_n le_0))))) ?_
    exact (mlaws_3_c hS hdm hk 268435472).1   (by omega)
  · intro h2
    refine n_iload_n c_160_5 rfl (n_iconst c_160_6 ?_)
    refine n_if2_le c_160_7 (by omega) (by omega) ?_ ?_
    · intro h3
      refine n_iconst c_160_12 (n_istore_n (L2 := [some (2, 112), some (0, k), some (0, 0), none, none]) c_160_13 rfl rfl (n_lconst (n := 0) c_160_14 rfl (n_lstore_n (L2 := [some (2, 112), some (0, k), some (0, 0), some (1, 0), none]) c_160_15 rfl rfl (n_fg (le_s (le_s (le_s (le_s (le_n le_0))))) ?_))))
      exact (mlaws_3_c hS hdm hk 268435472).2 _ _ (by omega) (by omega) (by omega) (by omega)
    · intro h4
      refine n_fg (le_n (le_n (le_n (le_n (le_n le_0))))) ?_
      exact (mlaws_3_c hS hdm hk 268435472).1   (by omega)

set_option maxHeartbeats 4000000 in
theorem misMaking_3_c {xs : List Int32} {e : Nat} {ac : Int} {M0 M : nM} {n : Int} (hS : Sf 3 ac M0 M) (hdm : M0 112 0 = 3) (hn : -2147483648 ≤ n ∧ n ≤ 2147483647) : ∀ nn : Nat, (1 < (nn : Int) → nW xs e 161 26 [none, none] [] M (nPI fun z M1 => M = M1 ∧ (0 ≤ z ∧ z ≤ 1) ∧ (z = 0 ∨ (1 ≤ n ∧ n ≤ 2)))) := by
  have hd : (3 : Int) = 2 ∨ (3 : Int) = 3 := by decide
  have hac := hS.2.2.2.2
  intro nn
  induction nn with
  | zero => intros; omega
  | succ nn ih =>
    intro hnn
    refine n_iconst c_161_26 ?_
    exact n_rZ c_161_27 rfl (by omega) ⟨rfl, by omega, by omega⟩
set_option maxHeartbeats 4000000 in
theorem misMaking_3 {xs : List Int32} {e : Nat} {ac : Int} {M0 M : nM} {n : Int} (hS : Sf 3 ac M0 M) (hdm : M0 112 0 = 3) (hn : -2147483648 ≤ n ∧ n ≤ 2147483647) : nW xs e 161 0 [some (2, 112), some (0, n)] [] M (nPI fun z M1 => M = M1 ∧ (0 ≤ z ∧ z ≤ 1) ∧ (z = 0 ∨ (1 ≤ n ∧ n ≤ 2))) := by
  have hd : (3 : Int) = 2 ∨ (3 : Int) = 3 := by decide
  have hac := hS.2.2.2.2
  refine n_iload_n c_161_0 rfl (n_iconst c_161_1 ?_)
  refine n_if2_lt c_161_2 (by omega) (by omega) ?_ ?_
  · intro h1
    refine n_fg (le_n (le_n le_0)) ?_
    exact (misMaking_3_c hS hdm hn 12)   (by omega)
  · intro h2
    refine n_iload_n c_161_5 rfl (n_aload_n c_161_6 rfl (n_getV (bi := 0) c_161_7 sc_112.n rfl rfl rfl (t_dm hS hdm) ?_))
    intro z3 ez3 f4
    obtain rfl : z3 = 3 := by omega
    refine n_iconst c_161_10 ?_
    refine n_if2_ne c_161_11 (by omega) (by omega) ?_ ?_
    · intro h5
      refine n_iconst c_161_18 ?_
      refine n_if2_gt c_161_19 (by omega) (by omega) ?_ ?_
      · intro h6
        refine n_fg (le_n (le_n le_0)) ?_
        exact (misMaking_3_c hS hdm hn 12)   (by omega)
      · intro h7
        refine n_iconst c_161_22 (n_goto c_161_23 ?_)
        exact n_rZ c_161_27 rfl (by omega) ⟨rfl, by omega, by omega⟩
    · intro h8
      exfalso; omega

set_option maxHeartbeats 4000000 in
theorem mrowsOf1_3 {xs : List Int32} {e : Nat} {ac : Int} {M0 M : nM} (hS : Sf 3 ac M0 M) (hdm : M0 112 0 = 3) : nW xs (e + 1) 162 0 [some (2, 112), some (0, 1)] [] M (nPI fun z M1 => M = M1 ∧ (3 ≤ z ∧ z ≤ 3)) := by
  have hd : (3 : Int) = 2 ∨ (3 : Int) = 3 := by decide
  have hac := hS.2.2.2.2
  refine n_aload_n c_162_0 rfl (n_getV (bi := 0) c_162_1 sc_112.n rfl rfl rfl (t_dm hS hdm) ?_)
  intro z1 ez1 f2
  obtain rfl : z1 = 3 := by omega
  refine n_iload_n c_162_4 rfl (n_s2I c_162_5 rfl rfl rfl rfl (mpower1_3  hS ) ?_)
  intro z3 M4 hP5
  obtain ⟨eM, f5⟩ := hP5
  subst eM
  obtain rfl : z3 = 3 := by omega
  exact n_rI c_162_8 rfl ⟨rfl, by omega⟩

set_option maxHeartbeats 4000000 in
theorem mrowsOf2_3 {xs : List Int32} {e : Nat} {ac : Int} {M0 M : nM} (hS : Sf 3 ac M0 M) (hdm : M0 112 0 = 3) : nW xs (e + 1) 162 0 [some (2, 112), some (0, 2)] [] M (nPI fun z M1 => M = M1 ∧ (9 ≤ z ∧ z ≤ 9)) := by
  have hd : (3 : Int) = 2 ∨ (3 : Int) = 3 := by decide
  have hac := hS.2.2.2.2
  refine n_aload_n c_162_0 rfl (n_getV (bi := 0) c_162_1 sc_112.n rfl rfl rfl (t_dm hS hdm) ?_)
  intro z1 ez1 f2
  obtain rfl : z1 = 3 := by omega
  refine n_iload_n c_162_4 rfl (n_s2I c_162_5 rfl rfl rfl rfl (mpower2_3  hS ) ?_)
  intro z3 M4 hP5
  obtain ⟨eM, f5⟩ := hP5
  subst eM
  obtain rfl : z3 = 9 := by omega
  exact n_rI c_162_8 rfl ⟨rfl, by omega⟩

set_option maxHeartbeats 4000000 in
theorem mrowsOf_3 {xs : List Int32} {e : Nat} {ac : Int} {M0 M : nM} {n : Int} (hS : Sf 3 ac M0 M) (hdm : M0 112 0 = 3) (hn : 1 ≤ n ∧ n ≤ 2) : nW xs (e + 1) 162 0 [some (2, 112), some (0, n)] [] M (nPI fun z M1 => M = M1 ∧ (1 ≤ z ∧ z ≤ 9)) := by
  rcases (show n = 1 ∨ n = 2 by omega) with rfl | rfl
  · exact n_post (mrowsOf1_3 hS hdm) (fun w M1 h => by obtain ⟨z, rfl, h1, h2⟩ := h; exact ⟨z, rfl, h1, by omega⟩)
  · exact n_post (mrowsOf2_3 hS hdm) (fun w M1 h => by obtain ⟨z, rfl, h1, h2⟩ := h; exact ⟨z, rfl, h1, by omega⟩)

set_option maxHeartbeats 4000000 in
theorem msizeOf_3 {xs : List Int32} {e : Nat} {ac : Int} {M0 M : nM} {n i : Int} (hS : Sf 3 ac M0 M) (hdm : M0 112 0 = 3) (hn : 0 ≤ n ∧ n ≤ 3) (hi : 0 ≤ i ∧ i ≤ 255) : nW xs e 164 0 [some (2, 112), some (0, n), some (0, i)] [] M (nPI fun z M1 => M = M1 ∧ (0 ≤ z ∧ z ≤ 1000000)) := by
  have hd : (3 : Int) = 2 ∨ (3 : Int) = 3 := by decide
  have hac := hS.2.2.2.2
  refine n_aload_n c_164_0 rfl (n_getR c_164_1 sc_112.n rfl rfl rfl r_112_15 (n_sipush c_164_4 rfl (n_iload_n c_164_7 rfl (n_imul c_164_8 rfl (n_iload_n c_164_9 rfl (n_iadd c_164_10 rfl (n_ialoadV c_164_11 sc_123.n rfl rfl rfl (by omega) (t_123 hS (by omega)) ?_)))))))
  intro z1 ez1 f2
  exact n_rI c_164_12 rfl ⟨rfl, by omega⟩

set_option maxHeartbeats 4000000 in
theorem mlay_3_c {xs : List Int32} {e : Nat} {ac : Int} {M0 M : nM} {c r g : Int} (hS : Sf 3 ac M0 M) (hdm : M0 112 0 = 3) (hc : 0 ≤ c ∧ c ≤ 4611686018427387904) (hr : 0 ≤ r ∧ r ≤ 27) (hg : M 112 22 = g) : ∀ nn : Nat, (∀ (x4 x6 : Int) (M : nM), Sf 3 ac M0 M → (0 ≤ x4 ∧ x4 ≤ 4611686018427387904) → (0 ≤ x6 ∧ x6 ≤ 27) → (M 112 22 = g) → (27 - x6) * 1 + 1 < (nn : Int) → nW xs e 171 6 [some (2, 112), none, none, some (0, r), some (1, x4), none, some (0, x6)] [] M (nPV fun M1 => Sf 3 ac M0 M1 ∧ (M1 112 22 = g))) := by
  have hd : (3 : Int) = 2 ∨ (3 : Int) = 3 := by decide
  have hac := hS.2.2.2.2
  intro nn
  induction nn with
  | zero => intros; omega
  | succ nn ih =>
    intro x4 x6 M hS k4 k6 hgg hnn
    refine n_iload c_171_6 rfl (n_iload_n c_171_8 rfl ?_)
    refine n_if2_ge c_171_9 (by omega) (by omega) ?_ ?_
    · intro h1
      exact n_rV c_171_44 rfl ⟨hS, by omega⟩
    · intro h2
      refine n_aload_n c_171_12 rfl (n_getR c_171_13 sc_112.n rfl rfl rfl r_112_19 (n_iload c_171_16 rfl (n_lload c_171_18 rfl (n_aload_n c_171_20 rfl (n_getV (bi := 0) c_171_21 sc_112.n rfl rfl rfl (t_dm hS hdm) ?_)))))
      intro z3 ez3 f4
      obtain rfl : z3 = 3 := by omega
      refine n_i2l c_171_24 (by omega) ?_
      refine n_lremV c_171_25 (by omega) (by omega) ?_
      intro z5 _ f6
      refine n_l2i c_171_26 (n_iastoreV hS c_171_27 sc_127.n rfl (by omega) (w_127 (by omega) (by omega)) ?_)
      intro M7 eM7 hS7
      have g7_0 : M7 112 22 = M 112 22 := by rw [eM7]; exact nu_a (by omega)
      refine n_lload c_171_28 rfl (n_aload_n c_171_30 rfl (n_getV (bi := 0) c_171_31 sc_112.n rfl rfl rfl (t_dm hS7 hdm) ?_))
      intro z8 ez8 f9
      obtain rfl : z8 = 3 := by omega
      refine n_i2l c_171_34 (by omega) ?_
      refine n_ldivV c_171_35 (by omega) (by omega) ?_
      intro z10 _ f11
      refine n_lstore (L2 := [some (2, 112), none, none, some (0, r), some (1, z10), none, some (0, x6)]) c_171_36 rfl rfl (n_iinc (L2 := [some (2, 112), none, none, some (0, r), some (1, z10), none, some (0, (x6 + 1))]) c_171_38 rfl rfl rfl (n_goto c_171_41 (n_fg (le_s (le_n (le_n (le_s (le_s (le_n (le_s le_0))))))) ?_)))
      exact ih _ _ M7 hS7 (by omega) (by omega) (by omega) (by omega)
set_option maxHeartbeats 4000000 in
theorem mlay_3 {xs : List Int32} {e : Nat} {ac : Int} {M0 M : nM} {c r g : Int} (hS : Sf 3 ac M0 M) (hdm : M0 112 0 = 3) (hc : 0 ≤ c ∧ c ≤ 4611686018427387904) (hr : 0 ≤ r ∧ r ≤ 27) (hg : M 112 22 = g) : nW xs e 171 0 [some (2, 112), some (1, c), none, some (0, r), none, none, none] [] M (nPV fun M1 => Sf 3 ac M0 M1 ∧ (M1 112 22 = g)) := by
  have hd : (3 : Int) = 2 ∨ (3 : Int) = 3 := by decide
  have hac := hS.2.2.2.2
  refine n_lload_n c_171_0 rfl (n_lstore (L2 := [some (2, 112), some (1, c), none, some (0, r), some (1, c), none, none]) c_171_1 rfl rfl (n_iconst c_171_3 (n_istore (L2 := [some (2, 112), some (1, c), none, some (0, r), some (1, c), none, some (0, 0)]) c_171_4 rfl rfl (n_fg (le_s (le_n (le_n (le_s (le_s (le_n (le_s le_0))))))) ?_))))
  exact (mlay_3_c hS hdm hc hr hg 68) _ _ M hS (by omega) (by omega) (by omega) (by omega)

set_option maxHeartbeats 4000000 in
theorem mhandKeeps_3_c {xs : List Int32} {e : Nat} {ac : Int} {M0 M : nM} {m k : Int} (hS : Sf 3 ac M0 M) (hdm : M0 112 0 = 3) (hm : 0 ≤ m ∧ m ≤ 3) (hk : -2147483648 ≤ k ∧ k ≤ 2147483647) : ∀ nn : Nat, (∀ (x3 : Int), (0 ≤ x3 ∧ x3 ≤ 12) → (12 - x3) * 2 + 2 < (nn : Int) → nW xs (e + 3) 172 2 [some (2, 112), some (0, m), some (0, k), some (0, x3)] [] M (nPI fun z M1 => M = M1 ∧ (0 ≤ z ∧ z ≤ 1))) ∧ (∀ (x3 : Int), (0 ≤ x3 ∧ x3 ≤ 11) → (12 - x3) * 2 + 1 < (nn : Int) → nW xs (e + 3) 172 47 [some (2, 112), some (0, m), some (0, k), some (0, x3)] [] M (nPI fun z M1 => M = M1 ∧ (0 ≤ z ∧ z ≤ 1))) := by
  have hd : (3 : Int) = 2 ∨ (3 : Int) = 3 := by decide
  have hac := hS.2.2.2.2
  intro nn
  induction nn with
  | zero => refine ⟨?_, ?_⟩ <;> (intros; omega)
  | succ nn ih =>
    refine ⟨?_, ?_⟩
    · intro x3 k3 hnn
      refine n_iload_n c_172_2 rfl (n_aload_n c_172_3 rfl (n_getV (bi := 7) c_172_4 sc_112.n rfl rfl rfl (t_112_7 hS) ?_))
      intro z1 ez1 f2
      refine n_if2_ge c_172_7 (by omega) (by omega) ?_ ?_
      · intro h3
        refine n_iconst c_172_53 ?_
        exact n_rZ c_172_54 rfl (by omega) ⟨rfl, by omega⟩
      · intro h4
        refine n_iload_n c_172_10 rfl (n_iload_n c_172_11 rfl (n_i_ishr c_172_12 rfl ?_))
        have f5 := n_shr_r k x3
        generalize (n_shr k x3) = z6 at f5 ⊢
        refine n_iconst c_172_13 (n_i_iand c_172_14 rfl ?_)
        have f7 := n_and_y (x := z6) (y := 1) (by omega)
        generalize (n_and z6 1) = z8 at f7 ⊢
        refine n_iconst c_172_15 ?_
        refine n_if2_ne c_172_16 (by omega) (by omega) ?_ ?_
        · intro h9
          refine n_fg (le_s (le_s (le_s (le_s le_0)))) ?_
          exact ih.2 _ (by omega) (by omega)
        · intro h10
          refine n_aload_n c_172_19 rfl (n_iload_n c_172_20 rfl (n_aload_n c_172_21 rfl (n_getR c_172_22 sc_112.n rfl rfl rfl r_112_19 (n_iconst c_172_25 (n_aload_n c_172_26 rfl (n_getR c_172_27 sc_112.n rfl rfl rfl r_112_8 (n_iload_n c_172_30 rfl (n_ialoadV c_172_31 sc_118.n rfl rfl rfl (by omega) (t_118 hS (by omega)) ?_))))))))
          intro z11 ez11 f12
          refine n_aload_n c_172_32 rfl (n_getR c_172_33 sc_112.n rfl rfl rfl r_112_9 (n_iload_n c_172_36 rfl (n_laloadV c_172_37 sc_119.n rfl rfl rfl (by omega) (t_119 hS (by omega)) ?_)))
          intro z13 ez13 f14
          refine n_v5I c_172_38 rfl sc_112.n rfl rfl rfl rfl (escapesH_3 (m := m) (f := 0) (k := z11) (s := z13) hS hdm (by omega) (by omega) (by omega) (by omega)) ?_
          intro z15 M16 hP17
          obtain ⟨eM, f17, f17p0⟩ := hP17
          subst eM
          refine n_iconst c_172_41 ?_
          refine n_if2_eq c_172_42 (by omega) (by omega) ?_ ?_
          · intro h18
            refine n_fg (le_s (le_s (le_s (le_s le_0)))) ?_
            exact ih.2 _ (by omega) (by omega)
          · intro h19
            refine n_iconst c_172_45 ?_
            exact n_rZ c_172_46 rfl (by omega) ⟨rfl, by omega⟩
    · intro x3 k3 hnn
      refine n_iinc (L2 := [some (2, 112), some (0, m), some (0, k), some (0, (x3 + 1))]) c_172_47 rfl rfl rfl (n_goto c_172_50 (n_fg (le_s (le_s (le_s (le_s le_0)))) ?_))
      exact ih.1 _ (by omega) (by omega)
set_option maxHeartbeats 4000000 in
theorem mhandKeeps_3 {xs : List Int32} {e : Nat} {ac : Int} {M0 M : nM} {m k : Int} (hS : Sf 3 ac M0 M) (hdm : M0 112 0 = 3) (hm : 0 ≤ m ∧ m ≤ 3) (hk : -2147483648 ≤ k ∧ k ≤ 2147483647) : nW xs (e + 3) 172 0 [some (2, 112), some (0, m), some (0, k), none] [] M (nPI fun z M1 => M = M1 ∧ (0 ≤ z ∧ z ≤ 1)) := by
  have hd : (3 : Int) = 2 ∨ (3 : Int) = 3 := by decide
  have hac := hS.2.2.2.2
  refine n_iconst c_172_0 (n_istore_n (L2 := [some (2, 112), some (0, m), some (0, k), some (0, 0)]) c_172_1 rfl rfl (n_fg (le_s (le_s (le_s (le_s le_0)))) ?_))
  exact (mhandKeeps_3_c hS hdm hm hk 66).1 _ (by omega) (by omega)

set_option maxHeartbeats 4000000 in
theorem mheaps_3_c {xs : List Int32} {e : Nat} {ac : Int} {M0 M : nM} (hS : Sf 3 ac M0 M) (hdm : M0 112 0 = 3) : ∀ nn : Nat, (∀ (x1 x2 : Int), (-2147483648 ≤ x1 ∧ x1 ≤ 2147483647) → (1 ≤ x2 ∧ x2 ≤ 8) → (8 - x2) * 1 + 1 < (nn : Int) → nW xs (e + 5) 176 4 [some (2, 112), some (0, x1), some (0, x2)] [] M (nPI fun z M1 => M = M1 ∧ (-2147483648 ≤ z ∧ z ≤ 2147483647))) := by
  have hd : (3 : Int) = 2 ∨ (3 : Int) = 3 := by decide
  have hac := hS.2.2.2.2
  intro nn
  induction nn with
  | zero => intros; omega
  | succ nn ih =>
    intro x1 x2 k1 k2 hnn
    refine n_iload_n c_176_4 rfl (n_iconst c_176_5 (n_aload_n c_176_6 rfl (n_getV (bi := 0) c_176_7 sc_112.n rfl rfl rfl (t_dm hS hdm) ?_)))
    intro z1 ez1 f2
    obtain rfl : z1 = 3 := by omega
    refine n_i_ishl (z := 8) c_176_10 (by decide) ?_
    refine n_if2_ge c_176_11 (by omega) (by omega) ?_ ?_
    · intro h3
      refine n_iload_n c_176_38 rfl ?_
      exact n_rI c_176_39 rfl ⟨rfl, by omega⟩
    · intro h4
      refine n_iload_n c_176_14 rfl (n_aload_n c_176_15 rfl (n_iconst c_176_16 (n_iload_n c_176_17 rfl (n_i2l c_176_18 (by omega) ?_))))
      refine n_v2I c_176_19 rfl sc_112.n rfl rfl rfl rfl (mallKeep_3 (k := 1) (s := x2) hS hdm (by omega) (by omega)) ?_
      intro z5 M6 hP7
      obtain ⟨eM, f7⟩ := hP7
      subst eM
      refine n_if0_eq c_176_22 (by omega) ?_ ?_
      · intro h8
        refine n_iconst c_176_29 (n_iadd c_176_30 rfl (n_istore_n (L2 := [some (2, 112), some (0, (x1 + 0)), some (0, x2)]) c_176_31 rfl rfl (n_iinc (L2 := [some (2, 112), some (0, (x1 + 0)), some (0, (x2 + 1))]) c_176_32 rfl rfl rfl (n_goto c_176_35 (n_fg (le_s (le_s (le_s le_0))) ?_)))))
        exact ih _ _ (by omega) (by omega) (by omega)
      · intro h9
        refine n_iconst c_176_25 (n_goto c_176_26 (n_iadd c_176_30 rfl (n_wrap ?_)))
        have f10 := n_wr_r (x1 + 1)
        generalize n_wr (x1 + 1) = z11 at f10 ⊢
        refine n_istore_n (L2 := [some (2, 112), some (0, z11), some (0, x2)]) c_176_31 rfl rfl (n_iinc (L2 := [some (2, 112), some (0, z11), some (0, (x2 + 1))]) c_176_32 rfl rfl rfl (n_goto c_176_35 (n_fg (le_s (le_s (le_s le_0))) ?_)))
        exact ih _ _ (by omega) (by omega) (by omega)
set_option maxHeartbeats 4000000 in
theorem mheaps_3 {xs : List Int32} {e : Nat} {ac : Int} {M0 M : nM} (hS : Sf 3 ac M0 M) (hdm : M0 112 0 = 3) : nW xs (e + 5) 176 0 [some (2, 112), none, none] [] M (nPI fun z M1 => M = M1 ∧ (-2147483648 ≤ z ∧ z ≤ 2147483647)) := by
  have hd : (3 : Int) = 2 ∨ (3 : Int) = 3 := by decide
  have hac := hS.2.2.2.2
  refine n_iconst c_176_0 (n_istore_n (L2 := [some (2, 112), some (0, 0), none]) c_176_1 rfl rfl (n_iconst c_176_2 (n_istore_n (L2 := [some (2, 112), some (0, 0), some (0, 1)]) c_176_3 rfl rfl (n_fg (le_s (le_s (le_s le_0))) ?_))))
  exact (mheaps_3_c hS hdm 28) _ _ (by omega) (by omega) (by omega)

set_option maxHeartbeats 4000000 in
theorem misParting_3_c {xs : List Int32} {e : Nat} {ac : Int} {M0 M : nM} {n : Int} (hS : Sf 3 ac M0 M) (hdm : M0 112 0 = 3) (hn : -2147483648 ≤ n ∧ n ≤ 2147483647) : ∀ nn : Nat, (∀ (x2 : Int), (0 ≤ x2 ∧ x2 ≤ 3) → (3 - x2) * 1 + 2 < (nn : Int) → nW xs e 178 2 [some (2, 112), some (0, n), some (0, x2), none] [] M (nPI fun z M1 => M = M1 ∧ (0 ≤ z ∧ z ≤ 1))) ∧ (1 < (nn : Int) → nW xs e 178 34 [none, none, none, none] [] M (nPI fun z M1 => M = M1 ∧ (0 ≤ z ∧ z ≤ 1))) := by
  have hd : (3 : Int) = 2 ∨ (3 : Int) = 3 := by decide
  have hac := hS.2.2.2.2
  intro nn
  induction nn with
  | zero => refine ⟨?_, ?_⟩ <;> (intros; omega)
  | succ nn ih =>
    refine ⟨?_, ?_⟩
    · intro x2 k2 hnn
      refine n_iload_n c_178_2 rfl (n_aload_n c_178_3 rfl (n_getV (bi := 0) c_178_4 sc_112.n rfl rfl rfl (t_dm hS hdm) ?_))
      intro z1 ez1 f2
      obtain rfl : z1 = 3 := by omega
      refine n_if2_ge c_178_7 (by omega) (by omega) ?_ ?_
      · intro h3
        refine n_iconst c_178_42 ?_
        exact n_rZ c_178_43 rfl (by omega) ⟨rfl, by omega⟩
      · intro h4
        refine n_iload_n c_178_10 rfl (n_iconst c_178_11 (n_iload_n c_178_12 rfl (n_imul c_178_13 rfl (n_i_ishr c_178_14 rfl ?_))))
        have f5 := n_shr_r n (2 * x2)
        generalize (n_shr n (2 * x2)) = z6 at f5 ⊢
        refine n_iconst c_178_15 (n_i_iand c_178_16 rfl ?_)
        have f7 := n_and_y (x := z6) (y := 3) (by omega)
        generalize (n_and z6 3) = z8 at f7 ⊢
        refine n_istore_n (L2 := [some (2, 112), some (0, n), some (0, x2), some (0, z8)]) c_178_17 rfl rfl (n_iload_n c_178_18 rfl (n_iload_n c_178_19 rfl ?_))
        refine n_if2_gt c_178_20 (by omega) (by omega) ?_ ?_
        · intro h9
          refine n_fg (le_n (le_n (le_n (le_n le_0)))) ?_
          exact ih.2   (by omega)
        · intro h10
          refine n_iload_n c_178_23 rfl (n_iconst c_178_24 (n_iload_n c_178_25 rfl (n_imul c_178_26 rfl (n_i_ishr c_178_27 rfl ?_))))
          have f11 := n_shr_r n (2 * z8)
          generalize (n_shr n (2 * z8)) = z12 at f11 ⊢
          refine n_iconst c_178_28 (n_i_iand c_178_29 rfl ?_)
          have f13 := n_and_y (x := z12) (y := 3) (by omega)
          generalize (n_and z12 3) = z14 at f13 ⊢
          refine n_iload_n c_178_30 rfl ?_
          refine n_if2_eq c_178_31 (by omega) (by omega) ?_ ?_
          · intro h15
            refine n_iinc (L2 := [some (2, 112), some (0, n), some (0, (x2 + 1)), some (0, z8)]) c_178_36 rfl rfl rfl (n_goto c_178_39 (n_fg (le_s (le_s (le_s (le_n le_0)))) ?_))
            exact ih.1 _ (by omega) (by omega)
          · intro h16
            refine n_fg (le_n (le_n (le_n (le_n le_0)))) ?_
            exact ih.2   (by omega)
    · intro hnn
      refine n_iconst c_178_34 ?_
      exact n_rZ c_178_35 rfl (by omega) ⟨rfl, by omega⟩
set_option maxHeartbeats 4000000 in
theorem misParting_3 {xs : List Int32} {e : Nat} {ac : Int} {M0 M : nM} {n : Int} (hS : Sf 3 ac M0 M) (hdm : M0 112 0 = 3) (hn : -2147483648 ≤ n ∧ n ≤ 2147483647) : nW xs e 178 0 [some (2, 112), some (0, n), none, none] [] M (nPI fun z M1 => M = M1 ∧ (0 ≤ z ∧ z ≤ 1)) := by
  have hd : (3 : Int) = 2 ∨ (3 : Int) = 3 := by decide
  have hac := hS.2.2.2.2
  refine n_iconst c_178_0 (n_istore_n (L2 := [some (2, 112), some (0, n), some (0, 0), none]) c_178_1 rfl rfl (n_fg (le_s (le_s (le_s (le_n le_0)))) ?_))
  exact (misParting_3_c hS hdm hn 22).1 _ (by omega) (by omega)

set_option maxHeartbeats 4000000 in
theorem misPairing_3_c {xs : List Int32} {e : Nat} {ac : Int} {M0 M : nM} {n : Int} (hS : Sf 3 ac M0 M) (hdm : M0 112 0 = 3) (hn : -2147483648 ≤ n ∧ n ≤ 2147483647) : ∀ nn : Nat, (∀ (x2 x4 : Int), (-9223372036854775808 ≤ x2 ∧ x2 ≤ 9223372036854775807) → (0 ≤ x4 ∧ x4 ≤ 3) → (3 - x4) * 6 + 6 < (nn : Int) → nW xs (e + 5) 179 15 [some (2, 112), some (0, n), some (1, x2), none, some (0, x4), none] [] M (nPI fun z M1 => M = M1 ∧ (0 ≤ z ∧ z ≤ 1))) ∧ (∀ (x2 x4 x5 : Int), (-9223372036854775808 ≤ x2 ∧ x2 ≤ 9223372036854775807) → (0 ≤ x4 ∧ x4 ≤ 2) → (0 ≤ x5 ∧ x5 ≤ 3) → (3 - x4) * 6 + (3 - x5) * 1 + 1 < (nn : Int) → nW xs (e + 5) 179 27 [some (2, 112), some (0, n), some (1, x2), none, some (0, x4), some (0, x5)] [] M (nPI fun z M1 => M = M1 ∧ (0 ≤ z ∧ z ≤ 1))) := by
  have hd : (3 : Int) = 2 ∨ (3 : Int) = 3 := by decide
  have hac := hS.2.2.2.2
  intro nn
  induction nn with
  | zero => refine ⟨?_, ?_⟩ <;> (intros; omega)
  | succ nn ih =>
    refine ⟨?_, ?_⟩
    · intro x2 x4 k2 k4 hnn
      refine n_iload c_179_15 rfl (n_aload_n c_179_17 rfl (n_getV (bi := 0) c_179_18 sc_112.n rfl rfl rfl (t_dm hS hdm) ?_))
      intro z1 ez1 f2
      obtain rfl : z1 = 3 := by omega
      refine n_if2_ge c_179_21 (by omega) (by omega) ?_ ?_
      · intro h3
        refine n_aload_n c_179_86 rfl (n_iconst c_179_87 (n_lload_n c_179_88 rfl (n_v2I c_179_89 rfl sc_112.n rfl rfl rfl rfl (mallKeep_3 (k := 2) (s := x2) hS hdm (by omega) (by omega)) ?_)))
        intro z4 M5 hP6
        obtain ⟨eM, f6⟩ := hP6
        subst eM
        exact n_rZ c_179_92 rfl (by omega) ⟨rfl, by omega⟩
      · intro h7
        refine n_iconst c_179_24 (n_istore (L2 := [some (2, 112), some (0, n), some (1, x2), none, some (0, x4), some (0, 0)]) c_179_25 rfl rfl (n_fg (le_s (le_s (le_s (le_n (le_s (le_s le_0)))))) ?_))
        exact ih.2 _ _ _ (by omega) (by omega) (by omega) (by omega)
    · intro x2 x4 x5 k2 k4 k5 hnn
      refine n_iload c_179_27 rfl (n_aload_n c_179_29 rfl (n_getV (bi := 0) c_179_30 sc_112.n rfl rfl rfl (t_dm hS hdm) ?_))
      intro z1 ez1 f2
      obtain rfl : z1 = 3 := by omega
      refine n_if2_ge c_179_33 (by omega) (by omega) ?_ ?_
      · intro h3
        refine n_iinc (L2 := [some (2, 112), some (0, n), some (1, x2), none, some (0, (x4 + 1)), some (0, x5)]) c_179_80 rfl rfl rfl (n_goto c_179_83 (n_fg (le_s (le_s (le_s (le_n (le_s (le_n le_0)))))) ?_))
        exact ih.1 _ _ (by omega) (by omega) (by omega)
      · intro h4
        refine n_lload_n c_179_36 rfl (n_iload_n c_179_37 rfl (n_iconst c_179_38 (n_iload c_179_39 rfl (n_imul c_179_41 rfl (n_i_ishr c_179_42 rfl ?_)))))
        have f5 := n_shr_r n (2 * x4)
        generalize (n_shr n (2 * x4)) = z6 at f5 ⊢
        refine n_iconst c_179_43 (n_i_iand c_179_44 rfl ?_)
        have f7 := n_and_y (x := z6) (y := 3) (by omega)
        generalize (n_and z6 3) = z8 at f7 ⊢
        refine n_iload_n c_179_45 rfl (n_iconst c_179_46 (n_iload c_179_47 rfl (n_imul c_179_49 rfl (n_i_ishr c_179_50 rfl ?_))))
        have f9 := n_shr_r n (2 * x5)
        generalize (n_shr n (2 * x5)) = z10 at f9 ⊢
        refine n_iconst c_179_51 (n_i_iand c_179_52 rfl ?_)
        have f11 := n_and_y (x := z10) (y := 3) (by omega)
        generalize (n_and z10 3) = z12 at f11 ⊢
        refine n_if2_ne c_179_53 (by omega) (by omega) ?_ ?_
        · intro h13
          refine n_lconst (n := 0) c_179_71 rfl (n_i_lor c_179_72 rfl ?_)
          have f14 := n_lor_r x2 0
          generalize (n_lor x2 0) = z15 at f14 ⊢
          refine n_lstore_n (L2 := [some (2, 112), some (0, n), some (1, z15), none, some (0, x4), some (0, x5)]) c_179_73 rfl rfl (n_iinc (L2 := [some (2, 112), some (0, n), some (1, z15), none, some (0, x4), some (0, (x5 + 1))]) c_179_74 rfl rfl rfl (n_goto c_179_77 (n_fg (le_s (le_s (le_s (le_n (le_s (le_s le_0)))))) ?_)))
          exact ih.2 _ _ _ (by omega) (by omega) (by omega) (by omega)
        · intro h16
          refine n_lconst (n := 1) c_179_56 rfl (n_iload c_179_57 rfl (n_aload_n c_179_59 rfl (n_getV (bi := 0) c_179_60 sc_112.n rfl rfl rfl (t_dm hS hdm) ?_)))
          intro z17 ez17 f18
          obtain rfl : z17 = 3 := by omega
          refine n_imul c_179_63 rfl (n_iload c_179_64 rfl (n_iadd c_179_66 rfl (n_i_lshl c_179_67 rfl ?_)))
          have f19 := n_lshl_1 (y := ((x4 * 3) + x5)) (a := 0) (b := 8) (by decide) (by omega)
          generalize (n_lshl 1 ((x4 * 3) + x5)) = z20 at f19 ⊢
          refine n_goto c_179_68 (n_i_lor c_179_72 rfl ?_)
          have f21 := n_lor_r x2 z20
          generalize (n_lor x2 z20) = z22 at f21 ⊢
          refine n_lstore_n (L2 := [some (2, 112), some (0, n), some (1, z22), none, some (0, x4), some (0, x5)]) c_179_73 rfl rfl (n_iinc (L2 := [some (2, 112), some (0, n), some (1, z22), none, some (0, x4), some (0, (x5 + 1))]) c_179_74 rfl rfl rfl (n_goto c_179_77 (n_fg (le_s (le_s (le_s (le_n (le_s (le_s le_0)))))) ?_)))
          exact ih.2 _ _ _ (by omega) (by omega) (by omega) (by omega)
set_option maxHeartbeats 4000000 in
theorem misPairing_3 {xs : List Int32} {e : Nat} {ac : Int} {M0 M : nM} {n : Int} (hS : Sf 3 ac M0 M) (hdm : M0 112 0 = 3) (hn : -2147483648 ≤ n ∧ n ≤ 2147483647) : nW xs (e + 5) 179 0 [some (2, 112), some (0, n), none, none, none, none] [] M (nPI fun z M1 => M = M1 ∧ (0 ≤ z ∧ z ≤ 1)) := by
  have hd : (3 : Int) = 2 ∨ (3 : Int) = 3 := by decide
  have hac := hS.2.2.2.2
  refine n_aload_n c_179_0 rfl (n_iload_n c_179_1 rfl (n_v1I c_179_2 rfl sc_112.n rfl rfl rfl rfl (misParting_3 (n := n) hS hdm (by omega)) ?_))
  intro z1 M2 hP3
  obtain ⟨eM, f3⟩ := hP3
  subst eM
  refine n_if0_ne c_179_5 (by omega) ?_ ?_
  · intro h4
    refine n_lconst (n := 0) c_179_10 rfl (n_lstore_n (L2 := [some (2, 112), some (0, n), some (1, 0), none, none, none]) c_179_11 rfl rfl (n_iconst c_179_12 (n_istore (L2 := [some (2, 112), some (0, n), some (1, 0), none, some (0, 0), none]) c_179_13 rfl rfl (n_fg (le_s (le_s (le_s (le_n (le_s (le_n le_0)))))) ?_))))
    exact (misPairing_3_c hS hdm hn 70).1 _ _ (by omega) (by omega) (by omega)
  · intro h5
    refine n_iconst c_179_8 ?_
    exact n_rZ c_179_9 rfl (by omega) ⟨rfl, by omega⟩

set_option maxHeartbeats 4000000 in
theorem mpairings_3_c {xs : List Int32} {e : Nat} {ac : Int} {M0 M : nM} (hS : Sf 3 ac M0 M) (hdm : M0 112 0 = 3) : ∀ nn : Nat, (∀ (x1 x2 : Int), (-2147483648 ≤ x1 ∧ x1 ≤ 2147483647) → (0 ≤ x2 ∧ x2 ≤ 64) → (64 - x2) * 1 + 1 < (nn : Int) → nW xs (e + 6) 180 4 [some (2, 112), some (0, x1), some (0, x2)] [] M (nPI fun z M1 => M = M1 ∧ (-2147483648 ≤ z ∧ z ≤ 2147483647))) := by
  have hd : (3 : Int) = 2 ∨ (3 : Int) = 3 := by decide
  have hac := hS.2.2.2.2
  intro nn
  induction nn with
  | zero => intros; omega
  | succ nn ih =>
    intro x1 x2 k1 k2 hnn
    refine n_iload_n c_180_4 rfl (n_iconst c_180_5 (n_iconst c_180_6 (n_aload_n c_180_7 rfl (n_getV (bi := 0) c_180_8 sc_112.n rfl rfl rfl (t_dm hS hdm) ?_))))
    intro z1 ez1 f2
    obtain rfl : z1 = 3 := by omega
    refine n_imul c_180_11 rfl (n_i_ishl (z := 64) c_180_12 (by decide) ?_)
    refine n_if2_ge c_180_13 (by omega) (by omega) ?_ ?_
    · intro h3
      refine n_iload_n c_180_38 rfl ?_
      exact n_rI c_180_39 rfl ⟨rfl, by omega⟩
    · intro h4
      refine n_iload_n c_180_16 rfl (n_aload_n c_180_17 rfl (n_iload_n c_180_18 rfl (n_v1I c_180_19 rfl sc_112.n rfl rfl rfl rfl (misPairing_3 (n := x2) hS hdm (by omega)) ?_)))
      intro z5 M6 hP7
      obtain ⟨eM, f7⟩ := hP7
      subst eM
      refine n_if0_eq c_180_22 (by omega) ?_ ?_
      · intro h8
        refine n_iconst c_180_29 (n_iadd c_180_30 rfl (n_istore_n (L2 := [some (2, 112), some (0, (x1 + 0)), some (0, x2)]) c_180_31 rfl rfl (n_iinc (L2 := [some (2, 112), some (0, (x1 + 0)), some (0, (x2 + 1))]) c_180_32 rfl rfl rfl (n_goto c_180_35 (n_fg (le_s (le_s (le_s le_0))) ?_)))))
        exact ih _ _ (by omega) (by omega) (by omega)
      · intro h9
        refine n_iconst c_180_25 (n_goto c_180_26 (n_iadd c_180_30 rfl (n_wrap ?_)))
        have f10 := n_wr_r (x1 + 1)
        generalize n_wr (x1 + 1) = z11 at f10 ⊢
        refine n_istore_n (L2 := [some (2, 112), some (0, z11), some (0, x2)]) c_180_31 rfl rfl (n_iinc (L2 := [some (2, 112), some (0, z11), some (0, (x2 + 1))]) c_180_32 rfl rfl rfl (n_goto c_180_35 (n_fg (le_s (le_s (le_s le_0))) ?_)))
        exact ih _ _ (by omega) (by omega) (by omega)
set_option maxHeartbeats 4000000 in
theorem mpairings_3 {xs : List Int32} {e : Nat} {ac : Int} {M0 M : nM} (hS : Sf 3 ac M0 M) (hdm : M0 112 0 = 3) : nW xs (e + 6) 180 0 [some (2, 112), none, none] [] M (nPI fun z M1 => M = M1 ∧ (-2147483648 ≤ z ∧ z ≤ 2147483647)) := by
  have hd : (3 : Int) = 2 ∨ (3 : Int) = 3 := by decide
  have hac := hS.2.2.2.2
  refine n_iconst c_180_0 (n_istore_n (L2 := [some (2, 112), some (0, 0), none]) c_180_1 rfl rfl (n_iconst c_180_2 (n_istore_n (L2 := [some (2, 112), some (0, 0), some (0, 0)]) c_180_3 rfl rfl (n_fg (le_s (le_s (le_s le_0))) ?_))))
  exact (mpairings_3_c hS hdm 142) _ _ (by omega) (by omega) (by omega)

set_option maxHeartbeats 4000000 in
theorem mpairing_3_c {xs : List Int32} {e : Nat} {ac : Int} {M0 M : nM} {i : Int} (hS : Sf 3 ac M0 M) (hdm : M0 112 0 = 3) (hi : -2147483648 ≤ i ∧ i ≤ 2147483647) : ∀ nn : Nat, (∀ (x2 x3 : Int), (-2147483648 ≤ x2 ∧ x2 ≤ 2147483647) → (0 ≤ x3 ∧ x3 ≤ 64) → (64 - x3) * 2 + 3 < (nn : Int) → nW xs (e + 6) 181 4 [some (2, 112), none, some (0, x2), some (0, x3)] [] M (nPI fun z M1 => M = M1 ∧ (-2147483648 ≤ z ∧ z ≤ 2147483647))) ∧ (∀ (x2 x3 : Int), (0 ≤ x2 ∧ x2 ≤ 2147483647) → (0 ≤ x3 ∧ x3 ≤ 63) → (64 - x3) * 2 + 2 < (nn : Int) → nW xs (e + 6) 181 37 [some (2, 112), none, some (0, x2), some (0, x3)] [] M (nPI fun z M1 => M = M1 ∧ (-2147483648 ≤ z ∧ z ≤ 2147483647))) ∧ (1 < (nn : Int) → nW xs (e + 6) 181 43 [none, none, none, none] [] M (nPI fun z M1 => M = M1 ∧ (-2147483648 ≤ z ∧ z ≤ 2147483647))) := by
  have hd : (3 : Int) = 2 ∨ (3 : Int) = 3 := by decide
  have hac := hS.2.2.2.2
  intro nn
  induction nn with
  | zero => refine ⟨?_, ?_, ?_⟩ <;> (intros; omega)
  | succ nn ih =>
    refine ⟨?_, ?_, ?_⟩
    · intro x2 x3 k2 k3 hnn
      refine n_iload_n c_181_4 rfl (n_iconst c_181_5 (n_iconst c_181_6 (n_aload_n c_181_7 rfl (n_getV (bi := 0) c_181_8 sc_112.n rfl rfl rfl (t_dm hS hdm) ?_))))
      intro z1 ez1 f2
      obtain rfl : z1 = 3 := by omega
      refine n_imul c_181_11 rfl (n_i_ishl (z := 64) c_181_12 (by decide) ?_)
      refine n_if2_ge c_181_13 (by omega) (by omega) ?_ ?_
      · intro h3
        refine n_fg (le_n (le_n (le_n (le_n le_0)))) ?_
        exact ih.2.2   (by omega)
      · intro h4
        refine n_iload_n c_181_16 rfl ?_
        refine n_if0_lt c_181_17 (by omega) ?_ ?_
        · intro h5
          refine n_fg (le_n (le_n (le_n (le_n le_0)))) ?_
          exact ih.2.2   (by omega)
        · intro h6
          refine n_aload_n c_181_20 rfl (n_iload_n c_181_21 rfl (n_v1I c_181_22 rfl sc_112.n rfl rfl rfl rfl (misPairing_3 (n := x3) hS hdm (by omega)) ?_))
          intro z7 M8 hP9
          obtain ⟨eM, f9⟩ := hP9
          subst eM
          refine n_if0_eq c_181_25 (by omega) ?_ ?_
          · intro h10
            refine n_fg (le_s (le_n (le_s (le_s le_0)))) ?_
            exact ih.2.1 _ _ (by omega) (by omega) (by omega)
          · intro h11
            refine n_iload_n c_181_28 rfl ?_
            refine n_if0_ne c_181_29 (by omega) ?_ ?_
            · intro h12
              refine n_iinc (L2 := [some (2, 112), none, some (0, (x2 + (-1))), some (0, x3)]) c_181_34 rfl rfl rfl (n_fg (le_s (le_n (le_s (le_s le_0)))) ?_)
              exact ih.2.1 _ _ (by omega) (by omega) (by omega)
            · intro h13
              refine n_iload_n c_181_32 rfl ?_
              exact n_rI c_181_33 rfl ⟨rfl, by omega⟩
    · intro x2 x3 k2 k3 hnn
      refine n_iinc (L2 := [some (2, 112), none, some (0, x2), some (0, (x3 + 1))]) c_181_37 rfl rfl rfl (n_goto c_181_40 (n_fg (le_s (le_n (le_s (le_s le_0)))) ?_))
      exact ih.1 _ _ (by omega) (by omega) (by omega)
    · intro hnn
      refine n_iconst c_181_43 ?_
      exact n_rI c_181_44 rfl ⟨rfl, by omega⟩
set_option maxHeartbeats 4000000 in
theorem mpairing_3 {xs : List Int32} {e : Nat} {ac : Int} {M0 M : nM} {i : Int} (hS : Sf 3 ac M0 M) (hdm : M0 112 0 = 3) (hi : -2147483648 ≤ i ∧ i ≤ 2147483647) : nW xs (e + 6) 181 0 [some (2, 112), some (0, i), none, none] [] M (nPI fun z M1 => M = M1 ∧ (-2147483648 ≤ z ∧ z ≤ 2147483647)) := by
  have hd : (3 : Int) = 2 ∨ (3 : Int) = 3 := by decide
  have hac := hS.2.2.2.2
  refine n_iload_n c_181_0 rfl (n_istore_n (L2 := [some (2, 112), some (0, i), some (0, i), none]) c_181_1 rfl rfl (n_iconst c_181_2 (n_istore_n (L2 := [some (2, 112), some (0, i), some (0, i), some (0, 0)]) c_181_3 rfl rfl (n_fg (le_s (le_n (le_s (le_s le_0)))) ?_))))
  exact (mpairing_3_c hS hdm hi 276).1 _ _ (by omega) (by omega) (by omega)

set_option maxHeartbeats 4000000 in
theorem msigns_3_c {xs : List Int32} {e : Nat} {ac : Int} {M0 M : nM} {a : Int} (hS : Sf 3 ac M0 M) (hdm : M0 112 0 = 3) (ha : -2147483648 ≤ a ∧ a ≤ 2147483647) : ∀ nn : Nat, (1 < (nn : Int) → nW xs (e + 1) 185 20 [none, none, none, none] [] M (nPI fun z M1 => M = M1 ∧ (-2147483648 ≤ z ∧ z ≤ 2147483647))) := by
  have hd : (3 : Int) = 2 ∨ (3 : Int) = 3 := by decide
  have hac := hS.2.2.2.2
  intro nn
  induction nn with
  | zero => intros; omega
  | succ nn ih =>
    intro hnn
    refine n_iconst c_185_20 ?_
    exact n_rI c_185_21 rfl ⟨rfl, by omega⟩
set_option maxHeartbeats 4000000 in
theorem msigns_3 {xs : List Int32} {e : Nat} {ac : Int} {M0 M : nM} {a : Int} (hS : Sf 3 ac M0 M) (hdm : M0 112 0 = 3) (ha : -2147483648 ≤ a ∧ a ≤ 2147483647) : nW xs (e + 1) 185 0 [some (2, 112), some (0, a), none, none] [] M (nPI fun z M1 => M = M1 ∧ (-2147483648 ≤ z ∧ z ≤ 2147483647)) := by
  have hd : (3 : Int) = 2 ∨ (3 : Int) = 3 := by decide
  have hac := hS.2.2.2.2
  refine n_iload_n c_185_0 rfl ?_
  refine n_if0_lt c_185_1 (by omega) ?_ ?_
  · intro h1
    refine n_fg (le_n (le_n (le_n (le_n le_0)))) ?_
    exact (msigns_3_c hS hdm ha 12)   (by omega)
  · intro h2
    refine n_iload_n c_185_4 rfl (n_aload_n c_185_5 rfl (n_getV (bi := 4) c_185_6 sc_112.n rfl rfl rfl (t_112_4 hS) ?_))
    intro z3 ez3 f4
    refine n_if2_ge c_185_9 (by omega) (by omega) ?_ ?_
    · intro h5
      refine n_fg (le_n (le_n (le_n (le_n le_0)))) ?_
      exact (msigns_3_c hS hdm ha 12)   (by omega)
    · intro h6
      refine n_aload_n c_185_12 rfl (n_getV (bi := 0) c_185_13 sc_112.n rfl rfl rfl (t_dm hS hdm) ?_)
      intro z7 ez7 f8
      obtain rfl : z7 = 3 := by omega
      refine n_iconst c_185_16 ?_
      refine n_if2_ne c_185_17 (by omega) (by omega) ?_ ?_
      · intro h9
        exfalso; omega
      · intro h10
        refine n_fg (le_n (le_n (le_n (le_n le_0)))) ?_
        exact (msigns_3_c hS hdm ha 12)   (by omega)

set_option maxHeartbeats 4000000 in
theorem mwhole_3 {xs : List Int32} {e : Nat} {ac : Int} {M0 M : nM} (hS : Sf 3 ac M0 M) (hdm : M0 112 0 = 3) : nW xs (e + 2) 186 0 [some (2, 112), none, none] [] M (nPI fun z M1 => M = M1 ∧ (-2147483648 ≤ z ∧ z ≤ 2147483647)) := by
  have hd : (3 : Int) = 2 ∨ (3 : Int) = 3 := by decide
  have hac := hS.2.2.2.2
  refine n_aload_n c_186_0 rfl (n_getV (bi := 0) c_186_1 sc_112.n rfl rfl rfl (t_dm hS hdm) ?_)
  intro z1 ez1 f2
  obtain rfl : z1 = 3 := by omega
  refine n_iconst c_186_4 ?_
  refine n_if2_ne c_186_5 (by omega) (by omega) ?_ ?_
  · intro h3
    exfalso; omega
  · intro h4
    refine n_iconst c_186_8 ?_
    exact n_rI c_186_9 rfl ⟨rfl, by omega⟩

set_option maxHeartbeats 4000000 in
theorem misUnknown_3_c {xs : List Int32} {e : Nat} {ac : Int} {M0 M : nM} {u : Int} (hS : Sf 3 ac M0 M) (hdm : M0 112 0 = 3) (hu : -2147483648 ≤ u ∧ u ≤ 2147483647) : ∀ nn : Nat, (1 < (nn : Int) → nW xs e 188 16 [none, none] [] M (nPI fun z M1 => M = M1 ∧ (0 ≤ z ∧ z ≤ 1) ∧ (z = 0 ∨ (0 ≤ u ∧ u ≤ 7)))) := by
  have hd : (3 : Int) = 2 ∨ (3 : Int) = 3 := by decide
  have hac := hS.2.2.2.2
  intro nn
  induction nn with
  | zero => intros; omega
  | succ nn ih =>
    intro hnn
    refine n_iconst c_188_16 ?_
    exact n_rZ c_188_17 rfl (by omega) ⟨rfl, by omega, by omega⟩
set_option maxHeartbeats 4000000 in
theorem misUnknown_3 {xs : List Int32} {e : Nat} {ac : Int} {M0 M : nM} {u : Int} (hS : Sf 3 ac M0 M) (hdm : M0 112 0 = 3) (hu : -2147483648 ≤ u ∧ u ≤ 2147483647) : nW xs e 188 0 [some (2, 112), some (0, u)] [] M (nPI fun z M1 => M = M1 ∧ (0 ≤ z ∧ z ≤ 1) ∧ (z = 0 ∨ (0 ≤ u ∧ u ≤ 7))) := by
  have hd : (3 : Int) = 2 ∨ (3 : Int) = 3 := by decide
  have hac := hS.2.2.2.2
  refine n_iload_n c_188_0 rfl ?_
  refine n_if0_lt c_188_1 (by omega) ?_ ?_
  · intro h1
    refine n_fg (le_n (le_n le_0)) ?_
    exact (misUnknown_3_c hS hdm hu 12)   (by omega)
  · intro h2
    refine n_iload_n c_188_4 rfl (n_aload_n c_188_5 rfl (n_getV (bi := 10) c_188_6 sc_112.n rfl rfl rfl (t_112_10 hS) ?_))
    intro z3 ez3 f4
    refine n_if2_ge c_188_9 (by omega) (by omega) ?_ ?_
    · intro h5
      refine n_fg (le_n (le_n le_0)) ?_
      exact (misUnknown_3_c hS hdm hu 12)   (by omega)
    · intro h6
      refine n_iconst c_188_12 (n_goto c_188_13 ?_)
      exact n_rZ c_188_17 rfl (by omega) ⟨rfl, by omega, by omega⟩

set_option maxHeartbeats 4000000 in
theorem masked_3_c {xs : List Int32} {e : Nat} {ac : Int} {M0 M : nM} (hS : Sf 3 ac M0 M) (hdm : M0 112 0 = 3) : ∀ nn : Nat, (∀ (x1 x2 : Int), (0 ≤ x1 ∧ x1 ≤ 4095) → (0 ≤ x2 ∧ x2 ≤ 30) → (30 - x2) * 1 + 1 < (nn : Int) → nW xs e 196 4 [some (2, 112), some (0, x1), some (0, x2)] [] M (nPI fun z M1 => M = M1 ∧ (-2147483648 ≤ z ∧ z ≤ 2147483647))) := by
  have hd : (3 : Int) = 2 ∨ (3 : Int) = 3 := by decide
  have hac := hS.2.2.2.2
  intro nn
  induction nn with
  | zero => intros; omega
  | succ nn ih =>
    intro x1 x2 k1 k2 hnn
    refine n_iload_n c_196_4 rfl (n_aload_n c_196_5 rfl (n_getV (bi := 11) c_196_6 sc_112.n rfl rfl rfl (t_112_11 hS) ?_))
    intro z1 ez1 f2
    refine n_if2_ge c_196_9 (by omega) (by omega) ?_ ?_
    · intro h3
      refine n_iload_n c_196_29 rfl ?_
      exact n_rI c_196_30 rfl ⟨rfl, by omega⟩
    · intro h4
      refine n_iload_n c_196_12 rfl (n_iconst c_196_13 (n_aload_n c_196_14 rfl (n_getR c_196_15 sc_112.n rfl rfl rfl r_112_12 (n_iload_n c_196_18 rfl (n_ialoadV c_196_19 sc_120.n rfl rfl rfl (by omega) (t_120 hS (by omega)) ?_)))))
      intro z5 ez5 f6
      refine n_i_ishl c_196_20 rfl ?_
      have f7 := n_shl_1 (y := z5) (a := 0) (b := 11) (by decide) (by omega)
      generalize (n_shl 1 z5) = z8 at f7 ⊢
      refine n_i_ior c_196_21 rfl ?_
      have f9 := n_or_k (x := x1) (y := z8) (n := 12) (by decide) (by omega) (by omega)
      generalize (n_or x1 z8) = z10 at f9 ⊢
      refine n_istore_n (L2 := [some (2, 112), some (0, z10), some (0, x2)]) c_196_22 rfl rfl (n_iinc (L2 := [some (2, 112), some (0, z10), some (0, (x2 + 1))]) c_196_23 rfl rfl rfl (n_goto c_196_26 (n_fg (le_s (le_s (le_s le_0))) ?_)))
      exact ih _ _ (by omega) (by omega) (by omega)
set_option maxHeartbeats 4000000 in
theorem masked_3 {xs : List Int32} {e : Nat} {ac : Int} {M0 M : nM} (hS : Sf 3 ac M0 M) (hdm : M0 112 0 = 3) : nW xs e 196 0 [some (2, 112), none, none] [] M (nPI fun z M1 => M = M1 ∧ (-2147483648 ≤ z ∧ z ≤ 2147483647)) := by
  have hd : (3 : Int) = 2 ∨ (3 : Int) = 3 := by decide
  have hac := hS.2.2.2.2
  refine n_iconst c_196_0 (n_istore_n (L2 := [some (2, 112), some (0, 0), none]) c_196_1 rfl rfl (n_iconst c_196_2 (n_istore_n (L2 := [some (2, 112), some (0, 0), some (0, 0)]) c_196_3 rfl rfl (n_fg (le_s (le_s (le_s le_0))) ?_))))
  exact (masked_3_c hS hdm 74) _ _ (by omega) (by omega) (by omega)

set_option maxHeartbeats 4000000 in
theorem misHalf_3_c {xs : List Int32} {e : Nat} {ac : Int} {M0 M : nM} (hS : Sf 3 ac M0 M) (hdm : M0 112 0 = 3) : ∀ nn : Nat, (∀ (x1 : Int), (0 ≤ x1 ∧ x1 ≤ 3) → (3 - x1) * 31 + 31 < (nn : Int) → nW xs e 197 2 [some (2, 112), some (0, x1), none, none] [] M (nPI fun z M1 => M = M1 ∧ (0 ≤ z ∧ z ≤ 1))) ∧ (∀ (x1 x2 : Int), (0 ≤ x1 ∧ x1 ≤ 2) → (0 ≤ x2 ∧ x2 ≤ 3) → (3 - x1) * 31 + (3 - x2) * 6 + 6 < (nn : Int) → nW xs e 197 31 [some (2, 112), some (0, x1), some (0, x2), none] [] M (nPI fun z M1 => M = M1 ∧ (0 ≤ z ∧ z ≤ 1))) ∧ (∀ (x1 x2 x3 : Int), (0 ≤ x1 ∧ x1 ≤ 2) → (0 ≤ x2 ∧ x2 ≤ 2) → (0 ≤ x3 ∧ x3 ≤ 3) → (3 - x1) * 31 + (3 - x2) * 6 + (3 - x3) * 1 + 1 < (nn : Int) → nW xs e 197 72 [some (2, 112), some (0, x1), some (0, x2), some (0, x3)] [] M (nPI fun z M1 => M = M1 ∧ (0 ≤ z ∧ z ≤ 1))) := by
  have hd : (3 : Int) = 2 ∨ (3 : Int) = 3 := by decide
  have hac := hS.2.2.2.2
  intro nn
  induction nn with
  | zero => refine ⟨?_, ?_, ?_⟩ <;> (intros; omega)
  | succ nn ih =>
    refine ⟨?_, ?_, ?_⟩
    · intro x1 k1 hnn
      refine n_iload_n c_197_2 rfl (n_aload_n c_197_3 rfl (n_getV (bi := 0) c_197_4 sc_112.n rfl rfl rfl (t_dm hS hdm) ?_))
      intro z1 ez1 f2
      obtain rfl : z1 = 3 := by omega
      refine n_if2_ge c_197_7 (by omega) (by omega) ?_ ?_
      · intro h3
        refine n_iconst c_197_153 ?_
        exact n_rZ c_197_154 rfl (by omega) ⟨rfl, by omega⟩
      · intro h4
        refine n_aload_n c_197_10 rfl (n_getR c_197_11 sc_112.n rfl rfl rfl r_112_19 (n_iload_n c_197_14 rfl (n_aload_n c_197_15 rfl (n_getV (bi := 0) c_197_16 sc_112.n rfl rfl rfl (t_dm hS hdm) ?_))))
        intro z5 ez5 f6
        obtain rfl : z5 = 3 := by omega
        refine n_imul c_197_19 rfl (n_iload_n c_197_20 rfl (n_iadd c_197_21 rfl (n_ialoadV c_197_22 sc_127.n rfl rfl rfl (by omega) (t_127 hS (by omega)) ?_)))
        intro z7 ez7 f8
        refine n_iload_n c_197_23 rfl ?_
        refine n_if2_eq c_197_24 (by omega) (by omega) ?_ ?_
        · intro h9
          refine n_iconst c_197_29 (n_istore_n (L2 := [some (2, 112), some (0, x1), some (0, 0), none]) c_197_30 rfl rfl (n_fg (le_s (le_s (le_s (le_n le_0)))) ?_))
          exact ih.2.1 _ _ (by omega) (by omega) (by omega)
        · intro h10
          refine n_iconst c_197_27 ?_
          exact n_rZ c_197_28 rfl (by omega) ⟨rfl, by omega⟩
    · intro x1 x2 k1 k2 hnn
      refine n_iload_n c_197_31 rfl (n_aload_n c_197_32 rfl (n_getV (bi := 0) c_197_33 sc_112.n rfl rfl rfl (t_dm hS hdm) ?_))
      intro z1 ez1 f2
      obtain rfl : z1 = 3 := by omega
      refine n_if2_ge c_197_36 (by omega) (by omega) ?_ ?_
      · intro h3
        refine n_iinc (L2 := [some (2, 112), some (0, (x1 + 1)), some (0, x2), none]) c_197_147 rfl rfl rfl (n_goto c_197_150 (n_fg (le_s (le_s (le_n (le_n le_0)))) ?_))
        exact ih.1 _ (by omega) (by omega)
      · intro h4
        refine n_aload_n c_197_39 rfl (n_getR c_197_40 sc_112.n rfl rfl rfl r_112_19 (n_iload_n c_197_43 rfl (n_aload_n c_197_44 rfl (n_getV (bi := 0) c_197_45 sc_112.n rfl rfl rfl (t_dm hS hdm) ?_))))
        intro z5 ez5 f6
        obtain rfl : z5 = 3 := by omega
        refine n_imul c_197_48 rfl (n_iload_n c_197_49 rfl (n_iadd c_197_50 rfl (n_ialoadV c_197_51 sc_127.n rfl rfl rfl (by omega) (t_127 hS (by omega)) ?_)))
        intro z7 ez7 f8
        refine n_aload_n c_197_52 rfl (n_getR c_197_53 sc_112.n rfl rfl rfl r_112_19 (n_iload_n c_197_56 rfl (n_aload_n c_197_57 rfl (n_getV (bi := 0) c_197_58 sc_112.n rfl rfl rfl (t_dm hS hdm) ?_))))
        intro z9 ez9 f10
        obtain rfl : z9 = 3 := by omega
        refine n_imul c_197_61 rfl (n_iload_n c_197_62 rfl (n_iadd c_197_63 rfl (n_ialoadV c_197_64 sc_127.n rfl rfl rfl (by omega) (t_127 hS (by omega)) ?_)))
        intro z11 ez11 f12
        refine n_if2_eq c_197_65 (by omega) (by omega) ?_ ?_
        · intro h13
          refine n_iconst c_197_70 (n_istore_n (L2 := [some (2, 112), some (0, x1), some (0, x2), some (0, 0)]) c_197_71 rfl rfl (n_fg (le_s (le_s (le_s (le_s le_0)))) ?_))
          exact ih.2.2 _ _ _ (by omega) (by omega) (by omega) (by omega)
        · intro h14
          refine n_iconst c_197_68 ?_
          exact n_rZ c_197_69 rfl (by omega) ⟨rfl, by omega⟩
    · intro x1 x2 x3 k1 k2 k3 hnn
      refine n_iload_n c_197_72 rfl (n_aload_n c_197_73 rfl (n_getV (bi := 0) c_197_74 sc_112.n rfl rfl rfl (t_dm hS hdm) ?_))
      intro z1 ez1 f2
      obtain rfl : z1 = 3 := by omega
      refine n_if2_ge c_197_77 (by omega) (by omega) ?_ ?_
      · intro h3
        refine n_iinc (L2 := [some (2, 112), some (0, x1), some (0, (x2 + 1)), some (0, x3)]) c_197_141 rfl rfl rfl (n_goto c_197_144 (n_fg (le_s (le_s (le_s (le_n le_0)))) ?_))
        exact ih.2.1 _ _ (by omega) (by omega) (by omega)
      · intro h4
        refine n_aload_n c_197_80 rfl (n_getR c_197_81 sc_112.n rfl rfl rfl r_112_19 (n_aload_n c_197_84 rfl (n_getR c_197_85 sc_112.n rfl rfl rfl r_112_19 (n_iload_n c_197_88 rfl (n_aload_n c_197_89 rfl (n_getV (bi := 0) c_197_90 sc_112.n rfl rfl rfl (t_dm hS hdm) ?_))))))
        intro z5 ez5 f6
        obtain rfl : z5 = 3 := by omega
        refine n_imul c_197_93 rfl (n_iload_n c_197_94 rfl (n_iadd c_197_95 rfl (n_ialoadV c_197_96 sc_127.n rfl rfl rfl (by omega) (t_127 hS (by omega)) ?_)))
        intro z7 ez7 f8
        refine n_aload_n c_197_97 rfl (n_getV (bi := 0) c_197_98 sc_112.n rfl rfl rfl (t_dm hS hdm) ?_)
        intro z9 ez9 f10
        obtain rfl : z9 = 3 := by omega
        refine n_imul c_197_101 rfl (n_iload_n c_197_102 rfl (n_iadd c_197_103 rfl (n_ialoadV c_197_104 sc_127.n rfl rfl rfl (by omega) (t_127 hS (by omega)) ?_)))
        intro z11 ez11 f12
        refine n_aload_n c_197_105 rfl (n_getR c_197_106 sc_112.n rfl rfl rfl r_112_19 (n_iload_n c_197_109 rfl (n_aload_n c_197_110 rfl (n_getV (bi := 0) c_197_111 sc_112.n rfl rfl rfl (t_dm hS hdm) ?_))))
        intro z13 ez13 f14
        obtain rfl : z13 = 3 := by omega
        refine n_imul c_197_114 rfl (n_aload_n c_197_115 rfl (n_getR c_197_116 sc_112.n rfl rfl rfl r_112_19 (n_iload_n c_197_119 rfl (n_aload_n c_197_120 rfl (n_getV (bi := 0) c_197_121 sc_112.n rfl rfl rfl (t_dm hS hdm) ?_)))))
        intro z15 ez15 f16
        obtain rfl : z15 = 3 := by omega
        refine n_imul c_197_124 rfl (n_iload_n c_197_125 rfl (n_iadd c_197_126 rfl (n_ialoadV c_197_127 sc_127.n rfl rfl rfl (by omega) (t_127 hS (by omega)) ?_)))
        intro z17 ez17 f18
        refine n_iadd c_197_128 rfl (n_ialoadV c_197_129 sc_127.n rfl rfl rfl (by omega) (t_127 hS (by omega)) ?_)
        intro z19 ez19 f20
        refine n_if2_eq c_197_130 (by omega) (by omega) ?_ ?_
        · intro h21
          refine n_iinc (L2 := [some (2, 112), some (0, x1), some (0, x2), some (0, (x3 + 1))]) c_197_135 rfl rfl rfl (n_goto c_197_138 (n_fg (le_s (le_s (le_s (le_s le_0)))) ?_))
          exact ih.2.2 _ _ _ (by omega) (by omega) (by omega) (by omega)
        · intro h22
          refine n_iconst c_197_133 ?_
          exact n_rZ c_197_134 rfl (by omega) ⟨rfl, by omega⟩
set_option maxHeartbeats 4000000 in
theorem misHalf_3 {xs : List Int32} {e : Nat} {ac : Int} {M0 M : nM} (hS : Sf 3 ac M0 M) (hdm : M0 112 0 = 3) : nW xs e 197 0 [some (2, 112), none, none, none] [] M (nPI fun z M1 => M = M1 ∧ (0 ≤ z ∧ z ≤ 1)) := by
  have hd : (3 : Int) = 2 ∨ (3 : Int) = 3 := by decide
  have hac := hS.2.2.2.2
  refine n_iconst c_197_0 (n_istore_n (L2 := [some (2, 112), some (0, 0), none, none]) c_197_1 rfl rfl (n_fg (le_s (le_s (le_n (le_n le_0)))) ?_))
  exact (misHalf_3_c hS hdm 320).1 _ (by omega) (by omega)

set_option maxHeartbeats 4000000 in
theorem mhandCode_3_c {xs : List Int32} {e : Nat} {ac : Int} {M0 M : nM} (hS : Sf 3 ac M0 M) (hdm : M0 112 0 = 3) : ∀ nn : Nat, (∀ (x1 x3 : Int), (-9223372036854775808 ≤ x1 ∧ x1 ≤ 9223372036854775807) → (-1 ≤ x3 ∧ x3 ≤ 26) → (x3 - (-1)) * 1 + 1 < (nn : Int) → nW xs (e + 1) 198 13 [some (2, 112), some (1, x1), none, some (0, x3)] [] M (nPJ fun z M1 => M = M1 ∧ (-9223372036854775808 ≤ z ∧ z ≤ 9223372036854775807))) := by
  have hd : (3 : Int) = 2 ∨ (3 : Int) = 3 := by decide
  have hac := hS.2.2.2.2
  intro nn
  induction nn with
  | zero => intros; omega
  | succ nn ih =>
    intro x1 x3 k1 k3 hnn
    refine n_iload_n c_198_13 rfl ?_
    refine n_if0_lt c_198_14 (by omega) ?_ ?_
    · intro h1
      refine n_lload_n c_198_39 rfl ?_
      exact n_rJ c_198_40 rfl ⟨rfl, by omega⟩
    · intro h2
      refine n_lload_n c_198_17 rfl (n_aload_n c_198_18 rfl (n_getV (bi := 0) c_198_19 sc_112.n rfl rfl rfl (t_dm hS hdm) ?_))
      intro z3 ez3 f4
      obtain rfl : z3 = 3 := by omega
      refine n_i2l c_198_22 (by omega) ?_
      refine n_lmul c_198_23 rfl (n_wrapl ?_)
      have f5 := n_wl_r (x1 * 3)
      generalize n_wl (x1 * 3) = z6 at f5 ⊢
      refine n_aload_n c_198_24 rfl (n_getR c_198_25 sc_112.n rfl rfl rfl r_112_19 (n_iload_n c_198_28 rfl (n_ialoadV c_198_29 sc_127.n rfl rfl rfl (by omega) (t_127 hS (by omega)) ?_)))
      intro z7 ez7 f8
      refine n_i2l c_198_30 (by omega) ?_
      refine n_ladd c_198_31 rfl (n_wrapl ?_)
      have f9 := n_wl_r (z6 + z7)
      generalize n_wl (z6 + z7) = z10 at f9 ⊢
      refine n_lstore_n (L2 := [some (2, 112), some (1, z10), none, some (0, x3)]) c_198_32 rfl rfl (n_iinc (L2 := [some (2, 112), some (1, z10), none, some (0, (x3 + (-1)))]) c_198_33 rfl rfl rfl (n_goto c_198_36 (n_fg (le_s (le_s (le_n (le_s le_0)))) ?_)))
      exact ih _ _ (by omega) (by omega) (by omega)
set_option maxHeartbeats 4000000 in
theorem mhandCode_3 {xs : List Int32} {e : Nat} {ac : Int} {M0 M : nM} (hS : Sf 3 ac M0 M) (hdm : M0 112 0 = 3) : nW xs (e + 1) 198 0 [some (2, 112), none, none, none] [] M (nPJ fun z M1 => M = M1 ∧ (-9223372036854775808 ≤ z ∧ z ≤ 9223372036854775807)) := by
  have hd : (3 : Int) = 2 ∨ (3 : Int) = 3 := by decide
  have hac := hS.2.2.2.2
  refine n_lconst (n := 0) c_198_0 rfl (n_lstore_n (L2 := [some (2, 112), some (1, 0), none, none]) c_198_1 rfl rfl (n_aload_n c_198_2 rfl (n_getV (bi := 0) c_198_3 sc_112.n rfl rfl rfl (t_dm hS hdm) ?_)))
  intro z1 ez1 f2
  obtain rfl : z1 = 3 := by omega
  refine n_iconst c_198_6 (n_s2I c_198_7 rfl rfl rfl rfl (mpower3_3  hS ) ?_)
  intro z3 M4 hP5
  obtain ⟨eM, f5⟩ := hP5
  subst eM
  obtain rfl : z3 = 27 := by omega
  refine n_iconst c_198_10 (n_isub c_198_11 rfl (n_istore_n (L2 := [some (2, 112), some (1, 0), none, some (0, (27 - 1))]) c_198_12 rfl rfl (n_fg (le_s (le_s (le_n (le_s le_0)))) ?_)))
  exact (mhandCode_3_c hS hdm 68) _ _ (by omega) (by omega) (by omega)

set_option maxHeartbeats 4000000 in
theorem mdigit_3 {xs : List Int32} {e : Nat} {ac : Int} {M0 M : nM} {r k j : Int} (hS : Sf 3 ac M0 M) (hdm : M0 112 0 = 3) (hr : 0 ≤ r ∧ r ≤ 2147483647) (hk : 0 ≤ k ∧ k ≤ 9) (hj : 0 ≤ j ∧ j ≤ 8) (hkj : j < k) : nW xs (e + 1) 152 0 [some (2, 112), some (0, r), some (0, k), some (0, j)] [] M (nPI fun z M1 => M = M1 ∧ (0 ≤ z ∧ z ≤ 2)) := by
  have hd : (3 : Int) = 2 ∨ (3 : Int) = 3 := by decide
  have hac := hS.2.2.2.2
  refine n_iload_n c_152_0 rfl (n_aload_n c_152_1 rfl (n_getV (bi := 0) c_152_2 sc_112.n rfl rfl rfl (t_dm hS hdm) ?_))
  intro z1 ez1 f2
  obtain rfl : z1 = 3 := by omega
  refine n_iload_n c_152_5 rfl (n_iconst c_152_6 (n_isub c_152_7 rfl (n_iload_n c_152_8 rfl (n_isub c_152_9 rfl (n_s2I c_152_10 rfl rfl rfl rfl (mpowerU_3 (n := ((k - 1) - j)) hS (by omega)) ?_)))))
  intro z3 M4 hP5
  obtain ⟨eM, f5⟩ := hP5
  subst eM
  refine n_idivV c_152_13 (by omega) (by omega) ?_
  intro z6 _ f7
  refine n_aload_n c_152_14 rfl (n_getV (bi := 0) c_152_15 sc_112.n rfl rfl rfl (t_dm hS hdm) ?_)
  intro z8 ez8 f9
  obtain rfl : z8 = 3 := by omega
  refine n_iremV c_152_18 (by omega) (by omega) ?_
  intro z10 _ f11
  exact n_rI c_152_19 rfl ⟨rfl, by omega⟩

set_option maxHeartbeats 4000000 in
theorem mjoined3_3_c {xs : List Int32} {e : Nat} {ac : Int} {M0 M : nM} {a x y w s : Int} (hS : Sf 3 ac M0 M) (hdm : M0 112 0 = 3) (ha : 0 ≤ a ∧ a ≤ 7) (hx : 0 ≤ x ∧ x ≤ 256) (hy : 0 ≤ y ∧ y ≤ 256) (hw : 0 ≤ w ∧ w ≤ 256) (hs : 0 ≤ s ∧ s ≤ 1000000) : ∀ nn : Nat, (∀ (x8 : Int) (M : nM), Sf 3 ac M0 M → (0 ≤ x8 ∧ x8 ≤ 26) → 2 < (nn : Int) → nW xs e 163 145 [some (2, 112), none, none, none, none, none, some (0, s), none, some (0, x8), none, none] [] M (nPV fun M1 => Sf 3 ac M0 M1)) ∧ (∀ (M : nM), Sf 3 ac M0 M → 1 < (nn : Int) → nW xs e 163 156 [none, none, none, none, none, none, none, none, none, none, none] [] M (nPV fun M1 => Sf 3 ac M0 M1)) := by
  have hd : (3 : Int) = 2 ∨ (3 : Int) = 3 := by decide
  have hac := hS.2.2.2.2
  intro nn
  induction nn with
  | zero => refine ⟨?_, ?_⟩ <;> (intros; omega)
  | succ nn ih =>
    refine ⟨?_, ?_⟩
    · intro x8 M hS k8 hnn
      refine n_aload_n c_163_145 rfl (n_getR c_163_146 sc_112.n rfl rfl rfl r_112_17 (n_iload c_163_149 rfl (n_iload c_163_151 rfl (n_iconst c_163_153 (n_iadd c_163_154 rfl (n_iastoreV hS c_163_155 sc_125.n rfl (by omega) (w_125 (by omega) (by omega)) ?_))))))
      intro M1 eM1 hS1
      refine n_fg (le_n (le_n (le_n (le_n (le_n (le_n (le_n (le_n (le_n (le_n (le_n le_0))))))))))) ?_
      exact ih.2  M1 hS1  (by omega)
    · intro M hS hnn
      exact n_rV c_163_156 rfl hS
set_option maxHeartbeats 4000000 in
theorem mjoined3_3 {xs : List Int32} {e : Nat} {ac : Int} {M0 M : nM} {a x y w s : Int} (hS : Sf 3 ac M0 M) (hdm : M0 112 0 = 3) (ha : 0 ≤ a ∧ a ≤ 7) (hx : 0 ≤ x ∧ x ≤ 256) (hy : 0 ≤ y ∧ y ≤ 256) (hw : 0 ≤ w ∧ w ≤ 256) (hs : 0 ≤ s ∧ s ≤ 1000000) : nW xs e 163 0 [some (2, 112), some (0, a), some (0, 3), some (0, x), some (0, y), some (0, w), some (0, s), none, none, none, none] [] M (nPV fun M1 => Sf 3 ac M0 M1) := by
  have hd : (3 : Int) = 2 ∨ (3 : Int) = 3 := by decide
  have hac := hS.2.2.2.2
  refine n_aload_n c_163_0 rfl (n_getR c_163_1 sc_112.n rfl rfl rfl r_112_5 (n_iload_n c_163_4 rfl (n_ialoadV c_163_5 sc_116.n rfl rfl rfl (by omega) (t_116 hS (by omega)) ?_)))
  intro z1 ez1 f2
  refine n_istore (L2 := [some (2, 112), some (0, a), some (0, 3), some (0, x), some (0, y), some (0, w), some (0, s), some (0, z1), none, none, none]) c_163_6 rfl rfl (n_iconst c_163_8 (n_istore (L2 := [some (2, 112), some (0, a), some (0, 3), some (0, x), some (0, y), some (0, w), some (0, s), some (0, z1), some (0, 0), none, none]) c_163_9 rfl rfl (n_iload_n c_163_11 rfl (n_iconst c_163_12 (n_isub c_163_13 rfl (n_istore (L2 := [some (2, 112), some (0, a), some (0, 3), some (0, x), some (0, y), some (0, w), some (0, s), some (0, z1), some (0, 0), some (0, (3 - 1)), none]) c_163_14 rfl rfl (n_iload c_163_16 rfl ?_)))))))
  refine n_if0_lt c_163_18 (by omega) ?_ ?_
  · intro h3
    exfalso; omega
  · intro h4
    refine n_aload_n c_163_21 rfl (n_getR c_163_22 sc_112.n rfl rfl rfl r_112_18 (n_bipush c_163_25 rfl (n_iload_n c_163_27 rfl (n_imul c_163_28 rfl (n_iload c_163_29 rfl (n_iadd c_163_31 rfl (n_ialoadV c_163_32 sc_126.n rfl rfl rfl (by omega) (t_126 hS (by omega)) ?_)))))))
    intro z5 ez5 f6
    refine n_istore (L2 := [some (2, 112), some (0, a), some (0, 3), some (0, x), some (0, y), some (0, w), some (0, s), some (0, z1), some (0, 0), some (0, (3 - 1)), some (0, z5)]) c_163_33 rfl rfl (n_iload c_163_35 rfl (n_iconst c_163_37 ?_))
    refine n_if2_le c_163_38 (by omega) (by omega) ?_ ?_
    · intro h7
      refine n_iload c_163_64 rfl (n_iconst c_163_66 ?_)
      refine n_if2_le c_163_67 (by omega) (by omega) ?_ ?_
      · intro h8
        refine n_iload c_163_93 rfl (n_aload_n c_163_95 rfl (n_getV (bi := 0) c_163_96 sc_112.n rfl rfl rfl (t_dm hS hdm) ?_))
        intro z9 ez9 f10
        obtain rfl : z9 = 3 := by omega
        refine n_imul c_163_99 rfl (n_aload_n c_163_100 rfl (n_getR c_163_101 sc_112.n rfl rfl rfl r_112_6 (n_bipush c_163_104 rfl (n_iload_n c_163_106 rfl (n_imul c_163_107 rfl (n_iload c_163_108 rfl (n_iadd c_163_110 rfl (n_ialoadV c_163_111 sc_117.n rfl rfl rfl (by omega) (t_117 hS (by omega)) ?_))))))))
        intro z11 ez11 f12
        refine n_iadd c_163_112 rfl (n_istore (L2 := [some (2, 112), some (0, a), some (0, 3), some (0, x), some (0, y), some (0, w), some (0, s), some (0, z1), some (0, ((0 * 3) + z11)), some (0, (3 - 1)), some (0, z5)]) c_163_113 rfl rfl (n_iinc (L2 := [some (2, 112), some (0, a), some (0, 3), some (0, x), some (0, y), some (0, w), some (0, s), some (0, z1), some (0, ((0 * 3) + z11)), some (0, ((3 - 1) + (-1))), some (0, z5)]) c_163_115 rfl rfl rfl (n_goto c_163_118 (n_iload c_163_16 rfl ?_))))
        refine n_if0_lt c_163_18 (by omega) ?_ ?_
        · intro h13
          exfalso; omega
        · intro h14
          refine n_aload_n c_163_21 rfl (n_getR c_163_22 sc_112.n rfl rfl rfl r_112_18 (n_bipush c_163_25 rfl (n_iload_n c_163_27 rfl (n_imul c_163_28 rfl (n_iload c_163_29 rfl (n_iadd c_163_31 rfl (n_ialoadV c_163_32 sc_126.n rfl rfl rfl (by omega) (t_126 hS (by omega)) ?_)))))))
          intro z15 ez15 f16
          refine n_istore (L2 := [some (2, 112), some (0, a), some (0, 3), some (0, x), some (0, y), some (0, w), some (0, s), some (0, z1), some (0, ((0 * 3) + z11)), some (0, ((3 - 1) + (-1))), some (0, z15)]) c_163_33 rfl rfl (n_iload c_163_35 rfl (n_iconst c_163_37 ?_))
          refine n_if2_le c_163_38 (by omega) (by omega) ?_ ?_
          · intro h17
            refine n_iload c_163_64 rfl (n_iconst c_163_66 ?_)
            refine n_if2_le c_163_67 (by omega) (by omega) ?_ ?_
            · intro h18
              refine n_iload c_163_93 rfl (n_aload_n c_163_95 rfl (n_getV (bi := 0) c_163_96 sc_112.n rfl rfl rfl (t_dm hS hdm) ?_))
              intro z19 ez19 f20
              obtain rfl : z19 = 3 := by omega
              refine n_imul c_163_99 rfl (n_aload_n c_163_100 rfl (n_getR c_163_101 sc_112.n rfl rfl rfl r_112_6 (n_bipush c_163_104 rfl (n_iload_n c_163_106 rfl (n_imul c_163_107 rfl (n_iload c_163_108 rfl (n_iadd c_163_110 rfl (n_ialoadV c_163_111 sc_117.n rfl rfl rfl (by omega) (t_117 hS (by omega)) ?_))))))))
              intro z21 ez21 f22
              refine n_iadd c_163_112 rfl (n_istore (L2 := [some (2, 112), some (0, a), some (0, 3), some (0, x), some (0, y), some (0, w), some (0, s), some (0, z1), some (0, ((((0 * 3) + z11) * 3) + z21)), some (0, ((3 - 1) + (-1))), some (0, z15)]) c_163_113 rfl rfl (n_iinc (L2 := [some (2, 112), some (0, a), some (0, 3), some (0, x), some (0, y), some (0, w), some (0, s), some (0, z1), some (0, ((((0 * 3) + z11) * 3) + z21)), some (0, (((3 - 1) + (-1)) + (-1))), some (0, z15)]) c_163_115 rfl rfl rfl (n_goto c_163_118 (n_iload c_163_16 rfl ?_))))
              refine n_if0_lt c_163_18 (by omega) ?_ ?_
              · intro h23
                exfalso; omega
              · intro h24
                refine n_aload_n c_163_21 rfl (n_getR c_163_22 sc_112.n rfl rfl rfl r_112_18 (n_bipush c_163_25 rfl (n_iload_n c_163_27 rfl (n_imul c_163_28 rfl (n_iload c_163_29 rfl (n_iadd c_163_31 rfl (n_ialoadV c_163_32 sc_126.n rfl rfl rfl (by omega) (t_126 hS (by omega)) ?_)))))))
                intro z25 ez25 f26
                refine n_istore (L2 := [some (2, 112), some (0, a), some (0, 3), some (0, x), some (0, y), some (0, w), some (0, s), some (0, z1), some (0, ((((0 * 3) + z11) * 3) + z21)), some (0, (((3 - 1) + (-1)) + (-1))), some (0, z25)]) c_163_33 rfl rfl (n_iload c_163_35 rfl (n_iconst c_163_37 ?_))
                refine n_if2_le c_163_38 (by omega) (by omega) ?_ ?_
                · intro h27
                  refine n_iload c_163_64 rfl (n_iconst c_163_66 ?_)
                  refine n_if2_le c_163_67 (by omega) (by omega) ?_ ?_
                  · intro h28
                    refine n_iload c_163_93 rfl (n_aload_n c_163_95 rfl (n_getV (bi := 0) c_163_96 sc_112.n rfl rfl rfl (t_dm hS hdm) ?_))
                    intro z29 ez29 f30
                    obtain rfl : z29 = 3 := by omega
                    refine n_imul c_163_99 rfl (n_aload_n c_163_100 rfl (n_getR c_163_101 sc_112.n rfl rfl rfl r_112_6 (n_bipush c_163_104 rfl (n_iload_n c_163_106 rfl (n_imul c_163_107 rfl (n_iload c_163_108 rfl (n_iadd c_163_110 rfl (n_ialoadV c_163_111 sc_117.n rfl rfl rfl (by omega) (t_117 hS (by omega)) ?_))))))))
                    intro z31 ez31 f32
                    refine n_iadd c_163_112 rfl (n_istore (L2 := [some (2, 112), some (0, a), some (0, 3), some (0, x), some (0, y), some (0, w), some (0, s), some (0, z1), some (0, ((((((0 * 3) + z11) * 3) + z21) * 3) + z31)), some (0, (((3 - 1) + (-1)) + (-1))), some (0, z25)]) c_163_113 rfl rfl (n_iinc (L2 := [some (2, 112), some (0, a), some (0, 3), some (0, x), some (0, y), some (0, w), some (0, s), some (0, z1), some (0, ((((((0 * 3) + z11) * 3) + z21) * 3) + z31)), some (0, ((((3 - 1) + (-1)) + (-1)) + (-1))), some (0, z25)]) c_163_115 rfl rfl rfl (n_goto c_163_118 (n_iload c_163_16 rfl ?_))))
                    refine n_if0_lt c_163_18 (by omega) ?_ ?_
                    · intro h33
                      refine n_aload_n c_163_121 rfl (n_getR c_163_122 sc_112.n rfl rfl rfl r_112_17 (n_iload c_163_125 rfl (n_ialoadV c_163_127 sc_125.n rfl rfl rfl (by omega) (t_125 hS (by omega)) ?_)))
                      intro z34 ez34 f35
                      refine n_if0_eq c_163_128 (by omega) ?_ ?_
                      · intro h36
                        refine n_fg (le_s (le_n (le_n (le_n (le_n (le_n (le_s (le_n (le_s (le_n (le_n le_0))))))))))) ?_
                        exact (mjoined3_3_c hS hdm ha hx hy hw hs 14).1 _ M hS (by omega) (by omega)
                      · intro h37
                        refine n_aload_n c_163_131 rfl (n_getR c_163_132 sc_112.n rfl rfl rfl r_112_17 (n_iload c_163_135 rfl (n_ialoadV c_163_137 sc_125.n rfl rfl rfl (by omega) (t_125 hS (by omega)) ?_)))
                        intro z38 ez38 f39
                        refine n_iload c_163_138 rfl (n_iconst c_163_140 (n_iadd c_163_141 rfl ?_))
                        refine n_if2_le c_163_142 (by omega) (by omega) ?_ ?_
                        · intro h40
                          refine n_fg (le_n (le_n (le_n (le_n (le_n (le_n (le_n (le_n (le_n (le_n (le_n le_0))))))))))) ?_
                          exact (mjoined3_3_c hS hdm ha hx hy hw hs 14).2  M hS  (by omega)
                        · intro h41
                          refine n_fg (le_s (le_n (le_n (le_n (le_n (le_n (le_s (le_n (le_s (le_n (le_n le_0))))))))))) ?_
                          exact (mjoined3_3_c hS hdm ha hx hy hw hs 14).1 _ M hS (by omega) (by omega)
                    · intro h42
                      exfalso; omega
                  · intro h43
                    exfalso; omega
                · intro h44
                  exfalso; omega
            · intro h45
              exfalso; omega
          · intro h46
            exfalso; omega
      · intro h47
        exfalso; omega
    · intro h48
      refine n_iload c_163_41 rfl (n_aload_n c_163_43 rfl (n_getV (bi := 0) c_163_44 sc_112.n rfl rfl rfl (t_dm hS hdm) ?_))
      intro z49 ez49 f50
      obtain rfl : z49 = 3 := by omega
      refine n_imul c_163_47 rfl (n_aload_n c_163_48 rfl (n_getR c_163_49 sc_112.n rfl rfl rfl r_112_18 (n_bipush c_163_52 rfl (n_iload c_163_54 rfl (n_imul c_163_56 rfl (n_iload c_163_57 rfl (n_iadd c_163_59 rfl (n_ialoadV c_163_60 sc_126.n rfl rfl rfl (by omega) (t_126 hS (by omega)) ?_))))))))
      intro z51 ez51 f52
      refine n_iadd c_163_61 rfl (n_istore (L2 := [some (2, 112), some (0, a), some (0, 3), some (0, x), some (0, y), some (0, w), some (0, s), some (0, z1), some (0, 0), some (0, (3 - 1)), some (0, ((z5 * 3) + z51))]) c_163_62 rfl rfl (n_iload c_163_64 rfl (n_iconst c_163_66 ?_)))
      refine n_if2_le c_163_67 (by omega) (by omega) ?_ ?_
      · intro h53
        refine n_iload c_163_93 rfl (n_aload_n c_163_95 rfl (n_getV (bi := 0) c_163_96 sc_112.n rfl rfl rfl (t_dm hS hdm) ?_))
        intro z54 ez54 f55
        obtain rfl : z54 = 3 := by omega
        refine n_imul c_163_99 rfl (n_aload_n c_163_100 rfl (n_getR c_163_101 sc_112.n rfl rfl rfl r_112_6 (n_bipush c_163_104 rfl (n_iload_n c_163_106 rfl (n_imul c_163_107 rfl (n_iload c_163_108 rfl (n_iadd c_163_110 rfl (n_ialoadV c_163_111 sc_117.n rfl rfl rfl (by omega) (t_117 hS (by omega)) ?_))))))))
        intro z56 ez56 f57
        refine n_iadd c_163_112 rfl (n_istore (L2 := [some (2, 112), some (0, a), some (0, 3), some (0, x), some (0, y), some (0, w), some (0, s), some (0, z1), some (0, ((0 * 3) + z56)), some (0, (3 - 1)), some (0, ((z5 * 3) + z51))]) c_163_113 rfl rfl (n_iinc (L2 := [some (2, 112), some (0, a), some (0, 3), some (0, x), some (0, y), some (0, w), some (0, s), some (0, z1), some (0, ((0 * 3) + z56)), some (0, ((3 - 1) + (-1))), some (0, ((z5 * 3) + z51))]) c_163_115 rfl rfl rfl (n_goto c_163_118 (n_iload c_163_16 rfl ?_))))
        refine n_if0_lt c_163_18 (by omega) ?_ ?_
        · intro h58
          exfalso; omega
        · intro h59
          refine n_aload_n c_163_21 rfl (n_getR c_163_22 sc_112.n rfl rfl rfl r_112_18 (n_bipush c_163_25 rfl (n_iload_n c_163_27 rfl (n_imul c_163_28 rfl (n_iload c_163_29 rfl (n_iadd c_163_31 rfl (n_ialoadV c_163_32 sc_126.n rfl rfl rfl (by omega) (t_126 hS (by omega)) ?_)))))))
          intro z60 ez60 f61
          refine n_istore (L2 := [some (2, 112), some (0, a), some (0, 3), some (0, x), some (0, y), some (0, w), some (0, s), some (0, z1), some (0, ((0 * 3) + z56)), some (0, ((3 - 1) + (-1))), some (0, z60)]) c_163_33 rfl rfl (n_iload c_163_35 rfl (n_iconst c_163_37 ?_))
          refine n_if2_le c_163_38 (by omega) (by omega) ?_ ?_
          · intro h62
            exfalso; omega
          · intro h63
            refine n_iload c_163_41 rfl (n_aload_n c_163_43 rfl (n_getV (bi := 0) c_163_44 sc_112.n rfl rfl rfl (t_dm hS hdm) ?_))
            intro z64 ez64 f65
            obtain rfl : z64 = 3 := by omega
            refine n_imul c_163_47 rfl (n_aload_n c_163_48 rfl (n_getR c_163_49 sc_112.n rfl rfl rfl r_112_18 (n_bipush c_163_52 rfl (n_iload c_163_54 rfl (n_imul c_163_56 rfl (n_iload c_163_57 rfl (n_iadd c_163_59 rfl (n_ialoadV c_163_60 sc_126.n rfl rfl rfl (by omega) (t_126 hS (by omega)) ?_))))))))
            intro z66 ez66 f67
            refine n_iadd c_163_61 rfl (n_istore (L2 := [some (2, 112), some (0, a), some (0, 3), some (0, x), some (0, y), some (0, w), some (0, s), some (0, z1), some (0, ((0 * 3) + z56)), some (0, ((3 - 1) + (-1))), some (0, ((z60 * 3) + z66))]) c_163_62 rfl rfl (n_iload c_163_64 rfl (n_iconst c_163_66 ?_)))
            refine n_if2_le c_163_67 (by omega) (by omega) ?_ ?_
            · intro h68
              refine n_iload c_163_93 rfl (n_aload_n c_163_95 rfl (n_getV (bi := 0) c_163_96 sc_112.n rfl rfl rfl (t_dm hS hdm) ?_))
              intro z69 ez69 f70
              obtain rfl : z69 = 3 := by omega
              refine n_imul c_163_99 rfl (n_aload_n c_163_100 rfl (n_getR c_163_101 sc_112.n rfl rfl rfl r_112_6 (n_bipush c_163_104 rfl (n_iload_n c_163_106 rfl (n_imul c_163_107 rfl (n_iload c_163_108 rfl (n_iadd c_163_110 rfl (n_ialoadV c_163_111 sc_117.n rfl rfl rfl (by omega) (t_117 hS (by omega)) ?_))))))))
              intro z71 ez71 f72
              refine n_iadd c_163_112 rfl (n_istore (L2 := [some (2, 112), some (0, a), some (0, 3), some (0, x), some (0, y), some (0, w), some (0, s), some (0, z1), some (0, ((((0 * 3) + z56) * 3) + z71)), some (0, ((3 - 1) + (-1))), some (0, ((z60 * 3) + z66))]) c_163_113 rfl rfl (n_iinc (L2 := [some (2, 112), some (0, a), some (0, 3), some (0, x), some (0, y), some (0, w), some (0, s), some (0, z1), some (0, ((((0 * 3) + z56) * 3) + z71)), some (0, (((3 - 1) + (-1)) + (-1))), some (0, ((z60 * 3) + z66))]) c_163_115 rfl rfl rfl (n_goto c_163_118 (n_iload c_163_16 rfl ?_))))
              refine n_if0_lt c_163_18 (by omega) ?_ ?_
              · intro h73
                exfalso; omega
              · intro h74
                refine n_aload_n c_163_21 rfl (n_getR c_163_22 sc_112.n rfl rfl rfl r_112_18 (n_bipush c_163_25 rfl (n_iload_n c_163_27 rfl (n_imul c_163_28 rfl (n_iload c_163_29 rfl (n_iadd c_163_31 rfl (n_ialoadV c_163_32 sc_126.n rfl rfl rfl (by omega) (t_126 hS (by omega)) ?_)))))))
                intro z75 ez75 f76
                refine n_istore (L2 := [some (2, 112), some (0, a), some (0, 3), some (0, x), some (0, y), some (0, w), some (0, s), some (0, z1), some (0, ((((0 * 3) + z56) * 3) + z71)), some (0, (((3 - 1) + (-1)) + (-1))), some (0, z75)]) c_163_33 rfl rfl (n_iload c_163_35 rfl (n_iconst c_163_37 ?_))
                refine n_if2_le c_163_38 (by omega) (by omega) ?_ ?_
                · intro h77
                  exfalso; omega
                · intro h78
                  refine n_iload c_163_41 rfl (n_aload_n c_163_43 rfl (n_getV (bi := 0) c_163_44 sc_112.n rfl rfl rfl (t_dm hS hdm) ?_))
                  intro z79 ez79 f80
                  obtain rfl : z79 = 3 := by omega
                  refine n_imul c_163_47 rfl (n_aload_n c_163_48 rfl (n_getR c_163_49 sc_112.n rfl rfl rfl r_112_18 (n_bipush c_163_52 rfl (n_iload c_163_54 rfl (n_imul c_163_56 rfl (n_iload c_163_57 rfl (n_iadd c_163_59 rfl (n_ialoadV c_163_60 sc_126.n rfl rfl rfl (by omega) (t_126 hS (by omega)) ?_))))))))
                  intro z81 ez81 f82
                  refine n_iadd c_163_61 rfl (n_istore (L2 := [some (2, 112), some (0, a), some (0, 3), some (0, x), some (0, y), some (0, w), some (0, s), some (0, z1), some (0, ((((0 * 3) + z56) * 3) + z71)), some (0, (((3 - 1) + (-1)) + (-1))), some (0, ((z75 * 3) + z81))]) c_163_62 rfl rfl (n_iload c_163_64 rfl (n_iconst c_163_66 ?_)))
                  refine n_if2_le c_163_67 (by omega) (by omega) ?_ ?_
                  · intro h83
                    refine n_iload c_163_93 rfl (n_aload_n c_163_95 rfl (n_getV (bi := 0) c_163_96 sc_112.n rfl rfl rfl (t_dm hS hdm) ?_))
                    intro z84 ez84 f85
                    obtain rfl : z84 = 3 := by omega
                    refine n_imul c_163_99 rfl (n_aload_n c_163_100 rfl (n_getR c_163_101 sc_112.n rfl rfl rfl r_112_6 (n_bipush c_163_104 rfl (n_iload_n c_163_106 rfl (n_imul c_163_107 rfl (n_iload c_163_108 rfl (n_iadd c_163_110 rfl (n_ialoadV c_163_111 sc_117.n rfl rfl rfl (by omega) (t_117 hS (by omega)) ?_))))))))
                    intro z86 ez86 f87
                    refine n_iadd c_163_112 rfl (n_istore (L2 := [some (2, 112), some (0, a), some (0, 3), some (0, x), some (0, y), some (0, w), some (0, s), some (0, z1), some (0, ((((((0 * 3) + z56) * 3) + z71) * 3) + z86)), some (0, (((3 - 1) + (-1)) + (-1))), some (0, ((z75 * 3) + z81))]) c_163_113 rfl rfl (n_iinc (L2 := [some (2, 112), some (0, a), some (0, 3), some (0, x), some (0, y), some (0, w), some (0, s), some (0, z1), some (0, ((((((0 * 3) + z56) * 3) + z71) * 3) + z86)), some (0, ((((3 - 1) + (-1)) + (-1)) + (-1))), some (0, ((z75 * 3) + z81))]) c_163_115 rfl rfl rfl (n_goto c_163_118 (n_iload c_163_16 rfl ?_))))
                    refine n_if0_lt c_163_18 (by omega) ?_ ?_
                    · intro h88
                      refine n_aload_n c_163_121 rfl (n_getR c_163_122 sc_112.n rfl rfl rfl r_112_17 (n_iload c_163_125 rfl (n_ialoadV c_163_127 sc_125.n rfl rfl rfl (by omega) (t_125 hS (by omega)) ?_)))
                      intro z89 ez89 f90
                      refine n_if0_eq c_163_128 (by omega) ?_ ?_
                      · intro h91
                        refine n_fg (le_s (le_n (le_n (le_n (le_n (le_n (le_s (le_n (le_s (le_n (le_n le_0))))))))))) ?_
                        exact (mjoined3_3_c hS hdm ha hx hy hw hs 14).1 _ M hS (by omega) (by omega)
                      · intro h92
                        refine n_aload_n c_163_131 rfl (n_getR c_163_132 sc_112.n rfl rfl rfl r_112_17 (n_iload c_163_135 rfl (n_ialoadV c_163_137 sc_125.n rfl rfl rfl (by omega) (t_125 hS (by omega)) ?_)))
                        intro z93 ez93 f94
                        refine n_iload c_163_138 rfl (n_iconst c_163_140 (n_iadd c_163_141 rfl ?_))
                        refine n_if2_le c_163_142 (by omega) (by omega) ?_ ?_
                        · intro h95
                          refine n_fg (le_n (le_n (le_n (le_n (le_n (le_n (le_n (le_n (le_n (le_n (le_n le_0))))))))))) ?_
                          exact (mjoined3_3_c hS hdm ha hx hy hw hs 14).2  M hS  (by omega)
                        · intro h96
                          refine n_fg (le_s (le_n (le_n (le_n (le_n (le_n (le_s (le_n (le_s (le_n (le_n le_0))))))))))) ?_
                          exact (mjoined3_3_c hS hdm ha hx hy hw hs 14).1 _ M hS (by omega) (by omega)
                    · intro h97
                      exfalso; omega
                  · intro h98
                    exfalso; omega
            · intro h99
              exfalso; omega
      · intro h100
        refine n_iload c_163_70 rfl (n_aload_n c_163_72 rfl (n_getV (bi := 0) c_163_73 sc_112.n rfl rfl rfl (t_dm hS hdm) ?_))
        intro z101 ez101 f102
        obtain rfl : z101 = 3 := by omega
        refine n_imul c_163_76 rfl (n_aload_n c_163_77 rfl (n_getR c_163_78 sc_112.n rfl rfl rfl r_112_18 (n_bipush c_163_81 rfl (n_iload c_163_83 rfl (n_imul c_163_85 rfl (n_iload c_163_86 rfl (n_iadd c_163_88 rfl (n_ialoadV c_163_89 sc_126.n rfl rfl rfl (by omega) (t_126 hS (by omega)) ?_))))))))
        intro z103 ez103 f104
        refine n_iadd c_163_90 rfl (n_istore (L2 := [some (2, 112), some (0, a), some (0, 3), some (0, x), some (0, y), some (0, w), some (0, s), some (0, z1), some (0, 0), some (0, (3 - 1)), some (0, ((((z5 * 3) + z51) * 3) + z103))]) c_163_91 rfl rfl (n_iload c_163_93 rfl (n_aload_n c_163_95 rfl (n_getV (bi := 0) c_163_96 sc_112.n rfl rfl rfl (t_dm hS hdm) ?_))))
        intro z105 ez105 f106
        obtain rfl : z105 = 3 := by omega
        refine n_imul c_163_99 rfl (n_aload_n c_163_100 rfl (n_getR c_163_101 sc_112.n rfl rfl rfl r_112_6 (n_bipush c_163_104 rfl (n_iload_n c_163_106 rfl (n_imul c_163_107 rfl (n_iload c_163_108 rfl (n_iadd c_163_110 rfl (n_ialoadV c_163_111 sc_117.n rfl rfl rfl (by omega) (t_117 hS (by omega)) ?_))))))))
        intro z107 ez107 f108
        refine n_iadd c_163_112 rfl (n_istore (L2 := [some (2, 112), some (0, a), some (0, 3), some (0, x), some (0, y), some (0, w), some (0, s), some (0, z1), some (0, ((0 * 3) + z107)), some (0, (3 - 1)), some (0, ((((z5 * 3) + z51) * 3) + z103))]) c_163_113 rfl rfl (n_iinc (L2 := [some (2, 112), some (0, a), some (0, 3), some (0, x), some (0, y), some (0, w), some (0, s), some (0, z1), some (0, ((0 * 3) + z107)), some (0, ((3 - 1) + (-1))), some (0, ((((z5 * 3) + z51) * 3) + z103))]) c_163_115 rfl rfl rfl (n_goto c_163_118 (n_iload c_163_16 rfl ?_))))
        refine n_if0_lt c_163_18 (by omega) ?_ ?_
        · intro h109
          exfalso; omega
        · intro h110
          refine n_aload_n c_163_21 rfl (n_getR c_163_22 sc_112.n rfl rfl rfl r_112_18 (n_bipush c_163_25 rfl (n_iload_n c_163_27 rfl (n_imul c_163_28 rfl (n_iload c_163_29 rfl (n_iadd c_163_31 rfl (n_ialoadV c_163_32 sc_126.n rfl rfl rfl (by omega) (t_126 hS (by omega)) ?_)))))))
          intro z111 ez111 f112
          refine n_istore (L2 := [some (2, 112), some (0, a), some (0, 3), some (0, x), some (0, y), some (0, w), some (0, s), some (0, z1), some (0, ((0 * 3) + z107)), some (0, ((3 - 1) + (-1))), some (0, z111)]) c_163_33 rfl rfl (n_iload c_163_35 rfl (n_iconst c_163_37 ?_))
          refine n_if2_le c_163_38 (by omega) (by omega) ?_ ?_
          · intro h113
            exfalso; omega
          · intro h114
            refine n_iload c_163_41 rfl (n_aload_n c_163_43 rfl (n_getV (bi := 0) c_163_44 sc_112.n rfl rfl rfl (t_dm hS hdm) ?_))
            intro z115 ez115 f116
            obtain rfl : z115 = 3 := by omega
            refine n_imul c_163_47 rfl (n_aload_n c_163_48 rfl (n_getR c_163_49 sc_112.n rfl rfl rfl r_112_18 (n_bipush c_163_52 rfl (n_iload c_163_54 rfl (n_imul c_163_56 rfl (n_iload c_163_57 rfl (n_iadd c_163_59 rfl (n_ialoadV c_163_60 sc_126.n rfl rfl rfl (by omega) (t_126 hS (by omega)) ?_))))))))
            intro z117 ez117 f118
            refine n_iadd c_163_61 rfl (n_istore (L2 := [some (2, 112), some (0, a), some (0, 3), some (0, x), some (0, y), some (0, w), some (0, s), some (0, z1), some (0, ((0 * 3) + z107)), some (0, ((3 - 1) + (-1))), some (0, ((z111 * 3) + z117))]) c_163_62 rfl rfl (n_iload c_163_64 rfl (n_iconst c_163_66 ?_)))
            refine n_if2_le c_163_67 (by omega) (by omega) ?_ ?_
            · intro h119
              exfalso; omega
            · intro h120
              refine n_iload c_163_70 rfl (n_aload_n c_163_72 rfl (n_getV (bi := 0) c_163_73 sc_112.n rfl rfl rfl (t_dm hS hdm) ?_))
              intro z121 ez121 f122
              obtain rfl : z121 = 3 := by omega
              refine n_imul c_163_76 rfl (n_aload_n c_163_77 rfl (n_getR c_163_78 sc_112.n rfl rfl rfl r_112_18 (n_bipush c_163_81 rfl (n_iload c_163_83 rfl (n_imul c_163_85 rfl (n_iload c_163_86 rfl (n_iadd c_163_88 rfl (n_ialoadV c_163_89 sc_126.n rfl rfl rfl (by omega) (t_126 hS (by omega)) ?_))))))))
              intro z123 ez123 f124
              refine n_iadd c_163_90 rfl (n_istore (L2 := [some (2, 112), some (0, a), some (0, 3), some (0, x), some (0, y), some (0, w), some (0, s), some (0, z1), some (0, ((0 * 3) + z107)), some (0, ((3 - 1) + (-1))), some (0, ((((z111 * 3) + z117) * 3) + z123))]) c_163_91 rfl rfl (n_iload c_163_93 rfl (n_aload_n c_163_95 rfl (n_getV (bi := 0) c_163_96 sc_112.n rfl rfl rfl (t_dm hS hdm) ?_))))
              intro z125 ez125 f126
              obtain rfl : z125 = 3 := by omega
              refine n_imul c_163_99 rfl (n_aload_n c_163_100 rfl (n_getR c_163_101 sc_112.n rfl rfl rfl r_112_6 (n_bipush c_163_104 rfl (n_iload_n c_163_106 rfl (n_imul c_163_107 rfl (n_iload c_163_108 rfl (n_iadd c_163_110 rfl (n_ialoadV c_163_111 sc_117.n rfl rfl rfl (by omega) (t_117 hS (by omega)) ?_))))))))
              intro z127 ez127 f128
              refine n_iadd c_163_112 rfl (n_istore (L2 := [some (2, 112), some (0, a), some (0, 3), some (0, x), some (0, y), some (0, w), some (0, s), some (0, z1), some (0, ((((0 * 3) + z107) * 3) + z127)), some (0, ((3 - 1) + (-1))), some (0, ((((z111 * 3) + z117) * 3) + z123))]) c_163_113 rfl rfl (n_iinc (L2 := [some (2, 112), some (0, a), some (0, 3), some (0, x), some (0, y), some (0, w), some (0, s), some (0, z1), some (0, ((((0 * 3) + z107) * 3) + z127)), some (0, (((3 - 1) + (-1)) + (-1))), some (0, ((((z111 * 3) + z117) * 3) + z123))]) c_163_115 rfl rfl rfl (n_goto c_163_118 (n_iload c_163_16 rfl ?_))))
              refine n_if0_lt c_163_18 (by omega) ?_ ?_
              · intro h129
                exfalso; omega
              · intro h130
                refine n_aload_n c_163_21 rfl (n_getR c_163_22 sc_112.n rfl rfl rfl r_112_18 (n_bipush c_163_25 rfl (n_iload_n c_163_27 rfl (n_imul c_163_28 rfl (n_iload c_163_29 rfl (n_iadd c_163_31 rfl (n_ialoadV c_163_32 sc_126.n rfl rfl rfl (by omega) (t_126 hS (by omega)) ?_)))))))
                intro z131 ez131 f132
                refine n_istore (L2 := [some (2, 112), some (0, a), some (0, 3), some (0, x), some (0, y), some (0, w), some (0, s), some (0, z1), some (0, ((((0 * 3) + z107) * 3) + z127)), some (0, (((3 - 1) + (-1)) + (-1))), some (0, z131)]) c_163_33 rfl rfl (n_iload c_163_35 rfl (n_iconst c_163_37 ?_))
                refine n_if2_le c_163_38 (by omega) (by omega) ?_ ?_
                · intro h133
                  exfalso; omega
                · intro h134
                  refine n_iload c_163_41 rfl (n_aload_n c_163_43 rfl (n_getV (bi := 0) c_163_44 sc_112.n rfl rfl rfl (t_dm hS hdm) ?_))
                  intro z135 ez135 f136
                  obtain rfl : z135 = 3 := by omega
                  refine n_imul c_163_47 rfl (n_aload_n c_163_48 rfl (n_getR c_163_49 sc_112.n rfl rfl rfl r_112_18 (n_bipush c_163_52 rfl (n_iload c_163_54 rfl (n_imul c_163_56 rfl (n_iload c_163_57 rfl (n_iadd c_163_59 rfl (n_ialoadV c_163_60 sc_126.n rfl rfl rfl (by omega) (t_126 hS (by omega)) ?_))))))))
                  intro z137 ez137 f138
                  refine n_iadd c_163_61 rfl (n_istore (L2 := [some (2, 112), some (0, a), some (0, 3), some (0, x), some (0, y), some (0, w), some (0, s), some (0, z1), some (0, ((((0 * 3) + z107) * 3) + z127)), some (0, (((3 - 1) + (-1)) + (-1))), some (0, ((z131 * 3) + z137))]) c_163_62 rfl rfl (n_iload c_163_64 rfl (n_iconst c_163_66 ?_)))
                  refine n_if2_le c_163_67 (by omega) (by omega) ?_ ?_
                  · intro h139
                    exfalso; omega
                  · intro h140
                    refine n_iload c_163_70 rfl (n_aload_n c_163_72 rfl (n_getV (bi := 0) c_163_73 sc_112.n rfl rfl rfl (t_dm hS hdm) ?_))
                    intro z141 ez141 f142
                    obtain rfl : z141 = 3 := by omega
                    refine n_imul c_163_76 rfl (n_aload_n c_163_77 rfl (n_getR c_163_78 sc_112.n rfl rfl rfl r_112_18 (n_bipush c_163_81 rfl (n_iload c_163_83 rfl (n_imul c_163_85 rfl (n_iload c_163_86 rfl (n_iadd c_163_88 rfl (n_ialoadV c_163_89 sc_126.n rfl rfl rfl (by omega) (t_126 hS (by omega)) ?_))))))))
                    intro z143 ez143 f144
                    refine n_iadd c_163_90 rfl (n_istore (L2 := [some (2, 112), some (0, a), some (0, 3), some (0, x), some (0, y), some (0, w), some (0, s), some (0, z1), some (0, ((((0 * 3) + z107) * 3) + z127)), some (0, (((3 - 1) + (-1)) + (-1))), some (0, ((((z131 * 3) + z137) * 3) + z143))]) c_163_91 rfl rfl (n_iload c_163_93 rfl (n_aload_n c_163_95 rfl (n_getV (bi := 0) c_163_96 sc_112.n rfl rfl rfl (t_dm hS hdm) ?_))))
                    intro z145 ez145 f146
                    obtain rfl : z145 = 3 := by omega
                    refine n_imul c_163_99 rfl (n_aload_n c_163_100 rfl (n_getR c_163_101 sc_112.n rfl rfl rfl r_112_6 (n_bipush c_163_104 rfl (n_iload_n c_163_106 rfl (n_imul c_163_107 rfl (n_iload c_163_108 rfl (n_iadd c_163_110 rfl (n_ialoadV c_163_111 sc_117.n rfl rfl rfl (by omega) (t_117 hS (by omega)) ?_))))))))
                    intro z147 ez147 f148
                    refine n_iadd c_163_112 rfl (n_istore (L2 := [some (2, 112), some (0, a), some (0, 3), some (0, x), some (0, y), some (0, w), some (0, s), some (0, z1), some (0, ((((((0 * 3) + z107) * 3) + z127) * 3) + z147)), some (0, (((3 - 1) + (-1)) + (-1))), some (0, ((((z131 * 3) + z137) * 3) + z143))]) c_163_113 rfl rfl (n_iinc (L2 := [some (2, 112), some (0, a), some (0, 3), some (0, x), some (0, y), some (0, w), some (0, s), some (0, z1), some (0, ((((((0 * 3) + z107) * 3) + z127) * 3) + z147)), some (0, ((((3 - 1) + (-1)) + (-1)) + (-1))), some (0, ((((z131 * 3) + z137) * 3) + z143))]) c_163_115 rfl rfl rfl (n_goto c_163_118 (n_iload c_163_16 rfl ?_))))
                    refine n_if0_lt c_163_18 (by omega) ?_ ?_
                    · intro h149
                      refine n_aload_n c_163_121 rfl (n_getR c_163_122 sc_112.n rfl rfl rfl r_112_17 (n_iload c_163_125 rfl (n_ialoadV c_163_127 sc_125.n rfl rfl rfl (by omega) (t_125 hS (by omega)) ?_)))
                      intro z150 ez150 f151
                      refine n_if0_eq c_163_128 (by omega) ?_ ?_
                      · intro h152
                        refine n_fg (le_s (le_n (le_n (le_n (le_n (le_n (le_s (le_n (le_s (le_n (le_n le_0))))))))))) ?_
                        exact (mjoined3_3_c hS hdm ha hx hy hw hs 14).1 _ M hS (by omega) (by omega)
                      · intro h153
                        refine n_aload_n c_163_131 rfl (n_getR c_163_132 sc_112.n rfl rfl rfl r_112_17 (n_iload c_163_135 rfl (n_ialoadV c_163_137 sc_125.n rfl rfl rfl (by omega) (t_125 hS (by omega)) ?_)))
                        intro z154 ez154 f155
                        refine n_iload c_163_138 rfl (n_iconst c_163_140 (n_iadd c_163_141 rfl ?_))
                        refine n_if2_le c_163_142 (by omega) (by omega) ?_ ?_
                        · intro h156
                          refine n_fg (le_n (le_n (le_n (le_n (le_n (le_n (le_n (le_n (le_n (le_n (le_n le_0))))))))))) ?_
                          exact (mjoined3_3_c hS hdm ha hx hy hw hs 14).2  M hS  (by omega)
                        · intro h157
                          refine n_fg (le_s (le_n (le_n (le_n (le_n (le_n (le_s (le_n (le_s (le_n (le_n le_0))))))))))) ?_
                          exact (mjoined3_3_c hS hdm ha hx hy hw hs 14).1 _ M hS (by omega) (by omega)
                    · intro h158
                      exfalso; omega
