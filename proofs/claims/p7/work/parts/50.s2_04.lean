/-! The methods, by program. -/
set_option maxHeartbeats 4000000 in
theorem fits_2_c {xs : List Int32} {e : Nat} {ac : Int} {M0 M : nM} {l : Int} (hS : Sf 2 ac M0 M) (hl : 0 ≤ l ∧ l ≤ 8) : ∀ nn : Nat, (∀ (x2 : Int), (0 ≤ x2 ∧ x2 ≤ 729) → (729 - x2) * 1 + 1 < (nn : Int) → nW xs e 72 7 [some (2, 38), some (0, l), some (0, x2), none, none] [] M (nPI fun z M1 => M = M1 ∧ (0 ≤ z ∧ z ≤ 1))) := by
  have hd : (2 : Int) = 2 ∨ (2 : Int) = 3 := by decide
  have hac := hS.2.2.2.2
  intro nn
  induction nn with
  | zero => intros; omega
  | succ nn ih =>
    intro x2 k2 hnn
    refine n_iload_n c_72_7 rfl ?_
    refine n_aload_n c_72_8 rfl ?_
    refine n_getR c_72_9 sc_38.n rfl rfl rfl r_38_4 ?_
    refine n_iload_n c_72_12 rfl ?_
    refine n_iconst c_72_13 ?_
    refine n_iadd c_72_14 rfl ?_
    refine n_ialoadV c_72_15 sc_43.n rfl rfl rfl (by omega) (t_43 hS (by omega)) ?_
    intro z1 ez1 f2
    refine n_if2_ge c_72_16 (by omega) (by omega) ?_ ?_
    · intro h3
      refine n_iconst c_72_95 ?_
      exact n_rZ c_72_96 rfl (by omega) ⟨rfl, by omega⟩
    · intro h4
      refine n_aload_n c_72_19 rfl ?_
      refine n_getR c_72_20 sc_38.n rfl rfl rfl r_38_2 ?_
      refine n_iload_n c_72_23 rfl ?_
      refine n_ialoadV c_72_24 sc_41.n rfl rfl rfl (by omega) (t_41 hS (by omega)) ?_
      intro z5 ez5 f6
      have f6k : ckey z5 := by rw [ez5]; exact hS.2.1 _ (by omega)
      refine n_istore_n (L2 := [some (2, 38), some (0, l), some (0, x2), some (0, z5), none]) c_72_25 rfl rfl ?_
      refine n_aload_n c_72_26 rfl ?_
      refine n_getR c_72_27 sc_38.n rfl rfl rfl r_38_0 ?_
      refine n_iload_n c_72_30 rfl ?_
      refine n_bipush c_72_31 rfl ?_
      refine n_i_iand c_72_33 rfl ?_
      have f7 := ckey_0 f6k
      generalize (n_and z5 15) = z8 at f7 ⊢
      refine n_ialoadV c_72_34 sc_39.n rfl rfl rfl (by omega) (t_39 hS (by omega)) ?_
      intro z9 ez9 f10
      refine n_aload_n c_72_35 rfl ?_
      refine n_getV (bi := 5) c_72_36 sc_38.n rfl rfl rfl (t_38_5 hS) ?_
      intro z11 ez11 f12
      refine n_imul c_72_39 rfl ?_
      refine n_wrap ?_
      have f13 := n_wr_r (z9 * z11)
      generalize n_wr (z9 * z11) = z14 at f13 ⊢
      refine n_aload_n c_72_40 rfl ?_
      refine n_getR c_72_41 sc_38.n rfl rfl rfl r_38_0 ?_
      refine n_iload_n c_72_44 rfl ?_
      refine n_iconst c_72_45 ?_
      refine n_i_ishr c_72_46 rfl ?_
      refine n_bipush c_72_47 rfl ?_
      refine n_i_iand c_72_49 rfl ?_
      have f15 := ckey_4 f6k
      generalize (n_and (n_shr z5 4) 15) = z16 at f15 ⊢
      refine n_ialoadV c_72_50 sc_39.n rfl rfl rfl (by omega) (t_39 hS (by omega)) ?_
      intro z17 ez17 f18
      refine n_iadd c_72_51 rfl ?_
      refine n_wrap ?_
      have f19 := n_wr_r (z14 + z17)
      generalize n_wr (z14 + z17) = z20 at f19 ⊢
      refine n_istore (L2 := [some (2, 38), some (0, l), some (0, x2), some (0, z5), some (0, z20)]) c_72_52 rfl rfl ?_
      refine n_iload c_72_54 rfl ?_
      refine n_aload_n c_72_56 rfl ?_
      refine n_getV (bi := 5) c_72_57 sc_38.n rfl rfl rfl (t_38_5 hS) ?_
      intro z21 ez21 f22
      refine n_imul c_72_60 rfl ?_
      refine n_wrap ?_
      have f23 := n_wr_r (z20 * z21)
      generalize n_wr (z20 * z21) = z24 at f23 ⊢
      refine n_aload_n c_72_61 rfl ?_
      refine n_getR c_72_62 sc_38.n rfl rfl rfl r_38_0 ?_
      refine n_iload_n c_72_65 rfl ?_
      refine n_bipush c_72_66 rfl ?_
      refine n_i_ishr c_72_68 rfl ?_
      have f25 := ckey_8 f6k
      generalize (n_shr z5 8) = z26 at f25 ⊢
      refine n_ialoadV c_72_69 sc_39.n rfl rfl rfl (by omega) (t_39 hS (by omega)) ?_
      intro z27 ez27 f28
      refine n_iadd c_72_70 rfl ?_
      refine n_wrap ?_
      have f29 := n_wr_r (z24 + z27)
      generalize n_wr (z24 + z27) = z30 at f29 ⊢
      refine n_istore (L2 := [some (2, 38), some (0, l), some (0, x2), some (0, z5), some (0, z30)]) c_72_71 rfl rfl ?_
      refine n_aload_n c_72_73 rfl ?_
      refine n_getR c_72_74 sc_38.n rfl rfl rfl r_38_3 ?_
      refine n_iload_n c_72_77 rfl ?_
      refine n_ialoadV c_72_78 sc_42.n rfl rfl rfl (by omega) (t_42 hS (by omega)) ?_
      intro z31 ez31 f32
      refine n_iload c_72_79 rfl ?_
      refine n_i_ishr c_72_81 rfl ?_
      have f33 := n_shr_r z31 z30
      generalize (n_shr z31 z30) = z34 at f33 ⊢
      refine n_iconst c_72_82 ?_
      refine n_i_iand c_72_83 rfl ?_
      have f35 := n_and_y (x := z34) (y := 1) (by omega)
      generalize (n_and z34 1) = z36 at f35 ⊢
      refine n_if0_ne c_72_84 (by omega) ?_ ?_
      · intro h37
        refine n_iinc (L2 := [some (2, 38), some (0, l), some (0, (x2 + 1)), some (0, z5), some (0, z30)]) c_72_89 rfl rfl rfl ?_
        refine n_goto c_72_92 ?_
        refine n_fg (le_s (le_s (le_s (le_n (le_n le_0))))) ?_
        exact ih _ (by omega) (by omega)
      · intro h38
        refine n_iconst c_72_87 ?_
        exact n_rZ c_72_88 rfl (by omega) ⟨rfl, by omega⟩
set_option maxHeartbeats 4000000 in
theorem fits_2 {xs : List Int32} {e : Nat} {ac : Int} {M0 M : nM} {l : Int} (hS : Sf 2 ac M0 M) (hl : 0 ≤ l ∧ l ≤ 8) : nW xs e 72 0 [some (2, 38), some (0, l), none, none, none] [] M (nPI fun z M1 => M = M1 ∧ (0 ≤ z ∧ z ≤ 1)) := by
  have hd : (2 : Int) = 2 ∨ (2 : Int) = 3 := by decide
  have hac := hS.2.2.2.2
  refine n_aload_n c_72_0 rfl ?_
  refine n_getR c_72_1 sc_38.n rfl rfl rfl r_38_4 ?_
  refine n_iload_n c_72_4 rfl ?_
  refine n_ialoadV c_72_5 sc_43.n rfl rfl rfl (by omega) (t_43 hS (by omega)) ?_
  intro z1 ez1 f2
  refine n_istore_n (L2 := [some (2, 38), some (0, l), some (0, z1), none, none]) c_72_6 rfl rfl ?_
  refine n_fg (le_s (le_s (le_s (le_n (le_n le_0))))) ?_
  exact (fits_2_c hS hl 1472) _ (by omega) (by omega)

set_option maxHeartbeats 4000000 in
theorem gather46_9_2 {xs : List Int32} {e : Nat} {ac : Int} {M0 M : nM} {n : Int} (hS : Sf 2 ac M0 M) (hn : -2147483648 ≤ n ∧ n ≤ 2147483647) : nW xs (e + 2) 70 0 [some (2, 38), some (0, 9), some (0, n), some (2, 46), none] [] M (nPV fun M1 => Sf 2 ac M0 M1) := by
  have hd : (2 : Int) = 2 ∨ (2 : Int) = 3 := by decide
  have hac := hS.2.2.2.2
  refine n_iload_n c_70_0 rfl ?_
  refine n_aload_n c_70_1 rfl ?_
  refine n_getV (bi := 6) c_70_2 sc_38.n rfl rfl rfl (t_38_6 hS) ?_
  intro z1 ez1 f2
  refine n_if2_lt c_70_5 (by omega) (by omega) ?_ ?_
  · intro h3
    exfalso; omega
  · intro h4
    refine n_aload_n c_70_8 rfl ?_
    refine n_iload_n c_70_9 rfl ?_
    refine n_v1V c_70_10 rfl sc_46.n rfl rfl rfl rfl (add46_2 (n := n) hS (by omega)) ?_
    intro  M5 hP6
    have hS5 := hP6
    exact n_rV c_70_13 rfl hS5

set_option maxHeartbeats 4000000 in
theorem gather46_8_2_c {xs : List Int32} {e : Nat} {ac : Int} {M0 M : nM} {n : Int} (hS : Sf 2 ac M0 M) (hn : -2147483648 ≤ n ∧ n ≤ 2147483647) : ∀ nn : Nat, (∀ (x4 : Int) (M : nM), Sf 2 ac M0 M → (0 ≤ x4 ∧ x4 ≤ 3) → (3 - x4) * 2 + 2 < (nn : Int) → nW xs (e + 3) 70 17 [some (2, 38), some (0, 8), some (0, n), some (2, 46), some (0, x4)] [] M (nPV fun M1 => Sf 2 ac M0 M1)) ∧ (∀ (x4 : Int) (M : nM), Sf 2 ac M0 M → (0 ≤ x4 ∧ x4 ≤ 2) → (3 - x4) * 2 + 1 < (nn : Int) → nW xs (e + 3) 70 59 [some (2, 38), some (0, 8), some (0, n), some (2, 46), some (0, x4)] [] M (nPV fun M1 => Sf 2 ac M0 M1)) := by
  have hd : (2 : Int) = 2 ∨ (2 : Int) = 3 := by decide
  have hac := hS.2.2.2.2
  intro nn
  induction nn with
  | zero => refine ⟨?_, ?_⟩ <;> (intros; omega)
  | succ nn ih =>
    refine ⟨?_, ?_⟩
    · intro x4 M hS k4 hnn
      refine n_iload c_70_17 rfl ?_
      refine n_aload_n c_70_19 rfl ?_
      refine n_getV (bi := 5) c_70_20 sc_38.n rfl rfl rfl (t_38_5 hS) ?_
      intro z1 ez1 f2
      refine n_if2_ge c_70_23 (by omega) (by omega) ?_ ?_
      · intro h3
        exact n_rV c_70_65 rfl hS
      · intro h4
        refine n_aload_n c_70_26 rfl ?_
        refine n_getR c_70_27 sc_38.n rfl rfl rfl r_38_0 ?_
        refine n_iload_n c_70_30 rfl ?_
        refine n_iload c_70_31 rfl ?_
        refine n_iastoreV hS c_70_33 sc_39.n rfl (by omega) (w_39 (by omega) (by omega)) ?_
        intro M5 eM5 hS5
        have g5_0 : M5 38 5 = M 38 5 := by rw [eM5]; exact nu_a (by omega)
        have g5_1 : M5 39 8 = x4 := by rw [eM5]; exact nu_s _ _ _ _
        refine n_aload_n c_70_34 rfl ?_
        refine n_iload_n c_70_35 rfl ?_
        refine n_v1I c_70_36 rfl sc_38.n rfl rfl rfl rfl (fits_2 (l := 8) hS5 (by omega)) ?_
        intro z6 M7 hP8
        obtain ⟨eM, f8⟩ := hP8
        subst eM
        refine n_if0_eq c_70_39 (by omega) ?_ ?_
        · intro h9
          refine n_fg (le_s (le_s (le_s (le_s (le_s le_0))))) ?_
          exact ih.2 _ M5 hS5 (by omega) (by omega)
        · intro h10
          refine n_aload_n c_70_42 rfl ?_
          refine n_iload_n c_70_43 rfl ?_
          refine n_iconst c_70_44 ?_
          refine n_iadd c_70_45 rfl ?_
          refine n_iload_n c_70_46 rfl ?_
          refine n_aload_n c_70_47 rfl ?_
          refine n_getV (bi := 5) c_70_48 sc_38.n rfl rfl rfl (t_38_5 hS5) ?_
          intro z11 ez11 f12
          refine n_imul c_70_51 rfl ?_
          refine n_wrap ?_
          have f13 := n_wr_r (n * z11)
          generalize n_wr (n * z11) = z14 at f13 ⊢
          refine n_iload c_70_52 rfl ?_
          refine n_iadd c_70_54 rfl ?_
          refine n_wrap ?_
          have f15 := n_wr_r (z14 + x4)
          generalize n_wr (z14 + x4) = z16 at f15 ⊢
          refine n_aload_n c_70_55 rfl ?_
          have hcst : ((8 + 1) : Int) = 9 := by omega
          rw [hcst]
          refine n_s4V c_70_56 rfl rfl rfl rfl (gather46_9_2 (n := z16) hS5 (by omega)) ?_
          intro  M17 hP18
          have hS17 := hP18
          refine n_fg (le_s (le_s (le_s (le_s (le_s le_0))))) ?_
          exact ih.2 _ M17 hS17 (by omega) (by omega)
    · intro x4 M hS k4 hnn
      refine n_iinc (L2 := [some (2, 38), some (0, 8), some (0, n), some (2, 46), some (0, (x4 + 1))]) c_70_59 rfl rfl rfl ?_
      refine n_goto c_70_62 ?_
      refine n_fg (le_s (le_s (le_s (le_s (le_s le_0))))) ?_
      exact ih.1 _ M hS (by omega) (by omega)
set_option maxHeartbeats 4000000 in
theorem gather46_8_2 {xs : List Int32} {e : Nat} {ac : Int} {M0 M : nM} {n : Int} (hS : Sf 2 ac M0 M) (hn : -2147483648 ≤ n ∧ n ≤ 2147483647) : nW xs (e + 3) 70 0 [some (2, 38), some (0, 8), some (0, n), some (2, 46), none] [] M (nPV fun M1 => Sf 2 ac M0 M1) := by
  have hd : (2 : Int) = 2 ∨ (2 : Int) = 3 := by decide
  have hac := hS.2.2.2.2
  refine n_iload_n c_70_0 rfl ?_
  refine n_aload_n c_70_1 rfl ?_
  refine n_getV (bi := 6) c_70_2 sc_38.n rfl rfl rfl (t_38_6 hS) ?_
  intro z1 ez1 f2
  refine n_if2_lt c_70_5 (by omega) (by omega) ?_ ?_
  · intro h3
    refine n_iconst c_70_14 ?_
    refine n_istore (L2 := [some (2, 38), some (0, 8), some (0, n), some (2, 46), some (0, 0)]) c_70_15 rfl rfl ?_
    refine n_fg (le_s (le_s (le_s (le_s (le_s le_0))))) ?_
    exact (gather46_8_2_c hS hn 30).1 _ M hS (by omega) (by omega)
  · intro h4
    refine n_aload_n c_70_8 rfl ?_
    refine n_iload_n c_70_9 rfl ?_
    refine n_v1V c_70_10 rfl sc_46.n rfl rfl rfl rfl (add46_2 (n := n) hS (by omega)) ?_
    intro  M5 hP6
    have hS5 := hP6
    exact n_rV c_70_13 rfl hS5

set_option maxHeartbeats 4000000 in
theorem gather46_7_2_c {xs : List Int32} {e : Nat} {ac : Int} {M0 M : nM} {n : Int} (hS : Sf 2 ac M0 M) (hn : -2147483648 ≤ n ∧ n ≤ 2147483647) : ∀ nn : Nat, (∀ (x4 : Int) (M : nM), Sf 2 ac M0 M → (0 ≤ x4 ∧ x4 ≤ 3) → (3 - x4) * 2 + 2 < (nn : Int) → nW xs (e + 4) 70 17 [some (2, 38), some (0, 7), some (0, n), some (2, 46), some (0, x4)] [] M (nPV fun M1 => Sf 2 ac M0 M1)) ∧ (∀ (x4 : Int) (M : nM), Sf 2 ac M0 M → (0 ≤ x4 ∧ x4 ≤ 2) → (3 - x4) * 2 + 1 < (nn : Int) → nW xs (e + 4) 70 59 [some (2, 38), some (0, 7), some (0, n), some (2, 46), some (0, x4)] [] M (nPV fun M1 => Sf 2 ac M0 M1)) := by
  have hd : (2 : Int) = 2 ∨ (2 : Int) = 3 := by decide
  have hac := hS.2.2.2.2
  intro nn
  induction nn with
  | zero => refine ⟨?_, ?_⟩ <;> (intros; omega)
  | succ nn ih =>
    refine ⟨?_, ?_⟩
    · intro x4 M hS k4 hnn
      refine n_iload c_70_17 rfl ?_
      refine n_aload_n c_70_19 rfl ?_
      refine n_getV (bi := 5) c_70_20 sc_38.n rfl rfl rfl (t_38_5 hS) ?_
      intro z1 ez1 f2
      refine n_if2_ge c_70_23 (by omega) (by omega) ?_ ?_
      · intro h3
        exact n_rV c_70_65 rfl hS
      · intro h4
        refine n_aload_n c_70_26 rfl ?_
        refine n_getR c_70_27 sc_38.n rfl rfl rfl r_38_0 ?_
        refine n_iload_n c_70_30 rfl ?_
        refine n_iload c_70_31 rfl ?_
        refine n_iastoreV hS c_70_33 sc_39.n rfl (by omega) (w_39 (by omega) (by omega)) ?_
        intro M5 eM5 hS5
        have g5_0 : M5 38 5 = M 38 5 := by rw [eM5]; exact nu_a (by omega)
        have g5_1 : M5 39 7 = x4 := by rw [eM5]; exact nu_s _ _ _ _
        refine n_aload_n c_70_34 rfl ?_
        refine n_iload_n c_70_35 rfl ?_
        refine n_v1I c_70_36 rfl sc_38.n rfl rfl rfl rfl (fits_2 (l := 7) hS5 (by omega)) ?_
        intro z6 M7 hP8
        obtain ⟨eM, f8⟩ := hP8
        subst eM
        refine n_if0_eq c_70_39 (by omega) ?_ ?_
        · intro h9
          refine n_fg (le_s (le_s (le_s (le_s (le_s le_0))))) ?_
          exact ih.2 _ M5 hS5 (by omega) (by omega)
        · intro h10
          refine n_aload_n c_70_42 rfl ?_
          refine n_iload_n c_70_43 rfl ?_
          refine n_iconst c_70_44 ?_
          refine n_iadd c_70_45 rfl ?_
          refine n_iload_n c_70_46 rfl ?_
          refine n_aload_n c_70_47 rfl ?_
          refine n_getV (bi := 5) c_70_48 sc_38.n rfl rfl rfl (t_38_5 hS5) ?_
          intro z11 ez11 f12
          refine n_imul c_70_51 rfl ?_
          refine n_wrap ?_
          have f13 := n_wr_r (n * z11)
          generalize n_wr (n * z11) = z14 at f13 ⊢
          refine n_iload c_70_52 rfl ?_
          refine n_iadd c_70_54 rfl ?_
          refine n_wrap ?_
          have f15 := n_wr_r (z14 + x4)
          generalize n_wr (z14 + x4) = z16 at f15 ⊢
          refine n_aload_n c_70_55 rfl ?_
          have hcst : ((7 + 1) : Int) = 8 := by omega
          rw [hcst]
          refine n_s4V c_70_56 rfl rfl rfl rfl (gather46_8_2 (n := z16) hS5 (by omega)) ?_
          intro  M17 hP18
          have hS17 := hP18
          refine n_fg (le_s (le_s (le_s (le_s (le_s le_0))))) ?_
          exact ih.2 _ M17 hS17 (by omega) (by omega)
    · intro x4 M hS k4 hnn
      refine n_iinc (L2 := [some (2, 38), some (0, 7), some (0, n), some (2, 46), some (0, (x4 + 1))]) c_70_59 rfl rfl rfl ?_
      refine n_goto c_70_62 ?_
      refine n_fg (le_s (le_s (le_s (le_s (le_s le_0))))) ?_
      exact ih.1 _ M hS (by omega) (by omega)
set_option maxHeartbeats 4000000 in
theorem gather46_7_2 {xs : List Int32} {e : Nat} {ac : Int} {M0 M : nM} {n : Int} (hS : Sf 2 ac M0 M) (hn : -2147483648 ≤ n ∧ n ≤ 2147483647) : nW xs (e + 4) 70 0 [some (2, 38), some (0, 7), some (0, n), some (2, 46), none] [] M (nPV fun M1 => Sf 2 ac M0 M1) := by
  have hd : (2 : Int) = 2 ∨ (2 : Int) = 3 := by decide
  have hac := hS.2.2.2.2
  refine n_iload_n c_70_0 rfl ?_
  refine n_aload_n c_70_1 rfl ?_
  refine n_getV (bi := 6) c_70_2 sc_38.n rfl rfl rfl (t_38_6 hS) ?_
  intro z1 ez1 f2
  refine n_if2_lt c_70_5 (by omega) (by omega) ?_ ?_
  · intro h3
    refine n_iconst c_70_14 ?_
    refine n_istore (L2 := [some (2, 38), some (0, 7), some (0, n), some (2, 46), some (0, 0)]) c_70_15 rfl rfl ?_
    refine n_fg (le_s (le_s (le_s (le_s (le_s le_0))))) ?_
    exact (gather46_7_2_c hS hn 30).1 _ M hS (by omega) (by omega)
  · intro h4
    refine n_aload_n c_70_8 rfl ?_
    refine n_iload_n c_70_9 rfl ?_
    refine n_v1V c_70_10 rfl sc_46.n rfl rfl rfl rfl (add46_2 (n := n) hS (by omega)) ?_
    intro  M5 hP6
    have hS5 := hP6
    exact n_rV c_70_13 rfl hS5

set_option maxHeartbeats 4000000 in
theorem gather46_6_2_c {xs : List Int32} {e : Nat} {ac : Int} {M0 M : nM} {n : Int} (hS : Sf 2 ac M0 M) (hn : -2147483648 ≤ n ∧ n ≤ 2147483647) : ∀ nn : Nat, (∀ (x4 : Int) (M : nM), Sf 2 ac M0 M → (0 ≤ x4 ∧ x4 ≤ 3) → (3 - x4) * 2 + 2 < (nn : Int) → nW xs (e + 5) 70 17 [some (2, 38), some (0, 6), some (0, n), some (2, 46), some (0, x4)] [] M (nPV fun M1 => Sf 2 ac M0 M1)) ∧ (∀ (x4 : Int) (M : nM), Sf 2 ac M0 M → (0 ≤ x4 ∧ x4 ≤ 2) → (3 - x4) * 2 + 1 < (nn : Int) → nW xs (e + 5) 70 59 [some (2, 38), some (0, 6), some (0, n), some (2, 46), some (0, x4)] [] M (nPV fun M1 => Sf 2 ac M0 M1)) := by
  have hd : (2 : Int) = 2 ∨ (2 : Int) = 3 := by decide
  have hac := hS.2.2.2.2
  intro nn
  induction nn with
  | zero => refine ⟨?_, ?_⟩ <;> (intros; omega)
  | succ nn ih =>
    refine ⟨?_, ?_⟩
    · intro x4 M hS k4 hnn
      refine n_iload c_70_17 rfl ?_
      refine n_aload_n c_70_19 rfl ?_
      refine n_getV (bi := 5) c_70_20 sc_38.n rfl rfl rfl (t_38_5 hS) ?_
      intro z1 ez1 f2
      refine n_if2_ge c_70_23 (by omega) (by omega) ?_ ?_
      · intro h3
        exact n_rV c_70_65 rfl hS
      · intro h4
        refine n_aload_n c_70_26 rfl ?_
        refine n_getR c_70_27 sc_38.n rfl rfl rfl r_38_0 ?_
        refine n_iload_n c_70_30 rfl ?_
        refine n_iload c_70_31 rfl ?_
        refine n_iastoreV hS c_70_33 sc_39.n rfl (by omega) (w_39 (by omega) (by omega)) ?_
        intro M5 eM5 hS5
        have g5_0 : M5 38 5 = M 38 5 := by rw [eM5]; exact nu_a (by omega)
        have g5_1 : M5 39 6 = x4 := by rw [eM5]; exact nu_s _ _ _ _
        refine n_aload_n c_70_34 rfl ?_
        refine n_iload_n c_70_35 rfl ?_
        refine n_v1I c_70_36 rfl sc_38.n rfl rfl rfl rfl (fits_2 (l := 6) hS5 (by omega)) ?_
        intro z6 M7 hP8
        obtain ⟨eM, f8⟩ := hP8
        subst eM
        refine n_if0_eq c_70_39 (by omega) ?_ ?_
        · intro h9
          refine n_fg (le_s (le_s (le_s (le_s (le_s le_0))))) ?_
          exact ih.2 _ M5 hS5 (by omega) (by omega)
        · intro h10
          refine n_aload_n c_70_42 rfl ?_
          refine n_iload_n c_70_43 rfl ?_
          refine n_iconst c_70_44 ?_
          refine n_iadd c_70_45 rfl ?_
          refine n_iload_n c_70_46 rfl ?_
          refine n_aload_n c_70_47 rfl ?_
          refine n_getV (bi := 5) c_70_48 sc_38.n rfl rfl rfl (t_38_5 hS5) ?_
          intro z11 ez11 f12
          refine n_imul c_70_51 rfl ?_
          refine n_wrap ?_
          have f13 := n_wr_r (n * z11)
          generalize n_wr (n * z11) = z14 at f13 ⊢
          refine n_iload c_70_52 rfl ?_
          refine n_iadd c_70_54 rfl ?_
          refine n_wrap ?_
          have f15 := n_wr_r (z14 + x4)
          generalize n_wr (z14 + x4) = z16 at f15 ⊢
          refine n_aload_n c_70_55 rfl ?_
          have hcst : ((6 + 1) : Int) = 7 := by omega
          rw [hcst]
          refine n_s4V c_70_56 rfl rfl rfl rfl (gather46_7_2 (n := z16) hS5 (by omega)) ?_
          intro  M17 hP18
          have hS17 := hP18
          refine n_fg (le_s (le_s (le_s (le_s (le_s le_0))))) ?_
          exact ih.2 _ M17 hS17 (by omega) (by omega)
    · intro x4 M hS k4 hnn
      refine n_iinc (L2 := [some (2, 38), some (0, 6), some (0, n), some (2, 46), some (0, (x4 + 1))]) c_70_59 rfl rfl rfl ?_
      refine n_goto c_70_62 ?_
      refine n_fg (le_s (le_s (le_s (le_s (le_s le_0))))) ?_
      exact ih.1 _ M hS (by omega) (by omega)
set_option maxHeartbeats 4000000 in
theorem gather46_6_2 {xs : List Int32} {e : Nat} {ac : Int} {M0 M : nM} {n : Int} (hS : Sf 2 ac M0 M) (hn : -2147483648 ≤ n ∧ n ≤ 2147483647) : nW xs (e + 5) 70 0 [some (2, 38), some (0, 6), some (0, n), some (2, 46), none] [] M (nPV fun M1 => Sf 2 ac M0 M1) := by
  have hd : (2 : Int) = 2 ∨ (2 : Int) = 3 := by decide
  have hac := hS.2.2.2.2
  refine n_iload_n c_70_0 rfl ?_
  refine n_aload_n c_70_1 rfl ?_
  refine n_getV (bi := 6) c_70_2 sc_38.n rfl rfl rfl (t_38_6 hS) ?_
  intro z1 ez1 f2
  refine n_if2_lt c_70_5 (by omega) (by omega) ?_ ?_
  · intro h3
    refine n_iconst c_70_14 ?_
    refine n_istore (L2 := [some (2, 38), some (0, 6), some (0, n), some (2, 46), some (0, 0)]) c_70_15 rfl rfl ?_
    refine n_fg (le_s (le_s (le_s (le_s (le_s le_0))))) ?_
    exact (gather46_6_2_c hS hn 30).1 _ M hS (by omega) (by omega)
  · intro h4
    refine n_aload_n c_70_8 rfl ?_
    refine n_iload_n c_70_9 rfl ?_
    refine n_v1V c_70_10 rfl sc_46.n rfl rfl rfl rfl (add46_2 (n := n) hS (by omega)) ?_
    intro  M5 hP6
    have hS5 := hP6
    exact n_rV c_70_13 rfl hS5

set_option maxHeartbeats 4000000 in
theorem gather46_5_2_c {xs : List Int32} {e : Nat} {ac : Int} {M0 M : nM} {n : Int} (hS : Sf 2 ac M0 M) (hn : -2147483648 ≤ n ∧ n ≤ 2147483647) : ∀ nn : Nat, (∀ (x4 : Int) (M : nM), Sf 2 ac M0 M → (0 ≤ x4 ∧ x4 ≤ 3) → (3 - x4) * 2 + 2 < (nn : Int) → nW xs (e + 6) 70 17 [some (2, 38), some (0, 5), some (0, n), some (2, 46), some (0, x4)] [] M (nPV fun M1 => Sf 2 ac M0 M1)) ∧ (∀ (x4 : Int) (M : nM), Sf 2 ac M0 M → (0 ≤ x4 ∧ x4 ≤ 2) → (3 - x4) * 2 + 1 < (nn : Int) → nW xs (e + 6) 70 59 [some (2, 38), some (0, 5), some (0, n), some (2, 46), some (0, x4)] [] M (nPV fun M1 => Sf 2 ac M0 M1)) := by
  have hd : (2 : Int) = 2 ∨ (2 : Int) = 3 := by decide
  have hac := hS.2.2.2.2
  intro nn
  induction nn with
  | zero => refine ⟨?_, ?_⟩ <;> (intros; omega)
  | succ nn ih =>
    refine ⟨?_, ?_⟩
    · intro x4 M hS k4 hnn
      refine n_iload c_70_17 rfl ?_
      refine n_aload_n c_70_19 rfl ?_
      refine n_getV (bi := 5) c_70_20 sc_38.n rfl rfl rfl (t_38_5 hS) ?_
      intro z1 ez1 f2
      refine n_if2_ge c_70_23 (by omega) (by omega) ?_ ?_
      · intro h3
        exact n_rV c_70_65 rfl hS
      · intro h4
        refine n_aload_n c_70_26 rfl ?_
        refine n_getR c_70_27 sc_38.n rfl rfl rfl r_38_0 ?_
        refine n_iload_n c_70_30 rfl ?_
        refine n_iload c_70_31 rfl ?_
        refine n_iastoreV hS c_70_33 sc_39.n rfl (by omega) (w_39 (by omega) (by omega)) ?_
        intro M5 eM5 hS5
        have g5_0 : M5 38 5 = M 38 5 := by rw [eM5]; exact nu_a (by omega)
        have g5_1 : M5 39 5 = x4 := by rw [eM5]; exact nu_s _ _ _ _
        refine n_aload_n c_70_34 rfl ?_
        refine n_iload_n c_70_35 rfl ?_
        refine n_v1I c_70_36 rfl sc_38.n rfl rfl rfl rfl (fits_2 (l := 5) hS5 (by omega)) ?_
        intro z6 M7 hP8
        obtain ⟨eM, f8⟩ := hP8
        subst eM
        refine n_if0_eq c_70_39 (by omega) ?_ ?_
        · intro h9
          refine n_fg (le_s (le_s (le_s (le_s (le_s le_0))))) ?_
          exact ih.2 _ M5 hS5 (by omega) (by omega)
        · intro h10
          refine n_aload_n c_70_42 rfl ?_
          refine n_iload_n c_70_43 rfl ?_
          refine n_iconst c_70_44 ?_
          refine n_iadd c_70_45 rfl ?_
          refine n_iload_n c_70_46 rfl ?_
          refine n_aload_n c_70_47 rfl ?_
          refine n_getV (bi := 5) c_70_48 sc_38.n rfl rfl rfl (t_38_5 hS5) ?_
          intro z11 ez11 f12
          refine n_imul c_70_51 rfl ?_
          refine n_wrap ?_
          have f13 := n_wr_r (n * z11)
          generalize n_wr (n * z11) = z14 at f13 ⊢
          refine n_iload c_70_52 rfl ?_
          refine n_iadd c_70_54 rfl ?_
          refine n_wrap ?_
          have f15 := n_wr_r (z14 + x4)
          generalize n_wr (z14 + x4) = z16 at f15 ⊢
          refine n_aload_n c_70_55 rfl ?_
          have hcst : ((5 + 1) : Int) = 6 := by omega
          rw [hcst]
          refine n_s4V c_70_56 rfl rfl rfl rfl (gather46_6_2 (n := z16) hS5 (by omega)) ?_
          intro  M17 hP18
          have hS17 := hP18
          refine n_fg (le_s (le_s (le_s (le_s (le_s le_0))))) ?_
          exact ih.2 _ M17 hS17 (by omega) (by omega)
    · intro x4 M hS k4 hnn
      refine n_iinc (L2 := [some (2, 38), some (0, 5), some (0, n), some (2, 46), some (0, (x4 + 1))]) c_70_59 rfl rfl rfl ?_
      refine n_goto c_70_62 ?_
      refine n_fg (le_s (le_s (le_s (le_s (le_s le_0))))) ?_
      exact ih.1 _ M hS (by omega) (by omega)
set_option maxHeartbeats 4000000 in
theorem gather46_5_2 {xs : List Int32} {e : Nat} {ac : Int} {M0 M : nM} {n : Int} (hS : Sf 2 ac M0 M) (hn : -2147483648 ≤ n ∧ n ≤ 2147483647) : nW xs (e + 6) 70 0 [some (2, 38), some (0, 5), some (0, n), some (2, 46), none] [] M (nPV fun M1 => Sf 2 ac M0 M1) := by
  have hd : (2 : Int) = 2 ∨ (2 : Int) = 3 := by decide
  have hac := hS.2.2.2.2
  refine n_iload_n c_70_0 rfl ?_
  refine n_aload_n c_70_1 rfl ?_
  refine n_getV (bi := 6) c_70_2 sc_38.n rfl rfl rfl (t_38_6 hS) ?_
  intro z1 ez1 f2
  refine n_if2_lt c_70_5 (by omega) (by omega) ?_ ?_
  · intro h3
    refine n_iconst c_70_14 ?_
    refine n_istore (L2 := [some (2, 38), some (0, 5), some (0, n), some (2, 46), some (0, 0)]) c_70_15 rfl rfl ?_
    refine n_fg (le_s (le_s (le_s (le_s (le_s le_0))))) ?_
    exact (gather46_5_2_c hS hn 30).1 _ M hS (by omega) (by omega)
  · intro h4
    refine n_aload_n c_70_8 rfl ?_
    refine n_iload_n c_70_9 rfl ?_
    refine n_v1V c_70_10 rfl sc_46.n rfl rfl rfl rfl (add46_2 (n := n) hS (by omega)) ?_
    intro  M5 hP6
    have hS5 := hP6
    exact n_rV c_70_13 rfl hS5

set_option maxHeartbeats 4000000 in
theorem gather46_4_2_c {xs : List Int32} {e : Nat} {ac : Int} {M0 M : nM} {n : Int} (hS : Sf 2 ac M0 M) (hn : -2147483648 ≤ n ∧ n ≤ 2147483647) : ∀ nn : Nat, (∀ (x4 : Int) (M : nM), Sf 2 ac M0 M → (0 ≤ x4 ∧ x4 ≤ 3) → (3 - x4) * 2 + 2 < (nn : Int) → nW xs (e + 7) 70 17 [some (2, 38), some (0, 4), some (0, n), some (2, 46), some (0, x4)] [] M (nPV fun M1 => Sf 2 ac M0 M1)) ∧ (∀ (x4 : Int) (M : nM), Sf 2 ac M0 M → (0 ≤ x4 ∧ x4 ≤ 2) → (3 - x4) * 2 + 1 < (nn : Int) → nW xs (e + 7) 70 59 [some (2, 38), some (0, 4), some (0, n), some (2, 46), some (0, x4)] [] M (nPV fun M1 => Sf 2 ac M0 M1)) := by
  have hd : (2 : Int) = 2 ∨ (2 : Int) = 3 := by decide
  have hac := hS.2.2.2.2
  intro nn
  induction nn with
  | zero => refine ⟨?_, ?_⟩ <;> (intros; omega)
  | succ nn ih =>
    refine ⟨?_, ?_⟩
    · intro x4 M hS k4 hnn
      refine n_iload c_70_17 rfl ?_
      refine n_aload_n c_70_19 rfl ?_
      refine n_getV (bi := 5) c_70_20 sc_38.n rfl rfl rfl (t_38_5 hS) ?_
      intro z1 ez1 f2
      refine n_if2_ge c_70_23 (by omega) (by omega) ?_ ?_
      · intro h3
        exact n_rV c_70_65 rfl hS
      · intro h4
        refine n_aload_n c_70_26 rfl ?_
        refine n_getR c_70_27 sc_38.n rfl rfl rfl r_38_0 ?_
        refine n_iload_n c_70_30 rfl ?_
        refine n_iload c_70_31 rfl ?_
        refine n_iastoreV hS c_70_33 sc_39.n rfl (by omega) (w_39 (by omega) (by omega)) ?_
        intro M5 eM5 hS5
        have g5_0 : M5 38 5 = M 38 5 := by rw [eM5]; exact nu_a (by omega)
        have g5_1 : M5 39 4 = x4 := by rw [eM5]; exact nu_s _ _ _ _
        refine n_aload_n c_70_34 rfl ?_
        refine n_iload_n c_70_35 rfl ?_
        refine n_v1I c_70_36 rfl sc_38.n rfl rfl rfl rfl (fits_2 (l := 4) hS5 (by omega)) ?_
        intro z6 M7 hP8
        obtain ⟨eM, f8⟩ := hP8
        subst eM
        refine n_if0_eq c_70_39 (by omega) ?_ ?_
        · intro h9
          refine n_fg (le_s (le_s (le_s (le_s (le_s le_0))))) ?_
          exact ih.2 _ M5 hS5 (by omega) (by omega)
        · intro h10
          refine n_aload_n c_70_42 rfl ?_
          refine n_iload_n c_70_43 rfl ?_
          refine n_iconst c_70_44 ?_
          refine n_iadd c_70_45 rfl ?_
          refine n_iload_n c_70_46 rfl ?_
          refine n_aload_n c_70_47 rfl ?_
          refine n_getV (bi := 5) c_70_48 sc_38.n rfl rfl rfl (t_38_5 hS5) ?_
          intro z11 ez11 f12
          refine n_imul c_70_51 rfl ?_
          refine n_wrap ?_
          have f13 := n_wr_r (n * z11)
          generalize n_wr (n * z11) = z14 at f13 ⊢
          refine n_iload c_70_52 rfl ?_
          refine n_iadd c_70_54 rfl ?_
          refine n_wrap ?_
          have f15 := n_wr_r (z14 + x4)
          generalize n_wr (z14 + x4) = z16 at f15 ⊢
          refine n_aload_n c_70_55 rfl ?_
          have hcst : ((4 + 1) : Int) = 5 := by omega
          rw [hcst]
          refine n_s4V c_70_56 rfl rfl rfl rfl (gather46_5_2 (n := z16) hS5 (by omega)) ?_
          intro  M17 hP18
          have hS17 := hP18
          refine n_fg (le_s (le_s (le_s (le_s (le_s le_0))))) ?_
          exact ih.2 _ M17 hS17 (by omega) (by omega)
    · intro x4 M hS k4 hnn
      refine n_iinc (L2 := [some (2, 38), some (0, 4), some (0, n), some (2, 46), some (0, (x4 + 1))]) c_70_59 rfl rfl rfl ?_
      refine n_goto c_70_62 ?_
      refine n_fg (le_s (le_s (le_s (le_s (le_s le_0))))) ?_
      exact ih.1 _ M hS (by omega) (by omega)
set_option maxHeartbeats 4000000 in
theorem gather46_4_2 {xs : List Int32} {e : Nat} {ac : Int} {M0 M : nM} {n : Int} (hS : Sf 2 ac M0 M) (hn : -2147483648 ≤ n ∧ n ≤ 2147483647) : nW xs (e + 7) 70 0 [some (2, 38), some (0, 4), some (0, n), some (2, 46), none] [] M (nPV fun M1 => Sf 2 ac M0 M1) := by
  have hd : (2 : Int) = 2 ∨ (2 : Int) = 3 := by decide
  have hac := hS.2.2.2.2
  refine n_iload_n c_70_0 rfl ?_
  refine n_aload_n c_70_1 rfl ?_
  refine n_getV (bi := 6) c_70_2 sc_38.n rfl rfl rfl (t_38_6 hS) ?_
  intro z1 ez1 f2
  refine n_if2_lt c_70_5 (by omega) (by omega) ?_ ?_
  · intro h3
    refine n_iconst c_70_14 ?_
    refine n_istore (L2 := [some (2, 38), some (0, 4), some (0, n), some (2, 46), some (0, 0)]) c_70_15 rfl rfl ?_
    refine n_fg (le_s (le_s (le_s (le_s (le_s le_0))))) ?_
    exact (gather46_4_2_c hS hn 30).1 _ M hS (by omega) (by omega)
  · intro h4
    refine n_aload_n c_70_8 rfl ?_
    refine n_iload_n c_70_9 rfl ?_
    refine n_v1V c_70_10 rfl sc_46.n rfl rfl rfl rfl (add46_2 (n := n) hS (by omega)) ?_
    intro  M5 hP6
    have hS5 := hP6
    exact n_rV c_70_13 rfl hS5

set_option maxHeartbeats 4000000 in
theorem gather46_3_2_c {xs : List Int32} {e : Nat} {ac : Int} {M0 M : nM} {n : Int} (hS : Sf 2 ac M0 M) (hn : -2147483648 ≤ n ∧ n ≤ 2147483647) : ∀ nn : Nat, (∀ (x4 : Int) (M : nM), Sf 2 ac M0 M → (0 ≤ x4 ∧ x4 ≤ 3) → (3 - x4) * 2 + 2 < (nn : Int) → nW xs (e + 8) 70 17 [some (2, 38), some (0, 3), some (0, n), some (2, 46), some (0, x4)] [] M (nPV fun M1 => Sf 2 ac M0 M1)) ∧ (∀ (x4 : Int) (M : nM), Sf 2 ac M0 M → (0 ≤ x4 ∧ x4 ≤ 2) → (3 - x4) * 2 + 1 < (nn : Int) → nW xs (e + 8) 70 59 [some (2, 38), some (0, 3), some (0, n), some (2, 46), some (0, x4)] [] M (nPV fun M1 => Sf 2 ac M0 M1)) := by
  have hd : (2 : Int) = 2 ∨ (2 : Int) = 3 := by decide
  have hac := hS.2.2.2.2
  intro nn
  induction nn with
  | zero => refine ⟨?_, ?_⟩ <;> (intros; omega)
  | succ nn ih =>
    refine ⟨?_, ?_⟩
    · intro x4 M hS k4 hnn
      refine n_iload c_70_17 rfl ?_
      refine n_aload_n c_70_19 rfl ?_
      refine n_getV (bi := 5) c_70_20 sc_38.n rfl rfl rfl (t_38_5 hS) ?_
      intro z1 ez1 f2
      refine n_if2_ge c_70_23 (by omega) (by omega) ?_ ?_
      · intro h3
        exact n_rV c_70_65 rfl hS
      · intro h4
        refine n_aload_n c_70_26 rfl ?_
        refine n_getR c_70_27 sc_38.n rfl rfl rfl r_38_0 ?_
        refine n_iload_n c_70_30 rfl ?_
        refine n_iload c_70_31 rfl ?_
        refine n_iastoreV hS c_70_33 sc_39.n rfl (by omega) (w_39 (by omega) (by omega)) ?_
        intro M5 eM5 hS5
        have g5_0 : M5 38 5 = M 38 5 := by rw [eM5]; exact nu_a (by omega)
        have g5_1 : M5 39 3 = x4 := by rw [eM5]; exact nu_s _ _ _ _
        refine n_aload_n c_70_34 rfl ?_
        refine n_iload_n c_70_35 rfl ?_
        refine n_v1I c_70_36 rfl sc_38.n rfl rfl rfl rfl (fits_2 (l := 3) hS5 (by omega)) ?_
        intro z6 M7 hP8
        obtain ⟨eM, f8⟩ := hP8
        subst eM
        refine n_if0_eq c_70_39 (by omega) ?_ ?_
        · intro h9
          refine n_fg (le_s (le_s (le_s (le_s (le_s le_0))))) ?_
          exact ih.2 _ M5 hS5 (by omega) (by omega)
        · intro h10
          refine n_aload_n c_70_42 rfl ?_
          refine n_iload_n c_70_43 rfl ?_
          refine n_iconst c_70_44 ?_
          refine n_iadd c_70_45 rfl ?_
          refine n_iload_n c_70_46 rfl ?_
          refine n_aload_n c_70_47 rfl ?_
          refine n_getV (bi := 5) c_70_48 sc_38.n rfl rfl rfl (t_38_5 hS5) ?_
          intro z11 ez11 f12
          refine n_imul c_70_51 rfl ?_
          refine n_wrap ?_
          have f13 := n_wr_r (n * z11)
          generalize n_wr (n * z11) = z14 at f13 ⊢
          refine n_iload c_70_52 rfl ?_
          refine n_iadd c_70_54 rfl ?_
          refine n_wrap ?_
          have f15 := n_wr_r (z14 + x4)
          generalize n_wr (z14 + x4) = z16 at f15 ⊢
          refine n_aload_n c_70_55 rfl ?_
          have hcst : ((3 + 1) : Int) = 4 := by omega
          rw [hcst]
          refine n_s4V c_70_56 rfl rfl rfl rfl (gather46_4_2 (n := z16) hS5 (by omega)) ?_
          intro  M17 hP18
          have hS17 := hP18
          refine n_fg (le_s (le_s (le_s (le_s (le_s le_0))))) ?_
          exact ih.2 _ M17 hS17 (by omega) (by omega)
    · intro x4 M hS k4 hnn
      refine n_iinc (L2 := [some (2, 38), some (0, 3), some (0, n), some (2, 46), some (0, (x4 + 1))]) c_70_59 rfl rfl rfl ?_
      refine n_goto c_70_62 ?_
      refine n_fg (le_s (le_s (le_s (le_s (le_s le_0))))) ?_
      exact ih.1 _ M hS (by omega) (by omega)
set_option maxHeartbeats 4000000 in
theorem gather46_3_2 {xs : List Int32} {e : Nat} {ac : Int} {M0 M : nM} {n : Int} (hS : Sf 2 ac M0 M) (hn : -2147483648 ≤ n ∧ n ≤ 2147483647) : nW xs (e + 8) 70 0 [some (2, 38), some (0, 3), some (0, n), some (2, 46), none] [] M (nPV fun M1 => Sf 2 ac M0 M1) := by
  have hd : (2 : Int) = 2 ∨ (2 : Int) = 3 := by decide
  have hac := hS.2.2.2.2
  refine n_iload_n c_70_0 rfl ?_
  refine n_aload_n c_70_1 rfl ?_
  refine n_getV (bi := 6) c_70_2 sc_38.n rfl rfl rfl (t_38_6 hS) ?_
  intro z1 ez1 f2
  refine n_if2_lt c_70_5 (by omega) (by omega) ?_ ?_
  · intro h3
    refine n_iconst c_70_14 ?_
    refine n_istore (L2 := [some (2, 38), some (0, 3), some (0, n), some (2, 46), some (0, 0)]) c_70_15 rfl rfl ?_
    refine n_fg (le_s (le_s (le_s (le_s (le_s le_0))))) ?_
    exact (gather46_3_2_c hS hn 30).1 _ M hS (by omega) (by omega)
  · intro h4
    refine n_aload_n c_70_8 rfl ?_
    refine n_iload_n c_70_9 rfl ?_
    refine n_v1V c_70_10 rfl sc_46.n rfl rfl rfl rfl (add46_2 (n := n) hS (by omega)) ?_
    intro  M5 hP6
    have hS5 := hP6
    exact n_rV c_70_13 rfl hS5

set_option maxHeartbeats 4000000 in
theorem gather46_2_2_c {xs : List Int32} {e : Nat} {ac : Int} {M0 M : nM} {n : Int} (hS : Sf 2 ac M0 M) (hn : -2147483648 ≤ n ∧ n ≤ 2147483647) : ∀ nn : Nat, (∀ (x4 : Int) (M : nM), Sf 2 ac M0 M → (0 ≤ x4 ∧ x4 ≤ 3) → (3 - x4) * 2 + 2 < (nn : Int) → nW xs (e + 9) 70 17 [some (2, 38), some (0, 2), some (0, n), some (2, 46), some (0, x4)] [] M (nPV fun M1 => Sf 2 ac M0 M1)) ∧ (∀ (x4 : Int) (M : nM), Sf 2 ac M0 M → (0 ≤ x4 ∧ x4 ≤ 2) → (3 - x4) * 2 + 1 < (nn : Int) → nW xs (e + 9) 70 59 [some (2, 38), some (0, 2), some (0, n), some (2, 46), some (0, x4)] [] M (nPV fun M1 => Sf 2 ac M0 M1)) := by
  have hd : (2 : Int) = 2 ∨ (2 : Int) = 3 := by decide
  have hac := hS.2.2.2.2
  intro nn
  induction nn with
  | zero => refine ⟨?_, ?_⟩ <;> (intros; omega)
  | succ nn ih =>
    refine ⟨?_, ?_⟩
    · intro x4 M hS k4 hnn
      refine n_iload c_70_17 rfl ?_
      refine n_aload_n c_70_19 rfl ?_
      refine n_getV (bi := 5) c_70_20 sc_38.n rfl rfl rfl (t_38_5 hS) ?_
      intro z1 ez1 f2
      refine n_if2_ge c_70_23 (by omega) (by omega) ?_ ?_
      · intro h3
        exact n_rV c_70_65 rfl hS
      · intro h4
        refine n_aload_n c_70_26 rfl ?_
        refine n_getR c_70_27 sc_38.n rfl rfl rfl r_38_0 ?_
        refine n_iload_n c_70_30 rfl ?_
        refine n_iload c_70_31 rfl ?_
        refine n_iastoreV hS c_70_33 sc_39.n rfl (by omega) (w_39 (by omega) (by omega)) ?_
        intro M5 eM5 hS5
        have g5_0 : M5 38 5 = M 38 5 := by rw [eM5]; exact nu_a (by omega)
        have g5_1 : M5 39 2 = x4 := by rw [eM5]; exact nu_s _ _ _ _
        refine n_aload_n c_70_34 rfl ?_
        refine n_iload_n c_70_35 rfl ?_
        refine n_v1I c_70_36 rfl sc_38.n rfl rfl rfl rfl (fits_2 (l := 2) hS5 (by omega)) ?_
        intro z6 M7 hP8
        obtain ⟨eM, f8⟩ := hP8
        subst eM
        refine n_if0_eq c_70_39 (by omega) ?_ ?_
        · intro h9
          refine n_fg (le_s (le_s (le_s (le_s (le_s le_0))))) ?_
          exact ih.2 _ M5 hS5 (by omega) (by omega)
        · intro h10
          refine n_aload_n c_70_42 rfl ?_
          refine n_iload_n c_70_43 rfl ?_
          refine n_iconst c_70_44 ?_
          refine n_iadd c_70_45 rfl ?_
          refine n_iload_n c_70_46 rfl ?_
          refine n_aload_n c_70_47 rfl ?_
          refine n_getV (bi := 5) c_70_48 sc_38.n rfl rfl rfl (t_38_5 hS5) ?_
          intro z11 ez11 f12
          refine n_imul c_70_51 rfl ?_
          refine n_wrap ?_
          have f13 := n_wr_r (n * z11)
          generalize n_wr (n * z11) = z14 at f13 ⊢
          refine n_iload c_70_52 rfl ?_
          refine n_iadd c_70_54 rfl ?_
          refine n_wrap ?_
          have f15 := n_wr_r (z14 + x4)
          generalize n_wr (z14 + x4) = z16 at f15 ⊢
          refine n_aload_n c_70_55 rfl ?_
          have hcst : ((2 + 1) : Int) = 3 := by omega
          rw [hcst]
          refine n_s4V c_70_56 rfl rfl rfl rfl (gather46_3_2 (n := z16) hS5 (by omega)) ?_
          intro  M17 hP18
          have hS17 := hP18
          refine n_fg (le_s (le_s (le_s (le_s (le_s le_0))))) ?_
          exact ih.2 _ M17 hS17 (by omega) (by omega)
    · intro x4 M hS k4 hnn
      refine n_iinc (L2 := [some (2, 38), some (0, 2), some (0, n), some (2, 46), some (0, (x4 + 1))]) c_70_59 rfl rfl rfl ?_
      refine n_goto c_70_62 ?_
      refine n_fg (le_s (le_s (le_s (le_s (le_s le_0))))) ?_
      exact ih.1 _ M hS (by omega) (by omega)
set_option maxHeartbeats 4000000 in
theorem gather46_2_2 {xs : List Int32} {e : Nat} {ac : Int} {M0 M : nM} {n : Int} (hS : Sf 2 ac M0 M) (hn : -2147483648 ≤ n ∧ n ≤ 2147483647) : nW xs (e + 9) 70 0 [some (2, 38), some (0, 2), some (0, n), some (2, 46), none] [] M (nPV fun M1 => Sf 2 ac M0 M1) := by
  have hd : (2 : Int) = 2 ∨ (2 : Int) = 3 := by decide
  have hac := hS.2.2.2.2
  refine n_iload_n c_70_0 rfl ?_
  refine n_aload_n c_70_1 rfl ?_
  refine n_getV (bi := 6) c_70_2 sc_38.n rfl rfl rfl (t_38_6 hS) ?_
  intro z1 ez1 f2
  refine n_if2_lt c_70_5 (by omega) (by omega) ?_ ?_
  · intro h3
    refine n_iconst c_70_14 ?_
    refine n_istore (L2 := [some (2, 38), some (0, 2), some (0, n), some (2, 46), some (0, 0)]) c_70_15 rfl rfl ?_
    refine n_fg (le_s (le_s (le_s (le_s (le_s le_0))))) ?_
    exact (gather46_2_2_c hS hn 30).1 _ M hS (by omega) (by omega)
  · intro h4
    refine n_aload_n c_70_8 rfl ?_
    refine n_iload_n c_70_9 rfl ?_
    refine n_v1V c_70_10 rfl sc_46.n rfl rfl rfl rfl (add46_2 (n := n) hS (by omega)) ?_
    intro  M5 hP6
    have hS5 := hP6
    exact n_rV c_70_13 rfl hS5

set_option maxHeartbeats 4000000 in
theorem gather46_1_2_c {xs : List Int32} {e : Nat} {ac : Int} {M0 M : nM} {n : Int} (hS : Sf 2 ac M0 M) (hn : -2147483648 ≤ n ∧ n ≤ 2147483647) : ∀ nn : Nat, (∀ (x4 : Int) (M : nM), Sf 2 ac M0 M → (0 ≤ x4 ∧ x4 ≤ 3) → (3 - x4) * 2 + 2 < (nn : Int) → nW xs (e + 10) 70 17 [some (2, 38), some (0, 1), some (0, n), some (2, 46), some (0, x4)] [] M (nPV fun M1 => Sf 2 ac M0 M1)) ∧ (∀ (x4 : Int) (M : nM), Sf 2 ac M0 M → (0 ≤ x4 ∧ x4 ≤ 2) → (3 - x4) * 2 + 1 < (nn : Int) → nW xs (e + 10) 70 59 [some (2, 38), some (0, 1), some (0, n), some (2, 46), some (0, x4)] [] M (nPV fun M1 => Sf 2 ac M0 M1)) := by
  have hd : (2 : Int) = 2 ∨ (2 : Int) = 3 := by decide
  have hac := hS.2.2.2.2
  intro nn
  induction nn with
  | zero => refine ⟨?_, ?_⟩ <;> (intros; omega)
  | succ nn ih =>
    refine ⟨?_, ?_⟩
    · intro x4 M hS k4 hnn
      refine n_iload c_70_17 rfl ?_
      refine n_aload_n c_70_19 rfl ?_
      refine n_getV (bi := 5) c_70_20 sc_38.n rfl rfl rfl (t_38_5 hS) ?_
      intro z1 ez1 f2
      refine n_if2_ge c_70_23 (by omega) (by omega) ?_ ?_
      · intro h3
        exact n_rV c_70_65 rfl hS
      · intro h4
        refine n_aload_n c_70_26 rfl ?_
        refine n_getR c_70_27 sc_38.n rfl rfl rfl r_38_0 ?_
        refine n_iload_n c_70_30 rfl ?_
        refine n_iload c_70_31 rfl ?_
        refine n_iastoreV hS c_70_33 sc_39.n rfl (by omega) (w_39 (by omega) (by omega)) ?_
        intro M5 eM5 hS5
        have g5_0 : M5 38 5 = M 38 5 := by rw [eM5]; exact nu_a (by omega)
        have g5_1 : M5 39 1 = x4 := by rw [eM5]; exact nu_s _ _ _ _
        refine n_aload_n c_70_34 rfl ?_
        refine n_iload_n c_70_35 rfl ?_
        refine n_v1I c_70_36 rfl sc_38.n rfl rfl rfl rfl (fits_2 (l := 1) hS5 (by omega)) ?_
        intro z6 M7 hP8
        obtain ⟨eM, f8⟩ := hP8
        subst eM
        refine n_if0_eq c_70_39 (by omega) ?_ ?_
        · intro h9
          refine n_fg (le_s (le_s (le_s (le_s (le_s le_0))))) ?_
          exact ih.2 _ M5 hS5 (by omega) (by omega)
        · intro h10
          refine n_aload_n c_70_42 rfl ?_
          refine n_iload_n c_70_43 rfl ?_
          refine n_iconst c_70_44 ?_
          refine n_iadd c_70_45 rfl ?_
          refine n_iload_n c_70_46 rfl ?_
          refine n_aload_n c_70_47 rfl ?_
          refine n_getV (bi := 5) c_70_48 sc_38.n rfl rfl rfl (t_38_5 hS5) ?_
          intro z11 ez11 f12
          refine n_imul c_70_51 rfl ?_
          refine n_wrap ?_
          have f13 := n_wr_r (n * z11)
          generalize n_wr (n * z11) = z14 at f13 ⊢
          refine n_iload c_70_52 rfl ?_
          refine n_iadd c_70_54 rfl ?_
          refine n_wrap ?_
          have f15 := n_wr_r (z14 + x4)
          generalize n_wr (z14 + x4) = z16 at f15 ⊢
          refine n_aload_n c_70_55 rfl ?_
          have hcst : ((1 + 1) : Int) = 2 := by omega
          rw [hcst]
          refine n_s4V c_70_56 rfl rfl rfl rfl (gather46_2_2 (n := z16) hS5 (by omega)) ?_
          intro  M17 hP18
          have hS17 := hP18
          refine n_fg (le_s (le_s (le_s (le_s (le_s le_0))))) ?_
          exact ih.2 _ M17 hS17 (by omega) (by omega)
    · intro x4 M hS k4 hnn
      refine n_iinc (L2 := [some (2, 38), some (0, 1), some (0, n), some (2, 46), some (0, (x4 + 1))]) c_70_59 rfl rfl rfl ?_
      refine n_goto c_70_62 ?_
      refine n_fg (le_s (le_s (le_s (le_s (le_s le_0))))) ?_
      exact ih.1 _ M hS (by omega) (by omega)
set_option maxHeartbeats 4000000 in
theorem gather46_1_2 {xs : List Int32} {e : Nat} {ac : Int} {M0 M : nM} {n : Int} (hS : Sf 2 ac M0 M) (hn : -2147483648 ≤ n ∧ n ≤ 2147483647) : nW xs (e + 10) 70 0 [some (2, 38), some (0, 1), some (0, n), some (2, 46), none] [] M (nPV fun M1 => Sf 2 ac M0 M1) := by
  have hd : (2 : Int) = 2 ∨ (2 : Int) = 3 := by decide
  have hac := hS.2.2.2.2
  refine n_iload_n c_70_0 rfl ?_
  refine n_aload_n c_70_1 rfl ?_
  refine n_getV (bi := 6) c_70_2 sc_38.n rfl rfl rfl (t_38_6 hS) ?_
  intro z1 ez1 f2
  refine n_if2_lt c_70_5 (by omega) (by omega) ?_ ?_
  · intro h3
    refine n_iconst c_70_14 ?_
    refine n_istore (L2 := [some (2, 38), some (0, 1), some (0, n), some (2, 46), some (0, 0)]) c_70_15 rfl rfl ?_
    refine n_fg (le_s (le_s (le_s (le_s (le_s le_0))))) ?_
    exact (gather46_1_2_c hS hn 30).1 _ M hS (by omega) (by omega)
  · intro h4
    refine n_aload_n c_70_8 rfl ?_
    refine n_iload_n c_70_9 rfl ?_
    refine n_v1V c_70_10 rfl sc_46.n rfl rfl rfl rfl (add46_2 (n := n) hS (by omega)) ?_
    intro  M5 hP6
    have hS5 := hP6
    exact n_rV c_70_13 rfl hS5

set_option maxHeartbeats 4000000 in
theorem gather46_0_2_c {xs : List Int32} {e : Nat} {ac : Int} {M0 M : nM} {n : Int} (hS : Sf 2 ac M0 M) (hn : -2147483648 ≤ n ∧ n ≤ 2147483647) : ∀ nn : Nat, (∀ (x4 : Int) (M : nM), Sf 2 ac M0 M → (0 ≤ x4 ∧ x4 ≤ 3) → (3 - x4) * 2 + 2 < (nn : Int) → nW xs (e + 11) 70 17 [some (2, 38), some (0, 0), some (0, n), some (2, 46), some (0, x4)] [] M (nPV fun M1 => Sf 2 ac M0 M1)) ∧ (∀ (x4 : Int) (M : nM), Sf 2 ac M0 M → (0 ≤ x4 ∧ x4 ≤ 2) → (3 - x4) * 2 + 1 < (nn : Int) → nW xs (e + 11) 70 59 [some (2, 38), some (0, 0), some (0, n), some (2, 46), some (0, x4)] [] M (nPV fun M1 => Sf 2 ac M0 M1)) := by
  have hd : (2 : Int) = 2 ∨ (2 : Int) = 3 := by decide
  have hac := hS.2.2.2.2
  intro nn
  induction nn with
  | zero => refine ⟨?_, ?_⟩ <;> (intros; omega)
  | succ nn ih =>
    refine ⟨?_, ?_⟩
    · intro x4 M hS k4 hnn
      refine n_iload c_70_17 rfl ?_
      refine n_aload_n c_70_19 rfl ?_
      refine n_getV (bi := 5) c_70_20 sc_38.n rfl rfl rfl (t_38_5 hS) ?_
      intro z1 ez1 f2
      refine n_if2_ge c_70_23 (by omega) (by omega) ?_ ?_
      · intro h3
        exact n_rV c_70_65 rfl hS
      · intro h4
        refine n_aload_n c_70_26 rfl ?_
        refine n_getR c_70_27 sc_38.n rfl rfl rfl r_38_0 ?_
        refine n_iload_n c_70_30 rfl ?_
        refine n_iload c_70_31 rfl ?_
        refine n_iastoreV hS c_70_33 sc_39.n rfl (by omega) (w_39 (by omega) (by omega)) ?_
        intro M5 eM5 hS5
        have g5_0 : M5 38 5 = M 38 5 := by rw [eM5]; exact nu_a (by omega)
        have g5_1 : M5 39 0 = x4 := by rw [eM5]; exact nu_s _ _ _ _
        refine n_aload_n c_70_34 rfl ?_
        refine n_iload_n c_70_35 rfl ?_
        refine n_v1I c_70_36 rfl sc_38.n rfl rfl rfl rfl (fits_2 (l := 0) hS5 (by omega)) ?_
        intro z6 M7 hP8
        obtain ⟨eM, f8⟩ := hP8
        subst eM
        refine n_if0_eq c_70_39 (by omega) ?_ ?_
        · intro h9
          refine n_fg (le_s (le_s (le_s (le_s (le_s le_0))))) ?_
          exact ih.2 _ M5 hS5 (by omega) (by omega)
        · intro h10
          refine n_aload_n c_70_42 rfl ?_
          refine n_iload_n c_70_43 rfl ?_
          refine n_iconst c_70_44 ?_
          refine n_iadd c_70_45 rfl ?_
          refine n_iload_n c_70_46 rfl ?_
          refine n_aload_n c_70_47 rfl ?_
          refine n_getV (bi := 5) c_70_48 sc_38.n rfl rfl rfl (t_38_5 hS5) ?_
          intro z11 ez11 f12
          refine n_imul c_70_51 rfl ?_
          refine n_wrap ?_
          have f13 := n_wr_r (n * z11)
          generalize n_wr (n * z11) = z14 at f13 ⊢
          refine n_iload c_70_52 rfl ?_
          refine n_iadd c_70_54 rfl ?_
          refine n_wrap ?_
          have f15 := n_wr_r (z14 + x4)
          generalize n_wr (z14 + x4) = z16 at f15 ⊢
          refine n_aload_n c_70_55 rfl ?_
          have hcst : ((0 + 1) : Int) = 1 := by omega
          rw [hcst]
          refine n_s4V c_70_56 rfl rfl rfl rfl (gather46_1_2 (n := z16) hS5 (by omega)) ?_
          intro  M17 hP18
          have hS17 := hP18
          refine n_fg (le_s (le_s (le_s (le_s (le_s le_0))))) ?_
          exact ih.2 _ M17 hS17 (by omega) (by omega)
    · intro x4 M hS k4 hnn
      refine n_iinc (L2 := [some (2, 38), some (0, 0), some (0, n), some (2, 46), some (0, (x4 + 1))]) c_70_59 rfl rfl rfl ?_
      refine n_goto c_70_62 ?_
      refine n_fg (le_s (le_s (le_s (le_s (le_s le_0))))) ?_
      exact ih.1 _ M hS (by omega) (by omega)
set_option maxHeartbeats 4000000 in
theorem gather46_0_2 {xs : List Int32} {e : Nat} {ac : Int} {M0 M : nM} {n : Int} (hS : Sf 2 ac M0 M) (hn : -2147483648 ≤ n ∧ n ≤ 2147483647) : nW xs (e + 11) 70 0 [some (2, 38), some (0, 0), some (0, n), some (2, 46), none] [] M (nPV fun M1 => Sf 2 ac M0 M1) := by
  have hd : (2 : Int) = 2 ∨ (2 : Int) = 3 := by decide
  have hac := hS.2.2.2.2
  refine n_iload_n c_70_0 rfl ?_
  refine n_aload_n c_70_1 rfl ?_
  refine n_getV (bi := 6) c_70_2 sc_38.n rfl rfl rfl (t_38_6 hS) ?_
  intro z1 ez1 f2
  refine n_if2_lt c_70_5 (by omega) (by omega) ?_ ?_
  · intro h3
    refine n_iconst c_70_14 ?_
    refine n_istore (L2 := [some (2, 38), some (0, 0), some (0, n), some (2, 46), some (0, 0)]) c_70_15 rfl rfl ?_
    refine n_fg (le_s (le_s (le_s (le_s (le_s le_0))))) ?_
    exact (gather46_0_2_c hS hn 30).1 _ M hS (by omega) (by omega)
  · intro h4
    refine n_aload_n c_70_8 rfl ?_
    refine n_iload_n c_70_9 rfl ?_
    refine n_v1V c_70_10 rfl sc_46.n rfl rfl rfl rfl (add46_2 (n := n) hS (by omega)) ?_
    intro  M5 hP6
    have hS5 := hP6
    exact n_rV c_70_13 rfl hS5

set_option maxHeartbeats 4000000 in
theorem findAll46_2 {xs : List Int32} {e : Nat} {ac : Int} {M0 M : nM} (hS : Sf 2 ac M0 M)  : nW xs (e + 14) 68 0 [some (2, 38), some (2, 46)] [] M (nPV fun M1 => Sf 2 ac M0 M1) := by
  have hd : (2 : Int) = 2 ∨ (2 : Int) = 3 := by decide
  have hac := hS.2.2.2.2
  refine n_aload_n c_68_0 rfl ?_
  refine n_v0V c_68_1 rfl sc_46.n rfl rfl rfl rfl (clear46_2  hS ) ?_
  intro  M1 hP2
  have hS1 := hP2
  refine n_aload_n c_68_4 rfl ?_
  refine n_iconst c_68_5 ?_
  refine n_iconst c_68_6 ?_
  refine n_aload_n c_68_7 rfl ?_
  refine n_s4V c_68_8 rfl rfl rfl rfl (gather46_0_2 (n := 0) hS1 (by omega)) ?_
  intro  M3 hP4
  have hS3 := hP4
  exact n_rV c_68_11 rfl hS3

set_option maxHeartbeats 4000000 in
theorem gather48_9_2 {xs : List Int32} {e : Nat} {ac : Int} {M0 M : nM} {n : Int} (hS : Sf 2 ac M0 M) (hn : -2147483648 ≤ n ∧ n ≤ 2147483647) : nW xs (e + 2) 70 0 [some (2, 38), some (0, 9), some (0, n), some (2, 48), none] [] M (nPV fun M1 => Sf 2 ac M0 M1) := by
  have hd : (2 : Int) = 2 ∨ (2 : Int) = 3 := by decide
  have hac := hS.2.2.2.2
  refine n_iload_n c_70_0 rfl ?_
  refine n_aload_n c_70_1 rfl ?_
  refine n_getV (bi := 6) c_70_2 sc_38.n rfl rfl rfl (t_38_6 hS) ?_
  intro z1 ez1 f2
  refine n_if2_lt c_70_5 (by omega) (by omega) ?_ ?_
  · intro h3
    exfalso; omega
  · intro h4
    refine n_aload_n c_70_8 rfl ?_
    refine n_iload_n c_70_9 rfl ?_
    refine n_v1V c_70_10 rfl sc_48.n rfl rfl rfl rfl (add48_2 (n := n) hS (by omega)) ?_
    intro  M5 hP6
    have hS5 := hP6
    exact n_rV c_70_13 rfl hS5

set_option maxHeartbeats 4000000 in
theorem gather48_8_2_c {xs : List Int32} {e : Nat} {ac : Int} {M0 M : nM} {n : Int} (hS : Sf 2 ac M0 M) (hn : -2147483648 ≤ n ∧ n ≤ 2147483647) : ∀ nn : Nat, (∀ (x4 : Int) (M : nM), Sf 2 ac M0 M → (0 ≤ x4 ∧ x4 ≤ 3) → (3 - x4) * 2 + 2 < (nn : Int) → nW xs (e + 3) 70 17 [some (2, 38), some (0, 8), some (0, n), some (2, 48), some (0, x4)] [] M (nPV fun M1 => Sf 2 ac M0 M1)) ∧ (∀ (x4 : Int) (M : nM), Sf 2 ac M0 M → (0 ≤ x4 ∧ x4 ≤ 2) → (3 - x4) * 2 + 1 < (nn : Int) → nW xs (e + 3) 70 59 [some (2, 38), some (0, 8), some (0, n), some (2, 48), some (0, x4)] [] M (nPV fun M1 => Sf 2 ac M0 M1)) := by
  have hd : (2 : Int) = 2 ∨ (2 : Int) = 3 := by decide
  have hac := hS.2.2.2.2
  intro nn
  induction nn with
  | zero => refine ⟨?_, ?_⟩ <;> (intros; omega)
  | succ nn ih =>
    refine ⟨?_, ?_⟩
    · intro x4 M hS k4 hnn
      refine n_iload c_70_17 rfl ?_
      refine n_aload_n c_70_19 rfl ?_
      refine n_getV (bi := 5) c_70_20 sc_38.n rfl rfl rfl (t_38_5 hS) ?_
      intro z1 ez1 f2
      refine n_if2_ge c_70_23 (by omega) (by omega) ?_ ?_
      · intro h3
        exact n_rV c_70_65 rfl hS
      · intro h4
        refine n_aload_n c_70_26 rfl ?_
        refine n_getR c_70_27 sc_38.n rfl rfl rfl r_38_0 ?_
        refine n_iload_n c_70_30 rfl ?_
        refine n_iload c_70_31 rfl ?_
        refine n_iastoreV hS c_70_33 sc_39.n rfl (by omega) (w_39 (by omega) (by omega)) ?_
        intro M5 eM5 hS5
        have g5_0 : M5 38 5 = M 38 5 := by rw [eM5]; exact nu_a (by omega)
        have g5_1 : M5 39 8 = x4 := by rw [eM5]; exact nu_s _ _ _ _
        refine n_aload_n c_70_34 rfl ?_
        refine n_iload_n c_70_35 rfl ?_
        refine n_v1I c_70_36 rfl sc_38.n rfl rfl rfl rfl (fits_2 (l := 8) hS5 (by omega)) ?_
        intro z6 M7 hP8
        obtain ⟨eM, f8⟩ := hP8
        subst eM
        refine n_if0_eq c_70_39 (by omega) ?_ ?_
        · intro h9
          refine n_fg (le_s (le_s (le_s (le_s (le_s le_0))))) ?_
          exact ih.2 _ M5 hS5 (by omega) (by omega)
        · intro h10
          refine n_aload_n c_70_42 rfl ?_
          refine n_iload_n c_70_43 rfl ?_
          refine n_iconst c_70_44 ?_
          refine n_iadd c_70_45 rfl ?_
          refine n_iload_n c_70_46 rfl ?_
          refine n_aload_n c_70_47 rfl ?_
          refine n_getV (bi := 5) c_70_48 sc_38.n rfl rfl rfl (t_38_5 hS5) ?_
          intro z11 ez11 f12
          refine n_imul c_70_51 rfl ?_
          refine n_wrap ?_
          have f13 := n_wr_r (n * z11)
          generalize n_wr (n * z11) = z14 at f13 ⊢
          refine n_iload c_70_52 rfl ?_
          refine n_iadd c_70_54 rfl ?_
          refine n_wrap ?_
          have f15 := n_wr_r (z14 + x4)
          generalize n_wr (z14 + x4) = z16 at f15 ⊢
          refine n_aload_n c_70_55 rfl ?_
          have hcst : ((8 + 1) : Int) = 9 := by omega
          rw [hcst]
          refine n_s4V c_70_56 rfl rfl rfl rfl (gather48_9_2 (n := z16) hS5 (by omega)) ?_
          intro  M17 hP18
          have hS17 := hP18
          refine n_fg (le_s (le_s (le_s (le_s (le_s le_0))))) ?_
          exact ih.2 _ M17 hS17 (by omega) (by omega)
    · intro x4 M hS k4 hnn
      refine n_iinc (L2 := [some (2, 38), some (0, 8), some (0, n), some (2, 48), some (0, (x4 + 1))]) c_70_59 rfl rfl rfl ?_
      refine n_goto c_70_62 ?_
      refine n_fg (le_s (le_s (le_s (le_s (le_s le_0))))) ?_
      exact ih.1 _ M hS (by omega) (by omega)
set_option maxHeartbeats 4000000 in
theorem gather48_8_2 {xs : List Int32} {e : Nat} {ac : Int} {M0 M : nM} {n : Int} (hS : Sf 2 ac M0 M) (hn : -2147483648 ≤ n ∧ n ≤ 2147483647) : nW xs (e + 3) 70 0 [some (2, 38), some (0, 8), some (0, n), some (2, 48), none] [] M (nPV fun M1 => Sf 2 ac M0 M1) := by
  have hd : (2 : Int) = 2 ∨ (2 : Int) = 3 := by decide
  have hac := hS.2.2.2.2
  refine n_iload_n c_70_0 rfl ?_
  refine n_aload_n c_70_1 rfl ?_
  refine n_getV (bi := 6) c_70_2 sc_38.n rfl rfl rfl (t_38_6 hS) ?_
  intro z1 ez1 f2
  refine n_if2_lt c_70_5 (by omega) (by omega) ?_ ?_
  · intro h3
    refine n_iconst c_70_14 ?_
    refine n_istore (L2 := [some (2, 38), some (0, 8), some (0, n), some (2, 48), some (0, 0)]) c_70_15 rfl rfl ?_
    refine n_fg (le_s (le_s (le_s (le_s (le_s le_0))))) ?_
    exact (gather48_8_2_c hS hn 30).1 _ M hS (by omega) (by omega)
  · intro h4
    refine n_aload_n c_70_8 rfl ?_
    refine n_iload_n c_70_9 rfl ?_
    refine n_v1V c_70_10 rfl sc_48.n rfl rfl rfl rfl (add48_2 (n := n) hS (by omega)) ?_
    intro  M5 hP6
    have hS5 := hP6
    exact n_rV c_70_13 rfl hS5

set_option maxHeartbeats 4000000 in
theorem gather48_7_2_c {xs : List Int32} {e : Nat} {ac : Int} {M0 M : nM} {n : Int} (hS : Sf 2 ac M0 M) (hn : -2147483648 ≤ n ∧ n ≤ 2147483647) : ∀ nn : Nat, (∀ (x4 : Int) (M : nM), Sf 2 ac M0 M → (0 ≤ x4 ∧ x4 ≤ 3) → (3 - x4) * 2 + 2 < (nn : Int) → nW xs (e + 4) 70 17 [some (2, 38), some (0, 7), some (0, n), some (2, 48), some (0, x4)] [] M (nPV fun M1 => Sf 2 ac M0 M1)) ∧ (∀ (x4 : Int) (M : nM), Sf 2 ac M0 M → (0 ≤ x4 ∧ x4 ≤ 2) → (3 - x4) * 2 + 1 < (nn : Int) → nW xs (e + 4) 70 59 [some (2, 38), some (0, 7), some (0, n), some (2, 48), some (0, x4)] [] M (nPV fun M1 => Sf 2 ac M0 M1)) := by
  have hd : (2 : Int) = 2 ∨ (2 : Int) = 3 := by decide
  have hac := hS.2.2.2.2
  intro nn
  induction nn with
  | zero => refine ⟨?_, ?_⟩ <;> (intros; omega)
  | succ nn ih =>
    refine ⟨?_, ?_⟩
    · intro x4 M hS k4 hnn
      refine n_iload c_70_17 rfl ?_
      refine n_aload_n c_70_19 rfl ?_
      refine n_getV (bi := 5) c_70_20 sc_38.n rfl rfl rfl (t_38_5 hS) ?_
      intro z1 ez1 f2
      refine n_if2_ge c_70_23 (by omega) (by omega) ?_ ?_
      · intro h3
        exact n_rV c_70_65 rfl hS
      · intro h4
        refine n_aload_n c_70_26 rfl ?_
        refine n_getR c_70_27 sc_38.n rfl rfl rfl r_38_0 ?_
        refine n_iload_n c_70_30 rfl ?_
        refine n_iload c_70_31 rfl ?_
        refine n_iastoreV hS c_70_33 sc_39.n rfl (by omega) (w_39 (by omega) (by omega)) ?_
        intro M5 eM5 hS5
        have g5_0 : M5 38 5 = M 38 5 := by rw [eM5]; exact nu_a (by omega)
        have g5_1 : M5 39 7 = x4 := by rw [eM5]; exact nu_s _ _ _ _
        refine n_aload_n c_70_34 rfl ?_
        refine n_iload_n c_70_35 rfl ?_
        refine n_v1I c_70_36 rfl sc_38.n rfl rfl rfl rfl (fits_2 (l := 7) hS5 (by omega)) ?_
        intro z6 M7 hP8
        obtain ⟨eM, f8⟩ := hP8
        subst eM
        refine n_if0_eq c_70_39 (by omega) ?_ ?_
        · intro h9
          refine n_fg (le_s (le_s (le_s (le_s (le_s le_0))))) ?_
          exact ih.2 _ M5 hS5 (by omega) (by omega)
        · intro h10
          refine n_aload_n c_70_42 rfl ?_
          refine n_iload_n c_70_43 rfl ?_
          refine n_iconst c_70_44 ?_
          refine n_iadd c_70_45 rfl ?_
          refine n_iload_n c_70_46 rfl ?_
          refine n_aload_n c_70_47 rfl ?_
          refine n_getV (bi := 5) c_70_48 sc_38.n rfl rfl rfl (t_38_5 hS5) ?_
          intro z11 ez11 f12
          refine n_imul c_70_51 rfl ?_
          refine n_wrap ?_
          have f13 := n_wr_r (n * z11)
          generalize n_wr (n * z11) = z14 at f13 ⊢
          refine n_iload c_70_52 rfl ?_
          refine n_iadd c_70_54 rfl ?_
          refine n_wrap ?_
          have f15 := n_wr_r (z14 + x4)
          generalize n_wr (z14 + x4) = z16 at f15 ⊢
          refine n_aload_n c_70_55 rfl ?_
          have hcst : ((7 + 1) : Int) = 8 := by omega
          rw [hcst]
          refine n_s4V c_70_56 rfl rfl rfl rfl (gather48_8_2 (n := z16) hS5 (by omega)) ?_
          intro  M17 hP18
          have hS17 := hP18
          refine n_fg (le_s (le_s (le_s (le_s (le_s le_0))))) ?_
          exact ih.2 _ M17 hS17 (by omega) (by omega)
    · intro x4 M hS k4 hnn
      refine n_iinc (L2 := [some (2, 38), some (0, 7), some (0, n), some (2, 48), some (0, (x4 + 1))]) c_70_59 rfl rfl rfl ?_
      refine n_goto c_70_62 ?_
      refine n_fg (le_s (le_s (le_s (le_s (le_s le_0))))) ?_
      exact ih.1 _ M hS (by omega) (by omega)
set_option maxHeartbeats 4000000 in
theorem gather48_7_2 {xs : List Int32} {e : Nat} {ac : Int} {M0 M : nM} {n : Int} (hS : Sf 2 ac M0 M) (hn : -2147483648 ≤ n ∧ n ≤ 2147483647) : nW xs (e + 4) 70 0 [some (2, 38), some (0, 7), some (0, n), some (2, 48), none] [] M (nPV fun M1 => Sf 2 ac M0 M1) := by
  have hd : (2 : Int) = 2 ∨ (2 : Int) = 3 := by decide
  have hac := hS.2.2.2.2
  refine n_iload_n c_70_0 rfl ?_
  refine n_aload_n c_70_1 rfl ?_
  refine n_getV (bi := 6) c_70_2 sc_38.n rfl rfl rfl (t_38_6 hS) ?_
  intro z1 ez1 f2
  refine n_if2_lt c_70_5 (by omega) (by omega) ?_ ?_
  · intro h3
    refine n_iconst c_70_14 ?_
    refine n_istore (L2 := [some (2, 38), some (0, 7), some (0, n), some (2, 48), some (0, 0)]) c_70_15 rfl rfl ?_
    refine n_fg (le_s (le_s (le_s (le_s (le_s le_0))))) ?_
    exact (gather48_7_2_c hS hn 30).1 _ M hS (by omega) (by omega)
  · intro h4
    refine n_aload_n c_70_8 rfl ?_
    refine n_iload_n c_70_9 rfl ?_
    refine n_v1V c_70_10 rfl sc_48.n rfl rfl rfl rfl (add48_2 (n := n) hS (by omega)) ?_
    intro  M5 hP6
    have hS5 := hP6
    exact n_rV c_70_13 rfl hS5

set_option maxHeartbeats 4000000 in
theorem gather48_6_2_c {xs : List Int32} {e : Nat} {ac : Int} {M0 M : nM} {n : Int} (hS : Sf 2 ac M0 M) (hn : -2147483648 ≤ n ∧ n ≤ 2147483647) : ∀ nn : Nat, (∀ (x4 : Int) (M : nM), Sf 2 ac M0 M → (0 ≤ x4 ∧ x4 ≤ 3) → (3 - x4) * 2 + 2 < (nn : Int) → nW xs (e + 5) 70 17 [some (2, 38), some (0, 6), some (0, n), some (2, 48), some (0, x4)] [] M (nPV fun M1 => Sf 2 ac M0 M1)) ∧ (∀ (x4 : Int) (M : nM), Sf 2 ac M0 M → (0 ≤ x4 ∧ x4 ≤ 2) → (3 - x4) * 2 + 1 < (nn : Int) → nW xs (e + 5) 70 59 [some (2, 38), some (0, 6), some (0, n), some (2, 48), some (0, x4)] [] M (nPV fun M1 => Sf 2 ac M0 M1)) := by
  have hd : (2 : Int) = 2 ∨ (2 : Int) = 3 := by decide
  have hac := hS.2.2.2.2
  intro nn
  induction nn with
  | zero => refine ⟨?_, ?_⟩ <;> (intros; omega)
  | succ nn ih =>
    refine ⟨?_, ?_⟩
    · intro x4 M hS k4 hnn
      refine n_iload c_70_17 rfl ?_
      refine n_aload_n c_70_19 rfl ?_
      refine n_getV (bi := 5) c_70_20 sc_38.n rfl rfl rfl (t_38_5 hS) ?_
      intro z1 ez1 f2
      refine n_if2_ge c_70_23 (by omega) (by omega) ?_ ?_
      · intro h3
        exact n_rV c_70_65 rfl hS
      · intro h4
        refine n_aload_n c_70_26 rfl ?_
        refine n_getR c_70_27 sc_38.n rfl rfl rfl r_38_0 ?_
        refine n_iload_n c_70_30 rfl ?_
        refine n_iload c_70_31 rfl ?_
        refine n_iastoreV hS c_70_33 sc_39.n rfl (by omega) (w_39 (by omega) (by omega)) ?_
        intro M5 eM5 hS5
        have g5_0 : M5 38 5 = M 38 5 := by rw [eM5]; exact nu_a (by omega)
        have g5_1 : M5 39 6 = x4 := by rw [eM5]; exact nu_s _ _ _ _
        refine n_aload_n c_70_34 rfl ?_
        refine n_iload_n c_70_35 rfl ?_
        refine n_v1I c_70_36 rfl sc_38.n rfl rfl rfl rfl (fits_2 (l := 6) hS5 (by omega)) ?_
        intro z6 M7 hP8
        obtain ⟨eM, f8⟩ := hP8
        subst eM
        refine n_if0_eq c_70_39 (by omega) ?_ ?_
        · intro h9
          refine n_fg (le_s (le_s (le_s (le_s (le_s le_0))))) ?_
          exact ih.2 _ M5 hS5 (by omega) (by omega)
        · intro h10
          refine n_aload_n c_70_42 rfl ?_
          refine n_iload_n c_70_43 rfl ?_
          refine n_iconst c_70_44 ?_
          refine n_iadd c_70_45 rfl ?_
          refine n_iload_n c_70_46 rfl ?_
          refine n_aload_n c_70_47 rfl ?_
          refine n_getV (bi := 5) c_70_48 sc_38.n rfl rfl rfl (t_38_5 hS5) ?_
          intro z11 ez11 f12
          refine n_imul c_70_51 rfl ?_
          refine n_wrap ?_
          have f13 := n_wr_r (n * z11)
          generalize n_wr (n * z11) = z14 at f13 ⊢
          refine n_iload c_70_52 rfl ?_
          refine n_iadd c_70_54 rfl ?_
          refine n_wrap ?_
          have f15 := n_wr_r (z14 + x4)
          generalize n_wr (z14 + x4) = z16 at f15 ⊢
          refine n_aload_n c_70_55 rfl ?_
          have hcst : ((6 + 1) : Int) = 7 := by omega
          rw [hcst]
          refine n_s4V c_70_56 rfl rfl rfl rfl (gather48_7_2 (n := z16) hS5 (by omega)) ?_
          intro  M17 hP18
          have hS17 := hP18
          refine n_fg (le_s (le_s (le_s (le_s (le_s le_0))))) ?_
          exact ih.2 _ M17 hS17 (by omega) (by omega)
    · intro x4 M hS k4 hnn
      refine n_iinc (L2 := [some (2, 38), some (0, 6), some (0, n), some (2, 48), some (0, (x4 + 1))]) c_70_59 rfl rfl rfl ?_
      refine n_goto c_70_62 ?_
      refine n_fg (le_s (le_s (le_s (le_s (le_s le_0))))) ?_
      exact ih.1 _ M hS (by omega) (by omega)
set_option maxHeartbeats 4000000 in
theorem gather48_6_2 {xs : List Int32} {e : Nat} {ac : Int} {M0 M : nM} {n : Int} (hS : Sf 2 ac M0 M) (hn : -2147483648 ≤ n ∧ n ≤ 2147483647) : nW xs (e + 5) 70 0 [some (2, 38), some (0, 6), some (0, n), some (2, 48), none] [] M (nPV fun M1 => Sf 2 ac M0 M1) := by
  have hd : (2 : Int) = 2 ∨ (2 : Int) = 3 := by decide
  have hac := hS.2.2.2.2
  refine n_iload_n c_70_0 rfl ?_
  refine n_aload_n c_70_1 rfl ?_
  refine n_getV (bi := 6) c_70_2 sc_38.n rfl rfl rfl (t_38_6 hS) ?_
  intro z1 ez1 f2
  refine n_if2_lt c_70_5 (by omega) (by omega) ?_ ?_
  · intro h3
    refine n_iconst c_70_14 ?_
    refine n_istore (L2 := [some (2, 38), some (0, 6), some (0, n), some (2, 48), some (0, 0)]) c_70_15 rfl rfl ?_
    refine n_fg (le_s (le_s (le_s (le_s (le_s le_0))))) ?_
    exact (gather48_6_2_c hS hn 30).1 _ M hS (by omega) (by omega)
  · intro h4
    refine n_aload_n c_70_8 rfl ?_
    refine n_iload_n c_70_9 rfl ?_
    refine n_v1V c_70_10 rfl sc_48.n rfl rfl rfl rfl (add48_2 (n := n) hS (by omega)) ?_
    intro  M5 hP6
    have hS5 := hP6
    exact n_rV c_70_13 rfl hS5

set_option maxHeartbeats 4000000 in
theorem gather48_5_2_c {xs : List Int32} {e : Nat} {ac : Int} {M0 M : nM} {n : Int} (hS : Sf 2 ac M0 M) (hn : -2147483648 ≤ n ∧ n ≤ 2147483647) : ∀ nn : Nat, (∀ (x4 : Int) (M : nM), Sf 2 ac M0 M → (0 ≤ x4 ∧ x4 ≤ 3) → (3 - x4) * 2 + 2 < (nn : Int) → nW xs (e + 6) 70 17 [some (2, 38), some (0, 5), some (0, n), some (2, 48), some (0, x4)] [] M (nPV fun M1 => Sf 2 ac M0 M1)) ∧ (∀ (x4 : Int) (M : nM), Sf 2 ac M0 M → (0 ≤ x4 ∧ x4 ≤ 2) → (3 - x4) * 2 + 1 < (nn : Int) → nW xs (e + 6) 70 59 [some (2, 38), some (0, 5), some (0, n), some (2, 48), some (0, x4)] [] M (nPV fun M1 => Sf 2 ac M0 M1)) := by
  have hd : (2 : Int) = 2 ∨ (2 : Int) = 3 := by decide
  have hac := hS.2.2.2.2
  intro nn
  induction nn with
  | zero => refine ⟨?_, ?_⟩ <;> (intros; omega)
  | succ nn ih =>
    refine ⟨?_, ?_⟩
    · intro x4 M hS k4 hnn
      refine n_iload c_70_17 rfl ?_
      refine n_aload_n c_70_19 rfl ?_
      refine n_getV (bi := 5) c_70_20 sc_38.n rfl rfl rfl (t_38_5 hS) ?_
      intro z1 ez1 f2
      refine n_if2_ge c_70_23 (by omega) (by omega) ?_ ?_
      · intro h3
        exact n_rV c_70_65 rfl hS
      · intro h4
        refine n_aload_n c_70_26 rfl ?_
        refine n_getR c_70_27 sc_38.n rfl rfl rfl r_38_0 ?_
        refine n_iload_n c_70_30 rfl ?_
        refine n_iload c_70_31 rfl ?_
        refine n_iastoreV hS c_70_33 sc_39.n rfl (by omega) (w_39 (by omega) (by omega)) ?_
        intro M5 eM5 hS5
        have g5_0 : M5 38 5 = M 38 5 := by rw [eM5]; exact nu_a (by omega)
        have g5_1 : M5 39 5 = x4 := by rw [eM5]; exact nu_s _ _ _ _
        refine n_aload_n c_70_34 rfl ?_
        refine n_iload_n c_70_35 rfl ?_
        refine n_v1I c_70_36 rfl sc_38.n rfl rfl rfl rfl (fits_2 (l := 5) hS5 (by omega)) ?_
        intro z6 M7 hP8
        obtain ⟨eM, f8⟩ := hP8
        subst eM
        refine n_if0_eq c_70_39 (by omega) ?_ ?_
        · intro h9
          refine n_fg (le_s (le_s (le_s (le_s (le_s le_0))))) ?_
          exact ih.2 _ M5 hS5 (by omega) (by omega)
        · intro h10
          refine n_aload_n c_70_42 rfl ?_
          refine n_iload_n c_70_43 rfl ?_
          refine n_iconst c_70_44 ?_
          refine n_iadd c_70_45 rfl ?_
          refine n_iload_n c_70_46 rfl ?_
          refine n_aload_n c_70_47 rfl ?_
          refine n_getV (bi := 5) c_70_48 sc_38.n rfl rfl rfl (t_38_5 hS5) ?_
          intro z11 ez11 f12
          refine n_imul c_70_51 rfl ?_
          refine n_wrap ?_
          have f13 := n_wr_r (n * z11)
          generalize n_wr (n * z11) = z14 at f13 ⊢
          refine n_iload c_70_52 rfl ?_
          refine n_iadd c_70_54 rfl ?_
          refine n_wrap ?_
          have f15 := n_wr_r (z14 + x4)
          generalize n_wr (z14 + x4) = z16 at f15 ⊢
          refine n_aload_n c_70_55 rfl ?_
          have hcst : ((5 + 1) : Int) = 6 := by omega
          rw [hcst]
          refine n_s4V c_70_56 rfl rfl rfl rfl (gather48_6_2 (n := z16) hS5 (by omega)) ?_
          intro  M17 hP18
          have hS17 := hP18
          refine n_fg (le_s (le_s (le_s (le_s (le_s le_0))))) ?_
          exact ih.2 _ M17 hS17 (by omega) (by omega)
    · intro x4 M hS k4 hnn
      refine n_iinc (L2 := [some (2, 38), some (0, 5), some (0, n), some (2, 48), some (0, (x4 + 1))]) c_70_59 rfl rfl rfl ?_
      refine n_goto c_70_62 ?_
      refine n_fg (le_s (le_s (le_s (le_s (le_s le_0))))) ?_
      exact ih.1 _ M hS (by omega) (by omega)
set_option maxHeartbeats 4000000 in
theorem gather48_5_2 {xs : List Int32} {e : Nat} {ac : Int} {M0 M : nM} {n : Int} (hS : Sf 2 ac M0 M) (hn : -2147483648 ≤ n ∧ n ≤ 2147483647) : nW xs (e + 6) 70 0 [some (2, 38), some (0, 5), some (0, n), some (2, 48), none] [] M (nPV fun M1 => Sf 2 ac M0 M1) := by
  have hd : (2 : Int) = 2 ∨ (2 : Int) = 3 := by decide
  have hac := hS.2.2.2.2
  refine n_iload_n c_70_0 rfl ?_
  refine n_aload_n c_70_1 rfl ?_
  refine n_getV (bi := 6) c_70_2 sc_38.n rfl rfl rfl (t_38_6 hS) ?_
  intro z1 ez1 f2
  refine n_if2_lt c_70_5 (by omega) (by omega) ?_ ?_
  · intro h3
    refine n_iconst c_70_14 ?_
    refine n_istore (L2 := [some (2, 38), some (0, 5), some (0, n), some (2, 48), some (0, 0)]) c_70_15 rfl rfl ?_
    refine n_fg (le_s (le_s (le_s (le_s (le_s le_0))))) ?_
    exact (gather48_5_2_c hS hn 30).1 _ M hS (by omega) (by omega)
  · intro h4
    refine n_aload_n c_70_8 rfl ?_
    refine n_iload_n c_70_9 rfl ?_
    refine n_v1V c_70_10 rfl sc_48.n rfl rfl rfl rfl (add48_2 (n := n) hS (by omega)) ?_
    intro  M5 hP6
    have hS5 := hP6
    exact n_rV c_70_13 rfl hS5

set_option maxHeartbeats 4000000 in
theorem gather48_4_2_c {xs : List Int32} {e : Nat} {ac : Int} {M0 M : nM} {n : Int} (hS : Sf 2 ac M0 M) (hn : -2147483648 ≤ n ∧ n ≤ 2147483647) : ∀ nn : Nat, (∀ (x4 : Int) (M : nM), Sf 2 ac M0 M → (0 ≤ x4 ∧ x4 ≤ 3) → (3 - x4) * 2 + 2 < (nn : Int) → nW xs (e + 7) 70 17 [some (2, 38), some (0, 4), some (0, n), some (2, 48), some (0, x4)] [] M (nPV fun M1 => Sf 2 ac M0 M1)) ∧ (∀ (x4 : Int) (M : nM), Sf 2 ac M0 M → (0 ≤ x4 ∧ x4 ≤ 2) → (3 - x4) * 2 + 1 < (nn : Int) → nW xs (e + 7) 70 59 [some (2, 38), some (0, 4), some (0, n), some (2, 48), some (0, x4)] [] M (nPV fun M1 => Sf 2 ac M0 M1)) := by
  have hd : (2 : Int) = 2 ∨ (2 : Int) = 3 := by decide
  have hac := hS.2.2.2.2
  intro nn
  induction nn with
  | zero => refine ⟨?_, ?_⟩ <;> (intros; omega)
  | succ nn ih =>
    refine ⟨?_, ?_⟩
    · intro x4 M hS k4 hnn
      refine n_iload c_70_17 rfl ?_
      refine n_aload_n c_70_19 rfl ?_
      refine n_getV (bi := 5) c_70_20 sc_38.n rfl rfl rfl (t_38_5 hS) ?_
      intro z1 ez1 f2
      refine n_if2_ge c_70_23 (by omega) (by omega) ?_ ?_
      · intro h3
        exact n_rV c_70_65 rfl hS
      · intro h4
        refine n_aload_n c_70_26 rfl ?_
        refine n_getR c_70_27 sc_38.n rfl rfl rfl r_38_0 ?_
        refine n_iload_n c_70_30 rfl ?_
        refine n_iload c_70_31 rfl ?_
        refine n_iastoreV hS c_70_33 sc_39.n rfl (by omega) (w_39 (by omega) (by omega)) ?_
        intro M5 eM5 hS5
        have g5_0 : M5 38 5 = M 38 5 := by rw [eM5]; exact nu_a (by omega)
        have g5_1 : M5 39 4 = x4 := by rw [eM5]; exact nu_s _ _ _ _
        refine n_aload_n c_70_34 rfl ?_
        refine n_iload_n c_70_35 rfl ?_
        refine n_v1I c_70_36 rfl sc_38.n rfl rfl rfl rfl (fits_2 (l := 4) hS5 (by omega)) ?_
        intro z6 M7 hP8
        obtain ⟨eM, f8⟩ := hP8
        subst eM
        refine n_if0_eq c_70_39 (by omega) ?_ ?_
        · intro h9
          refine n_fg (le_s (le_s (le_s (le_s (le_s le_0))))) ?_
          exact ih.2 _ M5 hS5 (by omega) (by omega)
        · intro h10
          refine n_aload_n c_70_42 rfl ?_
          refine n_iload_n c_70_43 rfl ?_
          refine n_iconst c_70_44 ?_
          refine n_iadd c_70_45 rfl ?_
          refine n_iload_n c_70_46 rfl ?_
          refine n_aload_n c_70_47 rfl ?_
          refine n_getV (bi := 5) c_70_48 sc_38.n rfl rfl rfl (t_38_5 hS5) ?_
          intro z11 ez11 f12
          refine n_imul c_70_51 rfl ?_
          refine n_wrap ?_
          have f13 := n_wr_r (n * z11)
          generalize n_wr (n * z11) = z14 at f13 ⊢
          refine n_iload c_70_52 rfl ?_
          refine n_iadd c_70_54 rfl ?_
          refine n_wrap ?_
          have f15 := n_wr_r (z14 + x4)
          generalize n_wr (z14 + x4) = z16 at f15 ⊢
          refine n_aload_n c_70_55 rfl ?_
          have hcst : ((4 + 1) : Int) = 5 := by omega
          rw [hcst]
          refine n_s4V c_70_56 rfl rfl rfl rfl (gather48_5_2 (n := z16) hS5 (by omega)) ?_
          intro  M17 hP18
          have hS17 := hP18
          refine n_fg (le_s (le_s (le_s (le_s (le_s le_0))))) ?_
          exact ih.2 _ M17 hS17 (by omega) (by omega)
    · intro x4 M hS k4 hnn
      refine n_iinc (L2 := [some (2, 38), some (0, 4), some (0, n), some (2, 48), some (0, (x4 + 1))]) c_70_59 rfl rfl rfl ?_
      refine n_goto c_70_62 ?_
      refine n_fg (le_s (le_s (le_s (le_s (le_s le_0))))) ?_
      exact ih.1 _ M hS (by omega) (by omega)
set_option maxHeartbeats 4000000 in
theorem gather48_4_2 {xs : List Int32} {e : Nat} {ac : Int} {M0 M : nM} {n : Int} (hS : Sf 2 ac M0 M) (hn : -2147483648 ≤ n ∧ n ≤ 2147483647) : nW xs (e + 7) 70 0 [some (2, 38), some (0, 4), some (0, n), some (2, 48), none] [] M (nPV fun M1 => Sf 2 ac M0 M1) := by
  have hd : (2 : Int) = 2 ∨ (2 : Int) = 3 := by decide
  have hac := hS.2.2.2.2
  refine n_iload_n c_70_0 rfl ?_
  refine n_aload_n c_70_1 rfl ?_
  refine n_getV (bi := 6) c_70_2 sc_38.n rfl rfl rfl (t_38_6 hS) ?_
  intro z1 ez1 f2
  refine n_if2_lt c_70_5 (by omega) (by omega) ?_ ?_
  · intro h3
    refine n_iconst c_70_14 ?_
    refine n_istore (L2 := [some (2, 38), some (0, 4), some (0, n), some (2, 48), some (0, 0)]) c_70_15 rfl rfl ?_
    refine n_fg (le_s (le_s (le_s (le_s (le_s le_0))))) ?_
    exact (gather48_4_2_c hS hn 30).1 _ M hS (by omega) (by omega)
  · intro h4
    refine n_aload_n c_70_8 rfl ?_
    refine n_iload_n c_70_9 rfl ?_
    refine n_v1V c_70_10 rfl sc_48.n rfl rfl rfl rfl (add48_2 (n := n) hS (by omega)) ?_
    intro  M5 hP6
    have hS5 := hP6
    exact n_rV c_70_13 rfl hS5

set_option maxHeartbeats 4000000 in
theorem gather48_3_2_c {xs : List Int32} {e : Nat} {ac : Int} {M0 M : nM} {n : Int} (hS : Sf 2 ac M0 M) (hn : -2147483648 ≤ n ∧ n ≤ 2147483647) : ∀ nn : Nat, (∀ (x4 : Int) (M : nM), Sf 2 ac M0 M → (0 ≤ x4 ∧ x4 ≤ 3) → (3 - x4) * 2 + 2 < (nn : Int) → nW xs (e + 8) 70 17 [some (2, 38), some (0, 3), some (0, n), some (2, 48), some (0, x4)] [] M (nPV fun M1 => Sf 2 ac M0 M1)) ∧ (∀ (x4 : Int) (M : nM), Sf 2 ac M0 M → (0 ≤ x4 ∧ x4 ≤ 2) → (3 - x4) * 2 + 1 < (nn : Int) → nW xs (e + 8) 70 59 [some (2, 38), some (0, 3), some (0, n), some (2, 48), some (0, x4)] [] M (nPV fun M1 => Sf 2 ac M0 M1)) := by
  have hd : (2 : Int) = 2 ∨ (2 : Int) = 3 := by decide
  have hac := hS.2.2.2.2
  intro nn
  induction nn with
  | zero => refine ⟨?_, ?_⟩ <;> (intros; omega)
  | succ nn ih =>
    refine ⟨?_, ?_⟩
    · intro x4 M hS k4 hnn
      refine n_iload c_70_17 rfl ?_
      refine n_aload_n c_70_19 rfl ?_
      refine n_getV (bi := 5) c_70_20 sc_38.n rfl rfl rfl (t_38_5 hS) ?_
      intro z1 ez1 f2
      refine n_if2_ge c_70_23 (by omega) (by omega) ?_ ?_
      · intro h3
        exact n_rV c_70_65 rfl hS
      · intro h4
        refine n_aload_n c_70_26 rfl ?_
        refine n_getR c_70_27 sc_38.n rfl rfl rfl r_38_0 ?_
        refine n_iload_n c_70_30 rfl ?_
        refine n_iload c_70_31 rfl ?_
        refine n_iastoreV hS c_70_33 sc_39.n rfl (by omega) (w_39 (by omega) (by omega)) ?_
        intro M5 eM5 hS5
        have g5_0 : M5 38 5 = M 38 5 := by rw [eM5]; exact nu_a (by omega)
        have g5_1 : M5 39 3 = x4 := by rw [eM5]; exact nu_s _ _ _ _
        refine n_aload_n c_70_34 rfl ?_
        refine n_iload_n c_70_35 rfl ?_
        refine n_v1I c_70_36 rfl sc_38.n rfl rfl rfl rfl (fits_2 (l := 3) hS5 (by omega)) ?_
        intro z6 M7 hP8
        obtain ⟨eM, f8⟩ := hP8
        subst eM
        refine n_if0_eq c_70_39 (by omega) ?_ ?_
        · intro h9
          refine n_fg (le_s (le_s (le_s (le_s (le_s le_0))))) ?_
          exact ih.2 _ M5 hS5 (by omega) (by omega)
        · intro h10
          refine n_aload_n c_70_42 rfl ?_
          refine n_iload_n c_70_43 rfl ?_
          refine n_iconst c_70_44 ?_
          refine n_iadd c_70_45 rfl ?_
          refine n_iload_n c_70_46 rfl ?_
          refine n_aload_n c_70_47 rfl ?_
          refine n_getV (bi := 5) c_70_48 sc_38.n rfl rfl rfl (t_38_5 hS5) ?_
          intro z11 ez11 f12
          refine n_imul c_70_51 rfl ?_
          refine n_wrap ?_
          have f13 := n_wr_r (n * z11)
          generalize n_wr (n * z11) = z14 at f13 ⊢
          refine n_iload c_70_52 rfl ?_
          refine n_iadd c_70_54 rfl ?_
          refine n_wrap ?_
          have f15 := n_wr_r (z14 + x4)
          generalize n_wr (z14 + x4) = z16 at f15 ⊢
          refine n_aload_n c_70_55 rfl ?_
          have hcst : ((3 + 1) : Int) = 4 := by omega
          rw [hcst]
          refine n_s4V c_70_56 rfl rfl rfl rfl (gather48_4_2 (n := z16) hS5 (by omega)) ?_
          intro  M17 hP18
          have hS17 := hP18
          refine n_fg (le_s (le_s (le_s (le_s (le_s le_0))))) ?_
          exact ih.2 _ M17 hS17 (by omega) (by omega)
    · intro x4 M hS k4 hnn
      refine n_iinc (L2 := [some (2, 38), some (0, 3), some (0, n), some (2, 48), some (0, (x4 + 1))]) c_70_59 rfl rfl rfl ?_
      refine n_goto c_70_62 ?_
      refine n_fg (le_s (le_s (le_s (le_s (le_s le_0))))) ?_
      exact ih.1 _ M hS (by omega) (by omega)
set_option maxHeartbeats 4000000 in
theorem gather48_3_2 {xs : List Int32} {e : Nat} {ac : Int} {M0 M : nM} {n : Int} (hS : Sf 2 ac M0 M) (hn : -2147483648 ≤ n ∧ n ≤ 2147483647) : nW xs (e + 8) 70 0 [some (2, 38), some (0, 3), some (0, n), some (2, 48), none] [] M (nPV fun M1 => Sf 2 ac M0 M1) := by
  have hd : (2 : Int) = 2 ∨ (2 : Int) = 3 := by decide
  have hac := hS.2.2.2.2
  refine n_iload_n c_70_0 rfl ?_
  refine n_aload_n c_70_1 rfl ?_
  refine n_getV (bi := 6) c_70_2 sc_38.n rfl rfl rfl (t_38_6 hS) ?_
  intro z1 ez1 f2
  refine n_if2_lt c_70_5 (by omega) (by omega) ?_ ?_
  · intro h3
    refine n_iconst c_70_14 ?_
    refine n_istore (L2 := [some (2, 38), some (0, 3), some (0, n), some (2, 48), some (0, 0)]) c_70_15 rfl rfl ?_
    refine n_fg (le_s (le_s (le_s (le_s (le_s le_0))))) ?_
    exact (gather48_3_2_c hS hn 30).1 _ M hS (by omega) (by omega)
  · intro h4
    refine n_aload_n c_70_8 rfl ?_
    refine n_iload_n c_70_9 rfl ?_
    refine n_v1V c_70_10 rfl sc_48.n rfl rfl rfl rfl (add48_2 (n := n) hS (by omega)) ?_
    intro  M5 hP6
    have hS5 := hP6
    exact n_rV c_70_13 rfl hS5

set_option maxHeartbeats 4000000 in
theorem gather48_2_2_c {xs : List Int32} {e : Nat} {ac : Int} {M0 M : nM} {n : Int} (hS : Sf 2 ac M0 M) (hn : -2147483648 ≤ n ∧ n ≤ 2147483647) : ∀ nn : Nat, (∀ (x4 : Int) (M : nM), Sf 2 ac M0 M → (0 ≤ x4 ∧ x4 ≤ 3) → (3 - x4) * 2 + 2 < (nn : Int) → nW xs (e + 9) 70 17 [some (2, 38), some (0, 2), some (0, n), some (2, 48), some (0, x4)] [] M (nPV fun M1 => Sf 2 ac M0 M1)) ∧ (∀ (x4 : Int) (M : nM), Sf 2 ac M0 M → (0 ≤ x4 ∧ x4 ≤ 2) → (3 - x4) * 2 + 1 < (nn : Int) → nW xs (e + 9) 70 59 [some (2, 38), some (0, 2), some (0, n), some (2, 48), some (0, x4)] [] M (nPV fun M1 => Sf 2 ac M0 M1)) := by
  have hd : (2 : Int) = 2 ∨ (2 : Int) = 3 := by decide
  have hac := hS.2.2.2.2
  intro nn
  induction nn with
  | zero => refine ⟨?_, ?_⟩ <;> (intros; omega)
  | succ nn ih =>
    refine ⟨?_, ?_⟩
    · intro x4 M hS k4 hnn
      refine n_iload c_70_17 rfl ?_
      refine n_aload_n c_70_19 rfl ?_
      refine n_getV (bi := 5) c_70_20 sc_38.n rfl rfl rfl (t_38_5 hS) ?_
      intro z1 ez1 f2
      refine n_if2_ge c_70_23 (by omega) (by omega) ?_ ?_
      · intro h3
        exact n_rV c_70_65 rfl hS
      · intro h4
        refine n_aload_n c_70_26 rfl ?_
        refine n_getR c_70_27 sc_38.n rfl rfl rfl r_38_0 ?_
        refine n_iload_n c_70_30 rfl ?_
        refine n_iload c_70_31 rfl ?_
        refine n_iastoreV hS c_70_33 sc_39.n rfl (by omega) (w_39 (by omega) (by omega)) ?_
        intro M5 eM5 hS5
        have g5_0 : M5 38 5 = M 38 5 := by rw [eM5]; exact nu_a (by omega)
        have g5_1 : M5 39 2 = x4 := by rw [eM5]; exact nu_s _ _ _ _
        refine n_aload_n c_70_34 rfl ?_
        refine n_iload_n c_70_35 rfl ?_
        refine n_v1I c_70_36 rfl sc_38.n rfl rfl rfl rfl (fits_2 (l := 2) hS5 (by omega)) ?_
        intro z6 M7 hP8
        obtain ⟨eM, f8⟩ := hP8
        subst eM
        refine n_if0_eq c_70_39 (by omega) ?_ ?_
        · intro h9
          refine n_fg (le_s (le_s (le_s (le_s (le_s le_0))))) ?_
          exact ih.2 _ M5 hS5 (by omega) (by omega)
        · intro h10
          refine n_aload_n c_70_42 rfl ?_
          refine n_iload_n c_70_43 rfl ?_
          refine n_iconst c_70_44 ?_
          refine n_iadd c_70_45 rfl ?_
          refine n_iload_n c_70_46 rfl ?_
          refine n_aload_n c_70_47 rfl ?_
          refine n_getV (bi := 5) c_70_48 sc_38.n rfl rfl rfl (t_38_5 hS5) ?_
          intro z11 ez11 f12
          refine n_imul c_70_51 rfl ?_
          refine n_wrap ?_
          have f13 := n_wr_r (n * z11)
          generalize n_wr (n * z11) = z14 at f13 ⊢
          refine n_iload c_70_52 rfl ?_
          refine n_iadd c_70_54 rfl ?_
          refine n_wrap ?_
          have f15 := n_wr_r (z14 + x4)
          generalize n_wr (z14 + x4) = z16 at f15 ⊢
          refine n_aload_n c_70_55 rfl ?_
          have hcst : ((2 + 1) : Int) = 3 := by omega
          rw [hcst]
          refine n_s4V c_70_56 rfl rfl rfl rfl (gather48_3_2 (n := z16) hS5 (by omega)) ?_
          intro  M17 hP18
          have hS17 := hP18
          refine n_fg (le_s (le_s (le_s (le_s (le_s le_0))))) ?_
          exact ih.2 _ M17 hS17 (by omega) (by omega)
    · intro x4 M hS k4 hnn
      refine n_iinc (L2 := [some (2, 38), some (0, 2), some (0, n), some (2, 48), some (0, (x4 + 1))]) c_70_59 rfl rfl rfl ?_
      refine n_goto c_70_62 ?_
      refine n_fg (le_s (le_s (le_s (le_s (le_s le_0))))) ?_
      exact ih.1 _ M hS (by omega) (by omega)
set_option maxHeartbeats 4000000 in
theorem gather48_2_2 {xs : List Int32} {e : Nat} {ac : Int} {M0 M : nM} {n : Int} (hS : Sf 2 ac M0 M) (hn : -2147483648 ≤ n ∧ n ≤ 2147483647) : nW xs (e + 9) 70 0 [some (2, 38), some (0, 2), some (0, n), some (2, 48), none] [] M (nPV fun M1 => Sf 2 ac M0 M1) := by
  have hd : (2 : Int) = 2 ∨ (2 : Int) = 3 := by decide
  have hac := hS.2.2.2.2
  refine n_iload_n c_70_0 rfl ?_
  refine n_aload_n c_70_1 rfl ?_
  refine n_getV (bi := 6) c_70_2 sc_38.n rfl rfl rfl (t_38_6 hS) ?_
  intro z1 ez1 f2
  refine n_if2_lt c_70_5 (by omega) (by omega) ?_ ?_
  · intro h3
    refine n_iconst c_70_14 ?_
    refine n_istore (L2 := [some (2, 38), some (0, 2), some (0, n), some (2, 48), some (0, 0)]) c_70_15 rfl rfl ?_
    refine n_fg (le_s (le_s (le_s (le_s (le_s le_0))))) ?_
    exact (gather48_2_2_c hS hn 30).1 _ M hS (by omega) (by omega)
  · intro h4
    refine n_aload_n c_70_8 rfl ?_
    refine n_iload_n c_70_9 rfl ?_
    refine n_v1V c_70_10 rfl sc_48.n rfl rfl rfl rfl (add48_2 (n := n) hS (by omega)) ?_
    intro  M5 hP6
    have hS5 := hP6
    exact n_rV c_70_13 rfl hS5

set_option maxHeartbeats 4000000 in
theorem gather48_1_2_c {xs : List Int32} {e : Nat} {ac : Int} {M0 M : nM} {n : Int} (hS : Sf 2 ac M0 M) (hn : -2147483648 ≤ n ∧ n ≤ 2147483647) : ∀ nn : Nat, (∀ (x4 : Int) (M : nM), Sf 2 ac M0 M → (0 ≤ x4 ∧ x4 ≤ 3) → (3 - x4) * 2 + 2 < (nn : Int) → nW xs (e + 10) 70 17 [some (2, 38), some (0, 1), some (0, n), some (2, 48), some (0, x4)] [] M (nPV fun M1 => Sf 2 ac M0 M1)) ∧ (∀ (x4 : Int) (M : nM), Sf 2 ac M0 M → (0 ≤ x4 ∧ x4 ≤ 2) → (3 - x4) * 2 + 1 < (nn : Int) → nW xs (e + 10) 70 59 [some (2, 38), some (0, 1), some (0, n), some (2, 48), some (0, x4)] [] M (nPV fun M1 => Sf 2 ac M0 M1)) := by
  have hd : (2 : Int) = 2 ∨ (2 : Int) = 3 := by decide
  have hac := hS.2.2.2.2
  intro nn
  induction nn with
  | zero => refine ⟨?_, ?_⟩ <;> (intros; omega)
  | succ nn ih =>
    refine ⟨?_, ?_⟩
    · intro x4 M hS k4 hnn
      refine n_iload c_70_17 rfl ?_
      refine n_aload_n c_70_19 rfl ?_
      refine n_getV (bi := 5) c_70_20 sc_38.n rfl rfl rfl (t_38_5 hS) ?_
      intro z1 ez1 f2
      refine n_if2_ge c_70_23 (by omega) (by omega) ?_ ?_
      · intro h3
        exact n_rV c_70_65 rfl hS
      · intro h4
        refine n_aload_n c_70_26 rfl ?_
        refine n_getR c_70_27 sc_38.n rfl rfl rfl r_38_0 ?_
        refine n_iload_n c_70_30 rfl ?_
        refine n_iload c_70_31 rfl ?_
        refine n_iastoreV hS c_70_33 sc_39.n rfl (by omega) (w_39 (by omega) (by omega)) ?_
        intro M5 eM5 hS5
        have g5_0 : M5 38 5 = M 38 5 := by rw [eM5]; exact nu_a (by omega)
        have g5_1 : M5 39 1 = x4 := by rw [eM5]; exact nu_s _ _ _ _
        refine n_aload_n c_70_34 rfl ?_
        refine n_iload_n c_70_35 rfl ?_
        refine n_v1I c_70_36 rfl sc_38.n rfl rfl rfl rfl (fits_2 (l := 1) hS5 (by omega)) ?_
        intro z6 M7 hP8
        obtain ⟨eM, f8⟩ := hP8
        subst eM
        refine n_if0_eq c_70_39 (by omega) ?_ ?_
        · intro h9
          refine n_fg (le_s (le_s (le_s (le_s (le_s le_0))))) ?_
          exact ih.2 _ M5 hS5 (by omega) (by omega)
        · intro h10
          refine n_aload_n c_70_42 rfl ?_
          refine n_iload_n c_70_43 rfl ?_
          refine n_iconst c_70_44 ?_
          refine n_iadd c_70_45 rfl ?_
          refine n_iload_n c_70_46 rfl ?_
          refine n_aload_n c_70_47 rfl ?_
          refine n_getV (bi := 5) c_70_48 sc_38.n rfl rfl rfl (t_38_5 hS5) ?_
          intro z11 ez11 f12
          refine n_imul c_70_51 rfl ?_
          refine n_wrap ?_
          have f13 := n_wr_r (n * z11)
          generalize n_wr (n * z11) = z14 at f13 ⊢
          refine n_iload c_70_52 rfl ?_
          refine n_iadd c_70_54 rfl ?_
          refine n_wrap ?_
          have f15 := n_wr_r (z14 + x4)
          generalize n_wr (z14 + x4) = z16 at f15 ⊢
          refine n_aload_n c_70_55 rfl ?_
          have hcst : ((1 + 1) : Int) = 2 := by omega
          rw [hcst]
          refine n_s4V c_70_56 rfl rfl rfl rfl (gather48_2_2 (n := z16) hS5 (by omega)) ?_
          intro  M17 hP18
          have hS17 := hP18
          refine n_fg (le_s (le_s (le_s (le_s (le_s le_0))))) ?_
          exact ih.2 _ M17 hS17 (by omega) (by omega)
    · intro x4 M hS k4 hnn
      refine n_iinc (L2 := [some (2, 38), some (0, 1), some (0, n), some (2, 48), some (0, (x4 + 1))]) c_70_59 rfl rfl rfl ?_
      refine n_goto c_70_62 ?_
      refine n_fg (le_s (le_s (le_s (le_s (le_s le_0))))) ?_
      exact ih.1 _ M hS (by omega) (by omega)
set_option maxHeartbeats 4000000 in
theorem gather48_1_2 {xs : List Int32} {e : Nat} {ac : Int} {M0 M : nM} {n : Int} (hS : Sf 2 ac M0 M) (hn : -2147483648 ≤ n ∧ n ≤ 2147483647) : nW xs (e + 10) 70 0 [some (2, 38), some (0, 1), some (0, n), some (2, 48), none] [] M (nPV fun M1 => Sf 2 ac M0 M1) := by
  have hd : (2 : Int) = 2 ∨ (2 : Int) = 3 := by decide
  have hac := hS.2.2.2.2
  refine n_iload_n c_70_0 rfl ?_
  refine n_aload_n c_70_1 rfl ?_
  refine n_getV (bi := 6) c_70_2 sc_38.n rfl rfl rfl (t_38_6 hS) ?_
  intro z1 ez1 f2
  refine n_if2_lt c_70_5 (by omega) (by omega) ?_ ?_
  · intro h3
    refine n_iconst c_70_14 ?_
    refine n_istore (L2 := [some (2, 38), some (0, 1), some (0, n), some (2, 48), some (0, 0)]) c_70_15 rfl rfl ?_
    refine n_fg (le_s (le_s (le_s (le_s (le_s le_0))))) ?_
    exact (gather48_1_2_c hS hn 30).1 _ M hS (by omega) (by omega)
  · intro h4
    refine n_aload_n c_70_8 rfl ?_
    refine n_iload_n c_70_9 rfl ?_
    refine n_v1V c_70_10 rfl sc_48.n rfl rfl rfl rfl (add48_2 (n := n) hS (by omega)) ?_
    intro  M5 hP6
    have hS5 := hP6
    exact n_rV c_70_13 rfl hS5

set_option maxHeartbeats 4000000 in
theorem gather48_0_2_c {xs : List Int32} {e : Nat} {ac : Int} {M0 M : nM} {n : Int} (hS : Sf 2 ac M0 M) (hn : -2147483648 ≤ n ∧ n ≤ 2147483647) : ∀ nn : Nat, (∀ (x4 : Int) (M : nM), Sf 2 ac M0 M → (0 ≤ x4 ∧ x4 ≤ 3) → (3 - x4) * 2 + 2 < (nn : Int) → nW xs (e + 11) 70 17 [some (2, 38), some (0, 0), some (0, n), some (2, 48), some (0, x4)] [] M (nPV fun M1 => Sf 2 ac M0 M1)) ∧ (∀ (x4 : Int) (M : nM), Sf 2 ac M0 M → (0 ≤ x4 ∧ x4 ≤ 2) → (3 - x4) * 2 + 1 < (nn : Int) → nW xs (e + 11) 70 59 [some (2, 38), some (0, 0), some (0, n), some (2, 48), some (0, x4)] [] M (nPV fun M1 => Sf 2 ac M0 M1)) := by
  have hd : (2 : Int) = 2 ∨ (2 : Int) = 3 := by decide
  have hac := hS.2.2.2.2
  intro nn
  induction nn with
  | zero => refine ⟨?_, ?_⟩ <;> (intros; omega)
  | succ nn ih =>
    refine ⟨?_, ?_⟩
    · intro x4 M hS k4 hnn
      refine n_iload c_70_17 rfl ?_
      refine n_aload_n c_70_19 rfl ?_
      refine n_getV (bi := 5) c_70_20 sc_38.n rfl rfl rfl (t_38_5 hS) ?_
      intro z1 ez1 f2
      refine n_if2_ge c_70_23 (by omega) (by omega) ?_ ?_
      · intro h3
        exact n_rV c_70_65 rfl hS
      · intro h4
        refine n_aload_n c_70_26 rfl ?_
        refine n_getR c_70_27 sc_38.n rfl rfl rfl r_38_0 ?_
        refine n_iload_n c_70_30 rfl ?_
        refine n_iload c_70_31 rfl ?_
        refine n_iastoreV hS c_70_33 sc_39.n rfl (by omega) (w_39 (by omega) (by omega)) ?_
        intro M5 eM5 hS5
        have g5_0 : M5 38 5 = M 38 5 := by rw [eM5]; exact nu_a (by omega)
        have g5_1 : M5 39 0 = x4 := by rw [eM5]; exact nu_s _ _ _ _
        refine n_aload_n c_70_34 rfl ?_
        refine n_iload_n c_70_35 rfl ?_
        refine n_v1I c_70_36 rfl sc_38.n rfl rfl rfl rfl (fits_2 (l := 0) hS5 (by omega)) ?_
        intro z6 M7 hP8
        obtain ⟨eM, f8⟩ := hP8
        subst eM
        refine n_if0_eq c_70_39 (by omega) ?_ ?_
        · intro h9
          refine n_fg (le_s (le_s (le_s (le_s (le_s le_0))))) ?_
          exact ih.2 _ M5 hS5 (by omega) (by omega)
        · intro h10
          refine n_aload_n c_70_42 rfl ?_
          refine n_iload_n c_70_43 rfl ?_
          refine n_iconst c_70_44 ?_
          refine n_iadd c_70_45 rfl ?_
          refine n_iload_n c_70_46 rfl ?_
          refine n_aload_n c_70_47 rfl ?_
          refine n_getV (bi := 5) c_70_48 sc_38.n rfl rfl rfl (t_38_5 hS5) ?_
          intro z11 ez11 f12
          refine n_imul c_70_51 rfl ?_
          refine n_wrap ?_
          have f13 := n_wr_r (n * z11)
          generalize n_wr (n * z11) = z14 at f13 ⊢
          refine n_iload c_70_52 rfl ?_
          refine n_iadd c_70_54 rfl ?_
          refine n_wrap ?_
          have f15 := n_wr_r (z14 + x4)
          generalize n_wr (z14 + x4) = z16 at f15 ⊢
          refine n_aload_n c_70_55 rfl ?_
          have hcst : ((0 + 1) : Int) = 1 := by omega
          rw [hcst]
          refine n_s4V c_70_56 rfl rfl rfl rfl (gather48_1_2 (n := z16) hS5 (by omega)) ?_
          intro  M17 hP18
          have hS17 := hP18
          refine n_fg (le_s (le_s (le_s (le_s (le_s le_0))))) ?_
          exact ih.2 _ M17 hS17 (by omega) (by omega)
    · intro x4 M hS k4 hnn
      refine n_iinc (L2 := [some (2, 38), some (0, 0), some (0, n), some (2, 48), some (0, (x4 + 1))]) c_70_59 rfl rfl rfl ?_
      refine n_goto c_70_62 ?_
      refine n_fg (le_s (le_s (le_s (le_s (le_s le_0))))) ?_
      exact ih.1 _ M hS (by omega) (by omega)
set_option maxHeartbeats 4000000 in
theorem gather48_0_2 {xs : List Int32} {e : Nat} {ac : Int} {M0 M : nM} {n : Int} (hS : Sf 2 ac M0 M) (hn : -2147483648 ≤ n ∧ n ≤ 2147483647) : nW xs (e + 11) 70 0 [some (2, 38), some (0, 0), some (0, n), some (2, 48), none] [] M (nPV fun M1 => Sf 2 ac M0 M1) := by
  have hd : (2 : Int) = 2 ∨ (2 : Int) = 3 := by decide
  have hac := hS.2.2.2.2
  refine n_iload_n c_70_0 rfl ?_
  refine n_aload_n c_70_1 rfl ?_
  refine n_getV (bi := 6) c_70_2 sc_38.n rfl rfl rfl (t_38_6 hS) ?_
  intro z1 ez1 f2
  refine n_if2_lt c_70_5 (by omega) (by omega) ?_ ?_
  · intro h3
    refine n_iconst c_70_14 ?_
    refine n_istore (L2 := [some (2, 38), some (0, 0), some (0, n), some (2, 48), some (0, 0)]) c_70_15 rfl rfl ?_
    refine n_fg (le_s (le_s (le_s (le_s (le_s le_0))))) ?_
    exact (gather48_0_2_c hS hn 30).1 _ M hS (by omega) (by omega)
  · intro h4
    refine n_aload_n c_70_8 rfl ?_
    refine n_iload_n c_70_9 rfl ?_
    refine n_v1V c_70_10 rfl sc_48.n rfl rfl rfl rfl (add48_2 (n := n) hS (by omega)) ?_
    intro  M5 hP6
    have hS5 := hP6
    exact n_rV c_70_13 rfl hS5

set_option maxHeartbeats 4000000 in
theorem findAll48_2 {xs : List Int32} {e : Nat} {ac : Int} {M0 M : nM} (hS : Sf 2 ac M0 M)  : nW xs (e + 14) 68 0 [some (2, 38), some (2, 48)] [] M (nPV fun M1 => Sf 2 ac M0 M1) := by
  have hd : (2 : Int) = 2 ∨ (2 : Int) = 3 := by decide
  have hac := hS.2.2.2.2
  refine n_aload_n c_68_0 rfl ?_
  refine n_v0V c_68_1 rfl sc_48.n rfl rfl rfl rfl (clear48_2  hS ) ?_
  intro  M1 hP2
  have hS1 := hP2
  refine n_aload_n c_68_4 rfl ?_
  refine n_iconst c_68_5 ?_
  refine n_iconst c_68_6 ?_
  refine n_aload_n c_68_7 rfl ?_
  refine n_s4V c_68_8 rfl rfl rfl rfl (gather48_0_2 (n := 0) hS1 (by omega)) ?_
  intro  M3 hP4
  have hS3 := hP4
  exact n_rV c_68_11 rfl hS3

set_option maxHeartbeats 4000000 in
theorem seek9_2 {xs : List Int32} {e : Nat} {ac : Int} {M0 M : nM} (hS : Sf 2 ac M0 M)  : nW xs (e + 3) 71 0 [some (2, 38), some (0, 9), some (2, 44), none] [] M (nPI fun z M1 => Sf 2 ac M0 M1 ∧ (0 ≤ z ∧ z ≤ 1)) := by
  have hd : (2 : Int) = 2 ∨ (2 : Int) = 3 := by decide
  have hac := hS.2.2.2.2
  refine n_iload_n c_71_0 rfl ?_
  refine n_aload_n c_71_1 rfl ?_
  refine n_getV (bi := 6) c_71_2 sc_38.n rfl rfl rfl (t_38_6 hS) ?_
  intro z1 ez1 f2
  refine n_if2_lt c_71_5 (by omega) (by omega) ?_ ?_
  · intro h3
    exfalso; omega
  · intro h4
    refine n_aload_n c_71_8 rfl ?_
    refine n_aload_n c_71_9 rfl ?_
    refine n_getR c_71_10 sc_38.n rfl rfl rfl r_38_0 ?_
    refine n_aload_n c_71_13 rfl ?_
    refine n_getV (bi := 5) c_71_14 sc_38.n rfl rfl rfl (t_38_5 hS) ?_
    intro z5 ez5 f6
    refine n_v2I c_71_17 rfl sc_44.n rfl rfl rfl rfl (suits_2 (t := z5) hS (by omega)) ?_
    intro z7 M8 hP9
    obtain ⟨eM, f9⟩ := hP9
    subst eM
    exact n_rZ c_71_20 rfl (by omega) ⟨hS, by omega⟩

set_option maxHeartbeats 4000000 in
theorem seek8_2_c {xs : List Int32} {e : Nat} {ac : Int} {M0 M : nM} (hS : Sf 2 ac M0 M)  : ∀ nn : Nat, (∀ (x3 : Int) (M : nM), Sf 2 ac M0 M → (0 ≤ x3 ∧ x3 ≤ 3) → (3 - x3) * 2 + 2 < (nn : Int) → nW xs (e + 4) 71 23 [some (2, 38), some (0, 8), some (2, 44), some (0, x3)] [] M (nPI fun z M1 => Sf 2 ac M0 M1 ∧ (0 ≤ z ∧ z ≤ 1))) ∧ (∀ (x3 : Int) (M : nM), Sf 2 ac M0 M → (0 ≤ x3 ∧ x3 ≤ 2) → (3 - x3) * 2 + 1 < (nn : Int) → nW xs (e + 4) 71 59 [some (2, 38), some (0, 8), some (2, 44), some (0, x3)] [] M (nPI fun z M1 => Sf 2 ac M0 M1 ∧ (0 ≤ z ∧ z ≤ 1))) := by
  have hd : (2 : Int) = 2 ∨ (2 : Int) = 3 := by decide
  have hac := hS.2.2.2.2
  intro nn
  induction nn with
  | zero => refine ⟨?_, ?_⟩ <;> (intros; omega)
  | succ nn ih =>
    refine ⟨?_, ?_⟩
    · intro x3 M hS k3 hnn
      refine n_iload_n c_71_23 rfl ?_
      refine n_aload_n c_71_24 rfl ?_
      refine n_getV (bi := 5) c_71_25 sc_38.n rfl rfl rfl (t_38_5 hS) ?_
      intro z1 ez1 f2
      refine n_if2_ge c_71_28 (by omega) (by omega) ?_ ?_
      · intro h3
        refine n_iconst c_71_65 ?_
        exact n_rZ c_71_66 rfl (by omega) ⟨hS, by omega⟩
      · intro h4
        refine n_aload_n c_71_31 rfl ?_
        refine n_getR c_71_32 sc_38.n rfl rfl rfl r_38_0 ?_
        refine n_iload_n c_71_35 rfl ?_
        refine n_iload_n c_71_36 rfl ?_
        refine n_iastoreV hS c_71_37 sc_39.n rfl (by omega) (w_39 (by omega) (by omega)) ?_
        intro M5 eM5 hS5
        have g5_0 : M5 38 5 = M 38 5 := by rw [eM5]; exact nu_a (by omega)
        have g5_1 : M5 39 8 = x3 := by rw [eM5]; exact nu_s _ _ _ _
        refine n_aload_n c_71_38 rfl ?_
        refine n_iload_n c_71_39 rfl ?_
        refine n_v1I c_71_40 rfl sc_38.n rfl rfl rfl rfl (fits_2 (l := 8) hS5 (by omega)) ?_
        intro z6 M7 hP8
        obtain ⟨eM, f8⟩ := hP8
        subst eM
        refine n_if0_eq c_71_43 (by omega) ?_ ?_
        · intro h9
          refine n_fg (le_s (le_s (le_s (le_s le_0)))) ?_
          exact ih.2 _ M5 hS5 (by omega) (by omega)
        · intro h10
          refine n_aload_n c_71_46 rfl ?_
          refine n_iload_n c_71_47 rfl ?_
          refine n_iconst c_71_48 ?_
          refine n_iadd c_71_49 rfl ?_
          refine n_aload_n c_71_50 rfl ?_
          have hcst : ((8 + 1) : Int) = 9 := by omega
          rw [hcst]
          refine n_s3I c_71_51 rfl rfl rfl rfl (seek9_2  hS5 ) ?_
          intro z11 M12 hP13
          obtain ⟨hS12, f13⟩ := hP13
          refine n_if0_eq c_71_54 (by omega) ?_ ?_
          · intro h14
            refine n_fg (le_s (le_s (le_s (le_s le_0)))) ?_
            exact ih.2 _ M12 hS12 (by omega) (by omega)
          · intro h15
            refine n_iconst c_71_57 ?_
            exact n_rZ c_71_58 rfl (by omega) ⟨hS12, by omega⟩
    · intro x3 M hS k3 hnn
      refine n_iinc (L2 := [some (2, 38), some (0, 8), some (2, 44), some (0, (x3 + 1))]) c_71_59 rfl rfl rfl ?_
      refine n_goto c_71_62 ?_
      refine n_fg (le_s (le_s (le_s (le_s le_0)))) ?_
      exact ih.1 _ M hS (by omega) (by omega)
set_option maxHeartbeats 4000000 in
theorem seek8_2 {xs : List Int32} {e : Nat} {ac : Int} {M0 M : nM} (hS : Sf 2 ac M0 M)  : nW xs (e + 4) 71 0 [some (2, 38), some (0, 8), some (2, 44), none] [] M (nPI fun z M1 => Sf 2 ac M0 M1 ∧ (0 ≤ z ∧ z ≤ 1)) := by
  have hd : (2 : Int) = 2 ∨ (2 : Int) = 3 := by decide
  have hac := hS.2.2.2.2
  refine n_iload_n c_71_0 rfl ?_
  refine n_aload_n c_71_1 rfl ?_
  refine n_getV (bi := 6) c_71_2 sc_38.n rfl rfl rfl (t_38_6 hS) ?_
  intro z1 ez1 f2
  refine n_if2_lt c_71_5 (by omega) (by omega) ?_ ?_
  · intro h3
    refine n_iconst c_71_21 ?_
    refine n_istore_n (L2 := [some (2, 38), some (0, 8), some (2, 44), some (0, 0)]) c_71_22 rfl rfl ?_
    refine n_fg (le_s (le_s (le_s (le_s le_0)))) ?_
    exact (seek8_2_c hS  30).1 _ M hS (by omega) (by omega)
  · intro h4
    refine n_aload_n c_71_8 rfl ?_
    refine n_aload_n c_71_9 rfl ?_
    refine n_getR c_71_10 sc_38.n rfl rfl rfl r_38_0 ?_
    refine n_aload_n c_71_13 rfl ?_
    refine n_getV (bi := 5) c_71_14 sc_38.n rfl rfl rfl (t_38_5 hS) ?_
    intro z5 ez5 f6
    refine n_v2I c_71_17 rfl sc_44.n rfl rfl rfl rfl (suits_2 (t := z5) hS (by omega)) ?_
    intro z7 M8 hP9
    obtain ⟨eM, f9⟩ := hP9
    subst eM
    exact n_rZ c_71_20 rfl (by omega) ⟨hS, by omega⟩

set_option maxHeartbeats 4000000 in
theorem seek7_2_c {xs : List Int32} {e : Nat} {ac : Int} {M0 M : nM} (hS : Sf 2 ac M0 M)  : ∀ nn : Nat, (∀ (x3 : Int) (M : nM), Sf 2 ac M0 M → (0 ≤ x3 ∧ x3 ≤ 3) → (3 - x3) * 2 + 2 < (nn : Int) → nW xs (e + 5) 71 23 [some (2, 38), some (0, 7), some (2, 44), some (0, x3)] [] M (nPI fun z M1 => Sf 2 ac M0 M1 ∧ (0 ≤ z ∧ z ≤ 1))) ∧ (∀ (x3 : Int) (M : nM), Sf 2 ac M0 M → (0 ≤ x3 ∧ x3 ≤ 2) → (3 - x3) * 2 + 1 < (nn : Int) → nW xs (e + 5) 71 59 [some (2, 38), some (0, 7), some (2, 44), some (0, x3)] [] M (nPI fun z M1 => Sf 2 ac M0 M1 ∧ (0 ≤ z ∧ z ≤ 1))) := by
  have hd : (2 : Int) = 2 ∨ (2 : Int) = 3 := by decide
  have hac := hS.2.2.2.2
  intro nn
  induction nn with
  | zero => refine ⟨?_, ?_⟩ <;> (intros; omega)
  | succ nn ih =>
    refine ⟨?_, ?_⟩
    · intro x3 M hS k3 hnn
      refine n_iload_n c_71_23 rfl ?_
      refine n_aload_n c_71_24 rfl ?_
      refine n_getV (bi := 5) c_71_25 sc_38.n rfl rfl rfl (t_38_5 hS) ?_
      intro z1 ez1 f2
      refine n_if2_ge c_71_28 (by omega) (by omega) ?_ ?_
      · intro h3
        refine n_iconst c_71_65 ?_
        exact n_rZ c_71_66 rfl (by omega) ⟨hS, by omega⟩
      · intro h4
        refine n_aload_n c_71_31 rfl ?_
        refine n_getR c_71_32 sc_38.n rfl rfl rfl r_38_0 ?_
        refine n_iload_n c_71_35 rfl ?_
        refine n_iload_n c_71_36 rfl ?_
        refine n_iastoreV hS c_71_37 sc_39.n rfl (by omega) (w_39 (by omega) (by omega)) ?_
        intro M5 eM5 hS5
        have g5_0 : M5 38 5 = M 38 5 := by rw [eM5]; exact nu_a (by omega)
        have g5_1 : M5 39 7 = x3 := by rw [eM5]; exact nu_s _ _ _ _
        refine n_aload_n c_71_38 rfl ?_
        refine n_iload_n c_71_39 rfl ?_
        refine n_v1I c_71_40 rfl sc_38.n rfl rfl rfl rfl (fits_2 (l := 7) hS5 (by omega)) ?_
        intro z6 M7 hP8
        obtain ⟨eM, f8⟩ := hP8
        subst eM
        refine n_if0_eq c_71_43 (by omega) ?_ ?_
        · intro h9
          refine n_fg (le_s (le_s (le_s (le_s le_0)))) ?_
          exact ih.2 _ M5 hS5 (by omega) (by omega)
        · intro h10
          refine n_aload_n c_71_46 rfl ?_
          refine n_iload_n c_71_47 rfl ?_
          refine n_iconst c_71_48 ?_
          refine n_iadd c_71_49 rfl ?_
          refine n_aload_n c_71_50 rfl ?_
          have hcst : ((7 + 1) : Int) = 8 := by omega
          rw [hcst]
          refine n_s3I c_71_51 rfl rfl rfl rfl (seek8_2  hS5 ) ?_
          intro z11 M12 hP13
          obtain ⟨hS12, f13⟩ := hP13
          refine n_if0_eq c_71_54 (by omega) ?_ ?_
          · intro h14
            refine n_fg (le_s (le_s (le_s (le_s le_0)))) ?_
            exact ih.2 _ M12 hS12 (by omega) (by omega)
          · intro h15
            refine n_iconst c_71_57 ?_
            exact n_rZ c_71_58 rfl (by omega) ⟨hS12, by omega⟩
    · intro x3 M hS k3 hnn
      refine n_iinc (L2 := [some (2, 38), some (0, 7), some (2, 44), some (0, (x3 + 1))]) c_71_59 rfl rfl rfl ?_
      refine n_goto c_71_62 ?_
      refine n_fg (le_s (le_s (le_s (le_s le_0)))) ?_
      exact ih.1 _ M hS (by omega) (by omega)
set_option maxHeartbeats 4000000 in
theorem seek7_2 {xs : List Int32} {e : Nat} {ac : Int} {M0 M : nM} (hS : Sf 2 ac M0 M)  : nW xs (e + 5) 71 0 [some (2, 38), some (0, 7), some (2, 44), none] [] M (nPI fun z M1 => Sf 2 ac M0 M1 ∧ (0 ≤ z ∧ z ≤ 1)) := by
  have hd : (2 : Int) = 2 ∨ (2 : Int) = 3 := by decide
  have hac := hS.2.2.2.2
  refine n_iload_n c_71_0 rfl ?_
  refine n_aload_n c_71_1 rfl ?_
  refine n_getV (bi := 6) c_71_2 sc_38.n rfl rfl rfl (t_38_6 hS) ?_
  intro z1 ez1 f2
  refine n_if2_lt c_71_5 (by omega) (by omega) ?_ ?_
  · intro h3
    refine n_iconst c_71_21 ?_
    refine n_istore_n (L2 := [some (2, 38), some (0, 7), some (2, 44), some (0, 0)]) c_71_22 rfl rfl ?_
    refine n_fg (le_s (le_s (le_s (le_s le_0)))) ?_
    exact (seek7_2_c hS  30).1 _ M hS (by omega) (by omega)
  · intro h4
    refine n_aload_n c_71_8 rfl ?_
    refine n_aload_n c_71_9 rfl ?_
    refine n_getR c_71_10 sc_38.n rfl rfl rfl r_38_0 ?_
    refine n_aload_n c_71_13 rfl ?_
    refine n_getV (bi := 5) c_71_14 sc_38.n rfl rfl rfl (t_38_5 hS) ?_
    intro z5 ez5 f6
    refine n_v2I c_71_17 rfl sc_44.n rfl rfl rfl rfl (suits_2 (t := z5) hS (by omega)) ?_
    intro z7 M8 hP9
    obtain ⟨eM, f9⟩ := hP9
    subst eM
    exact n_rZ c_71_20 rfl (by omega) ⟨hS, by omega⟩

set_option maxHeartbeats 4000000 in
theorem seek6_2_c {xs : List Int32} {e : Nat} {ac : Int} {M0 M : nM} (hS : Sf 2 ac M0 M)  : ∀ nn : Nat, (∀ (x3 : Int) (M : nM), Sf 2 ac M0 M → (0 ≤ x3 ∧ x3 ≤ 3) → (3 - x3) * 2 + 2 < (nn : Int) → nW xs (e + 6) 71 23 [some (2, 38), some (0, 6), some (2, 44), some (0, x3)] [] M (nPI fun z M1 => Sf 2 ac M0 M1 ∧ (0 ≤ z ∧ z ≤ 1))) ∧ (∀ (x3 : Int) (M : nM), Sf 2 ac M0 M → (0 ≤ x3 ∧ x3 ≤ 2) → (3 - x3) * 2 + 1 < (nn : Int) → nW xs (e + 6) 71 59 [some (2, 38), some (0, 6), some (2, 44), some (0, x3)] [] M (nPI fun z M1 => Sf 2 ac M0 M1 ∧ (0 ≤ z ∧ z ≤ 1))) := by
  have hd : (2 : Int) = 2 ∨ (2 : Int) = 3 := by decide
  have hac := hS.2.2.2.2
  intro nn
  induction nn with
  | zero => refine ⟨?_, ?_⟩ <;> (intros; omega)
  | succ nn ih =>
    refine ⟨?_, ?_⟩
    · intro x3 M hS k3 hnn
      refine n_iload_n c_71_23 rfl ?_
      refine n_aload_n c_71_24 rfl ?_
      refine n_getV (bi := 5) c_71_25 sc_38.n rfl rfl rfl (t_38_5 hS) ?_
      intro z1 ez1 f2
      refine n_if2_ge c_71_28 (by omega) (by omega) ?_ ?_
      · intro h3
        refine n_iconst c_71_65 ?_
        exact n_rZ c_71_66 rfl (by omega) ⟨hS, by omega⟩
      · intro h4
        refine n_aload_n c_71_31 rfl ?_
        refine n_getR c_71_32 sc_38.n rfl rfl rfl r_38_0 ?_
        refine n_iload_n c_71_35 rfl ?_
        refine n_iload_n c_71_36 rfl ?_
        refine n_iastoreV hS c_71_37 sc_39.n rfl (by omega) (w_39 (by omega) (by omega)) ?_
        intro M5 eM5 hS5
        have g5_0 : M5 38 5 = M 38 5 := by rw [eM5]; exact nu_a (by omega)
        have g5_1 : M5 39 6 = x3 := by rw [eM5]; exact nu_s _ _ _ _
        refine n_aload_n c_71_38 rfl ?_
        refine n_iload_n c_71_39 rfl ?_
        refine n_v1I c_71_40 rfl sc_38.n rfl rfl rfl rfl (fits_2 (l := 6) hS5 (by omega)) ?_
        intro z6 M7 hP8
        obtain ⟨eM, f8⟩ := hP8
        subst eM
        refine n_if0_eq c_71_43 (by omega) ?_ ?_
        · intro h9
          refine n_fg (le_s (le_s (le_s (le_s le_0)))) ?_
          exact ih.2 _ M5 hS5 (by omega) (by omega)
        · intro h10
          refine n_aload_n c_71_46 rfl ?_
          refine n_iload_n c_71_47 rfl ?_
          refine n_iconst c_71_48 ?_
          refine n_iadd c_71_49 rfl ?_
          refine n_aload_n c_71_50 rfl ?_
          have hcst : ((6 + 1) : Int) = 7 := by omega
          rw [hcst]
          refine n_s3I c_71_51 rfl rfl rfl rfl (seek7_2  hS5 ) ?_
          intro z11 M12 hP13
          obtain ⟨hS12, f13⟩ := hP13
          refine n_if0_eq c_71_54 (by omega) ?_ ?_
          · intro h14
            refine n_fg (le_s (le_s (le_s (le_s le_0)))) ?_
            exact ih.2 _ M12 hS12 (by omega) (by omega)
          · intro h15
            refine n_iconst c_71_57 ?_
            exact n_rZ c_71_58 rfl (by omega) ⟨hS12, by omega⟩
    · intro x3 M hS k3 hnn
      refine n_iinc (L2 := [some (2, 38), some (0, 6), some (2, 44), some (0, (x3 + 1))]) c_71_59 rfl rfl rfl ?_
      refine n_goto c_71_62 ?_
      refine n_fg (le_s (le_s (le_s (le_s le_0)))) ?_
      exact ih.1 _ M hS (by omega) (by omega)
set_option maxHeartbeats 4000000 in
theorem seek6_2 {xs : List Int32} {e : Nat} {ac : Int} {M0 M : nM} (hS : Sf 2 ac M0 M)  : nW xs (e + 6) 71 0 [some (2, 38), some (0, 6), some (2, 44), none] [] M (nPI fun z M1 => Sf 2 ac M0 M1 ∧ (0 ≤ z ∧ z ≤ 1)) := by
  have hd : (2 : Int) = 2 ∨ (2 : Int) = 3 := by decide
  have hac := hS.2.2.2.2
  refine n_iload_n c_71_0 rfl ?_
  refine n_aload_n c_71_1 rfl ?_
  refine n_getV (bi := 6) c_71_2 sc_38.n rfl rfl rfl (t_38_6 hS) ?_
  intro z1 ez1 f2
  refine n_if2_lt c_71_5 (by omega) (by omega) ?_ ?_
  · intro h3
    refine n_iconst c_71_21 ?_
    refine n_istore_n (L2 := [some (2, 38), some (0, 6), some (2, 44), some (0, 0)]) c_71_22 rfl rfl ?_
    refine n_fg (le_s (le_s (le_s (le_s le_0)))) ?_
    exact (seek6_2_c hS  30).1 _ M hS (by omega) (by omega)
  · intro h4
    refine n_aload_n c_71_8 rfl ?_
    refine n_aload_n c_71_9 rfl ?_
    refine n_getR c_71_10 sc_38.n rfl rfl rfl r_38_0 ?_
    refine n_aload_n c_71_13 rfl ?_
    refine n_getV (bi := 5) c_71_14 sc_38.n rfl rfl rfl (t_38_5 hS) ?_
    intro z5 ez5 f6
    refine n_v2I c_71_17 rfl sc_44.n rfl rfl rfl rfl (suits_2 (t := z5) hS (by omega)) ?_
    intro z7 M8 hP9
    obtain ⟨eM, f9⟩ := hP9
    subst eM
    exact n_rZ c_71_20 rfl (by omega) ⟨hS, by omega⟩
