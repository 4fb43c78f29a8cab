/-! The methods, by program. -/
set_option maxHeartbeats 4000000 in
theorem fits_2_c {xs : List Int32} {e : Nat} {ac : Int} {M0 M : nM} {l : Int} (hS : Sf 2 ac M0 M) (hl : 0 ≤ l ∧ l ≤ 8) : ∀ nn : Nat, (∀ (x2 : Int), (0 ≤ x2 ∧ x2 ≤ 729) → (729 - x2) * 1 + 1 < (nn : Int) → nW xs e 72 7 [some (2, 38), some (0, l), some (0, x2), none, none] [] M (nPI fun z M1 => M = M1 ∧ (0 ≤ z ∧ z ≤ 1))) := by
  have hd : (2 : Int) = 2 ∨ (2 : Int) = 3 := by decide
  have hac := hS.2.2.2.2
  intro nn
  induction nn with
  | zero => intros; omega
  | succ nn ih =>
    intro x2 k2 hnn
    refine n_iload_n c_72_7 rfl (n_aload_n c_72_8 rfl (n_getR c_72_9 sc_38.n rfl rfl rfl r_38_4 (n_iload_n c_72_12 rfl (n_iconst c_72_13 (n_iadd c_72_14 rfl (n_ialoadV c_72_15 sc_43.n rfl rfl rfl (by omega) (t_43 hS (by omega)) ?_))))))
    intro z1 ez1 f2
    refine n_if2_ge c_72_16 (by omega) (by omega) ?_ ?_
    · intro h3
      refine n_iconst c_72_95 ?_
      exact n_rZ c_72_96 rfl (by omega) ⟨rfl, by omega⟩
    · intro h4
      refine n_aload_n c_72_19 rfl (n_getR c_72_20 sc_38.n rfl rfl rfl r_38_2 (n_iload_n c_72_23 rfl (n_ialoadV c_72_24 sc_41.n rfl rfl rfl (by omega) (t_41 hS (by omega)) ?_)))
      intro z5 ez5 f6
      have f6k : ckey z5 := by rw [ez5]; exact hS.2.1 _ (by omega)
      refine n_istore_n (L2 := [some (2, 38), some (0, l), some (0, x2), some (0, z5), none]) c_72_25 rfl rfl (n_aload_n c_72_26 rfl (n_getR c_72_27 sc_38.n rfl rfl rfl r_38_0 (n_iload_n c_72_30 rfl (n_bipush c_72_31 rfl (n_i_iand c_72_33 rfl ?_)))))
      have f7 := ckey_0 f6k
      generalize (n_and z5 15) = z8 at f7 ⊢
      refine n_ialoadV c_72_34 sc_39.n rfl rfl rfl (by omega) (t_39 hS (by omega)) ?_
      intro z9 ez9 f10
      refine n_aload_n c_72_35 rfl (n_getV (bi := 5) c_72_36 sc_38.n rfl rfl rfl (t_38_5 hS) ?_)
      intro z11 ez11 f12
      refine n_imul c_72_39 rfl (n_wrap ?_)
      have f13 := n_wr_r (z9 * z11)
      generalize n_wr (z9 * z11) = z14 at f13 ⊢
      refine n_aload_n c_72_40 rfl (n_getR c_72_41 sc_38.n rfl rfl rfl r_38_0 (n_iload_n c_72_44 rfl (n_iconst c_72_45 (n_i_ishr c_72_46 rfl (n_bipush c_72_47 rfl (n_i_iand c_72_49 rfl ?_))))))
      have f15 := ckey_4 f6k
      generalize (n_and (n_shr z5 4) 15) = z16 at f15 ⊢
      refine n_ialoadV c_72_50 sc_39.n rfl rfl rfl (by omega) (t_39 hS (by omega)) ?_
      intro z17 ez17 f18
      refine n_iadd c_72_51 rfl (n_wrap ?_)
      have f19 := n_wr_r (z14 + z17)
      generalize n_wr (z14 + z17) = z20 at f19 ⊢
      refine n_istore (L2 := [some (2, 38), some (0, l), some (0, x2), some (0, z5), some (0, z20)]) c_72_52 rfl rfl (n_iload c_72_54 rfl (n_aload_n c_72_56 rfl (n_getV (bi := 5) c_72_57 sc_38.n rfl rfl rfl (t_38_5 hS) ?_)))
      intro z21 ez21 f22
      refine n_imul c_72_60 rfl (n_wrap ?_)
      have f23 := n_wr_r (z20 * z21)
      generalize n_wr (z20 * z21) = z24 at f23 ⊢
      refine n_aload_n c_72_61 rfl (n_getR c_72_62 sc_38.n rfl rfl rfl r_38_0 (n_iload_n c_72_65 rfl (n_bipush c_72_66 rfl (n_i_ishr c_72_68 rfl ?_))))
      have f25 := ckey_8 f6k
      generalize (n_shr z5 8) = z26 at f25 ⊢
      refine n_ialoadV c_72_69 sc_39.n rfl rfl rfl (by omega) (t_39 hS (by omega)) ?_
      intro z27 ez27 f28
      refine n_iadd c_72_70 rfl (n_wrap ?_)
      have f29 := n_wr_r (z24 + z27)
      generalize n_wr (z24 + z27) = z30 at f29 ⊢
      refine n_istore (L2 := [some (2, 38), some (0, l), some (0, x2), some (0, z5), some (0, z30)]) c_72_71 rfl rfl (n_aload_n c_72_73 rfl (n_getR c_72_74 sc_38.n rfl rfl rfl r_38_3 (n_iload_n c_72_77 rfl (n_ialoadV c_72_78 sc_42.n rfl rfl rfl (by omega) (t_42 hS (by omega)) ?_))))
      intro z31 ez31 f32
      refine n_iload c_72_79 rfl (n_i_ishr c_72_81 rfl ?_)
      have f33 := n_shr_r z31 z30
      generalize (n_shr z31 z30) = z34 at f33 ⊢
      refine n_iconst c_72_82 (n_i_iand c_72_83 rfl ?_)
      have f35 := n_and_y (x := z34) (y := 1) (by omega)
      generalize (n_and z34 1) = z36 at f35 ⊢
      refine n_if0_ne c_72_84 (by omega) ?_ ?_
      · intro h37
        refine n_iinc (L2 := [some (2, 38), some (0, l), some (0, (x2 + 1)), some (0, z5), some (0, z30)]) c_72_89 rfl rfl rfl (n_goto c_72_92 (n_fg (le_s (le_s (le_s (le_n (le_n le_0))))) ?_))
        exact ih _ (by omega) (by omega)
      · intro h38
        refine n_iconst c_72_87 ?_
        exact n_rZ c_72_88 rfl (by omega) ⟨rfl, by omega⟩
set_option maxHeartbeats 4000000 in
theorem fits_2 {xs : List Int32} {e : Nat} {ac : Int} {M0 M : nM} {l : Int} (hS : Sf 2 ac M0 M) (hl : 0 ≤ l ∧ l ≤ 8) : nW xs e 72 0 [some (2, 38), some (0, l), none, none, none] [] M (nPI fun z M1 => M = M1 ∧ (0 ≤ z ∧ z ≤ 1)) := by
  have hd : (2 : Int) = 2 ∨ (2 : Int) = 3 := by decide
  have hac := hS.2.2.2.2
  refine n_aload_n c_72_0 rfl (n_getR c_72_1 sc_38.n rfl rfl rfl r_38_4 (n_iload_n c_72_4 rfl (n_ialoadV c_72_5 sc_43.n rfl rfl rfl (by omega) (t_43 hS (by omega)) ?_)))
  intro z1 ez1 f2
  refine n_istore_n (L2 := [some (2, 38), some (0, l), some (0, z1), none, none]) c_72_6 rfl rfl (n_fg (le_s (le_s (le_s (le_n (le_n le_0))))) ?_)
  exact (fits_2_c hS hl 1472) _ (by omega) (by omega)

set_option maxHeartbeats 4000000 in
theorem gather48_9_2 {xs : List Int32} {e : Nat} {ac : Int} {M0 M : nM} {n : Int} (hS : Sf 2 ac M0 M) (hn : -2147483648 ≤ n ∧ n ≤ 2147483647) : nW xs (e + 2) 70 0 [some (2, 38), some (0, 9), some (0, n), some (2, 48), none] [] M (nPV fun M1 => Sf 2 ac M0 M1) := by
  have hd : (2 : Int) = 2 ∨ (2 : Int) = 3 := by decide
  have hac := hS.2.2.2.2
  refine n_iload_n c_70_0 rfl (n_aload_n c_70_1 rfl (n_getV (bi := 6) c_70_2 sc_38.n rfl rfl rfl (t_38_6 hS) ?_))
  intro z1 ez1 f2
  refine n_if2_lt c_70_5 (by omega) (by omega) ?_ ?_
  · intro h3
    exfalso; omega
  · intro h4
    refine n_aload_n c_70_8 rfl (n_iload_n c_70_9 rfl (n_v1V c_70_10 rfl sc_48.n rfl rfl rfl rfl (add48_2 (n := n) hS (by omega)) ?_))
    intro  M5 hP6
    have hS5 := hP6
    exact n_rV c_70_13 rfl hS5

set_option maxHeartbeats 4000000 in
theorem gather48_8_2_c {xs : List Int32} {e : Nat} {ac : Int} {M0 M : nM} {n : Int} (hS : Sf 2 ac M0 M) (hn : -2147483648 ≤ n ∧ n ≤ 2147483647) : ∀ nn : Nat, (∀ (x4 : Int) (M : nM), Sf 2 ac M0 M → (0 ≤ x4 ∧ x4 ≤ 3) → (3 - x4) * 2 + 2 < (nn : Int) → nW xs (e + 3) 70 17 [some (2, 38), some (0, 8), some (0, n), some (2, 48), some (0, x4)] [] M (nPV fun M1 => Sf 2 ac M0 M1)) ∧ (∀ (x4 : Int) (M : nM), Sf 2 ac M0 M → (0 ≤ x4 ∧ x4 ≤ 2) → (3 - x4) * 2 + 1 < (nn : Int) → nW xs (e + 3) 70 59 [some (2, 38), some (0, 8), some (0, n), some (2, 48), some (0, x4)] [] M (nPV fun M1 => Sf 2 ac M0 M1)) := by
  have hd : (2 : Int) = 2 ∨ (2 : Int) = 3 := by decide
  have hac := hS.2.2.2.2
  intro nn
  induction nn with
  | zero => refine ⟨?_, ?_⟩ <;> (intros; omega)
  | succ nn ih =>
    refine ⟨?_, ?_⟩
    · intro x4 M hS k4 hnn
      refine n_iload c_70_17 rfl (n_aload_n c_70_19 rfl (n_getV (bi := 5) c_70_20 sc_38.n rfl rfl rfl (t_38_5 hS) ?_))
      intro z1 ez1 f2
      refine n_if2_ge c_70_23 (by omega) (by omega) ?_ ?_
      · intro h3
        exact n_rV c_70_65 rfl hS
      · intro h4
        refine n_aload_n c_70_26 rfl (n_getR c_70_27 sc_38.n rfl rfl rfl r_38_0 (n_iload_n c_70_30 rfl (n_iload c_70_31 rfl (n_iastoreV hS c_70_33 sc_39.n rfl (by omega) (w_39 (by omega) (by omega)) ?_))))
        intro M5 eM5 hS5
        have g5_0 : M5 38 5 = M 38 5 := by rw [eM5]; exact nu_a (by omega)
        refine n_aload_n c_70_34 rfl (n_iload_n c_70_35 rfl (n_v1I c_70_36 rfl sc_38.n rfl rfl rfl rfl (fits_2 (l := 8) hS5 (by omega)) ?_))
        intro z6 M7 hP8
        obtain ⟨eM, f8⟩ := hP8
        subst eM
        refine n_if0_eq c_70_39 (by omega) ?_ ?_
        · intro h9
          refine n_fg (le_s (le_s (le_s (le_s (le_s le_0))))) ?_
          exact ih.2 _ M5 hS5 (by omega) (by omega)
        · intro h10
          refine n_aload_n c_70_42 rfl (n_iload_n c_70_43 rfl (n_iconst c_70_44 (n_iadd c_70_45 rfl (n_iload_n c_70_46 rfl (n_aload_n c_70_47 rfl (n_getV (bi := 5) c_70_48 sc_38.n rfl rfl rfl (t_38_5 hS5) ?_))))))
          intro z11 ez11 f12
          refine n_imul c_70_51 rfl (n_wrap ?_)
          have f13 := n_wr_r (n * z11)
          generalize n_wr (n * z11) = z14 at f13 ⊢
          refine n_iload c_70_52 rfl (n_iadd c_70_54 rfl (n_wrap ?_))
          have f15 := n_wr_r (z14 + x4)
          generalize n_wr (z14 + x4) = z16 at f15 ⊢
          refine n_aload_n c_70_55 rfl ?_
          have hcst : ((8 + 1) : Int) = 9 := by omega
          rw [hcst]
          refine n_s4V c_70_56 rfl rfl rfl rfl (gather48_9_2 (n := z16) hS5 (by omega)) ?_
          intro  M17 hP18
          have hS17 := hP18
          refine n_fg (le_s (le_s (le_s (le_s (le_s le_0))))) ?_
          exact ih.2 _ M17 hS17 (by omega) (by omega)
    · intro x4 M hS k4 hnn
      refine n_iinc (L2 := [some (2, 38), some (0, 8), some (0, n), some (2, 48), some (0, (x4 + 1))]) c_70_59 rfl rfl rfl (n_goto c_70_62 (n_fg (le_s (le_s (le_s (le_s (le_s le_0))))) ?_))
      exact ih.1 _ M hS (by omega) (by omega)
set_option maxHeartbeats 4000000 in
theorem gather48_8_2 {xs : List Int32} {e : Nat} {ac : Int} {M0 M : nM} {n : Int} (hS : Sf 2 ac M0 M) (hn : -2147483648 ≤ n ∧ n ≤ 2147483647) : nW xs (e + 3) 70 0 [some (2, 38), some (0, 8), some (0, n), some (2, 48), none] [] M (nPV fun M1 => Sf 2 ac M0 M1) := by
  have hd : (2 : Int) = 2 ∨ (2 : Int) = 3 := by decide
  have hac := hS.2.2.2.2
  refine n_iload_n c_70_0 rfl (n_aload_n c_70_1 rfl (n_getV (bi := 6) c_70_2 sc_38.n rfl rfl rfl (t_38_6 hS) ?_))
  intro z1 ez1 f2
  refine n_if2_lt c_70_5 (by omega) (by omega) ?_ ?_
  · intro h3
    refine n_iconst c_70_14 (n_istore (L2 := [some (2, 38), some (0, 8), some (0, n), some (2, 48), some (0, 0)]) c_70_15 rfl rfl (n_fg (le_s (le_s (le_s (le_s (le_s le_0))))) ?_))
    exact (gather48_8_2_c hS hn 30).1 _ M hS (by omega) (by omega)
  · intro h4
    refine n_aload_n c_70_8 rfl (n_iload_n c_70_9 rfl (n_v1V c_70_10 rfl sc_48.n rfl rfl rfl rfl (add48_2 (n := n) hS (by omega)) ?_))
    intro  M5 hP6
    have hS5 := hP6
    exact n_rV c_70_13 rfl hS5

set_option maxHeartbeats 4000000 in
theorem gather48_7_2_c {xs : List Int32} {e : Nat} {ac : Int} {M0 M : nM} {n : Int} (hS : Sf 2 ac M0 M) (hn : -2147483648 ≤ n ∧ n ≤ 2147483647) : ∀ nn : Nat, (∀ (x4 : Int) (M : nM), Sf 2 ac M0 M → (0 ≤ x4 ∧ x4 ≤ 3) → (3 - x4) * 2 + 2 < (nn : Int) → nW xs (e + 4) 70 17 [some (2, 38), some (0, 7), some (0, n), some (2, 48), some (0, x4)] [] M (nPV fun M1 => Sf 2 ac M0 M1)) ∧ (∀ (x4 : Int) (M : nM), Sf 2 ac M0 M → (0 ≤ x4 ∧ x4 ≤ 2) → (3 - x4) * 2 + 1 < (nn : Int) → nW xs (e + 4) 70 59 [some (2, 38), some (0, 7), some (0, n), some (2, 48), some (0, x4)] [] M (nPV fun M1 => Sf 2 ac M0 M1)) := by
  have hd : (2 : Int) = 2 ∨ (2 : Int) = 3 := by decide
  have hac := hS.2.2.2.2
  intro nn
  induction nn with
  | zero => refine ⟨?_, ?_⟩ <;> (intros; omega)
  | succ nn ih =>
    refine ⟨?_, ?_⟩
    · intro x4 M hS k4 hnn
      refine n_iload c_70_17 rfl (n_aload_n c_70_19 rfl (n_getV (bi := 5) c_70_20 sc_38.n rfl rfl rfl (t_38_5 hS) ?_))
      intro z1 ez1 f2
      refine n_if2_ge c_70_23 (by omega) (by omega) ?_ ?_
      · intro h3
        exact n_rV c_70_65 rfl hS
      · intro h4
        refine n_aload_n c_70_26 rfl (n_getR c_70_27 sc_38.n rfl rfl rfl r_38_0 (n_iload_n c_70_30 rfl (n_iload c_70_31 rfl (n_iastoreV hS c_70_33 sc_39.n rfl (by omega) (w_39 (by omega) (by omega)) ?_))))
        intro M5 eM5 hS5
        have g5_0 : M5 38 5 = M 38 5 := by rw [eM5]; exact nu_a (by omega)
        refine n_aload_n c_70_34 rfl (n_iload_n c_70_35 rfl (n_v1I c_70_36 rfl sc_38.n rfl rfl rfl rfl (fits_2 (l := 7) hS5 (by omega)) ?_))
        intro z6 M7 hP8
        obtain ⟨eM, f8⟩ := hP8
        subst eM
        refine n_if0_eq c_70_39 (by omega) ?_ ?_
        · intro h9
          refine n_fg (le_s (le_s (le_s (le_s (le_s le_0))))) ?_
          exact ih.2 _ M5 hS5 (by omega) (by omega)
        · intro h10
          refine n_aload_n c_70_42 rfl (n_iload_n c_70_43 rfl (n_iconst c_70_44 (n_iadd c_70_45 rfl (n_iload_n c_70_46 rfl (n_aload_n c_70_47 rfl (n_getV (bi := 5) c_70_48 sc_38.n rfl rfl rfl (t_38_5 hS5) ?_))))))
          intro z11 ez11 f12
          refine n_imul c_70_51 rfl (n_wrap ?_)
          have f13 := n_wr_r (n * z11)
          generalize n_wr (n * z11) = z14 at f13 ⊢
          refine n_iload c_70_52 rfl (n_iadd c_70_54 rfl (n_wrap ?_))
          have f15 := n_wr_r (z14 + x4)
          generalize n_wr (z14 + x4) = z16 at f15 ⊢
          refine n_aload_n c_70_55 rfl ?_
          have hcst : ((7 + 1) : Int) = 8 := by omega
          rw [hcst]
          refine n_s4V c_70_56 rfl rfl rfl rfl (gather48_8_2 (n := z16) hS5 (by omega)) ?_
          intro  M17 hP18
          have hS17 := hP18
          refine n_fg (le_s (le_s (le_s (le_s (le_s le_0))))) ?_
          exact ih.2 _ M17 hS17 (by omega) (by omega)
    · intro x4 M hS k4 hnn
      refine n_iinc (L2 := [some (2, 38), some (0, 7), some (0, n), some (2, 48), some (0, (x4 + 1))]) c_70_59 rfl rfl rfl (n_goto c_70_62 (n_fg (le_s (le_s (le_s (le_s (le_s le_0))))) ?_))
      exact ih.1 _ M hS (by omega) (by omega)
set_option maxHeartbeats 4000000 in
theorem gather48_7_2 {xs : List Int32} {e : Nat} {ac : Int} {M0 M : nM} {n : Int} (hS : Sf 2 ac M0 M) (hn : -2147483648 ≤ n ∧ n ≤ 2147483647) : nW xs (e + 4) 70 0 [some (2, 38), some (0, 7), some (0, n), some (2, 48), none] [] M (nPV fun M1 => Sf 2 ac M0 M1) := by
  have hd : (2 : Int) = 2 ∨ (2 : Int) = 3 := by decide
  have hac := hS.2.2.2.2
  refine n_iload_n c_70_0 rfl (n_aload_n c_70_1 rfl (n_getV (bi := 6) c_70_2 sc_38.n rfl rfl rfl (t_38_6 hS) ?_))
  intro z1 ez1 f2
  refine n_if2_lt c_70_5 (by omega) (by omega) ?_ ?_
  · intro h3
    refine n_iconst c_70_14 (n_istore (L2 := [some (2, 38), some (0, 7), some (0, n), some (2, 48), some (0, 0)]) c_70_15 rfl rfl (n_fg (le_s (le_s (le_s (le_s (le_s le_0))))) ?_))
    exact (gather48_7_2_c hS hn 30).1 _ M hS (by omega) (by omega)
  · intro h4
    refine n_aload_n c_70_8 rfl (n_iload_n c_70_9 rfl (n_v1V c_70_10 rfl sc_48.n rfl rfl rfl rfl (add48_2 (n := n) hS (by omega)) ?_))
    intro  M5 hP6
    have hS5 := hP6
    exact n_rV c_70_13 rfl hS5

set_option maxHeartbeats 4000000 in
theorem gather48_6_2_c {xs : List Int32} {e : Nat} {ac : Int} {M0 M : nM} {n : Int} (hS : Sf 2 ac M0 M) (hn : -2147483648 ≤ n ∧ n ≤ 2147483647) : ∀ nn : Nat, (∀ (x4 : Int) (M : nM), Sf 2 ac M0 M → (0 ≤ x4 ∧ x4 ≤ 3) → (3 - x4) * 2 + 2 < (nn : Int) → nW xs (e + 5) 70 17 [some (2, 38), some (0, 6), some (0, n), some (2, 48), some (0, x4)] [] M (nPV fun M1 => Sf 2 ac M0 M1)) ∧ (∀ (x4 : Int) (M : nM), Sf 2 ac M0 M → (0 ≤ x4 ∧ x4 ≤ 2) → (3 - x4) * 2 + 1 < (nn : Int) → nW xs (e + 5) 70 59 [some (2, 38), some (0, 6), some (0, n), some (2, 48), some (0, x4)] [] M (nPV fun M1 => Sf 2 ac M0 M1)) := by
  have hd : (2 : Int) = 2 ∨ (2 : Int) = 3 := by decide
  have hac := hS.2.2.2.2
  intro nn
  induction nn with
  | zero => refine ⟨?_, ?_⟩ <;> (intros; omega)
  | succ nn ih =>
    refine ⟨?_, ?_⟩
    · intro x4 M hS k4 hnn
      refine n_iload c_70_17 rfl (n_aload_n c_70_19 rfl (n_getV (bi := 5) c_70_20 sc_38.n rfl rfl rfl (t_38_5 hS) ?_))
      intro z1 ez1 f2
      refine n_if2_ge c_70_23 (by omega) (by omega) ?_ ?_
      · intro h3
        exact n_rV c_70_65 rfl hS
      · intro h4
        refine n_aload_n c_70_26 rfl (n_getR c_70_27 sc_38.n rfl rfl rfl r_38_0 (n_iload_n c_70_30 rfl (n_iload c_70_31 rfl (n_iastoreV hS c_70_33 sc_39.n rfl (by omega) (w_39 (by omega) (by omega)) ?_))))
        intro M5 eM5 hS5
        have g5_0 : M5 38 5 = M 38 5 := by rw [eM5]; exact nu_a (by omega)
        refine n_aload_n c_70_34 rfl (n_iload_n c_70_35 rfl (n_v1I c_70_36 rfl sc_38.n rfl rfl rfl rfl (fits_2 (l := 6) hS5 (by omega)) ?_))
        intro z6 M7 hP8
        obtain ⟨eM, f8⟩ := hP8
        subst eM
        refine n_if0_eq c_70_39 (by omega) ?_ ?_
        · intro h9
          refine n_fg (le_s (le_s (le_s (le_s (le_s le_0))))) ?_
          exact ih.2 _ M5 hS5 (by omega) (by omega)
        · intro h10
          refine n_aload_n c_70_42 rfl (n_iload_n c_70_43 rfl (n_iconst c_70_44 (n_iadd c_70_45 rfl (n_iload_n c_70_46 rfl (n_aload_n c_70_47 rfl (n_getV (bi := 5) c_70_48 sc_38.n rfl rfl rfl (t_38_5 hS5) ?_))))))
          intro z11 ez11 f12
          refine n_imul c_70_51 rfl (n_wrap ?_)
          have f13 := n_wr_r (n * z11)
          generalize n_wr (n * z11) = z14 at f13 ⊢
          refine n_iload c_70_52 rfl (n_iadd c_70_54 rfl (n_wrap ?_))
          have f15 := n_wr_r (z14 + x4)
          generalize n_wr (z14 + x4) = z16 at f15 ⊢
          refine n_aload_n c_70_55 rfl ?_
          have hcst : ((6 + 1) : Int) = 7 := by omega
          rw [hcst]
          refine n_s4V c_70_56 rfl rfl rfl rfl (gather48_7_2 (n := z16) hS5 (by omega)) ?_
          intro  M17 hP18
          have hS17 := hP18
          refine n_fg (le_s (le_s (le_s (le_s (le_s le_0))))) ?_
          exact ih.2 _ M17 hS17 (by omega) (by omega)
    · intro x4 M hS k4 hnn
      refine n_iinc (L2 := [some (2, 38), some (0, 6), some (0, n), some (2, 48), some (0, (x4 + 1))]) c_70_59 rfl rfl rfl (n_goto c_70_62 (n_fg (le_s (le_s (le_s (le_s (le_s le_0))))) ?_))
      exact ih.1 _ M hS (by omega) (by omega)
set_option maxHeartbeats 4000000 in
theorem gather48_6_2 {xs : List Int32} {e : Nat} {ac : Int} {M0 M : nM} {n : Int} (hS : Sf 2 ac M0 M) (hn : -2147483648 ≤ n ∧ n ≤ 2147483647) : nW xs (e + 5) 70 0 [some (2, 38), some (0, 6), some (0, n), some (2, 48), none] [] M (nPV fun M1 => Sf 2 ac M0 M1) := by
  have hd : (2 : Int) = 2 ∨ (2 : Int) = 3 := by decide
  have hac := hS.2.2.2.2
  refine n_iload_n c_70_0 rfl (n_aload_n c_70_1 rfl (n_getV (bi := 6) c_70_2 sc_38.n rfl rfl rfl (t_38_6 hS) ?_))
  intro z1 ez1 f2
  refine n_if2_lt c_70_5 (by omega) (by omega) ?_ ?_
  · intro h3
    refine n_iconst c_70_14 (n_istore (L2 := [some (2, 38), some (0, 6), some (0, n), some (2, 48), some (0, 0)]) c_70_15 rfl rfl (n_fg (le_s (le_s (le_s (le_s (le_s le_0))))) ?_))
    exact (gather48_6_2_c hS hn 30).1 _ M hS (by omega) (by omega)
  · intro h4
    refine n_aload_n c_70_8 rfl (n_iload_n c_70_9 rfl (n_v1V c_70_10 rfl sc_48.n rfl rfl rfl rfl (add48_2 (n := n) hS (by omega)) ?_))
    intro  M5 hP6
    have hS5 := hP6
    exact n_rV c_70_13 rfl hS5

set_option maxHeartbeats 4000000 in
theorem gather48_5_2_c {xs : List Int32} {e : Nat} {ac : Int} {M0 M : nM} {n : Int} (hS : Sf 2 ac M0 M) (hn : -2147483648 ≤ n ∧ n ≤ 2147483647) : ∀ nn : Nat, (∀ (x4 : Int) (M : nM), Sf 2 ac M0 M → (0 ≤ x4 ∧ x4 ≤ 3) → (3 - x4) * 2 + 2 < (nn : Int) → nW xs (e + 6) 70 17 [some (2, 38), some (0, 5), some (0, n), some (2, 48), some (0, x4)] [] M (nPV fun M1 => Sf 2 ac M0 M1)) ∧ (∀ (x4 : Int) (M : nM), Sf 2 ac M0 M → (0 ≤ x4 ∧ x4 ≤ 2) → (3 - x4) * 2 + 1 < (nn : Int) → nW xs (e + 6) 70 59 [some (2, 38), some (0, 5), some (0, n), some (2, 48), some (0, x4)] [] M (nPV fun M1 => Sf 2 ac M0 M1)) := by
  have hd : (2 : Int) = 2 ∨ (2 : Int) = 3 := by decide
  have hac := hS.2.2.2.2
  intro nn
  induction nn with
  | zero => refine ⟨?_, ?_⟩ <;> (intros; omega)
  | succ nn ih =>
    refine ⟨?_, ?_⟩
    · intro x4 M hS k4 hnn
      refine n_iload c_70_17 rfl (n_aload_n c_70_19 rfl (n_getV (bi := 5) c_70_20 sc_38.n rfl rfl rfl (t_38_5 hS) ?_))
      intro z1 ez1 f2
      refine n_if2_ge c_70_23 (by omega) (by omega) ?_ ?_
      · intro h3
        exact n_rV c_70_65 rfl hS
      · intro h4
        refine n_aload_n c_70_26 rfl (n_getR c_70_27 sc_38.n rfl rfl rfl r_38_0 (n_iload_n c_70_30 rfl (n_iload c_70_31 rfl (n_iastoreV hS c_70_33 sc_39.n rfl (by omega) (w_39 (by omega) (by omega)) ?_))))
        intro M5 eM5 hS5
        have g5_0 : M5 38 5 = M 38 5 := by rw [eM5]; exact nu_a (by omega)
        refine n_aload_n c_70_34 rfl (n_iload_n c_70_35 rfl (n_v1I c_70_36 rfl sc_38.n rfl rfl rfl rfl (fits_2 (l := 5) hS5 (by omega)) ?_))
        intro z6 M7 hP8
        obtain ⟨eM, f8⟩ := hP8
        subst eM
        refine n_if0_eq c_70_39 (by omega) ?_ ?_
        · intro h9
          refine n_fg (le_s (le_s (le_s (le_s (le_s le_0))))) ?_
          exact ih.2 _ M5 hS5 (by omega) (by omega)
        · intro h10
          refine n_aload_n c_70_42 rfl (n_iload_n c_70_43 rfl (n_iconst c_70_44 (n_iadd c_70_45 rfl (n_iload_n c_70_46 rfl (n_aload_n c_70_47 rfl (n_getV (bi := 5) c_70_48 sc_38.n rfl rfl rfl (t_38_5 hS5) ?_))))))
          intro z11 ez11 f12
          refine n_imul c_70_51 rfl (n_wrap ?_)
          have f13 := n_wr_r (n * z11)
          generalize n_wr (n * z11) = z14 at f13 ⊢
          refine n_iload c_70_52 rfl (n_iadd c_70_54 rfl (n_wrap ?_))
          have f15 := n_wr_r (z14 + x4)
          generalize n_wr (z14 + x4) = z16 at f15 ⊢
          refine n_aload_n c_70_55 rfl ?_
          have hcst : ((5 + 1) : Int) = 6 := by omega
          rw [hcst]
          refine n_s4V c_70_56 rfl rfl rfl rfl (gather48_6_2 (n := z16) hS5 (by omega)) ?_
          intro  M17 hP18
          have hS17 := hP18
          refine n_fg (le_s (le_s (le_s (le_s (le_s le_0))))) ?_
          exact ih.2 _ M17 hS17 (by omega) (by omega)
    · intro x4 M hS k4 hnn
      refine n_iinc (L2 := [some (2, 38), some (0, 5), some (0, n), some (2, 48), some (0, (x4 + 1))]) c_70_59 rfl rfl rfl (n_goto c_70_62 (n_fg (le_s (le_s (le_s (le_s (le_s le_0))))) ?_))
      exact ih.1 _ M hS (by omega) (by omega)
set_option maxHeartbeats 4000000 in
theorem gather48_5_2 {xs : List Int32} {e : Nat} {ac : Int} {M0 M : nM} {n : Int} (hS : Sf 2 ac M0 M) (hn : -2147483648 ≤ n ∧ n ≤ 2147483647) : nW xs (e + 6) 70 0 [some (2, 38), some (0, 5), some (0, n), some (2, 48), none] [] M (nPV fun M1 => Sf 2 ac M0 M1) := by
  have hd : (2 : Int) = 2 ∨ (2 : Int) = 3 := by decide
  have hac := hS.2.2.2.2
  refine n_iload_n c_70_0 rfl (n_aload_n c_70_1 rfl (n_getV (bi := 6) c_70_2 sc_38.n rfl rfl rfl (t_38_6 hS) ?_))
  intro z1 ez1 f2
  refine n_if2_lt c_70_5 (by omega) (by omega) ?_ ?_
  · intro h3
    refine n_iconst c_70_14 (n_istore (L2 := [some (2, 38), some (0, 5), some (0, n), some (2, 48), some (0, 0)]) c_70_15 rfl rfl (n_fg (le_s (le_s (le_s (le_s (le_s le_0))))) ?_))
    exact (gather48_5_2_c hS hn 30).1 _ M hS (by omega) (by omega)
  · intro h4
    refine n_aload_n c_70_8 rfl (n_iload_n c_70_9 rfl (n_v1V c_70_10 rfl sc_48.n rfl rfl rfl rfl (add48_2 (n := n) hS (by omega)) ?_))
    intro  M5 hP6
    have hS5 := hP6
    exact n_rV c_70_13 rfl hS5

set_option maxHeartbeats 4000000 in
theorem gather48_4_2_c {xs : List Int32} {e : Nat} {ac : Int} {M0 M : nM} {n : Int} (hS : Sf 2 ac M0 M) (hn : -2147483648 ≤ n ∧ n ≤ 2147483647) : ∀ nn : Nat, (∀ (x4 : Int) (M : nM), Sf 2 ac M0 M → (0 ≤ x4 ∧ x4 ≤ 3) → (3 - x4) * 2 + 2 < (nn : Int) → nW xs (e + 7) 70 17 [some (2, 38), some (0, 4), some (0, n), some (2, 48), some (0, x4)] [] M (nPV fun M1 => Sf 2 ac M0 M1)) ∧ (∀ (x4 : Int) (M : nM), Sf 2 ac M0 M → (0 ≤ x4 ∧ x4 ≤ 2) → (3 - x4) * 2 + 1 < (nn : Int) → nW xs (e + 7) 70 59 [some (2, 38), some (0, 4), some (0, n), some (2, 48), some (0, x4)] [] M (nPV fun M1 => Sf 2 ac M0 M1)) := by
  have hd : (2 : Int) = 2 ∨ (2 : Int) = 3 := by decide
  have hac := hS.2.2.2.2
  intro nn
  induction nn with
  | zero => refine ⟨?_, ?_⟩ <;> (intros; omega)
  | succ nn ih =>
    refine ⟨?_, ?_⟩
    · intro x4 M hS k4 hnn
      refine n_iload c_70_17 rfl (n_aload_n c_70_19 rfl (n_getV (bi := 5) c_70_20 sc_38.n rfl rfl rfl (t_38_5 hS) ?_))
      intro z1 ez1 f2
      refine n_if2_ge c_70_23 (by omega) (by omega) ?_ ?_
      · intro h3
        exact n_rV c_70_65 rfl hS
      · intro h4
        refine n_aload_n c_70_26 rfl (n_getR c_70_27 sc_38.n rfl rfl rfl r_38_0 (n_iload_n c_70_30 rfl (n_iload c_70_31 rfl (n_iastoreV hS c_70_33 sc_39.n rfl (by omega) (w_39 (by omega) (by omega)) ?_))))
        intro M5 eM5 hS5
        have g5_0 : M5 38 5 = M 38 5 := by rw [eM5]; exact nu_a (by omega)
        refine n_aload_n c_70_34 rfl (n_iload_n c_70_35 rfl (n_v1I c_70_36 rfl sc_38.n rfl rfl rfl rfl (fits_2 (l := 4) hS5 (by omega)) ?_))
        intro z6 M7 hP8
        obtain ⟨eM, f8⟩ := hP8
        subst eM
        refine n_if0_eq c_70_39 (by omega) ?_ ?_
        · intro h9
          refine n_fg (le_s (le_s (le_s (le_s (le_s le_0))))) ?_
          exact ih.2 _ M5 hS5 (by omega) (by omega)
        · intro h10
          refine n_aload_n c_70_42 rfl (n_iload_n c_70_43 rfl (n_iconst c_70_44 (n_iadd c_70_45 rfl (n_iload_n c_70_46 rfl (n_aload_n c_70_47 rfl (n_getV (bi := 5) c_70_48 sc_38.n rfl rfl rfl (t_38_5 hS5) ?_))))))
          intro z11 ez11 f12
          refine n_imul c_70_51 rfl (n_wrap ?_)
          have f13 := n_wr_r (n * z11)
          generalize n_wr (n * z11) = z14 at f13 ⊢
          refine n_iload c_70_52 rfl (n_iadd c_70_54 rfl (n_wrap ?_))
          have f15 := n_wr_r (z14 + x4)
          generalize n_wr (z14 + x4) = z16 at f15 ⊢
          refine n_aload_n c_70_55 rfl ?_
          have hcst : ((4 + 1) : Int) = 5 := by omega
          rw [hcst]
          refine n_s4V c_70_56 rfl rfl rfl rfl (gather48_5_2 (n := z16) hS5 (by omega)) ?_
          intro  M17 hP18
          have hS17 := hP18
          refine n_fg (le_s (le_s (le_s (le_s (le_s le_0))))) ?_
          exact ih.2 _ M17 hS17 (by omega) (by omega)
    · intro x4 M hS k4 hnn
      refine n_iinc (L2 := [some (2, 38), some (0, 4), some (0, n), some (2, 48), some (0, (x4 + 1))]) c_70_59 rfl rfl rfl (n_goto c_70_62 (n_fg (le_s (le_s (le_s (le_s (le_s le_0))))) ?_))
      exact ih.1 _ M hS (by omega) (by omega)
set_option maxHeartbeats 4000000 in
theorem gather48_4_2 {xs : List Int32} {e : Nat} {ac : Int} {M0 M : nM} {n : Int} (hS : Sf 2 ac M0 M) (hn : -2147483648 ≤ n ∧ n ≤ 2147483647) : nW xs (e + 7) 70 0 [some (2, 38), some (0, 4), some (0, n), some (2, 48), none] [] M (nPV fun M1 => Sf 2 ac M0 M1) := by
  have hd : (2 : Int) = 2 ∨ (2 : Int) = 3 := by decide
  have hac := hS.2.2.2.2
  refine n_iload_n c_70_0 rfl (n_aload_n c_70_1 rfl (n_getV (bi := 6) c_70_2 sc_38.n rfl rfl rfl (t_38_6 hS) ?_))
  intro z1 ez1 f2
  refine n_if2_lt c_70_5 (by omega) (by omega) ?_ ?_
  · intro h3
    refine n_iconst c_70_14 (n_istore (L2 := [some (2, 38), some (0, 4), some (0, n), some (2, 48), some (0, 0)]) c_70_15 rfl rfl (n_fg (le_s (le_s (le_s (le_s (le_s le_0))))) ?_))
    exact (gather48_4_2_c hS hn 30).1 _ M hS (by omega) (by omega)
  · intro h4
    refine n_aload_n c_70_8 rfl (n_iload_n c_70_9 rfl (n_v1V c_70_10 rfl sc_48.n rfl rfl rfl rfl (add48_2 (n := n) hS (by omega)) ?_))
    intro  M5 hP6
    have hS5 := hP6
    exact n_rV c_70_13 rfl hS5

set_option maxHeartbeats 4000000 in
theorem gather48_3_2_c {xs : List Int32} {e : Nat} {ac : Int} {M0 M : nM} {n : Int} (hS : Sf 2 ac M0 M) (hn : -2147483648 ≤ n ∧ n ≤ 2147483647) : ∀ nn : Nat, (∀ (x4 : Int) (M : nM), Sf 2 ac M0 M → (0 ≤ x4 ∧ x4 ≤ 3) → (3 - x4) * 2 + 2 < (nn : Int) → nW xs (e + 8) 70 17 [some (2, 38), some (0, 3), some (0, n), some (2, 48), some (0, x4)] [] M (nPV fun M1 => Sf 2 ac M0 M1)) ∧ (∀ (x4 : Int) (M : nM), Sf 2 ac M0 M → (0 ≤ x4 ∧ x4 ≤ 2) → (3 - x4) * 2 + 1 < (nn : Int) → nW xs (e + 8) 70 59 [some (2, 38), some (0, 3), some (0, n), some (2, 48), some (0, x4)] [] M (nPV fun M1 => Sf 2 ac M0 M1)) := by
  have hd : (2 : Int) = 2 ∨ (2 : Int) = 3 := by decide
  have hac := hS.2.2.2.2
  intro nn
  induction nn with
  | zero => refine ⟨?_, ?_⟩ <;> (intros; omega)
  | succ nn ih =>
    refine ⟨?_, ?_⟩
    · intro x4 M hS k4 hnn
      refine n_iload c_70_17 rfl (n_aload_n c_70_19 rfl (n_getV (bi := 5) c_70_20 sc_38.n rfl rfl rfl (t_38_5 hS) ?_))
      intro z1 ez1 f2
      refine n_if2_ge c_70_23 (by omega) (by omega) ?_ ?_
      · intro h3
        exact n_rV c_70_65 rfl hS
      · intro h4
        refine n_aload_n c_70_26 rfl (n_getR c_70_27 sc_38.n rfl rfl rfl r_38_0 (n_iload_n c_70_30 rfl (n_iload c_70_31 rfl (n_iastoreV hS c_70_33 sc_39.n rfl (by omega) (w_39 (by omega) (by omega)) ?_))))
        intro M5 eM5 hS5
        have g5_0 : M5 38 5 = M 38 5 := by rw [eM5]; exact nu_a (by omega)
        refine n_aload_n c_70_34 rfl (n_iload_n c_70_35 rfl (n_v1I c_70_36 rfl sc_38.n rfl rfl rfl rfl (fits_2 (l := 3) hS5 (by omega)) ?_))
        intro z6 M7 hP8
        obtain ⟨eM, f8⟩ := hP8
        subst eM
        refine n_if0_eq c_70_39 (by omega) ?_ ?_
        · intro h9
          refine n_fg (le_s (le_s (le_s (le_s (le_s le_0))))) ?_
          exact ih.2 _ M5 hS5 (by omega) (by omega)
        · intro h10
          refine n_aload_n c_70_42 rfl (n_iload_n c_70_43 rfl (n_iconst c_70_44 (n_iadd c_70_45 rfl (n_iload_n c_70_46 rfl (n_aload_n c_70_47 rfl (n_getV (bi := 5) c_70_48 sc_38.n rfl rfl rfl (t_38_5 hS5) ?_))))))
          intro z11 ez11 f12
          refine n_imul c_70_51 rfl (n_wrap ?_)
          have f13 := n_wr_r (n * z11)
          generalize n_wr (n * z11) = z14 at f13 ⊢
          refine n_iload c_70_52 rfl (n_iadd c_70_54 rfl (n_wrap ?_))
          have f15 := n_wr_r (z14 + x4)
          generalize n_wr (z14 + x4) = z16 at f15 ⊢
          refine n_aload_n c_70_55 rfl ?_
          have hcst : ((3 + 1) : Int) = 4 := by omega
          rw [hcst]
          refine n_s4V c_70_56 rfl rfl rfl rfl (gather48_4_2 (n := z16) hS5 (by omega)) ?_
          intro  M17 hP18
          have hS17 := hP18
          refine n_fg (le_s (le_s (le_s (le_s (le_s le_0))))) ?_
          exact ih.2 _ M17 hS17 (by omega) (by omega)
    · intro x4 M hS k4 hnn
      refine n_iinc (L2 := [some (2, 38), some (0, 3), some (0, n), some (2, 48), some (0, (x4 + 1))]) c_70_59 rfl rfl rfl (n_goto c_70_62 (n_fg (le_s (le_s (le_s (le_s (le_s le_0))))) ?_))
      exact ih.1 _ M hS (by omega) (by omega)
set_option maxHeartbeats 4000000 in
theorem gather48_3_2 {xs : List Int32} {e : Nat} {ac : Int} {M0 M : nM} {n : Int} (hS : Sf 2 ac M0 M) (hn : -2147483648 ≤ n ∧ n ≤ 2147483647) : nW xs (e + 8) 70 0 [some (2, 38), some (0, 3), some (0, n), some (2, 48), none] [] M (nPV fun M1 => Sf 2 ac M0 M1) := by
  have hd : (2 : Int) = 2 ∨ (2 : Int) = 3 := by decide
  have hac := hS.2.2.2.2
  refine n_iload_n c_70_0 rfl (n_aload_n c_70_1 rfl (n_getV (bi := 6) c_70_2 sc_38.n rfl rfl rfl (t_38_6 hS) ?_))
  intro z1 ez1 f2
  refine n_if2_lt c_70_5 (by omega) (by omega) ?_ ?_
  · intro h3
    refine n_iconst c_70_14 (n_istore (L2 := [some (2, 38), some (0, 3), some (0, n), some (2, 48), some (0, 0)]) c_70_15 rfl rfl (n_fg (le_s (le_s (le_s (le_s (le_s le_0))))) ?_))
    exact (gather48_3_2_c hS hn 30).1 _ M hS (by omega) (by omega)
  · intro h4
    refine n_aload_n c_70_8 rfl (n_iload_n c_70_9 rfl (n_v1V c_70_10 rfl sc_48.n rfl rfl rfl rfl (add48_2 (n := n) hS (by omega)) ?_))
    intro  M5 hP6
    have hS5 := hP6
    exact n_rV c_70_13 rfl hS5

set_option maxHeartbeats 4000000 in
theorem gather48_2_2_c {xs : List Int32} {e : Nat} {ac : Int} {M0 M : nM} {n : Int} (hS : Sf 2 ac M0 M) (hn : -2147483648 ≤ n ∧ n ≤ 2147483647) : ∀ nn : Nat, (∀ (x4 : Int) (M : nM), Sf 2 ac M0 M → (0 ≤ x4 ∧ x4 ≤ 3) → (3 - x4) * 2 + 2 < (nn : Int) → nW xs (e + 9) 70 17 [some (2, 38), some (0, 2), some (0, n), some (2, 48), some (0, x4)] [] M (nPV fun M1 => Sf 2 ac M0 M1)) ∧ (∀ (x4 : Int) (M : nM), Sf 2 ac M0 M → (0 ≤ x4 ∧ x4 ≤ 2) → (3 - x4) * 2 + 1 < (nn : Int) → nW xs (e + 9) 70 59 [some (2, 38), some (0, 2), some (0, n), some (2, 48), some (0, x4)] [] M (nPV fun M1 => Sf 2 ac M0 M1)) := by
  have hd : (2 : Int) = 2 ∨ (2 : Int) = 3 := by decide
  have hac := hS.2.2.2.2
  intro nn
  induction nn with
  | zero => refine ⟨?_, ?_⟩ <;> (intros; omega)
  | succ nn ih =>
    refine ⟨?_, ?_⟩
    · intro x4 M hS k4 hnn
      refine n_iload c_70_17 rfl (n_aload_n c_70_19 rfl (n_getV (bi := 5) c_70_20 sc_38.n rfl rfl rfl (t_38_5 hS) ?_))
      intro z1 ez1 f2
      refine n_if2_ge c_70_23 (by omega) (by omega) ?_ ?_
      · intro h3
        exact n_rV c_70_65 rfl hS
      · intro h4
        refine n_aload_n c_70_26 rfl (n_getR c_70_27 sc_38.n rfl rfl rfl r_38_0 (n_iload_n c_70_30 rfl (n_iload c_70_31 rfl (n_iastoreV hS c_70_33 sc_39.n rfl (by omega) (w_39 (by omega) (by omega)) ?_))))
        intro M5 eM5 hS5
        have g5_0 : M5 38 5 = M 38 5 := by rw [eM5]; exact nu_a (by omega)
        refine n_aload_n c_70_34 rfl (n_iload_n c_70_35 rfl (n_v1I c_70_36 rfl sc_38.n rfl rfl rfl rfl (fits_2 (l := 2) hS5 (by omega)) ?_))
        intro z6 M7 hP8
        obtain ⟨eM, f8⟩ := hP8
        subst eM
        refine n_if0_eq c_70_39 (by omega) ?_ ?_
        · intro h9
          refine n_fg (le_s (le_s (le_s (le_s (le_s le_0))))) ?_
          exact ih.2 _ M5 hS5 (by omega) (by omega)
        · intro h10
          refine n_aload_n c_70_42 rfl (n_iload_n c_70_43 rfl (n_iconst c_70_44 (n_iadd c_70_45 rfl (n_iload_n c_70_46 rfl (n_aload_n c_70_47 rfl (n_getV (bi := 5) c_70_48 sc_38.n rfl rfl rfl (t_38_5 hS5) ?_))))))
          intro z11 ez11 f12
          refine n_imul c_70_51 rfl (n_wrap ?_)
          have f13 := n_wr_r (n * z11)
          generalize n_wr (n * z11) = z14 at f13 ⊢
          refine n_iload c_70_52 rfl (n_iadd c_70_54 rfl (n_wrap ?_))
          have f15 := n_wr_r (z14 + x4)
          generalize n_wr (z14 + x4) = z16 at f15 ⊢
          refine n_aload_n c_70_55 rfl ?_
          have hcst : ((2 + 1) : Int) = 3 := by omega
          rw [hcst]
          refine n_s4V c_70_56 rfl rfl rfl rfl (gather48_3_2 (n := z16) hS5 (by omega)) ?_
          intro  M17 hP18
          have hS17 := hP18
          refine n_fg (le_s (le_s (le_s (le_s (le_s le_0))))) ?_
          exact ih.2 _ M17 hS17 (by omega) (by omega)
    · intro x4 M hS k4 hnn
      refine n_iinc (L2 := [some (2, 38), some (0, 2), some (0, n), some (2, 48), some (0, (x4 + 1))]) c_70_59 rfl rfl rfl (n_goto c_70_62 (n_fg (le_s (le_s (le_s (le_s (le_s le_0))))) ?_))
      exact ih.1 _ M hS (by omega) (by omega)
set_option maxHeartbeats 4000000 in
theorem gather48_2_2 {xs : List Int32} {e : Nat} {ac : Int} {M0 M : nM} {n : Int} (hS : Sf 2 ac M0 M) (hn : -2147483648 ≤ n ∧ n ≤ 2147483647) : nW xs (e + 9) 70 0 [some (2, 38), some (0, 2), some (0, n), some (2, 48), none] [] M (nPV fun M1 => Sf 2 ac M0 M1) := by
  have hd : (2 : Int) = 2 ∨ (2 : Int) = 3 := by decide
  have hac := hS.2.2.2.2
  refine n_iload_n c_70_0 rfl (n_aload_n c_70_1 rfl (n_getV (bi := 6) c_70_2 sc_38.n rfl rfl rfl (t_38_6 hS) ?_))
  intro z1 ez1 f2
  refine n_if2_lt c_70_5 (by omega) (by omega) ?_ ?_
  · intro h3
    refine n_iconst c_70_14 (n_istore (L2 := [some (2, 38), some (0, 2), some (0, n), some (2, 48), some (0, 0)]) c_70_15 rfl rfl (n_fg (le_s (le_s (le_s (le_s (le_s le_0))))) ?_))
    exact (gather48_2_2_c hS hn 30).1 _ M hS (by omega) (by omega)
  · intro h4
    refine n_aload_n c_70_8 rfl (n_iload_n c_70_9 rfl (n_v1V c_70_10 rfl sc_48.n rfl rfl rfl rfl (add48_2 (n := n) hS (by omega)) ?_))
    intro  M5 hP6
    have hS5 := hP6
    exact n_rV c_70_13 rfl hS5

set_option maxHeartbeats 4000000 in
theorem gather48_1_2_c {xs : List Int32} {e : Nat} {ac : Int} {M0 M : nM} {n : Int} (hS : Sf 2 ac M0 M) (hn : -2147483648 ≤ n ∧ n ≤ 2147483647) : ∀ nn : Nat, (∀ (x4 : Int) (M : nM), Sf 2 ac M0 M → (0 ≤ x4 ∧ x4 ≤ 3) → (3 - x4) * 2 + 2 < (nn : Int) → nW xs (e + 10) 70 17 [some (2, 38), some (0, 1), some (0, n), some (2, 48), some (0, x4)] [] M (nPV fun M1 => Sf 2 ac M0 M1)) ∧ (∀ (x4 : Int) (M : nM), Sf 2 ac M0 M → (0 ≤ x4 ∧ x4 ≤ 2) → (3 - x4) * 2 + 1 < (nn : Int) → nW xs (e + 10) 70 59 [some (2, 38), some (0, 1), some (0, n), some (2, 48), some (0, x4)] [] M (nPV fun M1 => Sf 2 ac M0 M1)) := by
  have hd : (2 : Int) = 2 ∨ (2 : Int) = 3 := by decide
  have hac := hS.2.2.2.2
  intro nn
  induction nn with
  | zero => refine ⟨?_, ?_⟩ <;> (intros; omega)
  | succ nn ih =>
    refine ⟨?_, ?_⟩
    · intro x4 M hS k4 hnn
      refine n_iload c_70_17 rfl (n_aload_n c_70_19 rfl (n_getV (bi := 5) c_70_20 sc_38.n rfl rfl rfl (t_38_5 hS) ?_))
      intro z1 ez1 f2
      refine n_if2_ge c_70_23 (by omega) (by omega) ?_ ?_
      · intro h3
        exact n_rV c_70_65 rfl hS
      · intro h4
        refine n_aload_n c_70_26 rfl (n_getR c_70_27 sc_38.n rfl rfl rfl r_38_0 (n_iload_n c_70_30 rfl (n_iload c_70_31 rfl (n_iastoreV hS c_70_33 sc_39.n rfl (by omega) (w_39 (by omega) (by omega)) ?_))))
        intro M5 eM5 hS5
        have g5_0 : M5 38 5 = M 38 5 := by rw [eM5]; exact nu_a (by omega)
        refine n_aload_n c_70_34 rfl (n_iload_n c_70_35 rfl (n_v1I c_70_36 rfl sc_38.n rfl rfl rfl rfl (fits_2 (l := 1) hS5 (by omega)) ?_))
        intro z6 M7 hP8
        obtain ⟨eM, f8⟩ := hP8
        subst eM
        refine n_if0_eq c_70_39 (by omega) ?_ ?_
        · intro h9
          refine n_fg (le_s (le_s (le_s (le_s (le_s le_0))))) ?_
          exact ih.2 _ M5 hS5 (by omega) (by omega)
        · intro h10
          refine n_aload_n c_70_42 rfl (n_iload_n c_70_43 rfl (n_iconst c_70_44 (n_iadd c_70_45 rfl (n_iload_n c_70_46 rfl (n_aload_n c_70_47 rfl (n_getV (bi := 5) c_70_48 sc_38.n rfl rfl rfl (t_38_5 hS5) ?_))))))
          intro z11 ez11 f12
          refine n_imul c_70_51 rfl (n_wrap ?_)
          have f13 := n_wr_r (n * z11)
          generalize n_wr (n * z11) = z14 at f13 ⊢
          refine n_iload c_70_52 rfl (n_iadd c_70_54 rfl (n_wrap ?_))
          have f15 := n_wr_r (z14 + x4)
          generalize n_wr (z14 + x4) = z16 at f15 ⊢
          refine n_aload_n c_70_55 rfl ?_
          have hcst : ((1 + 1) : Int) = 2 := by omega
          rw [hcst]
          refine n_s4V c_70_56 rfl rfl rfl rfl (gather48_2_2 (n := z16) hS5 (by omega)) ?_
          intro  M17 hP18
          have hS17 := hP18
          refine n_fg (le_s (le_s (le_s (le_s (le_s le_0))))) ?_
          exact ih.2 _ M17 hS17 (by omega) (by omega)
    · intro x4 M hS k4 hnn
      refine n_iinc (L2 := [some (2, 38), some (0, 1), some (0, n), some (2, 48), some (0, (x4 + 1))]) c_70_59 rfl rfl rfl (n_goto c_70_62 (n_fg (le_s (le_s (le_s (le_s (le_s le_0))))) ?_))
      exact ih.1 _ M hS (by omega) (by omega)
set_option maxHeartbeats 4000000 in
theorem gather48_1_2 {xs : List Int32} {e : Nat} {ac : Int} {M0 M : nM} {n : Int} (hS : Sf 2 ac M0 M) (hn : -2147483648 ≤ n ∧ n ≤ 2147483647) : nW xs (e + 10) 70 0 [some (2, 38), some (0, 1), some (0, n), some (2, 48), none] [] M (nPV fun M1 => Sf 2 ac M0 M1) := by
  have hd : (2 : Int) = 2 ∨ (2 : Int) = 3 := by decide
  have hac := hS.2.2.2.2
  refine n_iload_n c_70_0 rfl (n_aload_n c_70_1 rfl (n_getV (bi := 6) c_70_2 sc_38.n rfl rfl rfl (t_38_6 hS) ?_))
  intro z1 ez1 f2
  refine n_if2_lt c_70_5 (by omega) (by omega) ?_ ?_
  · intro h3
    refine n_iconst c_70_14 (n_istore (L2 := [some (2, 38), some (0, 1), some (0, n), some (2, 48), some (0, 0)]) c_70_15 rfl rfl (n_fg (le_s (le_s (le_s (le_s (le_s le_0))))) ?_))
    exact (gather48_1_2_c hS hn 30).1 _ M hS (by omega) (by omega)
  · intro h4
    refine n_aload_n c_70_8 rfl (n_iload_n c_70_9 rfl (n_v1V c_70_10 rfl sc_48.n rfl rfl rfl rfl (add48_2 (n := n) hS (by omega)) ?_))
    intro  M5 hP6
    have hS5 := hP6
    exact n_rV c_70_13 rfl hS5

set_option maxHeartbeats 4000000 in
theorem gather48_0_2_c {xs : List Int32} {e : Nat} {ac : Int} {M0 M : nM} {n : Int} (hS : Sf 2 ac M0 M) (hn : -2147483648 ≤ n ∧ n ≤ 2147483647) : ∀ nn : Nat, (∀ (x4 : Int) (M : nM), Sf 2 ac M0 M → (0 ≤ x4 ∧ x4 ≤ 3) → (3 - x4) * 2 + 2 < (nn : Int) → nW xs (e + 11) 70 17 [some (2, 38), some (0, 0), some (0, n), some (2, 48), some (0, x4)] [] M (nPV fun M1 => Sf 2 ac M0 M1)) ∧ (∀ (x4 : Int) (M : nM), Sf 2 ac M0 M → (0 ≤ x4 ∧ x4 ≤ 2) → (3 - x4) * 2 + 1 < (nn : Int) → nW xs (e + 11) 70 59 [some (2, 38), some (0, 0), some (0, n), some (2, 48), some (0, x4)] [] M (nPV fun M1 => Sf 2 ac M0 M1)) := by
  have hd : (2 : Int) = 2 ∨ (2 : Int) = 3 := by decide
  have hac := hS.2.2.2.2
  intro nn
  induction nn with
  | zero => refine ⟨?_, ?_⟩ <;> (intros; omega)
  | succ nn ih =>
    refine ⟨?_, ?_⟩
    · intro x4 M hS k4 hnn
      refine n_iload c_70_17 rfl (n_aload_n c_70_19 rfl (n_getV (bi := 5) c_70_20 sc_38.n rfl rfl rfl (t_38_5 hS) ?_))
      intro z1 ez1 f2
      refine n_if2_ge c_70_23 (by omega) (by omega) ?_ ?_
      · intro h3
        exact n_rV c_70_65 rfl hS
      · intro h4
        refine n_aload_n c_70_26 rfl (n_getR c_70_27 sc_38.n rfl rfl rfl r_38_0 (n_iload_n c_70_30 rfl (n_iload c_70_31 rfl (n_iastoreV hS c_70_33 sc_39.n rfl (by omega) (w_39 (by omega) (by omega)) ?_))))
        intro M5 eM5 hS5
        have g5_0 : M5 38 5 = M 38 5 := by rw [eM5]; exact nu_a (by omega)
        refine n_aload_n c_70_34 rfl (n_iload_n c_70_35 rfl (n_v1I c_70_36 rfl sc_38.n rfl rfl rfl rfl (fits_2 (l := 0) hS5 (by omega)) ?_))
        intro z6 M7 hP8
        obtain ⟨eM, f8⟩ := hP8
        subst eM
        refine n_if0_eq c_70_39 (by omega) ?_ ?_
        · intro h9
          refine n_fg (le_s (le_s (le_s (le_s (le_s le_0))))) ?_
          exact ih.2 _ M5 hS5 (by omega) (by omega)
        · intro h10
          refine n_aload_n c_70_42 rfl (n_iload_n c_70_43 rfl (n_iconst c_70_44 (n_iadd c_70_45 rfl (n_iload_n c_70_46 rfl (n_aload_n c_70_47 rfl (n_getV (bi := 5) c_70_48 sc_38.n rfl rfl rfl (t_38_5 hS5) ?_))))))
          intro z11 ez11 f12
          refine n_imul c_70_51 rfl (n_wrap ?_)
          have f13 := n_wr_r (n * z11)
          generalize n_wr (n * z11) = z14 at f13 ⊢
          refine n_iload c_70_52 rfl (n_iadd c_70_54 rfl (n_wrap ?_))
          have f15 := n_wr_r (z14 + x4)
          generalize n_wr (z14 + x4) = z16 at f15 ⊢
          refine n_aload_n c_70_55 rfl ?_
          have hcst : ((0 + 1) : Int) = 1 := by omega
          rw [hcst]
          refine n_s4V c_70_56 rfl rfl rfl rfl (gather48_1_2 (n := z16) hS5 (by omega)) ?_
          intro  M17 hP18
          have hS17 := hP18
          refine n_fg (le_s (le_s (le_s (le_s (le_s le_0))))) ?_
          exact ih.2 _ M17 hS17 (by omega) (by omega)
    · intro x4 M hS k4 hnn
      refine n_iinc (L2 := [some (2, 38), some (0, 0), some (0, n), some (2, 48), some (0, (x4 + 1))]) c_70_59 rfl rfl rfl (n_goto c_70_62 (n_fg (le_s (le_s (le_s (le_s (le_s le_0))))) ?_))
      exact ih.1 _ M hS (by omega) (by omega)
set_option maxHeartbeats 4000000 in
theorem gather48_0_2 {xs : List Int32} {e : Nat} {ac : Int} {M0 M : nM} {n : Int} (hS : Sf 2 ac M0 M) (hn : -2147483648 ≤ n ∧ n ≤ 2147483647) : nW xs (e + 11) 70 0 [some (2, 38), some (0, 0), some (0, n), some (2, 48), none] [] M (nPV fun M1 => Sf 2 ac M0 M1) := by
  have hd : (2 : Int) = 2 ∨ (2 : Int) = 3 := by decide
  have hac := hS.2.2.2.2
  refine n_iload_n c_70_0 rfl (n_aload_n c_70_1 rfl (n_getV (bi := 6) c_70_2 sc_38.n rfl rfl rfl (t_38_6 hS) ?_))
  intro z1 ez1 f2
  refine n_if2_lt c_70_5 (by omega) (by omega) ?_ ?_
  · intro h3
    refine n_iconst c_70_14 (n_istore (L2 := [some (2, 38), some (0, 0), some (0, n), some (2, 48), some (0, 0)]) c_70_15 rfl rfl (n_fg (le_s (le_s (le_s (le_s (le_s le_0))))) ?_))
    exact (gather48_0_2_c hS hn 30).1 _ M hS (by omega) (by omega)
  · intro h4
    refine n_aload_n c_70_8 rfl (n_iload_n c_70_9 rfl (n_v1V c_70_10 rfl sc_48.n rfl rfl rfl rfl (add48_2 (n := n) hS (by omega)) ?_))
    intro  M5 hP6
    have hS5 := hP6
    exact n_rV c_70_13 rfl hS5

set_option maxHeartbeats 4000000 in
theorem findAll48_2 {xs : List Int32} {e : Nat} {ac : Int} {M0 M : nM} (hS : Sf 2 ac M0 M)  : nW xs (e + 14) 68 0 [some (2, 38), some (2, 48)] [] M (nPV fun M1 => Sf 2 ac M0 M1) := by
  have hd : (2 : Int) = 2 ∨ (2 : Int) = 3 := by decide
  have hac := hS.2.2.2.2
  refine n_aload_n c_68_0 rfl (n_v0V c_68_1 rfl sc_48.n rfl rfl rfl rfl (clear48_2  hS ) ?_)
  intro  M1 hP2
  have hS1 := hP2
  refine n_aload_n c_68_4 rfl (n_iconst c_68_5 (n_iconst c_68_6 (n_aload_n c_68_7 rfl (n_s4V c_68_8 rfl rfl rfl rfl (gather48_0_2 (n := 0) hS1 (by omega)) ?_))))
  intro  M3 hP4
  have hS3 := hP4
  exact n_rV c_68_11 rfl hS3

set_option maxHeartbeats 4000000 in
theorem seek9_2 {xs : List Int32} {e : Nat} {ac : Int} {M0 M : nM} (hS : Sf 2 ac M0 M)  : nW xs (e + 3) 71 0 [some (2, 38), some (0, 9), some (2, 44), none] [] M (nPI fun z M1 => Sf 2 ac M0 M1 ∧ (0 ≤ z ∧ z ≤ 1)) := by
  have hd : (2 : Int) = 2 ∨ (2 : Int) = 3 := by decide
  have hac := hS.2.2.2.2
  refine n_iload_n c_71_0 rfl (n_aload_n c_71_1 rfl (n_getV (bi := 6) c_71_2 sc_38.n rfl rfl rfl (t_38_6 hS) ?_))
  intro z1 ez1 f2
  refine n_if2_lt c_71_5 (by omega) (by omega) ?_ ?_
  · intro h3
    exfalso; omega
  · intro h4
    refine n_aload_n c_71_8 rfl (n_aload_n c_71_9 rfl (n_getR c_71_10 sc_38.n rfl rfl rfl r_38_0 (n_aload_n c_71_13 rfl (n_getV (bi := 5) c_71_14 sc_38.n rfl rfl rfl (t_38_5 hS) ?_))))
    intro z5 ez5 f6
    refine n_v2I c_71_17 rfl sc_44.n rfl rfl rfl rfl (suits_2 (t := z5) hS (by omega)) ?_
    intro z7 M8 hP9
    obtain ⟨eM, f9⟩ := hP9
    subst eM
    exact n_rZ c_71_20 rfl (by omega) ⟨hS, by omega⟩

set_option maxHeartbeats 4000000 in
theorem seek8_2_c {xs : List Int32} {e : Nat} {ac : Int} {M0 M : nM} (hS : Sf 2 ac M0 M)  : ∀ nn : Nat, (∀ (x3 : Int) (M : nM), Sf 2 ac M0 M → (0 ≤ x3 ∧ x3 ≤ 3) → (3 - x3) * 2 + 2 < (nn : Int) → nW xs (e + 4) 71 23 [some (2, 38), some (0, 8), some (2, 44), some (0, x3)] [] M (nPI fun z M1 => Sf 2 ac M0 M1 ∧ (0 ≤ z ∧ z ≤ 1))) ∧ (∀ (x3 : Int) (M : nM), Sf 2 ac M0 M → (0 ≤ x3 ∧ x3 ≤ 2) → (3 - x3) * 2 + 1 < (nn : Int) → nW xs (e + 4) 71 59 [some (2, 38), some (0, 8), some (2, 44), some (0, x3)] [] M (nPI fun z M1 => Sf 2 ac M0 M1 ∧ (0 ≤ z ∧ z ≤ 1))) := by
  have hd : (2 : Int) = 2 ∨ (2 : Int) = 3 := by decide
  have hac := hS.2.2.2.2
  intro nn
  induction nn with
  | zero => refine ⟨?_, ?_⟩ <;> (intros; omega)
  | succ nn ih =>
    refine ⟨?_, ?_⟩
    · intro x3 M hS k3 hnn
      refine n_iload_n c_71_23 rfl (n_aload_n c_71_24 rfl (n_getV (bi := 5) c_71_25 sc_38.n rfl rfl rfl (t_38_5 hS) ?_))
      intro z1 ez1 f2
      refine n_if2_ge c_71_28 (by omega) (by omega) ?_ ?_
      · intro h3
        refine n_iconst c_71_65 ?_
        exact n_rZ c_71_66 rfl (by omega) ⟨hS, by omega⟩
      · intro h4
        refine n_aload_n c_71_31 rfl (n_getR c_71_32 sc_38.n rfl rfl rfl r_38_0 (n_iload_n c_71_35 rfl (n_iload_n c_71_36 rfl (n_iastoreV hS c_71_37 sc_39.n rfl (by omega) (w_39 (by omega) (by omega)) ?_))))
        intro M5 eM5 hS5
        have g5_0 : M5 38 5 = M 38 5 := by rw [eM5]; exact nu_a (by omega)
        refine n_aload_n c_71_38 rfl (n_iload_n c_71_39 rfl (n_v1I c_71_40 rfl sc_38.n rfl rfl rfl rfl (fits_2 (l := 8) hS5 (by omega)) ?_))
        intro z6 M7 hP8
        obtain ⟨eM, f8⟩ := hP8
        subst eM
        refine n_if0_eq c_71_43 (by omega) ?_ ?_
        · intro h9
          refine n_fg (le_s (le_s (le_s (le_s le_0)))) ?_
          exact ih.2 _ M5 hS5 (by omega) (by omega)
        · intro h10
          refine n_aload_n c_71_46 rfl (n_iload_n c_71_47 rfl (n_iconst c_71_48 (n_iadd c_71_49 rfl (n_aload_n c_71_50 rfl ?_))))
          have hcst : ((8 + 1) : Int) = 9 := by omega
          rw [hcst]
          refine n_s3I c_71_51 rfl rfl rfl rfl (seek9_2  hS5 ) ?_
          intro z11 M12 hP13
          obtain ⟨hS12, f13⟩ := hP13
          refine n_if0_eq c_71_54 (by omega) ?_ ?_
          · intro h14
            refine n_fg (le_s (le_s (le_s (le_s le_0)))) ?_
            exact ih.2 _ M12 hS12 (by omega) (by omega)
          · intro h15
            refine n_iconst c_71_57 ?_
            exact n_rZ c_71_58 rfl (by omega) ⟨hS12, by omega⟩
    · intro x3 M hS k3 hnn
      refine n_iinc (L2 := [some (2, 38), some (0, 8), some (2, 44), some (0, (x3 + 1))]) c_71_59 rfl rfl rfl (n_goto c_71_62 (n_fg (le_s (le_s (le_s (le_s le_0)))) ?_))
      exact ih.1 _ M hS (by omega) (by omega)
set_option maxHeartbeats 4000000 in
theorem seek8_2 {xs : List Int32} {e : Nat} {ac : Int} {M0 M : nM} (hS : Sf 2 ac M0 M)  : nW xs (e + 4) 71 0 [some (2, 38), some (0, 8), some (2, 44), none] [] M (nPI fun z M1 => Sf 2 ac M0 M1 ∧ (0 ≤ z ∧ z ≤ 1)) := by
  have hd : (2 : Int) = 2 ∨ (2 : Int) = 3 := by decide
  have hac := hS.2.2.2.2
  refine n_iload_n c_71_0 rfl (n_aload_n c_71_1 rfl (n_getV (bi := 6) c_71_2 sc_38.n rfl rfl rfl (t_38_6 hS) ?_))
  intro z1 ez1 f2
  refine n_if2_lt c_71_5 (by omega) (by omega) ?_ ?_
  · intro h3
    refine n_iconst c_71_21 (n_istore_n (L2 := [some (2, 38), some (0, 8), some (2, 44), some (0, 0)]) c_71_22 rfl rfl (n_fg (le_s (le_s (le_s (le_s le_0)))) ?_))
    exact (seek8_2_c hS  30).1 _ M hS (by omega) (by omega)
  · intro h4
    refine n_aload_n c_71_8 rfl (n_aload_n c_71_9 rfl (n_getR c_71_10 sc_38.n rfl rfl rfl r_38_0 (n_aload_n c_71_13 rfl (n_getV (bi := 5) c_71_14 sc_38.n rfl rfl rfl (t_38_5 hS) ?_))))
    intro z5 ez5 f6
    refine n_v2I c_71_17 rfl sc_44.n rfl rfl rfl rfl (suits_2 (t := z5) hS (by omega)) ?_
    intro z7 M8 hP9
    obtain ⟨eM, f9⟩ := hP9
    subst eM
    exact n_rZ c_71_20 rfl (by omega) ⟨hS, by omega⟩

set_option maxHeartbeats 4000000 in
theorem seek7_2_c {xs : List Int32} {e : Nat} {ac : Int} {M0 M : nM} (hS : Sf 2 ac M0 M)  : ∀ nn : Nat, (∀ (x3 : Int) (M : nM), Sf 2 ac M0 M → (0 ≤ x3 ∧ x3 ≤ 3) → (3 - x3) * 2 + 2 < (nn : Int) → nW xs (e + 5) 71 23 [some (2, 38), some (0, 7), some (2, 44), some (0, x3)] [] M (nPI fun z M1 => Sf 2 ac M0 M1 ∧ (0 ≤ z ∧ z ≤ 1))) ∧ (∀ (x3 : Int) (M : nM), Sf 2 ac M0 M → (0 ≤ x3 ∧ x3 ≤ 2) → (3 - x3) * 2 + 1 < (nn : Int) → nW xs (e + 5) 71 59 [some (2, 38), some (0, 7), some (2, 44), some (0, x3)] [] M (nPI fun z M1 => Sf 2 ac M0 M1 ∧ (0 ≤ z ∧ z ≤ 1))) := by
  have hd : (2 : Int) = 2 ∨ (2 : Int) = 3 := by decide
  have hac := hS.2.2.2.2
  intro nn
  induction nn with
  | zero => refine ⟨?_, ?_⟩ <;> (intros; omega)
  | succ nn ih =>
    refine ⟨?_, ?_⟩
    · intro x3 M hS k3 hnn
      refine n_iload_n c_71_23 rfl (n_aload_n c_71_24 rfl (n_getV (bi := 5) c_71_25 sc_38.n rfl rfl rfl (t_38_5 hS) ?_))
      intro z1 ez1 f2
      refine n_if2_ge c_71_28 (by omega) (by omega) ?_ ?_
      · intro h3
        refine n_iconst c_71_65 ?_
        exact n_rZ c_71_66 rfl (by omega) ⟨hS, by omega⟩
      · intro h4
        refine n_aload_n c_71_31 rfl (n_getR c_71_32 sc_38.n rfl rfl rfl r_38_0 (n_iload_n c_71_35 rfl (n_iload_n c_71_36 rfl (n_iastoreV hS c_71_37 sc_39.n rfl (by omega) (w_39 (by omega) (by omega)) ?_))))
        intro M5 eM5 hS5
        have g5_0 : M5 38 5 = M 38 5 := by rw [eM5]; exact nu_a (by omega)
        refine n_aload_n c_71_38 rfl (n_iload_n c_71_39 rfl (n_v1I c_71_40 rfl sc_38.n rfl rfl rfl rfl (fits_2 (l := 7) hS5 (by omega)) ?_))
        intro z6 M7 hP8
        obtain ⟨eM, f8⟩ := hP8
        subst eM
        refine n_if0_eq c_71_43 (by omega) ?_ ?_
        · intro h9
          refine n_fg (le_s (le_s (le_s (le_s le_0)))) ?_
          exact ih.2 _ M5 hS5 (by omega) (by omega)
        · intro h10
          refine n_aload_n c_71_46 rfl (n_iload_n c_71_47 rfl (n_iconst c_71_48 (n_iadd c_71_49 rfl (n_aload_n c_71_50 rfl ?_))))
          have hcst : ((7 + 1) : Int) = 8 := by omega
          rw [hcst]
          refine n_s3I c_71_51 rfl rfl rfl rfl (seek8_2  hS5 ) ?_
          intro z11 M12 hP13
          obtain ⟨hS12, f13⟩ := hP13
          refine n_if0_eq c_71_54 (by omega) ?_ ?_
          · intro h14
            refine n_fg (le_s (le_s (le_s (le_s le_0)))) ?_
            exact ih.2 _ M12 hS12 (by omega) (by omega)
          · intro h15
            refine n_iconst c_71_57 ?_
            exact n_rZ c_71_58 rfl (by omega) ⟨hS12, by omega⟩
    · intro x3 M hS k3 hnn
      refine n_iinc (L2 := [some (2, 38), some (0, 7), some (2, 44), some (0, (x3 + 1))]) c_71_59 rfl rfl rfl (n_goto c_71_62 (n_fg (le_s (le_s (le_s (le_s le_0)))) ?_))
      exact ih.1 _ M hS (by omega) (by omega)
set_option maxHeartbeats 4000000 in
theorem seek7_2 {xs : List Int32} {e : Nat} {ac : Int} {M0 M : nM} (hS : Sf 2 ac M0 M)  : nW xs (e + 5) 71 0 [some (2, 38), some (0, 7), some (2, 44), none] [] M (nPI fun z M1 => Sf 2 ac M0 M1 ∧ (0 ≤ z ∧ z ≤ 1)) := by
  have hd : (2 : Int) = 2 ∨ (2 : Int) = 3 := by decide
  have hac := hS.2.2.2.2
  refine n_iload_n c_71_0 rfl (n_aload_n c_71_1 rfl (n_getV (bi := 6) c_71_2 sc_38.n rfl rfl rfl (t_38_6 hS) ?_))
  intro z1 ez1 f2
  refine n_if2_lt c_71_5 (by omega) (by omega) ?_ ?_
  · intro h3
    refine n_iconst c_71_21 (n_istore_n (L2 := [some (2, 38), some (0, 7), some (2, 44), some (0, 0)]) c_71_22 rfl rfl (n_fg (le_s (le_s (le_s (le_s le_0)))) ?_))
    exact (seek7_2_c hS  30).1 _ M hS (by omega) (by omega)
  · intro h4
    refine n_aload_n c_71_8 rfl (n_aload_n c_71_9 rfl (n_getR c_71_10 sc_38.n rfl rfl rfl r_38_0 (n_aload_n c_71_13 rfl (n_getV (bi := 5) c_71_14 sc_38.n rfl rfl rfl (t_38_5 hS) ?_))))
    intro z5 ez5 f6
    refine n_v2I c_71_17 rfl sc_44.n rfl rfl rfl rfl (suits_2 (t := z5) hS (by omega)) ?_
    intro z7 M8 hP9
    obtain ⟨eM, f9⟩ := hP9
    subst eM
    exact n_rZ c_71_20 rfl (by omega) ⟨hS, by omega⟩

set_option maxHeartbeats 4000000 in
theorem seek6_2_c {xs : List Int32} {e : Nat} {ac : Int} {M0 M : nM} (hS : Sf 2 ac M0 M)  : ∀ nn : Nat, (∀ (x3 : Int) (M : nM), Sf 2 ac M0 M → (0 ≤ x3 ∧ x3 ≤ 3) → (3 - x3) * 2 + 2 < (nn : Int) → nW xs (e + 6) 71 23 [some (2, 38), some (0, 6), some (2, 44), some (0, x3)] [] M (nPI fun z M1 => Sf 2 ac M0 M1 ∧ (0 ≤ z ∧ z ≤ 1))) ∧ (∀ (x3 : Int) (M : nM), Sf 2 ac M0 M → (0 ≤ x3 ∧ x3 ≤ 2) → (3 - x3) * 2 + 1 < (nn : Int) → nW xs (e + 6) 71 59 [some (2, 38), some (0, 6), some (2, 44), some (0, x3)] [] M (nPI fun z M1 => Sf 2 ac M0 M1 ∧ (0 ≤ z ∧ z ≤ 1))) := by
  have hd : (2 : Int) = 2 ∨ (2 : Int) = 3 := by decide
  have hac := hS.2.2.2.2
  intro nn
  induction nn with
  | zero => refine ⟨?_, ?_⟩ <;> (intros; omega)
  | succ nn ih =>
    refine ⟨?_, ?_⟩
    · intro x3 M hS k3 hnn
      refine n_iload_n c_71_23 rfl (n_aload_n c_71_24 rfl (n_getV (bi := 5) c_71_25 sc_38.n rfl rfl rfl (t_38_5 hS) ?_))
      intro z1 ez1 f2
      refine n_if2_ge c_71_28 (by omega) (by omega) ?_ ?_
      · intro h3
        refine n_iconst c_71_65 ?_
        exact n_rZ c_71_66 rfl (by omega) ⟨hS, by omega⟩
      · intro h4
        refine n_aload_n c_71_31 rfl (n_getR c_71_32 sc_38.n rfl rfl rfl r_38_0 (n_iload_n c_71_35 rfl (n_iload_n c_71_36 rfl (n_iastoreV hS c_71_37 sc_39.n rfl (by omega) (w_39 (by omega) (by omega)) ?_))))
        intro M5 eM5 hS5
        have g5_0 : M5 38 5 = M 38 5 := by rw [eM5]; exact nu_a (by omega)
        refine n_aload_n c_71_38 rfl (n_iload_n c_71_39 rfl (n_v1I c_71_40 rfl sc_38.n rfl rfl rfl rfl (fits_2 (l := 6) hS5 (by omega)) ?_))
        intro z6 M7 hP8
        obtain ⟨eM, f8⟩ := hP8
        subst eM
        refine n_if0_eq c_71_43 (by omega) ?_ ?_
        · intro h9
          refine n_fg (le_s (le_s (le_s (le_s le_0)))) ?_
          exact ih.2 _ M5 hS5 (by omega) (by omega)
        · intro h10
          refine n_aload_n c_71_46 rfl (n_iload_n c_71_47 rfl (n_iconst c_71_48 (n_iadd c_71_49 rfl (n_aload_n c_71_50 rfl ?_))))
          have hcst : ((6 + 1) : Int) = 7 := by omega
          rw [hcst]
          refine n_s3I c_71_51 rfl rfl rfl rfl (seek7_2  hS5 ) ?_
          intro z11 M12 hP13
          obtain ⟨hS12, f13⟩ := hP13
          refine n_if0_eq c_71_54 (by omega) ?_ ?_
          · intro h14
            refine n_fg (le_s (le_s (le_s (le_s le_0)))) ?_
            exact ih.2 _ M12 hS12 (by omega) (by omega)
          · intro h15
            refine n_iconst c_71_57 ?_
            exact n_rZ c_71_58 rfl (by omega) ⟨hS12, by omega⟩
    · intro x3 M hS k3 hnn
      refine n_iinc (L2 := [some (2, 38), some (0, 6), some (2, 44), some (0, (x3 + 1))]) c_71_59 rfl rfl rfl (n_goto c_71_62 (n_fg (le_s (le_s (le_s (le_s le_0)))) ?_))
      exact ih.1 _ M hS (by omega) (by omega)
set_option maxHeartbeats 4000000 in
theorem seek6_2 {xs : List Int32} {e : Nat} {ac : Int} {M0 M : nM} (hS : Sf 2 ac M0 M)  : nW xs (e + 6) 71 0 [some (2, 38), some (0, 6), some (2, 44), none] [] M (nPI fun z M1 => Sf 2 ac M0 M1 ∧ (0 ≤ z ∧ z ≤ 1)) := by
  have hd : (2 : Int) = 2 ∨ (2 : Int) = 3 := by decide
  have hac := hS.2.2.2.2
  refine n_iload_n c_71_0 rfl (n_aload_n c_71_1 rfl (n_getV (bi := 6) c_71_2 sc_38.n rfl rfl rfl (t_38_6 hS) ?_))
  intro z1 ez1 f2
  refine n_if2_lt c_71_5 (by omega) (by omega) ?_ ?_
  · intro h3
    refine n_iconst c_71_21 (n_istore_n (L2 := [some (2, 38), some (0, 6), some (2, 44), some (0, 0)]) c_71_22 rfl rfl (n_fg (le_s (le_s (le_s (le_s le_0)))) ?_))
    exact (seek6_2_c hS  30).1 _ M hS (by omega) (by omega)
  · intro h4
    refine n_aload_n c_71_8 rfl (n_aload_n c_71_9 rfl (n_getR c_71_10 sc_38.n rfl rfl rfl r_38_0 (n_aload_n c_71_13 rfl (n_getV (bi := 5) c_71_14 sc_38.n rfl rfl rfl (t_38_5 hS) ?_))))
    intro z5 ez5 f6
    refine n_v2I c_71_17 rfl sc_44.n rfl rfl rfl rfl (suits_2 (t := z5) hS (by omega)) ?_
    intro z7 M8 hP9
    obtain ⟨eM, f9⟩ := hP9
    subst eM
    exact n_rZ c_71_20 rfl (by omega) ⟨hS, by omega⟩

set_option maxHeartbeats 4000000 in
theorem seek5_2_c {xs : List Int32} {e : Nat} {ac : Int} {M0 M : nM} (hS : Sf 2 ac M0 M)  : ∀ nn : Nat, (∀ (x3 : Int) (M : nM), Sf 2 ac M0 M → (0 ≤ x3 ∧ x3 ≤ 3) → (3 - x3) * 2 + 2 < (nn : Int) → nW xs (e + 7) 71 23 [some (2, 38), some (0, 5), some (2, 44), some (0, x3)] [] M (nPI fun z M1 => Sf 2 ac M0 M1 ∧ (0 ≤ z ∧ z ≤ 1))) ∧ (∀ (x3 : Int) (M : nM), Sf 2 ac M0 M → (0 ≤ x3 ∧ x3 ≤ 2) → (3 - x3) * 2 + 1 < (nn : Int) → nW xs (e + 7) 71 59 [some (2, 38), some (0, 5), some (2, 44), some (0, x3)] [] M (nPI fun z M1 => Sf 2 ac M0 M1 ∧ (0 ≤ z ∧ z ≤ 1))) := by
  have hd : (2 : Int) = 2 ∨ (2 : Int) = 3 := by decide
  have hac := hS.2.2.2.2
  intro nn
  induction nn with
  | zero => refine ⟨?_, ?_⟩ <;> (intros; omega)
  | succ nn ih =>
    refine ⟨?_, ?_⟩
    · intro x3 M hS k3 hnn
      refine n_iload_n c_71_23 rfl (n_aload_n c_71_24 rfl (n_getV (bi := 5) c_71_25 sc_38.n rfl rfl rfl (t_38_5 hS) ?_))
      intro z1 ez1 f2
      refine n_if2_ge c_71_28 (by omega) (by omega) ?_ ?_
      · intro h3
        refine n_iconst c_71_65 ?_
        exact n_rZ c_71_66 rfl (by omega) ⟨hS, by omega⟩
      · intro h4
        refine n_aload_n c_71_31 rfl (n_getR c_71_32 sc_38.n rfl rfl rfl r_38_0 (n_iload_n c_71_35 rfl (n_iload_n c_71_36 rfl (n_iastoreV hS c_71_37 sc_39.n rfl (by omega) (w_39 (by omega) (by omega)) ?_))))
        intro M5 eM5 hS5
        have g5_0 : M5 38 5 = M 38 5 := by rw [eM5]; exact nu_a (by omega)
        refine n_aload_n c_71_38 rfl (n_iload_n c_71_39 rfl (n_v1I c_71_40 rfl sc_38.n rfl rfl rfl rfl (fits_2 (l := 5) hS5 (by omega)) ?_))
        intro z6 M7 hP8
        obtain ⟨eM, f8⟩ := hP8
        subst eM
        refine n_if0_eq c_71_43 (by omega) ?_ ?_
        · intro h9
          refine n_fg (le_s (le_s (le_s (le_s le_0)))) ?_
          exact ih.2 _ M5 hS5 (by omega) (by omega)
        · intro h10
          refine n_aload_n c_71_46 rfl (n_iload_n c_71_47 rfl (n_iconst c_71_48 (n_iadd c_71_49 rfl (n_aload_n c_71_50 rfl ?_))))
          have hcst : ((5 + 1) : Int) = 6 := by omega
          rw [hcst]
          refine n_s3I c_71_51 rfl rfl rfl rfl (seek6_2  hS5 ) ?_
          intro z11 M12 hP13
          obtain ⟨hS12, f13⟩ := hP13
          refine n_if0_eq c_71_54 (by omega) ?_ ?_
          · intro h14
            refine n_fg (le_s (le_s (le_s (le_s le_0)))) ?_
            exact ih.2 _ M12 hS12 (by omega) (by omega)
          · intro h15
            refine n_iconst c_71_57 ?_
            exact n_rZ c_71_58 rfl (by omega) ⟨hS12, by omega⟩
    · intro x3 M hS k3 hnn
      refine n_iinc (L2 := [some (2, 38), some (0, 5), some (2, 44), some (0, (x3 + 1))]) c_71_59 rfl rfl rfl (n_goto c_71_62 (n_fg (le_s (le_s (le_s (le_s le_0)))) ?_))
      exact ih.1 _ M hS (by omega) (by omega)
set_option maxHeartbeats 4000000 in
theorem seek5_2 {xs : List Int32} {e : Nat} {ac : Int} {M0 M : nM} (hS : Sf 2 ac M0 M)  : nW xs (e + 7) 71 0 [some (2, 38), some (0, 5), some (2, 44), none] [] M (nPI fun z M1 => Sf 2 ac M0 M1 ∧ (0 ≤ z ∧ z ≤ 1)) := by
  have hd : (2 : Int) = 2 ∨ (2 : Int) = 3 := by decide
  have hac := hS.2.2.2.2
  refine n_iload_n c_71_0 rfl (n_aload_n c_71_1 rfl (n_getV (bi := 6) c_71_2 sc_38.n rfl rfl rfl (t_38_6 hS) ?_))
  intro z1 ez1 f2
  refine n_if2_lt c_71_5 (by omega) (by omega) ?_ ?_
  · intro h3
    refine n_iconst c_71_21 (n_istore_n (L2 := [some (2, 38), some (0, 5), some (2, 44), some (0, 0)]) c_71_22 rfl rfl (n_fg (le_s (le_s (le_s (le_s le_0)))) ?_))
    exact (seek5_2_c hS  30).1 _ M hS (by omega) (by omega)
  · intro h4
    refine n_aload_n c_71_8 rfl (n_aload_n c_71_9 rfl (n_getR c_71_10 sc_38.n rfl rfl rfl r_38_0 (n_aload_n c_71_13 rfl (n_getV (bi := 5) c_71_14 sc_38.n rfl rfl rfl (t_38_5 hS) ?_))))
    intro z5 ez5 f6
    refine n_v2I c_71_17 rfl sc_44.n rfl rfl rfl rfl (suits_2 (t := z5) hS (by omega)) ?_
    intro z7 M8 hP9
    obtain ⟨eM, f9⟩ := hP9
    subst eM
    exact n_rZ c_71_20 rfl (by omega) ⟨hS, by omega⟩

set_option maxHeartbeats 4000000 in
theorem seek4_2_c {xs : List Int32} {e : Nat} {ac : Int} {M0 M : nM} (hS : Sf 2 ac M0 M)  : ∀ nn : Nat, (∀ (x3 : Int) (M : nM), Sf 2 ac M0 M → (0 ≤ x3 ∧ x3 ≤ 3) → (3 - x3) * 2 + 2 < (nn : Int) → nW xs (e + 8) 71 23 [some (2, 38), some (0, 4), some (2, 44), some (0, x3)] [] M (nPI fun z M1 => Sf 2 ac M0 M1 ∧ (0 ≤ z ∧ z ≤ 1))) ∧ (∀ (x3 : Int) (M : nM), Sf 2 ac M0 M → (0 ≤ x3 ∧ x3 ≤ 2) → (3 - x3) * 2 + 1 < (nn : Int) → nW xs (e + 8) 71 59 [some (2, 38), some (0, 4), some (2, 44), some (0, x3)] [] M (nPI fun z M1 => Sf 2 ac M0 M1 ∧ (0 ≤ z ∧ z ≤ 1))) := by
  have hd : (2 : Int) = 2 ∨ (2 : Int) = 3 := by decide
  have hac := hS.2.2.2.2
  intro nn
  induction nn with
  | zero => refine ⟨?_, ?_⟩ <;> (intros; omega)
  | succ nn ih =>
    refine ⟨?_, ?_⟩
    · intro x3 M hS k3 hnn
      refine n_iload_n c_71_23 rfl (n_aload_n c_71_24 rfl (n_getV (bi := 5) c_71_25 sc_38.n rfl rfl rfl (t_38_5 hS) ?_))
      intro z1 ez1 f2
      refine n_if2_ge c_71_28 (by omega) (by omega) ?_ ?_
      · intro h3
        refine n_iconst c_71_65 ?_
        exact n_rZ c_71_66 rfl (by omega) ⟨hS, by omega⟩
      · intro h4
        refine n_aload_n c_71_31 rfl (n_getR c_71_32 sc_38.n rfl rfl rfl r_38_0 (n_iload_n c_71_35 rfl (n_iload_n c_71_36 rfl (n_iastoreV hS c_71_37 sc_39.n rfl (by omega) (w_39 (by omega) (by omega)) ?_))))
        intro M5 eM5 hS5
        have g5_0 : M5 38 5 = M 38 5 := by rw [eM5]; exact nu_a (by omega)
        refine n_aload_n c_71_38 rfl (n_iload_n c_71_39 rfl (n_v1I c_71_40 rfl sc_38.n rfl rfl rfl rfl (fits_2 (l := 4) hS5 (by omega)) ?_))
        intro z6 M7 hP8
        obtain ⟨eM, f8⟩ := hP8
        subst eM
        refine n_if0_eq c_71_43 (by omega) ?_ ?_
        · intro h9
          refine n_fg (le_s (le_s (le_s (le_s le_0)))) ?_
          exact ih.2 _ M5 hS5 (by omega) (by omega)
        · intro h10
          refine n_aload_n c_71_46 rfl (n_iload_n c_71_47 rfl (n_iconst c_71_48 (n_iadd c_71_49 rfl (n_aload_n c_71_50 rfl ?_))))
          have hcst : ((4 + 1) : Int) = 5 := by omega
          rw [hcst]
          refine n_s3I c_71_51 rfl rfl rfl rfl (seek5_2  hS5 ) ?_
          intro z11 M12 hP13
          obtain ⟨hS12, f13⟩ := hP13
          refine n_if0_eq c_71_54 (by omega) ?_ ?_
          · intro h14
            refine n_fg (le_s (le_s (le_s (le_s le_0)))) ?_
            exact ih.2 _ M12 hS12 (by omega) (by omega)
          · intro h15
            refine n_iconst c_71_57 ?_
            exact n_rZ c_71_58 rfl (by omega) ⟨hS12, by omega⟩
    · intro x3 M hS k3 hnn
      refine n_iinc (L2 := [some (2, 38), some (0, 4), some (2, 44), some (0, (x3 + 1))]) c_71_59 rfl rfl rfl (n_goto c_71_62 (n_fg (le_s (le_s (le_s (le_s le_0)))) ?_))
      exact ih.1 _ M hS (by omega) (by omega)
set_option maxHeartbeats 4000000 in
theorem seek4_2 {xs : List Int32} {e : Nat} {ac : Int} {M0 M : nM} (hS : Sf 2 ac M0 M)  : nW xs (e + 8) 71 0 [some (2, 38), some (0, 4), some (2, 44), none] [] M (nPI fun z M1 => Sf 2 ac M0 M1 ∧ (0 ≤ z ∧ z ≤ 1)) := by
  have hd : (2 : Int) = 2 ∨ (2 : Int) = 3 := by decide
  have hac := hS.2.2.2.2
  refine n_iload_n c_71_0 rfl (n_aload_n c_71_1 rfl (n_getV (bi := 6) c_71_2 sc_38.n rfl rfl rfl (t_38_6 hS) ?_))
  intro z1 ez1 f2
  refine n_if2_lt c_71_5 (by omega) (by omega) ?_ ?_
  · intro h3
    refine n_iconst c_71_21 (n_istore_n (L2 := [some (2, 38), some (0, 4), some (2, 44), some (0, 0)]) c_71_22 rfl rfl (n_fg (le_s (le_s (le_s (le_s le_0)))) ?_))
    exact (seek4_2_c hS  30).1 _ M hS (by omega) (by omega)
  · intro h4
    refine n_aload_n c_71_8 rfl (n_aload_n c_71_9 rfl (n_getR c_71_10 sc_38.n rfl rfl rfl r_38_0 (n_aload_n c_71_13 rfl (n_getV (bi := 5) c_71_14 sc_38.n rfl rfl rfl (t_38_5 hS) ?_))))
    intro z5 ez5 f6
    refine n_v2I c_71_17 rfl sc_44.n rfl rfl rfl rfl (suits_2 (t := z5) hS (by omega)) ?_
    intro z7 M8 hP9
    obtain ⟨eM, f9⟩ := hP9
    subst eM
    exact n_rZ c_71_20 rfl (by omega) ⟨hS, by omega⟩

set_option maxHeartbeats 4000000 in
theorem seek3_2_c {xs : List Int32} {e : Nat} {ac : Int} {M0 M : nM} (hS : Sf 2 ac M0 M)  : ∀ nn : Nat, (∀ (x3 : Int) (M : nM), Sf 2 ac M0 M → (0 ≤ x3 ∧ x3 ≤ 3) → (3 - x3) * 2 + 2 < (nn : Int) → nW xs (e + 9) 71 23 [some (2, 38), some (0, 3), some (2, 44), some (0, x3)] [] M (nPI fun z M1 => Sf 2 ac M0 M1 ∧ (0 ≤ z ∧ z ≤ 1))) ∧ (∀ (x3 : Int) (M : nM), Sf 2 ac M0 M → (0 ≤ x3 ∧ x3 ≤ 2) → (3 - x3) * 2 + 1 < (nn : Int) → nW xs (e + 9) 71 59 [some (2, 38), some (0, 3), some (2, 44), some (0, x3)] [] M (nPI fun z M1 => Sf 2 ac M0 M1 ∧ (0 ≤ z ∧ z ≤ 1))) := by
  have hd : (2 : Int) = 2 ∨ (2 : Int) = 3 := by decide
  have hac := hS.2.2.2.2
  intro nn
  induction nn with
  | zero => refine ⟨?_, ?_⟩ <;> (intros; omega)
  | succ nn ih =>
    refine ⟨?_, ?_⟩
    · intro x3 M hS k3 hnn
      refine n_iload_n c_71_23 rfl (n_aload_n c_71_24 rfl (n_getV (bi := 5) c_71_25 sc_38.n rfl rfl rfl (t_38_5 hS) ?_))
      intro z1 ez1 f2
      refine n_if2_ge c_71_28 (by omega) (by omega) ?_ ?_
      · intro h3
        refine n_iconst c_71_65 ?_
        exact n_rZ c_71_66 rfl (by omega) ⟨hS, by omega⟩
      · intro h4
        refine n_aload_n c_71_31 rfl (n_getR c_71_32 sc_38.n rfl rfl rfl r_38_0 (n_iload_n c_71_35 rfl (n_iload_n c_71_36 rfl (n_iastoreV hS c_71_37 sc_39.n rfl (by omega) (w_39 (by omega) (by omega)) ?_))))
        intro M5 eM5 hS5
        have g5_0 : M5 38 5 = M 38 5 := by rw [eM5]; exact nu_a (by omega)
        refine n_aload_n c_71_38 rfl (n_iload_n c_71_39 rfl (n_v1I c_71_40 rfl sc_38.n rfl rfl rfl rfl (fits_2 (l := 3) hS5 (by omega)) ?_))
        intro z6 M7 hP8
        obtain ⟨eM, f8⟩ := hP8
        subst eM
        refine n_if0_eq c_71_43 (by omega) ?_ ?_
        · intro h9
          refine n_fg (le_s (le_s (le_s (le_s le_0)))) ?_
          exact ih.2 _ M5 hS5 (by omega) (by omega)
        · intro h10
          refine n_aload_n c_71_46 rfl (n_iload_n c_71_47 rfl (n_iconst c_71_48 (n_iadd c_71_49 rfl (n_aload_n c_71_50 rfl ?_))))
          have hcst : ((3 + 1) : Int) = 4 := by omega
          rw [hcst]
          refine n_s3I c_71_51 rfl rfl rfl rfl (seek4_2  hS5 ) ?_
          intro z11 M12 hP13
          obtain ⟨hS12, f13⟩ := hP13
          refine n_if0_eq c_71_54 (by omega) ?_ ?_
          · intro h14
            refine n_fg (le_s (le_s (le_s (le_s le_0)))) ?_
            exact ih.2 _ M12 hS12 (by omega) (by omega)
          · intro h15
            refine n_iconst c_71_57 ?_
            exact n_rZ c_71_58 rfl (by omega) ⟨hS12, by omega⟩
    · intro x3 M hS k3 hnn
      refine n_iinc (L2 := [some (2, 38), some (0, 3), some (2, 44), some (0, (x3 + 1))]) c_71_59 rfl rfl rfl (n_goto c_71_62 (n_fg (le_s (le_s (le_s (le_s le_0)))) ?_))
      exact ih.1 _ M hS (by omega) (by omega)
set_option maxHeartbeats 4000000 in
theorem seek3_2 {xs : List Int32} {e : Nat} {ac : Int} {M0 M : nM} (hS : Sf 2 ac M0 M)  : nW xs (e + 9) 71 0 [some (2, 38), some (0, 3), some (2, 44), none] [] M (nPI fun z M1 => Sf 2 ac M0 M1 ∧ (0 ≤ z ∧ z ≤ 1)) := by
  have hd : (2 : Int) = 2 ∨ (2 : Int) = 3 := by decide
  have hac := hS.2.2.2.2
  refine n_iload_n c_71_0 rfl (n_aload_n c_71_1 rfl (n_getV (bi := 6) c_71_2 sc_38.n rfl rfl rfl (t_38_6 hS) ?_))
  intro z1 ez1 f2
  refine n_if2_lt c_71_5 (by omega) (by omega) ?_ ?_
  · intro h3
    refine n_iconst c_71_21 (n_istore_n (L2 := [some (2, 38), some (0, 3), some (2, 44), some (0, 0)]) c_71_22 rfl rfl (n_fg (le_s (le_s (le_s (le_s le_0)))) ?_))
    exact (seek3_2_c hS  30).1 _ M hS (by omega) (by omega)
  · intro h4
    refine n_aload_n c_71_8 rfl (n_aload_n c_71_9 rfl (n_getR c_71_10 sc_38.n rfl rfl rfl r_38_0 (n_aload_n c_71_13 rfl (n_getV (bi := 5) c_71_14 sc_38.n rfl rfl rfl (t_38_5 hS) ?_))))
    intro z5 ez5 f6
    refine n_v2I c_71_17 rfl sc_44.n rfl rfl rfl rfl (suits_2 (t := z5) hS (by omega)) ?_
    intro z7 M8 hP9
    obtain ⟨eM, f9⟩ := hP9
    subst eM
    exact n_rZ c_71_20 rfl (by omega) ⟨hS, by omega⟩

set_option maxHeartbeats 4000000 in
theorem seek2_2_c {xs : List Int32} {e : Nat} {ac : Int} {M0 M : nM} (hS : Sf 2 ac M0 M)  : ∀ nn : Nat, (∀ (x3 : Int) (M : nM), Sf 2 ac M0 M → (0 ≤ x3 ∧ x3 ≤ 3) → (3 - x3) * 2 + 2 < (nn : Int) → nW xs (e + 10) 71 23 [some (2, 38), some (0, 2), some (2, 44), some (0, x3)] [] M (nPI fun z M1 => Sf 2 ac M0 M1 ∧ (0 ≤ z ∧ z ≤ 1))) ∧ (∀ (x3 : Int) (M : nM), Sf 2 ac M0 M → (0 ≤ x3 ∧ x3 ≤ 2) → (3 - x3) * 2 + 1 < (nn : Int) → nW xs (e + 10) 71 59 [some (2, 38), some (0, 2), some (2, 44), some (0, x3)] [] M (nPI fun z M1 => Sf 2 ac M0 M1 ∧ (0 ≤ z ∧ z ≤ 1))) := by
  have hd : (2 : Int) = 2 ∨ (2 : Int) = 3 := by decide
  have hac := hS.2.2.2.2
  intro nn
  induction nn with
  | zero => refine ⟨?_, ?_⟩ <;> (intros; omega)
  | succ nn ih =>
    refine ⟨?_, ?_⟩
    · intro x3 M hS k3 hnn
      refine n_iload_n c_71_23 rfl (n_aload_n c_71_24 rfl (n_getV (bi := 5) c_71_25 sc_38.n rfl rfl rfl (t_38_5 hS) ?_))
      intro z1 ez1 f2
      refine n_if2_ge c_71_28 (by omega) (by omega) ?_ ?_
      · intro h3
        refine n_iconst c_71_65 ?_
        exact n_rZ c_71_66 rfl (by omega) ⟨hS, by omega⟩
      · intro h4
        refine n_aload_n c_71_31 rfl (n_getR c_71_32 sc_38.n rfl rfl rfl r_38_0 (n_iload_n c_71_35 rfl (n_iload_n c_71_36 rfl (n_iastoreV hS c_71_37 sc_39.n rfl (by omega) (w_39 (by omega) (by omega)) ?_))))
        intro M5 eM5 hS5
        have g5_0 : M5 38 5 = M 38 5 := by rw [eM5]; exact nu_a (by omega)
        refine n_aload_n c_71_38 rfl (n_iload_n c_71_39 rfl (n_v1I c_71_40 rfl sc_38.n rfl rfl rfl rfl (fits_2 (l := 2) hS5 (by omega)) ?_))
        intro z6 M7 hP8
        obtain ⟨eM, f8⟩ := hP8
        subst eM
        refine n_if0_eq c_71_43 (by omega) ?_ ?_
        · intro h9
          refine n_fg (le_s (le_s (le_s (le_s le_0)))) ?_
          exact ih.2 _ M5 hS5 (by omega) (by omega)
        · intro h10
          refine n_aload_n c_71_46 rfl (n_iload_n c_71_47 rfl (n_iconst c_71_48 (n_iadd c_71_49 rfl (n_aload_n c_71_50 rfl ?_))))
          have hcst : ((2 + 1) : Int) = 3 := by omega
          rw [hcst]
          refine n_s3I c_71_51 rfl rfl rfl rfl (seek3_2  hS5 ) ?_
          intro z11 M12 hP13
          obtain ⟨hS12, f13⟩ := hP13
          refine n_if0_eq c_71_54 (by omega) ?_ ?_
          · intro h14
            refine n_fg (le_s (le_s (le_s (le_s le_0)))) ?_
            exact ih.2 _ M12 hS12 (by omega) (by omega)
          · intro h15
            refine n_iconst c_71_57 ?_
            exact n_rZ c_71_58 rfl (by omega) ⟨hS12, by omega⟩
    · intro x3 M hS k3 hnn
      refine n_iinc (L2 := [some (2, 38), some (0, 2), some (2, 44), some (0, (x3 + 1))]) c_71_59 rfl rfl rfl (n_goto c_71_62 (n_fg (le_s (le_s (le_s (le_s le_0)))) ?_))
      exact ih.1 _ M hS (by omega) (by omega)
set_option maxHeartbeats 4000000 in
theorem seek2_2 {xs : List Int32} {e : Nat} {ac : Int} {M0 M : nM} (hS : Sf 2 ac M0 M)  : nW xs (e + 10) 71 0 [some (2, 38), some (0, 2), some (2, 44), none] [] M (nPI fun z M1 => Sf 2 ac M0 M1 ∧ (0 ≤ z ∧ z ≤ 1)) := by
  have hd : (2 : Int) = 2 ∨ (2 : Int) = 3 := by decide
  have hac := hS.2.2.2.2
  refine n_iload_n c_71_0 rfl (n_aload_n c_71_1 rfl (n_getV (bi := 6) c_71_2 sc_38.n rfl rfl rfl (t_38_6 hS) ?_))
  intro z1 ez1 f2
  refine n_if2_lt c_71_5 (by omega) (by omega) ?_ ?_
  · intro h3
    refine n_iconst c_71_21 (n_istore_n (L2 := [some (2, 38), some (0, 2), some (2, 44), some (0, 0)]) c_71_22 rfl rfl (n_fg (le_s (le_s (le_s (le_s le_0)))) ?_))
    exact (seek2_2_c hS  30).1 _ M hS (by omega) (by omega)
  · intro h4
    refine n_aload_n c_71_8 rfl (n_aload_n c_71_9 rfl (n_getR c_71_10 sc_38.n rfl rfl rfl r_38_0 (n_aload_n c_71_13 rfl (n_getV (bi := 5) c_71_14 sc_38.n rfl rfl rfl (t_38_5 hS) ?_))))
    intro z5 ez5 f6
    refine n_v2I c_71_17 rfl sc_44.n rfl rfl rfl rfl (suits_2 (t := z5) hS (by omega)) ?_
    intro z7 M8 hP9
    obtain ⟨eM, f9⟩ := hP9
    subst eM
    exact n_rZ c_71_20 rfl (by omega) ⟨hS, by omega⟩

set_option maxHeartbeats 4000000 in
theorem seek1_2_c {xs : List Int32} {e : Nat} {ac : Int} {M0 M : nM} (hS : Sf 2 ac M0 M)  : ∀ nn : Nat, (∀ (x3 : Int) (M : nM), Sf 2 ac M0 M → (0 ≤ x3 ∧ x3 ≤ 3) → (3 - x3) * 2 + 2 < (nn : Int) → nW xs (e + 11) 71 23 [some (2, 38), some (0, 1), some (2, 44), some (0, x3)] [] M (nPI fun z M1 => Sf 2 ac M0 M1 ∧ (0 ≤ z ∧ z ≤ 1))) ∧ (∀ (x3 : Int) (M : nM), Sf 2 ac M0 M → (0 ≤ x3 ∧ x3 ≤ 2) → (3 - x3) * 2 + 1 < (nn : Int) → nW xs (e + 11) 71 59 [some (2, 38), some (0, 1), some (2, 44), some (0, x3)] [] M (nPI fun z M1 => Sf 2 ac M0 M1 ∧ (0 ≤ z ∧ z ≤ 1))) := by
  have hd : (2 : Int) = 2 ∨ (2 : Int) = 3 := by decide
  have hac := hS.2.2.2.2
  intro nn
  induction nn with
  | zero => refine ⟨?_, ?_⟩ <;> (intros; omega)
  | succ nn ih =>
    refine ⟨?_, ?_⟩
    · intro x3 M hS k3 hnn
      refine n_iload_n c_71_23 rfl (n_aload_n c_71_24 rfl (n_getV (bi := 5) c_71_25 sc_38.n rfl rfl rfl (t_38_5 hS) ?_))
      intro z1 ez1 f2
      refine n_if2_ge c_71_28 (by omega) (by omega) ?_ ?_
      · intro h3
        refine n_iconst c_71_65 ?_
        exact n_rZ c_71_66 rfl (by omega) ⟨hS, by omega⟩
      · intro h4
        refine n_aload_n c_71_31 rfl (n_getR c_71_32 sc_38.n rfl rfl rfl r_38_0 (n_iload_n c_71_35 rfl (n_iload_n c_71_36 rfl (n_iastoreV hS c_71_37 sc_39.n rfl (by omega) (w_39 (by omega) (by omega)) ?_))))
        intro M5 eM5 hS5
        have g5_0 : M5 38 5 = M 38 5 := by rw [eM5]; exact nu_a (by omega)
        refine n_aload_n c_71_38 rfl (n_iload_n c_71_39 rfl (n_v1I c_71_40 rfl sc_38.n rfl rfl rfl rfl (fits_2 (l := 1) hS5 (by omega)) ?_))
        intro z6 M7 hP8
        obtain ⟨eM, f8⟩ := hP8
        subst eM
        refine n_if0_eq c_71_43 (by omega) ?_ ?_
        · intro h9
          refine n_fg (le_s (le_s (le_s (le_s le_0)))) ?_
          exact ih.2 _ M5 hS5 (by omega) (by omega)
        · intro h10
          refine n_aload_n c_71_46 rfl (n_iload_n c_71_47 rfl (n_iconst c_71_48 (n_iadd c_71_49 rfl (n_aload_n c_71_50 rfl ?_))))
          have hcst : ((1 + 1) : Int) = 2 := by omega
          rw [hcst]
          refine n_s3I c_71_51 rfl rfl rfl rfl (seek2_2  hS5 ) ?_
          intro z11 M12 hP13
          obtain ⟨hS12, f13⟩ := hP13
          refine n_if0_eq c_71_54 (by omega) ?_ ?_
          · intro h14
            refine n_fg (le_s (le_s (le_s (le_s le_0)))) ?_
            exact ih.2 _ M12 hS12 (by omega) (by omega)
          · intro h15
            refine n_iconst c_71_57 ?_
            exact n_rZ c_71_58 rfl (by omega) ⟨hS12, by omega⟩
    · intro x3 M hS k3 hnn
      refine n_iinc (L2 := [some (2, 38), some (0, 1), some (2, 44), some (0, (x3 + 1))]) c_71_59 rfl rfl rfl (n_goto c_71_62 (n_fg (le_s (le_s (le_s (le_s le_0)))) ?_))
      exact ih.1 _ M hS (by omega) (by omega)
set_option maxHeartbeats 4000000 in
theorem seek1_2 {xs : List Int32} {e : Nat} {ac : Int} {M0 M : nM} (hS : Sf 2 ac M0 M)  : nW xs (e + 11) 71 0 [some (2, 38), some (0, 1), some (2, 44), none] [] M (nPI fun z M1 => Sf 2 ac M0 M1 ∧ (0 ≤ z ∧ z ≤ 1)) := by
  have hd : (2 : Int) = 2 ∨ (2 : Int) = 3 := by decide
  have hac := hS.2.2.2.2
  refine n_iload_n c_71_0 rfl (n_aload_n c_71_1 rfl (n_getV (bi := 6) c_71_2 sc_38.n rfl rfl rfl (t_38_6 hS) ?_))
  intro z1 ez1 f2
  refine n_if2_lt c_71_5 (by omega) (by omega) ?_ ?_
  · intro h3
    refine n_iconst c_71_21 (n_istore_n (L2 := [some (2, 38), some (0, 1), some (2, 44), some (0, 0)]) c_71_22 rfl rfl (n_fg (le_s (le_s (le_s (le_s le_0)))) ?_))
    exact (seek1_2_c hS  30).1 _ M hS (by omega) (by omega)
  · intro h4
    refine n_aload_n c_71_8 rfl (n_aload_n c_71_9 rfl (n_getR c_71_10 sc_38.n rfl rfl rfl r_38_0 (n_aload_n c_71_13 rfl (n_getV (bi := 5) c_71_14 sc_38.n rfl rfl rfl (t_38_5 hS) ?_))))
    intro z5 ez5 f6
    refine n_v2I c_71_17 rfl sc_44.n rfl rfl rfl rfl (suits_2 (t := z5) hS (by omega)) ?_
    intro z7 M8 hP9
    obtain ⟨eM, f9⟩ := hP9
    subst eM
    exact n_rZ c_71_20 rfl (by omega) ⟨hS, by omega⟩

set_option maxHeartbeats 4000000 in
theorem seek0_2_c {xs : List Int32} {e : Nat} {ac : Int} {M0 M : nM} (hS : Sf 2 ac M0 M)  : ∀ nn : Nat, (∀ (x3 : Int) (M : nM), Sf 2 ac M0 M → (0 ≤ x3 ∧ x3 ≤ 3) → (3 - x3) * 2 + 2 < (nn : Int) → nW xs (e + 12) 71 23 [some (2, 38), some (0, 0), some (2, 44), some (0, x3)] [] M (nPI fun z M1 => Sf 2 ac M0 M1 ∧ (0 ≤ z ∧ z ≤ 1))) ∧ (∀ (x3 : Int) (M : nM), Sf 2 ac M0 M → (0 ≤ x3 ∧ x3 ≤ 2) → (3 - x3) * 2 + 1 < (nn : Int) → nW xs (e + 12) 71 59 [some (2, 38), some (0, 0), some (2, 44), some (0, x3)] [] M (nPI fun z M1 => Sf 2 ac M0 M1 ∧ (0 ≤ z ∧ z ≤ 1))) := by
  have hd : (2 : Int) = 2 ∨ (2 : Int) = 3 := by decide
  have hac := hS.2.2.2.2
  intro nn
  induction nn with
  | zero => refine ⟨?_, ?_⟩ <;> (intros; omega)
  | succ nn ih =>
    refine ⟨?_, ?_⟩
    · intro x3 M hS k3 hnn
      refine n_iload_n c_71_23 rfl (n_aload_n c_71_24 rfl (n_getV (bi := 5) c_71_25 sc_38.n rfl rfl rfl (t_38_5 hS) ?_))
      intro z1 ez1 f2
      refine n_if2_ge c_71_28 (by omega) (by omega) ?_ ?_
      · intro h3
        refine n_iconst c_71_65 ?_
        exact n_rZ c_71_66 rfl (by omega) ⟨hS, by omega⟩
      · intro h4
        refine n_aload_n c_71_31 rfl (n_getR c_71_32 sc_38.n rfl rfl rfl r_38_0 (n_iload_n c_71_35 rfl (n_iload_n c_71_36 rfl (n_iastoreV hS c_71_37 sc_39.n rfl (by omega) (w_39 (by omega) (by omega)) ?_))))
        intro M5 eM5 hS5
        have g5_0 : M5 38 5 = M 38 5 := by rw [eM5]; exact nu_a (by omega)
        refine n_aload_n c_71_38 rfl (n_iload_n c_71_39 rfl (n_v1I c_71_40 rfl sc_38.n rfl rfl rfl rfl (fits_2 (l := 0) hS5 (by omega)) ?_))
        intro z6 M7 hP8
        obtain ⟨eM, f8⟩ := hP8
        subst eM
        refine n_if0_eq c_71_43 (by omega) ?_ ?_
        · intro h9
          refine n_fg (le_s (le_s (le_s (le_s le_0)))) ?_
          exact ih.2 _ M5 hS5 (by omega) (by omega)
        · intro h10
          refine n_aload_n c_71_46 rfl (n_iload_n c_71_47 rfl (n_iconst c_71_48 (n_iadd c_71_49 rfl (n_aload_n c_71_50 rfl ?_))))
          have hcst : ((0 + 1) : Int) = 1 := by omega
          rw [hcst]
          refine n_s3I c_71_51 rfl rfl rfl rfl (seek1_2  hS5 ) ?_
          intro z11 M12 hP13
          obtain ⟨hS12, f13⟩ := hP13
          refine n_if0_eq c_71_54 (by omega) ?_ ?_
          · intro h14
            refine n_fg (le_s (le_s (le_s (le_s le_0)))) ?_
            exact ih.2 _ M12 hS12 (by omega) (by omega)
          · intro h15
            refine n_iconst c_71_57 ?_
            exact n_rZ c_71_58 rfl (by omega) ⟨hS12, by omega⟩
    · intro x3 M hS k3 hnn
      refine n_iinc (L2 := [some (2, 38), some (0, 0), some (2, 44), some (0, (x3 + 1))]) c_71_59 rfl rfl rfl (n_goto c_71_62 (n_fg (le_s (le_s (le_s (le_s le_0)))) ?_))
      exact ih.1 _ M hS (by omega) (by omega)
set_option maxHeartbeats 4000000 in
theorem seek0_2 {xs : List Int32} {e : Nat} {ac : Int} {M0 M : nM} (hS : Sf 2 ac M0 M)  : nW xs (e + 12) 71 0 [some (2, 38), some (0, 0), some (2, 44), none] [] M (nPI fun z M1 => Sf 2 ac M0 M1 ∧ (0 ≤ z ∧ z ≤ 1)) := by
  have hd : (2 : Int) = 2 ∨ (2 : Int) = 3 := by decide
  have hac := hS.2.2.2.2
  refine n_iload_n c_71_0 rfl (n_aload_n c_71_1 rfl (n_getV (bi := 6) c_71_2 sc_38.n rfl rfl rfl (t_38_6 hS) ?_))
  intro z1 ez1 f2
  refine n_if2_lt c_71_5 (by omega) (by omega) ?_ ?_
  · intro h3
    refine n_iconst c_71_21 (n_istore_n (L2 := [some (2, 38), some (0, 0), some (2, 44), some (0, 0)]) c_71_22 rfl rfl (n_fg (le_s (le_s (le_s (le_s le_0)))) ?_))
    exact (seek0_2_c hS  30).1 _ M hS (by omega) (by omega)
  · intro h4
    refine n_aload_n c_71_8 rfl (n_aload_n c_71_9 rfl (n_getR c_71_10 sc_38.n rfl rfl rfl r_38_0 (n_aload_n c_71_13 rfl (n_getV (bi := 5) c_71_14 sc_38.n rfl rfl rfl (t_38_5 hS) ?_))))
    intro z5 ez5 f6
    refine n_v2I c_71_17 rfl sc_44.n rfl rfl rfl rfl (suits_2 (t := z5) hS (by omega)) ?_
    intro z7 M8 hP9
    obtain ⟨eM, f9⟩ := hP9
    subst eM
    exact n_rZ c_71_20 rfl (by omega) ⟨hS, by omega⟩

set_option maxHeartbeats 4000000 in
theorem seek_2 {xs : List Int32} {e : Nat} {ac : Int} {M0 M : nM} {k : Int} (hS : Sf 2 ac M0 M) (hk : 0 ≤ k ∧ k ≤ 3) : nW xs (e + 13) 71 0 [some (2, 38), some (0, k), some (2, 44), none] [] M (nPI fun z M1 => Sf 2 ac M0 M1 ∧ (0 ≤ z ∧ z ≤ 1)) := by
  rcases (show k = 0 ∨ k = 1 ∨ k = 2 ∨ k = 3 by omega) with rfl | rfl | rfl | rfl
  · exact n_post (seek0_2 hS ) (fun w M1 h => by obtain ⟨z, rfl, h1, h2⟩ := h; exact ⟨z, rfl, h1, by omega⟩)
  · exact n_post (seek1_2 hS ) (fun w M1 h => by obtain ⟨z, rfl, h1, h2⟩ := h; exact ⟨z, rfl, h1, by omega⟩)
  · exact n_post (seek2_2 hS ) (fun w M1 h => by obtain ⟨z, rfl, h1, h2⟩ := h; exact ⟨z, rfl, h1, by omega⟩)
  · exact n_post (seek3_2 hS ) (fun w M1 h => by obtain ⟨z, rfl, h1, h2⟩ := h; exact ⟨z, rfl, h1, by omega⟩)

set_option maxHeartbeats 4000000 in
theorem findFirst_2_c {xs : List Int32} {e : Nat} {ac : Int} {M0 M : nM} (hS : Sf 2 ac M0 M)  : ∀ nn : Nat, (∀ (x2 : Int) (M : nM), Sf 2 ac M0 M → (0 ≤ x2 ∧ x2 ≤ 3) → (3 - x2) * 1 + 1 < (nn : Int) → nW xs (e + 15) 69 2 [some (2, 38), some (2, 44), some (0, x2)] [] M (nPI fun z M1 => Sf 2 ac M0 M1 ∧ (0 ≤ z ∧ z ≤ 1))) := by
  have hd : (2 : Int) = 2 ∨ (2 : Int) = 3 := by decide
  have hac := hS.2.2.2.2
  intro nn
  induction nn with
  | zero => intros; omega
  | succ nn ih =>
    intro x2 M hS k2 hnn
    refine n_iload_n c_69_2 rfl (n_aload_n c_69_3 rfl (n_getV (bi := 1) c_69_4 sc_44.n rfl rfl rfl (t_44_1 hS) ?_))
    intro z1 ez1 f2
    refine n_if2_ge c_69_7 (by omega) (by omega) ?_ ?_
    · intro h3
      refine n_aload_n c_69_33 rfl (n_aload_n c_69_34 rfl (n_getV (bi := 1) c_69_35 sc_44.n rfl rfl rfl (t_44_1 hS) ?_))
      intro z4 ez4 f5
      refine n_aload_n c_69_38 rfl (n_s3I c_69_39 rfl rfl rfl rfl (seek_2 (k := z4) hS (by omega)) ?_)
      intro z6 M7 hP8
      obtain ⟨hS7, f8⟩ := hP8
      exact n_rZ c_69_42 rfl (by omega) ⟨hS7, by omega⟩
    · intro h9
      refine n_aload_n c_69_10 rfl (n_getR c_69_11 sc_38.n rfl rfl rfl r_38_0 (n_iload_n c_69_14 rfl (n_iload_n c_69_15 rfl (n_iastoreV hS c_69_16 sc_39.n rfl (by omega) (w_39 (by omega) (by omega)) ?_))))
      intro M10 eM10 hS10
      have g10_0 : M10 44 1 = M 44 1 := by rw [eM10]; exact nu_a (by omega)
      refine n_aload_n c_69_17 rfl (n_iload_n c_69_18 rfl (n_v1I c_69_19 rfl sc_38.n rfl rfl rfl rfl (fits_2 (l := x2) hS10 (by omega)) ?_))
      intro z11 M12 hP13
      obtain ⟨eM, f13⟩ := hP13
      subst eM
      refine n_if0_ne c_69_22 (by omega) ?_ ?_
      · intro h14
        refine n_iinc (L2 := [some (2, 38), some (2, 44), some (0, (x2 + 1))]) c_69_27 rfl rfl rfl (n_goto c_69_30 (n_fg (le_s (le_s (le_s le_0))) ?_))
        exact ih _ M10 hS10 (by omega) (by omega)
      · intro h15
        refine n_iconst c_69_25 ?_
        exact n_rZ c_69_26 rfl (by omega) ⟨hS10, by omega⟩
set_option maxHeartbeats 4000000 in
theorem findFirst_2 {xs : List Int32} {e : Nat} {ac : Int} {M0 M : nM} (hS : Sf 2 ac M0 M)  : nW xs (e + 15) 69 0 [some (2, 38), some (2, 44), none] [] M (nPI fun z M1 => Sf 2 ac M0 M1 ∧ (0 ≤ z ∧ z ≤ 1)) := by
  have hd : (2 : Int) = 2 ∨ (2 : Int) = 3 := by decide
  have hac := hS.2.2.2.2
  refine n_iconst c_69_0 (n_istore_n (L2 := [some (2, 38), some (2, 44), some (0, 0)]) c_69_1 rfl rfl (n_fg (le_s (le_s (le_s le_0))) ?_))
  exact (findFirst_2_c hS  20) _ M hS (by omega) (by omega)

set_option maxHeartbeats 4000000 in
theorem isAct_2_c {xs : List Int32} {e : Nat} {ac : Int} {M0 M : nM} {a : Int} (hS : Sf 2 ac M0 M) (ha : -2147483648 ≤ a ∧ a ≤ 2147483647) : ∀ nn : Nat, (1 < (nn : Int) → nW xs e 125 16 [none, none] [] M (nPI fun z M1 => M = M1 ∧ (0 ≤ z ∧ z ≤ 1) ∧ (z = 0 ∨ (0 ≤ a ∧ a < ac)))) := by
  have hd : (2 : Int) = 2 ∨ (2 : Int) = 3 := by decide
  have hac := hS.2.2.2.2
  intro nn
  induction nn with
  | zero => intros; omega
  | succ nn ih =>
    intro hnn
    refine n_iconst c_125_16 ?_
    exact n_rZ c_125_17 rfl (by omega) ⟨rfl, by omega, by omega⟩
set_option maxHeartbeats 4000000 in
theorem isAct_2 {xs : List Int32} {e : Nat} {ac : Int} {M0 M : nM} {a : Int} (hS : Sf 2 ac M0 M) (ha : -2147483648 ≤ a ∧ a ≤ 2147483647) : nW xs e 125 0 [some (2, 3), some (0, a)] [] M (nPI fun z M1 => M = M1 ∧ (0 ≤ z ∧ z ≤ 1) ∧ (z = 0 ∨ (0 ≤ a ∧ a < ac))) := by
  have hd : (2 : Int) = 2 ∨ (2 : Int) = 3 := by decide
  have hac := hS.2.2.2.2
  refine n_iload_n c_125_0 rfl ?_
  refine n_if0_lt c_125_1 (by omega) ?_ ?_
  · intro h1
    refine n_fg (le_n (le_n le_0)) ?_
    exact (isAct_2_c hS ha 12)   (by omega)
  · intro h2
    refine n_iload_n c_125_4 rfl (n_aload_n c_125_5 rfl (n_getV (bi := 14) c_125_6 sc_3.n rfl rfl rfl (t_3_14x hS) ?_))
    intro z3 ez3 f4
    have f4a := t_ac hS
    refine n_if2_ge c_125_9 (by omega) (by omega) ?_ ?_
    · intro h5
      refine n_fg (le_n (le_n le_0)) ?_
      exact (isAct_2_c hS ha 12)   (by omega)
    · intro h6
      refine n_iconst c_125_12 (n_goto c_125_13 ?_)
      exact n_rZ c_125_17 rfl (by omega) ⟨rfl, by omega, by omega⟩

set_option maxHeartbeats 4000000 in
theorem isLaw_2_c {xs : List Int32} {e : Nat} {ac : Int} {M0 M : nM} {l : Int} (hS : Sf 2 ac M0 M) (hl : -2147483648 ≤ l ∧ l ≤ 2147483647) : ∀ nn : Nat, (1 < (nn : Int) → nW xs e 126 16 [none, none] [] M (nPI fun z M1 => M = M1 ∧ (0 ≤ z ∧ z ≤ 1) ∧ (z = 0 ∨ (0 ≤ l ∧ l ≤ 11)))) := by
  have hd : (2 : Int) = 2 ∨ (2 : Int) = 3 := by decide
  have hac := hS.2.2.2.2
  intro nn
  induction nn with
  | zero => intros; omega
  | succ nn ih =>
    intro hnn
    refine n_iconst c_126_16 ?_
    exact n_rZ c_126_17 rfl (by omega) ⟨rfl, by omega, by omega⟩
set_option maxHeartbeats 4000000 in
theorem isLaw_2 {xs : List Int32} {e : Nat} {ac : Int} {M0 M : nM} {l : Int} (hS : Sf 2 ac M0 M) (hl : -2147483648 ≤ l ∧ l ≤ 2147483647) : nW xs e 126 0 [some (2, 3), some (0, l)] [] M (nPI fun z M1 => M = M1 ∧ (0 ≤ z ∧ z ≤ 1) ∧ (z = 0 ∨ (0 ≤ l ∧ l ≤ 11))) := by
  have hd : (2 : Int) = 2 ∨ (2 : Int) = 3 := by decide
  have hac := hS.2.2.2.2
  refine n_iload_n c_126_0 rfl ?_
  refine n_if0_lt c_126_1 (by omega) ?_ ?_
  · intro h1
    refine n_fg (le_n (le_n le_0)) ?_
    exact (isLaw_2_c hS hl 12)   (by omega)
  · intro h2
    refine n_iload_n c_126_4 rfl (n_aload_n c_126_5 rfl (n_getV (bi := 15) c_126_6 sc_3.n rfl rfl rfl (t_3_15 hS) ?_))
    intro z3 ez3 f4
    refine n_if2_ge c_126_9 (by omega) (by omega) ?_ ?_
    · intro h5
      refine n_fg (le_n (le_n le_0)) ?_
      exact (isLaw_2_c hS hl 12)   (by omega)
    · intro h6
      refine n_iconst c_126_12 (n_goto c_126_13 ?_)
      exact n_rZ c_126_17 rfl (by omega) ⟨rfl, by omega, by omega⟩

set_option maxHeartbeats 4000000 in
theorem isPlaceCount_2_c {xs : List Int32} {e : Nat} {ac : Int} {M0 M : nM} {k : Int} (hS : Sf 2 ac M0 M) (hk : -2147483648 ≤ k ∧ k ≤ 2147483647) : ∀ nn : Nat, (1 < (nn : Int) → nW xs e 124 14 [none, none] [] M (nPI fun z M1 => M = M1 ∧ (0 ≤ z ∧ z ≤ 1) ∧ (z = 0 ∨ (1 ≤ k ∧ k ≤ 3)))) := by
  have hd : (2 : Int) = 2 ∨ (2 : Int) = 3 := by decide
  have hac := hS.2.2.2.2
  intro nn
  induction nn with
  | zero => intros; omega
  | succ nn ih =>
    intro hnn
    refine n_iconst c_124_14 ?_
    exact n_rZ c_124_15 rfl (by omega) ⟨rfl, by omega, by omega⟩
set_option maxHeartbeats 4000000 in
theorem isPlaceCount_2 {xs : List Int32} {e : Nat} {ac : Int} {M0 M : nM} {k : Int} (hS : Sf 2 ac M0 M) (hk : -2147483648 ≤ k ∧ k ≤ 2147483647) : nW xs e 124 0 [some (2, 3), some (0, k)] [] M (nPI fun z M1 => M = M1 ∧ (0 ≤ z ∧ z ≤ 1) ∧ (z = 0 ∨ (1 ≤ k ∧ k ≤ 3))) := by
  have hd : (2 : Int) = 2 ∨ (2 : Int) = 3 := by decide
  have hac := hS.2.2.2.2
  refine n_iload_n c_124_0 rfl (n_iconst c_124_1 ?_)
  refine n_if2_lt c_124_2 (by omega) (by omega) ?_ ?_
  · intro h1
    refine n_fg (le_n (le_n le_0)) ?_
    exact (isPlaceCount_2_c hS hk 12)   (by omega)
  · intro h2
    refine n_iload_n c_124_5 rfl (n_iconst c_124_6 ?_)
    refine n_if2_gt c_124_7 (by omega) (by omega) ?_ ?_
    · intro h3
      refine n_fg (le_n (le_n le_0)) ?_
      exact (isPlaceCount_2_c hS hk 12)   (by omega)
    · intro h4
      refine n_iconst c_124_10 (n_goto c_124_11 ?_)
      exact n_rZ c_124_15 rfl (by omega) ⟨rfl, by omega, by omega⟩

set_option maxHeartbeats 4000000 in
theorem forgetMade_2_c {xs : List Int32} {e : Nat} {ac : Int} {M0 M : nM} (hS : Sf 2 ac M0 M)  : ∀ nn : Nat, (∀ (x1 : Int) (M : nM), Sf 2 ac M0 M → (0 ≤ x1 ∧ x1 ≤ 3) → (3 - x1) * 1 + 1 < (nn : Int) → nW xs e 123 2 [some (2, 3), some (0, x1)] [] M (nPV fun M1 => Sf 2 ac M0 M1)) := by
  have hd : (2 : Int) = 2 ∨ (2 : Int) = 3 := by decide
  have hac := hS.2.2.2.2
  intro nn
  induction nn with
  | zero => intros; omega
  | succ nn ih =>
    intro x1 M hS k1 hnn
    refine n_iload_n c_123_2 rfl (n_iconst c_123_3 ?_)
    refine n_if2_ge c_123_4 (by omega) (by omega) ?_ ?_
    · intro h1
      exact n_rV c_123_23 rfl hS
    · intro h2
      refine n_aload_n c_123_7 rfl (n_getR c_123_8 sc_3.n rfl rfl rfl r_3_4 (n_iload_n c_123_11 rfl (n_aaload c_123_12 sc_14.n rfl rfl rfl (by omega) (r_made _) ?_)))
      have q3 : MadeAt (103 + 3 * x1) := by unfold MadeAt; omega
      refine n_iconst c_123_13 (n_putZV (bi := 0) hS c_123_14 q3.c0.1.n rfl rfl rfl (by omega) rfl (w_made q3 (by omega) (by omega)) ?_)
      intro M4 eM4 hS4
      have g4_0 : M4 (103 + 3 * x1) 0 = 0 := by rw [eM4]; exact nu_s _ _ _ _
      refine n_iinc (L2 := [some (2, 3), some (0, (x1 + 1))]) c_123_17 rfl rfl rfl (n_goto c_123_20 (n_fg (le_s (le_s le_0)) ?_))
      exact ih _ M4 hS4 (by omega) (by omega)
set_option maxHeartbeats 4000000 in
theorem forgetMade_2 {xs : List Int32} {e : Nat} {ac : Int} {M0 M : nM} (hS : Sf 2 ac M0 M)  : nW xs e 123 0 [some (2, 3), none] [] M (nPV fun M1 => Sf 2 ac M0 M1) := by
  have hd : (2 : Int) = 2 ∨ (2 : Int) = 3 := by decide
  have hac := hS.2.2.2.2
  refine n_iconst c_123_0 (n_istore_n (L2 := [some (2, 3), some (0, 0)]) c_123_1 rfl rfl (n_fg (le_s (le_s le_0)) ?_))
  exact (forgetMade_2_c hS  20) _ M hS (by omega) (by omega)

set_option maxHeartbeats 4000000 in
theorem at_2_c {xs : List Int32} {e : Nat} {ac : Int} {M0 M : nM} {a r : Int} (hS : Sf 2 ac M0 M) (ha : -2147483648 ≤ a ∧ a ≤ 2147483647) (hr : -2147483648 ≤ r ∧ r ≤ 2147483647) : ∀ nn : Nat, (1 < (nn : Int) → nW xs (e + 1) 99 25 [none, none, none] [] M (nPI fun z M1 => M = M1 ∧ (-2147483648 ≤ z ∧ z ≤ 2147483647))) := by
  have hd : (2 : Int) = 2 ∨ (2 : Int) = 3 := by decide
  have hac := hS.2.2.2.2
  intro nn
  induction nn with
  | zero => intros; omega
  | succ nn ih =>
    intro hnn
    refine n_iconst c_99_25 ?_
    exact n_rI c_99_26 rfl ⟨rfl, by omega⟩
set_option maxHeartbeats 4000000 in
theorem at_2 {xs : List Int32} {e : Nat} {ac : Int} {M0 M : nM} {a r : Int} (hS : Sf 2 ac M0 M) (ha : -2147483648 ≤ a ∧ a ≤ 2147483647) (hr : -2147483648 ≤ r ∧ r ≤ 2147483647) : nW xs (e + 1) 99 0 [some (2, 3), some (0, a), some (0, r)] [] M (nPI fun z M1 => M = M1 ∧ (-2147483648 ≤ z ∧ z ≤ 2147483647)) := by
  have hd : (2 : Int) = 2 ∨ (2 : Int) = 3 := by decide
  have hac := hS.2.2.2.2
  refine n_aload_n c_99_0 rfl (n_iload_n c_99_1 rfl (n_v1I c_99_2 rfl sc_3.n rfl rfl rfl rfl (isAct_2 (a := a) hS (by omega)) ?_))
  intro z1 M2 hP3
  obtain ⟨eM, f3, f3p0⟩ := hP3
  subst eM
  refine n_if0_eq c_99_5 (by omega) ?_ ?_
  · intro h4
    refine n_fg (le_n (le_n (le_n le_0))) ?_
    exact (at_2_c hS ha hr 12)   (by omega)
  · intro h5
    refine n_iload_n c_99_8 rfl ?_
    refine n_if0_lt c_99_9 (by omega) ?_ ?_
    · intro h6
      refine n_fg (le_n (le_n (le_n le_0))) ?_
      exact (at_2_c hS ha hr 12)   (by omega)
    · intro h7
      refine n_iload_n c_99_12 rfl (n_aload_n c_99_13 rfl (n_getR c_99_14 sc_3.n rfl rfl rfl r_3_2 (n_iload_n c_99_17 rfl (n_aaload c_99_18 sc_12.n rfl rfl rfl (by omega) (r_acts _) ?_))))
      have q8 : ActAt (55 + 3 * a) := by unfold ActAt; omega
      have q8l : (55 + 3 * a) < 55 + 3 * ac := by omega
      refine n_getV (bi := 1) c_99_19 q8.c0.1.n rfl rfl rfl (t_actl hS q8 q8l).2 ?_
      intro z9 ez9 f10
      refine n_if2_lt c_99_22 (by omega) (by omega) ?_ ?_
      · intro h11
        refine n_aload_n c_99_27 rfl (n_getR c_99_28 sc_3.n rfl rfl rfl r_3_2 (n_iload_n c_99_31 rfl (n_aaload c_99_32 sc_12.n rfl rfl rfl (by omega) (r_acts _) ?_)))
        have q12 : ActAt (55 + 3 * a) := by unfold ActAt; omega
        have q12l : (55 + 3 * a) < 55 + 3 * ac := by omega
        refine n_getR c_99_33 q12.c0.1.n rfl rfl rfl q12.r.1 (n_iload_n c_99_36 rfl (n_ialoadV c_99_37 q12.c0.2.1.n rfl rfl rfl (by omega) (t_actrl hS q12 q12l (Or.inl rfl) (by omega) (by omega)) ?_))
        intro z13 ez13 f14
        exact n_rI c_99_38 rfl ⟨rfl, by omega⟩
      · intro h15
        refine n_fg (le_n (le_n (le_n le_0))) ?_
        exact (at_2_c hS ha hr 12)   (by omega)

set_option maxHeartbeats 4000000 in
theorem lawOf_2 {xs : List Int32} {e : Nat} {ac : Int} {M0 M : nM} {l : Int} (hS : Sf 2 ac M0 M) (hl : -2147483648 ≤ l ∧ l ≤ 2147483647) : nW xs (e + 1) 100 0 [some (2, 3), some (0, l)] [] M (nPJ fun z M1 => M = M1 ∧ (-9223372036854775808 ≤ z ∧ z ≤ 9223372036854775807)) := by
  have hd : (2 : Int) = 2 ∨ (2 : Int) = 3 := by decide
  have hac := hS.2.2.2.2
  refine n_aload_n c_100_0 rfl (n_iload_n c_100_1 rfl (n_v1I c_100_2 rfl sc_3.n rfl rfl rfl rfl (isLaw_2 (l := l) hS (by omega)) ?_))
  intro z1 M2 hP3
  obtain ⟨eM, f3, f3p0⟩ := hP3
  subst eM
  refine n_if0_eq c_100_5 (by omega) ?_ ?_
  · intro h4
    refine n_ldc2 (n := (-1)) c_100_21 rfl ?_
    exact n_rJ c_100_24 rfl ⟨rfl, by omega⟩
  · intro h5
    refine n_aload_n c_100_8 rfl (n_getR c_100_9 sc_3.n rfl rfl rfl r_3_3 (n_iload_n c_100_12 rfl (n_aaload c_100_13 sc_13.n rfl rfl rfl (by omega) (r_laws _) ?_)))
    have q6 : LawAt (79 + 2 * l) := by unfold LawAt; omega
    refine n_getV (bi := 1) c_100_14 q6.c0.1.n rfl rfl rfl (t_law hS q6).2.1 ?_
    intro z7 ez7 f8
    refine n_i2l c_100_17 (by omega) ?_
    refine n_goto c_100_18 ?_
    exact n_rJ c_100_24 rfl ⟨rfl, by omega⟩

/-! The methods, by program. -/
set_option maxHeartbeats 4000000 in
theorem keeps_2_c {xs : List Int32} {e : Nat} {ac : Int} {M0 M : nM} {a l : Int} (hS : Sf 2 ac M0 M) (ha : -2147483648 ≤ a ∧ a ≤ 2147483647) (hl : -2147483648 ≤ l ∧ l ≤ 2147483647) : ∀ nn : Nat, (∀ (M : nM), Sf 2 ac M0 M → 1 < (nn : Int) → nW xs (e + 3) 101 16 [none, none, none] [] M (nPI fun z M1 => Sf 2 ac M0 M1 ∧ (-2147483648 ≤ z ∧ z ≤ 2147483647))) := by
  have hd : (2 : Int) = 2 ∨ (2 : Int) = 3 := by decide
  have hac := hS.2.2.2.2
  intro nn
  induction nn with
  | zero => intros; omega
  | succ nn ih =>
    intro M hS hnn
    refine n_iconst c_101_16 ?_
    exact n_rI c_101_17 rfl ⟨hS, by omega⟩
set_option maxHeartbeats 4000000 in
theorem keeps_2 {xs : List Int32} {e : Nat} {ac : Int} {M0 M : nM} {a l : Int} (hS : Sf 2 ac M0 M) (ha : -2147483648 ≤ a ∧ a ≤ 2147483647) (hl : -2147483648 ≤ l ∧ l ≤ 2147483647) : nW xs (e + 3) 101 0 [some (2, 3), some (0, a), some (0, l)] [] M (nPI fun z M1 => Sf 2 ac M0 M1 ∧ (-2147483648 ≤ z ∧ z ≤ 2147483647)) := by
  have hd : (2 : Int) = 2 ∨ (2 : Int) = 3 := by decide
  have hac := hS.2.2.2.2
  refine n_aload_n c_101_0 rfl (n_iload_n c_101_1 rfl (n_v1I c_101_2 rfl sc_3.n rfl rfl rfl rfl (isAct_2 (a := a) hS (by omega)) ?_))
  intro z1 M2 hP3
  obtain ⟨eM, f3, f3p0⟩ := hP3
  subst eM
  refine n_if0_eq c_101_5 (by omega) ?_ ?_
  · intro h4
    refine n_fg (le_n (le_n (le_n le_0))) ?_
    exact (keeps_2_c hS ha hl 12)  M hS  (by omega)
  · intro h5
    refine n_aload_n c_101_8 rfl (n_iload_n c_101_9 rfl (n_v1I c_101_10 rfl sc_3.n rfl rfl rfl rfl (isLaw_2 (l := l) hS (by omega)) ?_))
    intro z6 M7 hP8
    obtain ⟨eM, f8, f8p0⟩ := hP8
    subst eM
    refine n_if0_ne c_101_13 (by omega) ?_ ?_
    · intro h9
      refine n_aload_n c_101_18 rfl (n_getR c_101_19 sc_3.n rfl rfl rfl r_3_3 (n_iload_n c_101_22 rfl (n_aaload c_101_23 sc_13.n rfl rfl rfl (by omega) (r_laws _) ?_)))
      have q10 : LawAt (79 + 2 * l) := by unfold LawAt; omega
      refine n_aload_n c_101_24 rfl (n_getR c_101_25 sc_3.n rfl rfl rfl r_3_2 (n_iload_n c_101_28 rfl (n_aaload c_101_29 sc_12.n rfl rfl rfl (by omega) (r_acts _) ?_)))
      have q11 : ActAt (55 + 3 * a) := by unfold ActAt; omega
      have q11l : (55 + 3 * a) < 55 + 3 * ac := by omega
      refine n_aload_n c_101_30 rfl (n_getR c_101_31 sc_3.n rfl rfl rfl r_3_0 (n_aload_n c_101_34 rfl (n_getR c_101_35 sc_3.n rfl rfl rfl r_3_12 (n_v3I c_101_38 rfl q10.c0.1.n rfl rfl rfl rfl (isKeptBy_2 (q := (79 + 2 * l)) (p := (55 + 3 * a)) hS q10 q11 q11l) ?_))))
      intro z12 M13 hP14
      obtain ⟨hS13, f14⟩ := hP14
      refine n_if0_eq c_101_41 (by omega) ?_ ?_
      · intro h15
        refine n_iconst c_101_48 ?_
        exact n_rI c_101_49 rfl ⟨hS13, by omega⟩
      · intro h16
        refine n_iconst c_101_44 (n_goto c_101_45 ?_)
        exact n_rI c_101_49 rfl ⟨hS13, by omega⟩
    · intro h17
      refine n_fg (le_n (le_n (le_n le_0))) ?_
      exact (keeps_2_c hS ha hl 12)  M hS  (by omega)

set_option maxHeartbeats 4000000 in
theorem closed_2_c {xs : List Int32} {e : Nat} {ac : Int} {M0 M : nM} {l : Int} (hS : Sf 2 ac M0 M) (hl : -2147483648 ≤ l ∧ l ≤ 2147483647) : ∀ nn : Nat, (∀ (x2 x3 : Int) (M : nM), Sf 2 ac M0 M → (0 ≤ x2 ∧ x2 ≤ 1) → (0 ≤ x3 ∧ x3 ≤ 28) → (28 - x3) * 11 + 12 < (nn : Int) → nW xs (e + 3) 102 45 [some (2, 3), none, some (0, x2), some (0, x3), none] [] M (nPJ fun z M1 => Sf 2 ac M0 M1 ∧ (-9223372036854775808 ≤ z ∧ z ≤ 9223372036854775807))) ∧ (∀ (x2 x3 x4 : Int) (M : nM), Sf 2 ac M0 M → (0 ≤ x2 ∧ x2 ≤ 1) → (0 ≤ x3 ∧ x3 ≤ 27) → (0 ≤ x4 ∧ x4 ≤ 8) → (28 - x3) * 11 + (8 - x4) * 1 + 2 < (nn : Int) → nW xs (e + 3) 102 60 [some (2, 3), none, some (0, x2), some (0, x3), some (0, x4)] [] M (nPJ fun z M1 => Sf 2 ac M0 M1 ∧ (-9223372036854775808 ≤ z ∧ z ≤ 9223372036854775807))) ∧ (∀ (M : nM), Sf 2 ac M0 M → 1 < (nn : Int) → nW xs (e + 3) 102 106 [some (2, 3), none, none, none, none] [] M (nPJ fun z M1 => Sf 2 ac M0 M1 ∧ (-9223372036854775808 ≤ z ∧ z ≤ 9223372036854775807))) := by
  have hd : (2 : Int) = 2 ∨ (2 : Int) = 3 := by decide
  have hac := hS.2.2.2.2
  intro nn
  induction nn with
  | zero => refine ⟨?_, ?_, ?_⟩ <;> (intros; omega)
  | succ nn ih =>
    refine ⟨?_, ?_, ?_⟩
    · intro x2 x3 M hS k2 k3 hnn
      refine n_iload_n c_102_45 rfl (n_bipush c_102_46 rfl ?_)
      refine n_if2_gt c_102_48 (by omega) (by omega) ?_ ?_
      · intro h1
        refine n_fg (le_s (le_n (le_n (le_n (le_n le_0))))) ?_
        exact ih.2.2  M hS  (by omega)
      · intro h2
        refine n_iload_n c_102_51 rfl ?_
        refine n_if0_eq c_102_52 (by omega) ?_ ?_
        · intro h3
          refine n_fg (le_s (le_n (le_n (le_n (le_n le_0))))) ?_
          exact ih.2.2  M hS  (by omega)
        · intro h4
          refine n_iconst c_102_55 (n_istore_n (L2 := [some (2, 3), none, some (0, 0), some (0, x3), none]) c_102_56 rfl rfl (n_iconst c_102_57 (n_istore (L2 := [some (2, 3), none, some (0, 0), some (0, x3), some (0, 0)]) c_102_58 rfl rfl (n_fg (le_s (le_n (le_s (le_s (le_s le_0))))) ?_))))
          exact ih.2.1 _ _ _ M hS (by omega) (by omega) (by omega) (by omega)
    · intro x2 x3 x4 M hS k2 k3 k4 hnn
      refine n_iload c_102_60 rfl (n_aload_n c_102_62 rfl (n_getV (bi := 14) c_102_63 sc_3.n rfl rfl rfl (t_3_14x hS) ?_))
      intro z1 ez1 f2
      have f2a := t_ac hS
      refine n_if2_ge c_102_66 (by omega) (by omega) ?_ ?_
      · intro h3
        refine n_iinc (L2 := [some (2, 3), none, some (0, x2), some (0, (x3 + 1)), some (0, x4)]) c_102_100 rfl rfl rfl (n_goto c_102_103 (n_fg (le_s (le_n (le_s (le_s (le_n le_0))))) ?_))
        exact ih.1 _ _ M hS (by omega) (by omega) (by omega)
      · intro h4
        refine n_iload_n c_102_69 rfl (n_aload_n c_102_70 rfl (n_getR c_102_71 sc_3.n rfl rfl rfl r_3_11 (n_aload_n c_102_74 rfl (n_getR c_102_75 sc_3.n rfl rfl rfl r_3_2 (n_iload c_102_78 rfl (n_aaload c_102_80 sc_12.n rfl rfl rfl (by omega) (r_acts _) ?_))))))
        have q5 : ActAt (55 + 3 * x4) := by unfold ActAt; omega
        have q5l : (55 + 3 * x4) < 55 + 3 * ac := by omega
        refine n_aload_n c_102_81 rfl (n_getR c_102_82 sc_3.n rfl rfl rfl r_3_0 (n_aload_n c_102_85 rfl (n_getR c_102_86 sc_3.n rfl rfl rfl r_3_12 (n_v3I c_102_89 rfl law50.c0.1.n rfl rfl rfl rfl (growsBy_2 (p := (55 + 3 * x4)) hS q5 q5l) ?_))))
        intro z6 M7 hP8
        obtain ⟨hS7, f8⟩ := hP8
        refine n_i_ior c_102_92 rfl ?_
        have f9 := n_or_1 (x := x2) (y := z6) (by omega) (by omega)
        generalize (n_or x2 z6) = z10 at f9 ⊢
        refine n_istore_n (L2 := [some (2, 3), none, some (0, z10), some (0, x3), some (0, x4)]) c_102_93 rfl rfl (n_iinc (L2 := [some (2, 3), none, some (0, z10), some (0, x3), some (0, (x4 + 1))]) c_102_94 rfl rfl rfl (n_goto c_102_97 (n_fg (le_s (le_n (le_s (le_s (le_s le_0))))) ?_)))
        exact ih.2.1 _ _ _ M7 hS7 (by omega) (by omega) (by omega) (by omega)
    · intro M hS hnn
      refine n_aload_n c_102_106 rfl (n_getR c_102_107 sc_3.n rfl rfl rfl r_3_11 (n_aload_n c_102_110 rfl (n_getR c_102_111 sc_3.n rfl rfl rfl r_3_0 (n_v1I c_102_114 rfl law50.c0.1.n rfl rfl rfl rfl (narrowSet_2  hS ) ?_))))
      intro z1 M2 hP3
      obtain ⟨eM, f3⟩ := hP3
      subst eM
      refine n_i2l c_102_117 (by omega) ?_
      exact n_rJ c_102_118 rfl ⟨hS, by omega⟩
set_option maxHeartbeats 4000000 in
theorem closed_2 {xs : List Int32} {e : Nat} {ac : Int} {M0 M : nM} {l : Int} (hS : Sf 2 ac M0 M) (hl : -2147483648 ≤ l ∧ l ≤ 2147483647) : nW xs (e + 3) 102 0 [some (2, 3), some (0, l), none, none, none] [] M (nPJ fun z M1 => Sf 2 ac M0 M1 ∧ (-9223372036854775808 ≤ z ∧ z ≤ 9223372036854775807)) := by
  have hd : (2 : Int) = 2 ∨ (2 : Int) = 3 := by decide
  have hac := hS.2.2.2.2
  refine n_aload_n c_102_0 rfl (n_iload_n c_102_1 rfl (n_v1I c_102_2 rfl sc_3.n rfl rfl rfl rfl (isLaw_2 (l := l) hS (by omega)) ?_))
  intro z1 M2 hP3
  obtain ⟨eM, f3, f3p0⟩ := hP3
  subst eM
  refine n_if0_ne c_102_5 (by omega) ?_ ?_
  · intro h4
    refine n_aload_n c_102_12 rfl (n_getR c_102_13 sc_3.n rfl rfl rfl r_3_11 (n_aload_n c_102_16 rfl (n_getR c_102_17 sc_3.n rfl rfl rfl r_3_3 (n_iload_n c_102_20 rfl (n_aaload c_102_21 sc_13.n rfl rfl rfl (by omega) (r_laws _) ?_)))))
    have q5 : LawAt (79 + 2 * l) := by unfold LawAt; omega
    refine n_getV (bi := 0) c_102_22 q5.c0.1.n rfl rfl rfl (t_law hS q5).1 ?_
    intro z6 ez6 f7
    refine n_aload_n c_102_25 rfl (n_getR c_102_26 sc_3.n rfl rfl rfl r_3_3 (n_iload_n c_102_29 rfl (n_aaload c_102_30 sc_13.n rfl rfl rfl (by omega) (r_laws _) ?_)))
    have q8 : LawAt (79 + 2 * l) := by unfold LawAt; omega
    refine n_getV (bi := 1) c_102_31 q8.c0.1.n rfl rfl rfl (t_law hS q8).2.1 ?_
    intro z9 ez9 f10
    refine n_aload_n c_102_34 rfl (n_getR c_102_35 sc_3.n rfl rfl rfl r_3_0 (n_v3V c_102_38 rfl law50.c0.1.n rfl rfl rfl rfl (takeS_2 (k := z6) (s := z9) hS (by omega) (by omega)) ?_))
    intro  M11 hP12
    have hS11 := hP12
    refine n_iconst c_102_41 (n_istore_n (L2 := [some (2, 3), some (0, l), some (0, 1), none, none]) c_102_42 rfl rfl (n_iconst c_102_43 (n_istore_n (L2 := [some (2, 3), some (0, l), some (0, 1), some (0, 0), none]) c_102_44 rfl rfl (n_fg (le_s (le_n (le_s (le_s (le_n le_0))))) ?_))))
    exact (closed_2_c hS hl 672).1 _ _ M11 hS11 (by omega) (by omega) (by omega)
  · intro h13
    refine n_ldc2 (n := (-1)) c_102_8 rfl ?_
    exact n_rJ c_102_11 rfl ⟨hS, by omega⟩

set_option maxHeartbeats 4000000 in
theorem aaks_2_c {xs : List Int32} {e : Nat} {ac : Int} {M0 M : nM} (hS : Sf 2 ac M0 M)  : ∀ nn : Nat, (∀ (x1 : Int) (M : nM), Sf 2 ac M0 M → (0 ≤ x1 ∧ x1 ≤ 8) → (8 - x1) * 1 + 1 < (nn : Int) → nW xs (e + 3) 129 2 [some (2, 3), some (0, x1)] [] M (nPI fun z M1 => Sf 2 ac M0 M1 ∧ (0 ≤ z ∧ z ≤ 1))) := by
  have hd : (2 : Int) = 2 ∨ (2 : Int) = 3 := by decide
  have hac := hS.2.2.2.2
  intro nn
  induction nn with
  | zero => intros; omega
  | succ nn ih =>
    intro x1 M hS k1 hnn
    refine n_iload_n c_129_2 rfl (n_aload_n c_129_3 rfl (n_getV (bi := 14) c_129_4 sc_3.n rfl rfl rfl (t_3_14x hS) ?_))
    intro z1 ez1 f2
    have f2a := t_ac hS
    refine n_if2_ge c_129_7 (by omega) (by omega) ?_ ?_
    · intro h3
      refine n_iconst c_129_42 ?_
      exact n_rZ c_129_43 rfl (by omega) ⟨hS, by omega⟩
    · intro h4
      refine n_aload_n c_129_10 rfl (n_getR c_129_11 sc_3.n rfl rfl rfl r_3_11 (n_aload_n c_129_14 rfl (n_getR c_129_15 sc_3.n rfl rfl rfl r_3_2 (n_iload_n c_129_18 rfl (n_aaload c_129_19 sc_12.n rfl rfl rfl (by omega) (r_acts _) ?_)))))
      have q5 : ActAt (55 + 3 * x1) := by unfold ActAt; omega
      have q5l : (55 + 3 * x1) < 55 + 3 * ac := by omega
      refine n_aload_n c_129_20 rfl (n_getR c_129_21 sc_3.n rfl rfl rfl r_3_0 (n_aload_n c_129_24 rfl (n_getR c_129_25 sc_3.n rfl rfl rfl r_3_12 (n_v3I c_129_28 rfl law50.c0.1.n rfl rfl rfl rfl (isKeptBy_2 (q := 50) (p := (55 + 3 * x1)) hS law50 q5 q5l) ?_))))
      intro z6 M7 hP8
      obtain ⟨hS7, f8⟩ := hP8
      refine n_if0_ne c_129_31 (by omega) ?_ ?_
      · intro h9
        refine n_iinc (L2 := [some (2, 3), some (0, (x1 + 1))]) c_129_36 rfl rfl rfl (n_goto c_129_39 (n_fg (le_s (le_s le_0)) ?_))
        exact ih _ M7 hS7 (by omega) (by omega)
      · intro h10
        refine n_iconst c_129_34 ?_
        exact n_rZ c_129_35 rfl (by omega) ⟨hS7, by omega⟩
set_option maxHeartbeats 4000000 in
theorem aaks_2 {xs : List Int32} {e : Nat} {ac : Int} {M0 M : nM} (hS : Sf 2 ac M0 M)  : nW xs (e + 3) 129 0 [some (2, 3), none] [] M (nPI fun z M1 => Sf 2 ac M0 M1 ∧ (0 ≤ z ∧ z ≤ 1)) := by
  have hd : (2 : Int) = 2 ∨ (2 : Int) = 3 := by decide
  have hac := hS.2.2.2.2
  refine n_iconst c_129_0 (n_istore_n (L2 := [some (2, 3), some (0, 0)]) c_129_1 rfl rfl (n_fg (le_s (le_s le_0)) ?_))
  exact (aaks_2_c hS  30) _ M hS (by omega) (by omega)

set_option maxHeartbeats 4000000 in
theorem laws_2_c {xs : List Int32} {e : Nat} {ac : Int} {M0 M : nM} {k : Int} (hS : Sf 2 ac M0 M) (hk : -2147483648 ≤ k ∧ k ≤ 2147483647) : ∀ nn : Nat, (∀ (M : nM), Sf 2 ac M0 M → (1 ≤ k ∧ k ≤ 2) → 517 < (nn : Int) → nW xs (e + 4) 103 12 [some (2, 3), some (0, k), none, none, none] [] M (nPI fun z M1 => Sf 2 ac M0 M1 ∧ (-2147483648 ≤ z ∧ z ≤ 2147483647))) ∧ (∀ (x2 x3 x4 : Int) (M : nM), Sf 2 ac M0 M → (1 ≤ k ∧ k ≤ 2) → (2 ≤ x2 ∧ x2 ≤ 256) → (0 ≤ x3 ∧ x3 ≤ 134217728) → (0 ≤ x4 ∧ x4 ≤ 256) → (x3 ≤ x4) → (256 - x4) * 2 + 2 < (nn : Int) → nW xs (e + 4) 103 28 [some (2, 3), some (0, k), some (0, x2), some (0, x3), some (0, x4)] [] M (nPI fun z M1 => Sf 2 ac M0 M1 ∧ (-2147483648 ≤ z ∧ z ≤ 2147483647))) ∧ (∀ (x2 x3 x4 : Int) (M : nM), Sf 2 ac M0 M → (1 ≤ k ∧ k ≤ 2) → (2 ≤ x2 ∧ x2 ≤ 256) → (0 ≤ x3 ∧ x3 ≤ 134217728) → (0 ≤ x4 ∧ x4 ≤ 255) → (x3 ≤ x4 + 1) → (256 - x4) * 2 + 1 < (nn : Int) → nW xs (e + 4) 103 58 [some (2, 3), some (0, k), some (0, x2), some (0, x3), some (0, x4)] [] M (nPI fun z M1 => Sf 2 ac M0 M1 ∧ (-2147483648 ≤ z ∧ z ≤ 2147483647))) := by
  have hd : (2 : Int) = 2 ∨ (2 : Int) = 3 := by decide
  have hac := hS.2.2.2.2
  intro nn
  induction nn with
  | zero => refine ⟨?_, ?_, ?_⟩ <;> (intros; omega)
  | succ nn ih =>
    refine ⟨?_, ?_, ?_⟩
    · intro M hS k1 hnn
      refine n_iconst c_103_12 (n_aload_n c_103_13 rfl (n_getR c_103_14 sc_3.n rfl rfl rfl r_3_0 (n_iload_n c_103_17 rfl (n_v1I c_103_18 rfl sc_4.n rfl rfl rfl rfl (powerU_2 (n := k) hS (by omega)) ?_))))
      intro z1 M2 hP3
      obtain ⟨eM, f3⟩ := hP3
      subst eM
      refine n_i_ishl c_103_21 rfl ?_
      have f4 := n_shl_1 (y := z1) (a := 1) (b := 8) (by decide) (by omega)
      generalize (n_shl 1 z1) = z5 at f4 ⊢
      refine n_istore_n (L2 := [some (2, 3), some (0, k), some (0, z5), none, none]) c_103_22 rfl rfl (n_iconst c_103_23 (n_istore_n (L2 := [some (2, 3), some (0, k), some (0, z5), some (0, 0), none]) c_103_24 rfl rfl (n_iconst c_103_25 (n_istore (L2 := [some (2, 3), some (0, k), some (0, z5), some (0, 0), some (0, 0)]) c_103_26 rfl rfl (n_fg (le_s (le_s (le_s (le_s (le_s le_0))))) ?_)))))
      exact ih.2.1 _ _ _ M hS (by omega) (by omega) (by omega) (by omega) (by omega) (by omega)
    · intro x2 x3 x4 M hS k1 k2 k3 k4 v0 hnn
      refine n_iload c_103_28 rfl (n_iload_n c_103_30 rfl ?_)
      refine n_if2_ge c_103_31 (by omega) (by omega) ?_ ?_
      · intro h1
        refine n_iload_n c_103_64 rfl ?_
        exact n_rI c_103_65 rfl ⟨hS, by omega⟩
      · intro h2
        refine n_aload_n c_103_34 rfl (n_getR c_103_35 sc_3.n rfl rfl rfl r_3_11 (n_iload_n c_103_38 rfl (n_iload c_103_39 rfl (n_aload_n c_103_41 rfl (n_getR c_103_42 sc_3.n rfl rfl rfl r_3_0 (n_v3V c_103_45 rfl law50.c0.1.n rfl rfl rfl rfl (takeS_2 (k := k) (s := x4) hS (by omega) (by omega)) ?_))))))
        intro  M3 hP4
        have hS3 := hP4
        refine n_aload_n c_103_48 rfl (n_v0I c_103_49 rfl sc_3.n rfl rfl rfl rfl (aaks_2  hS3 ) ?_)
        intro z5 M6 hP7
        obtain ⟨hS6, f7⟩ := hP7
        refine n_if0_eq c_103_52 (by omega) ?_ ?_
        · intro h8
          refine n_fg (le_s (le_s (le_s (le_s (le_s le_0))))) ?_
          exact ih.2.2 _ _ _ M6 hS6 (by omega) (by omega) (by omega) (by omega) (by omega) (by omega)
        · intro h9
          refine n_iinc (L2 := [some (2, 3), some (0, k), some (0, x2), some (0, (x3 + 1)), some (0, x4)]) c_103_55 rfl rfl rfl (n_fg (le_s (le_s (le_s (le_s (le_s le_0))))) ?_)
          exact ih.2.2 _ _ _ M6 hS6 (by omega) (by omega) (by omega) (by omega) (by omega) (by omega)
    · intro x2 x3 x4 M hS k1 k2 k3 k4 v0 hnn
      refine n_iinc (L2 := [some (2, 3), some (0, k), some (0, x2), some (0, x3), some (0, (x4 + 1))]) c_103_58 rfl rfl rfl (n_goto c_103_61 (n_fg (le_s (le_s (le_s (le_s (le_s le_0))))) ?_))
      exact ih.2.1 _ _ _ M hS (by omega) (by omega) (by omega) (by omega) (by omega) (by omega)
set_option maxHeartbeats 4000000 in
theorem laws_2 {xs : List Int32} {e : Nat} {ac : Int} {M0 M : nM} {k : Int} (hS : Sf 2 ac M0 M) (hk : -2147483648 ≤ k ∧ k ≤ 2147483647) : nW xs (e + 4) 103 0 [some (2, 3), some (0, k), none, none, none] [] M (nPI fun z M1 => Sf 2 ac M0 M1 ∧ (-2147483648 ≤ z ∧ z ≤ 2147483647)) := by
  have hd : (2 : Int) = 2 ∨ (2 : Int) = 3 := by decide
  have hac := hS.2.2.2.2
  refine n_iload_n c_103_0 rfl (n_iconst c_103_1 ?_)
  refine n_if2_eq c_103_2 (by omega) (by omega) ?_ ?_
  · intro h1
    refine n_fg (le_s (le_s (le_n (le_n (le_n le_0))))) ?_
    exact (laws_2_c hS hk 1044).1  M hS (by omega) (by omega)
  · intro h2
    refine n_iload_n c_103_5 rfl (n_iconst c_103_6 ?_)
    refine n_if2_eq c_103_7 (by omega) (by omega) ?_ ?_
    · intro h3
      refine n_fg (le_s (le_s (le_n (le_n (le_n le_0))))) ?_
      exact (laws_2_c hS hk 1044).1  M hS (by omega) (by omega)
    · intro h4
      refine n_iconst c_103_10 ?_
      exact n_rI c_103_11 rfl ⟨hS, by omega⟩

set_option maxHeartbeats 4000000 in
theorem isHeap_2_c {xs : List Int32} {e : Nat} {ac : Int} {M0 M : nM} {s : Int} (hS : Sf 2 ac M0 M) (hs : -2147483648 ≤ s ∧ s ≤ 2147483647) : ∀ nn : Nat, (∀ (x2 : Int), (0 ≤ x2 ∧ x2 ≤ 8) → (8 - x2) * 1 + 1 < (nn : Int) → nW xs (e + 2) 135 2 [some (2, 3), some (0, s), some (0, x2)] [] M (nPI fun z M1 => M = M1 ∧ (0 ≤ z ∧ z ≤ 1))) := by
  have hd : (2 : Int) = 2 ∨ (2 : Int) = 3 := by decide
  have hac := hS.2.2.2.2
  intro nn
  induction nn with
  | zero => intros; omega
  | succ nn ih =>
    intro x2 k2 hnn
    refine n_iload_n c_135_2 rfl (n_aload_n c_135_3 rfl (n_getV (bi := 14) c_135_4 sc_3.n rfl rfl rfl (t_3_14x hS) ?_))
    intro z1 ez1 f2
    have f2a := t_ac hS
    refine n_if2_ge c_135_7 (by omega) (by omega) ?_ ?_
    · intro h3
      refine n_iconst c_135_35 ?_
      exact n_rZ c_135_36 rfl (by omega) ⟨rfl, by omega⟩
    · intro h4
      refine n_aload_n c_135_10 rfl (n_getR c_135_11 sc_3.n rfl rfl rfl r_3_2 (n_iload_n c_135_14 rfl (n_aaload c_135_15 sc_12.n rfl rfl rfl (by omega) (r_acts _) ?_)))
      have q5 : ActAt (55 + 3 * x2) := by unfold ActAt; omega
      have q5l : (55 + 3 * x2) < 55 + 3 * ac := by omega
      refine n_iload_n c_135_16 rfl (n_aload_n c_135_17 rfl (n_getR c_135_18 sc_3.n rfl rfl rfl r_3_0 (n_v2I c_135_21 rfl q5.c0.1.n rfl rfl rfl rfl (staysIn_2 (p := (55 + 3 * x2)) (s := s) hS q5 q5l (by omega)) ?_)))
      intro z6 M7 hP8
      obtain ⟨eM, f8⟩ := hP8
      subst eM
      refine n_if0_ne c_135_24 (by omega) ?_ ?_
      · intro h9
        refine n_iinc (L2 := [some (2, 3), some (0, s), some (0, (x2 + 1))]) c_135_29 rfl rfl rfl (n_goto c_135_32 (n_fg (le_s (le_s (le_s le_0))) ?_))
        exact ih _ (by omega) (by omega)
      · intro h10
        refine n_iconst c_135_27 ?_
        exact n_rZ c_135_28 rfl (by omega) ⟨rfl, by omega⟩
set_option maxHeartbeats 4000000 in
theorem isHeap_2 {xs : List Int32} {e : Nat} {ac : Int} {M0 M : nM} {s : Int} (hS : Sf 2 ac M0 M) (hs : -2147483648 ≤ s ∧ s ≤ 2147483647) : nW xs (e + 2) 135 0 [some (2, 3), some (0, s), none] [] M (nPI fun z M1 => M = M1 ∧ (0 ≤ z ∧ z ≤ 1)) := by
  have hd : (2 : Int) = 2 ∨ (2 : Int) = 3 := by decide
  have hac := hS.2.2.2.2
  refine n_iconst c_135_0 (n_istore_n (L2 := [some (2, 3), some (0, s), some (0, 0)]) c_135_1 rfl rfl (n_fg (le_s (le_s (le_s le_0))) ?_))
  exact (isHeap_2_c hS hs 30) _ (by omega) (by omega)

set_option maxHeartbeats 4000000 in
theorem leastHeap_2_c {xs : List Int32} {e : Nat} {ac : Int} {M0 M : nM} {m : Int} (hS : Sf 2 ac M0 M) (hm : -2147483648 ≤ m ∧ m ≤ 2147483647) : ∀ nn : Nat, (∀ (x2 x3 : Int), (3 ≤ x2 ∧ x2 ≤ 3) → (-2147483648 ≤ x3 ∧ x3 ≤ 2147483647) → (2147483647 - x3) * 2 + 2 < (nn : Int) → nW xs (e + 3) 136 10 [some (2, 3), some (0, m), some (0, x2), some (0, x3)] [] M (nPI fun z M1 => M = M1 ∧ (-2147483648 ≤ z ∧ z ≤ 2147483647))) ∧ (∀ (x2 x3 : Int), (3 ≤ x2 ∧ x2 ≤ 3) → (-2147483648 ≤ x3 ∧ x3 ≤ 2) → (2147483647 - x3) * 2 + 1 < (nn : Int) → nW xs (e + 3) 136 32 [some (2, 3), some (0, m), some (0, x2), some (0, x3)] [] M (nPI fun z M1 => M = M1 ∧ (-2147483648 ≤ z ∧ z ≤ 2147483647))) := by
  have hd : (2 : Int) = 2 ∨ (2 : Int) = 3 := by decide
  have hac := hS.2.2.2.2
  intro nn
  induction nn with
  | zero => refine ⟨?_, ?_⟩ <;> (intros; omega)
  | succ nn ih =>
    refine ⟨?_, ?_⟩
    · intro x2 x3 k2 k3 hnn
      refine n_iload_n c_136_10 rfl (n_iload_n c_136_11 rfl ?_)
      refine n_if2_ge c_136_12 (by omega) (by omega) ?_ ?_
      · intro h1
        refine n_iload_n c_136_38 rfl ?_
        exact n_rI c_136_39 rfl ⟨rfl, by omega⟩
      · intro h2
        refine n_iload_n c_136_15 rfl (n_iload_n c_136_16 rfl (n_i_iand c_136_17 rfl ?_))
        have f3 := n_and_r x3 m
        generalize (n_and x3 m) = z4 at f3 ⊢
        refine n_iload_n c_136_18 rfl ?_
        refine n_if2_ne c_136_19 (by omega) (by omega) ?_ ?_
        · intro h5
          refine n_fg (le_s (le_s (le_s (le_s le_0)))) ?_
          exact ih.2 _ _ (by omega) (by omega) (by omega)
        · intro h6
          refine n_aload_n c_136_22 rfl (n_iload_n c_136_23 rfl (n_v1I c_136_24 rfl sc_3.n rfl rfl rfl rfl (isHeap_2 (s := x3) hS (by omega)) ?_))
          intro z7 M8 hP9
          obtain ⟨eM, f9⟩ := hP9
          subst eM
          refine n_if0_eq c_136_27 (by omega) ?_ ?_
          · intro h10
            refine n_fg (le_s (le_s (le_s (le_s le_0)))) ?_
            exact ih.2 _ _ (by omega) (by omega) (by omega)
          · intro h11
            refine n_iload_n c_136_30 rfl ?_
            exact n_rI c_136_31 rfl ⟨rfl, by omega⟩
    · intro x2 x3 k2 k3 hnn
      refine n_iinc (L2 := [some (2, 3), some (0, m), some (0, x2), some (0, (x3 + 1))]) c_136_32 rfl rfl rfl (n_goto c_136_35 (n_fg (le_s (le_s (le_s (le_s le_0)))) ?_))
      exact ih.1 _ _ (by omega) (by omega) (by omega)
set_option maxHeartbeats 4000000 in
theorem leastHeap_2 {xs : List Int32} {e : Nat} {ac : Int} {M0 M : nM} {m : Int} (hS : Sf 2 ac M0 M) (hm : -2147483648 ≤ m ∧ m ≤ 2147483647) : nW xs (e + 3) 136 0 [some (2, 3), some (0, m), none, none] [] M (nPI fun z M1 => M = M1 ∧ (-2147483648 ≤ z ∧ z ≤ 2147483647)) := by
  have hd : (2 : Int) = 2 ∨ (2 : Int) = 3 := by decide
  have hac := hS.2.2.2.2
  refine n_aload_n c_136_0 rfl (n_getR c_136_1 sc_3.n rfl rfl rfl r_3_0 (n_v0I c_136_4 rfl sc_4.n rfl rfl rfl rfl (allThings_2  hS ) ?_))
  intro z1 M2 hP3
  obtain ⟨eM, f3⟩ := hP3
  subst eM
  obtain rfl : z1 = 3 := by omega
  refine n_istore_n (L2 := [some (2, 3), some (0, m), some (0, 3), none]) c_136_7 rfl rfl (n_iload_n c_136_8 rfl (n_istore_n (L2 := [some (2, 3), some (0, m), some (0, 3), some (0, m)]) c_136_9 rfl rfl (n_fg (le_s (le_s (le_s (le_s le_0)))) ?_)))
  exact (leastHeap_2_c hS hm 17179869198).1 _ _ (by omega) (by omega) (by omega)

set_option maxHeartbeats 4000000 in
theorem heaps_2_c {xs : List Int32} {e : Nat} {ac : Int} {M0 M : nM} (hS : Sf 2 ac M0 M)  : ∀ nn : Nat, (∀ (x1 x2 : Int), (0 ≤ x1 ∧ x1 ≤ 8) → (1 ≤ x2 ∧ x2 ≤ 4) → (x1 ≤ x2) → (4 - x2) * 2 + 2 < (nn : Int) → nW xs (e + 3) 109 4 [some (2, 3), some (0, x1), some (0, x2)] [] M (nPI fun z M1 => M = M1 ∧ (-2147483648 ≤ z ∧ z ≤ 2147483647))) ∧ (∀ (x1 x2 : Int), (0 ≤ x1 ∧ x1 ≤ 8) → (1 ≤ x2 ∧ x2 ≤ 3) → (x1 ≤ x2 + 1) → (4 - x2) * 2 + 1 < (nn : Int) → nW xs (e + 3) 109 26 [some (2, 3), some (0, x1), some (0, x2)] [] M (nPI fun z M1 => M = M1 ∧ (-2147483648 ≤ z ∧ z ≤ 2147483647))) := by
  have hd : (2 : Int) = 2 ∨ (2 : Int) = 3 := by decide
  have hac := hS.2.2.2.2
  intro nn
  induction nn with
  | zero => refine ⟨?_, ?_⟩ <;> (intros; omega)
  | succ nn ih =>
    refine ⟨?_, ?_⟩
    · intro x1 x2 k1 k2 v0 hnn
      refine n_iload_n c_109_4 rfl (n_aload_n c_109_5 rfl (n_getR c_109_6 sc_3.n rfl rfl rfl r_3_0 (n_v0I c_109_9 rfl sc_4.n rfl rfl rfl rfl (allThings_2  hS ) ?_)))
      intro z1 M2 hP3
      obtain ⟨eM, f3⟩ := hP3
      subst eM
      obtain rfl : z1 = 3 := by omega
      refine n_if2_gt c_109_12 (by omega) (by omega) ?_ ?_
      · intro h4
        refine n_iload_n c_109_32 rfl ?_
        exact n_rI c_109_33 rfl ⟨rfl, by omega⟩
      · intro h5
        refine n_aload_n c_109_15 rfl (n_iload_n c_109_16 rfl (n_v1I c_109_17 rfl sc_3.n rfl rfl rfl rfl (isHeap_2 (s := x2) hS (by omega)) ?_))
        intro z6 M7 hP8
        obtain ⟨eM, f8⟩ := hP8
        subst eM
        refine n_if0_eq c_109_20 (by omega) ?_ ?_
        · intro h9
          refine n_fg (le_s (le_s (le_s le_0))) ?_
          exact ih.2 _ _ (by omega) (by omega) (by omega) (by omega)
        · intro h10
          refine n_iinc (L2 := [some (2, 3), some (0, (x1 + 1)), some (0, x2)]) c_109_23 rfl rfl rfl (n_fg (le_s (le_s (le_s le_0))) ?_)
          exact ih.2 _ _ (by omega) (by omega) (by omega) (by omega)
    · intro x1 x2 k1 k2 v0 hnn
      refine n_iinc (L2 := [some (2, 3), some (0, x1), some (0, (x2 + 1))]) c_109_26 rfl rfl rfl (n_goto c_109_29 (n_fg (le_s (le_s (le_s le_0))) ?_))
      exact ih.1 _ _ (by omega) (by omega) (by omega) (by omega)
set_option maxHeartbeats 4000000 in
theorem heaps_2 {xs : List Int32} {e : Nat} {ac : Int} {M0 M : nM} (hS : Sf 2 ac M0 M)  : nW xs (e + 3) 109 0 [some (2, 3), none, none] [] M (nPI fun z M1 => M = M1 ∧ (-2147483648 ≤ z ∧ z ≤ 2147483647)) := by
  have hd : (2 : Int) = 2 ∨ (2 : Int) = 3 := by decide
  have hac := hS.2.2.2.2
  refine n_iconst c_109_0 (n_istore_n (L2 := [some (2, 3), some (0, 0), none]) c_109_1 rfl rfl (n_iconst c_109_2 (n_istore_n (L2 := [some (2, 3), some (0, 0), some (0, 1)]) c_109_3 rfl rfl (n_fg (le_s (le_s (le_s le_0))) ?_))))
  exact (heaps_2_c hS  30).1 _ _ (by omega) (by omega) (by omega) (by omega)

set_option maxHeartbeats 4000000 in
theorem heap_2_c {xs : List Int32} {e : Nat} {ac : Int} {M0 M : nM} {m : Int} (hS : Sf 2 ac M0 M) (hm : -2147483648 ≤ m ∧ m ≤ 2147483647) : ∀ nn : Nat, (1 < (nn : Int) → nW xs (e + 4) 110 16 [none, none] [] M (nPI fun z M1 => M = M1 ∧ (-2147483648 ≤ z ∧ z ≤ 2147483647))) := by
  have hd : (2 : Int) = 2 ∨ (2 : Int) = 3 := by decide
  have hac := hS.2.2.2.2
  intro nn
  induction nn with
  | zero => intros; omega
  | succ nn ih =>
    intro hnn
    refine n_iconst c_110_16 ?_
    exact n_rI c_110_17 rfl ⟨rfl, by omega⟩
set_option maxHeartbeats 4000000 in
theorem heap_2 {xs : List Int32} {e : Nat} {ac : Int} {M0 M : nM} {m : Int} (hS : Sf 2 ac M0 M) (hm : -2147483648 ≤ m ∧ m ≤ 2147483647) : nW xs (e + 4) 110 0 [some (2, 3), some (0, m)] [] M (nPI fun z M1 => M = M1 ∧ (-2147483648 ≤ z ∧ z ≤ 2147483647)) := by
  have hd : (2 : Int) = 2 ∨ (2 : Int) = 3 := by decide
  have hac := hS.2.2.2.2
  refine n_iload_n c_110_0 rfl (n_iconst c_110_1 ?_)
  refine n_if2_lt c_110_2 (by omega) (by omega) ?_ ?_
  · intro h1
    refine n_fg (le_n (le_n le_0)) ?_
    exact (heap_2_c hS hm 12)   (by omega)
  · intro h2
    refine n_iload_n c_110_5 rfl (n_aload_n c_110_6 rfl (n_getR c_110_7 sc_3.n rfl rfl rfl r_3_0 (n_v0I c_110_10 rfl sc_4.n rfl rfl rfl rfl (allThings_2  hS ) ?_)))
    intro z3 M4 hP5
    obtain ⟨eM, f5⟩ := hP5
    subst eM
    obtain rfl : z3 = 3 := by omega
    refine n_if2_le c_110_13 (by omega) (by omega) ?_ ?_
    · intro h6
      refine n_aload_n c_110_18 rfl (n_iload_n c_110_19 rfl (n_v1I c_110_20 rfl sc_3.n rfl rfl rfl rfl (leastHeap_2 (m := m) hS (by omega)) ?_))
      intro z7 M8 hP9
      obtain ⟨eM, f9⟩ := hP9
      subst eM
      exact n_rI c_110_23 rfl ⟨rfl, by omega⟩
    · intro h10
      refine n_fg (le_n (le_n le_0)) ?_
      exact (heap_2_c hS hm 12)   (by omega)

set_option maxHeartbeats 4000000 in
theorem partings_2 {xs : List Int32} {e : Nat} {ac : Int} {M0 M : nM} (hS : Sf 2 ac M0 M)  : nW xs e 137 0 [some (2, 3)] [] M (nPA fun z M1 => M = M1 ∧ z = 0) := by
  have hd : (2 : Int) = 2 ∨ (2 : Int) = 3 := by decide
  have hac := hS.2.2.2.2
  refine n_aload_n c_137_0 rfl (n_getR c_137_1 sc_3.n rfl rfl rfl r_3_0 (n_getV (bi := 0) c_137_4 sc_4.n rfl rfl rfl (t_4_0 hS) ?_))
  intro z1 ez1 f2
  obtain rfl : z1 = 2 := by omega
  refine n_iconst c_137_7 ?_
  refine n_if2_ne c_137_8 (by omega) (by omega) ?_ ?_
  · intro h3
    exfalso; omega
  · intro h4
    refine n_gets c_137_11 (n_goto c_137_14 ?_)
    exact n_rA c_137_20 rfl ⟨rfl, rfl⟩

set_option maxHeartbeats 4000000 in
theorem aakp0_2_c {xs : List Int32} {e : Nat} {ac : Int} {M0 M : nM} (hS : Sf 2 ac M0 M)  : ∀ nn : Nat, (∀ (x2 : Int), (0 ≤ x2 ∧ x2 ≤ 8) → (8 - x2) * 1 + 1 < (nn : Int) → nW xs (e + 2) 138 2 [some (2, 3), some (0, 0), some (0, x2)] [] M (nPI fun z M1 => M = M1 ∧ (0 ≤ z ∧ z ≤ 1))) := by
  have hd : (2 : Int) = 2 ∨ (2 : Int) = 3 := by decide
  have hac := hS.2.2.2.2
  intro nn
  induction nn with
  | zero => intros; omega
  | succ nn ih =>
    intro x2 k2 hnn
    refine n_iload_n c_138_2 rfl (n_aload_n c_138_3 rfl (n_getV (bi := 14) c_138_4 sc_3.n rfl rfl rfl (t_3_14x hS) ?_))
    intro z1 ez1 f2
    have f2a := t_ac hS
    refine n_if2_ge c_138_7 (by omega) (by omega) ?_ ?_
    · intro h3
      refine n_iconst c_138_35 ?_
      exact n_rZ c_138_36 rfl (by omega) ⟨rfl, by omega⟩
    · intro h4
      refine n_aload_n c_138_10 rfl (n_getR c_138_11 sc_3.n rfl rfl rfl r_3_2 (n_iload_n c_138_14 rfl (n_aaload c_138_15 sc_12.n rfl rfl rfl (by omega) (r_acts _) ?_)))
      have q5 : ActAt (55 + 3 * x2) := by unfold ActAt; omega
      have q5l : (55 + 3 * x2) < 55 + 3 * ac := by omega
      refine n_iload_n c_138_16 rfl (n_aload_n c_138_17 rfl (n_getR c_138_18 sc_3.n rfl rfl rfl r_3_0 (n_v2I c_138_21 rfl q5.c0.1.n rfl rfl rfl rfl (keepsParts0_2 (p := (55 + 3 * x2)) hS q5 q5l) ?_)))
      intro z6 M7 hP8
      obtain ⟨eM, f8⟩ := hP8
      subst eM
      refine n_if0_ne c_138_24 (by omega) ?_ ?_
      · intro h9
        refine n_iinc (L2 := [some (2, 3), some (0, 0), some (0, (x2 + 1))]) c_138_29 rfl rfl rfl (n_goto c_138_32 (n_fg (le_s (le_s (le_s le_0))) ?_))
        exact ih _ (by omega) (by omega)
      · intro h10
        refine n_iconst c_138_27 ?_
        exact n_rZ c_138_28 rfl (by omega) ⟨rfl, by omega⟩
set_option maxHeartbeats 4000000 in
theorem aakp0_2 {xs : List Int32} {e : Nat} {ac : Int} {M0 M : nM} (hS : Sf 2 ac M0 M)  : nW xs (e + 2) 138 0 [some (2, 3), some (0, 0), none] [] M (nPI fun z M1 => M = M1 ∧ (0 ≤ z ∧ z ≤ 1)) := by
  have hd : (2 : Int) = 2 ∨ (2 : Int) = 3 := by decide
  have hac := hS.2.2.2.2
  refine n_iconst c_138_0 (n_istore_n (L2 := [some (2, 3), some (0, 0), some (0, 0)]) c_138_1 rfl rfl (n_fg (le_s (le_s (le_s le_0))) ?_))
  exact (aakp0_2_c hS  30) _ (by omega) (by omega)

set_option maxHeartbeats 4000000 in
theorem aakp4_2_c {xs : List Int32} {e : Nat} {ac : Int} {M0 M : nM} (hS : Sf 2 ac M0 M)  : ∀ nn : Nat, (∀ (x2 : Int), (0 ≤ x2 ∧ x2 ≤ 8) → (8 - x2) * 1 + 1 < (nn : Int) → nW xs (e + 2) 138 2 [some (2, 3), some (0, 4), some (0, x2)] [] M (nPI fun z M1 => M = M1 ∧ (0 ≤ z ∧ z ≤ 1))) := by
  have hd : (2 : Int) = 2 ∨ (2 : Int) = 3 := by decide
  have hac := hS.2.2.2.2
  intro nn
  induction nn with
  | zero => intros; omega
  | succ nn ih =>
    intro x2 k2 hnn
    refine n_iload_n c_138_2 rfl (n_aload_n c_138_3 rfl (n_getV (bi := 14) c_138_4 sc_3.n rfl rfl rfl (t_3_14x hS) ?_))
    intro z1 ez1 f2
    have f2a := t_ac hS
    refine n_if2_ge c_138_7 (by omega) (by omega) ?_ ?_
    · intro h3
      refine n_iconst c_138_35 ?_
      exact n_rZ c_138_36 rfl (by omega) ⟨rfl, by omega⟩
    · intro h4
      refine n_aload_n c_138_10 rfl (n_getR c_138_11 sc_3.n rfl rfl rfl r_3_2 (n_iload_n c_138_14 rfl (n_aaload c_138_15 sc_12.n rfl rfl rfl (by omega) (r_acts _) ?_)))
      have q5 : ActAt (55 + 3 * x2) := by unfold ActAt; omega
      have q5l : (55 + 3 * x2) < 55 + 3 * ac := by omega
      refine n_iload_n c_138_16 rfl (n_aload_n c_138_17 rfl (n_getR c_138_18 sc_3.n rfl rfl rfl r_3_0 (n_v2I c_138_21 rfl q5.c0.1.n rfl rfl rfl rfl (keepsParts4_2 (p := (55 + 3 * x2)) hS q5 q5l) ?_)))
      intro z6 M7 hP8
      obtain ⟨eM, f8⟩ := hP8
      subst eM
      refine n_if0_ne c_138_24 (by omega) ?_ ?_
      · intro h9
        refine n_iinc (L2 := [some (2, 3), some (0, 4), some (0, (x2 + 1))]) c_138_29 rfl rfl rfl (n_goto c_138_32 (n_fg (le_s (le_s (le_s le_0))) ?_))
        exact ih _ (by omega) (by omega)
      · intro h10
        refine n_iconst c_138_27 ?_
        exact n_rZ c_138_28 rfl (by omega) ⟨rfl, by omega⟩
set_option maxHeartbeats 4000000 in
theorem aakp4_2 {xs : List Int32} {e : Nat} {ac : Int} {M0 M : nM} (hS : Sf 2 ac M0 M)  : nW xs (e + 2) 138 0 [some (2, 3), some (0, 4), none] [] M (nPI fun z M1 => M = M1 ∧ (0 ≤ z ∧ z ≤ 1)) := by
  have hd : (2 : Int) = 2 ∨ (2 : Int) = 3 := by decide
  have hac := hS.2.2.2.2
  refine n_iconst c_138_0 (n_istore_n (L2 := [some (2, 3), some (0, 4), some (0, 0)]) c_138_1 rfl rfl (n_fg (le_s (le_s (le_s le_0))) ?_))
  exact (aakp4_2_c hS  30) _ (by omega) (by omega)

set_option maxHeartbeats 4000000 in
theorem pairings_2 {xs : List Int32} {e : Nat} {ac : Int} {M0 M : nM} (hS : Sf 2 ac M0 M)  : nW xs (e + 3) 111 0 [some (2, 3), none, none, none] [] M (nPI fun z M1 => M = M1 ∧ (-2147483648 ≤ z ∧ z ≤ 2147483647)) := by
  have hd : (2 : Int) = 2 ∨ (2 : Int) = 3 := by decide
  have hac := hS.2.2.2.2
  refine n_aload_n c_111_0 rfl (n_v0A c_111_1 rfl sc_3.n rfl rfl rfl rfl (partings_2  hS ) ?_)
  intro z1 M2 hP3
  obtain ⟨eM, f3⟩ := hP3
  subst eM
  obtain rfl : z1 = 0 := f3
  refine n_astore_n (L2 := [some (2, 3), some (2, 0), none, none]) c_111_4 rfl rfl (n_iconst c_111_5 (n_istore_n (L2 := [some (2, 3), some (2, 0), some (0, 0), none]) c_111_6 rfl rfl (n_iconst c_111_7 (n_istore_n (L2 := [some (2, 3), some (2, 0), some (0, 0), some (0, 0)]) c_111_8 rfl rfl (n_iload_n c_111_9 rfl (n_aload_n c_111_10 rfl (n_alen c_111_11 sc_0.n rfl ?_)))))))
  refine n_if2_ge c_111_12 (by omega) (by omega) ?_ ?_
  · intro h4
    exfalso; omega
  · intro h5
    refine n_aload_n c_111_15 rfl (n_aload_n c_111_16 rfl (n_iload_n c_111_17 rfl (n_ialoadV c_111_18 sc_0.n rfl rfl rfl (by omega) (t_0_0 hS) ?_)))
    intro z6 ez6 f7
    have hcst : (z6 : Int) = 0 := by omega
    rw [hcst]
    refine n_v1I c_111_19 rfl sc_3.n rfl rfl rfl rfl (aakp0_2  hS ) ?_
    intro z8 M9 hP10
    obtain ⟨eM, f10⟩ := hP10
    subst eM
    refine n_if0_eq c_111_22 (by omega) ?_ ?_
    · intro h11
      refine n_iinc (L2 := [some (2, 3), some (2, 0), some (0, 0), some (0, (0 + 1))]) c_111_28 rfl rfl rfl (n_goto c_111_31 (n_iload_n c_111_9 rfl (n_aload_n c_111_10 rfl (n_alen c_111_11 sc_0.n rfl ?_))))
      refine n_if2_ge c_111_12 (by omega) (by omega) ?_ ?_
      · intro h12
        exfalso; omega
      · intro h13
        refine n_aload_n c_111_15 rfl (n_aload_n c_111_16 rfl (n_iload_n c_111_17 rfl (n_ialoadV c_111_18 sc_0.n rfl rfl rfl (by omega) (t_0_1 hS) ?_)))
        intro z14 ez14 f15
        have hcst : (z14 : Int) = 4 := by omega
        rw [hcst]
        refine n_v1I c_111_19 rfl sc_3.n rfl rfl rfl rfl (aakp4_2  hS ) ?_
        intro z16 M17 hP18
        obtain ⟨eM, f18⟩ := hP18
        subst eM
        refine n_if0_eq c_111_22 (by omega) ?_ ?_
        · intro h19
          refine n_iinc (L2 := [some (2, 3), some (2, 0), some (0, 0), some (0, ((0 + 1) + 1))]) c_111_28 rfl rfl rfl (n_goto c_111_31 (n_iload_n c_111_9 rfl (n_aload_n c_111_10 rfl (n_alen c_111_11 sc_0.n rfl ?_))))
          refine n_if2_ge c_111_12 (by omega) (by omega) ?_ ?_
          · intro h20
            refine n_iload_n c_111_34 rfl ?_
            exact n_rI c_111_35 rfl ⟨rfl, by omega⟩
          · intro h21
            exfalso; omega
        · intro h22
          refine n_iinc (L2 := [some (2, 3), some (2, 0), some (0, (0 + 1)), some (0, (0 + 1))]) c_111_25 rfl rfl rfl (n_iinc (L2 := [some (2, 3), some (2, 0), some (0, (0 + 1)), some (0, ((0 + 1) + 1))]) c_111_28 rfl rfl rfl (n_goto c_111_31 (n_iload_n c_111_9 rfl (n_aload_n c_111_10 rfl (n_alen c_111_11 sc_0.n rfl ?_)))))
          refine n_if2_ge c_111_12 (by omega) (by omega) ?_ ?_
          · intro h23
            refine n_iload_n c_111_34 rfl ?_
            exact n_rI c_111_35 rfl ⟨rfl, by omega⟩
          · intro h24
            exfalso; omega
    · intro h25
      refine n_iinc (L2 := [some (2, 3), some (2, 0), some (0, (0 + 1)), some (0, 0)]) c_111_25 rfl rfl rfl (n_iinc (L2 := [some (2, 3), some (2, 0), some (0, (0 + 1)), some (0, (0 + 1))]) c_111_28 rfl rfl rfl (n_goto c_111_31 (n_iload_n c_111_9 rfl (n_aload_n c_111_10 rfl (n_alen c_111_11 sc_0.n rfl ?_)))))
      refine n_if2_ge c_111_12 (by omega) (by omega) ?_ ?_
      · intro h26
        exfalso; omega
      · intro h27
        refine n_aload_n c_111_15 rfl (n_aload_n c_111_16 rfl (n_iload_n c_111_17 rfl (n_ialoadV c_111_18 sc_0.n rfl rfl rfl (by omega) (t_0_1 hS) ?_)))
        intro z28 ez28 f29
        have hcst : (z28 : Int) = 4 := by omega
        rw [hcst]
        refine n_v1I c_111_19 rfl sc_3.n rfl rfl rfl rfl (aakp4_2  hS ) ?_
        intro z30 M31 hP32
        obtain ⟨eM, f32⟩ := hP32
        subst eM
        refine n_if0_eq c_111_22 (by omega) ?_ ?_
        · intro h33
          refine n_iinc (L2 := [some (2, 3), some (2, 0), some (0, (0 + 1)), some (0, ((0 + 1) + 1))]) c_111_28 rfl rfl rfl (n_goto c_111_31 (n_iload_n c_111_9 rfl (n_aload_n c_111_10 rfl (n_alen c_111_11 sc_0.n rfl ?_))))
          refine n_if2_ge c_111_12 (by omega) (by omega) ?_ ?_
          · intro h34
            refine n_iload_n c_111_34 rfl ?_
            exact n_rI c_111_35 rfl ⟨rfl, by omega⟩
          · intro h35
            exfalso; omega
        · intro h36
          refine n_iinc (L2 := [some (2, 3), some (2, 0), some (0, ((0 + 1) + 1)), some (0, (0 + 1))]) c_111_25 rfl rfl rfl (n_iinc (L2 := [some (2, 3), some (2, 0), some (0, ((0 + 1) + 1)), some (0, ((0 + 1) + 1))]) c_111_28 rfl rfl rfl (n_goto c_111_31 (n_iload_n c_111_9 rfl (n_aload_n c_111_10 rfl (n_alen c_111_11 sc_0.n rfl ?_)))))
          refine n_if2_ge c_111_12 (by omega) (by omega) ?_ ?_
          · intro h37
            refine n_iload_n c_111_34 rfl ?_
            exact n_rI c_111_35 rfl ⟨rfl, by omega⟩
          · intro h38
            exfalso; omega

set_option maxHeartbeats 4000000 in
theorem pairing_2 {xs : List Int32} {e : Nat} {ac : Int} {M0 M : nM} {i : Int} (hS : Sf 2 ac M0 M) (hi : -2147483648 ≤ i ∧ i ≤ 2147483647) : nW xs (e + 3) 112 0 [some (2, 3), some (0, i), none, none, none] [] M (nPI fun z M1 => M = M1 ∧ (-2147483648 ≤ z ∧ z ≤ 2147483647)) := by
  have hd : (2 : Int) = 2 ∨ (2 : Int) = 3 := by decide
  have hac := hS.2.2.2.2
  refine n_aload_n c_112_0 rfl (n_v0A c_112_1 rfl sc_3.n rfl rfl rfl rfl (partings_2  hS ) ?_)
  intro z1 M2 hP3
  obtain ⟨eM, f3⟩ := hP3
  subst eM
  obtain rfl : z1 = 0 := f3
  refine n_astore_n (L2 := [some (2, 3), some (0, i), some (2, 0), none, none]) c_112_4 rfl rfl (n_iconst c_112_5 (n_istore_n (L2 := [some (2, 3), some (0, i), some (2, 0), some (0, 0), none]) c_112_6 rfl rfl (n_iconst c_112_7 (n_istore (L2 := [some (2, 3), some (0, i), some (2, 0), some (0, 0), some (0, 0)]) c_112_8 rfl rfl (n_iload c_112_10 rfl (n_aload_n c_112_12 rfl (n_alen c_112_13 sc_0.n rfl ?_)))))))
  refine n_if2_ge c_112_14 (by omega) (by omega) ?_ ?_
  · intro h4
    exfalso; omega
  · intro h5
    refine n_aload_n c_112_17 rfl (n_aload_n c_112_18 rfl (n_iload c_112_19 rfl (n_ialoadV c_112_21 sc_0.n rfl rfl rfl (by omega) (t_0_0 hS) ?_)))
    intro z6 ez6 f7
    have hcst : (z6 : Int) = 0 := by omega
    rw [hcst]
    refine n_v1I c_112_22 rfl sc_3.n rfl rfl rfl rfl (aakp0_2  hS ) ?_
    intro z8 M9 hP10
    obtain ⟨eM, f10⟩ := hP10
    subst eM
    refine n_if0_eq c_112_25 (by omega) ?_ ?_
    · intro h11
      refine n_iinc (L2 := [some (2, 3), some (0, i), some (2, 0), some (0, 0), some (0, (0 + 1))]) c_112_41 rfl rfl rfl (n_goto c_112_44 (n_iload c_112_10 rfl (n_aload_n c_112_12 rfl (n_alen c_112_13 sc_0.n rfl ?_))))
      refine n_if2_ge c_112_14 (by omega) (by omega) ?_ ?_
      · intro h12
        exfalso; omega
      · intro h13
        refine n_aload_n c_112_17 rfl (n_aload_n c_112_18 rfl (n_iload c_112_19 rfl (n_ialoadV c_112_21 sc_0.n rfl rfl rfl (by omega) (t_0_1 hS) ?_)))
        intro z14 ez14 f15
        have hcst : (z14 : Int) = 4 := by omega
        rw [hcst]
        refine n_v1I c_112_22 rfl sc_3.n rfl rfl rfl rfl (aakp4_2  hS ) ?_
        intro z16 M17 hP18
        obtain ⟨eM, f18⟩ := hP18
        subst eM
        refine n_if0_eq c_112_25 (by omega) ?_ ?_
        · intro h19
          refine n_iinc (L2 := [some (2, 3), some (0, i), some (2, 0), some (0, 0), some (0, ((0 + 1) + 1))]) c_112_41 rfl rfl rfl (n_goto c_112_44 (n_iload c_112_10 rfl (n_aload_n c_112_12 rfl (n_alen c_112_13 sc_0.n rfl ?_))))
          refine n_if2_ge c_112_14 (by omega) (by omega) ?_ ?_
          · intro h20
            refine n_iconst c_112_47 ?_
            exact n_rI c_112_48 rfl ⟨rfl, by omega⟩
          · intro h21
            exfalso; omega
        · intro h22
          refine n_iload_n c_112_28 rfl (n_iload_n c_112_29 rfl ?_)
          refine n_if2_ne c_112_30 (by omega) (by omega) ?_ ?_
          · intro h23
            refine n_iinc (L2 := [some (2, 3), some (0, i), some (2, 0), some (0, (0 + 1)), some (0, (0 + 1))]) c_112_38 rfl rfl rfl (n_iinc (L2 := [some (2, 3), some (0, i), some (2, 0), some (0, (0 + 1)), some (0, ((0 + 1) + 1))]) c_112_41 rfl rfl rfl (n_goto c_112_44 (n_iload c_112_10 rfl (n_aload_n c_112_12 rfl (n_alen c_112_13 sc_0.n rfl ?_)))))
            refine n_if2_ge c_112_14 (by omega) (by omega) ?_ ?_
            · intro h24
              refine n_iconst c_112_47 ?_
              exact n_rI c_112_48 rfl ⟨rfl, by omega⟩
            · intro h25
              exfalso; omega
          · intro h26
            refine n_aload_n c_112_33 rfl (n_iload c_112_34 rfl (n_ialoadV c_112_36 sc_0.n rfl rfl rfl (by omega) (t_0_1 hS) ?_))
            intro z27 ez27 f28
            exact n_rI c_112_37 rfl ⟨rfl, by omega⟩
    · intro h29
      refine n_iload_n c_112_28 rfl (n_iload_n c_112_29 rfl ?_)
      refine n_if2_ne c_112_30 (by omega) (by omega) ?_ ?_
      · intro h30
        refine n_iinc (L2 := [some (2, 3), some (0, i), some (2, 0), some (0, (0 + 1)), some (0, 0)]) c_112_38 rfl rfl rfl (n_iinc (L2 := [some (2, 3), some (0, i), some (2, 0), some (0, (0 + 1)), some (0, (0 + 1))]) c_112_41 rfl rfl rfl (n_goto c_112_44 (n_iload c_112_10 rfl (n_aload_n c_112_12 rfl (n_alen c_112_13 sc_0.n rfl ?_)))))
        refine n_if2_ge c_112_14 (by omega) (by omega) ?_ ?_
        · intro h31
          exfalso; omega
        · intro h32
          refine n_aload_n c_112_17 rfl (n_aload_n c_112_18 rfl (n_iload c_112_19 rfl (n_ialoadV c_112_21 sc_0.n rfl rfl rfl (by omega) (t_0_1 hS) ?_)))
          intro z33 ez33 f34
          have hcst : (z33 : Int) = 4 := by omega
          rw [hcst]
          refine n_v1I c_112_22 rfl sc_3.n rfl rfl rfl rfl (aakp4_2  hS ) ?_
          intro z35 M36 hP37
          obtain ⟨eM, f37⟩ := hP37
          subst eM
          refine n_if0_eq c_112_25 (by omega) ?_ ?_
          · intro h38
            refine n_iinc (L2 := [some (2, 3), some (0, i), some (2, 0), some (0, (0 + 1)), some (0, ((0 + 1) + 1))]) c_112_41 rfl rfl rfl (n_goto c_112_44 (n_iload c_112_10 rfl (n_aload_n c_112_12 rfl (n_alen c_112_13 sc_0.n rfl ?_))))
            refine n_if2_ge c_112_14 (by omega) (by omega) ?_ ?_
            · intro h39
              refine n_iconst c_112_47 ?_
              exact n_rI c_112_48 rfl ⟨rfl, by omega⟩
            · intro h40
              exfalso; omega
          · intro h41
            refine n_iload_n c_112_28 rfl (n_iload_n c_112_29 rfl ?_)
            refine n_if2_ne c_112_30 (by omega) (by omega) ?_ ?_
            · intro h42
              refine n_iinc (L2 := [some (2, 3), some (0, i), some (2, 0), some (0, ((0 + 1) + 1)), some (0, (0 + 1))]) c_112_38 rfl rfl rfl (n_iinc (L2 := [some (2, 3), some (0, i), some (2, 0), some (0, ((0 + 1) + 1)), some (0, ((0 + 1) + 1))]) c_112_41 rfl rfl rfl (n_goto c_112_44 (n_iload c_112_10 rfl (n_aload_n c_112_12 rfl (n_alen c_112_13 sc_0.n rfl ?_)))))
              refine n_if2_ge c_112_14 (by omega) (by omega) ?_ ?_
              · intro h43
                refine n_iconst c_112_47 ?_
                exact n_rI c_112_48 rfl ⟨rfl, by omega⟩
              · intro h44
                exfalso; omega
            · intro h45
              refine n_aload_n c_112_33 rfl (n_iload c_112_34 rfl (n_ialoadV c_112_36 sc_0.n rfl rfl rfl (by omega) (t_0_1 hS) ?_))
              intro z46 ez46 f47
              exact n_rI c_112_37 rfl ⟨rfl, by omega⟩
      · intro h48
        refine n_aload_n c_112_33 rfl (n_iload c_112_34 rfl (n_ialoadV c_112_36 sc_0.n rfl rfl rfl (by omega) (t_0_0 hS) ?_))
        intro z49 ez49 f50
        exact n_rI c_112_37 rfl ⟨rfl, by omega⟩

set_option maxHeartbeats 4000000 in
theorem signs_2_c {xs : List Int32} {e : Nat} {ac : Int} {M0 M : nM} {a : Int} (hS : Sf 2 ac M0 M) (ha : -2147483648 ≤ a ∧ a ≤ 2147483647) : ∀ nn : Nat, (1 < (nn : Int) → nW xs (e + 2) 113 19 [none, none] [] M (nPI fun z M1 => M = M1 ∧ (-2147483648 ≤ z ∧ z ≤ 2147483647))) := by
  have hd : (2 : Int) = 2 ∨ (2 : Int) = 3 := by decide
  have hac := hS.2.2.2.2
  intro nn
  induction nn with
  | zero => intros; omega
  | succ nn ih =>
    intro hnn
    refine n_iconst c_113_19 ?_
    exact n_rI c_113_20 rfl ⟨rfl, by omega⟩
set_option maxHeartbeats 4000000 in
theorem signs_2 {xs : List Int32} {e : Nat} {ac : Int} {M0 M : nM} {a : Int} (hS : Sf 2 ac M0 M) (ha : -2147483648 ≤ a ∧ a ≤ 2147483647) : nW xs (e + 2) 113 0 [some (2, 3), some (0, a)] [] M (nPI fun z M1 => M = M1 ∧ (-2147483648 ≤ z ∧ z ≤ 2147483647)) := by
  have hd : (2 : Int) = 2 ∨ (2 : Int) = 3 := by decide
  have hac := hS.2.2.2.2
  refine n_aload_n c_113_0 rfl (n_iload_n c_113_1 rfl (n_v1I c_113_2 rfl sc_3.n rfl rfl rfl rfl (isAct_2 (a := a) hS (by omega)) ?_))
  intro z1 M2 hP3
  obtain ⟨eM, f3, f3p0⟩ := hP3
  subst eM
  refine n_if0_eq c_113_5 (by omega) ?_ ?_
  · intro h4
    refine n_fg (le_n (le_n le_0)) ?_
    exact (signs_2_c hS ha 12)   (by omega)
  · intro h5
    refine n_aload_n c_113_8 rfl (n_getR c_113_9 sc_3.n rfl rfl rfl r_3_0 (n_getV (bi := 0) c_113_12 sc_4.n rfl rfl rfl (t_4_0 hS) ?_))
    intro z6 ez6 f7
    obtain rfl : z6 = 2 := by omega
    refine n_iconst c_113_15 ?_
    refine n_if2_ne c_113_16 (by omega) (by omega) ?_ ?_
    · intro h8
      refine n_aload_n c_113_21 rfl (n_getR c_113_22 sc_3.n rfl rfl rfl r_3_2 (n_iload_n c_113_25 rfl (n_aaload c_113_26 sc_12.n rfl rfl rfl (by omega) (r_acts _) ?_)))
      have q9 : ActAt (55 + 3 * a) := by unfold ActAt; omega
      have q9l : (55 + 3 * a) < 55 + 3 * ac := by omega
      refine n_v0I c_113_27 rfl q9.c0.1.n rfl rfl rfl rfl (signBits_2 (p := (55 + 3 * a)) hS q9 q9l) ?_
      intro z10 M11 hP12
      obtain ⟨eM, f12⟩ := hP12
      subst eM
      exact n_rI c_113_30 rfl ⟨rfl, by omega⟩
    · intro h13
      exfalso; omega

set_option maxHeartbeats 4000000 in
theorem whole_2_c {xs : List Int32} {e : Nat} {ac : Int} {M0 M : nM} (hS : Sf 2 ac M0 M)  : ∀ nn : Nat, (∀ (x1 x2 : Int), (0 ≤ x1 ∧ x1 ≤ 31) → (0 ≤ x2 ∧ x2 ≤ 8) → (8 - x2) * 1 + 1 < (nn : Int) → nW xs (e + 2) 114 18 [some (2, 3), some (0, x1), some (0, x2)] [] M (nPI fun z M1 => M = M1 ∧ (-2147483648 ≤ z ∧ z ≤ 2147483647))) := by
  have hd : (2 : Int) = 2 ∨ (2 : Int) = 3 := by decide
  have hac := hS.2.2.2.2
  intro nn
  induction nn with
  | zero => intros; omega
  | succ nn ih =>
    intro x1 x2 k1 k2 hnn
    refine n_iload_n c_114_18 rfl (n_aload_n c_114_19 rfl (n_getV (bi := 14) c_114_20 sc_3.n rfl rfl rfl (t_3_14x hS) ?_))
    intro z1 ez1 f2
    have f2a := t_ac hS
    refine n_if2_ge c_114_23 (by omega) (by omega) ?_ ?_
    · intro h3
      refine n_iload_n c_114_44 rfl ?_
      refine n_if0_ne c_114_45 (by omega) ?_ ?_
      · intro h4
        refine n_iconst c_114_52 ?_
        exact n_rI c_114_53 rfl ⟨rfl, by omega⟩
      · intro h5
        refine n_iconst c_114_48 (n_goto c_114_49 ?_)
        exact n_rI c_114_53 rfl ⟨rfl, by omega⟩
    · intro h6
      refine n_iload_n c_114_26 rfl (n_aload_n c_114_27 rfl (n_getR c_114_28 sc_3.n rfl rfl rfl r_3_2 (n_iload_n c_114_31 rfl (n_aaload c_114_32 sc_12.n rfl rfl rfl (by omega) (r_acts _) ?_))))
      have q7 : ActAt (55 + 3 * x2) := by unfold ActAt; omega
      have q7l : (55 + 3 * x2) < 55 + 3 * ac := by omega
      refine n_v0I c_114_33 rfl q7.c0.1.n rfl rfl rfl rfl (signBits_2 (p := (55 + 3 * x2)) hS q7 q7l) ?_
      intro z8 M9 hP10
      obtain ⟨eM, f10⟩ := hP10
      subst eM
      refine n_i_iand c_114_36 rfl ?_
      have f11 := n_and_x (x := x1) (y := z8) (by omega)
      generalize (n_and x1 z8) = z12 at f11 ⊢
      refine n_istore_n (L2 := [some (2, 3), some (0, z12), some (0, x2)]) c_114_37 rfl rfl (n_iinc (L2 := [some (2, 3), some (0, z12), some (0, (x2 + 1))]) c_114_38 rfl rfl rfl (n_goto c_114_41 (n_fg (le_s (le_s (le_s le_0))) ?_)))
      exact ih _ _ (by omega) (by omega) (by omega)
set_option maxHeartbeats 4000000 in
theorem whole_2 {xs : List Int32} {e : Nat} {ac : Int} {M0 M : nM} (hS : Sf 2 ac M0 M)  : nW xs (e + 2) 114 0 [some (2, 3), none, none] [] M (nPI fun z M1 => M = M1 ∧ (-2147483648 ≤ z ∧ z ≤ 2147483647)) := by
  have hd : (2 : Int) = 2 ∨ (2 : Int) = 3 := by decide
  have hac := hS.2.2.2.2
  refine n_aload_n c_114_0 rfl (n_getR c_114_1 sc_3.n rfl rfl rfl r_3_0 (n_getV (bi := 0) c_114_4 sc_4.n rfl rfl rfl (t_4_0 hS) ?_))
  intro z1 ez1 f2
  obtain rfl : z1 = 2 := by omega
  refine n_iconst c_114_7 ?_
  refine n_if2_ne c_114_8 (by omega) (by omega) ?_ ?_
  · intro h3
    refine n_bipush c_114_13 rfl (n_istore_n (L2 := [some (2, 3), some (0, 31), none]) c_114_15 rfl rfl (n_iconst c_114_16 (n_istore_n (L2 := [some (2, 3), some (0, 31), some (0, 0)]) c_114_17 rfl rfl (n_fg (le_s (le_s (le_s le_0))) ?_))))
    exact (whole_2_c hS  30) _ _ (by omega) (by omega) (by omega)
  · intro h4
    exfalso; omega

set_option maxHeartbeats 4000000 in
theorem restrainForm_2_c {xs : List Int32} {e : Nat} {ac : Int} {M0 M : nM} {m : Int} (hS : Sf 2 ac M0 M) (hm : -2147483648 ≤ m ∧ m ≤ 2147483647) : ∀ nn : Nat, (∀ (x2 : Int) (M : nM), Sf 2 ac M0 M → (0 ≤ x2 ∧ x2 ≤ 12) → (12 - x2) * 2 + 2 < (nn : Int) → nW xs (e + 3) 133 2 [some (2, 3), some (0, m), some (0, x2)] [] M (nPV fun M1 => Sf 2 ac M0 M1)) ∧ (∀ (x2 : Int) (M : nM), Sf 2 ac M0 M → (0 ≤ x2 ∧ x2 ≤ 11) → (12 - x2) * 2 + 1 < (nn : Int) → nW xs (e + 3) 133 39 [some (2, 3), some (0, m), some (0, x2)] [] M (nPV fun M1 => Sf 2 ac M0 M1)) := by
  have hd : (2 : Int) = 2 ∨ (2 : Int) = 3 := by decide
  have hac := hS.2.2.2.2
  intro nn
  induction nn with
  | zero => refine ⟨?_, ?_⟩ <;> (intros; omega)
  | succ nn ih =>
    refine ⟨?_, ?_⟩
    · intro x2 M hS k2 hnn
      refine n_iload_n c_133_2 rfl (n_aload_n c_133_3 rfl (n_getV (bi := 15) c_133_4 sc_3.n rfl rfl rfl (t_3_15 hS) ?_))
      intro z1 ez1 f2
      refine n_if2_ge c_133_7 (by omega) (by omega) ?_ ?_
      · intro h3
        exact n_rV c_133_45 rfl hS
      · intro h4
        refine n_iload_n c_133_10 rfl (n_iload_n c_133_11 rfl (n_i_ishr c_133_12 rfl ?_))
        have f5 := n_shr_r m x2
        generalize (n_shr m x2) = z6 at f5 ⊢
        refine n_iconst c_133_13 (n_i_iand c_133_14 rfl ?_)
        have f7 := n_and_y (x := z6) (y := 1) (by omega)
        generalize (n_and z6 1) = z8 at f7 ⊢
        refine n_if0_eq c_133_15 (by omega) ?_ ?_
        · intro h9
          refine n_fg (le_s (le_s (le_s le_0))) ?_
          exact ih.2 _ M hS (by omega) (by omega)
        · intro h10
          refine n_aload_n c_133_18 rfl (n_getR c_133_19 sc_3.n rfl rfl rfl r_3_7 (n_aload_n c_133_22 rfl (n_getR c_133_23 sc_3.n rfl rfl rfl r_3_8 (n_aload_n c_133_26 rfl (n_getR c_133_27 sc_3.n rfl rfl rfl r_3_3 (n_iload_n c_133_30 rfl (n_aaload c_133_31 sc_13.n rfl rfl rfl (by omega) (r_laws _) ?_)))))))
          have q11 : LawAt (79 + 2 * x2) := by unfold LawAt; omega
          refine n_aload_n c_133_32 rfl (n_getR c_133_33 sc_3.n rfl rfl rfl r_3_0 (n_v3V c_133_36 rfl sc_38.n rfl rfl rfl rfl (restrain_2 (w := (79 + 2 * x2)) hS q11) ?_))
          intro  M12 hP13
          have hS12 := hP13
          refine n_fg (le_s (le_s (le_s le_0))) ?_
          exact ih.2 _ M12 hS12 (by omega) (by omega)
    · intro x2 M hS k2 hnn
      refine n_iinc (L2 := [some (2, 3), some (0, m), some (0, (x2 + 1))]) c_133_39 rfl rfl rfl (n_goto c_133_42 (n_fg (le_s (le_s (le_s le_0))) ?_))
      exact ih.1 _ M hS (by omega) (by omega)
set_option maxHeartbeats 4000000 in
theorem restrainForm_2 {xs : List Int32} {e : Nat} {ac : Int} {M0 M : nM} {m : Int} (hS : Sf 2 ac M0 M) (hm : -2147483648 ≤ m ∧ m ≤ 2147483647) : nW xs (e + 3) 133 0 [some (2, 3), some (0, m), none] [] M (nPV fun M1 => Sf 2 ac M0 M1) := by
  have hd : (2 : Int) = 2 ∨ (2 : Int) = 3 := by decide
  have hac := hS.2.2.2.2
  refine n_iconst c_133_0 (n_istore_n (L2 := [some (2, 3), some (0, m), some (0, 0)]) c_133_1 rfl rfl (n_fg (le_s (le_s (le_s le_0))) ?_))
  exact (restrainForm_2_c hS hm 66).1 _ M hS (by omega) (by omega)

set_option maxHeartbeats 4000000 in
theorem solve_2_c {xs : List Int32} {e : Nat} {ac : Int} {M0 M : nM} (hS : Sf 2 ac M0 M)  : ∀ nn : Nat, (∀ (x1 : Int) (M : nM), Sf 2 ac M0 M → (0 ≤ x1 ∧ x1 ≤ 30) → (30 - x1) * 1 + 1 < (nn : Int) → nW xs (e + 30) 134 31 [some (2, 3), some (0, x1)] [] M (nPV fun M1 => Sf 2 ac M0 M1)) := by
  have hd : (2 : Int) = 2 ∨ (2 : Int) = 3 := by decide
  have hac := hS.2.2.2.2
  intro nn
  induction nn with
  | zero => intros; omega
  | succ nn ih =>
    intro x1 M hS k1 hnn
    refine n_iload_n c_134_31 rfl (n_aload_n c_134_32 rfl (n_getR c_134_33 sc_3.n rfl rfl rfl r_3_6 (n_getV (bi := 1) c_134_36 sc_32.n rfl rfl rfl (t_32_1 hS) ?_)))
    intro z1 ez1 f2
    refine n_if2_ge c_134_39 (by omega) (by omega) ?_ ?_
    · intro h3
      refine n_aload_n c_134_99 rfl (n_getR c_134_100 sc_3.n rfl rfl rfl r_3_7 (n_v0V c_134_103 rfl sc_38.n rfl rfl rfl rfl (order_2  hS ) ?_))
      intro  M4 hP5
      have hS4 := hP5
      refine n_aload_n c_134_106 rfl (n_getR c_134_107 sc_3.n rfl rfl rfl r_3_7 (n_aload_n c_134_110 rfl (n_getR c_134_111 sc_3.n rfl rfl rfl r_3_10 (n_v1V c_134_114 rfl sc_38.n rfl rfl rfl rfl (findAll48_2  hS4 ) ?_))))
      intro  M6 hP7
      have hS6 := hP7
      refine n_aload_n c_134_117 rfl (n_iconst c_134_118 (n_putZV (bi := 18) hS6 c_134_119 sc_3.n rfl rfl rfl (by omega) rfl (w_3_18 (by omega)) ?_))
      intro M8 eM8 hS8
      have g8_0 : M8 3 18 = 1 := by rw [eM8]; exact nu_s _ _ _ _
      exact n_rV c_134_122 rfl hS8
    · intro h9
      refine n_aload_n c_134_42 rfl (n_getR c_134_43 sc_3.n rfl rfl rfl r_3_7 (n_aload_n c_134_46 rfl (n_getR c_134_47 sc_3.n rfl rfl rfl r_3_6 (n_getR c_134_50 sc_32.n rfl rfl rfl r_32_3 (n_iload_n c_134_53 rfl (n_ialoadV c_134_54 sc_34.n rfl rfl rfl (by omega) (t_34 hS (by omega)) ?_))))))
      intro z10 ez10 f11
      refine n_aload_n c_134_55 rfl (n_getR c_134_56 sc_3.n rfl rfl rfl r_3_6 (n_getR c_134_59 sc_32.n rfl rfl rfl r_32_4 (n_iload_n c_134_62 rfl (n_ialoadV c_134_63 sc_35.n rfl rfl rfl (by omega) (t_35 hS (by omega)) ?_))))
      intro z12 ez12 f13
      refine n_aload_n c_134_64 rfl (n_getR c_134_65 sc_3.n rfl rfl rfl r_3_6 (n_getR c_134_68 sc_32.n rfl rfl rfl r_32_5 (n_iload_n c_134_71 rfl (n_ialoadV c_134_72 sc_36.n rfl rfl rfl (by omega) (t_36 hS (by omega)) ?_))))
      intro z14 ez14 f15
      refine n_aload_n c_134_73 rfl (n_getR c_134_74 sc_3.n rfl rfl rfl r_3_3 (n_aload_n c_134_77 rfl (n_getR c_134_78 sc_3.n rfl rfl rfl r_3_6 (n_getR c_134_81 sc_32.n rfl rfl rfl r_32_2 (n_iload_n c_134_84 rfl (n_ialoadV c_134_85 sc_33.n rfl rfl rfl (by omega) (t_33 hS (by omega)) ?_))))))
      intro z16 ez16 f17
      refine n_aaload c_134_86 sc_13.n rfl rfl rfl (by omega) (r_laws _) ?_
      have q18 : LawAt (79 + 2 * z16) := by unfold LawAt; omega
      refine n_getV (bi := 2) c_134_87 q18.c0.1.n rfl rfl rfl (t_law hS q18).2.2.1 ?_
      intro z19 ez19 f20
      refine n_v4V c_134_90 rfl sc_38.n rfl rfl rfl rfl (limit_2 (p := z10) (q := z12) (r := z14) (w := z19) hS (by omega) (by omega) (by omega) (by omega)) ?_
      intro  M21 hP22
      have hS21 := hP22
      refine n_iinc (L2 := [some (2, 3), some (0, (x1 + 1))]) c_134_93 rfl rfl rfl (n_goto c_134_96 (n_fg (le_s (le_s le_0)) ?_))
      exact ih _ M21 hS21 (by omega) (by omega)
set_option maxHeartbeats 4000000 in
theorem solve_2 {xs : List Int32} {e : Nat} {ac : Int} {M0 M : nM} (hS : Sf 2 ac M0 M)  : nW xs (e + 30) 134 0 [some (2, 3), none] [] M (nPV fun M1 => Sf 2 ac M0 M1) := by
  have hd : (2 : Int) = 2 ∨ (2 : Int) = 3 := by decide
  have hac := hS.2.2.2.2
  refine n_aload_n c_134_0 rfl (n_getV (bi := 18) c_134_1 sc_3.n rfl rfl rfl (t_3_18 hS) ?_)
  intro z1 ez1 f2
  refine n_if0_eq c_134_4 (by omega) ?_ ?_
  · intro h3
    refine n_aload_n c_134_8 rfl (n_getR c_134_9 sc_3.n rfl rfl rfl r_3_7 (n_aload_n c_134_12 rfl (n_getR c_134_13 sc_3.n rfl rfl rfl r_3_0 (n_getV (bi := 0) c_134_16 sc_4.n rfl rfl rfl (t_4_0 hS) ?_))))
    intro z4 ez4 f5
    obtain rfl : z4 = 2 := by omega
    refine n_aload_n c_134_19 rfl (n_getR c_134_20 sc_3.n rfl rfl rfl r_3_6 (n_getV (bi := 0) c_134_23 sc_32.n rfl rfl rfl (t_32_0 hS) ?_))
    intro z6 ez6 f7
    refine n_v2V c_134_26 rfl sc_38.n rfl rfl rfl rfl (nstart_2 (c := z6) hS (by omega)) ?_
    intro  M8 hP9
    have hS8 := hP9
    refine n_iconst c_134_29 (n_istore_n (L2 := [some (2, 3), some (0, 0)]) c_134_30 rfl rfl (n_fg (le_s (le_s le_0)) ?_))
    exact (solve_2_c hS  74) _ M8 hS8 (by omega) (by omega)
  · intro h10
    exact n_rV c_134_7 rfl hS

set_option maxHeartbeats 4000000 in
theorem answers_2 {xs : List Int32} {e : Nat} {ac : Int} {M0 M : nM} (hS : Sf 2 ac M0 M)  : nW xs (e + 31) 118 0 [some (2, 3)] [] M (nPI fun z M1 => Sf 2 ac M0 M1 ∧ (-2147483648 ≤ z ∧ z ≤ 2147483647)) := by
  have hd : (2 : Int) = 2 ∨ (2 : Int) = 3 := by decide
  have hac := hS.2.2.2.2
  refine n_aload_n c_118_0 rfl (n_v0V c_118_1 rfl sc_3.n rfl rfl rfl rfl (solve_2  hS ) ?_)
  intro  M1 hP2
  have hS1 := hP2
  refine n_aload_n c_118_4 rfl (n_getR c_118_5 sc_3.n rfl rfl rfl r_3_10 (n_getV (bi := 1) c_118_8 sc_48.n rfl rfl rfl (t_48_1 hS1) ?_))
  intro z3 ez3 f4
  exact n_rI c_118_11 rfl ⟨hS1, by omega⟩

set_option maxHeartbeats 4000000 in
theorem answer_2 {xs : List Int32} {e : Nat} {ac : Int} {M0 M : nM} {i : Int} (hS : Sf 2 ac M0 M) (hi : -2147483648 ≤ i ∧ i ≤ 2147483647) : nW xs (e + 31) 119 0 [some (2, 3), some (0, i)] [] M (nPI fun z M1 => Sf 2 ac M0 M1 ∧ (-2147483648 ≤ z ∧ z ≤ 2147483647)) := by
  have hd : (2 : Int) = 2 ∨ (2 : Int) = 3 := by decide
  have hac := hS.2.2.2.2
  refine n_aload_n c_119_0 rfl (n_v0V c_119_1 rfl sc_3.n rfl rfl rfl rfl (solve_2  hS ) ?_)
  intro  M1 hP2
  have hS1 := hP2
  refine n_aload_n c_119_4 rfl (n_getR c_119_5 sc_3.n rfl rfl rfl r_3_10 (n_iload_n c_119_8 rfl (n_v1I c_119_9 rfl sc_48.n rfl rfl rfl rfl (nth48_2 (i := i) hS1 (by omega)) ?_)))
  intro z3 M4 hP5
  obtain ⟨eM, f5⟩ := hP5
  subst eM
  exact n_rI c_119_12 rfl ⟨hS1, by omega⟩

set_option maxHeartbeats 4000000 in
theorem narrowed_2 {xs : List Int32} {e : Nat} {ac : Int} {M0 M : nM} {u : Int} (hS : Sf 2 ac M0 M) (hu : -2147483648 ≤ u ∧ u ≤ 2147483647) : nW xs (e + 4) 117 0 [some (2, 3), some (0, u)] [] M (nPI fun z M1 => Sf 2 ac M0 M1 ∧ (-2147483648 ≤ z ∧ z ≤ 2147483647)) := by
  have hd : (2 : Int) = 2 ∨ (2 : Int) = 3 := by decide
  have hac := hS.2.2.2.2
  refine n_aload_n c_117_0 rfl (n_getR c_117_1 sc_3.n rfl rfl rfl r_3_6 (n_iload_n c_117_4 rfl (n_v1I c_117_5 rfl sc_32.n rfl rfl rfl rfl (isUnknown_2 (u := u) hS (by omega)) ?_)))
  intro z1 M2 hP3
  obtain ⟨eM, f3, f3p0⟩ := hP3
  subst eM
  refine n_if0_ne c_117_8 (by omega) ?_ ?_
  · intro h4
    refine n_aload_n c_117_13 rfl (n_getR c_117_14 sc_3.n rfl rfl rfl r_3_6 (n_aload_n c_117_17 rfl (n_getR c_117_18 sc_3.n rfl rfl rfl r_3_3 (n_aload_n c_117_21 rfl (n_getR c_117_22 sc_3.n rfl rfl rfl r_3_0 (n_v2V c_117_25 rfl sc_32.n rfl rfl rfl rfl (narrow_2  hS ) ?_))))))
    intro  M5 hP6
    have hS5 := hP6
    refine n_aload_n c_117_28 rfl (n_getR c_117_29 sc_3.n rfl rfl rfl r_3_6 (n_getR c_117_32 sc_32.n rfl rfl rfl r_32_6 (n_iload_n c_117_35 rfl (n_ialoadV c_117_36 sc_37.n rfl rfl rfl (by omega) (t_37 hS5 (by omega)) ?_))))
    intro z7 ez7 f8
    exact n_rI c_117_37 rfl ⟨hS5, by omega⟩
  · intro h9
    refine n_iconst c_117_11 ?_
    exact n_rI c_117_12 rfl ⟨hS, by omega⟩

set_option maxHeartbeats 4000000 in
theorem quick_2_c {xs : List Int32} {e : Nat} {ac : Int} {M0 M : nM} {k : Int} (hS : Sf 2 ac M0 M) (hk : -2147483648 ≤ k ∧ k ≤ 2147483647) : ∀ nn : Nat, (∀ (M : nM), Sf 2 ac M0 M → 1 < (nn : Int) → nW xs (e + 31) 120 60 [some (2, 3), none] [] M (nPJ fun z M1 => Sf 2 ac M0 M1 ∧ (-9223372036854775808 ≤ z ∧ z ≤ 9223372036854775807))) := by
  have hd : (2 : Int) = 2 ∨ (2 : Int) = 3 := by decide
  have hac := hS.2.2.2.2
  intro nn
  induction nn with
  | zero => intros; omega
  | succ nn ih =>
    intro M hS hnn
    refine n_aload_n c_120_60 rfl (n_getR c_120_61 sc_3.n rfl rfl rfl r_3_7 (n_aload_n c_120_64 rfl (n_getR c_120_65 sc_3.n rfl rfl rfl r_3_0 (n_getV (bi := 0) c_120_68 sc_4.n rfl rfl rfl (t_4_0 hS) ?_))))
    intro z1 ez1 f2
    obtain rfl : z1 = 2 := by omega
    refine n_aload_n c_120_71 rfl (n_getR c_120_72 sc_3.n rfl rfl rfl r_3_8 (n_getV (bi := 2) c_120_75 sc_44.n rfl rfl rfl (t_44_2 hS) ?_))
    intro z3 ez3 f4
    refine n_v2V c_120_78 rfl sc_38.n rfl rfl rfl rfl (nstart_2 (c := z3) hS (by omega)) ?_
    intro  M5 hP6
    have hS5 := hP6
    refine n_aload_n c_120_81 rfl (n_aload_n c_120_82 rfl (n_getR c_120_83 sc_3.n rfl rfl rfl r_3_6 (n_v0I c_120_86 rfl sc_32.n rfl rfl rfl rfl (lawMask_2  hS5 ) ?_)))
    intro z7 M8 hP9
    obtain ⟨eM, f9⟩ := hP9
    subst eM
    refine n_v1V c_120_89 rfl sc_3.n rfl rfl rfl rfl (restrainForm_2 (m := z7) hS5 (by omega)) ?_
    intro  M10 hP11
    have hS10 := hP11
    refine n_aload_n c_120_92 rfl (n_getR c_120_93 sc_3.n rfl rfl rfl r_3_7 (n_v0V c_120_96 rfl sc_38.n rfl rfl rfl rfl (order_2  hS10 ) ?_))
    intro  M12 hP13
    have hS12 := hP13
    refine n_aload_n c_120_99 rfl (n_getR c_120_100 sc_3.n rfl rfl rfl r_3_7 (n_aload_n c_120_103 rfl (n_getR c_120_104 sc_3.n rfl rfl rfl r_3_8 (n_v1I c_120_107 rfl sc_38.n rfl rfl rfl rfl (findFirst_2  hS12 ) ?_))))
    intro z14 M15 hP16
    obtain ⟨hS15, f16⟩ := hP16
    refine n_if0_eq c_120_110 (by omega) ?_ ?_
    · intro h17
      refine n_ldc2 (n := (-7)) c_120_134 rfl ?_
      exact n_rJ c_120_137 rfl ⟨hS15, by omega⟩
    · intro h18
      refine n_aload_n c_120_113 rfl (n_getR c_120_114 sc_3.n rfl rfl rfl r_3_8 (n_aload_n c_120_117 rfl (n_getR c_120_118 sc_3.n rfl rfl rfl r_3_7 (n_getR c_120_121 sc_38.n rfl rfl rfl r_38_0 (n_aload_n c_120_124 rfl (n_getR c_120_125 sc_3.n rfl rfl rfl r_3_0 (n_v2J c_120_128 rfl sc_44.n rfl rfl rfl rfl (fcode_2  hS15 ) ?_)))))))
      intro z19 M20 hP21
      obtain ⟨eM, f21⟩ := hP21
      subst eM
      refine n_goto c_120_131 ?_
      exact n_rJ c_120_137 rfl ⟨hS15, by omega⟩
set_option maxHeartbeats 4000000 in
theorem quick_2 {xs : List Int32} {e : Nat} {ac : Int} {M0 M : nM} {k : Int} (hS : Sf 2 ac M0 M) (hk : -2147483648 ≤ k ∧ k ≤ 2147483647) : nW xs (e + 31) 120 0 [some (2, 3), some (0, k)] [] M (nPJ fun z M1 => Sf 2 ac M0 M1 ∧ (-9223372036854775808 ≤ z ∧ z ≤ 9223372036854775807)) := by
  have hd : (2 : Int) = 2 ∨ (2 : Int) = 3 := by decide
  have hac := hS.2.2.2.2
  refine n_iload_n c_120_0 rfl ?_
  refine n_if0_ne c_120_1 (by omega) ?_ ?_
  · intro h1
    refine n_iload_n c_120_18 rfl (n_iconst c_120_19 ?_)
    refine n_if2_ne c_120_20 (by omega) (by omega) ?_ ?_
    · intro h2
      refine n_iload_n c_120_37 rfl (n_iconst c_120_38 ?_)
      refine n_if2_ne c_120_39 (by omega) (by omega) ?_ ?_
      · intro h3
        refine n_ldc2 (n := (-1)) c_120_56 rfl ?_
        exact n_rJ c_120_59 rfl ⟨hS, by omega⟩
      · intro h4
        refine n_aload_n c_120_42 rfl (n_getR c_120_43 sc_3.n rfl rfl rfl r_3_8 (n_aload_n c_120_46 rfl (n_getR c_120_47 sc_3.n rfl rfl rfl r_3_0 (n_v1V c_120_50 rfl sc_44.n rfl rfl rfl rfl (beSum_2  hS ) ?_))))
        intro  M5 hP6
        have hS5 := hP6
        refine n_goto c_120_53 (n_fg (le_s (le_n le_0)) ?_)
        exact (quick_2_c hS hk 12)  M5 hS5  (by omega)
    · intro h7
      refine n_aload_n c_120_23 rfl (n_getR c_120_24 sc_3.n rfl rfl rfl r_3_8 (n_aload_n c_120_27 rfl (n_getR c_120_28 sc_3.n rfl rfl rfl r_3_0 (n_v1V c_120_31 rfl sc_44.n rfl rfl rfl rfl (beMost_2  hS ) ?_))))
      intro  M8 hP9
      have hS8 := hP9
      refine n_goto c_120_34 (n_fg (le_s (le_n le_0)) ?_)
      exact (quick_2_c hS hk 12)  M8 hS8  (by omega)
  · intro h10
    refine n_aload_n c_120_4 rfl (n_getR c_120_5 sc_3.n rfl rfl rfl r_3_8 (n_aload_n c_120_8 rfl (n_getR c_120_9 sc_3.n rfl rfl rfl r_3_0 (n_v1V c_120_12 rfl sc_44.n rfl rfl rfl rfl (beHalf_2  hS ) ?_))))
    intro  M11 hP12
    have hS11 := hP12
    refine n_goto c_120_15 (n_fg (le_s (le_n le_0)) ?_)
    exact (quick_2_c hS hk 12)  M11 hS11  (by omega)

set_option maxHeartbeats 4000000 in
theorem count_2 {xs : List Int32} {e : Nat} {ac : Int} {M0 M : nM} {w : Int} (hS : Sf 2 ac M0 M) (hw : -2147483648 ≤ w ∧ w ≤ 2147483647) : nW xs (e + 1) 121 0 [some (2, 3), some (0, w)] [] M (nPI fun z M1 => M = M1 ∧ (-2147483648 ≤ z ∧ z ≤ 2147483647)) := by
  have hd : (2 : Int) = 2 ∨ (2 : Int) = 3 := by decide
  have hac := hS.2.2.2.2
  refine n_iload_n c_121_0 rfl ?_
  refine n_sw c_121_1 (by omega) (by decide) ?_ ?_
  · intro h1
    refine n_pc (k2 := 82) rfl (n_iconst c_121_82 ?_)
    exact n_rI c_121_83 rfl ⟨rfl, by omega⟩
  · intro h2 h2b
    rcases (show w = 0 ∨ w = 1 ∨ w = 2 ∨ w = 3 ∨ w = 4 ∨ w = 5 by omega) with h2c | h2c | h2c | h2c | h2c | h2c
    · refine ⟨_, by rw [h2c]; rfl, by decide, ?_⟩
      refine n_pc (k2 := 40) rfl (n_aload_n c_121_40 rfl (n_getR c_121_41 sc_3.n rfl rfl rfl r_3_0 (n_getV (bi := 0) c_121_44 sc_4.n rfl rfl rfl (t_4_0 hS) ?_)))
      intro z3 ez3 f4
      obtain rfl : z3 = 2 := by omega
      exact n_rI c_121_47 rfl ⟨rfl, by omega⟩
    · refine ⟨_, by rw [h2c]; rfl, by decide, ?_⟩
      refine n_pc (k2 := 48) rfl (n_aload_n c_121_48 rfl (n_getV (bi := 14) c_121_49 sc_3.n rfl rfl rfl (t_3_14x hS) ?_))
      intro z5 ez5 f6
      have f6a := t_ac hS
      exact n_rI c_121_52 rfl ⟨rfl, by omega⟩
    · refine ⟨_, by rw [h2c]; rfl, by decide, ?_⟩
      refine n_pc (k2 := 53) rfl (n_aload_n c_121_53 rfl (n_getV (bi := 15) c_121_54 sc_3.n rfl rfl rfl (t_3_15 hS) ?_))
      intro z7 ez7 f8
      exact n_rI c_121_57 rfl ⟨rfl, by omega⟩
    · refine ⟨_, by rw [h2c]; rfl, by decide, ?_⟩
      refine n_pc (k2 := 58) rfl (n_aload_n c_121_58 rfl (n_getR c_121_59 sc_3.n rfl rfl rfl r_3_6 (n_getV (bi := 0) c_121_62 sc_32.n rfl rfl rfl (t_32_0 hS) ?_)))
      intro z9 ez9 f10
      exact n_rI c_121_65 rfl ⟨rfl, by omega⟩
    · refine ⟨_, by rw [h2c]; rfl, by decide, ?_⟩
      refine n_pc (k2 := 66) rfl (n_aload_n c_121_66 rfl (n_getR c_121_67 sc_3.n rfl rfl rfl r_3_6 (n_getV (bi := 1) c_121_70 sc_32.n rfl rfl rfl (t_32_1 hS) ?_)))
      intro z11 ez11 f12
      exact n_rI c_121_73 rfl ⟨rfl, by omega⟩
    · refine ⟨_, by rw [h2c]; rfl, by decide, ?_⟩
      refine n_pc (k2 := 74) rfl (n_aload_n c_121_74 rfl (n_getR c_121_75 sc_3.n rfl rfl rfl r_3_1 (n_v0I c_121_78 rfl sc_8.n rfl rfl rfl rfl (filled_2  hS ) ?_)))
      intro z13 M14 hP15
      obtain ⟨eM, f15⟩ := hP15
      subst eM
      exact n_rI c_121_81 rfl ⟨rfl, by omega⟩

set_option maxHeartbeats 4000000 in
theorem cut_2 {xs : List Int32} {e : Nat} {ac : Int} {M0 M : nM} {v w : Int} (hS : Sf 2 ac M0 M) (hv : -9223372036854775808 ≤ v ∧ v ≤ 9223372036854775807) (hw : -2147483648 ≤ w ∧ w ≤ 2147483647) : nW xs e 91 0 [some (2, 8), some (1, v), none, some (0, w)] [] M (nPJ fun z M1 => M = M1 ∧ (-9223372036854775808 ≤ z ∧ z ≤ 9223372036854775807)) := by
  have hd : (2 : Int) = 2 ∨ (2 : Int) = 3 := by decide
  have hac := hS.2.2.2.2
  refine n_iload_n c_91_0 rfl ?_
  refine n_sw c_91_1 (by omega) (by decide) ?_ ?_
  · intro h1
    refine n_pc (k2 := 42) rfl (n_lload_n c_91_42 rfl ?_)
    exact n_rJ c_91_43 rfl ⟨rfl, by omega⟩
  · intro h2 h2b
    rcases (show w = 0 ∨ w = 1 ∨ w = 2 by omega) with h2c | h2c | h2c
    · refine ⟨_, by rw [h2c]; rfl, by decide, ?_⟩
      refine n_pc (k2 := 28) rfl (n_lload_n c_91_28 rfl (n_l2i c_91_29 (n_wrap ?_)))
      have f3 := n_wr_r v
      generalize n_wr v = z4 at f3 ⊢
      refine n_i2b c_91_30 ?_
      have f5 := n_2b_r z4
      generalize n_2b z4 = z6 at f5 ⊢
      refine n_i2l c_91_31 (by omega) ?_
      exact n_rJ c_91_32 rfl ⟨rfl, by omega⟩
    · refine ⟨_, by rw [h2c]; rfl, by decide, ?_⟩
      refine n_pc (k2 := 33) rfl (n_lload_n c_91_33 rfl (n_l2i c_91_34 (n_wrap ?_)))
      have f7 := n_wr_r v
      generalize n_wr v = z8 at f7 ⊢
      refine n_i2s c_91_35 ?_
      have f9 := n_2s_r z8
      generalize n_2s z8 = z10 at f9 ⊢
      refine n_i2l c_91_36 (by omega) ?_
      exact n_rJ c_91_37 rfl ⟨rfl, by omega⟩
    · refine ⟨_, by rw [h2c]; rfl, by decide, ?_⟩
      refine n_pc (k2 := 38) rfl (n_lload_n c_91_38 rfl (n_l2i c_91_39 (n_wrap ?_)))
      have f11 := n_wr_r v
      generalize n_wr v = z12 at f11 ⊢
      refine n_i2l c_91_40 (by omega) ?_
      exact n_rJ c_91_41 rfl ⟨rfl, by omega⟩

set_option maxHeartbeats 4000000 in
theorem lay_2_c {xs : List Int32} {e : Nat} {ac : Int} {M : nM} {s w n : Int} (hS : Sf 2 ac M M) (hs : 0 ≤ s ∧ s ≤ 7) (hw : 0 ≤ w ∧ w ≤ 3) (hn : 0 ≤ n ∧ n ≤ 40) : ∀ nn : Nat, (∀ (x4 : Int) (M : nM), Sf 2 ac M M → (0 ≤ x4 ∧ x4 ≤ 40) → (40 - x4) * 1 + 1 < (nn : Int) → nW xs e 86 17 [some (2, 8), some (0, s), none, none, some (0, x4)] [] M (nPV fun M1 => Sf 2 ac M1 M1)) := by
  have hd : (2 : Int) = 2 ∨ (2 : Int) = 3 := by decide
  have hac := hS.2.2.2.2
  intro nn
  induction nn with
  | zero => intros; omega
  | succ nn ih =>
    intro x4 M hS k4 hnn
    refine n_iload c_86_17 rfl (n_bipush c_86_19 rfl ?_)
    refine n_if2_ge c_86_21 (by omega) (by omega) ?_ ?_
    · intro h1
      exact n_rV c_86_43 rfl hS
    · intro h2
      refine n_aload_n c_86_24 rfl (n_getR c_86_25 sc_8.n rfl rfl rfl r_8_0 (n_iload_n c_86_28 rfl (n_bipush c_86_29 rfl (n_imul c_86_31 rfl (n_iload c_86_32 rfl (n_iadd c_86_34 rfl (n_lconst (n := 0) c_86_35 rfl (n_lastoreM hS c_86_36 sc_9.n rfl (by omega) (m_9 (by omega) (by omega)) ?_))))))))
      intro M3 eM3 hS3
      refine n_iinc (L2 := [some (2, 8), some (0, s), none, none, some (0, (x4 + 1))]) c_86_37 rfl rfl rfl (n_goto c_86_40 (n_fg (le_s (le_s (le_n (le_n (le_s le_0))))) ?_))
      exact ih _ M3 hS3 (by omega) (by omega)
set_option maxHeartbeats 4000000 in
theorem lay_2 {xs : List Int32} {e : Nat} {ac : Int} {M : nM} {s w n : Int} (hS : Sf 2 ac M M) (hs : 0 ≤ s ∧ s ≤ 7) (hw : 0 ≤ w ∧ w ≤ 3) (hn : 0 ≤ n ∧ n ≤ 40) : nW xs e 86 0 [some (2, 8), some (0, s), some (0, w), some (0, n), none] [] M (nPV fun M1 => Sf 2 ac M1 M1) := by
  have hd : (2 : Int) = 2 ∨ (2 : Int) = 3 := by decide
  have hac := hS.2.2.2.2
  refine n_aload_n c_86_0 rfl (n_getR c_86_1 sc_8.n rfl rfl rfl r_8_1 (n_iload_n c_86_4 rfl (n_iload_n c_86_5 rfl (n_iastoreM hS c_86_6 sc_10.n rfl (by omega) (m_10 (by omega) (by omega)) ?_))))
  intro M1 eM1 hS1
  refine n_aload_n c_86_7 rfl (n_getR c_86_8 sc_8.n rfl rfl rfl r_8_2 (n_iload_n c_86_11 rfl (n_iload_n c_86_12 rfl (n_iastoreM hS1 c_86_13 sc_11.n rfl (by omega) (m_11 (by omega) (by omega)) ?_))))
  intro M2 eM2 hS2
  refine n_iconst c_86_14 (n_istore (L2 := [some (2, 8), some (0, s), some (0, w), some (0, n), some (0, 0)]) c_86_15 rfl rfl (n_fg (le_s (le_s (le_n (le_n (le_s le_0))))) ?_))
  exact (lay_2_c hS hs hw hn 94) _ M2 hS2 (by omega) (by omega)

set_option maxHeartbeats 4000000 in
theorem empty_2 {xs : List Int32} {e : Nat} {ac : Int} {M : nM} {s : Int} (hS : Sf 2 ac M M) (hs : 0 ≤ s ∧ s ≤ 7) : nW xs e 87 0 [some (2, 8), some (0, s)] [] M (nPV fun M1 => Sf 2 ac M1 M1) := by
  have hd : (2 : Int) = 2 ∨ (2 : Int) = 3 := by decide
  have hac := hS.2.2.2.2
  refine n_aload_n c_87_0 rfl (n_getR c_87_1 sc_8.n rfl rfl rfl r_8_2 (n_iload_n c_87_4 rfl (n_iconst c_87_5 (n_iastoreM hS c_87_6 sc_11.n rfl (by omega) (m_11 (by omega) (by omega)) ?_))))
  intro M1 eM1 hS1
  exact n_rV c_87_7 rfl hS1

set_option maxHeartbeats 4000000 in
theorem put_2_c {xs : List Int32} {e : Nat} {ac : Int} {M : nM} {s i v : Int} (hS : Sf 2 ac M M) (hs : 0 ≤ s ∧ s ≤ 7) (hi : -2147483648 ≤ i ∧ i ≤ 2147483647) (hv : -9223372036854775808 ≤ v ∧ v ≤ 9223372036854775807) : ∀ nn : Nat, (∀ (M : nM), Sf 2 ac M M → 1 < (nn : Int) → nW xs (e + 1) 88 14 [none, none, none, none, none] [] M (nPI fun z M1 => Sf 2 ac M1 M1 ∧ (0 ≤ z ∧ z ≤ 1))) := by
  have hd : (2 : Int) = 2 ∨ (2 : Int) = 3 := by decide
  have hac := hS.2.2.2.2
  intro nn
  induction nn with
  | zero => intros; omega
  | succ nn ih =>
    intro M hS hnn
    refine n_iconst c_88_14 ?_
    exact n_rZ c_88_15 rfl (by omega) ⟨hS, by omega⟩
set_option maxHeartbeats 4000000 in
theorem put_2 {xs : List Int32} {e : Nat} {ac : Int} {M : nM} {s i v : Int} (hS : Sf 2 ac M M) (hs : 0 ≤ s ∧ s ≤ 7) (hi : -2147483648 ≤ i ∧ i ≤ 2147483647) (hv : -9223372036854775808 ≤ v ∧ v ≤ 9223372036854775807) : nW xs (e + 1) 88 0 [some (2, 8), some (0, s), some (0, i), some (1, v), none] [] M (nPI fun z M1 => Sf 2 ac M1 M1 ∧ (0 ≤ z ∧ z ≤ 1)) := by
  have hd : (2 : Int) = 2 ∨ (2 : Int) = 3 := by decide
  have hac := hS.2.2.2.2
  refine n_iload_n c_88_0 rfl ?_
  refine n_if0_lt c_88_1 (by omega) ?_ ?_
  · intro h1
    refine n_fg (le_n (le_n (le_n (le_n (le_n le_0))))) ?_
    exact (put_2_c hS hs hi hv 12)  M hS  (by omega)
  · intro h2
    refine n_iload_n c_88_4 rfl (n_aload_n c_88_5 rfl (n_getR c_88_6 sc_8.n rfl rfl rfl r_8_2 (n_iload_n c_88_9 rfl (n_ialoadV c_88_10 sc_11.n rfl rfl rfl (by omega) (t_11 hS (by omega)) ?_))))
    intro z3 ez3 f4
    refine n_if2_lt c_88_11 (by omega) (by omega) ?_ ?_
    · intro h5
      refine n_aload_n c_88_16 rfl (n_getR c_88_17 sc_8.n rfl rfl rfl r_8_0 (n_iload_n c_88_20 rfl (n_bipush c_88_21 rfl (n_imul c_88_23 rfl (n_iload_n c_88_24 rfl (n_iadd c_88_25 rfl (n_aload_n c_88_26 rfl (n_lload_n c_88_27 rfl (n_aload_n c_88_28 rfl (n_getR c_88_29 sc_8.n rfl rfl rfl r_8_1 (n_iload_n c_88_32 rfl ?_)))))))))))
      refine n_ialoadV c_88_33 sc_10.n rfl rfl rfl (by omega) (t_10 hS (by omega)) ?_
      intro z6 ez6 f7
      refine n_v2J c_88_34 rfl sc_8.n rfl rfl rfl rfl (cut_2 (v := v) (w := z6) hS (by omega) (by omega)) ?_
      intro z8 M9 hP10
      obtain ⟨eM, f10⟩ := hP10
      subst eM
      refine n_lastoreM hS c_88_37 sc_9.n rfl (by omega) (m_9 (by omega) (by omega)) ?_
      intro M11 eM11 hS11
      have g11_0 : M11 11 s = M 11 s := by rw [eM11]; exact nu_a (by omega)
      refine n_iconst c_88_38 ?_
      exact n_rZ c_88_39 rfl (by omega) ⟨hS11, by omega⟩
    · intro h12
      refine n_fg (le_n (le_n (le_n (le_n (le_n le_0))))) ?_
      exact (put_2_c hS hs hi hv 12)  M hS  (by omega)

set_option maxHeartbeats 4000000 in
theorem row_2_c {xs : List Int32} {e : Nat} {ac : Int} {M : nM} {s w n : Int} (hS : Sf 2 ac M M) (hs : -2147483648 ≤ s ∧ s ≤ 2147483647) (hw : -2147483648 ≤ w ∧ w ≤ 2147483647) (hn : -2147483648 ≤ n ∧ n ≤ 2147483647) : ∀ nn : Nat, (∀ (M : nM), Sf 2 ac M M → 1 < (nn : Int) → nW xs (e + 1) 94 26 [none, none, none, none] [] M (nPI fun z M1 => Sf 2 ac M1 M1 ∧ (-2147483648 ≤ z ∧ z ≤ 2147483647))) := by
  have hd : (2 : Int) = 2 ∨ (2 : Int) = 3 := by decide
  have hac := hS.2.2.2.2
  intro nn
  induction nn with
  | zero => intros; omega
  | succ nn ih =>
    intro M hS hnn
    refine n_bipush c_94_26 rfl ?_
    exact n_rI c_94_28 rfl ⟨hS, by omega⟩
set_option maxHeartbeats 4000000 in
theorem row_2 {xs : List Int32} {e : Nat} {ac : Int} {M : nM} {s w n : Int} (hS : Sf 2 ac M M) (hs : -2147483648 ≤ s ∧ s ≤ 2147483647) (hw : -2147483648 ≤ w ∧ w ≤ 2147483647) (hn : -2147483648 ≤ n ∧ n ≤ 2147483647) : nW xs (e + 1) 94 0 [some (2, 3), some (0, s), some (0, w), some (0, n)] [] M (nPI fun z M1 => Sf 2 ac M1 M1 ∧ (-2147483648 ≤ z ∧ z ≤ 2147483647)) := by
  have hd : (2 : Int) = 2 ∨ (2 : Int) = 3 := by decide
  have hac := hS.2.2.2.2
  refine n_aload_n c_94_0 rfl (n_getR c_94_1 sc_3.n rfl rfl rfl r_3_1 (n_iload_n c_94_4 rfl (n_v1I c_94_5 rfl sc_8.n rfl rfl rfl rfl (isSlot_2 (s := s) hS (by omega)) ?_)))
  intro z1 M2 hP3
  obtain ⟨eM, f3, f3p0⟩ := hP3
  subst eM
  refine n_if0_eq c_94_8 (by omega) ?_ ?_
  · intro h4
    refine n_fg (le_n (le_n (le_n (le_n le_0)))) ?_
    exact (row_2_c hS hs hw hn 12)  M hS  (by omega)
  · intro h5
    refine n_iload_n c_94_11 rfl ?_
    refine n_if0_lt c_94_12 (by omega) ?_ ?_
    · intro h6
      refine n_fg (le_n (le_n (le_n (le_n le_0)))) ?_
      exact (row_2_c hS hs hw hn 12)  M hS  (by omega)
    · intro h7
      refine n_iload_n c_94_15 rfl (n_iconst c_94_16 ?_)
      refine n_if2_gt c_94_17 (by omega) (by omega) ?_ ?_
      · intro h8
        refine n_fg (le_n (le_n (le_n (le_n le_0)))) ?_
        exact (row_2_c hS hs hw hn 12)  M hS  (by omega)
      · intro h9
        refine n_iload_n c_94_20 rfl (n_bipush c_94_21 rfl ?_)
        refine n_if2_le c_94_23 (by omega) (by omega) ?_ ?_
        · intro h10
          refine n_iload_n c_94_29 rfl ?_
          refine n_if0_ge c_94_30 (by omega) ?_ ?_
          · intro h11
            refine n_aload_n c_94_36 rfl (n_getR c_94_37 sc_3.n rfl rfl rfl r_3_1 (n_iload_n c_94_40 rfl (n_iload_n c_94_41 rfl (n_iload_n c_94_42 rfl (n_v3V c_94_43 rfl sc_8.n rfl rfl rfl rfl (lay_2 (s := s) (w := w) (n := n) hS (by omega) (by omega) (by omega)) ?_)))))
            intro  M12 hP13
            have hS12 := hP13
            refine n_iconst c_94_46 ?_
            exact n_rI c_94_47 rfl ⟨hS12, by omega⟩
          · intro h14
            refine n_bipush c_94_33 rfl ?_
            exact n_rI c_94_35 rfl ⟨hS, by omega⟩
        · intro h15
          refine n_fg (le_n (le_n (le_n (le_n le_0)))) ?_
          exact (row_2_c hS hs hw hn 12)  M hS  (by omega)

set_option maxHeartbeats 4000000 in
theorem tear_2 {xs : List Int32} {e : Nat} {ac : Int} {M : nM} {s : Int} (hS : Sf 2 ac M M) (hs : -2147483648 ≤ s ∧ s ≤ 2147483647) : nW xs (e + 2) 95 0 [some (2, 3), some (0, s)] [] M (nPI fun z M1 => Sf 2 ac M1 M1 ∧ (0 ≤ z ∧ z ≤ 1)) := by
  have hd : (2 : Int) = 2 ∨ (2 : Int) = 3 := by decide
  have hac := hS.2.2.2.2
  refine n_aload_n c_95_0 rfl (n_getR c_95_1 sc_3.n rfl rfl rfl r_3_1 (n_iload_n c_95_4 rfl (n_v1I c_95_5 rfl sc_8.n rfl rfl rfl rfl (hasRow_2 (s := s) hS (by omega)) ?_)))
  intro z1 M2 hP3
  obtain ⟨eM, f3, f3p0⟩ := hP3
  subst eM
  refine n_if0_ne c_95_8 (by omega) ?_ ?_
  · intro h4
    refine n_aload_n c_95_13 rfl (n_getR c_95_14 sc_3.n rfl rfl rfl r_3_1 (n_iload_n c_95_17 rfl (n_v1V c_95_18 rfl sc_8.n rfl rfl rfl rfl (empty_2 (s := s) hS (by omega)) ?_)))
    intro  M5 hP6
    have hS5 := hP6
    refine n_iconst c_95_21 ?_
    exact n_rZ c_95_22 rfl (by omega) ⟨hS5, by omega⟩
  · intro h7
    refine n_iconst c_95_11 ?_
    exact n_rZ c_95_12 rfl (by omega) ⟨hS, by omega⟩

set_option maxHeartbeats 4000000 in
theorem write_2 {xs : List Int32} {e : Nat} {ac : Int} {M : nM} {s i v : Int} (hS : Sf 2 ac M M) (hs : -2147483648 ≤ s ∧ s ≤ 2147483647) (hi : -2147483648 ≤ i ∧ i ≤ 2147483647) (hv : -9223372036854775808 ≤ v ∧ v ≤ 9223372036854775807) : nW xs (e + 2) 96 0 [some (2, 3), some (0, s), some (0, i), some (1, v), none] [] M (nPI fun z M1 => Sf 2 ac M1 M1 ∧ (-2147483648 ≤ z ∧ z ≤ 2147483647)) := by
  have hd : (2 : Int) = 2 ∨ (2 : Int) = 3 := by decide
  have hac := hS.2.2.2.2
  refine n_aload_n c_96_0 rfl (n_getR c_96_1 sc_3.n rfl rfl rfl r_3_1 (n_iload_n c_96_4 rfl (n_v1I c_96_5 rfl sc_8.n rfl rfl rfl rfl (isSlot_2 (s := s) hS (by omega)) ?_)))
  intro z1 M2 hP3
  obtain ⟨eM, f3, f3p0⟩ := hP3
  subst eM
  refine n_if0_ne c_96_8 (by omega) ?_ ?_
  · intro h4
    refine n_aload_n c_96_14 rfl (n_getR c_96_15 sc_3.n rfl rfl rfl r_3_1 (n_iload_n c_96_18 rfl (n_v1I c_96_19 rfl sc_8.n rfl rfl rfl rfl (hasRow_2 (s := s) hS (by omega)) ?_)))
    intro z5 M6 hP7
    obtain ⟨eM, f7, f7p0⟩ := hP7
    subst eM
    refine n_if0_ne c_96_22 (by omega) ?_ ?_
    · intro h8
      refine n_aload_n c_96_28 rfl (n_getR c_96_29 sc_3.n rfl rfl rfl r_3_1 (n_iload_n c_96_32 rfl (n_iload_n c_96_33 rfl (n_lload_n c_96_34 rfl (n_v3I c_96_35 rfl sc_8.n rfl rfl rfl rfl (put_2 (s := s) (i := i) (v := v) hS (by omega) (by omega) (by omega)) ?_)))))
      intro z9 M10 hP11
      obtain ⟨hS10, f11⟩ := hP11
      refine n_if0_eq c_96_38 (by omega) ?_ ?_
      · intro h12
        refine n_bipush c_96_45 rfl ?_
        exact n_rI c_96_47 rfl ⟨hS10, by omega⟩
      · intro h13
        refine n_iconst c_96_41 (n_goto c_96_42 ?_)
        exact n_rI c_96_47 rfl ⟨hS10, by omega⟩
    · intro h14
      refine n_bipush c_96_25 rfl ?_
      exact n_rI c_96_27 rfl ⟨hS, by omega⟩
  · intro h15
    refine n_bipush c_96_11 rfl ?_
    exact n_rI c_96_13 rfl ⟨hS, by omega⟩

set_option maxHeartbeats 4000000 in
theorem rstart_2 {xs : List Int32} {e : Nat} {ac : Int} {M : nM} {u : Int} (hS : Sf 2 ac M M) (hu : 1 ≤ u ∧ u ≤ 8) : nW xs e 74 0 [some (2, 32), some (0, u)] [] M (nPV fun M1 => Sf 2 ac M1 M1) := by
  have hd : (2 : Int) = 2 ∨ (2 : Int) = 3 := by decide
  have hac := hS.2.2.2.2
  refine n_aload_n c_74_0 rfl (n_iload_n c_74_1 rfl (n_putM (bi := 0) hS c_74_2 sc_32.n rfl rfl rfl rfl (m_32_0 (by omega)) ?_))
  intro M1 eM1 hS1
  have g1_0 : M1 32 0 = u := by rw [eM1]; exact nu_s _ _ _ _
  refine n_aload_n c_74_5 rfl (n_iconst c_74_6 (n_putM (bi := 1) hS1 c_74_7 sc_32.n rfl rfl rfl rfl (m_32_1 (by omega)) ?_))
  intro M2 eM2 hS2
  have g2_0 : M2 32 0 = M1 32 0 := by rw [eM2]; exact nu_i (by omega)
  have g2_1 : M2 32 1 = 0 := by rw [eM2]; exact nu_s _ _ _ _
  exact n_rV c_74_10 rfl hS2

set_option maxHeartbeats 4000000 in
theorem riddle_2_c {xs : List Int32} {e : Nat} {ac : Int} {M : nM} {u : Int} (hS : Sf 2 ac M M) (hu : -2147483648 ≤ u ∧ u ≤ 2147483647) : ∀ nn : Nat, (∀ (M : nM), Sf 2 ac M M → 1 < (nn : Int) → nW xs (e + 1) 115 11 [none, none] [] M (nPI fun z M1 => Sf 2 ac M1 M1 ∧ (0 ≤ z ∧ z ≤ 1))) := by
  have hd : (2 : Int) = 2 ∨ (2 : Int) = 3 := by decide
  have hac := hS.2.2.2.2
  intro nn
  induction nn with
  | zero => intros; omega
  | succ nn ih =>
    intro M hS hnn
    refine n_iconst c_115_11 ?_
    exact n_rZ c_115_12 rfl (by omega) ⟨hS, by omega⟩
set_option maxHeartbeats 4000000 in
theorem riddle_2 {xs : List Int32} {e : Nat} {ac : Int} {M : nM} {u : Int} (hS : Sf 2 ac M M) (hu : -2147483648 ≤ u ∧ u ≤ 2147483647) : nW xs (e + 1) 115 0 [some (2, 3), some (0, u)] [] M (nPI fun z M1 => Sf 2 ac M1 M1 ∧ (0 ≤ z ∧ z ≤ 1)) := by
  have hd : (2 : Int) = 2 ∨ (2 : Int) = 3 := by decide
  have hac := hS.2.2.2.2
  refine n_iload_n c_115_0 rfl (n_iconst c_115_1 ?_)
  refine n_if2_lt c_115_2 (by omega) (by omega) ?_ ?_
  · intro h1
    refine n_fg (le_n (le_n le_0)) ?_
    exact (riddle_2_c hS hu 12)  M hS  (by omega)
  · intro h2
    refine n_iload_n c_115_5 rfl (n_bipush c_115_6 rfl ?_)
    refine n_if2_le c_115_8 (by omega) (by omega) ?_ ?_
    · intro h3
      refine n_aload_n c_115_13 rfl (n_getR c_115_14 sc_3.n rfl rfl rfl r_3_6 (n_iload_n c_115_17 rfl (n_v1V c_115_18 rfl sc_32.n rfl rfl rfl rfl (rstart_2 (u := u) hS (by omega)) ?_)))
      intro  M4 hP5
      have hS4 := hP5
      refine n_aload_n c_115_21 rfl (n_iconst c_115_22 (n_putZM (bi := 18) hS4 c_115_23 sc_3.n rfl rfl rfl (by omega) rfl (m_3_18 (by omega)) ?_))
      intro M6 eM6 hS6
      have g6_0 : M6 3 18 = 0 := by rw [eM6]; exact nu_s _ _ _ _
      refine n_iconst c_115_26 ?_
      exact n_rZ c_115_27 rfl (by omega) ⟨hS6, by omega⟩
    · intro h7
      refine n_fg (le_n (le_n le_0)) ?_
      exact (riddle_2_c hS hu 12)  M hS  (by omega)

set_option maxHeartbeats 4000000 in
theorem radd_2 {xs : List Int32} {e : Nat} {ac : Int} {M : nM} {l x y w : Int} (hS : Sf 2 ac M M) (hl : 0 ≤ l ∧ l ≤ 11) (hx : 0 ≤ x ∧ x ≤ 7) (hy : 0 ≤ y ∧ y ≤ 7) (hw : 0 ≤ w ∧ w ≤ 7) (hc : M 32 1 ≤ 29) : nW xs e 76 0 [some (2, 32), some (0, l), some (0, x), some (0, y), some (0, w)] [] M (nPI fun z M1 => Sf 2 ac M1 M1 ∧ (-2147483648 ≤ z ∧ z ≤ 2147483647)) := by
  have hd : (2 : Int) = 2 ∨ (2 : Int) = 3 := by decide
  have hac := hS.2.2.2.2
  refine n_aload_n c_76_0 rfl (n_getR c_76_1 sc_32.n rfl rfl rfl r_32_2 (n_aload_n c_76_4 rfl (n_getV (bi := 1) c_76_5 sc_32.n rfl rfl rfl (t_32_1 hS) ?_)))
  intro z1 ez1 f2
  refine n_iload_n c_76_8 rfl (n_iastoreM hS c_76_9 sc_33.n rfl (by omega) (m_33 (by omega) (by omega)) ?_)
  intro M3 eM3 hS3
  have g3_0 : M3 32 1 = M 32 1 := by rw [eM3]; exact nu_a (by omega)
  refine n_aload_n c_76_10 rfl (n_getR c_76_11 sc_32.n rfl rfl rfl r_32_3 (n_aload_n c_76_14 rfl (n_getV (bi := 1) c_76_15 sc_32.n rfl rfl rfl (t_32_1 hS3) ?_)))
  intro z4 ez4 f5
  refine n_iload_n c_76_18 rfl (n_iastoreM hS3 c_76_19 sc_34.n rfl (by omega) (m_34 (by omega) (by omega)) ?_)
  intro M6 eM6 hS6
  have g6_0 : M6 32 1 = M3 32 1 := by rw [eM6]; exact nu_a (by omega)
  refine n_aload_n c_76_20 rfl (n_getR c_76_21 sc_32.n rfl rfl rfl r_32_4 (n_aload_n c_76_24 rfl (n_getV (bi := 1) c_76_25 sc_32.n rfl rfl rfl (t_32_1 hS6) ?_)))
  intro z7 ez7 f8
  refine n_iload_n c_76_28 rfl (n_iastoreM hS6 c_76_29 sc_35.n rfl (by omega) (m_35 (by omega) (by omega)) ?_)
  intro M9 eM9 hS9
  have g9_0 : M9 32 1 = M6 32 1 := by rw [eM9]; exact nu_a (by omega)
  refine n_aload_n c_76_30 rfl (n_getR c_76_31 sc_32.n rfl rfl rfl r_32_5 (n_aload_n c_76_34 rfl (n_getV (bi := 1) c_76_35 sc_32.n rfl rfl rfl (t_32_1 hS9) ?_)))
  intro z10 ez10 f11
  refine n_iload c_76_38 rfl (n_iastoreM hS9 c_76_40 sc_36.n rfl (by omega) (m_36 (by omega) (by omega)) ?_)
  intro M12 eM12 hS12
  have g12_0 : M12 32 1 = M9 32 1 := by rw [eM12]; exact nu_a (by omega)
  refine n_aload_n c_76_41 rfl (n_dup2 c_76_42 (n_getV (bi := 1) c_76_43 sc_32.n rfl rfl rfl (t_32_1 hS12) ?_))
  intro z13 ez13 f14
  refine n_dup_x102 c_76_46 (n_iconst c_76_47 (n_iadd c_76_48 rfl (n_putM (bi := 1) hS12 c_76_49 sc_32.n rfl rfl rfl rfl (m_32_1 (by omega)) ?_)))
  intro M15 eM15 hS15
  have g15_0 : M15 32 1 = (z13 + 1) := by rw [eM15]; exact nu_s _ _ _ _
  exact n_rI c_76_52 rfl ⟨hS15, by omega⟩

set_option maxHeartbeats 4000000 in
theorem ask_2_c {xs : List Int32} {e : Nat} {ac : Int} {M : nM} {l x y w : Int} (hS : Sf 2 ac M M) (hl : -2147483648 ≤ l ∧ l ≤ 2147483647) (hx : -2147483648 ≤ x ∧ x ≤ 2147483647) (hy : -2147483648 ≤ y ∧ y ≤ 2147483647) (hw : -2147483648 ≤ w ∧ w ≤ 2147483647) : ∀ nn : Nat, (∀ (M : nM), Sf 2 ac M M → 1 < (nn : Int) → nW xs (e + 1) 116 85 [none, none, none, none, none, none, none, none] [] M (nPI fun z M1 => Sf 2 ac M1 M1 ∧ (-2147483648 ≤ z ∧ z ≤ 2147483647))) := by
  have hd : (2 : Int) = 2 ∨ (2 : Int) = 3 := by decide
  have hac := hS.2.2.2.2
  intro nn
  induction nn with
  | zero => intros; omega
  | succ nn ih =>
    intro M hS hnn
    refine n_bipush c_116_85 rfl ?_
    exact n_rI c_116_87 rfl ⟨hS, by omega⟩
set_option maxHeartbeats 4000000 in
theorem ask_2 {xs : List Int32} {e : Nat} {ac : Int} {M : nM} {l x y w : Int} (hS : Sf 2 ac M M) (hl : -2147483648 ≤ l ∧ l ≤ 2147483647) (hx : -2147483648 ≤ x ∧ x ≤ 2147483647) (hy : -2147483648 ≤ y ∧ y ≤ 2147483647) (hw : -2147483648 ≤ w ∧ w ≤ 2147483647) : nW xs (e + 1) 116 0 [some (2, 3), some (0, l), some (0, x), some (0, y), some (0, w), none, none, none] [] M (nPI fun z M1 => Sf 2 ac M1 M1 ∧ (-2147483648 ≤ z ∧ z ≤ 2147483647)) := by
  have hd : (2 : Int) = 2 ∨ (2 : Int) = 3 := by decide
  have hac := hS.2.2.2.2
  refine n_aload_n c_116_0 rfl (n_iload_n c_116_1 rfl (n_v1I c_116_2 rfl sc_3.n rfl rfl rfl rfl (isLaw_2 (l := l) hS (by omega)) ?_))
  intro z1 M2 hP3
  obtain ⟨eM, f3, f3p0⟩ := hP3
  subst eM
  refine n_if0_ne c_116_5 (by omega) ?_ ?_
  · intro h4
    refine n_aload_n c_116_11 rfl (n_getR c_116_12 sc_3.n rfl rfl rfl r_3_3 (n_iload_n c_116_15 rfl (n_aaload c_116_16 sc_13.n rfl rfl rfl (by omega) (r_laws _) ?_)))
    have q5 : LawAt (79 + 2 * l) := by unfold LawAt; omega
    refine n_getV (bi := 0) c_116_17 q5.c0.1.n rfl rfl rfl (t_law hS q5).1 ?_
    intro z6 ez6 f7
    refine n_istore (L2 := [some (2, 3), some (0, l), some (0, x), some (0, y), some (0, w), some (0, z6), none, none]) c_116_20 rfl rfl (n_iload c_116_22 rfl (n_iconst c_116_24 ?_))
    refine n_if2_le c_116_25 (by omega) (by omega) ?_ ?_
    · intro h8
      refine n_iload_n c_116_32 rfl (n_istore (L2 := [some (2, 3), some (0, l), some (0, x), some (0, y), some (0, w), some (0, z6), some (0, x), none]) c_116_33 rfl rfl (n_iload c_116_35 rfl (n_iconst c_116_37 ?_)))
      refine n_if2_le c_116_38 (by omega) (by omega) ?_ ?_
      · intro h9
        refine n_iload c_116_46 rfl (n_istore (L2 := [some (2, 3), some (0, l), some (0, x), some (0, y), some (0, w), some (0, z6), some (0, x), some (0, x)]) c_116_48 rfl rfl (n_aload_n c_116_50 rfl (n_getR c_116_51 sc_3.n rfl rfl rfl r_3_6 (n_iload_n c_116_54 rfl (n_v1I c_116_55 rfl sc_32.n rfl rfl rfl rfl (isUnknown_2 (u := x) hS (by omega)) ?_)))))
        intro z10 M11 hP12
        obtain ⟨eM, f12, f12p0⟩ := hP12
        subst eM
        refine n_if0_eq c_116_58 (by omega) ?_ ?_
        · intro h13
          refine n_fg (le_n (le_n (le_n (le_n (le_n (le_n (le_n (le_n le_0)))))))) ?_
          exact (ask_2_c hS hl hx hy hw 12)  M hS  (by omega)
        · intro h14
          refine n_aload_n c_116_61 rfl (n_getR c_116_62 sc_3.n rfl rfl rfl r_3_6 (n_iload c_116_65 rfl (n_v1I c_116_67 rfl sc_32.n rfl rfl rfl rfl (isUnknown_2 (u := x) hS (by omega)) ?_)))
          intro z15 M16 hP17
          obtain ⟨eM, f17, f17p0⟩ := hP17
          subst eM
          refine n_if0_eq c_116_70 (by omega) ?_ ?_
          · intro h18
            refine n_fg (le_n (le_n (le_n (le_n (le_n (le_n (le_n (le_n le_0)))))))) ?_
            exact (ask_2_c hS hl hx hy hw 12)  M hS  (by omega)
          · intro h19
            refine n_aload_n c_116_73 rfl (n_getR c_116_74 sc_3.n rfl rfl rfl r_3_6 (n_iload c_116_77 rfl (n_v1I c_116_79 rfl sc_32.n rfl rfl rfl rfl (isUnknown_2 (u := x) hS (by omega)) ?_)))
            intro z20 M21 hP22
            obtain ⟨eM, f22, f22p0⟩ := hP22
            subst eM
            refine n_if0_ne c_116_82 (by omega) ?_ ?_
            · intro h23
              refine n_aload_n c_116_88 rfl (n_getR c_116_89 sc_3.n rfl rfl rfl r_3_6 (n_getV (bi := 1) c_116_92 sc_32.n rfl rfl rfl (t_32_1 hS) ?_))
              intro z24 ez24 f25
              refine n_bipush c_116_95 rfl ?_
              refine n_if2_lt c_116_97 (by omega) (by omega) ?_ ?_
              · intro h26
                refine n_aload_n c_116_103 rfl (n_iconst c_116_104 (n_putZM (bi := 18) hS c_116_105 sc_3.n rfl rfl rfl (by omega) rfl (m_3_18 (by omega)) ?_))
                intro M27 eM27 hS27
                have g27_0 : M27 32 1 = M 32 1 := by rw [eM27]; exact nu_a (by omega)
                have g27_1 : M27 3 18 = 0 := by rw [eM27]; exact nu_s _ _ _ _
                refine n_aload_n c_116_108 rfl (n_getR c_116_109 sc_3.n rfl rfl rfl r_3_6 (n_iload_n c_116_112 rfl (n_iload_n c_116_113 rfl (n_iload c_116_114 rfl (n_iload c_116_116 rfl (n_v4I c_116_118 rfl sc_32.n rfl rfl rfl rfl (radd_2 (l := l) (x := x) (y := x) (w := x) hS27 (by omega) (by omega) (by omega) (by omega) (by omega)) ?_))))))
                intro z28 M29 hP30
                obtain ⟨hS29, f30⟩ := hP30
                exact n_rI c_116_121 rfl ⟨hS29, by omega⟩
              · intro h31
                refine n_bipush c_116_100 rfl ?_
                exact n_rI c_116_102 rfl ⟨hS, by omega⟩
            · intro h32
              refine n_fg (le_n (le_n (le_n (le_n (le_n (le_n (le_n (le_n le_0)))))))) ?_
              exact (ask_2_c hS hl hx hy hw 12)  M hS  (by omega)
      · intro h33
        exfalso; omega
    · intro h34
      refine n_iload_n c_116_28 rfl (n_goto c_116_29 (n_istore (L2 := [some (2, 3), some (0, l), some (0, x), some (0, y), some (0, w), some (0, z6), some (0, y), none]) c_116_33 rfl rfl (n_iload c_116_35 rfl (n_iconst c_116_37 ?_))))
      refine n_if2_le c_116_38 (by omega) (by omega) ?_ ?_
      · intro h35
        refine n_iload c_116_46 rfl (n_istore (L2 := [some (2, 3), some (0, l), some (0, x), some (0, y), some (0, w), some (0, z6), some (0, y), some (0, y)]) c_116_48 rfl rfl (n_aload_n c_116_50 rfl (n_getR c_116_51 sc_3.n rfl rfl rfl r_3_6 (n_iload_n c_116_54 rfl (n_v1I c_116_55 rfl sc_32.n rfl rfl rfl rfl (isUnknown_2 (u := x) hS (by omega)) ?_)))))
        intro z36 M37 hP38
        obtain ⟨eM, f38, f38p0⟩ := hP38
        subst eM
        refine n_if0_eq c_116_58 (by omega) ?_ ?_
        · intro h39
          refine n_fg (le_n (le_n (le_n (le_n (le_n (le_n (le_n (le_n le_0)))))))) ?_
          exact (ask_2_c hS hl hx hy hw 12)  M hS  (by omega)
        · intro h40
          refine n_aload_n c_116_61 rfl (n_getR c_116_62 sc_3.n rfl rfl rfl r_3_6 (n_iload c_116_65 rfl (n_v1I c_116_67 rfl sc_32.n rfl rfl rfl rfl (isUnknown_2 (u := y) hS (by omega)) ?_)))
          intro z41 M42 hP43
          obtain ⟨eM, f43, f43p0⟩ := hP43
          subst eM
          refine n_if0_eq c_116_70 (by omega) ?_ ?_
          · intro h44
            refine n_fg (le_n (le_n (le_n (le_n (le_n (le_n (le_n (le_n le_0)))))))) ?_
            exact (ask_2_c hS hl hx hy hw 12)  M hS  (by omega)
          · intro h45
            refine n_aload_n c_116_73 rfl (n_getR c_116_74 sc_3.n rfl rfl rfl r_3_6 (n_iload c_116_77 rfl (n_v1I c_116_79 rfl sc_32.n rfl rfl rfl rfl (isUnknown_2 (u := y) hS (by omega)) ?_)))
            intro z46 M47 hP48
            obtain ⟨eM, f48, f48p0⟩ := hP48
            subst eM
            refine n_if0_ne c_116_82 (by omega) ?_ ?_
            · intro h49
              refine n_aload_n c_116_88 rfl (n_getR c_116_89 sc_3.n rfl rfl rfl r_3_6 (n_getV (bi := 1) c_116_92 sc_32.n rfl rfl rfl (t_32_1 hS) ?_))
              intro z50 ez50 f51
              refine n_bipush c_116_95 rfl ?_
              refine n_if2_lt c_116_97 (by omega) (by omega) ?_ ?_
              · intro h52
                refine n_aload_n c_116_103 rfl (n_iconst c_116_104 (n_putZM (bi := 18) hS c_116_105 sc_3.n rfl rfl rfl (by omega) rfl (m_3_18 (by omega)) ?_))
                intro M53 eM53 hS53
                have g53_0 : M53 32 1 = M 32 1 := by rw [eM53]; exact nu_a (by omega)
                have g53_1 : M53 3 18 = 0 := by rw [eM53]; exact nu_s _ _ _ _
                refine n_aload_n c_116_108 rfl (n_getR c_116_109 sc_3.n rfl rfl rfl r_3_6 (n_iload_n c_116_112 rfl (n_iload_n c_116_113 rfl (n_iload c_116_114 rfl (n_iload c_116_116 rfl (n_v4I c_116_118 rfl sc_32.n rfl rfl rfl rfl (radd_2 (l := l) (x := x) (y := y) (w := y) hS53 (by omega) (by omega) (by omega) (by omega) (by omega)) ?_))))))
                intro z54 M55 hP56
                obtain ⟨hS55, f56⟩ := hP56
                exact n_rI c_116_121 rfl ⟨hS55, by omega⟩
              · intro h57
                refine n_bipush c_116_100 rfl ?_
                exact n_rI c_116_102 rfl ⟨hS, by omega⟩
            · intro h58
              refine n_fg (le_n (le_n (le_n (le_n (le_n (le_n (le_n (le_n le_0)))))))) ?_
              exact (ask_2_c hS hl hx hy hw 12)  M hS  (by omega)
      · intro h59
        refine n_iload c_116_41 rfl (n_goto c_116_43 (n_istore (L2 := [some (2, 3), some (0, l), some (0, x), some (0, y), some (0, w), some (0, z6), some (0, y), some (0, w)]) c_116_48 rfl rfl (n_aload_n c_116_50 rfl (n_getR c_116_51 sc_3.n rfl rfl rfl r_3_6 (n_iload_n c_116_54 rfl (n_v1I c_116_55 rfl sc_32.n rfl rfl rfl rfl (isUnknown_2 (u := x) hS (by omega)) ?_))))))
        intro z60 M61 hP62
        obtain ⟨eM, f62, f62p0⟩ := hP62
        subst eM
        refine n_if0_eq c_116_58 (by omega) ?_ ?_
        · intro h63
          refine n_fg (le_n (le_n (le_n (le_n (le_n (le_n (le_n (le_n le_0)))))))) ?_
          exact (ask_2_c hS hl hx hy hw 12)  M hS  (by omega)
        · intro h64
          refine n_aload_n c_116_61 rfl (n_getR c_116_62 sc_3.n rfl rfl rfl r_3_6 (n_iload c_116_65 rfl (n_v1I c_116_67 rfl sc_32.n rfl rfl rfl rfl (isUnknown_2 (u := y) hS (by omega)) ?_)))
          intro z65 M66 hP67
          obtain ⟨eM, f67, f67p0⟩ := hP67
          subst eM
          refine n_if0_eq c_116_70 (by omega) ?_ ?_
          · intro h68
            refine n_fg (le_n (le_n (le_n (le_n (le_n (le_n (le_n (le_n le_0)))))))) ?_
            exact (ask_2_c hS hl hx hy hw 12)  M hS  (by omega)
          · intro h69
            refine n_aload_n c_116_73 rfl (n_getR c_116_74 sc_3.n rfl rfl rfl r_3_6 (n_iload c_116_77 rfl (n_v1I c_116_79 rfl sc_32.n rfl rfl rfl rfl (isUnknown_2 (u := w) hS (by omega)) ?_)))
            intro z70 M71 hP72
            obtain ⟨eM, f72, f72p0⟩ := hP72
            subst eM
            refine n_if0_ne c_116_82 (by omega) ?_ ?_
            · intro h73
              refine n_aload_n c_116_88 rfl (n_getR c_116_89 sc_3.n rfl rfl rfl r_3_6 (n_getV (bi := 1) c_116_92 sc_32.n rfl rfl rfl (t_32_1 hS) ?_))
              intro z74 ez74 f75
              refine n_bipush c_116_95 rfl ?_
              refine n_if2_lt c_116_97 (by omega) (by omega) ?_ ?_
              · intro h76
                refine n_aload_n c_116_103 rfl (n_iconst c_116_104 (n_putZM (bi := 18) hS c_116_105 sc_3.n rfl rfl rfl (by omega) rfl (m_3_18 (by omega)) ?_))
                intro M77 eM77 hS77
                have g77_0 : M77 32 1 = M 32 1 := by rw [eM77]; exact nu_a (by omega)
                have g77_1 : M77 3 18 = 0 := by rw [eM77]; exact nu_s _ _ _ _
                refine n_aload_n c_116_108 rfl (n_getR c_116_109 sc_3.n rfl rfl rfl r_3_6 (n_iload_n c_116_112 rfl (n_iload_n c_116_113 rfl (n_iload c_116_114 rfl (n_iload c_116_116 rfl (n_v4I c_116_118 rfl sc_32.n rfl rfl rfl rfl (radd_2 (l := l) (x := x) (y := y) (w := w) hS77 (by omega) (by omega) (by omega) (by omega) (by omega)) ?_))))))
                intro z78 M79 hP80
                obtain ⟨hS79, f80⟩ := hP80
                exact n_rI c_116_121 rfl ⟨hS79, by omega⟩
              · intro h81
                refine n_bipush c_116_100 rfl ?_
                exact n_rI c_116_102 rfl ⟨hS, by omega⟩
            · intro h82
              refine n_fg (le_n (le_n (le_n (le_n (le_n (le_n (le_n (le_n le_0)))))))) ?_
              exact (ask_2_c hS hl hx hy hw 12)  M hS  (by omega)
  · intro h83
    refine n_bipush c_116_8 rfl ?_
    exact n_rI c_116_10 rfl ⟨hS, by omega⟩

/-! The methods, by program. -/
set_option maxHeartbeats 4000000 in
theorem actsOfThree_2_c {xs : List Int32} {e : Nat} {ac : Int} {M0 M : nM} (hS : Sf 2 ac M0 M)  : ∀ nn : Nat, (∀ (x1 x2 : Int), (0 ≤ x1 ∧ x1 ≤ 8) → (0 ≤ x2 ∧ x2 ≤ 8) → (x1 ≤ x2) → (8 - x2) * 2 + 2 < (nn : Int) → nW xs e 127 4 [some (2, 3), some (0, x1), some (0, x2)] [] M (nPI fun z M1 => M = M1 ∧ (0 ≤ z ∧ z ≤ 8))) ∧ (∀ (x1 x2 : Int), (0 ≤ x1 ∧ x1 ≤ 8) → (0 ≤ x2 ∧ x2 ≤ 7) → (x1 ≤ x2 + 1) → (8 - x2) * 2 + 1 < (nn : Int) → nW xs e 127 28 [some (2, 3), some (0, x1), some (0, x2)] [] M (nPI fun z M1 => M = M1 ∧ (0 ≤ z ∧ z ≤ 8))) := by
  have hd : (2 : Int) = 2 ∨ (2 : Int) = 3 := by decide
  have hac := hS.2.2.2.2
  intro nn
  induction nn with
  | zero => refine ⟨?_, ?_⟩ <;> (intros; omega)
  | succ nn ih =>
    refine ⟨?_, ?_⟩
    · intro x1 x2 k1 k2 v0 hnn
      refine n_iload_n c_127_4 rfl (n_aload_n c_127_5 rfl (n_getV (bi := 14) c_127_6 sc_3.n rfl rfl rfl (t_3_14x hS) ?_))
      intro z1 ez1 f2
      have f2a := t_ac hS
      refine n_if2_ge c_127_9 (by omega) (by omega) ?_ ?_
      · intro h3
        refine n_iload_n c_127_34 rfl ?_
        exact n_rI c_127_35 rfl ⟨rfl, by omega⟩
      · intro h4
        refine n_aload_n c_127_12 rfl (n_getR c_127_13 sc_3.n rfl rfl rfl r_3_2 (n_iload_n c_127_16 rfl (n_aaload c_127_17 sc_12.n rfl rfl rfl (by omega) (r_acts _) ?_)))
        have q5 : ActAt (55 + 3 * x2) := by unfold ActAt; omega
        have q5l : (55 + 3 * x2) < 55 + 3 * ac := by omega
        refine n_getV (bi := 0) c_127_18 q5.c0.1.n rfl rfl rfl (t_actl hS q5 q5l).1 ?_
        intro z6 ez6 f7
        refine n_iconst c_127_21 ?_
        refine n_if2_ne c_127_22 (by omega) (by omega) ?_ ?_
        · intro h8
          refine n_fg (le_s (le_s (le_s le_0))) ?_
          exact ih.2 _ _ (by omega) (by omega) (by omega) (by omega)
        · intro h9
          refine n_iinc (L2 := [some (2, 3), some (0, (x1 + 1)), some (0, x2)]) c_127_25 rfl rfl rfl (n_fg (le_s (le_s (le_s le_0))) ?_)
          exact ih.2 _ _ (by omega) (by omega) (by omega) (by omega)
    · intro x1 x2 k1 k2 v0 hnn
      refine n_iinc (L2 := [some (2, 3), some (0, x1), some (0, (x2 + 1))]) c_127_28 rfl rfl rfl (n_goto c_127_31 (n_fg (le_s (le_s (le_s le_0))) ?_))
      exact ih.1 _ _ (by omega) (by omega) (by omega) (by omega)
set_option maxHeartbeats 4000000 in
theorem actsOfThree_2 {xs : List Int32} {e : Nat} {ac : Int} {M0 M : nM} (hS : Sf 2 ac M0 M)  : nW xs e 127 0 [some (2, 3), none, none] [] M (nPI fun z M1 => M = M1 ∧ (0 ≤ z ∧ z ≤ 8)) := by
  have hd : (2 : Int) = 2 ∨ (2 : Int) = 3 := by decide
  have hac := hS.2.2.2.2
  refine n_iconst c_127_0 (n_istore_n (L2 := [some (2, 3), some (0, 0), none]) c_127_1 rfl rfl (n_iconst c_127_2 (n_istore_n (L2 := [some (2, 3), some (0, 0), some (0, 0)]) c_127_3 rfl rfl (n_fg (le_s (le_s (le_s le_0))) ?_))))
  exact (actsOfThree_2_c hS  50).1 _ _ (by omega) (by omega) (by omega) (by omega)

set_option maxHeartbeats 4000000 in
theorem readLaw_2_c {xs : List Int32} {e : Nat} {ac : Int} {M0 M : nM} {k s : Int} (hS : Sf 2 ac M0 M) (hk : 1 ≤ k ∧ k ≤ 3) (hs : 0 ≤ s ∧ s ≤ 7) : ∀ nn : Nat, (∀ (x3 x4 x5 x6 : Int), (0 ≤ x3 ∧ x3 ≤ 27) → (-2147483648 ≤ x4 ∧ x4 ≤ 2147483647) → (1 ≤ x5 ∧ x5 ≤ 82) → (0 ≤ x6 ∧ x6 ≤ 27) → (x5 ≤ 1 + 3 * x6) → (27 - x6) * 6 + 6 < (nn : Int) → nW xs (e + 1) 128 27 [some (2, 3), some (0, k), some (0, s), some (0, x3), some (0, x4), some (0, x5), some (0, x6), none, none, none] [] M (nPI fun z M1 => M = M1 ∧ (-2147483648 ≤ z ∧ z ≤ 2147483647))) ∧ (∀ (x3 x4 x5 x6 x7 x8 : Int), (1 ≤ x3 ∧ x3 ≤ 27) → (-2147483648 ≤ x4 ∧ x4 ≤ 2147483647) → (1 ≤ x5 ∧ x5 ≤ 85) → (0 ≤ x6 ∧ x6 ≤ 26) → (-2147483648 ≤ x7 ∧ x7 ≤ 2147483647) → (0 ≤ x8 ∧ x8 ≤ 3) → (x5 ≤ 1 + 3 * x6 + x8) → (27 - x6) * 6 + (3 - x8) * 1 + 1 < (nn : Int) → nW xs (e + 1) 128 39 [some (2, 3), some (0, k), some (0, s), some (0, x3), some (0, x4), some (0, x5), some (0, x6), some (0, x7), some (0, x8), none] [] M (nPI fun z M1 => M = M1 ∧ (-2147483648 ≤ z ∧ z ≤ 2147483647))) := by
  have hd : (2 : Int) = 2 ∨ (2 : Int) = 3 := by decide
  have hac := hS.2.2.2.2
  intro nn
  induction nn with
  | zero => refine ⟨?_, ?_⟩ <;> (intros; omega)
  | succ nn ih =>
    refine ⟨?_, ?_⟩
    · intro x3 x4 x5 x6 k3 k4 k5 k6 v0 hnn
      refine n_iload c_128_27 rfl (n_iload_n c_128_29 rfl ?_)
      refine n_if2_ge c_128_30 (by omega) (by omega) ?_ ?_
      · intro h1
        refine n_iload c_128_113 rfl ?_
        exact n_rI c_128_115 rfl ⟨rfl, by omega⟩
      · intro h2
        refine n_iconst c_128_33 (n_istore (L2 := [some (2, 3), some (0, k), some (0, s), some (0, x3), some (0, x4), some (0, x5), some (0, x6), some (0, 0), none, none]) c_128_34 rfl rfl (n_iconst c_128_36 (n_istore (L2 := [some (2, 3), some (0, k), some (0, s), some (0, x3), some (0, x4), some (0, x5), some (0, x6), some (0, 0), some (0, 0), none]) c_128_37 rfl rfl (n_fg (le_s (le_s (le_s (le_s (le_s (le_s (le_s (le_s (le_s (le_n le_0)))))))))) ?_))))
        exact ih.2 _ _ _ _ _ _ (by omega) (by omega) (by omega) (by omega) (by omega) (by omega) (by omega) (by omega)
    · intro x3 x4 x5 x6 x7 x8 k3 k4 k5 k6 k7 k8 v0 hnn
      refine n_iload c_128_39 rfl (n_iload_n c_128_41 rfl ?_)
      refine n_if2_ge c_128_42 (by omega) (by omega) ?_ ?_
      · intro h1
        refine n_iload c_128_98 rfl (n_iconst c_128_100 (n_iload c_128_101 rfl (n_i_ishl c_128_103 rfl ?_)))
        have f2 := n_shl_r 1 x7
        generalize (n_shl 1 x7) = z3 at f2 ⊢
        refine n_i_ior c_128_104 rfl ?_
        have f4 := n_or_r x4 z3
        generalize (n_or x4 z3) = z5 at f4 ⊢
        refine n_istore (L2 := [some (2, 3), some (0, k), some (0, s), some (0, x3), some (0, z5), some (0, x5), some (0, x6), some (0, x7), some (0, x8), none]) c_128_105 rfl rfl (n_iinc (L2 := [some (2, 3), some (0, k), some (0, s), some (0, x3), some (0, z5), some (0, x5), some (0, (x6 + 1)), some (0, x7), some (0, x8), none]) c_128_107 rfl rfl rfl (n_goto c_128_110 (n_fg (le_s (le_s (le_s (le_s (le_s (le_s (le_s (le_n (le_n (le_n le_0)))))))))) ?_)))
        exact ih.1 _ _ _ _ (by omega) (by omega) (by omega) (by omega) (by omega) (by omega)
      · intro h6
        refine n_aload_n c_128_45 rfl (n_getR c_128_46 sc_3.n rfl rfl rfl r_3_1 (n_iload_n c_128_49 rfl (n_iload c_128_50 rfl (n_aload_n c_128_52 rfl (n_getR c_128_53 sc_3.n rfl rfl rfl r_3_0 (n_getV (bi := 0) c_128_56 sc_4.n rfl rfl rfl (t_4_0 hS) ?_))))))
        intro z7 ez7 f8
        obtain rfl : z7 = 2 := by omega
        refine n_iconst c_128_59 (n_isub c_128_60 rfl ?_)
        have hcst : ((2 - 1) : Int) = 1 := by omega
        rw [hcst]
        refine n_v3I c_128_61 rfl sc_8.n rfl rfl rfl rfl (read1_2 (s := s) (i := x5) hS (by omega) (by omega)) ?_
        intro z9 M10 hP11
        obtain ⟨eM, f11⟩ := hP11
        subst eM
        refine n_istore (L2 := [some (2, 3), some (0, k), some (0, s), some (0, x3), some (0, x4), some (0, x5), some (0, x6), some (0, x7), some (0, x8), some (0, z9)]) c_128_64 rfl rfl (n_iload c_128_66 rfl ?_)
        refine n_if0_ge c_128_68 (by omega) ?_ ?_
        · intro h12
          refine n_iload c_128_74 rfl (n_aload_n c_128_76 rfl (n_getR c_128_77 sc_3.n rfl rfl rfl r_3_0 (n_getV (bi := 0) c_128_80 sc_4.n rfl rfl rfl (t_4_0 hS) ?_)))
          intro z13 ez13 f14
          obtain rfl : z13 = 2 := by omega
          refine n_imul c_128_83 rfl (n_wrap ?_)
          have f15 := n_wr_r (x7 * 2)
          generalize n_wr (x7 * 2) = z16 at f15 ⊢
          refine n_iload c_128_84 rfl (n_iadd c_128_86 rfl (n_wrap ?_))
          have f17 := n_wr_r (z16 + z9)
          generalize n_wr (z16 + z9) = z18 at f17 ⊢
          refine n_istore (L2 := [some (2, 3), some (0, k), some (0, s), some (0, x3), some (0, x4), some (0, x5), some (0, x6), some (0, z18), some (0, x8), some (0, z9)]) c_128_87 rfl rfl (n_iinc (L2 := [some (2, 3), some (0, k), some (0, s), some (0, x3), some (0, x4), some (0, (x5 + 1)), some (0, x6), some (0, z18), some (0, x8), some (0, z9)]) c_128_89 rfl rfl rfl (n_iinc (L2 := [some (2, 3), some (0, k), some (0, s), some (0, x3), some (0, x4), some (0, (x5 + 1)), some (0, x6), some (0, z18), some (0, (x8 + 1)), some (0, z9)]) c_128_92 rfl rfl rfl (n_goto c_128_95 (n_fg (le_s (le_s (le_s (le_s (le_s (le_s (le_s (le_s (le_s (le_n le_0)))))))))) ?_))))
          exact ih.2 _ _ _ _ _ _ (by omega) (by omega) (by omega) (by omega) (by omega) (by omega) (by omega) (by omega)
        · intro h19
          refine n_iload c_128_71 rfl ?_
          exact n_rI c_128_73 rfl ⟨rfl, by omega⟩
set_option maxHeartbeats 4000000 in
theorem readLaw_2 {xs : List Int32} {e : Nat} {ac : Int} {M0 M : nM} {k s : Int} (hS : Sf 2 ac M0 M) (hk : 1 ≤ k ∧ k ≤ 3) (hs : 0 ≤ s ∧ s ≤ 7) : nW xs (e + 1) 128 0 [some (2, 3), some (0, k), some (0, s), none, none, none, none, none, none, none] [] M (nPI fun z M1 => M = M1 ∧ (-2147483648 ≤ z ∧ z ≤ 2147483647)) := by
  have hd : (2 : Int) = 2 ∨ (2 : Int) = 3 := by decide
  have hac := hS.2.2.2.2
  refine n_aload_n c_128_0 rfl (n_getR c_128_1 sc_3.n rfl rfl rfl r_3_1 (n_iload_n c_128_4 rfl (n_iconst c_128_5 (n_bipush c_128_6 rfl (n_v3I c_128_8 rfl sc_8.n rfl rfl rfl rfl (read27_2 (s := s) (i := 0) hS (by omega) (by omega)) ?_)))))
  intro z1 M2 hP3
  obtain ⟨eM, f3⟩ := hP3
  subst eM
  refine n_istore_n (L2 := [some (2, 3), some (0, k), some (0, s), some (0, z1), none, none, none, none, none, none]) c_128_11 rfl rfl (n_iload_n c_128_12 rfl ?_)
  refine n_if0_ge c_128_13 (by omega) ?_ ?_
  · intro h4
    refine n_iconst c_128_18 (n_istore (L2 := [some (2, 3), some (0, k), some (0, s), some (0, z1), some (0, 0), none, none, none, none, none]) c_128_19 rfl rfl (n_iconst c_128_21 (n_istore (L2 := [some (2, 3), some (0, k), some (0, s), some (0, z1), some (0, 0), some (0, 1), none, none, none, none]) c_128_22 rfl rfl (n_iconst c_128_24 (n_istore (L2 := [some (2, 3), some (0, k), some (0, s), some (0, z1), some (0, 0), some (0, 1), some (0, 0), none, none, none]) c_128_25 rfl rfl (n_fg (le_s (le_s (le_s (le_s (le_s (le_s (le_s (le_n (le_n (le_n le_0)))))))))) ?_))))))
    exact (readLaw_2_c hS hk hs 358).1 _ _ _ _ (by omega) (by omega) (by omega) (by omega) (by omega) (by omega)
  · intro h5
    refine n_iload_n c_128_16 rfl ?_
    exact n_rI c_128_17 rfl ⟨rfl, by omega⟩

set_option maxHeartbeats 4000000 in
theorem addWideM_2_c {xs : List Int32} {e : Nat} {ac : Int} {M : nM} {q r g : Int} (hS : Sf 2 ac M M) (hq : LawAt q) (hr : 0 ≤ r ∧ r ≤ 26) (hg : M 3 15 = g) : ∀ nn : Nat, (∀ (M : nM), Sf 2 ac M M → (M 3 15 = g) → 1 < (nn : Int) → nW xs e 42 52 [none, none] [] M (nPV fun M1 => Sf 2 ac M1 M1 ∧ (M1 3 15 = g))) := by
  have hd : (2 : Int) = 2 ∨ (2 : Int) = 3 := by decide
  have hac := hS.2.2.2.2
  intro nn
  induction nn with
  | zero => intros; omega
  | succ nn ih =>
    intro M hS hgg hnn
    exact n_rV c_42_52 rfl ⟨hS, by omega⟩
set_option maxHeartbeats 4000000 in
theorem addWideM_2 {xs : List Int32} {e : Nat} {ac : Int} {M : nM} {q r g : Int} (hS : Sf 2 ac M M) (hq : LawAt q) (hr : 0 ≤ r ∧ r ≤ 26) (hg : M 3 15 = g) : nW xs e 42 0 [some (2, q), some (0, r)] [] M (nPV fun M1 => Sf 2 ac M1 M1 ∧ (M1 3 15 = g)) := by
  have hd : (2 : Int) = 2 ∨ (2 : Int) = 3 := by decide
  have hac := hS.2.2.2.2
  refine n_aload_n c_42_0 rfl (n_getV (bi := 3) c_42_1 hq.c0.1.n rfl rfl rfl (t_law hS hq).2.2.2 ?_)
  intro z1 ez1 f2
  refine n_bipush c_42_4 rfl ?_
  refine n_if2_ge c_42_6 (by omega) (by omega) ?_ ?_
  · intro h3
    refine n_fg (le_n (le_n le_0)) ?_
    exact (addWideM_2_c hS hq hr hg 12)  M hS (by omega) (by omega)
  · intro h4
    refine n_aload_n c_42_9 rfl (n_getV (bi := 2) c_42_10 hq.c0.1.n rfl rfl rfl (t_law hS hq).2.2.1 ?_)
    intro z5 ez5 f6
    refine n_iload_n c_42_13 rfl (n_i_ishr c_42_14 rfl ?_)
    have f7 := n_shr_r z5 r
    generalize (n_shr z5 r) = z8 at f7 ⊢
    refine n_iconst c_42_15 (n_i_iand c_42_16 rfl ?_)
    have f9 := n_and_y (x := z8) (y := 1) (by omega)
    generalize (n_and z8 1) = z10 at f9 ⊢
    refine n_if0_ne c_42_17 (by omega) ?_ ?_
    · intro h11
      refine n_fg (le_n (le_n le_0)) ?_
      exact (addWideM_2_c hS hq hr hg 12)  M hS (by omega) (by omega)
    · intro h12
      refine n_aload_n c_42_20 rfl (n_getR c_42_21 hq.c0.1.n rfl rfl rfl hq.r (n_aload_n c_42_24 rfl (n_getV (bi := 3) c_42_25 hq.c0.1.n rfl rfl rfl (t_law hS hq).2.2.2 ?_)))
      intro z13 ez13 f14
      refine n_iload_n c_42_28 rfl (n_iastoreM hS c_42_29 hq.c0.2.n rfl (by omega) (m_lawr hq (by omega) (by omega)) ?_)
      intro M15 eM15 hS15
      have g15_0 : M15 3 15 = M 3 15 := by rw [eM15]; exact nu_a (by unfold LawAt at *; omega)
      have g15_1 : M15 q 3 = M q 3 := by rw [eM15]; exact nu_a (by omega)
      refine n_aload_n c_42_30 rfl (n_dup2 c_42_31 (n_getV (bi := 3) c_42_32 hq.c0.1.n rfl rfl rfl (t_law hS15 hq).2.2.2 ?_))
      intro z16 ez16 f17
      refine n_iconst c_42_35 (n_iadd c_42_36 rfl (n_putM (bi := 3) hS15 c_42_37 hq.c0.1.n rfl rfl rfl rfl (m_law hq (by omega) (by omega)) ?_))
      intro M18 eM18 hS18
      have g18_0 : M18 3 15 = M15 3 15 := by rw [eM18]; exact nu_a (by unfold LawAt at *; omega)
      have g18_1 : M18 q 3 = (z16 + 1) := by rw [eM18]; exact nu_s _ _ _ _
      refine n_aload_n c_42_40 rfl (n_dup2 c_42_41 (n_getV (bi := 2) c_42_42 hq.c0.1.n rfl rfl rfl (t_law hS18 hq).2.2.1 ?_))
      intro z19 ez19 f20
      refine n_iconst c_42_45 (n_iload_n c_42_46 rfl (n_i_ishl c_42_47 rfl ?_))
      have f21 := n_shl_1 (y := r) (a := 0) (b := 26) (by decide) (by omega)
      generalize (n_shl 1 r) = z22 at f21 ⊢
      refine n_i_ior c_42_48 rfl ?_
      have f23 := n_or_r z19 z22
      generalize (n_or z19 z22) = z24 at f23 ⊢
      refine n_putM (bi := 2) hS18 c_42_49 hq.c0.1.n rfl rfl rfl rfl (m_law hq (by omega) (by omega)) ?_
      intro M25 eM25 hS25
      have g25_0 : M25 3 15 = M18 3 15 := by rw [eM25]; exact nu_a (by unfold LawAt at *; omega)
      have g25_1 : M25 q 3 = M18 q 3 := by rw [eM25]; exact nu_i (by omega)
      have g25_2 : M25 q 2 = z24 := by rw [eM25]; exact nu_s _ _ _ _
      refine n_fg (le_n (le_n le_0)) ?_
      exact (addWideM_2_c hS hq hr hg 12)  M25 hS25 (by omega) (by omega)

set_option maxHeartbeats 4000000 in
theorem takeM1_2_c {xs : List Int32} {e : Nat} {ac : Int} {M : nM} {q s g : Int} (hS : Sf 2 ac M M) (hq : LawAt q) (hs : -2147483648 ≤ s ∧ s ≤ 2147483647) (hg : M 3 15 = g) : ∀ nn : Nat, (∀ (x4 x5 : Int) (M : nM), Sf 2 ac M M → (2 ≤ x4 ∧ x4 ≤ 2) → (0 ≤ x5 ∧ x5 ≤ 2) → (M 3 15 = g) → (2 - x5) * 2 + 2 < (nn : Int) → nW xs (e + 1) 36 30 [some (2, q), some (0, 1), some (0, s), some (2, 4), some (0, x4), some (0, x5)] [] M (nPV fun M1 => Sf 2 ac M1 M1 ∧ (M1 3 15 = g))) ∧ (∀ (x4 x5 : Int) (M : nM), Sf 2 ac M M → (2 ≤ x4 ∧ x4 ≤ 2) → (0 ≤ x5 ∧ x5 ≤ 1) → (M 3 15 = g) → (2 - x5) * 2 + 1 < (nn : Int) → nW xs (e + 1) 36 57 [some (2, q), some (0, 1), some (0, s), some (2, 4), some (0, x4), some (0, x5)] [] M (nPV fun M1 => Sf 2 ac M1 M1 ∧ (M1 3 15 = g))) := by
  have hd : (2 : Int) = 2 ∨ (2 : Int) = 3 := by decide
  have hac := hS.2.2.2.2
  intro nn
  induction nn with
  | zero => refine ⟨?_, ?_⟩ <;> (intros; omega)
  | succ nn ih =>
    refine ⟨?_, ?_⟩
    · intro x4 x5 M hS k4 k5 hgg hnn
      refine n_iload c_36_30 rfl (n_iload c_36_32 rfl ?_)
      refine n_if2_ge c_36_34 (by omega) (by omega) ?_ ?_
      · intro h1
        exact n_rV c_36_63 rfl ⟨hS, by omega⟩
      · intro h2
        refine n_iload_n c_36_37 rfl (n_iload c_36_38 rfl (n_i_ishr c_36_40 rfl ?_))
        have f3 := n_shr_r s x5
        generalize (n_shr s x5) = z4 at f3 ⊢
        refine n_iconst c_36_41 (n_i_iand c_36_42 rfl ?_)
        have f5 := n_and_y (x := z4) (y := 1) (by omega)
        generalize (n_and z4 1) = z6 at f5 ⊢
        refine n_if0_eq c_36_43 (by omega) ?_ ?_
        · intro h7
          refine n_fg (le_s (le_s (le_s (le_s (le_s (le_s le_0)))))) ?_
          exact ih.2 _ _ M hS (by omega) (by omega) (by omega) (by omega)
        · intro h8
          refine n_aload_n c_36_46 rfl (n_aload_n c_36_47 rfl (n_iload c_36_48 rfl (n_iload_n c_36_50 rfl (n_v2I c_36_51 rfl sc_4.n rfl rfl rfl rfl (widen1_2 (n := x5) hS (by omega)) ?_))))
          intro z9 M10 hP11
          obtain ⟨eM, f11⟩ := hP11
          subst eM
          refine n_v1V c_36_54 rfl hq.c0.1.n rfl rfl rfl rfl (addWideM_2 (q := q) (r := z9) (g := (M 3 15)) hS hq (by omega) rfl) ?_
          intro  M12 hP13
          obtain ⟨hS12, f13g0⟩ := hP13
          refine n_fg (le_s (le_s (le_s (le_s (le_s (le_s le_0)))))) ?_
          exact ih.2 _ _ M12 hS12 (by omega) (by omega) (by omega) (by omega)
    · intro x4 x5 M hS k4 k5 hgg hnn
      refine n_iinc (L2 := [some (2, q), some (0, 1), some (0, s), some (2, 4), some (0, x4), some (0, (x5 + 1))]) c_36_57 rfl rfl rfl (n_goto c_36_60 (n_fg (le_s (le_s (le_s (le_s (le_s (le_s le_0)))))) ?_))
      exact ih.1 _ _ M hS (by omega) (by omega) (by omega) (by omega)
set_option maxHeartbeats 4000000 in
theorem takeM1_2 {xs : List Int32} {e : Nat} {ac : Int} {M : nM} {q s g : Int} (hS : Sf 2 ac M M) (hq : LawAt q) (hs : -2147483648 ≤ s ∧ s ≤ 2147483647) (hg : M 3 15 = g) : nW xs (e + 1) 36 0 [some (2, q), some (0, 1), some (0, s), some (2, 4), none, none] [] M (nPV fun M1 => Sf 2 ac M1 M1 ∧ (M1 3 15 = g)) := by
  have hd : (2 : Int) = 2 ∨ (2 : Int) = 3 := by decide
  have hac := hS.2.2.2.2
  refine n_aload_n c_36_0 rfl (n_iload_n c_36_1 rfl (n_putM (bi := 0) hS c_36_2 hq.c0.1.n rfl rfl rfl rfl (m_law hq (by omega) (by omega)) ?_))
  intro M1 eM1 hS1
  have g1_0 : M1 3 15 = M 3 15 := by rw [eM1]; exact nu_a (by unfold LawAt at *; omega)
  have g1_1 : M1 q 0 = 1 := by rw [eM1]; exact nu_s _ _ _ _
  refine n_aload_n c_36_5 rfl (n_iload_n c_36_6 rfl (n_putM (bi := 1) hS1 c_36_7 hq.c0.1.n rfl rfl rfl rfl (m_law hq (by omega) (by omega)) ?_))
  intro M2 eM2 hS2
  have g2_0 : M2 3 15 = M1 3 15 := by rw [eM2]; exact nu_a (by unfold LawAt at *; omega)
  have g2_1 : M2 q 0 = M1 q 0 := by rw [eM2]; exact nu_i (by omega)
  have g2_2 : M2 q 1 = s := by rw [eM2]; exact nu_s _ _ _ _
  refine n_aload_n c_36_10 rfl (n_iconst c_36_11 (n_putM (bi := 2) hS2 c_36_12 hq.c0.1.n rfl rfl rfl rfl (m_law hq (by omega) (by omega)) ?_))
  intro M3 eM3 hS3
  have g3_0 : M3 3 15 = M2 3 15 := by rw [eM3]; exact nu_a (by unfold LawAt at *; omega)
  have g3_1 : M3 q 0 = M2 q 0 := by rw [eM3]; exact nu_i (by omega)
  have g3_2 : M3 q 1 = M2 q 1 := by rw [eM3]; exact nu_i (by omega)
  have g3_3 : M3 q 2 = 0 := by rw [eM3]; exact nu_s _ _ _ _
  refine n_aload_n c_36_15 rfl (n_iconst c_36_16 (n_putM (bi := 3) hS3 c_36_17 hq.c0.1.n rfl rfl rfl rfl (m_law hq (by omega) (by omega)) ?_))
  intro M4 eM4 hS4
  have g4_0 : M4 3 15 = M3 3 15 := by rw [eM4]; exact nu_a (by unfold LawAt at *; omega)
  have g4_1 : M4 q 0 = M3 q 0 := by rw [eM4]; exact nu_i (by omega)
  have g4_2 : M4 q 1 = M3 q 1 := by rw [eM4]; exact nu_i (by omega)
  have g4_3 : M4 q 2 = M3 q 2 := by rw [eM4]; exact nu_i (by omega)
  have g4_4 : M4 q 3 = 0 := by rw [eM4]; exact nu_s _ _ _ _
  refine n_aload_n c_36_20 rfl (n_iload_n c_36_21 rfl (n_v1I c_36_22 rfl sc_4.n rfl rfl rfl rfl (power1_2  hS4 ) ?_))
  intro z5 M6 hP7
  obtain ⟨eM, f7⟩ := hP7
  subst eM
  obtain rfl : z5 = 2 := by omega
  refine n_istore (L2 := [some (2, q), some (0, 1), some (0, s), some (2, 4), some (0, 2), none]) c_36_25 rfl rfl (n_iconst c_36_27 (n_istore (L2 := [some (2, q), some (0, 1), some (0, s), some (2, 4), some (0, 2), some (0, 0)]) c_36_28 rfl rfl (n_fg (le_s (le_s (le_s (le_s (le_s (le_s le_0)))))) ?_)))
  exact (takeM1_2_c hS hq hs hg 26).1 _ _ M4 hS4 (by omega) (by omega) (by omega) (by omega)

set_option maxHeartbeats 4000000 in
theorem takeM2_2_c {xs : List Int32} {e : Nat} {ac : Int} {M : nM} {q s g : Int} (hS : Sf 2 ac M M) (hq : LawAt q) (hs : -2147483648 ≤ s ∧ s ≤ 2147483647) (hg : M 3 15 = g) : ∀ nn : Nat, (∀ (x4 x5 : Int) (M : nM), Sf 2 ac M M → (4 ≤ x4 ∧ x4 ≤ 4) → (0 ≤ x5 ∧ x5 ≤ 4) → (M 3 15 = g) → (4 - x5) * 2 + 2 < (nn : Int) → nW xs (e + 1) 36 30 [some (2, q), some (0, 2), some (0, s), some (2, 4), some (0, x4), some (0, x5)] [] M (nPV fun M1 => Sf 2 ac M1 M1 ∧ (M1 3 15 = g))) ∧ (∀ (x4 x5 : Int) (M : nM), Sf 2 ac M M → (4 ≤ x4 ∧ x4 ≤ 4) → (0 ≤ x5 ∧ x5 ≤ 3) → (M 3 15 = g) → (4 - x5) * 2 + 1 < (nn : Int) → nW xs (e + 1) 36 57 [some (2, q), some (0, 2), some (0, s), some (2, 4), some (0, x4), some (0, x5)] [] M (nPV fun M1 => Sf 2 ac M1 M1 ∧ (M1 3 15 = g))) := by
  have hd : (2 : Int) = 2 ∨ (2 : Int) = 3 := by decide
  have hac := hS.2.2.2.2
  intro nn
  induction nn with
  | zero => refine ⟨?_, ?_⟩ <;> (intros; omega)
  | succ nn ih =>
    refine ⟨?_, ?_⟩
    · intro x4 x5 M hS k4 k5 hgg hnn
      refine n_iload c_36_30 rfl (n_iload c_36_32 rfl ?_)
      refine n_if2_ge c_36_34 (by omega) (by omega) ?_ ?_
      · intro h1
        exact n_rV c_36_63 rfl ⟨hS, by omega⟩
      · intro h2
        refine n_iload_n c_36_37 rfl (n_iload c_36_38 rfl (n_i_ishr c_36_40 rfl ?_))
        have f3 := n_shr_r s x5
        generalize (n_shr s x5) = z4 at f3 ⊢
        refine n_iconst c_36_41 (n_i_iand c_36_42 rfl ?_)
        have f5 := n_and_y (x := z4) (y := 1) (by omega)
        generalize (n_and z4 1) = z6 at f5 ⊢
        refine n_if0_eq c_36_43 (by omega) ?_ ?_
        · intro h7
          refine n_fg (le_s (le_s (le_s (le_s (le_s (le_s le_0)))))) ?_
          exact ih.2 _ _ M hS (by omega) (by omega) (by omega) (by omega)
        · intro h8
          refine n_aload_n c_36_46 rfl (n_aload_n c_36_47 rfl (n_iload c_36_48 rfl (n_iload_n c_36_50 rfl (n_v2I c_36_51 rfl sc_4.n rfl rfl rfl rfl (widen2_2 (n := x5) hS (by omega)) ?_))))
          intro z9 M10 hP11
          obtain ⟨eM, f11⟩ := hP11
          subst eM
          refine n_v1V c_36_54 rfl hq.c0.1.n rfl rfl rfl rfl (addWideM_2 (q := q) (r := z9) (g := (M 3 15)) hS hq (by omega) rfl) ?_
          intro  M12 hP13
          obtain ⟨hS12, f13g0⟩ := hP13
          refine n_fg (le_s (le_s (le_s (le_s (le_s (le_s le_0)))))) ?_
          exact ih.2 _ _ M12 hS12 (by omega) (by omega) (by omega) (by omega)
    · intro x4 x5 M hS k4 k5 hgg hnn
      refine n_iinc (L2 := [some (2, q), some (0, 2), some (0, s), some (2, 4), some (0, x4), some (0, (x5 + 1))]) c_36_57 rfl rfl rfl (n_goto c_36_60 (n_fg (le_s (le_s (le_s (le_s (le_s (le_s le_0)))))) ?_))
      exact ih.1 _ _ M hS (by omega) (by omega) (by omega) (by omega)
set_option maxHeartbeats 4000000 in
theorem takeM2_2 {xs : List Int32} {e : Nat} {ac : Int} {M : nM} {q s g : Int} (hS : Sf 2 ac M M) (hq : LawAt q) (hs : -2147483648 ≤ s ∧ s ≤ 2147483647) (hg : M 3 15 = g) : nW xs (e + 1) 36 0 [some (2, q), some (0, 2), some (0, s), some (2, 4), none, none] [] M (nPV fun M1 => Sf 2 ac M1 M1 ∧ (M1 3 15 = g)) := by
  have hd : (2 : Int) = 2 ∨ (2 : Int) = 3 := by decide
  have hac := hS.2.2.2.2
  refine n_aload_n c_36_0 rfl (n_iload_n c_36_1 rfl (n_putM (bi := 0) hS c_36_2 hq.c0.1.n rfl rfl rfl rfl (m_law hq (by omega) (by omega)) ?_))
  intro M1 eM1 hS1
  have g1_0 : M1 3 15 = M 3 15 := by rw [eM1]; exact nu_a (by unfold LawAt at *; omega)
  have g1_1 : M1 q 0 = 2 := by rw [eM1]; exact nu_s _ _ _ _
  refine n_aload_n c_36_5 rfl (n_iload_n c_36_6 rfl (n_putM (bi := 1) hS1 c_36_7 hq.c0.1.n rfl rfl rfl rfl (m_law hq (by omega) (by omega)) ?_))
  intro M2 eM2 hS2
  have g2_0 : M2 3 15 = M1 3 15 := by rw [eM2]; exact nu_a (by unfold LawAt at *; omega)
  have g2_1 : M2 q 0 = M1 q 0 := by rw [eM2]; exact nu_i (by omega)
  have g2_2 : M2 q 1 = s := by rw [eM2]; exact nu_s _ _ _ _
  refine n_aload_n c_36_10 rfl (n_iconst c_36_11 (n_putM (bi := 2) hS2 c_36_12 hq.c0.1.n rfl rfl rfl rfl (m_law hq (by omega) (by omega)) ?_))
  intro M3 eM3 hS3
  have g3_0 : M3 3 15 = M2 3 15 := by rw [eM3]; exact nu_a (by unfold LawAt at *; omega)
  have g3_1 : M3 q 0 = M2 q 0 := by rw [eM3]; exact nu_i (by omega)
  have g3_2 : M3 q 1 = M2 q 1 := by rw [eM3]; exact nu_i (by omega)
  have g3_3 : M3 q 2 = 0 := by rw [eM3]; exact nu_s _ _ _ _
  refine n_aload_n c_36_15 rfl (n_iconst c_36_16 (n_putM (bi := 3) hS3 c_36_17 hq.c0.1.n rfl rfl rfl rfl (m_law hq (by omega) (by omega)) ?_))
  intro M4 eM4 hS4
  have g4_0 : M4 3 15 = M3 3 15 := by rw [eM4]; exact nu_a (by unfold LawAt at *; omega)
  have g4_1 : M4 q 0 = M3 q 0 := by rw [eM4]; exact nu_i (by omega)
  have g4_2 : M4 q 1 = M3 q 1 := by rw [eM4]; exact nu_i (by omega)
  have g4_3 : M4 q 2 = M3 q 2 := by rw [eM4]; exact nu_i (by omega)
  have g4_4 : M4 q 3 = 0 := by rw [eM4]; exact nu_s _ _ _ _
  refine n_aload_n c_36_20 rfl (n_iload_n c_36_21 rfl (n_v1I c_36_22 rfl sc_4.n rfl rfl rfl rfl (power2_2  hS4 ) ?_))
  intro z5 M6 hP7
  obtain ⟨eM, f7⟩ := hP7
  subst eM
  obtain rfl : z5 = 4 := by omega
  refine n_istore (L2 := [some (2, q), some (0, 2), some (0, s), some (2, 4), some (0, 4), none]) c_36_25 rfl rfl (n_iconst c_36_27 (n_istore (L2 := [some (2, q), some (0, 2), some (0, s), some (2, 4), some (0, 4), some (0, 0)]) c_36_28 rfl rfl (n_fg (le_s (le_s (le_s (le_s (le_s (le_s le_0)))))) ?_)))
  exact (takeM2_2_c hS hq hs hg 34).1 _ _ M4 hS4 (by omega) (by omega) (by omega) (by omega)

set_option maxHeartbeats 4000000 in
theorem takeM3_2_c {xs : List Int32} {e : Nat} {ac : Int} {M : nM} {q s g : Int} (hS : Sf 2 ac M M) (hq : LawAt q) (hs : -2147483648 ≤ s ∧ s ≤ 2147483647) (hg : M 3 15 = g) : ∀ nn : Nat, (∀ (x4 x5 : Int) (M : nM), Sf 2 ac M M → (8 ≤ x4 ∧ x4 ≤ 8) → (0 ≤ x5 ∧ x5 ≤ 8) → (M 3 15 = g) → (8 - x5) * 2 + 2 < (nn : Int) → nW xs (e + 1) 36 30 [some (2, q), some (0, 3), some (0, s), some (2, 4), some (0, x4), some (0, x5)] [] M (nPV fun M1 => Sf 2 ac M1 M1 ∧ (M1 3 15 = g))) ∧ (∀ (x4 x5 : Int) (M : nM), Sf 2 ac M M → (8 ≤ x4 ∧ x4 ≤ 8) → (0 ≤ x5 ∧ x5 ≤ 7) → (M 3 15 = g) → (8 - x5) * 2 + 1 < (nn : Int) → nW xs (e + 1) 36 57 [some (2, q), some (0, 3), some (0, s), some (2, 4), some (0, x4), some (0, x5)] [] M (nPV fun M1 => Sf 2 ac M1 M1 ∧ (M1 3 15 = g))) := by
  have hd : (2 : Int) = 2 ∨ (2 : Int) = 3 := by decide
  have hac := hS.2.2.2.2
  intro nn
  induction nn with
  | zero => refine ⟨?_, ?_⟩ <;> (intros; omega)
  | succ nn ih =>
    refine ⟨?_, ?_⟩
    · intro x4 x5 M hS k4 k5 hgg hnn
      refine n_iload c_36_30 rfl (n_iload c_36_32 rfl ?_)
      refine n_if2_ge c_36_34 (by omega) (by omega) ?_ ?_
      · intro h1
        exact n_rV c_36_63 rfl ⟨hS, by omega⟩
      · intro h2
        refine n_iload_n c_36_37 rfl (n_iload c_36_38 rfl (n_i_ishr c_36_40 rfl ?_))
        have f3 := n_shr_r s x5
        generalize (n_shr s x5) = z4 at f3 ⊢
        refine n_iconst c_36_41 (n_i_iand c_36_42 rfl ?_)
        have f5 := n_and_y (x := z4) (y := 1) (by omega)
        generalize (n_and z4 1) = z6 at f5 ⊢
        refine n_if0_eq c_36_43 (by omega) ?_ ?_
        · intro h7
          refine n_fg (le_s (le_s (le_s (le_s (le_s (le_s le_0)))))) ?_
          exact ih.2 _ _ M hS (by omega) (by omega) (by omega) (by omega)
        · intro h8
          refine n_aload_n c_36_46 rfl (n_aload_n c_36_47 rfl (n_iload c_36_48 rfl (n_iload_n c_36_50 rfl (n_v2I c_36_51 rfl sc_4.n rfl rfl rfl rfl (widen3_2 (n := x5) hS (by omega)) ?_))))
          intro z9 M10 hP11
          obtain ⟨eM, f11⟩ := hP11
          subst eM
          refine n_v1V c_36_54 rfl hq.c0.1.n rfl rfl rfl rfl (addWideM_2 (q := q) (r := z9) (g := (M 3 15)) hS hq (by omega) rfl) ?_
          intro  M12 hP13
          obtain ⟨hS12, f13g0⟩ := hP13
          refine n_fg (le_s (le_s (le_s (le_s (le_s (le_s le_0)))))) ?_
          exact ih.2 _ _ M12 hS12 (by omega) (by omega) (by omega) (by omega)
    · intro x4 x5 M hS k4 k5 hgg hnn
      refine n_iinc (L2 := [some (2, q), some (0, 3), some (0, s), some (2, 4), some (0, x4), some (0, (x5 + 1))]) c_36_57 rfl rfl rfl (n_goto c_36_60 (n_fg (le_s (le_s (le_s (le_s (le_s (le_s le_0)))))) ?_))
      exact ih.1 _ _ M hS (by omega) (by omega) (by omega) (by omega)
set_option maxHeartbeats 4000000 in
theorem takeM3_2 {xs : List Int32} {e : Nat} {ac : Int} {M : nM} {q s g : Int} (hS : Sf 2 ac M M) (hq : LawAt q) (hs : -2147483648 ≤ s ∧ s ≤ 2147483647) (hg : M 3 15 = g) : nW xs (e + 1) 36 0 [some (2, q), some (0, 3), some (0, s), some (2, 4), none, none] [] M (nPV fun M1 => Sf 2 ac M1 M1 ∧ (M1 3 15 = g)) := by
  have hd : (2 : Int) = 2 ∨ (2 : Int) = 3 := by decide
  have hac := hS.2.2.2.2
  refine n_aload_n c_36_0 rfl (n_iload_n c_36_1 rfl (n_putM (bi := 0) hS c_36_2 hq.c0.1.n rfl rfl rfl rfl (m_law hq (by omega) (by omega)) ?_))
  intro M1 eM1 hS1
  have g1_0 : M1 3 15 = M 3 15 := by rw [eM1]; exact nu_a (by unfold LawAt at *; omega)
  have g1_1 : M1 q 0 = 3 := by rw [eM1]; exact nu_s _ _ _ _
  refine n_aload_n c_36_5 rfl (n_iload_n c_36_6 rfl (n_putM (bi := 1) hS1 c_36_7 hq.c0.1.n rfl rfl rfl rfl (m_law hq (by omega) (by omega)) ?_))
  intro M2 eM2 hS2
  have g2_0 : M2 3 15 = M1 3 15 := by rw [eM2]; exact nu_a (by unfold LawAt at *; omega)
  have g2_1 : M2 q 0 = M1 q 0 := by rw [eM2]; exact nu_i (by omega)
  have g2_2 : M2 q 1 = s := by rw [eM2]; exact nu_s _ _ _ _
  refine n_aload_n c_36_10 rfl (n_iconst c_36_11 (n_putM (bi := 2) hS2 c_36_12 hq.c0.1.n rfl rfl rfl rfl (m_law hq (by omega) (by omega)) ?_))
  intro M3 eM3 hS3
  have g3_0 : M3 3 15 = M2 3 15 := by rw [eM3]; exact nu_a (by unfold LawAt at *; omega)
  have g3_1 : M3 q 0 = M2 q 0 := by rw [eM3]; exact nu_i (by omega)
  have g3_2 : M3 q 1 = M2 q 1 := by rw [eM3]; exact nu_i (by omega)
  have g3_3 : M3 q 2 = 0 := by rw [eM3]; exact nu_s _ _ _ _
  refine n_aload_n c_36_15 rfl (n_iconst c_36_16 (n_putM (bi := 3) hS3 c_36_17 hq.c0.1.n rfl rfl rfl rfl (m_law hq (by omega) (by omega)) ?_))
  intro M4 eM4 hS4
  have g4_0 : M4 3 15 = M3 3 15 := by rw [eM4]; exact nu_a (by unfold LawAt at *; omega)
  have g4_1 : M4 q 0 = M3 q 0 := by rw [eM4]; exact nu_i (by omega)
  have g4_2 : M4 q 1 = M3 q 1 := by rw [eM4]; exact nu_i (by omega)
  have g4_3 : M4 q 2 = M3 q 2 := by rw [eM4]; exact nu_i (by omega)
  have g4_4 : M4 q 3 = 0 := by rw [eM4]; exact nu_s _ _ _ _
  refine n_aload_n c_36_20 rfl (n_iload_n c_36_21 rfl (n_v1I c_36_22 rfl sc_4.n rfl rfl rfl rfl (power3_2  hS4 ) ?_))
  intro z5 M6 hP7
  obtain ⟨eM, f7⟩ := hP7
  subst eM
  obtain rfl : z5 = 8 := by omega
  refine n_istore (L2 := [some (2, q), some (0, 3), some (0, s), some (2, 4), some (0, 8), none]) c_36_25 rfl rfl (n_iconst c_36_27 (n_istore (L2 := [some (2, q), some (0, 3), some (0, s), some (2, 4), some (0, 8), some (0, 0)]) c_36_28 rfl rfl (n_fg (le_s (le_s (le_s (le_s (le_s (le_s le_0)))))) ?_)))
  exact (takeM3_2_c hS hq hs hg 50).1 _ _ M4 hS4 (by omega) (by omega) (by omega) (by omega)

set_option maxHeartbeats 4000000 in
theorem takeM_2 {xs : List Int32} {e : Nat} {ac : Int} {M : nM} {q k s g : Int} (hS : Sf 2 ac M M) (hq : LawAt q) (hk : 1 ≤ k ∧ k ≤ 3) (hs : -2147483648 ≤ s ∧ s ≤ 2147483647) (hg : M 3 15 = g) : nW xs (e + 1) 36 0 [some (2, q), some (0, k), some (0, s), some (2, 4), none, none] [] M (nPV fun M1 => Sf 2 ac M1 M1 ∧ (M1 3 15 = g)) := by
  rcases (show k = 1 ∨ k = 2 ∨ k = 3 by omega) with rfl | rfl | rfl
  · exact n_post (takeM1_2 hS hq (by omega) hg) (fun w M1 h => h)
  · exact n_post (takeM2_2 hS hq (by omega) hg) (fun w M1 h => h)
  · exact n_post (takeM3_2 hS hq (by omega) hg) (fun w M1 h => h)

set_option maxHeartbeats 4000000 in
theorem law_2_c {xs : List Int32} {e : Nat} {ac : Int} {M : nM} {k s : Int} (hS : Sf 2 ac M M) (hk : -2147483648 ≤ k ∧ k ≤ 2147483647) (hs : -2147483648 ≤ s ∧ s ≤ 2147483647) : ∀ nn : Nat, (∀ (M : nM), Sf 2 ac M M → 1 < (nn : Int) → nW xs (e + 2) 98 19 [none, none, none, none] [] M (nPI fun z M1 => Sf 2 ac M1 M1 ∧ (-2147483648 ≤ z ∧ z ≤ 2147483647))) := by
  have hd : (2 : Int) = 2 ∨ (2 : Int) = 3 := by decide
  have hac := hS.2.2.2.2
  intro nn
  induction nn with
  | zero => intros; omega
  | succ nn ih =>
    intro M hS hnn
    refine n_bipush c_98_19 rfl ?_
    exact n_rI c_98_21 rfl ⟨hS, by omega⟩
set_option maxHeartbeats 4000000 in
theorem law_2 {xs : List Int32} {e : Nat} {ac : Int} {M : nM} {k s : Int} (hS : Sf 2 ac M M) (hk : -2147483648 ≤ k ∧ k ≤ 2147483647) (hs : -2147483648 ≤ s ∧ s ≤ 2147483647) : nW xs (e + 2) 98 0 [some (2, 3), some (0, k), some (0, s), none] [] M (nPI fun z M1 => Sf 2 ac M1 M1 ∧ (-2147483648 ≤ z ∧ z ≤ 2147483647)) := by
  have hd : (2 : Int) = 2 ∨ (2 : Int) = 3 := by decide
  have hac := hS.2.2.2.2
  refine n_aload_n c_98_0 rfl (n_getR c_98_1 sc_3.n rfl rfl rfl r_3_1 (n_iload_n c_98_4 rfl (n_v1I c_98_5 rfl sc_8.n rfl rfl rfl rfl (isSlot_2 (s := s) hS (by omega)) ?_)))
  intro z1 M2 hP3
  obtain ⟨eM, f3, f3p0⟩ := hP3
  subst eM
  refine n_if0_eq c_98_8 (by omega) ?_ ?_
  · intro h4
    refine n_fg (le_n (le_n (le_n (le_n le_0)))) ?_
    exact (law_2_c hS hk hs 12)  M hS  (by omega)
  · intro h5
    refine n_aload_n c_98_11 rfl (n_iload_n c_98_12 rfl (n_v1I c_98_13 rfl sc_3.n rfl rfl rfl rfl (isPlaceCount_2 (k := k) hS (by omega)) ?_))
    intro z6 M7 hP8
    obtain ⟨eM, f8, f8p0⟩ := hP8
    subst eM
    refine n_if0_ne c_98_16 (by omega) ?_ ?_
    · intro h9
      refine n_aload_n c_98_22 rfl (n_getV (bi := 15) c_98_23 sc_3.n rfl rfl rfl (t_3_15 hS) ?_)
      intro z10 ez10 f11
      refine n_bipush c_98_26 rfl ?_
      refine n_if2_lt c_98_28 (by omega) (by omega) ?_ ?_
      · intro h12
        refine n_aload_n c_98_34 rfl (n_getR c_98_35 sc_3.n rfl rfl rfl r_3_1 (n_iload_n c_98_38 rfl (n_v1I c_98_39 rfl sc_8.n rfl rfl rfl rfl (hasRow_2 (s := s) hS (by omega)) ?_)))
        intro z13 M14 hP15
        obtain ⟨eM, f15, f15p0⟩ := hP15
        subst eM
        refine n_if0_ne c_98_42 (by omega) ?_ ?_
        · intro h16
          refine n_aload_n c_98_48 rfl (n_iload_n c_98_49 rfl (n_iload_n c_98_50 rfl (n_v2I c_98_51 rfl sc_3.n rfl rfl rfl rfl (readLaw_2 (k := k) (s := s) hS (by omega) (by omega)) ?_)))
          intro z17 M18 hP19
          obtain ⟨eM, f19⟩ := hP19
          subst eM
          refine n_istore_n (L2 := [some (2, 3), some (0, k), some (0, s), some (0, z17)]) c_98_54 rfl rfl (n_iload_n c_98_55 rfl ?_)
          refine n_if0_ge c_98_56 (by omega) ?_ ?_
          · intro h20
            refine n_aload_n c_98_61 rfl (n_getR c_98_62 sc_3.n rfl rfl rfl r_3_3 (n_aload_n c_98_65 rfl (n_getV (bi := 15) c_98_66 sc_3.n rfl rfl rfl (t_3_15 hS) ?_)))
            intro z21 ez21 f22
            refine n_aaload c_98_69 sc_13.n rfl rfl rfl (by omega) (r_laws _) ?_
            have q23 : LawAt (79 + 2 * z21) := by unfold LawAt; omega
            refine n_iload_n c_98_70 rfl (n_iload_n c_98_71 rfl (n_aload_n c_98_72 rfl (n_getR c_98_73 sc_3.n rfl rfl rfl r_3_0 (n_v3V c_98_76 rfl q23.c0.1.n rfl rfl rfl rfl (takeM_2 (q := (79 + 2 * z21)) (k := k) (s := z17) (g := (M 3 15)) hS q23 (by omega) (by omega) rfl) ?_))))
            intro  M24 hP25
            obtain ⟨hS24, f25g0⟩ := hP25
            refine n_aload_n c_98_79 rfl (n_dup2 c_98_80 (n_getV (bi := 15) c_98_81 sc_3.n rfl rfl rfl (t_3_15 hS24) ?_))
            intro z26 ez26 f27
            refine n_dup_x102 c_98_84 (n_iconst c_98_85 (n_iadd c_98_86 rfl (n_putM (bi := 15) hS24 c_98_87 sc_3.n rfl rfl rfl rfl (m_3_15 (by omega)) ?_)))
            intro M28 eM28 hS28
            have g28_0 : M28 3 15 = (z26 + 1) := by rw [eM28]; exact nu_s _ _ _ _
            exact n_rI c_98_90 rfl ⟨hS28, by omega⟩
          · intro h29
            refine n_iload_n c_98_59 rfl ?_
            exact n_rI c_98_60 rfl ⟨hS, by omega⟩
        · intro h30
          refine n_bipush c_98_45 rfl ?_
          exact n_rI c_98_47 rfl ⟨hS, by omega⟩
      · intro h31
        refine n_bipush c_98_31 rfl ?_
        exact n_rI c_98_33 rfl ⟨hS, by omega⟩
    · intro h32
      refine n_fg (le_n (le_n (le_n (le_n le_0)))) ?_
      exact (law_2_c hS hk hs 12)  M hS  (by omega)

set_option maxHeartbeats 4000000 in
theorem mpower0_2 {xs : List Int32} {e : Nat} {ac : Int} {M0 M : nM} (hS : Sf 2 ac M0 M)  : nW xs e 140 0 [some (0, 2), some (0, 0), none, none] [] M (nPI fun z M1 => M = M1 ∧ (1 ≤ z ∧ z ≤ 1)) := by
  have hd : (2 : Int) = 2 ∨ (2 : Int) = 3 := by decide
  have hac := hS.2.2.2.2
  refine n_iconst c_140_0 (n_istore_n (L2 := [some (0, 2), some (0, 0), some (0, 1), none]) c_140_1 rfl rfl (n_iconst c_140_2 (n_istore_n (L2 := [some (0, 2), some (0, 0), some (0, 1), some (0, 0)]) c_140_3 rfl rfl (n_iload_n c_140_4 rfl (n_iload_n c_140_5 rfl ?_)))))
  refine n_if2_ge c_140_6 (by omega) (by omega) ?_ ?_
  · intro h1
    refine n_iload_n c_140_19 rfl ?_
    exact n_rI c_140_20 rfl ⟨rfl, by omega⟩
  · intro h2
    exfalso; omega

set_option maxHeartbeats 4000000 in
theorem mpower1_2 {xs : List Int32} {e : Nat} {ac : Int} {M0 M : nM} (hS : Sf 2 ac M0 M)  : nW xs e 140 0 [some (0, 2), some (0, 1), none, none] [] M (nPI fun z M1 => M = M1 ∧ (2 ≤ z ∧ z ≤ 2)) := by
  have hd : (2 : Int) = 2 ∨ (2 : Int) = 3 := by decide
  have hac := hS.2.2.2.2
  refine n_iconst c_140_0 (n_istore_n (L2 := [some (0, 2), some (0, 1), some (0, 1), none]) c_140_1 rfl rfl (n_iconst c_140_2 (n_istore_n (L2 := [some (0, 2), some (0, 1), some (0, 1), some (0, 0)]) c_140_3 rfl rfl (n_iload_n c_140_4 rfl (n_iload_n c_140_5 rfl ?_)))))
  refine n_if2_ge c_140_6 (by omega) (by omega) ?_ ?_
  · intro h1
    exfalso; omega
  · intro h2
    refine n_iload_n c_140_9 rfl (n_iload_n c_140_10 rfl (n_imul c_140_11 rfl (n_istore_n (L2 := [some (0, 2), some (0, 1), some (0, (1 * 2)), some (0, 0)]) c_140_12 rfl rfl (n_iinc (L2 := [some (0, 2), some (0, 1), some (0, (1 * 2)), some (0, (0 + 1))]) c_140_13 rfl rfl rfl (n_goto c_140_16 (n_iload_n c_140_4 rfl (n_iload_n c_140_5 rfl ?_)))))))
    refine n_if2_ge c_140_6 (by omega) (by omega) ?_ ?_
    · intro h3
      refine n_iload_n c_140_19 rfl ?_
      exact n_rI c_140_20 rfl ⟨rfl, by omega⟩
    · intro h4
      exfalso; omega

set_option maxHeartbeats 4000000 in
theorem mpower2_2 {xs : List Int32} {e : Nat} {ac : Int} {M0 M : nM} (hS : Sf 2 ac M0 M)  : nW xs e 140 0 [some (0, 2), some (0, 2), none, none] [] M (nPI fun z M1 => M = M1 ∧ (4 ≤ z ∧ z ≤ 4)) := by
  have hd : (2 : Int) = 2 ∨ (2 : Int) = 3 := by decide
  have hac := hS.2.2.2.2
  refine n_iconst c_140_0 (n_istore_n (L2 := [some (0, 2), some (0, 2), some (0, 1), none]) c_140_1 rfl rfl (n_iconst c_140_2 (n_istore_n (L2 := [some (0, 2), some (0, 2), some (0, 1), some (0, 0)]) c_140_3 rfl rfl (n_iload_n c_140_4 rfl (n_iload_n c_140_5 rfl ?_)))))
  refine n_if2_ge c_140_6 (by omega) (by omega) ?_ ?_
  · intro h1
    exfalso; omega
  · intro h2
    refine n_iload_n c_140_9 rfl (n_iload_n c_140_10 rfl (n_imul c_140_11 rfl (n_istore_n (L2 := [some (0, 2), some (0, 2), some (0, (1 * 2)), some (0, 0)]) c_140_12 rfl rfl (n_iinc (L2 := [some (0, 2), some (0, 2), some (0, (1 * 2)), some (0, (0 + 1))]) c_140_13 rfl rfl rfl (n_goto c_140_16 (n_iload_n c_140_4 rfl (n_iload_n c_140_5 rfl ?_)))))))
    refine n_if2_ge c_140_6 (by omega) (by omega) ?_ ?_
    · intro h3
      exfalso; omega
    · intro h4
      refine n_iload_n c_140_9 rfl (n_iload_n c_140_10 rfl (n_imul c_140_11 rfl (n_istore_n (L2 := [some (0, 2), some (0, 2), some (0, ((1 * 2) * 2)), some (0, (0 + 1))]) c_140_12 rfl rfl (n_iinc (L2 := [some (0, 2), some (0, 2), some (0, ((1 * 2) * 2)), some (0, ((0 + 1) + 1))]) c_140_13 rfl rfl rfl (n_goto c_140_16 (n_iload_n c_140_4 rfl (n_iload_n c_140_5 rfl ?_)))))))
      refine n_if2_ge c_140_6 (by omega) (by omega) ?_ ?_
      · intro h5
        refine n_iload_n c_140_19 rfl ?_
        exact n_rI c_140_20 rfl ⟨rfl, by omega⟩
      · intro h6
        exfalso; omega

set_option maxHeartbeats 4000000 in
theorem mpower3_2 {xs : List Int32} {e : Nat} {ac : Int} {M0 M : nM} (hS : Sf 2 ac M0 M)  : nW xs e 140 0 [some (0, 2), some (0, 3), none, none] [] M (nPI fun z M1 => M = M1 ∧ (8 ≤ z ∧ z ≤ 8)) := by
  have hd : (2 : Int) = 2 ∨ (2 : Int) = 3 := by decide
  have hac := hS.2.2.2.2
  refine n_iconst c_140_0 (n_istore_n (L2 := [some (0, 2), some (0, 3), some (0, 1), none]) c_140_1 rfl rfl (n_iconst c_140_2 (n_istore_n (L2 := [some (0, 2), some (0, 3), some (0, 1), some (0, 0)]) c_140_3 rfl rfl (n_iload_n c_140_4 rfl (n_iload_n c_140_5 rfl ?_)))))
  refine n_if2_ge c_140_6 (by omega) (by omega) ?_ ?_
  · intro h1
    exfalso; omega
  · intro h2
    refine n_iload_n c_140_9 rfl (n_iload_n c_140_10 rfl (n_imul c_140_11 rfl (n_istore_n (L2 := [some (0, 2), some (0, 3), some (0, (1 * 2)), some (0, 0)]) c_140_12 rfl rfl (n_iinc (L2 := [some (0, 2), some (0, 3), some (0, (1 * 2)), some (0, (0 + 1))]) c_140_13 rfl rfl rfl (n_goto c_140_16 (n_iload_n c_140_4 rfl (n_iload_n c_140_5 rfl ?_)))))))
    refine n_if2_ge c_140_6 (by omega) (by omega) ?_ ?_
    · intro h3
      exfalso; omega
    · intro h4
      refine n_iload_n c_140_9 rfl (n_iload_n c_140_10 rfl (n_imul c_140_11 rfl (n_istore_n (L2 := [some (0, 2), some (0, 3), some (0, ((1 * 2) * 2)), some (0, (0 + 1))]) c_140_12 rfl rfl (n_iinc (L2 := [some (0, 2), some (0, 3), some (0, ((1 * 2) * 2)), some (0, ((0 + 1) + 1))]) c_140_13 rfl rfl rfl (n_goto c_140_16 (n_iload_n c_140_4 rfl (n_iload_n c_140_5 rfl ?_)))))))
      refine n_if2_ge c_140_6 (by omega) (by omega) ?_ ?_
      · intro h5
        exfalso; omega
      · intro h6
        refine n_iload_n c_140_9 rfl (n_iload_n c_140_10 rfl (n_imul c_140_11 rfl (n_istore_n (L2 := [some (0, 2), some (0, 3), some (0, (((1 * 2) * 2) * 2)), some (0, ((0 + 1) + 1))]) c_140_12 rfl rfl (n_iinc (L2 := [some (0, 2), some (0, 3), some (0, (((1 * 2) * 2) * 2)), some (0, (((0 + 1) + 1) + 1))]) c_140_13 rfl rfl rfl (n_goto c_140_16 (n_iload_n c_140_4 rfl (n_iload_n c_140_5 rfl ?_)))))))
        refine n_if2_ge c_140_6 (by omega) (by omega) ?_ ?_
        · intro h7
          refine n_iload_n c_140_19 rfl ?_
          exact n_rI c_140_20 rfl ⟨rfl, by omega⟩
        · intro h8
          exfalso; omega

set_option maxHeartbeats 4000000 in
theorem mpower4_2 {xs : List Int32} {e : Nat} {ac : Int} {M0 M : nM} (hS : Sf 2 ac M0 M)  : nW xs e 140 0 [some (0, 2), some (0, 4), none, none] [] M (nPI fun z M1 => M = M1 ∧ (16 ≤ z ∧ z ≤ 16)) := by
  have hd : (2 : Int) = 2 ∨ (2 : Int) = 3 := by decide
  have hac := hS.2.2.2.2
  refine n_iconst c_140_0 (n_istore_n (L2 := [some (0, 2), some (0, 4), some (0, 1), none]) c_140_1 rfl rfl (n_iconst c_140_2 (n_istore_n (L2 := [some (0, 2), some (0, 4), some (0, 1), some (0, 0)]) c_140_3 rfl rfl (n_iload_n c_140_4 rfl (n_iload_n c_140_5 rfl ?_)))))
  refine n_if2_ge c_140_6 (by omega) (by omega) ?_ ?_
  · intro h1
    exfalso; omega
  · intro h2
    refine n_iload_n c_140_9 rfl (n_iload_n c_140_10 rfl (n_imul c_140_11 rfl (n_istore_n (L2 := [some (0, 2), some (0, 4), some (0, (1 * 2)), some (0, 0)]) c_140_12 rfl rfl (n_iinc (L2 := [some (0, 2), some (0, 4), some (0, (1 * 2)), some (0, (0 + 1))]) c_140_13 rfl rfl rfl (n_goto c_140_16 (n_iload_n c_140_4 rfl (n_iload_n c_140_5 rfl ?_)))))))
    refine n_if2_ge c_140_6 (by omega) (by omega) ?_ ?_
    · intro h3
      exfalso; omega
    · intro h4
      refine n_iload_n c_140_9 rfl (n_iload_n c_140_10 rfl (n_imul c_140_11 rfl (n_istore_n (L2 := [some (0, 2), some (0, 4), some (0, ((1 * 2) * 2)), some (0, (0 + 1))]) c_140_12 rfl rfl (n_iinc (L2 := [some (0, 2), some (0, 4), some (0, ((1 * 2) * 2)), some (0, ((0 + 1) + 1))]) c_140_13 rfl rfl rfl (n_goto c_140_16 (n_iload_n c_140_4 rfl (n_iload_n c_140_5 rfl ?_)))))))
      refine n_if2_ge c_140_6 (by omega) (by omega) ?_ ?_
      · intro h5
        exfalso; omega
      · intro h6
        refine n_iload_n c_140_9 rfl (n_iload_n c_140_10 rfl (n_imul c_140_11 rfl (n_istore_n (L2 := [some (0, 2), some (0, 4), some (0, (((1 * 2) * 2) * 2)), some (0, ((0 + 1) + 1))]) c_140_12 rfl rfl (n_iinc (L2 := [some (0, 2), some (0, 4), some (0, (((1 * 2) * 2) * 2)), some (0, (((0 + 1) + 1) + 1))]) c_140_13 rfl rfl rfl (n_goto c_140_16 (n_iload_n c_140_4 rfl (n_iload_n c_140_5 rfl ?_)))))))
        refine n_if2_ge c_140_6 (by omega) (by omega) ?_ ?_
        · intro h7
          exfalso; omega
        · intro h8
          refine n_iload_n c_140_9 rfl (n_iload_n c_140_10 rfl (n_imul c_140_11 rfl (n_istore_n (L2 := [some (0, 2), some (0, 4), some (0, ((((1 * 2) * 2) * 2) * 2)), some (0, (((0 + 1) + 1) + 1))]) c_140_12 rfl rfl (n_iinc (L2 := [some (0, 2), some (0, 4), some (0, ((((1 * 2) * 2) * 2) * 2)), some (0, ((((0 + 1) + 1) + 1) + 1))]) c_140_13 rfl rfl rfl (n_goto c_140_16 (n_iload_n c_140_4 rfl (n_iload_n c_140_5 rfl ?_)))))))
          refine n_if2_ge c_140_6 (by omega) (by omega) ?_ ?_
          · intro h9
            refine n_iload_n c_140_19 rfl ?_
            exact n_rI c_140_20 rfl ⟨rfl, by omega⟩
          · intro h10
            exfalso; omega

set_option maxHeartbeats 4000000 in
theorem mpower5_2 {xs : List Int32} {e : Nat} {ac : Int} {M0 M : nM} (hS : Sf 2 ac M0 M)  : nW xs e 140 0 [some (0, 2), some (0, 5), none, none] [] M (nPI fun z M1 => M = M1 ∧ (32 ≤ z ∧ z ≤ 32)) := by
  have hd : (2 : Int) = 2 ∨ (2 : Int) = 3 := by decide
  have hac := hS.2.2.2.2
  refine n_iconst c_140_0 (n_istore_n (L2 := [some (0, 2), some (0, 5), some (0, 1), none]) c_140_1 rfl rfl (n_iconst c_140_2 (n_istore_n (L2 := [some (0, 2), some (0, 5), some (0, 1), some (0, 0)]) c_140_3 rfl rfl (n_iload_n c_140_4 rfl (n_iload_n c_140_5 rfl ?_)))))
  refine n_if2_ge c_140_6 (by omega) (by omega) ?_ ?_
  · intro h1
    exfalso; omega
  · intro h2
    refine n_iload_n c_140_9 rfl (n_iload_n c_140_10 rfl (n_imul c_140_11 rfl (n_istore_n (L2 := [some (0, 2), some (0, 5), some (0, (1 * 2)), some (0, 0)]) c_140_12 rfl rfl (n_iinc (L2 := [some (0, 2), some (0, 5), some (0, (1 * 2)), some (0, (0 + 1))]) c_140_13 rfl rfl rfl (n_goto c_140_16 (n_iload_n c_140_4 rfl (n_iload_n c_140_5 rfl ?_)))))))
    refine n_if2_ge c_140_6 (by omega) (by omega) ?_ ?_
    · intro h3
      exfalso; omega
    · intro h4
      refine n_iload_n c_140_9 rfl (n_iload_n c_140_10 rfl (n_imul c_140_11 rfl (n_istore_n (L2 := [some (0, 2), some (0, 5), some (0, ((1 * 2) * 2)), some (0, (0 + 1))]) c_140_12 rfl rfl (n_iinc (L2 := [some (0, 2), some (0, 5), some (0, ((1 * 2) * 2)), some (0, ((0 + 1) + 1))]) c_140_13 rfl rfl rfl (n_goto c_140_16 (n_iload_n c_140_4 rfl (n_iload_n c_140_5 rfl ?_)))))))
      refine n_if2_ge c_140_6 (by omega) (by omega) ?_ ?_
      · intro h5
        exfalso; omega
      · intro h6
        refine n_iload_n c_140_9 rfl (n_iload_n c_140_10 rfl (n_imul c_140_11 rfl (n_istore_n (L2 := [some (0, 2), some (0, 5), some (0, (((1 * 2) * 2) * 2)), some (0, ((0 + 1) + 1))]) c_140_12 rfl rfl (n_iinc (L2 := [some (0, 2), some (0, 5), some (0, (((1 * 2) * 2) * 2)), some (0, (((0 + 1) + 1) + 1))]) c_140_13 rfl rfl rfl (n_goto c_140_16 (n_iload_n c_140_4 rfl (n_iload_n c_140_5 rfl ?_)))))))
        refine n_if2_ge c_140_6 (by omega) (by omega) ?_ ?_
        · intro h7
          exfalso; omega
        · intro h8
          refine n_iload_n c_140_9 rfl (n_iload_n c_140_10 rfl (n_imul c_140_11 rfl (n_istore_n (L2 := [some (0, 2), some (0, 5), some (0, ((((1 * 2) * 2) * 2) * 2)), some (0, (((0 + 1) + 1) + 1))]) c_140_12 rfl rfl (n_iinc (L2 := [some (0, 2), some (0, 5), some (0, ((((1 * 2) * 2) * 2) * 2)), some (0, ((((0 + 1) + 1) + 1) + 1))]) c_140_13 rfl rfl rfl (n_goto c_140_16 (n_iload_n c_140_4 rfl (n_iload_n c_140_5 rfl ?_)))))))
          refine n_if2_ge c_140_6 (by omega) (by omega) ?_ ?_
          · intro h9
            exfalso; omega
          · intro h10
            refine n_iload_n c_140_9 rfl (n_iload_n c_140_10 rfl (n_imul c_140_11 rfl (n_istore_n (L2 := [some (0, 2), some (0, 5), some (0, (((((1 * 2) * 2) * 2) * 2) * 2)), some (0, ((((0 + 1) + 1) + 1) + 1))]) c_140_12 rfl rfl (n_iinc (L2 := [some (0, 2), some (0, 5), some (0, (((((1 * 2) * 2) * 2) * 2) * 2)), some (0, (((((0 + 1) + 1) + 1) + 1) + 1))]) c_140_13 rfl rfl rfl (n_goto c_140_16 (n_iload_n c_140_4 rfl (n_iload_n c_140_5 rfl ?_)))))))
            refine n_if2_ge c_140_6 (by omega) (by omega) ?_ ?_
            · intro h11
              refine n_iload_n c_140_19 rfl ?_
              exact n_rI c_140_20 rfl ⟨rfl, by omega⟩
            · intro h12
              exfalso; omega

set_option maxHeartbeats 4000000 in
theorem mpower6_2 {xs : List Int32} {e : Nat} {ac : Int} {M0 M : nM} (hS : Sf 2 ac M0 M)  : nW xs e 140 0 [some (0, 2), some (0, 6), none, none] [] M (nPI fun z M1 => M = M1 ∧ (64 ≤ z ∧ z ≤ 64)) := by
  have hd : (2 : Int) = 2 ∨ (2 : Int) = 3 := by decide
  have hac := hS.2.2.2.2
  refine n_iconst c_140_0 (n_istore_n (L2 := [some (0, 2), some (0, 6), some (0, 1), none]) c_140_1 rfl rfl (n_iconst c_140_2 (n_istore_n (L2 := [some (0, 2), some (0, 6), some (0, 1), some (0, 0)]) c_140_3 rfl rfl (n_iload_n c_140_4 rfl (n_iload_n c_140_5 rfl ?_)))))
  refine n_if2_ge c_140_6 (by omega) (by omega) ?_ ?_
  · intro h1
    exfalso; omega
  · intro h2
    refine n_iload_n c_140_9 rfl (n_iload_n c_140_10 rfl (n_imul c_140_11 rfl (n_istore_n (L2 := [some (0, 2), some (0, 6), some (0, (1 * 2)), some (0, 0)]) c_140_12 rfl rfl (n_iinc (L2 := [some (0, 2), some (0, 6), some (0, (1 * 2)), some (0, (0 + 1))]) c_140_13 rfl rfl rfl (n_goto c_140_16 (n_iload_n c_140_4 rfl (n_iload_n c_140_5 rfl ?_)))))))
    refine n_if2_ge c_140_6 (by omega) (by omega) ?_ ?_
    · intro h3
      exfalso; omega
    · intro h4
      refine n_iload_n c_140_9 rfl (n_iload_n c_140_10 rfl (n_imul c_140_11 rfl (n_istore_n (L2 := [some (0, 2), some (0, 6), some (0, ((1 * 2) * 2)), some (0, (0 + 1))]) c_140_12 rfl rfl (n_iinc (L2 := [some (0, 2), some (0, 6), some (0, ((1 * 2) * 2)), some (0, ((0 + 1) + 1))]) c_140_13 rfl rfl rfl (n_goto c_140_16 (n_iload_n c_140_4 rfl (n_iload_n c_140_5 rfl ?_)))))))
      refine n_if2_ge c_140_6 (by omega) (by omega) ?_ ?_
      · intro h5
        exfalso; omega
      · intro h6
        refine n_iload_n c_140_9 rfl (n_iload_n c_140_10 rfl (n_imul c_140_11 rfl (n_istore_n (L2 := [some (0, 2), some (0, 6), some (0, (((1 * 2) * 2) * 2)), some (0, ((0 + 1) + 1))]) c_140_12 rfl rfl (n_iinc (L2 := [some (0, 2), some (0, 6), some (0, (((1 * 2) * 2) * 2)), some (0, (((0 + 1) + 1) + 1))]) c_140_13 rfl rfl rfl (n_goto c_140_16 (n_iload_n c_140_4 rfl (n_iload_n c_140_5 rfl ?_)))))))
        refine n_if2_ge c_140_6 (by omega) (by omega) ?_ ?_
        · intro h7
          exfalso; omega
        · intro h8
          refine n_iload_n c_140_9 rfl (n_iload_n c_140_10 rfl (n_imul c_140_11 rfl (n_istore_n (L2 := [some (0, 2), some (0, 6), some (0, ((((1 * 2) * 2) * 2) * 2)), some (0, (((0 + 1) + 1) + 1))]) c_140_12 rfl rfl (n_iinc (L2 := [some (0, 2), some (0, 6), some (0, ((((1 * 2) * 2) * 2) * 2)), some (0, ((((0 + 1) + 1) + 1) + 1))]) c_140_13 rfl rfl rfl (n_goto c_140_16 (n_iload_n c_140_4 rfl (n_iload_n c_140_5 rfl ?_)))))))
          refine n_if2_ge c_140_6 (by omega) (by omega) ?_ ?_
          · intro h9
            exfalso; omega
          · intro h10
            refine n_iload_n c_140_9 rfl (n_iload_n c_140_10 rfl (n_imul c_140_11 rfl (n_istore_n (L2 := [some (0, 2), some (0, 6), some (0, (((((1 * 2) * 2) * 2) * 2) * 2)), some (0, ((((0 + 1) + 1) + 1) + 1))]) c_140_12 rfl rfl (n_iinc (L2 := [some (0, 2), some (0, 6), some (0, (((((1 * 2) * 2) * 2) * 2) * 2)), some (0, (((((0 + 1) + 1) + 1) + 1) + 1))]) c_140_13 rfl rfl rfl (n_goto c_140_16 (n_iload_n c_140_4 rfl (n_iload_n c_140_5 rfl ?_)))))))
            refine n_if2_ge c_140_6 (by omega) (by omega) ?_ ?_
            · intro h11
              exfalso; omega
            · intro h12
              refine n_iload_n c_140_9 rfl (n_iload_n c_140_10 rfl (n_imul c_140_11 rfl (n_istore_n (L2 := [some (0, 2), some (0, 6), some (0, ((((((1 * 2) * 2) * 2) * 2) * 2) * 2)), some (0, (((((0 + 1) + 1) + 1) + 1) + 1))]) c_140_12 rfl rfl (n_iinc (L2 := [some (0, 2), some (0, 6), some (0, ((((((1 * 2) * 2) * 2) * 2) * 2) * 2)), some (0, ((((((0 + 1) + 1) + 1) + 1) + 1) + 1))]) c_140_13 rfl rfl rfl (n_goto c_140_16 (n_iload_n c_140_4 rfl (n_iload_n c_140_5 rfl ?_)))))))
              refine n_if2_ge c_140_6 (by omega) (by omega) ?_ ?_
              · intro h13
                refine n_iload_n c_140_19 rfl ?_
                exact n_rI c_140_20 rfl ⟨rfl, by omega⟩
              · intro h14
                exfalso; omega

set_option maxHeartbeats 4000000 in
theorem mpower7_2 {xs : List Int32} {e : Nat} {ac : Int} {M0 M : nM} (hS : Sf 2 ac M0 M)  : nW xs e 140 0 [some (0, 2), some (0, 7), none, none] [] M (nPI fun z M1 => M = M1 ∧ (128 ≤ z ∧ z ≤ 128)) := by
  have hd : (2 : Int) = 2 ∨ (2 : Int) = 3 := by decide
  have hac := hS.2.2.2.2
  refine n_iconst c_140_0 (n_istore_n (L2 := [some (0, 2), some (0, 7), some (0, 1), none]) c_140_1 rfl rfl (n_iconst c_140_2 (n_istore_n (L2 := [some (0, 2), some (0, 7), some (0, 1), some (0, 0)]) c_140_3 rfl rfl (n_iload_n c_140_4 rfl (n_iload_n c_140_5 rfl ?_)))))
  refine n_if2_ge c_140_6 (by omega) (by omega) ?_ ?_
  · intro h1
    exfalso; omega
  · intro h2
    refine n_iload_n c_140_9 rfl (n_iload_n c_140_10 rfl (n_imul c_140_11 rfl (n_istore_n (L2 := [some (0, 2), some (0, 7), some (0, (1 * 2)), some (0, 0)]) c_140_12 rfl rfl (n_iinc (L2 := [some (0, 2), some (0, 7), some (0, (1 * 2)), some (0, (0 + 1))]) c_140_13 rfl rfl rfl (n_goto c_140_16 (n_iload_n c_140_4 rfl (n_iload_n c_140_5 rfl ?_)))))))
    refine n_if2_ge c_140_6 (by omega) (by omega) ?_ ?_
    · intro h3
      exfalso; omega
    · intro h4
      refine n_iload_n c_140_9 rfl (n_iload_n c_140_10 rfl (n_imul c_140_11 rfl (n_istore_n (L2 := [some (0, 2), some (0, 7), some (0, ((1 * 2) * 2)), some (0, (0 + 1))]) c_140_12 rfl rfl (n_iinc (L2 := [some (0, 2), some (0, 7), some (0, ((1 * 2) * 2)), some (0, ((0 + 1) + 1))]) c_140_13 rfl rfl rfl (n_goto c_140_16 (n_iload_n c_140_4 rfl (n_iload_n c_140_5 rfl ?_)))))))
      refine n_if2_ge c_140_6 (by omega) (by omega) ?_ ?_
      · intro h5
        exfalso; omega
      · intro h6
        refine n_iload_n c_140_9 rfl (n_iload_n c_140_10 rfl (n_imul c_140_11 rfl (n_istore_n (L2 := [some (0, 2), some (0, 7), some (0, (((1 * 2) * 2) * 2)), some (0, ((0 + 1) + 1))]) c_140_12 rfl rfl (n_iinc (L2 := [some (0, 2), some (0, 7), some (0, (((1 * 2) * 2) * 2)), some (0, (((0 + 1) + 1) + 1))]) c_140_13 rfl rfl rfl (n_goto c_140_16 (n_iload_n c_140_4 rfl (n_iload_n c_140_5 rfl ?_)))))))
        refine n_if2_ge c_140_6 (by omega) (by omega) ?_ ?_
        · intro h7
          exfalso; omega
        · intro h8
          refine n_iload_n c_140_9 rfl (n_iload_n c_140_10 rfl (n_imul c_140_11 rfl (n_istore_n (L2 := [some (0, 2), some (0, 7), some (0, ((((1 * 2) * 2) * 2) * 2)), some (0, (((0 + 1) + 1) + 1))]) c_140_12 rfl rfl (n_iinc (L2 := [some (0, 2), some (0, 7), some (0, ((((1 * 2) * 2) * 2) * 2)), some (0, ((((0 + 1) + 1) + 1) + 1))]) c_140_13 rfl rfl rfl (n_goto c_140_16 (n_iload_n c_140_4 rfl (n_iload_n c_140_5 rfl ?_)))))))
          refine n_if2_ge c_140_6 (by omega) (by omega) ?_ ?_
          · intro h9
            exfalso; omega
          · intro h10
            refine n_iload_n c_140_9 rfl (n_iload_n c_140_10 rfl (n_imul c_140_11 rfl (n_istore_n (L2 := [some (0, 2), some (0, 7), some (0, (((((1 * 2) * 2) * 2) * 2) * 2)), some (0, ((((0 + 1) + 1) + 1) + 1))]) c_140_12 rfl rfl (n_iinc (L2 := [some (0, 2), some (0, 7), some (0, (((((1 * 2) * 2) * 2) * 2) * 2)), some (0, (((((0 + 1) + 1) + 1) + 1) + 1))]) c_140_13 rfl rfl rfl (n_goto c_140_16 (n_iload_n c_140_4 rfl (n_iload_n c_140_5 rfl ?_)))))))
            refine n_if2_ge c_140_6 (by omega) (by omega) ?_ ?_
            · intro h11
              exfalso; omega
            · intro h12
              refine n_iload_n c_140_9 rfl (n_iload_n c_140_10 rfl (n_imul c_140_11 rfl (n_istore_n (L2 := [some (0, 2), some (0, 7), some (0, ((((((1 * 2) * 2) * 2) * 2) * 2) * 2)), some (0, (((((0 + 1) + 1) + 1) + 1) + 1))]) c_140_12 rfl rfl (n_iinc (L2 := [some (0, 2), some (0, 7), some (0, ((((((1 * 2) * 2) * 2) * 2) * 2) * 2)), some (0, ((((((0 + 1) + 1) + 1) + 1) + 1) + 1))]) c_140_13 rfl rfl rfl (n_goto c_140_16 (n_iload_n c_140_4 rfl (n_iload_n c_140_5 rfl ?_)))))))
              refine n_if2_ge c_140_6 (by omega) (by omega) ?_ ?_
              · intro h13
                exfalso; omega
              · intro h14
                refine n_iload_n c_140_9 rfl (n_iload_n c_140_10 rfl (n_imul c_140_11 rfl (n_istore_n (L2 := [some (0, 2), some (0, 7), some (0, (((((((1 * 2) * 2) * 2) * 2) * 2) * 2) * 2)), some (0, ((((((0 + 1) + 1) + 1) + 1) + 1) + 1))]) c_140_12 rfl rfl (n_iinc (L2 := [some (0, 2), some (0, 7), some (0, (((((((1 * 2) * 2) * 2) * 2) * 2) * 2) * 2)), some (0, (((((((0 + 1) + 1) + 1) + 1) + 1) + 1) + 1))]) c_140_13 rfl rfl rfl (n_goto c_140_16 (n_iload_n c_140_4 rfl (n_iload_n c_140_5 rfl ?_)))))))
                refine n_if2_ge c_140_6 (by omega) (by omega) ?_ ?_
                · intro h15
                  refine n_iload_n c_140_19 rfl ?_
                  exact n_rI c_140_20 rfl ⟨rfl, by omega⟩
                · intro h16
                  exfalso; omega

set_option maxHeartbeats 4000000 in
theorem mpower8_2 {xs : List Int32} {e : Nat} {ac : Int} {M0 M : nM} (hS : Sf 2 ac M0 M)  : nW xs e 140 0 [some (0, 2), some (0, 8), none, none] [] M (nPI fun z M1 => M = M1 ∧ (256 ≤ z ∧ z ≤ 256)) := by
  have hd : (2 : Int) = 2 ∨ (2 : Int) = 3 := by decide
  have hac := hS.2.2.2.2
  refine n_iconst c_140_0 (n_istore_n (L2 := [some (0, 2), some (0, 8), some (0, 1), none]) c_140_1 rfl rfl (n_iconst c_140_2 (n_istore_n (L2 := [some (0, 2), some (0, 8), some (0, 1), some (0, 0)]) c_140_3 rfl rfl (n_iload_n c_140_4 rfl (n_iload_n c_140_5 rfl ?_)))))
  refine n_if2_ge c_140_6 (by omega) (by omega) ?_ ?_
  · intro h1
    exfalso; omega
  · intro h2
    refine n_iload_n c_140_9 rfl (n_iload_n c_140_10 rfl (n_imul c_140_11 rfl (n_istore_n (L2 := [some (0, 2), some (0, 8), some (0, (1 * 2)), some (0, 0)]) c_140_12 rfl rfl (n_iinc (L2 := [some (0, 2), some (0, 8), some (0, (1 * 2)), some (0, (0 + 1))]) c_140_13 rfl rfl rfl (n_goto c_140_16 (n_iload_n c_140_4 rfl (n_iload_n c_140_5 rfl ?_)))))))
    refine n_if2_ge c_140_6 (by omega) (by omega) ?_ ?_
    · intro h3
      exfalso; omega
    · intro h4
      refine n_iload_n c_140_9 rfl (n_iload_n c_140_10 rfl (n_imul c_140_11 rfl (n_istore_n (L2 := [some (0, 2), some (0, 8), some (0, ((1 * 2) * 2)), some (0, (0 + 1))]) c_140_12 rfl rfl (n_iinc (L2 := [some (0, 2), some (0, 8), some (0, ((1 * 2) * 2)), some (0, ((0 + 1) + 1))]) c_140_13 rfl rfl rfl (n_goto c_140_16 (n_iload_n c_140_4 rfl (n_iload_n c_140_5 rfl ?_)))))))
      refine n_if2_ge c_140_6 (by omega) (by omega) ?_ ?_
      · intro h5
        exfalso; omega
      · intro h6
        refine n_iload_n c_140_9 rfl (n_iload_n c_140_10 rfl (n_imul c_140_11 rfl (n_istore_n (L2 := [some (0, 2), some (0, 8), some (0, (((1 * 2) * 2) * 2)), some (0, ((0 + 1) + 1))]) c_140_12 rfl rfl (n_iinc (L2 := [some (0, 2), some (0, 8), some (0, (((1 * 2) * 2) * 2)), some (0, (((0 + 1) + 1) + 1))]) c_140_13 rfl rfl rfl (n_goto c_140_16 (n_iload_n c_140_4 rfl (n_iload_n c_140_5 rfl ?_)))))))
        refine n_if2_ge c_140_6 (by omega) (by omega) ?_ ?_
        · intro h7
          exfalso; omega
        · intro h8
          refine n_iload_n c_140_9 rfl (n_iload_n c_140_10 rfl (n_imul c_140_11 rfl (n_istore_n (L2 := [some (0, 2), some (0, 8), some (0, ((((1 * 2) * 2) * 2) * 2)), some (0, (((0 + 1) + 1) + 1))]) c_140_12 rfl rfl (n_iinc (L2 := [some (0, 2), some (0, 8), some (0, ((((1 * 2) * 2) * 2) * 2)), some (0, ((((0 + 1) + 1) + 1) + 1))]) c_140_13 rfl rfl rfl (n_goto c_140_16 (n_iload_n c_140_4 rfl (n_iload_n c_140_5 rfl ?_)))))))
          refine n_if2_ge c_140_6 (by omega) (by omega) ?_ ?_
          · intro h9
            exfalso; omega
          · intro h10
            refine n_iload_n c_140_9 rfl (n_iload_n c_140_10 rfl (n_imul c_140_11 rfl (n_istore_n (L2 := [some (0, 2), some (0, 8), some (0, (((((1 * 2) * 2) * 2) * 2) * 2)), some (0, ((((0 + 1) + 1) + 1) + 1))]) c_140_12 rfl rfl (n_iinc (L2 := [some (0, 2), some (0, 8), some (0, (((((1 * 2) * 2) * 2) * 2) * 2)), some (0, (((((0 + 1) + 1) + 1) + 1) + 1))]) c_140_13 rfl rfl rfl (n_goto c_140_16 (n_iload_n c_140_4 rfl (n_iload_n c_140_5 rfl ?_)))))))
            refine n_if2_ge c_140_6 (by omega) (by omega) ?_ ?_
            · intro h11
              exfalso; omega
            · intro h12
              refine n_iload_n c_140_9 rfl (n_iload_n c_140_10 rfl (n_imul c_140_11 rfl (n_istore_n (L2 := [some (0, 2), some (0, 8), some (0, ((((((1 * 2) * 2) * 2) * 2) * 2) * 2)), some (0, (((((0 + 1) + 1) + 1) + 1) + 1))]) c_140_12 rfl rfl (n_iinc (L2 := [some (0, 2), some (0, 8), some (0, ((((((1 * 2) * 2) * 2) * 2) * 2) * 2)), some (0, ((((((0 + 1) + 1) + 1) + 1) + 1) + 1))]) c_140_13 rfl rfl rfl (n_goto c_140_16 (n_iload_n c_140_4 rfl (n_iload_n c_140_5 rfl ?_)))))))
              refine n_if2_ge c_140_6 (by omega) (by omega) ?_ ?_
              · intro h13
                exfalso; omega
              · intro h14
                refine n_iload_n c_140_9 rfl (n_iload_n c_140_10 rfl (n_imul c_140_11 rfl (n_istore_n (L2 := [some (0, 2), some (0, 8), some (0, (((((((1 * 2) * 2) * 2) * 2) * 2) * 2) * 2)), some (0, ((((((0 + 1) + 1) + 1) + 1) + 1) + 1))]) c_140_12 rfl rfl (n_iinc (L2 := [some (0, 2), some (0, 8), some (0, (((((((1 * 2) * 2) * 2) * 2) * 2) * 2) * 2)), some (0, (((((((0 + 1) + 1) + 1) + 1) + 1) + 1) + 1))]) c_140_13 rfl rfl rfl (n_goto c_140_16 (n_iload_n c_140_4 rfl (n_iload_n c_140_5 rfl ?_)))))))
                refine n_if2_ge c_140_6 (by omega) (by omega) ?_ ?_
                · intro h15
                  exfalso; omega
                · intro h16
                  refine n_iload_n c_140_9 rfl (n_iload_n c_140_10 rfl (n_imul c_140_11 rfl (n_istore_n (L2 := [some (0, 2), some (0, 8), some (0, ((((((((1 * 2) * 2) * 2) * 2) * 2) * 2) * 2) * 2)), some (0, (((((((0 + 1) + 1) + 1) + 1) + 1) + 1) + 1))]) c_140_12 rfl rfl (n_iinc (L2 := [some (0, 2), some (0, 8), some (0, ((((((((1 * 2) * 2) * 2) * 2) * 2) * 2) * 2) * 2)), some (0, ((((((((0 + 1) + 1) + 1) + 1) + 1) + 1) + 1) + 1))]) c_140_13 rfl rfl rfl (n_goto c_140_16 (n_iload_n c_140_4 rfl (n_iload_n c_140_5 rfl ?_)))))))
                  refine n_if2_ge c_140_6 (by omega) (by omega) ?_ ?_
                  · intro h17
                    refine n_iload_n c_140_19 rfl ?_
                    exact n_rI c_140_20 rfl ⟨rfl, by omega⟩
                  · intro h18
                    exfalso; omega

set_option maxHeartbeats 4000000 in
theorem mpower9_2 {xs : List Int32} {e : Nat} {ac : Int} {M0 M : nM} (hS : Sf 2 ac M0 M)  : nW xs e 140 0 [some (0, 2), some (0, 9), none, none] [] M (nPI fun z M1 => M = M1 ∧ (512 ≤ z ∧ z ≤ 512)) := by
  have hd : (2 : Int) = 2 ∨ (2 : Int) = 3 := by decide
  have hac := hS.2.2.2.2
  refine n_iconst c_140_0 (n_istore_n (L2 := [some (0, 2), some (0, 9), some (0, 1), none]) c_140_1 rfl rfl (n_iconst c_140_2 (n_istore_n (L2 := [some (0, 2), some (0, 9), some (0, 1), some (0, 0)]) c_140_3 rfl rfl (n_iload_n c_140_4 rfl (n_iload_n c_140_5 rfl ?_)))))
  refine n_if2_ge c_140_6 (by omega) (by omega) ?_ ?_
  · intro h1
    exfalso; omega
  · intro h2
    refine n_iload_n c_140_9 rfl (n_iload_n c_140_10 rfl (n_imul c_140_11 rfl (n_istore_n (L2 := [some (0, 2), some (0, 9), some (0, (1 * 2)), some (0, 0)]) c_140_12 rfl rfl (n_iinc (L2 := [some (0, 2), some (0, 9), some (0, (1 * 2)), some (0, (0 + 1))]) c_140_13 rfl rfl rfl (n_goto c_140_16 (n_iload_n c_140_4 rfl (n_iload_n c_140_5 rfl ?_)))))))
    refine n_if2_ge c_140_6 (by omega) (by omega) ?_ ?_
    · intro h3
      exfalso; omega
    · intro h4
      refine n_iload_n c_140_9 rfl (n_iload_n c_140_10 rfl (n_imul c_140_11 rfl (n_istore_n (L2 := [some (0, 2), some (0, 9), some (0, ((1 * 2) * 2)), some (0, (0 + 1))]) c_140_12 rfl rfl (n_iinc (L2 := [some (0, 2), some (0, 9), some (0, ((1 * 2) * 2)), some (0, ((0 + 1) + 1))]) c_140_13 rfl rfl rfl (n_goto c_140_16 (n_iload_n c_140_4 rfl (n_iload_n c_140_5 rfl ?_)))))))
      refine n_if2_ge c_140_6 (by omega) (by omega) ?_ ?_
      · intro h5
        exfalso; omega
      · intro h6
        refine n_iload_n c_140_9 rfl (n_iload_n c_140_10 rfl (n_imul c_140_11 rfl (n_istore_n (L2 := [some (0, 2), some (0, 9), some (0, (((1 * 2) * 2) * 2)), some (0, ((0 + 1) + 1))]) c_140_12 rfl rfl (n_iinc (L2 := [some (0, 2), some (0, 9), some (0, (((1 * 2) * 2) * 2)), some (0, (((0 + 1) + 1) + 1))]) c_140_13 rfl rfl rfl (n_goto c_140_16 (n_iload_n c_140_4 rfl (n_iload_n c_140_5 rfl ?_)))))))
        refine n_if2_ge c_140_6 (by omega) (by omega) ?_ ?_
        · intro h7
          exfalso; omega
        · intro h8
          refine n_iload_n c_140_9 rfl (n_iload_n c_140_10 rfl (n_imul c_140_11 rfl (n_istore_n (L2 := [some (0, 2), some (0, 9), some (0, ((((1 * 2) * 2) * 2) * 2)), some (0, (((0 + 1) + 1) + 1))]) c_140_12 rfl rfl (n_iinc (L2 := [some (0, 2), some (0, 9), some (0, ((((1 * 2) * 2) * 2) * 2)), some (0, ((((0 + 1) + 1) + 1) + 1))]) c_140_13 rfl rfl rfl (n_goto c_140_16 (n_iload_n c_140_4 rfl (n_iload_n c_140_5 rfl ?_)))))))
          refine n_if2_ge c_140_6 (by omega) (by omega) ?_ ?_
          · intro h9
            exfalso; omega
          · intro h10
            refine n_iload_n c_140_9 rfl (n_iload_n c_140_10 rfl (n_imul c_140_11 rfl (n_istore_n (L2 := [some (0, 2), some (0, 9), some (0, (((((1 * 2) * 2) * 2) * 2) * 2)), some (0, ((((0 + 1) + 1) + 1) + 1))]) c_140_12 rfl rfl (n_iinc (L2 := [some (0, 2), some (0, 9), some (0, (((((1 * 2) * 2) * 2) * 2) * 2)), some (0, (((((0 + 1) + 1) + 1) + 1) + 1))]) c_140_13 rfl rfl rfl (n_goto c_140_16 (n_iload_n c_140_4 rfl (n_iload_n c_140_5 rfl ?_)))))))
            refine n_if2_ge c_140_6 (by omega) (by omega) ?_ ?_
            · intro h11
              exfalso; omega
            · intro h12
              refine n_iload_n c_140_9 rfl (n_iload_n c_140_10 rfl (n_imul c_140_11 rfl (n_istore_n (L2 := [some (0, 2), some (0, 9), some (0, ((((((1 * 2) * 2) * 2) * 2) * 2) * 2)), some (0, (((((0 + 1) + 1) + 1) + 1) + 1))]) c_140_12 rfl rfl (n_iinc (L2 := [some (0, 2), some (0, 9), some (0, ((((((1 * 2) * 2) * 2) * 2) * 2) * 2)), some (0, ((((((0 + 1) + 1) + 1) + 1) + 1) + 1))]) c_140_13 rfl rfl rfl (n_goto c_140_16 (n_iload_n c_140_4 rfl (n_iload_n c_140_5 rfl ?_)))))))
              refine n_if2_ge c_140_6 (by omega) (by omega) ?_ ?_
              · intro h13
                exfalso; omega
              · intro h14
                refine n_iload_n c_140_9 rfl (n_iload_n c_140_10 rfl (n_imul c_140_11 rfl (n_istore_n (L2 := [some (0, 2), some (0, 9), some (0, (((((((1 * 2) * 2) * 2) * 2) * 2) * 2) * 2)), some (0, ((((((0 + 1) + 1) + 1) + 1) + 1) + 1))]) c_140_12 rfl rfl (n_iinc (L2 := [some (0, 2), some (0, 9), some (0, (((((((1 * 2) * 2) * 2) * 2) * 2) * 2) * 2)), some (0, (((((((0 + 1) + 1) + 1) + 1) + 1) + 1) + 1))]) c_140_13 rfl rfl rfl (n_goto c_140_16 (n_iload_n c_140_4 rfl (n_iload_n c_140_5 rfl ?_)))))))
                refine n_if2_ge c_140_6 (by omega) (by omega) ?_ ?_
                · intro h15
                  exfalso; omega
                · intro h16
                  refine n_iload_n c_140_9 rfl (n_iload_n c_140_10 rfl (n_imul c_140_11 rfl (n_istore_n (L2 := [some (0, 2), some (0, 9), some (0, ((((((((1 * 2) * 2) * 2) * 2) * 2) * 2) * 2) * 2)), some (0, (((((((0 + 1) + 1) + 1) + 1) + 1) + 1) + 1))]) c_140_12 rfl rfl (n_iinc (L2 := [some (0, 2), some (0, 9), some (0, ((((((((1 * 2) * 2) * 2) * 2) * 2) * 2) * 2) * 2)), some (0, ((((((((0 + 1) + 1) + 1) + 1) + 1) + 1) + 1) + 1))]) c_140_13 rfl rfl rfl (n_goto c_140_16 (n_iload_n c_140_4 rfl (n_iload_n c_140_5 rfl ?_)))))))
                  refine n_if2_ge c_140_6 (by omega) (by omega) ?_ ?_
                  · intro h17
                    exfalso; omega
                  · intro h18
                    refine n_iload_n c_140_9 rfl (n_iload_n c_140_10 rfl (n_imul c_140_11 rfl (n_istore_n (L2 := [some (0, 2), some (0, 9), some (0, (((((((((1 * 2) * 2) * 2) * 2) * 2) * 2) * 2) * 2) * 2)), some (0, ((((((((0 + 1) + 1) + 1) + 1) + 1) + 1) + 1) + 1))]) c_140_12 rfl rfl (n_iinc (L2 := [some (0, 2), some (0, 9), some (0, (((((((((1 * 2) * 2) * 2) * 2) * 2) * 2) * 2) * 2) * 2)), some (0, (((((((((0 + 1) + 1) + 1) + 1) + 1) + 1) + 1) + 1) + 1))]) c_140_13 rfl rfl rfl (n_goto c_140_16 (n_iload_n c_140_4 rfl (n_iload_n c_140_5 rfl ?_)))))))
                    refine n_if2_ge c_140_6 (by omega) (by omega) ?_ ?_
                    · intro h19
                      refine n_iload_n c_140_19 rfl ?_
                      exact n_rI c_140_20 rfl ⟨rfl, by omega⟩
                    · intro h20
                      exfalso; omega

set_option maxHeartbeats 4000000 in
theorem mpowerU3_2 {xs : List Int32} {e : Nat} {ac : Int} {M0 M : nM} {n : Int} (hS : Sf 2 ac M0 M) (hn : 0 ≤ n ∧ n ≤ 3) : nW xs e 140 0 [some (0, 2), some (0, n), none, none] [] M (nPI fun z M1 => M = M1 ∧ (1 ≤ z ∧ z ≤ 8)) := by
  rcases (show n = 0 ∨ n = 1 ∨ n = 2 ∨ n = 3 by omega) with rfl | rfl | rfl | rfl
  · exact n_post (mpower0_2 hS ) (fun w M1 h => by obtain ⟨z, rfl, h1, h2⟩ := h; exact ⟨z, rfl, h1, by omega⟩)
  · exact n_post (mpower1_2 hS ) (fun w M1 h => by obtain ⟨z, rfl, h1, h2⟩ := h; exact ⟨z, rfl, h1, by omega⟩)
  · exact n_post (mpower2_2 hS ) (fun w M1 h => by obtain ⟨z, rfl, h1, h2⟩ := h; exact ⟨z, rfl, h1, by omega⟩)
  · exact n_post (mpower3_2 hS ) (fun w M1 h => by obtain ⟨z, rfl, h1, h2⟩ := h; exact ⟨z, rfl, h1, by omega⟩)

set_option maxHeartbeats 4000000 in
theorem mpowerU_2 {xs : List Int32} {e : Nat} {ac : Int} {M0 M : nM} {n : Int} (hS : Sf 2 ac M0 M) (hn : 0 ≤ n ∧ n ≤ 9) : nW xs e 140 0 [some (0, 2), some (0, n), none, none] [] M (nPI fun z M1 => M = M1 ∧ (1 ≤ z ∧ z ≤ 512)) := by
  rcases (show n = 0 ∨ n = 1 ∨ n = 2 ∨ n = 3 ∨ n = 4 ∨ n = 5 ∨ n = 6 ∨ n = 7 ∨ n = 8 ∨ n = 9 by omega) with rfl | rfl | rfl | rfl | rfl | rfl | rfl | rfl | rfl | rfl
  · exact n_post (mpower0_2 hS ) (fun w M1 h => by obtain ⟨z, rfl, h1, h2⟩ := h; exact ⟨z, rfl, h1, by omega⟩)
  · exact n_post (mpower1_2 hS ) (fun w M1 h => by obtain ⟨z, rfl, h1, h2⟩ := h; exact ⟨z, rfl, h1, by omega⟩)
  · exact n_post (mpower2_2 hS ) (fun w M1 h => by obtain ⟨z, rfl, h1, h2⟩ := h; exact ⟨z, rfl, h1, by omega⟩)
  · exact n_post (mpower3_2 hS ) (fun w M1 h => by obtain ⟨z, rfl, h1, h2⟩ := h; exact ⟨z, rfl, h1, by omega⟩)
  · exact n_post (mpower4_2 hS ) (fun w M1 h => by obtain ⟨z, rfl, h1, h2⟩ := h; exact ⟨z, rfl, h1, by omega⟩)
  · exact n_post (mpower5_2 hS ) (fun w M1 h => by obtain ⟨z, rfl, h1, h2⟩ := h; exact ⟨z, rfl, h1, by omega⟩)
  · exact n_post (mpower6_2 hS ) (fun w M1 h => by obtain ⟨z, rfl, h1, h2⟩ := h; exact ⟨z, rfl, h1, by omega⟩)
  · exact n_post (mpower7_2 hS ) (fun w M1 h => by obtain ⟨z, rfl, h1, h2⟩ := h; exact ⟨z, rfl, h1, by omega⟩)
  · exact n_post (mpower8_2 hS ) (fun w M1 h => by obtain ⟨z, rfl, h1, h2⟩ := h; exact ⟨z, rfl, h1, by omega⟩)
  · exact n_post (mpower9_2 hS ) (fun w M1 h => by obtain ⟨z, rfl, h1, h2⟩ := h; exact ⟨z, rfl, h1, by omega⟩)

set_option maxHeartbeats 4000000 in
theorem mpowerN_2_c {xs : List Int32} {e : Nat} {ac : Int} {M0 M : nM} {n : Int} (hS : Sf 2 ac M0 M) (hn : -2147483648 ≤ n ∧ n ≤ 0) : ∀ nn : Nat, (∀ (x2 x3 : Int), (1 ≤ x2 ∧ x2 ≤ 1) → (0 ≤ x3 ∧ x3 ≤ 0) → (0 - x3) * 1 + 1 < (nn : Int) → nW xs e 140 4 [some (0, 2), some (0, n), some (0, x2), some (0, x3)] [] M (nPI fun z M1 => M = M1 ∧ (1 ≤ z ∧ z ≤ 1))) := by
  have hd : (2 : Int) = 2 ∨ (2 : Int) = 3 := by decide
  have hac := hS.2.2.2.2
  intro nn
  induction nn with
  | zero => intros; omega
  | succ nn ih =>
    intro x2 x3 k2 k3 hnn
    refine n_iload_n c_140_4 rfl (n_iload_n c_140_5 rfl ?_)
    refine n_if2_ge c_140_6 (by omega) (by omega) ?_ ?_
    · intro h1
      refine n_iload_n c_140_19 rfl ?_
      exact n_rI c_140_20 rfl ⟨rfl, by omega⟩
    · intro h2
      exfalso; omega
set_option maxHeartbeats 4000000 in
theorem mpowerN_2 {xs : List Int32} {e : Nat} {ac : Int} {M0 M : nM} {n : Int} (hS : Sf 2 ac M0 M) (hn : -2147483648 ≤ n ∧ n ≤ 0) : nW xs e 140 0 [some (0, 2), some (0, n), none, none] [] M (nPI fun z M1 => M = M1 ∧ (1 ≤ z ∧ z ≤ 1)) := by
  have hd : (2 : Int) = 2 ∨ (2 : Int) = 3 := by decide
  have hac := hS.2.2.2.2
  refine n_iconst c_140_0 (n_istore_n (L2 := [some (0, 2), some (0, n), some (0, 1), none]) c_140_1 rfl rfl (n_iconst c_140_2 (n_istore_n (L2 := [some (0, 2), some (0, n), some (0, 1), some (0, 0)]) c_140_3 rfl rfl (n_fg (le_s (le_s (le_s (le_s le_0)))) ?_))))
  exact (mpowerN_2_c hS hn 14) _ _ (by omega) (by omega) (by omega)

set_option maxHeartbeats 4000000 in
theorem changed_2_c {xs : List Int32} {e : Nat} {ac : Int} {M0 M : nM} (hS : Sf 2 ac M0 M) (hdm : M0 112 0 = 2) : ∀ nn : Nat, (∀ (x1 : Int) (M : nM), Sf 2 ac M0 M → (0 ≤ x1 ∧ x1 ≤ 4) → (4 - x1) * 1 + 1 < (nn : Int) → nW xs e 141 2 [some (2, 112), some (0, x1)] [] M (nPV fun M1 => Sf 2 ac M0 M1)) := by
  have hd : (2 : Int) = 2 ∨ (2 : Int) = 3 := by decide
  have hac := hS.2.2.2.2
  intro nn
  induction nn with
  | zero => intros; omega
  | succ nn ih =>
    intro x1 M hS k1 hnn
    refine n_iload_n c_141_2 rfl (n_iconst c_141_3 ?_)
    refine n_if2_ge c_141_4 (by omega) (by omega) ?_ ?_
    · intro h1
      exact n_rV c_141_20 rfl hS
    · intro h2
      refine n_aload_n c_141_7 rfl (n_getR c_141_8 sc_112.n rfl rfl rfl r_112_16 (n_iload_n c_141_11 rfl (n_iconst c_141_12 (n_iastoreV hS c_141_13 sc_124.n rfl (by omega) (w_124 (by omega) (by omega)) ?_))))
      intro M3 eM3 hS3
      refine n_iinc (L2 := [some (2, 112), some (0, (x1 + 1))]) c_141_14 rfl rfl rfl (n_goto c_141_17 (n_fg (le_s (le_s le_0)) ?_))
      exact ih _ M3 hS3 (by omega) (by omega)
set_option maxHeartbeats 4000000 in
theorem changed_2 {xs : List Int32} {e : Nat} {ac : Int} {M0 M : nM} (hS : Sf 2 ac M0 M) (hdm : M0 112 0 = 2) : nW xs e 141 0 [some (2, 112), none] [] M (nPV fun M1 => Sf 2 ac M0 M1) := by
  have hd : (2 : Int) = 2 ∨ (2 : Int) = 3 := by decide
  have hac := hS.2.2.2.2
  refine n_iconst c_141_0 (n_istore_n (L2 := [some (2, 112), some (0, 0)]) c_141_1 rfl rfl (n_fg (le_s (le_s le_0)) ?_))
  exact (changed_2_c hS hdm 22) _ M hS (by omega) (by omega)

set_option maxHeartbeats 4000000 in
theorem misSlot_2_c {xs : List Int32} {e : Nat} {ac : Int} {M0 M : nM} {s : Int} (hS : Sf 2 ac M0 M) (hs : -2147483648 ≤ s ∧ s ≤ 2147483647) : ∀ nn : Nat, (1 < (nn : Int) → nW xs e 143 14 [none] [] M (nPI fun z M1 => M = M1 ∧ (0 ≤ z ∧ z ≤ 1) ∧ (z = 0 ∨ (0 ≤ s ∧ s ≤ 7)))) := by
  have hd : (2 : Int) = 2 ∨ (2 : Int) = 3 := by decide
  have hac := hS.2.2.2.2
  intro nn
  induction nn with
  | zero => intros; omega
  | succ nn ih =>
    intro hnn
    refine n_iconst c_143_14 ?_
    exact n_rZ c_143_15 rfl (by omega) ⟨rfl, by omega, by omega⟩
set_option maxHeartbeats 4000000 in
theorem misSlot_2 {xs : List Int32} {e : Nat} {ac : Int} {M0 M : nM} {s : Int} (hS : Sf 2 ac M0 M) (hs : -2147483648 ≤ s ∧ s ≤ 2147483647) : nW xs e 143 0 [some (0, s)] [] M (nPI fun z M1 => M = M1 ∧ (0 ≤ z ∧ z ≤ 1) ∧ (z = 0 ∨ (0 ≤ s ∧ s ≤ 7))) := by
  have hd : (2 : Int) = 2 ∨ (2 : Int) = 3 := by decide
  have hac := hS.2.2.2.2
  refine n_iload_n c_143_0 rfl ?_
  refine n_if0_lt c_143_1 (by omega) ?_ ?_
  · intro h1
    refine n_fg (le_n le_0) ?_
    exact (misSlot_2_c hS hs 12)   (by omega)
  · intro h2
    refine n_iload_n c_143_4 rfl (n_bipush c_143_5 rfl ?_)
    refine n_if2_gt c_143_7 (by omega) (by omega) ?_ ?_
    · intro h3
      refine n_fg (le_n le_0) ?_
      exact (misSlot_2_c hS hs 12)   (by omega)
    · intro h4
      refine n_iconst c_143_10 (n_goto c_143_11 ?_)
      exact n_rZ c_143_15 rfl (by omega) ⟨rfl, by omega, by omega⟩

set_option maxHeartbeats 4000000 in
theorem misThing_2_c {xs : List Int32} {e : Nat} {ac : Int} {M0 M : nM} {v : Int} (hS : Sf 2 ac M0 M) (hdm : M0 112 0 = 2) (hv : -9223372036854775808 ≤ v ∧ v ≤ 9223372036854775807) : ∀ nn : Nat, (1 < (nn : Int) → nW xs e 147 20 [none, none, none] [] M (nPI fun z M1 => M = M1 ∧ (0 ≤ z ∧ z ≤ 1) ∧ (z = 0 ∨ (0 ≤ v ∧ v ≤ 1)))) := by
  have hd : (2 : Int) = 2 ∨ (2 : Int) = 3 := by decide
  have hac := hS.2.2.2.2
  intro nn
  induction nn with
  | zero => intros; omega
  | succ nn ih =>
    intro hnn
    refine n_iconst c_147_20 ?_
    exact n_rZ c_147_21 rfl (by omega) ⟨rfl, by omega, by omega⟩
set_option maxHeartbeats 4000000 in
theorem misThing_2 {xs : List Int32} {e : Nat} {ac : Int} {M0 M : nM} {v : Int} (hS : Sf 2 ac M0 M) (hdm : M0 112 0 = 2) (hv : -9223372036854775808 ≤ v ∧ v ≤ 9223372036854775807) : nW xs e 147 0 [some (2, 112), some (1, v), none] [] M (nPI fun z M1 => M = M1 ∧ (0 ≤ z ∧ z ≤ 1) ∧ (z = 0 ∨ (0 ≤ v ∧ v ≤ 1))) := by
  have hd : (2 : Int) = 2 ∨ (2 : Int) = 3 := by decide
  have hac := hS.2.2.2.2
  refine n_lload_n c_147_0 rfl (n_lconst (n := 0) c_147_1 rfl (n_lcmp c_147_2 ?_))
  refine n_lif_lt c_147_3 (by omega) (by omega) ?_ ?_
  · intro h1
    refine n_fg (le_n (le_n (le_n le_0))) ?_
    exact (misThing_2_c hS hdm hv 12)   (by omega)
  · intro h2
    refine n_lload_n c_147_6 rfl (n_aload_n c_147_7 rfl (n_getV (bi := 0) c_147_8 sc_112.n rfl rfl rfl (t_dm hS hdm) ?_))
    intro z3 ez3 f4
    obtain rfl : z3 = 2 := by omega
    refine n_i2l c_147_11 (by omega) ?_
    refine n_lcmp c_147_12 ?_
    refine n_lif_ge c_147_13 (by omega) (by omega) ?_ ?_
    · intro h5
      refine n_fg (le_n (le_n (le_n le_0))) ?_
      exact (misThing_2_c hS hdm hv 12)   (by omega)
    · intro h6
      refine n_iconst c_147_16 (n_goto c_147_17 ?_)
      exact n_rZ c_147_21 rfl (by omega) ⟨rfl, by omega, by omega⟩

set_option maxHeartbeats 4000000 in
theorem mat_2_c {xs : List Int32} {e : Nat} {ac : Int} {M0 M : nM} {a r : Int} (hS : Sf 2 ac M0 M) (hdm : M0 112 0 = 2) (ha : -2147483648 ≤ a ∧ a ≤ 2147483647) (hr : -2147483648 ≤ r ∧ r ≤ 2147483647) : ∀ nn : Nat, (1 < (nn : Int) → nW xs (e + 1) 150 33 [none, none, none] [] M (nPI fun z M1 => M = M1 ∧ (-2147483648 ≤ z ∧ z ≤ 2147483647))) := by
  have hd : (2 : Int) = 2 ∨ (2 : Int) = 3 := by decide
  have hac := hS.2.2.2.2
  intro nn
  induction nn with
  | zero => intros; omega
  | succ nn ih =>
    intro hnn
    refine n_iconst c_150_33 (n_goto c_150_34 ?_)
    exact n_rI c_150_48 rfl ⟨rfl, by omega⟩
set_option maxHeartbeats 4000000 in
theorem mat_2 {xs : List Int32} {e : Nat} {ac : Int} {M0 M : nM} {a r : Int} (hS : Sf 2 ac M0 M) (hdm : M0 112 0 = 2) (ha : -2147483648 ≤ a ∧ a ≤ 2147483647) (hr : -2147483648 ≤ r ∧ r ≤ 2147483647) : nW xs (e + 1) 150 0 [some (2, 112), some (0, a), some (0, r)] [] M (nPI fun z M1 => M = M1 ∧ (-2147483648 ≤ z ∧ z ≤ 2147483647)) := by
  have hd : (2 : Int) = 2 ∨ (2 : Int) = 3 := by decide
  have hac := hS.2.2.2.2
  refine n_iload_n c_150_0 rfl ?_
  refine n_if0_lt c_150_1 (by omega) ?_ ?_
  · intro h1
    refine n_fg (le_n (le_n (le_n le_0))) ?_
    exact (mat_2_c hS hdm ha hr 12)   (by omega)
  · intro h2
    refine n_iload_n c_150_4 rfl (n_aload_n c_150_5 rfl (n_getV (bi := 4) c_150_6 sc_112.n rfl rfl rfl (t_112_4 hS) ?_))
    intro z3 ez3 f4
    refine n_if2_ge c_150_9 (by omega) (by omega) ?_ ?_
    · intro h5
      refine n_fg (le_n (le_n (le_n le_0))) ?_
      exact (mat_2_c hS hdm ha hr 12)   (by omega)
    · intro h6
      refine n_iload_n c_150_12 rfl ?_
      refine n_if0_lt c_150_13 (by omega) ?_ ?_
      · intro h7
        refine n_fg (le_n (le_n (le_n le_0))) ?_
        exact (mat_2_c hS hdm ha hr 12)   (by omega)
      · intro h8
        refine n_iload_n c_150_16 rfl (n_aload_n c_150_17 rfl (n_getV (bi := 0) c_150_18 sc_112.n rfl rfl rfl (t_dm hS hdm) ?_))
        intro z9 ez9 f10
        obtain rfl : z9 = 2 := by omega
        refine n_aload_n c_150_21 rfl (n_getR c_150_22 sc_112.n rfl rfl rfl r_112_5 (n_iload_n c_150_25 rfl (n_ialoadV c_150_26 sc_116.n rfl rfl rfl (by omega) (t_116 hS (by omega)) ?_)))
        intro z11 ez11 f12
        refine n_s2I c_150_27 rfl rfl rfl rfl (mpowerU3_2 (n := z11) hS (by omega)) ?_
        intro z13 M14 hP15
        obtain ⟨eM, f15⟩ := hP15
        subst eM
        refine n_if2_lt c_150_30 (by omega) (by omega) ?_ ?_
        · intro h16
          refine n_aload_n c_150_37 rfl (n_getR c_150_38 sc_112.n rfl rfl rfl r_112_6 (n_bipush c_150_41 rfl (n_iload_n c_150_43 rfl (n_imul c_150_44 rfl (n_iload_n c_150_45 rfl (n_iadd c_150_46 rfl (n_ialoadV c_150_47 sc_117.n rfl rfl rfl (by omega) (t_117 hS (by omega)) ?_)))))))
          intro z17 ez17 f18
          exact n_rI c_150_48 rfl ⟨rfl, by omega⟩
        · intro h19
          refine n_fg (le_n (le_n (le_n le_0))) ?_
          exact (mat_2_c hS hdm ha hr 12)   (by omega)

set_option maxHeartbeats 4000000 in
theorem mlawOf_2_c {xs : List Int32} {e : Nat} {ac : Int} {M0 M : nM} {l : Int} (hS : Sf 2 ac M0 M) (hdm : M0 112 0 = 2) (hl : -2147483648 ≤ l ∧ l ≤ 2147483647) : ∀ nn : Nat, (1 < (nn : Int) → nW xs e 151 12 [none, none] [] M (nPJ fun z M1 => M = M1 ∧ (-9223372036854775808 ≤ z ∧ z ≤ 9223372036854775807))) := by
  have hd : (2 : Int) = 2 ∨ (2 : Int) = 3 := by decide
  have hac := hS.2.2.2.2
  intro nn
  induction nn with
  | zero => intros; omega
  | succ nn ih =>
    intro hnn
    refine n_ldc2 (n := (-1)) c_151_12 rfl (n_goto c_151_15 ?_)
    exact n_rJ c_151_24 rfl ⟨rfl, by omega⟩
set_option maxHeartbeats 4000000 in
theorem mlawOf_2 {xs : List Int32} {e : Nat} {ac : Int} {M0 M : nM} {l : Int} (hS : Sf 2 ac M0 M) (hdm : M0 112 0 = 2) (hl : -2147483648 ≤ l ∧ l ≤ 2147483647) : nW xs e 151 0 [some (2, 112), some (0, l)] [] M (nPJ fun z M1 => M = M1 ∧ (-9223372036854775808 ≤ z ∧ z ≤ 9223372036854775807)) := by
  have hd : (2 : Int) = 2 ∨ (2 : Int) = 3 := by decide
  have hac := hS.2.2.2.2
  refine n_iload_n c_151_0 rfl ?_
  refine n_if0_lt c_151_1 (by omega) ?_ ?_
  · intro h1
    refine n_fg (le_n (le_n le_0)) ?_
    exact (mlawOf_2_c hS hdm hl 12)   (by omega)
  · intro h2
    refine n_iload_n c_151_4 rfl (n_aload_n c_151_5 rfl (n_getV (bi := 7) c_151_6 sc_112.n rfl rfl rfl (t_112_7 hS) ?_))
    intro z3 ez3 f4
    refine n_if2_lt c_151_9 (by omega) (by omega) ?_ ?_
    · intro h5
      refine n_aload_n c_151_18 rfl (n_getR c_151_19 sc_112.n rfl rfl rfl r_112_9 (n_iload_n c_151_22 rfl (n_laloadV c_151_23 sc_119.n rfl rfl rfl (by omega) (t_119 hS (by omega)) ?_)))
      intro z6 ez6 f7
      exact n_rJ c_151_24 rfl ⟨rfl, by omega⟩
    · intro h8
      refine n_fg (le_n (le_n le_0)) ?_
      exact (mlawOf_2_c hS hdm hl 12)   (by omega)

set_option maxHeartbeats 4000000 in
theorem imageT0_2 {xs : List Int32} {e : Nat} {ac : Int} {M0 M : nM} {m f x y z0 : Int} (hS : Sf 2 ac M0 M) (hdm : M0 112 0 = 2) (hm : 0 ≤ m ∧ m ≤ 3) (hf : 0 ≤ f ∧ f ≤ 189) (hx : 0 ≤ x ∧ x ≤ 26) (hy : 0 ≤ y ∧ y ≤ 26) (hz0 : 0 ≤ z0 ∧ z0 ≤ 26) : nW xs (e + 1) 153 0 [some (2, 112), some (0, m), some (2, 117), some (0, f), some (0, 0), some (0, x), some (0, y), some (0, z0), none, none, none, none] [] M (nPI fun z M1 => M = M1 ∧ (0 ≤ z ∧ z ≤ 26)) := by
  have hd : (2 : Int) = 2 ∨ (2 : Int) = 3 := by decide
  have hac := hS.2.2.2.2
  refine n_iconst c_153_0 (n_istore (L2 := [some (2, 112), some (0, m), some (2, 117), some (0, f), some (0, 0), some (0, x), some (0, y), some (0, z0), some (0, 0), none, none, none]) c_153_1 rfl rfl (n_aload_n c_153_3 rfl (n_getV (bi := 0) c_153_4 sc_112.n rfl rfl rfl (t_dm hS hdm) ?_)))
  intro z1 ez1 f2
  obtain rfl : z1 = 2 := by omega
  refine n_iload c_153_7 rfl (n_iconst c_153_9 (n_isub c_153_10 rfl (n_s2I c_153_11 rfl rfl rfl rfl (mpowerN_2 (n := (0 - 1)) hS (by omega)) ?_)))
  intro z3 M4 hP5
  obtain ⟨eM, f5⟩ := hP5
  subst eM
  obtain rfl : z3 = 1 := by omega
  refine n_istore (L2 := [some (2, 112), some (0, m), some (2, 117), some (0, f), some (0, 0), some (0, x), some (0, y), some (0, z0), some (0, 0), some (0, 1), none, none]) c_153_14 rfl rfl (n_iconst c_153_16 (n_istore (L2 := [some (2, 112), some (0, m), some (2, 117), some (0, f), some (0, 0), some (0, x), some (0, y), some (0, z0), some (0, 0), some (0, 1), some (0, 0), none]) c_153_17 rfl rfl (n_iload c_153_19 rfl (n_iload c_153_21 rfl ?_))))
  refine n_if2_ge c_153_23 (by omega) (by omega) ?_ ?_
  · intro h6
    refine n_iload c_153_119 rfl ?_
    exact n_rI c_153_121 rfl ⟨rfl, by omega⟩
  · intro h7
    exfalso; omega

set_option maxHeartbeats 4000000 in
theorem imageT1_2 {xs : List Int32} {e : Nat} {ac : Int} {M0 M : nM} {m f x y z0 : Int} (hS : Sf 2 ac M0 M) (hdm : M0 112 0 = 2) (hm : 0 ≤ m ∧ m ≤ 3) (hf : 0 ≤ f ∧ f ≤ 189) (hx : 0 ≤ x ∧ x ≤ 26) (hy : 0 ≤ y ∧ y ≤ 26) (hz0 : 0 ≤ z0 ∧ z0 ≤ 26) : nW xs (e + 1) 153 0 [some (2, 112), some (0, m), some (2, 117), some (0, f), some (0, 1), some (0, x), some (0, y), some (0, z0), none, none, none, none] [] M (nPI fun z M1 => M = M1 ∧ (0 ≤ z ∧ z ≤ 26)) := by
  have hd : (2 : Int) = 2 ∨ (2 : Int) = 3 := by decide
  have hac := hS.2.2.2.2
  refine n_iconst c_153_0 (n_istore (L2 := [some (2, 112), some (0, m), some (2, 117), some (0, f), some (0, 1), some (0, x), some (0, y), some (0, z0), some (0, 0), none, none, none]) c_153_1 rfl rfl (n_aload_n c_153_3 rfl (n_getV (bi := 0) c_153_4 sc_112.n rfl rfl rfl (t_dm hS hdm) ?_)))
  intro z1 ez1 f2
  obtain rfl : z1 = 2 := by omega
  refine n_iload c_153_7 rfl (n_iconst c_153_9 (n_isub c_153_10 rfl ?_))
  have hcst : ((1 - 1) : Int) = 0 := by omega
  rw [hcst]
  refine n_s2I c_153_11 rfl rfl rfl rfl (mpower0_2  hS ) ?_
  intro z3 M4 hP5
  obtain ⟨eM, f5⟩ := hP5
  subst eM
  obtain rfl : z3 = 1 := by omega
  refine n_istore (L2 := [some (2, 112), some (0, m), some (2, 117), some (0, f), some (0, 1), some (0, x), some (0, y), some (0, z0), some (0, 0), some (0, 1), none, none]) c_153_14 rfl rfl (n_iconst c_153_16 (n_istore (L2 := [some (2, 112), some (0, m), some (2, 117), some (0, f), some (0, 1), some (0, x), some (0, y), some (0, z0), some (0, 0), some (0, 1), some (0, 0), none]) c_153_17 rfl rfl (n_iload c_153_19 rfl (n_iload c_153_21 rfl ?_))))
  refine n_if2_ge c_153_23 (by omega) (by omega) ?_ ?_
  · intro h6
    exfalso; omega
  · intro h7
    refine n_iload c_153_26 rfl (n_iload c_153_28 rfl (n_idivV c_153_30 (by omega) (by omega) ?_))
    intro z8 _ f9
    refine n_aload_n c_153_31 rfl (n_getV (bi := 0) c_153_32 sc_112.n rfl rfl rfl (t_dm hS hdm) ?_)
    intro z10 ez10 f11
    obtain rfl : z10 = 2 := by omega
    refine n_iremV c_153_35 (by omega) (by omega) ?_
    intro z12 _ f13
    refine n_istore (L2 := [some (2, 112), some (0, m), some (2, 117), some (0, f), some (0, 1), some (0, x), some (0, y), some (0, z0), some (0, 0), some (0, 1), some (0, 0), some (0, z12)]) c_153_36 rfl rfl (n_iload_n c_153_38 rfl (n_iconst c_153_39 ?_))
    refine n_if2_le c_153_40 (by omega) (by omega) ?_ ?_
    · intro h14
      refine n_iload_n c_153_63 rfl (n_iconst c_153_64 ?_)
      refine n_if2_le c_153_65 (by omega) (by omega) ?_ ?_
      · intro h15
        refine n_iload c_153_88 rfl (n_aload_n c_153_90 rfl (n_getV (bi := 0) c_153_91 sc_112.n rfl rfl rfl (t_dm hS hdm) ?_))
        intro z16 ez16 f17
        obtain rfl : z16 = 2 := by omega
        refine n_imul c_153_94 rfl (n_aload_n c_153_95 rfl (n_iload_n c_153_96 rfl (n_iload c_153_97 rfl (n_iadd c_153_99 rfl (n_ialoadV c_153_100 sc_117.n rfl rfl rfl (by omega) (t_117 hS (by omega)) ?_)))))
        intro z18 ez18 f19
        refine n_iadd c_153_101 rfl (n_istore (L2 := [some (2, 112), some (0, m), some (2, 117), some (0, f), some (0, 1), some (0, x), some (0, y), some (0, z0), some (0, ((0 * 2) + z18)), some (0, 1), some (0, 0), some (0, z12)]) c_153_102 rfl rfl (n_iload c_153_104 rfl (n_aload_n c_153_106 rfl (n_getV (bi := 0) c_153_107 sc_112.n rfl rfl rfl (t_dm hS hdm) ?_))))
        intro z20 ez20 f21
        obtain rfl : z20 = 2 := by omega
        refine n_idivT (z := 0) c_153_110 (by omega) (by omega) (by omega) (by decide) ?_
        refine n_istore (L2 := [some (2, 112), some (0, m), some (2, 117), some (0, f), some (0, 1), some (0, x), some (0, y), some (0, z0), some (0, ((0 * 2) + z18)), some (0, 0), some (0, 0), some (0, z12)]) c_153_111 rfl rfl (n_iinc (L2 := [some (2, 112), some (0, m), some (2, 117), some (0, f), some (0, 1), some (0, x), some (0, y), some (0, z0), some (0, ((0 * 2) + z18)), some (0, 0), some (0, (0 + 1)), some (0, z12)]) c_153_113 rfl rfl rfl (n_goto c_153_116 (n_iload c_153_19 rfl (n_iload c_153_21 rfl ?_))))
        refine n_if2_ge c_153_23 (by omega) (by omega) ?_ ?_
        · intro h22
          refine n_iload c_153_119 rfl ?_
          exact n_rI c_153_121 rfl ⟨rfl, by omega⟩
        · intro h23
          exfalso; omega
      · intro h24
        exfalso; omega
    · intro h25
      refine n_iload c_153_43 rfl (n_aload_n c_153_45 rfl (n_getV (bi := 0) c_153_46 sc_112.n rfl rfl rfl (t_dm hS hdm) ?_))
      intro z26 ez26 f27
      obtain rfl : z26 = 2 := by omega
      refine n_imul c_153_49 rfl (n_iload c_153_50 rfl (n_iload c_153_52 rfl (n_idivV c_153_54 (by omega) (by omega) ?_)))
      intro z28 _ f29
      refine n_aload_n c_153_55 rfl (n_getV (bi := 0) c_153_56 sc_112.n rfl rfl rfl (t_dm hS hdm) ?_)
      intro z30 ez30 f31
      obtain rfl : z30 = 2 := by omega
      refine n_iremV c_153_59 (by omega) (by omega) ?_
      intro z32 _ f33
      refine n_iadd c_153_60 rfl (n_istore (L2 := [some (2, 112), some (0, m), some (2, 117), some (0, f), some (0, 1), some (0, x), some (0, y), some (0, z0), some (0, 0), some (0, 1), some (0, 0), some (0, ((z12 * 2) + z32))]) c_153_61 rfl rfl (n_iload_n c_153_63 rfl (n_iconst c_153_64 ?_)))
      refine n_if2_le c_153_65 (by omega) (by omega) ?_ ?_
      · intro h34
        refine n_iload c_153_88 rfl (n_aload_n c_153_90 rfl (n_getV (bi := 0) c_153_91 sc_112.n rfl rfl rfl (t_dm hS hdm) ?_))
        intro z35 ez35 f36
        obtain rfl : z35 = 2 := by omega
        refine n_imul c_153_94 rfl (n_aload_n c_153_95 rfl (n_iload_n c_153_96 rfl (n_iload c_153_97 rfl (n_iadd c_153_99 rfl (n_ialoadV c_153_100 sc_117.n rfl rfl rfl (by omega) (t_117 hS (by omega)) ?_)))))
        intro z37 ez37 f38
        refine n_iadd c_153_101 rfl (n_istore (L2 := [some (2, 112), some (0, m), some (2, 117), some (0, f), some (0, 1), some (0, x), some (0, y), some (0, z0), some (0, ((0 * 2) + z37)), some (0, 1), some (0, 0), some (0, ((z12 * 2) + z32))]) c_153_102 rfl rfl (n_iload c_153_104 rfl (n_aload_n c_153_106 rfl (n_getV (bi := 0) c_153_107 sc_112.n rfl rfl rfl (t_dm hS hdm) ?_))))
        intro z39 ez39 f40
        obtain rfl : z39 = 2 := by omega
        refine n_idivT (z := 0) c_153_110 (by omega) (by omega) (by omega) (by decide) ?_
        refine n_istore (L2 := [some (2, 112), some (0, m), some (2, 117), some (0, f), some (0, 1), some (0, x), some (0, y), some (0, z0), some (0, ((0 * 2) + z37)), some (0, 0), some (0, 0), some (0, ((z12 * 2) + z32))]) c_153_111 rfl rfl (n_iinc (L2 := [some (2, 112), some (0, m), some (2, 117), some (0, f), some (0, 1), some (0, x), some (0, y), some (0, z0), some (0, ((0 * 2) + z37)), some (0, 0), some (0, (0 + 1)), some (0, ((z12 * 2) + z32))]) c_153_113 rfl rfl rfl (n_goto c_153_116 (n_iload c_153_19 rfl (n_iload c_153_21 rfl ?_))))
        refine n_if2_ge c_153_23 (by omega) (by omega) ?_ ?_
        · intro h41
          refine n_iload c_153_119 rfl ?_
          exact n_rI c_153_121 rfl ⟨rfl, by omega⟩
        · intro h42
          exfalso; omega
      · intro h43
        refine n_iload c_153_68 rfl (n_aload_n c_153_70 rfl (n_getV (bi := 0) c_153_71 sc_112.n rfl rfl rfl (t_dm hS hdm) ?_))
        intro z44 ez44 f45
        obtain rfl : z44 = 2 := by omega
        refine n_imul c_153_74 rfl (n_iload c_153_75 rfl (n_iload c_153_77 rfl (n_idivV c_153_79 (by omega) (by omega) ?_)))
        intro z46 _ f47
        refine n_aload_n c_153_80 rfl (n_getV (bi := 0) c_153_81 sc_112.n rfl rfl rfl (t_dm hS hdm) ?_)
        intro z48 ez48 f49
        obtain rfl : z48 = 2 := by omega
        refine n_iremV c_153_84 (by omega) (by omega) ?_
        intro z50 _ f51
        refine n_iadd c_153_85 rfl (n_istore (L2 := [some (2, 112), some (0, m), some (2, 117), some (0, f), some (0, 1), some (0, x), some (0, y), some (0, z0), some (0, 0), some (0, 1), some (0, 0), some (0, ((((z12 * 2) + z32) * 2) + z50))]) c_153_86 rfl rfl (n_iload c_153_88 rfl (n_aload_n c_153_90 rfl (n_getV (bi := 0) c_153_91 sc_112.n rfl rfl rfl (t_dm hS hdm) ?_))))
        intro z52 ez52 f53
        obtain rfl : z52 = 2 := by omega
        refine n_imul c_153_94 rfl (n_aload_n c_153_95 rfl (n_iload_n c_153_96 rfl (n_iload c_153_97 rfl (n_iadd c_153_99 rfl (n_ialoadV c_153_100 sc_117.n rfl rfl rfl (by omega) (t_117 hS (by omega)) ?_)))))
        intro z54 ez54 f55
        refine n_iadd c_153_101 rfl (n_istore (L2 := [some (2, 112), some (0, m), some (2, 117), some (0, f), some (0, 1), some (0, x), some (0, y), some (0, z0), some (0, ((0 * 2) + z54)), some (0, 1), some (0, 0), some (0, ((((z12 * 2) + z32) * 2) + z50))]) c_153_102 rfl rfl (n_iload c_153_104 rfl (n_aload_n c_153_106 rfl (n_getV (bi := 0) c_153_107 sc_112.n rfl rfl rfl (t_dm hS hdm) ?_))))
        intro z56 ez56 f57
        obtain rfl : z56 = 2 := by omega
        refine n_idivT (z := 0) c_153_110 (by omega) (by omega) (by omega) (by decide) ?_
        refine n_istore (L2 := [some (2, 112), some (0, m), some (2, 117), some (0, f), some (0, 1), some (0, x), some (0, y), some (0, z0), some (0, ((0 * 2) + z54)), some (0, 0), some (0, 0), some (0, ((((z12 * 2) + z32) * 2) + z50))]) c_153_111 rfl rfl (n_iinc (L2 := [some (2, 112), some (0, m), some (2, 117), some (0, f), some (0, 1), some (0, x), some (0, y), some (0, z0), some (0, ((0 * 2) + z54)), some (0, 0), some (0, (0 + 1)), some (0, ((((z12 * 2) + z32) * 2) + z50))]) c_153_113 rfl rfl rfl (n_goto c_153_116 (n_iload c_153_19 rfl (n_iload c_153_21 rfl ?_))))
        refine n_if2_ge c_153_23 (by omega) (by omega) ?_ ?_
        · intro h58
          refine n_iload c_153_119 rfl ?_
          exact n_rI c_153_121 rfl ⟨rfl, by omega⟩
        · intro h59
          exfalso; omega

set_option maxHeartbeats 4000000 in
theorem imageT2_2 {xs : List Int32} {e : Nat} {ac : Int} {M0 M : nM} {m f x y z0 : Int} (hS : Sf 2 ac M0 M) (hdm : M0 112 0 = 2) (hm : 0 ≤ m ∧ m ≤ 3) (hf : 0 ≤ f ∧ f ≤ 189) (hx : 0 ≤ x ∧ x ≤ 26) (hy : 0 ≤ y ∧ y ≤ 26) (hz0 : 0 ≤ z0 ∧ z0 ≤ 26) : nW xs (e + 1) 153 0 [some (2, 112), some (0, m), some (2, 117), some (0, f), some (0, 2), some (0, x), some (0, y), some (0, z0), none, none, none, none] [] M (nPI fun z M1 => M = M1 ∧ (0 ≤ z ∧ z ≤ 26)) := by
  have hd : (2 : Int) = 2 ∨ (2 : Int) = 3 := by decide
  have hac := hS.2.2.2.2
  refine n_iconst c_153_0 (n_istore (L2 := [some (2, 112), some (0, m), some (2, 117), some (0, f), some (0, 2), some (0, x), some (0, y), some (0, z0), some (0, 0), none, none, none]) c_153_1 rfl rfl (n_aload_n c_153_3 rfl (n_getV (bi := 0) c_153_4 sc_112.n rfl rfl rfl (t_dm hS hdm) ?_)))
  intro z1 ez1 f2
  obtain rfl : z1 = 2 := by omega
  refine n_iload c_153_7 rfl (n_iconst c_153_9 (n_isub c_153_10 rfl ?_))
  have hcst : ((2 - 1) : Int) = 1 := by omega
  rw [hcst]
  refine n_s2I c_153_11 rfl rfl rfl rfl (mpower1_2  hS ) ?_
  intro z3 M4 hP5
  obtain ⟨eM, f5⟩ := hP5
  subst eM
  obtain rfl : z3 = 2 := by omega
  refine n_istore (L2 := [some (2, 112), some (0, m), some (2, 117), some (0, f), some (0, 2), some (0, x), some (0, y), some (0, z0), some (0, 0), some (0, 2), none, none]) c_153_14 rfl rfl (n_iconst c_153_16 (n_istore (L2 := [some (2, 112), some (0, m), some (2, 117), some (0, f), some (0, 2), some (0, x), some (0, y), some (0, z0), some (0, 0), some (0, 2), some (0, 0), none]) c_153_17 rfl rfl (n_iload c_153_19 rfl (n_iload c_153_21 rfl ?_))))
  refine n_if2_ge c_153_23 (by omega) (by omega) ?_ ?_
  · intro h6
    exfalso; omega
  · intro h7
    refine n_iload c_153_26 rfl (n_iload c_153_28 rfl (n_idivV c_153_30 (by omega) (by omega) ?_))
    intro z8 _ f9
    refine n_aload_n c_153_31 rfl (n_getV (bi := 0) c_153_32 sc_112.n rfl rfl rfl (t_dm hS hdm) ?_)
    intro z10 ez10 f11
    obtain rfl : z10 = 2 := by omega
    refine n_iremV c_153_35 (by omega) (by omega) ?_
    intro z12 _ f13
    refine n_istore (L2 := [some (2, 112), some (0, m), some (2, 117), some (0, f), some (0, 2), some (0, x), some (0, y), some (0, z0), some (0, 0), some (0, 2), some (0, 0), some (0, z12)]) c_153_36 rfl rfl (n_iload_n c_153_38 rfl (n_iconst c_153_39 ?_))
    refine n_if2_le c_153_40 (by omega) (by omega) ?_ ?_
    · intro h14
      refine n_iload_n c_153_63 rfl (n_iconst c_153_64 ?_)
      refine n_if2_le c_153_65 (by omega) (by omega) ?_ ?_
      · intro h15
        refine n_iload c_153_88 rfl (n_aload_n c_153_90 rfl (n_getV (bi := 0) c_153_91 sc_112.n rfl rfl rfl (t_dm hS hdm) ?_))
        intro z16 ez16 f17
        obtain rfl : z16 = 2 := by omega
        refine n_imul c_153_94 rfl (n_aload_n c_153_95 rfl (n_iload_n c_153_96 rfl (n_iload c_153_97 rfl (n_iadd c_153_99 rfl (n_ialoadV c_153_100 sc_117.n rfl rfl rfl (by omega) (t_117 hS (by omega)) ?_)))))
        intro z18 ez18 f19
        refine n_iadd c_153_101 rfl (n_istore (L2 := [some (2, 112), some (0, m), some (2, 117), some (0, f), some (0, 2), some (0, x), some (0, y), some (0, z0), some (0, ((0 * 2) + z18)), some (0, 2), some (0, 0), some (0, z12)]) c_153_102 rfl rfl (n_iload c_153_104 rfl (n_aload_n c_153_106 rfl (n_getV (bi := 0) c_153_107 sc_112.n rfl rfl rfl (t_dm hS hdm) ?_))))
        intro z20 ez20 f21
        obtain rfl : z20 = 2 := by omega
        refine n_idivT (z := 1) c_153_110 (by omega) (by omega) (by omega) (by decide) ?_
        refine n_istore (L2 := [some (2, 112), some (0, m), some (2, 117), some (0, f), some (0, 2), some (0, x), some (0, y), some (0, z0), some (0, ((0 * 2) + z18)), some (0, 1), some (0, 0), some (0, z12)]) c_153_111 rfl rfl (n_iinc (L2 := [some (2, 112), some (0, m), some (2, 117), some (0, f), some (0, 2), some (0, x), some (0, y), some (0, z0), some (0, ((0 * 2) + z18)), some (0, 1), some (0, (0 + 1)), some (0, z12)]) c_153_113 rfl rfl rfl (n_goto c_153_116 (n_iload c_153_19 rfl (n_iload c_153_21 rfl ?_))))
        refine n_if2_ge c_153_23 (by omega) (by omega) ?_ ?_
        · intro h22
          exfalso; omega
        · intro h23
          refine n_iload c_153_26 rfl (n_iload c_153_28 rfl (n_idivV c_153_30 (by omega) (by omega) ?_))
          intro z24 _ f25
          refine n_aload_n c_153_31 rfl (n_getV (bi := 0) c_153_32 sc_112.n rfl rfl rfl (t_dm hS hdm) ?_)
          intro z26 ez26 f27
          obtain rfl : z26 = 2 := by omega
          refine n_iremV c_153_35 (by omega) (by omega) ?_
          intro z28 _ f29
          refine n_istore (L2 := [some (2, 112), some (0, m), some (2, 117), some (0, f), some (0, 2), some (0, x), some (0, y), some (0, z0), some (0, ((0 * 2) + z18)), some (0, 1), some (0, (0 + 1)), some (0, z28)]) c_153_36 rfl rfl (n_iload_n c_153_38 rfl (n_iconst c_153_39 ?_))
          refine n_if2_le c_153_40 (by omega) (by omega) ?_ ?_
          · intro h30
            refine n_iload_n c_153_63 rfl (n_iconst c_153_64 ?_)
            refine n_if2_le c_153_65 (by omega) (by omega) ?_ ?_
            · intro h31
              refine n_iload c_153_88 rfl (n_aload_n c_153_90 rfl (n_getV (bi := 0) c_153_91 sc_112.n rfl rfl rfl (t_dm hS hdm) ?_))
              intro z32 ez32 f33
              obtain rfl : z32 = 2 := by omega
              refine n_imul c_153_94 rfl (n_aload_n c_153_95 rfl (n_iload_n c_153_96 rfl (n_iload c_153_97 rfl (n_iadd c_153_99 rfl (n_ialoadV c_153_100 sc_117.n rfl rfl rfl (by omega) (t_117 hS (by omega)) ?_)))))
              intro z34 ez34 f35
              refine n_iadd c_153_101 rfl (n_istore (L2 := [some (2, 112), some (0, m), some (2, 117), some (0, f), some (0, 2), some (0, x), some (0, y), some (0, z0), some (0, ((((0 * 2) + z18) * 2) + z34)), some (0, 1), some (0, (0 + 1)), some (0, z28)]) c_153_102 rfl rfl (n_iload c_153_104 rfl (n_aload_n c_153_106 rfl (n_getV (bi := 0) c_153_107 sc_112.n rfl rfl rfl (t_dm hS hdm) ?_))))
              intro z36 ez36 f37
              obtain rfl : z36 = 2 := by omega
              refine n_idivT (z := 0) c_153_110 (by omega) (by omega) (by omega) (by decide) ?_
              refine n_istore (L2 := [some (2, 112), some (0, m), some (2, 117), some (0, f), some (0, 2), some (0, x), some (0, y), some (0, z0), some (0, ((((0 * 2) + z18) * 2) + z34)), some (0, 0), some (0, (0 + 1)), some (0, z28)]) c_153_111 rfl rfl (n_iinc (L2 := [some (2, 112), some (0, m), some (2, 117), some (0, f), some (0, 2), some (0, x), some (0, y), some (0, z0), some (0, ((((0 * 2) + z18) * 2) + z34)), some (0, 0), some (0, ((0 + 1) + 1)), some (0, z28)]) c_153_113 rfl rfl rfl (n_goto c_153_116 (n_iload c_153_19 rfl (n_iload c_153_21 rfl ?_))))
              refine n_if2_ge c_153_23 (by omega) (by omega) ?_ ?_
              · intro h38
                refine n_iload c_153_119 rfl ?_
                exact n_rI c_153_121 rfl ⟨rfl, by omega⟩
              · intro h39
                exfalso; omega
            · intro h40
              exfalso; omega
          · intro h41
            exfalso; omega
      · intro h42
        exfalso; omega
    · intro h43
      refine n_iload c_153_43 rfl (n_aload_n c_153_45 rfl (n_getV (bi := 0) c_153_46 sc_112.n rfl rfl rfl (t_dm hS hdm) ?_))
      intro z44 ez44 f45
      obtain rfl : z44 = 2 := by omega
      refine n_imul c_153_49 rfl (n_iload c_153_50 rfl (n_iload c_153_52 rfl (n_idivV c_153_54 (by omega) (by omega) ?_)))
      intro z46 _ f47
      refine n_aload_n c_153_55 rfl (n_getV (bi := 0) c_153_56 sc_112.n rfl rfl rfl (t_dm hS hdm) ?_)
      intro z48 ez48 f49
      obtain rfl : z48 = 2 := by omega
      refine n_iremV c_153_59 (by omega) (by omega) ?_
      intro z50 _ f51
      refine n_iadd c_153_60 rfl (n_istore (L2 := [some (2, 112), some (0, m), some (2, 117), some (0, f), some (0, 2), some (0, x), some (0, y), some (0, z0), some (0, 0), some (0, 2), some (0, 0), some (0, ((z12 * 2) + z50))]) c_153_61 rfl rfl (n_iload_n c_153_63 rfl (n_iconst c_153_64 ?_)))
      refine n_if2_le c_153_65 (by omega) (by omega) ?_ ?_
      · intro h52
        refine n_iload c_153_88 rfl (n_aload_n c_153_90 rfl (n_getV (bi := 0) c_153_91 sc_112.n rfl rfl rfl (t_dm hS hdm) ?_))
        intro z53 ez53 f54
        obtain rfl : z53 = 2 := by omega
        refine n_imul c_153_94 rfl (n_aload_n c_153_95 rfl (n_iload_n c_153_96 rfl (n_iload c_153_97 rfl (n_iadd c_153_99 rfl (n_ialoadV c_153_100 sc_117.n rfl rfl rfl (by omega) (t_117 hS (by omega)) ?_)))))
        intro z55 ez55 f56
        refine n_iadd c_153_101 rfl (n_istore (L2 := [some (2, 112), some (0, m), some (2, 117), some (0, f), some (0, 2), some (0, x), some (0, y), some (0, z0), some (0, ((0 * 2) + z55)), some (0, 2), some (0, 0), some (0, ((z12 * 2) + z50))]) c_153_102 rfl rfl (n_iload c_153_104 rfl (n_aload_n c_153_106 rfl (n_getV (bi := 0) c_153_107 sc_112.n rfl rfl rfl (t_dm hS hdm) ?_))))
        intro z57 ez57 f58
        obtain rfl : z57 = 2 := by omega
        refine n_idivT (z := 1) c_153_110 (by omega) (by omega) (by omega) (by decide) ?_
        refine n_istore (L2 := [some (2, 112), some (0, m), some (2, 117), some (0, f), some (0, 2), some (0, x), some (0, y), some (0, z0), some (0, ((0 * 2) + z55)), some (0, 1), some (0, 0), some (0, ((z12 * 2) + z50))]) c_153_111 rfl rfl (n_iinc (L2 := [some (2, 112), some (0, m), some (2, 117), some (0, f), some (0, 2), some (0, x), some (0, y), some (0, z0), some (0, ((0 * 2) + z55)), some (0, 1), some (0, (0 + 1)), some (0, ((z12 * 2) + z50))]) c_153_113 rfl rfl rfl (n_goto c_153_116 (n_iload c_153_19 rfl (n_iload c_153_21 rfl ?_))))
        refine n_if2_ge c_153_23 (by omega) (by omega) ?_ ?_
        · intro h59
          exfalso; omega
        · intro h60
          refine n_iload c_153_26 rfl (n_iload c_153_28 rfl (n_idivV c_153_30 (by omega) (by omega) ?_))
          intro z61 _ f62
          refine n_aload_n c_153_31 rfl (n_getV (bi := 0) c_153_32 sc_112.n rfl rfl rfl (t_dm hS hdm) ?_)
          intro z63 ez63 f64
          obtain rfl : z63 = 2 := by omega
          refine n_iremV c_153_35 (by omega) (by omega) ?_
          intro z65 _ f66
          refine n_istore (L2 := [some (2, 112), some (0, m), some (2, 117), some (0, f), some (0, 2), some (0, x), some (0, y), some (0, z0), some (0, ((0 * 2) + z55)), some (0, 1), some (0, (0 + 1)), some (0, z65)]) c_153_36 rfl rfl (n_iload_n c_153_38 rfl (n_iconst c_153_39 ?_))
          refine n_if2_le c_153_40 (by omega) (by omega) ?_ ?_
          · intro h67
            exfalso; omega
          · intro h68
            refine n_iload c_153_43 rfl (n_aload_n c_153_45 rfl (n_getV (bi := 0) c_153_46 sc_112.n rfl rfl rfl (t_dm hS hdm) ?_))
            intro z69 ez69 f70
            obtain rfl : z69 = 2 := by omega
            refine n_imul c_153_49 rfl (n_iload c_153_50 rfl (n_iload c_153_52 rfl (n_idivV c_153_54 (by omega) (by omega) ?_)))
            intro z71 _ f72
            refine n_aload_n c_153_55 rfl (n_getV (bi := 0) c_153_56 sc_112.n rfl rfl rfl (t_dm hS hdm) ?_)
            intro z73 ez73 f74
            obtain rfl : z73 = 2 := by omega
            refine n_iremV c_153_59 (by omega) (by omega) ?_
            intro z75 _ f76
            refine n_iadd c_153_60 rfl (n_istore (L2 := [some (2, 112), some (0, m), some (2, 117), some (0, f), some (0, 2), some (0, x), some (0, y), some (0, z0), some (0, ((0 * 2) + z55)), some (0, 1), some (0, (0 + 1)), some (0, ((z65 * 2) + z75))]) c_153_61 rfl rfl (n_iload_n c_153_63 rfl (n_iconst c_153_64 ?_)))
            refine n_if2_le c_153_65 (by omega) (by omega) ?_ ?_
            · intro h77
              refine n_iload c_153_88 rfl (n_aload_n c_153_90 rfl (n_getV (bi := 0) c_153_91 sc_112.n rfl rfl rfl (t_dm hS hdm) ?_))
              intro z78 ez78 f79
              obtain rfl : z78 = 2 := by omega
              refine n_imul c_153_94 rfl (n_aload_n c_153_95 rfl (n_iload_n c_153_96 rfl (n_iload c_153_97 rfl (n_iadd c_153_99 rfl (n_ialoadV c_153_100 sc_117.n rfl rfl rfl (by omega) (t_117 hS (by omega)) ?_)))))
              intro z80 ez80 f81
              refine n_iadd c_153_101 rfl (n_istore (L2 := [some (2, 112), some (0, m), some (2, 117), some (0, f), some (0, 2), some (0, x), some (0, y), some (0, z0), some (0, ((((0 * 2) + z55) * 2) + z80)), some (0, 1), some (0, (0 + 1)), some (0, ((z65 * 2) + z75))]) c_153_102 rfl rfl (n_iload c_153_104 rfl (n_aload_n c_153_106 rfl (n_getV (bi := 0) c_153_107 sc_112.n rfl rfl rfl (t_dm hS hdm) ?_))))
              intro z82 ez82 f83
              obtain rfl : z82 = 2 := by omega
              refine n_idivT (z := 0) c_153_110 (by omega) (by omega) (by omega) (by decide) ?_
              refine n_istore (L2 := [some (2, 112), some (0, m), some (2, 117), some (0, f), some (0, 2), some (0, x), some (0, y), some (0, z0), some (0, ((((0 * 2) + z55) * 2) + z80)), some (0, 0), some (0, (0 + 1)), some (0, ((z65 * 2) + z75))]) c_153_111 rfl rfl (n_iinc (L2 := [some (2, 112), some (0, m), some (2, 117), some (0, f), some (0, 2), some (0, x), some (0, y), some (0, z0), some (0, ((((0 * 2) + z55) * 2) + z80)), some (0, 0), some (0, ((0 + 1) + 1)), some (0, ((z65 * 2) + z75))]) c_153_113 rfl rfl rfl (n_goto c_153_116 (n_iload c_153_19 rfl (n_iload c_153_21 rfl ?_))))
              refine n_if2_ge c_153_23 (by omega) (by omega) ?_ ?_
              · intro h84
                refine n_iload c_153_119 rfl ?_
                exact n_rI c_153_121 rfl ⟨rfl, by omega⟩
              · intro h85
                exfalso; omega
            · intro h86
              exfalso; omega
      · intro h87
        refine n_iload c_153_68 rfl (n_aload_n c_153_70 rfl (n_getV (bi := 0) c_153_71 sc_112.n rfl rfl rfl (t_dm hS hdm) ?_))
        intro z88 ez88 f89
        obtain rfl : z88 = 2 := by omega
        refine n_imul c_153_74 rfl (n_iload c_153_75 rfl (n_iload c_153_77 rfl (n_idivV c_153_79 (by omega) (by omega) ?_)))
        intro z90 _ f91
        refine n_aload_n c_153_80 rfl (n_getV (bi := 0) c_153_81 sc_112.n rfl rfl rfl (t_dm hS hdm) ?_)
        intro z92 ez92 f93
        obtain rfl : z92 = 2 := by omega
        refine n_iremV c_153_84 (by omega) (by omega) ?_
        intro z94 _ f95
        refine n_iadd c_153_85 rfl (n_istore (L2 := [some (2, 112), some (0, m), some (2, 117), some (0, f), some (0, 2), some (0, x), some (0, y), some (0, z0), some (0, 0), some (0, 2), some (0, 0), some (0, ((((z12 * 2) + z50) * 2) + z94))]) c_153_86 rfl rfl (n_iload c_153_88 rfl (n_aload_n c_153_90 rfl (n_getV (bi := 0) c_153_91 sc_112.n rfl rfl rfl (t_dm hS hdm) ?_))))
        intro z96 ez96 f97
        obtain rfl : z96 = 2 := by omega
        refine n_imul c_153_94 rfl (n_aload_n c_153_95 rfl (n_iload_n c_153_96 rfl (n_iload c_153_97 rfl (n_iadd c_153_99 rfl (n_ialoadV c_153_100 sc_117.n rfl rfl rfl (by omega) (t_117 hS (by omega)) ?_)))))
        intro z98 ez98 f99
        refine n_iadd c_153_101 rfl (n_istore (L2 := [some (2, 112), some (0, m), some (2, 117), some (0, f), some (0, 2), some (0, x), some (0, y), some (0, z0), some (0, ((0 * 2) + z98)), some (0, 2), some (0, 0), some (0, ((((z12 * 2) + z50) * 2) + z94))]) c_153_102 rfl rfl (n_iload c_153_104 rfl (n_aload_n c_153_106 rfl (n_getV (bi := 0) c_153_107 sc_112.n rfl rfl rfl (t_dm hS hdm) ?_))))
        intro z100 ez100 f101
        obtain rfl : z100 = 2 := by omega
        refine n_idivT (z := 1) c_153_110 (by omega) (by omega) (by omega) (by decide) ?_
        refine n_istore (L2 := [some (2, 112), some (0, m), some (2, 117), some (0, f), some (0, 2), some (0, x), some (0, y), some (0, z0), some (0, ((0 * 2) + z98)), some (0, 1), some (0, 0), some (0, ((((z12 * 2) + z50) * 2) + z94))]) c_153_111 rfl rfl (n_iinc (L2 := [some (2, 112), some (0, m), some (2, 117), some (0, f), some (0, 2), some (0, x), some (0, y), some (0, z0), some (0, ((0 * 2) + z98)), some (0, 1), some (0, (0 + 1)), some (0, ((((z12 * 2) + z50) * 2) + z94))]) c_153_113 rfl rfl rfl (n_goto c_153_116 (n_iload c_153_19 rfl (n_iload c_153_21 rfl ?_))))
        refine n_if2_ge c_153_23 (by omega) (by omega) ?_ ?_
        · intro h102
          exfalso; omega
        · intro h103
          refine n_iload c_153_26 rfl (n_iload c_153_28 rfl (n_idivV c_153_30 (by omega) (by omega) ?_))
          intro z104 _ f105
          refine n_aload_n c_153_31 rfl (n_getV (bi := 0) c_153_32 sc_112.n rfl rfl rfl (t_dm hS hdm) ?_)
          intro z106 ez106 f107
          obtain rfl : z106 = 2 := by omega
          refine n_iremV c_153_35 (by omega) (by omega) ?_
          intro z108 _ f109
          refine n_istore (L2 := [some (2, 112), some (0, m), some (2, 117), some (0, f), some (0, 2), some (0, x), some (0, y), some (0, z0), some (0, ((0 * 2) + z98)), some (0, 1), some (0, (0 + 1)), some (0, z108)]) c_153_36 rfl rfl (n_iload_n c_153_38 rfl (n_iconst c_153_39 ?_))
          refine n_if2_le c_153_40 (by omega) (by omega) ?_ ?_
          · intro h110
            exfalso; omega
          · intro h111
            refine n_iload c_153_43 rfl (n_aload_n c_153_45 rfl (n_getV (bi := 0) c_153_46 sc_112.n rfl rfl rfl (t_dm hS hdm) ?_))
            intro z112 ez112 f113
            obtain rfl : z112 = 2 := by omega
            refine n_imul c_153_49 rfl (n_iload c_153_50 rfl (n_iload c_153_52 rfl (n_idivV c_153_54 (by omega) (by omega) ?_)))
            intro z114 _ f115
            refine n_aload_n c_153_55 rfl (n_getV (bi := 0) c_153_56 sc_112.n rfl rfl rfl (t_dm hS hdm) ?_)
            intro z116 ez116 f117
            obtain rfl : z116 = 2 := by omega
            refine n_iremV c_153_59 (by omega) (by omega) ?_
            intro z118 _ f119
            refine n_iadd c_153_60 rfl (n_istore (L2 := [some (2, 112), some (0, m), some (2, 117), some (0, f), some (0, 2), some (0, x), some (0, y), some (0, z0), some (0, ((0 * 2) + z98)), some (0, 1), some (0, (0 + 1)), some (0, ((z108 * 2) + z118))]) c_153_61 rfl rfl (n_iload_n c_153_63 rfl (n_iconst c_153_64 ?_)))
            refine n_if2_le c_153_65 (by omega) (by omega) ?_ ?_
            · intro h120
              exfalso; omega
            · intro h121
              refine n_iload c_153_68 rfl (n_aload_n c_153_70 rfl (n_getV (bi := 0) c_153_71 sc_112.n rfl rfl rfl (t_dm hS hdm) ?_))
              intro z122 ez122 f123
              obtain rfl : z122 = 2 := by omega
              refine n_imul c_153_74 rfl (n_iload c_153_75 rfl (n_iload c_153_77 rfl (n_idivV c_153_79 (by omega) (by omega) ?_)))
              intro z124 _ f125
              refine n_aload_n c_153_80 rfl (n_getV (bi := 0) c_153_81 sc_112.n rfl rfl rfl (t_dm hS hdm) ?_)
              intro z126 ez126 f127
              obtain rfl : z126 = 2 := by omega
              refine n_iremV c_153_84 (by omega) (by omega) ?_
              intro z128 _ f129
              refine n_iadd c_153_85 rfl (n_istore (L2 := [some (2, 112), some (0, m), some (2, 117), some (0, f), some (0, 2), some (0, x), some (0, y), some (0, z0), some (0, ((0 * 2) + z98)), some (0, 1), some (0, (0 + 1)), some (0, ((((z108 * 2) + z118) * 2) + z128))]) c_153_86 rfl rfl (n_iload c_153_88 rfl (n_aload_n c_153_90 rfl (n_getV (bi := 0) c_153_91 sc_112.n rfl rfl rfl (t_dm hS hdm) ?_))))
              intro z130 ez130 f131
              obtain rfl : z130 = 2 := by omega
              refine n_imul c_153_94 rfl (n_aload_n c_153_95 rfl (n_iload_n c_153_96 rfl (n_iload c_153_97 rfl (n_iadd c_153_99 rfl (n_ialoadV c_153_100 sc_117.n rfl rfl rfl (by omega) (t_117 hS (by omega)) ?_)))))
              intro z132 ez132 f133
              refine n_iadd c_153_101 rfl (n_istore (L2 := [some (2, 112), some (0, m), some (2, 117), some (0, f), some (0, 2), some (0, x), some (0, y), some (0, z0), some (0, ((((0 * 2) + z98) * 2) + z132)), some (0, 1), some (0, (0 + 1)), some (0, ((((z108 * 2) + z118) * 2) + z128))]) c_153_102 rfl rfl (n_iload c_153_104 rfl (n_aload_n c_153_106 rfl (n_getV (bi := 0) c_153_107 sc_112.n rfl rfl rfl (t_dm hS hdm) ?_))))
              intro z134 ez134 f135
              obtain rfl : z134 = 2 := by omega
              refine n_idivT (z := 0) c_153_110 (by omega) (by omega) (by omega) (by decide) ?_
              refine n_istore (L2 := [some (2, 112), some (0, m), some (2, 117), some (0, f), some (0, 2), some (0, x), some (0, y), some (0, z0), some (0, ((((0 * 2) + z98) * 2) + z132)), some (0, 0), some (0, (0 + 1)), some (0, ((((z108 * 2) + z118) * 2) + z128))]) c_153_111 rfl rfl (n_iinc (L2 := [some (2, 112), some (0, m), some (2, 117), some (0, f), some (0, 2), some (0, x), some (0, y), some (0, z0), some (0, ((((0 * 2) + z98) * 2) + z132)), some (0, 0), some (0, ((0 + 1) + 1)), some (0, ((((z108 * 2) + z118) * 2) + z128))]) c_153_113 rfl rfl rfl (n_goto c_153_116 (n_iload c_153_19 rfl (n_iload c_153_21 rfl ?_))))
              refine n_if2_ge c_153_23 (by omega) (by omega) ?_ ?_
              · intro h136
                refine n_iload c_153_119 rfl ?_
                exact n_rI c_153_121 rfl ⟨rfl, by omega⟩
              · intro h137
                exfalso; omega

/-! The methods, by program. -/
set_option maxHeartbeats 4000000 in
theorem imageT3_2 {xs : List Int32} {e : Nat} {ac : Int} {M0 M : nM} {m f x y z0 : Int} (hS : Sf 2 ac M0 M) (hdm : M0 112 0 = 2) (hm : 0 ≤ m ∧ m ≤ 3) (hf : 0 ≤ f ∧ f ≤ 189) (hx : 0 ≤ x ∧ x ≤ 26) (hy : 0 ≤ y ∧ y ≤ 26) (hz0 : 0 ≤ z0 ∧ z0 ≤ 26) : nW xs (e + 1) 153 0 [some (2, 112), some (0, m), some (2, 117), some (0, f), some (0, 3), some (0, x), some (0, y), some (0, z0), none, none, none, none] [] M (nPI fun z M1 => M = M1 ∧ (0 ≤ z ∧ z ≤ 26)) := by
  have hd : (2 : Int) = 2 ∨ (2 : Int) = 3 := by decide
  have hac := hS.2.2.2.2
  refine n_iconst c_153_0 (n_istore (L2 := [some (2, 112), some (0, m), some (2, 117), some (0, f), some (0, 3), some (0, x), some (0, y), some (0, z0), some (0, 0), none, none, none]) c_153_1 rfl rfl (n_aload_n c_153_3 rfl (n_getV (bi := 0) c_153_4 sc_112.n rfl rfl rfl (t_dm hS hdm) ?_)))
  intro z1 ez1 f2
  obtain rfl : z1 = 2 := by omega
  refine n_iload c_153_7 rfl (n_iconst c_153_9 (n_isub c_153_10 rfl ?_))
  have hcst : ((3 - 1) : Int) = 2 := by omega
  rw [hcst]
  refine n_s2I c_153_11 rfl rfl rfl rfl (mpower2_2  hS ) ?_
  intro z3 M4 hP5
  obtain ⟨eM, f5⟩ := hP5
  subst eM
  obtain rfl : z3 = 4 := by omega
  refine n_istore (L2 := [some (2, 112), some (0, m), some (2, 117), some (0, f), some (0, 3), some (0, x), some (0, y), some (0, z0), some (0, 0), some (0, 4), none, none]) c_153_14 rfl rfl (n_iconst c_153_16 (n_istore (L2 := [some (2, 112), some (0, m), some (2, 117), some (0, f), some (0, 3), some (0, x), some (0, y), some (0, z0), some (0, 0), some (0, 4), some (0, 0), none]) c_153_17 rfl rfl (n_iload c_153_19 rfl (n_iload c_153_21 rfl ?_))))
  refine n_if2_ge c_153_23 (by omega) (by omega) ?_ ?_
  · intro h6
    exfalso; omega
  · intro h7
    refine n_iload c_153_26 rfl (n_iload c_153_28 rfl (n_idivV c_153_30 (by omega) (by omega) ?_))
    intro z8 _ f9
    refine n_aload_n c_153_31 rfl (n_getV (bi := 0) c_153_32 sc_112.n rfl rfl rfl (t_dm hS hdm) ?_)
    intro z10 ez10 f11
    obtain rfl : z10 = 2 := by omega
    refine n_iremV c_153_35 (by omega) (by omega) ?_
    intro z12 _ f13
    refine n_istore (L2 := [some (2, 112), some (0, m), some (2, 117), some (0, f), some (0, 3), some (0, x), some (0, y), some (0, z0), some (0, 0), some (0, 4), some (0, 0), some (0, z12)]) c_153_36 rfl rfl (n_iload_n c_153_38 rfl (n_iconst c_153_39 ?_))
    refine n_if2_le c_153_40 (by omega) (by omega) ?_ ?_
    · intro h14
      refine n_iload_n c_153_63 rfl (n_iconst c_153_64 ?_)
      refine n_if2_le c_153_65 (by omega) (by omega) ?_ ?_
      · intro h15
        refine n_iload c_153_88 rfl (n_aload_n c_153_90 rfl (n_getV (bi := 0) c_153_91 sc_112.n rfl rfl rfl (t_dm hS hdm) ?_))
        intro z16 ez16 f17
        obtain rfl : z16 = 2 := by omega
        refine n_imul c_153_94 rfl (n_aload_n c_153_95 rfl (n_iload_n c_153_96 rfl (n_iload c_153_97 rfl (n_iadd c_153_99 rfl (n_ialoadV c_153_100 sc_117.n rfl rfl rfl (by omega) (t_117 hS (by omega)) ?_)))))
        intro z18 ez18 f19
        refine n_iadd c_153_101 rfl (n_istore (L2 := [some (2, 112), some (0, m), some (2, 117), some (0, f), some (0, 3), some (0, x), some (0, y), some (0, z0), some (0, ((0 * 2) + z18)), some (0, 4), some (0, 0), some (0, z12)]) c_153_102 rfl rfl (n_iload c_153_104 rfl (n_aload_n c_153_106 rfl (n_getV (bi := 0) c_153_107 sc_112.n rfl rfl rfl (t_dm hS hdm) ?_))))
        intro z20 ez20 f21
        obtain rfl : z20 = 2 := by omega
        refine n_idivT (z := 2) c_153_110 (by omega) (by omega) (by omega) (by decide) ?_
        refine n_istore (L2 := [some (2, 112), some (0, m), some (2, 117), some (0, f), some (0, 3), some (0, x), some (0, y), some (0, z0), some (0, ((0 * 2) + z18)), some (0, 2), some (0, 0), some (0, z12)]) c_153_111 rfl rfl (n_iinc (L2 := [some (2, 112), some (0, m), some (2, 117), some (0, f), some (0, 3), some (0, x), some (0, y), some (0, z0), some (0, ((0 * 2) + z18)), some (0, 2), some (0, (0 + 1)), some (0, z12)]) c_153_113 rfl rfl rfl (n_goto c_153_116 (n_iload c_153_19 rfl (n_iload c_153_21 rfl ?_))))
        refine n_if2_ge c_153_23 (by omega) (by omega) ?_ ?_
        · intro h22
          exfalso; omega
        · intro h23
          refine n_iload c_153_26 rfl (n_iload c_153_28 rfl (n_idivV c_153_30 (by omega) (by omega) ?_))
          intro z24 _ f25
          refine n_aload_n c_153_31 rfl (n_getV (bi := 0) c_153_32 sc_112.n rfl rfl rfl (t_dm hS hdm) ?_)
          intro z26 ez26 f27
          obtain rfl : z26 = 2 := by omega
          refine n_iremV c_153_35 (by omega) (by omega) ?_
          intro z28 _ f29
          refine n_istore (L2 := [some (2, 112), some (0, m), some (2, 117), some (0, f), some (0, 3), some (0, x), some (0, y), some (0, z0), some (0, ((0 * 2) + z18)), some (0, 2), some (0, (0 + 1)), some (0, z28)]) c_153_36 rfl rfl (n_iload_n c_153_38 rfl (n_iconst c_153_39 ?_))
          refine n_if2_le c_153_40 (by omega) (by omega) ?_ ?_
          · intro h30
            refine n_iload_n c_153_63 rfl (n_iconst c_153_64 ?_)
            refine n_if2_le c_153_65 (by omega) (by omega) ?_ ?_
            · intro h31
              refine n_iload c_153_88 rfl (n_aload_n c_153_90 rfl (n_getV (bi := 0) c_153_91 sc_112.n rfl rfl rfl (t_dm hS hdm) ?_))
              intro z32 ez32 f33
              obtain rfl : z32 = 2 := by omega
              refine n_imul c_153_94 rfl (n_aload_n c_153_95 rfl (n_iload_n c_153_96 rfl (n_iload c_153_97 rfl (n_iadd c_153_99 rfl (n_ialoadV c_153_100 sc_117.n rfl rfl rfl (by omega) (t_117 hS (by omega)) ?_)))))
              intro z34 ez34 f35
              refine n_iadd c_153_101 rfl (n_istore (L2 := [some (2, 112), some (0, m), some (2, 117), some (0, f), some (0, 3), some (0, x), some (0, y), some (0, z0), some (0, ((((0 * 2) + z18) * 2) + z34)), some (0, 2), some (0, (0 + 1)), some (0, z28)]) c_153_102 rfl rfl (n_iload c_153_104 rfl (n_aload_n c_153_106 rfl (n_getV (bi := 0) c_153_107 sc_112.n rfl rfl rfl (t_dm hS hdm) ?_))))
              intro z36 ez36 f37
              obtain rfl : z36 = 2 := by omega
              refine n_idivT (z := 1) c_153_110 (by omega) (by omega) (by omega) (by decide) ?_
              refine n_istore (L2 := [some (2, 112), some (0, m), some (2, 117), some (0, f), some (0, 3), some (0, x), some (0, y), some (0, z0), some (0, ((((0 * 2) + z18) * 2) + z34)), some (0, 1), some (0, (0 + 1)), some (0, z28)]) c_153_111 rfl rfl (n_iinc (L2 := [some (2, 112), some (0, m), some (2, 117), some (0, f), some (0, 3), some (0, x), some (0, y), some (0, z0), some (0, ((((0 * 2) + z18) * 2) + z34)), some (0, 1), some (0, ((0 + 1) + 1)), some (0, z28)]) c_153_113 rfl rfl rfl (n_goto c_153_116 (n_iload c_153_19 rfl (n_iload c_153_21 rfl ?_))))
              refine n_if2_ge c_153_23 (by omega) (by omega) ?_ ?_
              · intro h38
                exfalso; omega
              · intro h39
                refine n_iload c_153_26 rfl (n_iload c_153_28 rfl (n_idivV c_153_30 (by omega) (by omega) ?_))
                intro z40 _ f41
                refine n_aload_n c_153_31 rfl (n_getV (bi := 0) c_153_32 sc_112.n rfl rfl rfl (t_dm hS hdm) ?_)
                intro z42 ez42 f43
                obtain rfl : z42 = 2 := by omega
                refine n_iremV c_153_35 (by omega) (by omega) ?_
                intro z44 _ f45
                refine n_istore (L2 := [some (2, 112), some (0, m), some (2, 117), some (0, f), some (0, 3), some (0, x), some (0, y), some (0, z0), some (0, ((((0 * 2) + z18) * 2) + z34)), some (0, 1), some (0, ((0 + 1) + 1)), some (0, z44)]) c_153_36 rfl rfl (n_iload_n c_153_38 rfl (n_iconst c_153_39 ?_))
                refine n_if2_le c_153_40 (by omega) (by omega) ?_ ?_
                · intro h46
                  refine n_iload_n c_153_63 rfl (n_iconst c_153_64 ?_)
                  refine n_if2_le c_153_65 (by omega) (by omega) ?_ ?_
                  · intro h47
                    refine n_iload c_153_88 rfl (n_aload_n c_153_90 rfl (n_getV (bi := 0) c_153_91 sc_112.n rfl rfl rfl (t_dm hS hdm) ?_))
                    intro z48 ez48 f49
                    obtain rfl : z48 = 2 := by omega
                    refine n_imul c_153_94 rfl (n_aload_n c_153_95 rfl (n_iload_n c_153_96 rfl (n_iload c_153_97 rfl (n_iadd c_153_99 rfl (n_ialoadV c_153_100 sc_117.n rfl rfl rfl (by omega) (t_117 hS (by omega)) ?_)))))
                    intro z50 ez50 f51
                    refine n_iadd c_153_101 rfl (n_istore (L2 := [some (2, 112), some (0, m), some (2, 117), some (0, f), some (0, 3), some (0, x), some (0, y), some (0, z0), some (0, ((((((0 * 2) + z18) * 2) + z34) * 2) + z50)), some (0, 1), some (0, ((0 + 1) + 1)), some (0, z44)]) c_153_102 rfl rfl (n_iload c_153_104 rfl (n_aload_n c_153_106 rfl (n_getV (bi := 0) c_153_107 sc_112.n rfl rfl rfl (t_dm hS hdm) ?_))))
                    intro z52 ez52 f53
                    obtain rfl : z52 = 2 := by omega
                    refine n_idivT (z := 0) c_153_110 (by omega) (by omega) (by omega) (by decide) ?_
                    refine n_istore (L2 := [some (2, 112), some (0, m), some (2, 117), some (0, f), some (0, 3), some (0, x), some (0, y), some (0, z0), some (0, ((((((0 * 2) + z18) * 2) + z34) * 2) + z50)), some (0, 0), some (0, ((0 + 1) + 1)), some (0, z44)]) c_153_111 rfl rfl (n_iinc (L2 := [some (2, 112), some (0, m), some (2, 117), some (0, f), some (0, 3), some (0, x), some (0, y), some (0, z0), some (0, ((((((0 * 2) + z18) * 2) + z34) * 2) + z50)), some (0, 0), some (0, (((0 + 1) + 1) + 1)), some (0, z44)]) c_153_113 rfl rfl rfl (n_goto c_153_116 (n_iload c_153_19 rfl (n_iload c_153_21 rfl ?_))))
                    refine n_if2_ge c_153_23 (by omega) (by omega) ?_ ?_
                    · intro h54
                      refine n_iload c_153_119 rfl ?_
                      exact n_rI c_153_121 rfl ⟨rfl, by omega⟩
                    · intro h55
                      exfalso; omega
                  · intro h56
                    exfalso; omega
                · intro h57
                  exfalso; omega
            · intro h58
              exfalso; omega
          · intro h59
            exfalso; omega
      · intro h60
        exfalso; omega
    · intro h61
      refine n_iload c_153_43 rfl (n_aload_n c_153_45 rfl (n_getV (bi := 0) c_153_46 sc_112.n rfl rfl rfl (t_dm hS hdm) ?_))
      intro z62 ez62 f63
      obtain rfl : z62 = 2 := by omega
      refine n_imul c_153_49 rfl (n_iload c_153_50 rfl (n_iload c_153_52 rfl (n_idivV c_153_54 (by omega) (by omega) ?_)))
      intro z64 _ f65
      refine n_aload_n c_153_55 rfl (n_getV (bi := 0) c_153_56 sc_112.n rfl rfl rfl (t_dm hS hdm) ?_)
      intro z66 ez66 f67
      obtain rfl : z66 = 2 := by omega
      refine n_iremV c_153_59 (by omega) (by omega) ?_
      intro z68 _ f69
      refine n_iadd c_153_60 rfl (n_istore (L2 := [some (2, 112), some (0, m), some (2, 117), some (0, f), some (0, 3), some (0, x), some (0, y), some (0, z0), some (0, 0), some (0, 4), some (0, 0), some (0, ((z12 * 2) + z68))]) c_153_61 rfl rfl (n_iload_n c_153_63 rfl (n_iconst c_153_64 ?_)))
      refine n_if2_le c_153_65 (by omega) (by omega) ?_ ?_
      · intro h70
        refine n_iload c_153_88 rfl (n_aload_n c_153_90 rfl (n_getV (bi := 0) c_153_91 sc_112.n rfl rfl rfl (t_dm hS hdm) ?_))
        intro z71 ez71 f72
        obtain rfl : z71 = 2 := by omega
        refine n_imul c_153_94 rfl (n_aload_n c_153_95 rfl (n_iload_n c_153_96 rfl (n_iload c_153_97 rfl (n_iadd c_153_99 rfl (n_ialoadV c_153_100 sc_117.n rfl rfl rfl (by omega) (t_117 hS (by omega)) ?_)))))
        intro z73 ez73 f74
        refine n_iadd c_153_101 rfl (n_istore (L2 := [some (2, 112), some (0, m), some (2, 117), some (0, f), some (0, 3), some (0, x), some (0, y), some (0, z0), some (0, ((0 * 2) + z73)), some (0, 4), some (0, 0), some (0, ((z12 * 2) + z68))]) c_153_102 rfl rfl (n_iload c_153_104 rfl (n_aload_n c_153_106 rfl (n_getV (bi := 0) c_153_107 sc_112.n rfl rfl rfl (t_dm hS hdm) ?_))))
        intro z75 ez75 f76
        obtain rfl : z75 = 2 := by omega
        refine n_idivT (z := 2) c_153_110 (by omega) (by omega) (by omega) (by decide) ?_
        refine n_istore (L2 := [some (2, 112), some (0, m), some (2, 117), some (0, f), some (0, 3), some (0, x), some (0, y), some (0, z0), some (0, ((0 * 2) + z73)), some (0, 2), some (0, 0), some (0, ((z12 * 2) + z68))]) c_153_111 rfl rfl (n_iinc (L2 := [some (2, 112), some (0, m), some (2, 117), some (0, f), some (0, 3), some (0, x), some (0, y), some (0, z0), some (0, ((0 * 2) + z73)), some (0, 2), some (0, (0 + 1)), some (0, ((z12 * 2) + z68))]) c_153_113 rfl rfl rfl (n_goto c_153_116 (n_iload c_153_19 rfl (n_iload c_153_21 rfl ?_))))
        refine n_if2_ge c_153_23 (by omega) (by omega) ?_ ?_
        · intro h77
          exfalso; omega
        · intro h78
          refine n_iload c_153_26 rfl (n_iload c_153_28 rfl (n_idivV c_153_30 (by omega) (by omega) ?_))
          intro z79 _ f80
          refine n_aload_n c_153_31 rfl (n_getV (bi := 0) c_153_32 sc_112.n rfl rfl rfl (t_dm hS hdm) ?_)
          intro z81 ez81 f82
          obtain rfl : z81 = 2 := by omega
          refine n_iremV c_153_35 (by omega) (by omega) ?_
          intro z83 _ f84
          refine n_istore (L2 := [some (2, 112), some (0, m), some (2, 117), some (0, f), some (0, 3), some (0, x), some (0, y), some (0, z0), some (0, ((0 * 2) + z73)), some (0, 2), some (0, (0 + 1)), some (0, z83)]) c_153_36 rfl rfl (n_iload_n c_153_38 rfl (n_iconst c_153_39 ?_))
          refine n_if2_le c_153_40 (by omega) (by omega) ?_ ?_
          · intro h85
            exfalso; omega
          · intro h86
            refine n_iload c_153_43 rfl (n_aload_n c_153_45 rfl (n_getV (bi := 0) c_153_46 sc_112.n rfl rfl rfl (t_dm hS hdm) ?_))
            intro z87 ez87 f88
            obtain rfl : z87 = 2 := by omega
            refine n_imul c_153_49 rfl (n_iload c_153_50 rfl (n_iload c_153_52 rfl (n_idivV c_153_54 (by omega) (by omega) ?_)))
            intro z89 _ f90
            refine n_aload_n c_153_55 rfl (n_getV (bi := 0) c_153_56 sc_112.n rfl rfl rfl (t_dm hS hdm) ?_)
            intro z91 ez91 f92
            obtain rfl : z91 = 2 := by omega
            refine n_iremV c_153_59 (by omega) (by omega) ?_
            intro z93 _ f94
            refine n_iadd c_153_60 rfl (n_istore (L2 := [some (2, 112), some (0, m), some (2, 117), some (0, f), some (0, 3), some (0, x), some (0, y), some (0, z0), some (0, ((0 * 2) + z73)), some (0, 2), some (0, (0 + 1)), some (0, ((z83 * 2) + z93))]) c_153_61 rfl rfl (n_iload_n c_153_63 rfl (n_iconst c_153_64 ?_)))
            refine n_if2_le c_153_65 (by omega) (by omega) ?_ ?_
            · intro h95
              refine n_iload c_153_88 rfl (n_aload_n c_153_90 rfl (n_getV (bi := 0) c_153_91 sc_112.n rfl rfl rfl (t_dm hS hdm) ?_))
              intro z96 ez96 f97
              obtain rfl : z96 = 2 := by omega
              refine n_imul c_153_94 rfl (n_aload_n c_153_95 rfl (n_iload_n c_153_96 rfl (n_iload c_153_97 rfl (n_iadd c_153_99 rfl (n_ialoadV c_153_100 sc_117.n rfl rfl rfl (by omega) (t_117 hS (by omega)) ?_)))))
              intro z98 ez98 f99
              refine n_iadd c_153_101 rfl (n_istore (L2 := [some (2, 112), some (0, m), some (2, 117), some (0, f), some (0, 3), some (0, x), some (0, y), some (0, z0), some (0, ((((0 * 2) + z73) * 2) + z98)), some (0, 2), some (0, (0 + 1)), some (0, ((z83 * 2) + z93))]) c_153_102 rfl rfl (n_iload c_153_104 rfl (n_aload_n c_153_106 rfl (n_getV (bi := 0) c_153_107 sc_112.n rfl rfl rfl (t_dm hS hdm) ?_))))
              intro z100 ez100 f101
              obtain rfl : z100 = 2 := by omega
              refine n_idivT (z := 1) c_153_110 (by omega) (by omega) (by omega) (by decide) ?_
              refine n_istore (L2 := [some (2, 112), some (0, m), some (2, 117), some (0, f), some (0, 3), some (0, x), some (0, y), some (0, z0), some (0, ((((0 * 2) + z73) * 2) + z98)), some (0, 1), some (0, (0 + 1)), some (0, ((z83 * 2) + z93))]) c_153_111 rfl rfl (n_iinc (L2 := [some (2, 112), some (0, m), some (2, 117), some (0, f), some (0, 3), some (0, x), some (0, y), some (0, z0), some (0, ((((0 * 2) + z73) * 2) + z98)), some (0, 1), some (0, ((0 + 1) + 1)), some (0, ((z83 * 2) + z93))]) c_153_113 rfl rfl rfl (n_goto c_153_116 (n_iload c_153_19 rfl (n_iload c_153_21 rfl ?_))))
              refine n_if2_ge c_153_23 (by omega) (by omega) ?_ ?_
              · intro h102
                exfalso; omega
              · intro h103
                refine n_iload c_153_26 rfl (n_iload c_153_28 rfl (n_idivV c_153_30 (by omega) (by omega) ?_))
                intro z104 _ f105
                refine n_aload_n c_153_31 rfl (n_getV (bi := 0) c_153_32 sc_112.n rfl rfl rfl (t_dm hS hdm) ?_)
                intro z106 ez106 f107
                obtain rfl : z106 = 2 := by omega
                refine n_iremV c_153_35 (by omega) (by omega) ?_
                intro z108 _ f109
                refine n_istore (L2 := [some (2, 112), some (0, m), some (2, 117), some (0, f), some (0, 3), some (0, x), some (0, y), some (0, z0), some (0, ((((0 * 2) + z73) * 2) + z98)), some (0, 1), some (0, ((0 + 1) + 1)), some (0, z108)]) c_153_36 rfl rfl (n_iload_n c_153_38 rfl (n_iconst c_153_39 ?_))
                refine n_if2_le c_153_40 (by omega) (by omega) ?_ ?_
                · intro h110
                  exfalso; omega
                · intro h111
                  refine n_iload c_153_43 rfl (n_aload_n c_153_45 rfl (n_getV (bi := 0) c_153_46 sc_112.n rfl rfl rfl (t_dm hS hdm) ?_))
                  intro z112 ez112 f113
                  obtain rfl : z112 = 2 := by omega
                  refine n_imul c_153_49 rfl (n_iload c_153_50 rfl (n_iload c_153_52 rfl (n_idivV c_153_54 (by omega) (by omega) ?_)))
                  intro z114 _ f115
                  refine n_aload_n c_153_55 rfl (n_getV (bi := 0) c_153_56 sc_112.n rfl rfl rfl (t_dm hS hdm) ?_)
                  intro z116 ez116 f117
                  obtain rfl : z116 = 2 := by omega
                  refine n_iremV c_153_59 (by omega) (by omega) ?_
                  intro z118 _ f119
                  refine n_iadd c_153_60 rfl (n_istore (L2 := [some (2, 112), some (0, m), some (2, 117), some (0, f), some (0, 3), some (0, x), some (0, y), some (0, z0), some (0, ((((0 * 2) + z73) * 2) + z98)), some (0, 1), some (0, ((0 + 1) + 1)), some (0, ((z108 * 2) + z118))]) c_153_61 rfl rfl (n_iload_n c_153_63 rfl (n_iconst c_153_64 ?_)))
                  refine n_if2_le c_153_65 (by omega) (by omega) ?_ ?_
                  · intro h120
                    refine n_iload c_153_88 rfl (n_aload_n c_153_90 rfl (n_getV (bi := 0) c_153_91 sc_112.n rfl rfl rfl (t_dm hS hdm) ?_))
                    intro z121 ez121 f122
                    obtain rfl : z121 = 2 := by omega
                    refine n_imul c_153_94 rfl (n_aload_n c_153_95 rfl (n_iload_n c_153_96 rfl (n_iload c_153_97 rfl (n_iadd c_153_99 rfl (n_ialoadV c_153_100 sc_117.n rfl rfl rfl (by omega) (t_117 hS (by omega)) ?_)))))
                    intro z123 ez123 f124
                    refine n_iadd c_153_101 rfl (n_istore (L2 := [some (2, 112), some (0, m), some (2, 117), some (0, f), some (0, 3), some (0, x), some (0, y), some (0, z0), some (0, ((((((0 * 2) + z73) * 2) + z98) * 2) + z123)), some (0, 1), some (0, ((0 + 1) + 1)), some (0, ((z108 * 2) + z118))]) c_153_102 rfl rfl (n_iload c_153_104 rfl (n_aload_n c_153_106 rfl (n_getV (bi := 0) c_153_107 sc_112.n rfl rfl rfl (t_dm hS hdm) ?_))))
                    intro z125 ez125 f126
                    obtain rfl : z125 = 2 := by omega
                    refine n_idivT (z := 0) c_153_110 (by omega) (by omega) (by omega) (by decide) ?_
                    refine n_istore (L2 := [some (2, 112), some (0, m), some (2, 117), some (0, f), some (0, 3), some (0, x), some (0, y), some (0, z0), some (0, ((((((0 * 2) + z73) * 2) + z98) * 2) + z123)), some (0, 0), some (0, ((0 + 1) + 1)), some (0, ((z108 * 2) + z118))]) c_153_111 rfl rfl (n_iinc (L2 := [some (2, 112), some (0, m), some (2, 117), some (0, f), some (0, 3), some (0, x), some (0, y), some (0, z0), some (0, ((((((0 * 2) + z73) * 2) + z98) * 2) + z123)), some (0, 0), some (0, (((0 + 1) + 1) + 1)), some (0, ((z108 * 2) + z118))]) c_153_113 rfl rfl rfl (n_goto c_153_116 (n_iload c_153_19 rfl (n_iload c_153_21 rfl ?_))))
                    refine n_if2_ge c_153_23 (by omega) (by omega) ?_ ?_
                    · intro h127
                      refine n_iload c_153_119 rfl ?_
                      exact n_rI c_153_121 rfl ⟨rfl, by omega⟩
                    · intro h128
                      exfalso; omega
                  · intro h129
                    exfalso; omega
            · intro h130
              exfalso; omega
      · intro h131
        refine n_iload c_153_68 rfl (n_aload_n c_153_70 rfl (n_getV (bi := 0) c_153_71 sc_112.n rfl rfl rfl (t_dm hS hdm) ?_))
        intro z132 ez132 f133
        obtain rfl : z132 = 2 := by omega
        refine n_imul c_153_74 rfl (n_iload c_153_75 rfl (n_iload c_153_77 rfl (n_idivV c_153_79 (by omega) (by omega) ?_)))
        intro z134 _ f135
        refine n_aload_n c_153_80 rfl (n_getV (bi := 0) c_153_81 sc_112.n rfl rfl rfl (t_dm hS hdm) ?_)
        intro z136 ez136 f137
        obtain rfl : z136 = 2 := by omega
        refine n_iremV c_153_84 (by omega) (by omega) ?_
        intro z138 _ f139
        refine n_iadd c_153_85 rfl (n_istore (L2 := [some (2, 112), some (0, m), some (2, 117), some (0, f), some (0, 3), some (0, x), some (0, y), some (0, z0), some (0, 0), some (0, 4), some (0, 0), some (0, ((((z12 * 2) + z68) * 2) + z138))]) c_153_86 rfl rfl (n_iload c_153_88 rfl (n_aload_n c_153_90 rfl (n_getV (bi := 0) c_153_91 sc_112.n rfl rfl rfl (t_dm hS hdm) ?_))))
        intro z140 ez140 f141
        obtain rfl : z140 = 2 := by omega
        refine n_imul c_153_94 rfl (n_aload_n c_153_95 rfl (n_iload_n c_153_96 rfl (n_iload c_153_97 rfl (n_iadd c_153_99 rfl (n_ialoadV c_153_100 sc_117.n rfl rfl rfl (by omega) (t_117 hS (by omega)) ?_)))))
        intro z142 ez142 f143
        refine n_iadd c_153_101 rfl (n_istore (L2 := [some (2, 112), some (0, m), some (2, 117), some (0, f), some (0, 3), some (0, x), some (0, y), some (0, z0), some (0, ((0 * 2) + z142)), some (0, 4), some (0, 0), some (0, ((((z12 * 2) + z68) * 2) + z138))]) c_153_102 rfl rfl (n_iload c_153_104 rfl (n_aload_n c_153_106 rfl (n_getV (bi := 0) c_153_107 sc_112.n rfl rfl rfl (t_dm hS hdm) ?_))))
        intro z144 ez144 f145
        obtain rfl : z144 = 2 := by omega
        refine n_idivT (z := 2) c_153_110 (by omega) (by omega) (by omega) (by decide) ?_
        refine n_istore (L2 := [some (2, 112), some (0, m), some (2, 117), some (0, f), some (0, 3), some (0, x), some (0, y), some (0, z0), some (0, ((0 * 2) + z142)), some (0, 2), some (0, 0), some (0, ((((z12 * 2) + z68) * 2) + z138))]) c_153_111 rfl rfl (n_iinc (L2 := [some (2, 112), some (0, m), some (2, 117), some (0, f), some (0, 3), some (0, x), some (0, y), some (0, z0), some (0, ((0 * 2) + z142)), some (0, 2), some (0, (0 + 1)), some (0, ((((z12 * 2) + z68) * 2) + z138))]) c_153_113 rfl rfl rfl (n_goto c_153_116 (n_iload c_153_19 rfl (n_iload c_153_21 rfl ?_))))
        refine n_if2_ge c_153_23 (by omega) (by omega) ?_ ?_
        · intro h146
          exfalso; omega
        · intro h147
          refine n_iload c_153_26 rfl (n_iload c_153_28 rfl (n_idivV c_153_30 (by omega) (by omega) ?_))
          intro z148 _ f149
          refine n_aload_n c_153_31 rfl (n_getV (bi := 0) c_153_32 sc_112.n rfl rfl rfl (t_dm hS hdm) ?_)
          intro z150 ez150 f151
          obtain rfl : z150 = 2 := by omega
          refine n_iremV c_153_35 (by omega) (by omega) ?_
          intro z152 _ f153
          refine n_istore (L2 := [some (2, 112), some (0, m), some (2, 117), some (0, f), some (0, 3), some (0, x), some (0, y), some (0, z0), some (0, ((0 * 2) + z142)), some (0, 2), some (0, (0 + 1)), some (0, z152)]) c_153_36 rfl rfl (n_iload_n c_153_38 rfl (n_iconst c_153_39 ?_))
          refine n_if2_le c_153_40 (by omega) (by omega) ?_ ?_
          · intro h154
            exfalso; omega
          · intro h155
            refine n_iload c_153_43 rfl (n_aload_n c_153_45 rfl (n_getV (bi := 0) c_153_46 sc_112.n rfl rfl rfl (t_dm hS hdm) ?_))
            intro z156 ez156 f157
            obtain rfl : z156 = 2 := by omega
            refine n_imul c_153_49 rfl (n_iload c_153_50 rfl (n_iload c_153_52 rfl (n_idivV c_153_54 (by omega) (by omega) ?_)))
            intro z158 _ f159
            refine n_aload_n c_153_55 rfl (n_getV (bi := 0) c_153_56 sc_112.n rfl rfl rfl (t_dm hS hdm) ?_)
            intro z160 ez160 f161
            obtain rfl : z160 = 2 := by omega
            refine n_iremV c_153_59 (by omega) (by omega) ?_
            intro z162 _ f163
            refine n_iadd c_153_60 rfl (n_istore (L2 := [some (2, 112), some (0, m), some (2, 117), some (0, f), some (0, 3), some (0, x), some (0, y), some (0, z0), some (0, ((0 * 2) + z142)), some (0, 2), some (0, (0 + 1)), some (0, ((z152 * 2) + z162))]) c_153_61 rfl rfl (n_iload_n c_153_63 rfl (n_iconst c_153_64 ?_)))
            refine n_if2_le c_153_65 (by omega) (by omega) ?_ ?_
            · intro h164
              exfalso; omega
            · intro h165
              refine n_iload c_153_68 rfl (n_aload_n c_153_70 rfl (n_getV (bi := 0) c_153_71 sc_112.n rfl rfl rfl (t_dm hS hdm) ?_))
              intro z166 ez166 f167
              obtain rfl : z166 = 2 := by omega
              refine n_imul c_153_74 rfl (n_iload c_153_75 rfl (n_iload c_153_77 rfl (n_idivV c_153_79 (by omega) (by omega) ?_)))
              intro z168 _ f169
              refine n_aload_n c_153_80 rfl (n_getV (bi := 0) c_153_81 sc_112.n rfl rfl rfl (t_dm hS hdm) ?_)
              intro z170 ez170 f171
              obtain rfl : z170 = 2 := by omega
              refine n_iremV c_153_84 (by omega) (by omega) ?_
              intro z172 _ f173
              refine n_iadd c_153_85 rfl (n_istore (L2 := [some (2, 112), some (0, m), some (2, 117), some (0, f), some (0, 3), some (0, x), some (0, y), some (0, z0), some (0, ((0 * 2) + z142)), some (0, 2), some (0, (0 + 1)), some (0, ((((z152 * 2) + z162) * 2) + z172))]) c_153_86 rfl rfl (n_iload c_153_88 rfl (n_aload_n c_153_90 rfl (n_getV (bi := 0) c_153_91 sc_112.n rfl rfl rfl (t_dm hS hdm) ?_))))
              intro z174 ez174 f175
              obtain rfl : z174 = 2 := by omega
              refine n_imul c_153_94 rfl (n_aload_n c_153_95 rfl (n_iload_n c_153_96 rfl (n_iload c_153_97 rfl (n_iadd c_153_99 rfl (n_ialoadV c_153_100 sc_117.n rfl rfl rfl (by omega) (t_117 hS (by omega)) ?_)))))
              intro z176 ez176 f177
              refine n_iadd c_153_101 rfl (n_istore (L2 := [some (2, 112), some (0, m), some (2, 117), some (0, f), some (0, 3), some (0, x), some (0, y), some (0, z0), some (0, ((((0 * 2) + z142) * 2) + z176)), some (0, 2), some (0, (0 + 1)), some (0, ((((z152 * 2) + z162) * 2) + z172))]) c_153_102 rfl rfl (n_iload c_153_104 rfl (n_aload_n c_153_106 rfl (n_getV (bi := 0) c_153_107 sc_112.n rfl rfl rfl (t_dm hS hdm) ?_))))
              intro z178 ez178 f179
              obtain rfl : z178 = 2 := by omega
              refine n_idivT (z := 1) c_153_110 (by omega) (by omega) (by omega) (by decide) ?_
              refine n_istore (L2 := [some (2, 112), some (0, m), some (2, 117), some (0, f), some (0, 3), some (0, x), some (0, y), some (0, z0), some (0, ((((0 * 2) + z142) * 2) + z176)), some (0, 1), some (0, (0 + 1)), some (0, ((((z152 * 2) + z162) * 2) + z172))]) c_153_111 rfl rfl (n_iinc (L2 := [some (2, 112), some (0, m), some (2, 117), some (0, f), some (0, 3), some (0, x), some (0, y), some (0, z0), some (0, ((((0 * 2) + z142) * 2) + z176)), some (0, 1), some (0, ((0 + 1) + 1)), some (0, ((((z152 * 2) + z162) * 2) + z172))]) c_153_113 rfl rfl rfl (n_goto c_153_116 (n_iload c_153_19 rfl (n_iload c_153_21 rfl ?_))))
              refine n_if2_ge c_153_23 (by omega) (by omega) ?_ ?_
              · intro h180
                exfalso; omega
              · intro h181
                refine n_iload c_153_26 rfl (n_iload c_153_28 rfl (n_idivV c_153_30 (by omega) (by omega) ?_))
                intro z182 _ f183
                refine n_aload_n c_153_31 rfl (n_getV (bi := 0) c_153_32 sc_112.n rfl rfl rfl (t_dm hS hdm) ?_)
                intro z184 ez184 f185
                obtain rfl : z184 = 2 := by omega
                refine n_iremV c_153_35 (by omega) (by omega) ?_
                intro z186 _ f187
                refine n_istore (L2 := [some (2, 112), some (0, m), some (2, 117), some (0, f), some (0, 3), some (0, x), some (0, y), some (0, z0), some (0, ((((0 * 2) + z142) * 2) + z176)), some (0, 1), some (0, ((0 + 1) + 1)), some (0, z186)]) c_153_36 rfl rfl (n_iload_n c_153_38 rfl (n_iconst c_153_39 ?_))
                refine n_if2_le c_153_40 (by omega) (by omega) ?_ ?_
                · intro h188
                  exfalso; omega
                · intro h189
                  refine n_iload c_153_43 rfl (n_aload_n c_153_45 rfl (n_getV (bi := 0) c_153_46 sc_112.n rfl rfl rfl (t_dm hS hdm) ?_))
                  intro z190 ez190 f191
                  obtain rfl : z190 = 2 := by omega
                  refine n_imul c_153_49 rfl (n_iload c_153_50 rfl (n_iload c_153_52 rfl (n_idivV c_153_54 (by omega) (by omega) ?_)))
                  intro z192 _ f193
                  refine n_aload_n c_153_55 rfl (n_getV (bi := 0) c_153_56 sc_112.n rfl rfl rfl (t_dm hS hdm) ?_)
                  intro z194 ez194 f195
                  obtain rfl : z194 = 2 := by omega
                  refine n_iremV c_153_59 (by omega) (by omega) ?_
                  intro z196 _ f197
                  refine n_iadd c_153_60 rfl (n_istore (L2 := [some (2, 112), some (0, m), some (2, 117), some (0, f), some (0, 3), some (0, x), some (0, y), some (0, z0), some (0, ((((0 * 2) + z142) * 2) + z176)), some (0, 1), some (0, ((0 + 1) + 1)), some (0, ((z186 * 2) + z196))]) c_153_61 rfl rfl (n_iload_n c_153_63 rfl (n_iconst c_153_64 ?_)))
                  refine n_if2_le c_153_65 (by omega) (by omega) ?_ ?_
                  · intro h198
                    exfalso; omega
                  · intro h199
                    refine n_iload c_153_68 rfl (n_aload_n c_153_70 rfl (n_getV (bi := 0) c_153_71 sc_112.n rfl rfl rfl (t_dm hS hdm) ?_))
                    intro z200 ez200 f201
                    obtain rfl : z200 = 2 := by omega
                    refine n_imul c_153_74 rfl (n_iload c_153_75 rfl (n_iload c_153_77 rfl (n_idivV c_153_79 (by omega) (by omega) ?_)))
                    intro z202 _ f203
                    refine n_aload_n c_153_80 rfl (n_getV (bi := 0) c_153_81 sc_112.n rfl rfl rfl (t_dm hS hdm) ?_)
                    intro z204 ez204 f205
                    obtain rfl : z204 = 2 := by omega
                    refine n_iremV c_153_84 (by omega) (by omega) ?_
                    intro z206 _ f207
                    refine n_iadd c_153_85 rfl (n_istore (L2 := [some (2, 112), some (0, m), some (2, 117), some (0, f), some (0, 3), some (0, x), some (0, y), some (0, z0), some (0, ((((0 * 2) + z142) * 2) + z176)), some (0, 1), some (0, ((0 + 1) + 1)), some (0, ((((z186 * 2) + z196) * 2) + z206))]) c_153_86 rfl rfl (n_iload c_153_88 rfl (n_aload_n c_153_90 rfl (n_getV (bi := 0) c_153_91 sc_112.n rfl rfl rfl (t_dm hS hdm) ?_))))
                    intro z208 ez208 f209
                    obtain rfl : z208 = 2 := by omega
                    refine n_imul c_153_94 rfl (n_aload_n c_153_95 rfl (n_iload_n c_153_96 rfl (n_iload c_153_97 rfl (n_iadd c_153_99 rfl (n_ialoadV c_153_100 sc_117.n rfl rfl rfl (by omega) (t_117 hS (by omega)) ?_)))))
                    intro z210 ez210 f211
                    refine n_iadd c_153_101 rfl (n_istore (L2 := [some (2, 112), some (0, m), some (2, 117), some (0, f), some (0, 3), some (0, x), some (0, y), some (0, z0), some (0, ((((((0 * 2) + z142) * 2) + z176) * 2) + z210)), some (0, 1), some (0, ((0 + 1) + 1)), some (0, ((((z186 * 2) + z196) * 2) + z206))]) c_153_102 rfl rfl (n_iload c_153_104 rfl (n_aload_n c_153_106 rfl (n_getV (bi := 0) c_153_107 sc_112.n rfl rfl rfl (t_dm hS hdm) ?_))))
                    intro z212 ez212 f213
                    obtain rfl : z212 = 2 := by omega
                    refine n_idivT (z := 0) c_153_110 (by omega) (by omega) (by omega) (by decide) ?_
                    refine n_istore (L2 := [some (2, 112), some (0, m), some (2, 117), some (0, f), some (0, 3), some (0, x), some (0, y), some (0, z0), some (0, ((((((0 * 2) + z142) * 2) + z176) * 2) + z210)), some (0, 0), some (0, ((0 + 1) + 1)), some (0, ((((z186 * 2) + z196) * 2) + z206))]) c_153_111 rfl rfl (n_iinc (L2 := [some (2, 112), some (0, m), some (2, 117), some (0, f), some (0, 3), some (0, x), some (0, y), some (0, z0), some (0, ((((((0 * 2) + z142) * 2) + z176) * 2) + z210)), some (0, 0), some (0, (((0 + 1) + 1) + 1)), some (0, ((((z186 * 2) + z196) * 2) + z206))]) c_153_113 rfl rfl rfl (n_goto c_153_116 (n_iload c_153_19 rfl (n_iload c_153_21 rfl ?_))))
                    refine n_if2_ge c_153_23 (by omega) (by omega) ?_ ?_
                    · intro h214
                      refine n_iload c_153_119 rfl ?_
                      exact n_rI c_153_121 rfl ⟨rfl, by omega⟩
                    · intro h215
                      exfalso; omega

set_option maxHeartbeats 4000000 in
theorem imageT_2 {xs : List Int32} {e : Nat} {ac : Int} {M0 M : nM} {m f k x y z0 : Int} (hS : Sf 2 ac M0 M) (hdm : M0 112 0 = 2) (hm : 0 ≤ m ∧ m ≤ 3) (hf : 0 ≤ f ∧ f ≤ 189) (hk : 0 ≤ k ∧ k ≤ 3) (hx : 0 ≤ x ∧ x ≤ 26) (hy : 0 ≤ y ∧ y ≤ 26) (hz0 : 0 ≤ z0 ∧ z0 ≤ 26) : nW xs (e + 1) 153 0 [some (2, 112), some (0, m), some (2, 117), some (0, f), some (0, k), some (0, x), some (0, y), some (0, z0), none, none, none, none] [] M (nPI fun z M1 => M = M1 ∧ (0 ≤ z ∧ z ≤ 26)) := by
  rcases (show k = 0 ∨ k = 1 ∨ k = 2 ∨ k = 3 by omega) with rfl | rfl | rfl | rfl
  · exact n_post (imageT0_2 hS hdm (by omega) (by omega) (by omega) (by omega) (by omega)) (fun w M1 h => by obtain ⟨z, rfl, h1, h2⟩ := h; exact ⟨z, rfl, h1, by omega⟩)
  · exact n_post (imageT1_2 hS hdm (by omega) (by omega) (by omega) (by omega) (by omega)) (fun w M1 h => by obtain ⟨z, rfl, h1, h2⟩ := h; exact ⟨z, rfl, h1, by omega⟩)
  · exact n_post (imageT2_2 hS hdm (by omega) (by omega) (by omega) (by omega) (by omega)) (fun w M1 h => by obtain ⟨z, rfl, h1, h2⟩ := h; exact ⟨z, rfl, h1, by omega⟩)
  · exact n_post (imageT3_2 hS hdm (by omega) (by omega) (by omega) (by omega) (by omega)) (fun w M1 h => by obtain ⟨z, rfl, h1, h2⟩ := h; exact ⟨z, rfl, h1, by omega⟩)

set_option maxHeartbeats 4000000 in
theorem escapesT0_2_c {xs : List Int32} {e : Nat} {ac : Int} {M0 M : nM} {m f s : Int} (hS : Sf 2 ac M0 M) (hdm : M0 112 0 = 2) (hm : 0 ≤ m ∧ m ≤ 3) (hf : 0 ≤ f ∧ f ≤ 189) (hs : -9223372036854775808 ≤ s ∧ s ≤ 9223372036854775807) : ∀ nn : Nat, (∀ (x7 x8 : Int), (1 ≤ x7 ∧ x7 ≤ 1) → (0 ≤ x8 ∧ x8 ≤ 1) → (1 - x8) * 38 + 38 < (nn : Int) → nW xs (e + 2) 154 14 [some (2, 112), some (0, m), some (2, 117), some (0, f), some (0, 0), some (1, s), none, some (0, x7), some (0, x8), none, none, none] [] M (nPI fun z M1 => M = M1 ∧ (-1 ≤ z ∧ z ≤ 26) ∧ (z = -1 ∨ n_land (n_lshr s z) 1 = 0))) ∧ (∀ (x7 x8 x9 : Int), (1 ≤ x7 ∧ x7 ≤ 1) → (0 ≤ x8 ∧ x8 ≤ 0) → (0 ≤ x9 ∧ x9 ≤ 1) → (1 - x8) * 38 + (1 - x9) * 12 + 13 < (nn : Int) → nW xs (e + 2) 154 39 [some (2, 112), some (0, m), some (2, 117), some (0, f), some (0, 0), some (1, s), none, some (0, x7), some (0, x8), some (0, x9), none, none] [] M (nPI fun z M1 => M = M1 ∧ (-1 ≤ z ∧ z ≤ 26) ∧ (z = -1 ∨ n_land (n_lshr s z) 1 = 0))) ∧ (∀ (x7 x8 x9 : Int), (1 ≤ x7 ∧ x7 ≤ 1) → (0 ≤ x8 ∧ x8 ≤ 0) → (0 ≤ x9 ∧ x9 ≤ 0) → (1 - x8) * 38 + (1 - x9) * 12 + 12 < (nn : Int) → nW xs (e + 2) 154 75 [some (2, 112), some (0, m), some (2, 117), some (0, f), some (0, 0), some (1, s), none, some (0, x7), some (0, x8), some (0, x9), none, none] [] M (nPI fun z M1 => M = M1 ∧ (-1 ≤ z ∧ z ≤ 26) ∧ (z = -1 ∨ n_land (n_lshr s z) 1 = 0))) ∧ (∀ (x7 x8 x9 x10 : Int), (1 ≤ x7 ∧ x7 ≤ 1) → (0 ≤ x8 ∧ x8 ≤ 0) → (0 ≤ x9 ∧ x9 ≤ 0) → (0 ≤ x10 ∧ x10 ≤ 1) → (1 - x8) * 38 + (1 - x9) * 12 + (1 - x10) * 3 + 5 < (nn : Int) → nW xs (e + 2) 154 78 [some (2, 112), some (0, m), some (2, 117), some (0, f), some (0, 0), some (1, s), none, some (0, x7), some (0, x8), some (0, x9), some (0, x10), none] [] M (nPI fun z M1 => M = M1 ∧ (-1 ≤ z ∧ z ≤ 26) ∧ (z = -1 ∨ n_land (n_lshr s z) 1 = 0))) ∧ (∀ (x7 x8 x9 x10 : Int), (1 ≤ x7 ∧ x7 ≤ 1) → (0 ≤ x8 ∧ x8 ≤ 0) → (0 ≤ x9 ∧ x9 ≤ 0) → (0 ≤ x10 ∧ x10 ≤ 0) → (1 - x8) * 38 + (1 - x9) * 12 + (1 - x10) * 3 + 4 < (nn : Int) → nW xs (e + 2) 154 114 [some (2, 112), some (0, m), some (2, 117), some (0, f), some (0, 0), some (1, s), none, some (0, x7), some (0, x8), some (0, x9), some (0, x10), none] [] M (nPI fun z M1 => M = M1 ∧ (-1 ≤ z ∧ z ≤ 26) ∧ (z = -1 ∨ n_land (n_lshr s z) 1 = 0))) ∧ (∀ (x7 x8 x9 x10 : Int), (1 ≤ x7 ∧ x7 ≤ 1) → (0 ≤ x8 ∧ x8 ≤ 0) → (0 ≤ x9 ∧ x9 ≤ 0) → (0 ≤ x10 ∧ x10 ≤ 0) → (1 - x8) * 38 + (1 - x9) * 12 + (1 - x10) * 3 + 3 < (nn : Int) → nW xs (e + 2) 154 146 [some (2, 112), some (0, m), some (2, 117), some (0, f), some (0, 0), some (1, s), none, some (0, x7), some (0, x8), some (0, x9), some (0, x10), none] [] M (nPI fun z M1 => M = M1 ∧ (-1 ≤ z ∧ z ≤ 26) ∧ (z = -1 ∨ n_land (n_lshr s z) 1 = 0))) ∧ (∀ (x7 x8 x9 : Int), (1 ≤ x7 ∧ x7 ≤ 1) → (0 ≤ x8 ∧ x8 ≤ 0) → (0 ≤ x9 ∧ x9 ≤ 0) → (1 - x8) * 38 + (1 - x9) * 12 + 2 < (nn : Int) → nW xs (e + 2) 154 152 [some (2, 112), some (0, m), some (2, 117), some (0, f), some (0, 0), some (1, s), none, some (0, x7), some (0, x8), some (0, x9), none, none] [] M (nPI fun z M1 => M = M1 ∧ (-1 ≤ z ∧ z ≤ 26) ∧ (z = -1 ∨ n_land (n_lshr s z) 1 = 0))) ∧ (∀ (x7 x8 : Int), (1 ≤ x7 ∧ x7 ≤ 1) → (0 ≤ x8 ∧ x8 ≤ 0) → (1 - x8) * 38 + 1 < (nn : Int) → nW xs (e + 2) 154 158 [some (2, 112), some (0, m), some (2, 117), some (0, f), some (0, 0), some (1, s), none, some (0, x7), some (0, x8), none, none, none] [] M (nPI fun z M1 => M = M1 ∧ (-1 ≤ z ∧ z ≤ 26) ∧ (z = -1 ∨ n_land (n_lshr s z) 1 = 0))) := by
  have hd : (2 : Int) = 2 ∨ (2 : Int) = 3 := by decide
  have hac := hS.2.2.2.2
  intro nn
  induction nn with
  | zero => refine ⟨?_, ?_, ?_, ?_, ?_, ?_, ?_, ?_⟩ <;> (intros; omega)
  | succ nn ih =>
    refine ⟨?_, ?_, ?_, ?_, ?_, ?_, ?_, ?_⟩
    · intro x7 x8 k7 k8 hnn
      refine n_iload c_154_14 rfl (n_iload c_154_16 rfl ?_)
      refine n_if2_ge c_154_18 (by omega) (by omega) ?_ ?_
      · intro h1
        refine n_iconst c_154_164 ?_
        exact n_rI c_154_165 rfl ⟨rfl, by omega, by first | omega | (refine Or.inr ?_; subst_vars; assumption)⟩
      · intro h2
        refine n_lload c_154_21 rfl (n_iload c_154_23 rfl (n_i_lshr c_154_25 rfl ?_))
        have f3 := n_lshr_r s x8
        generalize gz4 : (n_lshr s x8) = z4 at f3 ⊢
        refine n_lconst (n := 1) c_154_26 rfl (n_i_land c_154_27 rfl ?_)
        have f5 := n_land_r z4 1
        generalize gz6 : (n_land z4 1) = z6 at f5 ⊢
        refine n_lconst (n := 0) c_154_28 rfl (n_lcmp c_154_29 ?_)
        refine n_lif_ne c_154_30 (by omega) (by omega) ?_ ?_
        · intro h7
          refine n_iconst c_154_36 (n_istore (L2 := [some (2, 112), some (0, m), some (2, 117), some (0, f), some (0, 0), some (1, s), none, some (0, x7), some (0, x8), some (0, 0), none, none]) c_154_37 rfl rfl (n_fg (le_s (le_s (le_s (le_s (le_s (le_s (le_n (le_s (le_s (le_s (le_n (le_n le_0)))))))))))) ?_))
          exact ih.2.1 _ _ _ (by omega) (by omega) (by omega) (by omega)
        · intro h8
          refine n_goto c_154_33 (n_fg (le_s (le_s (le_s (le_s (le_s (le_s (le_n (le_s (le_s (le_n (le_n (le_n le_0)))))))))))) ?_)
          exact ih.2.2.2.2.2.2.2 _ _ (by omega) (by omega) (by omega)
    · intro x7 x8 x9 k7 k8 k9 hnn
      refine n_iload c_154_39 rfl (n_iload_n c_154_41 rfl (n_iconst c_154_42 ?_))
      refine n_if2_le c_154_43 (by omega) (by omega) ?_ ?_
      · intro h1
        refine n_iconst c_154_51 ?_
        refine n_if2_ge c_154_52 (by omega) (by omega) ?_ ?_
        · intro h2
          refine n_fg (le_s (le_s (le_s (le_s (le_s (le_s (le_n (le_s (le_s (le_n (le_n (le_n le_0)))))))))))) ?_
          exact ih.2.2.2.2.2.2.2 _ _ (by omega) (by omega) (by omega)
        · intro h3
          refine n_iload_n c_154_55 rfl (n_iconst c_154_56 ?_)
          refine n_if2_le c_154_57 (by omega) (by omega) ?_ ?_
          · intro h4
            refine n_fg (le_s (le_s (le_s (le_s (le_s (le_s (le_n (le_s (le_s (le_s (le_n (le_n le_0)))))))))))) ?_
            exact ih.2.2.1 _ _ _ (by omega) (by omega) (by omega) (by omega)
          · intro h5
            exfalso; omega
      · intro h6
        refine n_iload c_154_46 rfl (n_goto c_154_48 ?_)
        refine n_if2_ge c_154_52 (by omega) (by omega) ?_ ?_
        · intro h7
          refine n_fg (le_s (le_s (le_s (le_s (le_s (le_s (le_n (le_s (le_s (le_n (le_n (le_n le_0)))))))))))) ?_
          exact ih.2.2.2.2.2.2.2 _ _ (by omega) (by omega) (by omega)
        · intro h8
          refine n_iload_n c_154_55 rfl (n_iconst c_154_56 ?_)
          refine n_if2_le c_154_57 (by omega) (by omega) ?_ ?_
          · intro h9
            exfalso; omega
          · intro h10
            refine n_lload c_154_60 rfl (n_iload c_154_62 rfl (n_i_lshr c_154_64 rfl ?_))
            have f11 := n_lshr_r s x9
            generalize gz12 : (n_lshr s x9) = z12 at f11 ⊢
            refine n_lconst (n := 1) c_154_65 rfl (n_i_land c_154_66 rfl ?_)
            have f13 := n_land_r z12 1
            generalize gz14 : (n_land z12 1) = z14 at f13 ⊢
            refine n_lconst (n := 0) c_154_67 rfl (n_lcmp c_154_68 ?_)
            refine n_lif_ne c_154_69 (by omega) (by omega) ?_ ?_
            · intro h15
              refine n_fg (le_s (le_s (le_s (le_s (le_s (le_s (le_n (le_s (le_s (le_s (le_n (le_n le_0)))))))))))) ?_
              exact ih.2.2.1 _ _ _ (by omega) (by omega) (by omega) (by omega)
            · intro h16
              refine n_goto c_154_72 (n_fg (le_s (le_s (le_s (le_s (le_s (le_s (le_n (le_s (le_s (le_s (le_n (le_n le_0)))))))))))) ?_)
              exact ih.2.2.2.2.2.2.1 _ _ _ (by omega) (by omega) (by omega) (by omega)
    · intro x7 x8 x9 k7 k8 k9 hnn
      refine n_iconst c_154_75 (n_istore (L2 := [some (2, 112), some (0, m), some (2, 117), some (0, f), some (0, 0), some (1, s), none, some (0, x7), some (0, x8), some (0, x9), some (0, 0), none]) c_154_76 rfl rfl (n_fg (le_s (le_s (le_s (le_s (le_s (le_s (le_n (le_s (le_s (le_s (le_s (le_n le_0)))))))))))) ?_))
      exact ih.2.2.2.1 _ _ _ _ (by omega) (by omega) (by omega) (by omega) (by omega)
    · intro x7 x8 x9 x10 k7 k8 k9 k10 hnn
      refine n_iload c_154_78 rfl (n_iload_n c_154_80 rfl (n_iconst c_154_81 ?_))
      refine n_if2_le c_154_82 (by omega) (by omega) ?_ ?_
      · intro h1
        refine n_iconst c_154_90 ?_
        refine n_if2_ge c_154_91 (by omega) (by omega) ?_ ?_
        · intro h2
          refine n_fg (le_s (le_s (le_s (le_s (le_s (le_s (le_n (le_s (le_s (le_s (le_n (le_n le_0)))))))))))) ?_
          exact ih.2.2.2.2.2.2.1 _ _ _ (by omega) (by omega) (by omega) (by omega)
        · intro h3
          refine n_iload_n c_154_94 rfl (n_iconst c_154_95 ?_)
          refine n_if2_le c_154_96 (by omega) (by omega) ?_ ?_
          · intro h4
            refine n_fg (le_s (le_s (le_s (le_s (le_s (le_s (le_n (le_s (le_s (le_s (le_s (le_n le_0)))))))))))) ?_
            exact ih.2.2.2.2.1 _ _ _ _ (by omega) (by omega) (by omega) (by omega) (by omega)
          · intro h5
            exfalso; omega
      · intro h6
        refine n_iload c_154_85 rfl (n_goto c_154_87 ?_)
        refine n_if2_ge c_154_91 (by omega) (by omega) ?_ ?_
        · intro h7
          refine n_fg (le_s (le_s (le_s (le_s (le_s (le_s (le_n (le_s (le_s (le_s (le_n (le_n le_0)))))))))))) ?_
          exact ih.2.2.2.2.2.2.1 _ _ _ (by omega) (by omega) (by omega) (by omega)
        · intro h8
          refine n_iload_n c_154_94 rfl (n_iconst c_154_95 ?_)
          refine n_if2_le c_154_96 (by omega) (by omega) ?_ ?_
          · intro h9
            exfalso; omega
          · intro h10
            refine n_lload c_154_99 rfl (n_iload c_154_101 rfl (n_i_lshr c_154_103 rfl ?_))
            have f11 := n_lshr_r s x10
            generalize gz12 : (n_lshr s x10) = z12 at f11 ⊢
            refine n_lconst (n := 1) c_154_104 rfl (n_i_land c_154_105 rfl ?_)
            have f13 := n_land_r z12 1
            generalize gz14 : (n_land z12 1) = z14 at f13 ⊢
            refine n_lconst (n := 0) c_154_106 rfl (n_lcmp c_154_107 ?_)
            refine n_lif_ne c_154_108 (by omega) (by omega) ?_ ?_
            · intro h15
              refine n_fg (le_s (le_s (le_s (le_s (le_s (le_s (le_n (le_s (le_s (le_s (le_s (le_n le_0)))))))))))) ?_
              exact ih.2.2.2.2.1 _ _ _ _ (by omega) (by omega) (by omega) (by omega) (by omega)
            · intro h16
              refine n_goto c_154_111 (n_fg (le_s (le_s (le_s (le_s (le_s (le_s (le_n (le_s (le_s (le_s (le_s (le_n le_0)))))))))))) ?_)
              exact ih.2.2.2.2.2.1 _ _ _ _ (by omega) (by omega) (by omega) (by omega) (by omega)
    · intro x7 x8 x9 x10 k7 k8 k9 k10 hnn
      refine n_aload_n c_154_114 rfl (n_iload_n c_154_115 rfl (n_aload_n c_154_116 rfl (n_iload_n c_154_117 rfl (n_iload c_154_118 rfl (n_iload c_154_120 rfl (n_iload c_154_122 rfl (n_iload c_154_124 rfl (n_v7I c_154_126 rfl sc_112.n rfl rfl rfl rfl (imageT0_2 (m := m) (f := f) (x := x8) (y := x9) (z0 := x10) hS hdm (by omega) (by omega) (by omega) (by omega) (by omega)) ?_))))))))
      intro z1 M2 hP3
      obtain ⟨eM, f3⟩ := hP3
      subst eM
      refine n_istore (L2 := [some (2, 112), some (0, m), some (2, 117), some (0, f), some (0, 0), some (1, s), none, some (0, x7), some (0, x8), some (0, x9), some (0, x10), some (0, z1)]) c_154_129 rfl rfl (n_lload c_154_131 rfl (n_iload c_154_133 rfl (n_i_lshr c_154_135 rfl ?_)))
      have f4 := n_lshr_r s z1
      generalize gz5 : (n_lshr s z1) = z5 at f4 ⊢
      refine n_lconst (n := 1) c_154_136 rfl (n_i_land c_154_137 rfl ?_)
      have f6 := n_land_r z5 1
      generalize gz7 : (n_land z5 1) = z7 at f6 ⊢
      refine n_lconst (n := 0) c_154_138 rfl (n_lcmp c_154_139 ?_)
      refine n_lif_ne c_154_140 (by omega) (by omega) ?_ ?_
      · intro h8
        refine n_fg (le_s (le_s (le_s (le_s (le_s (le_s (le_n (le_s (le_s (le_s (le_s (le_n le_0)))))))))))) ?_
        exact ih.2.2.2.2.2.1 _ _ _ _ (by omega) (by omega) (by omega) (by omega) (by omega)
      · intro h9
        refine n_iload c_154_143 rfl ?_
        exact n_rI c_154_145 rfl ⟨rfl, by omega, by first | omega | (refine Or.inr ?_; subst_vars; assumption)⟩
    · intro x7 x8 x9 x10 k7 k8 k9 k10 hnn
      refine n_iinc (L2 := [some (2, 112), some (0, m), some (2, 117), some (0, f), some (0, 0), some (1, s), none, some (0, x7), some (0, x8), some (0, x9), some (0, (x10 + 1)), none]) c_154_146 rfl rfl rfl (n_goto c_154_149 (n_fg (le_s (le_s (le_s (le_s (le_s (le_s (le_n (le_s (le_s (le_s (le_s (le_n le_0)))))))))))) ?_))
      exact ih.2.2.2.1 _ _ _ _ (by omega) (by omega) (by omega) (by omega) (by omega)
    · intro x7 x8 x9 k7 k8 k9 hnn
      refine n_iinc (L2 := [some (2, 112), some (0, m), some (2, 117), some (0, f), some (0, 0), some (1, s), none, some (0, x7), some (0, x8), some (0, (x9 + 1)), none, none]) c_154_152 rfl rfl rfl (n_goto c_154_155 (n_fg (le_s (le_s (le_s (le_s (le_s (le_s (le_n (le_s (le_s (le_s (le_n (le_n le_0)))))))))))) ?_))
      exact ih.2.1 _ _ _ (by omega) (by omega) (by omega) (by omega)
    · intro x7 x8 k7 k8 hnn
      refine n_iinc (L2 := [some (2, 112), some (0, m), some (2, 117), some (0, f), some (0, 0), some (1, s), none, some (0, x7), some (0, (x8 + 1)), none, none, none]) c_154_158 rfl rfl rfl (n_goto c_154_161 (n_fg (le_s (le_s (le_s (le_s (le_s (le_s (le_n (le_s (le_s (le_n (le_n (le_n le_0)))))))))))) ?_))
      exact ih.1 _ _ (by omega) (by omega) (by omega)
set_option maxHeartbeats 4000000 in
theorem escapesT0_2 {xs : List Int32} {e : Nat} {ac : Int} {M0 M : nM} {m f s : Int} (hS : Sf 2 ac M0 M) (hdm : M0 112 0 = 2) (hm : 0 ≤ m ∧ m ≤ 3) (hf : 0 ≤ f ∧ f ≤ 189) (hs : -9223372036854775808 ≤ s ∧ s ≤ 9223372036854775807) : nW xs (e + 2) 154 0 [some (2, 112), some (0, m), some (2, 117), some (0, f), some (0, 0), some (1, s), none, none, none, none, none, none] [] M (nPI fun z M1 => M = M1 ∧ (-1 ≤ z ∧ z ≤ 26) ∧ (z = -1 ∨ n_land (n_lshr s z) 1 = 0)) := by
  have hd : (2 : Int) = 2 ∨ (2 : Int) = 3 := by decide
  have hac := hS.2.2.2.2
  refine n_aload_n c_154_0 rfl (n_getV (bi := 0) c_154_1 sc_112.n rfl rfl rfl (t_dm hS hdm) ?_)
  intro z1 ez1 f2
  obtain rfl : z1 = 2 := by omega
  refine n_iload c_154_4 rfl (n_s2I c_154_6 rfl rfl rfl rfl (mpower0_2  hS ) ?_)
  intro z3 M4 hP5
  obtain ⟨eM, f5⟩ := hP5
  subst eM
  obtain rfl : z3 = 1 := by omega
  refine n_istore (L2 := [some (2, 112), some (0, m), some (2, 117), some (0, f), some (0, 0), some (1, s), none, some (0, 1), none, none, none, none]) c_154_9 rfl rfl (n_iconst c_154_11 (n_istore (L2 := [some (2, 112), some (0, m), some (2, 117), some (0, f), some (0, 0), some (1, s), none, some (0, 1), some (0, 0), none, none, none]) c_154_12 rfl rfl (n_fg (le_s (le_s (le_s (le_s (le_s (le_s (le_n (le_s (le_s (le_n (le_n (le_n le_0)))))))))))) ?_)))
  exact (escapesT0_2_c hS hdm hm hf hs 238).1 _ _ (by omega) (by omega) (by omega)

set_option maxHeartbeats 4000000 in
theorem escapesT1_2_c {xs : List Int32} {e : Nat} {ac : Int} {M0 M : nM} {m f s : Int} (hS : Sf 2 ac M0 M) (hdm : M0 112 0 = 2) (hm : 0 ≤ m ∧ m ≤ 3) (hf : 0 ≤ f ∧ f ≤ 189) (hs : -9223372036854775808 ≤ s ∧ s ≤ 9223372036854775807) : ∀ nn : Nat, (∀ (x7 x8 : Int), (2 ≤ x7 ∧ x7 ≤ 2) → (0 ≤ x8 ∧ x8 ≤ 2) → (2 - x8) * 62 + 62 < (nn : Int) → nW xs (e + 2) 154 14 [some (2, 112), some (0, m), some (2, 117), some (0, f), some (0, 1), some (1, s), none, some (0, x7), some (0, x8), none, none, none] [] M (nPI fun z M1 => M = M1 ∧ (-1 ≤ z ∧ z ≤ 26) ∧ (z = -1 ∨ n_land (n_lshr s z) 1 = 0))) ∧ (∀ (x7 x8 x9 : Int), (2 ≤ x7 ∧ x7 ≤ 2) → (0 ≤ x8 ∧ x8 ≤ 1) → (0 ≤ x9 ∧ x9 ≤ 2) → (2 - x8) * 62 + (2 - x9) * 15 + 16 < (nn : Int) → nW xs (e + 2) 154 39 [some (2, 112), some (0, m), some (2, 117), some (0, f), some (0, 1), some (1, s), none, some (0, x7), some (0, x8), some (0, x9), none, none] [] M (nPI fun z M1 => M = M1 ∧ (-1 ≤ z ∧ z ≤ 26) ∧ (z = -1 ∨ n_land (n_lshr s z) 1 = 0))) ∧ (∀ (x7 x8 x9 : Int), (2 ≤ x7 ∧ x7 ≤ 2) → (0 ≤ x8 ∧ x8 ≤ 1) → (0 ≤ x9 ∧ x9 ≤ 1) → (2 - x8) * 62 + (2 - x9) * 15 + 15 < (nn : Int) → nW xs (e + 2) 154 75 [some (2, 112), some (0, m), some (2, 117), some (0, f), some (0, 1), some (1, s), none, some (0, x7), some (0, x8), some (0, x9), none, none] [] M (nPI fun z M1 => M = M1 ∧ (-1 ≤ z ∧ z ≤ 26) ∧ (z = -1 ∨ n_land (n_lshr s z) 1 = 0))) ∧ (∀ (x7 x8 x9 x10 : Int), (2 ≤ x7 ∧ x7 ≤ 2) → (0 ≤ x8 ∧ x8 ≤ 1) → (0 ≤ x9 ∧ x9 ≤ 1) → (0 ≤ x10 ∧ x10 ≤ 2) → (2 - x8) * 62 + (2 - x9) * 15 + (2 - x10) * 3 + 5 < (nn : Int) → nW xs (e + 2) 154 78 [some (2, 112), some (0, m), some (2, 117), some (0, f), some (0, 1), some (1, s), none, some (0, x7), some (0, x8), some (0, x9), some (0, x10), none] [] M (nPI fun z M1 => M = M1 ∧ (-1 ≤ z ∧ z ≤ 26) ∧ (z = -1 ∨ n_land (n_lshr s z) 1 = 0))) ∧ (∀ (x7 x8 x9 x10 : Int), (2 ≤ x7 ∧ x7 ≤ 2) → (0 ≤ x8 ∧ x8 ≤ 1) → (0 ≤ x9 ∧ x9 ≤ 1) → (0 ≤ x10 ∧ x10 ≤ 1) → (2 - x8) * 62 + (2 - x9) * 15 + (2 - x10) * 3 + 4 < (nn : Int) → nW xs (e + 2) 154 114 [some (2, 112), some (0, m), some (2, 117), some (0, f), some (0, 1), some (1, s), none, some (0, x7), some (0, x8), some (0, x9), some (0, x10), none] [] M (nPI fun z M1 => M = M1 ∧ (-1 ≤ z ∧ z ≤ 26) ∧ (z = -1 ∨ n_land (n_lshr s z) 1 = 0))) ∧ (∀ (x7 x8 x9 x10 : Int), (2 ≤ x7 ∧ x7 ≤ 2) → (0 ≤ x8 ∧ x8 ≤ 1) → (0 ≤ x9 ∧ x9 ≤ 1) → (0 ≤ x10 ∧ x10 ≤ 1) → (2 - x8) * 62 + (2 - x9) * 15 + (2 - x10) * 3 + 3 < (nn : Int) → nW xs (e + 2) 154 146 [some (2, 112), some (0, m), some (2, 117), some (0, f), some (0, 1), some (1, s), none, some (0, x7), some (0, x8), some (0, x9), some (0, x10), none] [] M (nPI fun z M1 => M = M1 ∧ (-1 ≤ z ∧ z ≤ 26) ∧ (z = -1 ∨ n_land (n_lshr s z) 1 = 0))) ∧ (∀ (x7 x8 x9 : Int), (2 ≤ x7 ∧ x7 ≤ 2) → (0 ≤ x8 ∧ x8 ≤ 1) → (0 ≤ x9 ∧ x9 ≤ 1) → (2 - x8) * 62 + (2 - x9) * 15 + 2 < (nn : Int) → nW xs (e + 2) 154 152 [some (2, 112), some (0, m), some (2, 117), some (0, f), some (0, 1), some (1, s), none, some (0, x7), some (0, x8), some (0, x9), none, none] [] M (nPI fun z M1 => M = M1 ∧ (-1 ≤ z ∧ z ≤ 26) ∧ (z = -1 ∨ n_land (n_lshr s z) 1 = 0))) ∧ (∀ (x7 x8 : Int), (2 ≤ x7 ∧ x7 ≤ 2) → (0 ≤ x8 ∧ x8 ≤ 1) → (2 - x8) * 62 + 1 < (nn : Int) → nW xs (e + 2) 154 158 [some (2, 112), some (0, m), some (2, 117), some (0, f), some (0, 1), some (1, s), none, some (0, x7), some (0, x8), none, none, none] [] M (nPI fun z M1 => M = M1 ∧ (-1 ≤ z ∧ z ≤ 26) ∧ (z = -1 ∨ n_land (n_lshr s z) 1 = 0))) := by
  have hd : (2 : Int) = 2 ∨ (2 : Int) = 3 := by decide
  have hac := hS.2.2.2.2
  intro nn
  induction nn with
  | zero => refine ⟨?_, ?_, ?_, ?_, ?_, ?_, ?_, ?_⟩ <;> (intros; omega)
  | succ nn ih =>
    refine ⟨?_, ?_, ?_, ?_, ?_, ?_, ?_, ?_⟩
    · intro x7 x8 k7 k8 hnn
      refine n_iload c_154_14 rfl (n_iload c_154_16 rfl ?_)
      refine n_if2_ge c_154_18 (by omega) (by omega) ?_ ?_
      · intro h1
        refine n_iconst c_154_164 ?_
        exact n_rI c_154_165 rfl ⟨rfl, by omega, by first | omega | (refine Or.inr ?_; subst_vars; assumption)⟩
      · intro h2
        refine n_lload c_154_21 rfl (n_iload c_154_23 rfl (n_i_lshr c_154_25 rfl ?_))
        have f3 := n_lshr_r s x8
        generalize gz4 : (n_lshr s x8) = z4 at f3 ⊢
        refine n_lconst (n := 1) c_154_26 rfl (n_i_land c_154_27 rfl ?_)
        have f5 := n_land_r z4 1
        generalize gz6 : (n_land z4 1) = z6 at f5 ⊢
        refine n_lconst (n := 0) c_154_28 rfl (n_lcmp c_154_29 ?_)
        refine n_lif_ne c_154_30 (by omega) (by omega) ?_ ?_
        · intro h7
          refine n_iconst c_154_36 (n_istore (L2 := [some (2, 112), some (0, m), some (2, 117), some (0, f), some (0, 1), some (1, s), none, some (0, x7), some (0, x8), some (0, 0), none, none]) c_154_37 rfl rfl (n_fg (le_s (le_s (le_s (le_s (le_s (le_s (le_n (le_s (le_s (le_s (le_n (le_n le_0)))))))))))) ?_))
          exact ih.2.1 _ _ _ (by omega) (by omega) (by omega) (by omega)
        · intro h8
          refine n_goto c_154_33 (n_fg (le_s (le_s (le_s (le_s (le_s (le_s (le_n (le_s (le_s (le_n (le_n (le_n le_0)))))))))))) ?_)
          exact ih.2.2.2.2.2.2.2 _ _ (by omega) (by omega) (by omega)
    · intro x7 x8 x9 k7 k8 k9 hnn
      refine n_iload c_154_39 rfl (n_iload_n c_154_41 rfl (n_iconst c_154_42 ?_))
      refine n_if2_le c_154_43 (by omega) (by omega) ?_ ?_
      · intro h1
        refine n_iconst c_154_51 ?_
        refine n_if2_ge c_154_52 (by omega) (by omega) ?_ ?_
        · intro h2
          refine n_fg (le_s (le_s (le_s (le_s (le_s (le_s (le_n (le_s (le_s (le_n (le_n (le_n le_0)))))))))))) ?_
          exact ih.2.2.2.2.2.2.2 _ _ (by omega) (by omega) (by omega)
        · intro h3
          refine n_iload_n c_154_55 rfl (n_iconst c_154_56 ?_)
          refine n_if2_le c_154_57 (by omega) (by omega) ?_ ?_
          · intro h4
            refine n_fg (le_s (le_s (le_s (le_s (le_s (le_s (le_n (le_s (le_s (le_s (le_n (le_n le_0)))))))))))) ?_
            exact ih.2.2.1 _ _ _ (by omega) (by omega) (by omega) (by omega)
          · intro h5
            exfalso; omega
      · intro h6
        refine n_iload c_154_46 rfl (n_goto c_154_48 ?_)
        refine n_if2_ge c_154_52 (by omega) (by omega) ?_ ?_
        · intro h7
          refine n_fg (le_s (le_s (le_s (le_s (le_s (le_s (le_n (le_s (le_s (le_n (le_n (le_n le_0)))))))))))) ?_
          exact ih.2.2.2.2.2.2.2 _ _ (by omega) (by omega) (by omega)
        · intro h8
          refine n_iload_n c_154_55 rfl (n_iconst c_154_56 ?_)
          refine n_if2_le c_154_57 (by omega) (by omega) ?_ ?_
          · intro h9
            exfalso; omega
          · intro h10
            refine n_lload c_154_60 rfl (n_iload c_154_62 rfl (n_i_lshr c_154_64 rfl ?_))
            have f11 := n_lshr_r s x9
            generalize gz12 : (n_lshr s x9) = z12 at f11 ⊢
            refine n_lconst (n := 1) c_154_65 rfl (n_i_land c_154_66 rfl ?_)
            have f13 := n_land_r z12 1
            generalize gz14 : (n_land z12 1) = z14 at f13 ⊢
            refine n_lconst (n := 0) c_154_67 rfl (n_lcmp c_154_68 ?_)
            refine n_lif_ne c_154_69 (by omega) (by omega) ?_ ?_
            · intro h15
              refine n_fg (le_s (le_s (le_s (le_s (le_s (le_s (le_n (le_s (le_s (le_s (le_n (le_n le_0)))))))))))) ?_
              exact ih.2.2.1 _ _ _ (by omega) (by omega) (by omega) (by omega)
            · intro h16
              refine n_goto c_154_72 (n_fg (le_s (le_s (le_s (le_s (le_s (le_s (le_n (le_s (le_s (le_s (le_n (le_n le_0)))))))))))) ?_)
              exact ih.2.2.2.2.2.2.1 _ _ _ (by omega) (by omega) (by omega) (by omega)
    · intro x7 x8 x9 k7 k8 k9 hnn
      refine n_iconst c_154_75 (n_istore (L2 := [some (2, 112), some (0, m), some (2, 117), some (0, f), some (0, 1), some (1, s), none, some (0, x7), some (0, x8), some (0, x9), some (0, 0), none]) c_154_76 rfl rfl (n_fg (le_s (le_s (le_s (le_s (le_s (le_s (le_n (le_s (le_s (le_s (le_s (le_n le_0)))))))))))) ?_))
      exact ih.2.2.2.1 _ _ _ _ (by omega) (by omega) (by omega) (by omega) (by omega)
    · intro x7 x8 x9 x10 k7 k8 k9 k10 hnn
      refine n_iload c_154_78 rfl (n_iload_n c_154_80 rfl (n_iconst c_154_81 ?_))
      refine n_if2_le c_154_82 (by omega) (by omega) ?_ ?_
      · intro h1
        refine n_iconst c_154_90 ?_
        refine n_if2_ge c_154_91 (by omega) (by omega) ?_ ?_
        · intro h2
          refine n_fg (le_s (le_s (le_s (le_s (le_s (le_s (le_n (le_s (le_s (le_s (le_n (le_n le_0)))))))))))) ?_
          exact ih.2.2.2.2.2.2.1 _ _ _ (by omega) (by omega) (by omega) (by omega)
        · intro h3
          refine n_iload_n c_154_94 rfl (n_iconst c_154_95 ?_)
          refine n_if2_le c_154_96 (by omega) (by omega) ?_ ?_
          · intro h4
            refine n_fg (le_s (le_s (le_s (le_s (le_s (le_s (le_n (le_s (le_s (le_s (le_s (le_n le_0)))))))))))) ?_
            exact ih.2.2.2.2.1 _ _ _ _ (by omega) (by omega) (by omega) (by omega) (by omega)
          · intro h5
            exfalso; omega
      · intro h6
        refine n_iload c_154_85 rfl (n_goto c_154_87 ?_)
        refine n_if2_ge c_154_91 (by omega) (by omega) ?_ ?_
        · intro h7
          refine n_fg (le_s (le_s (le_s (le_s (le_s (le_s (le_n (le_s (le_s (le_s (le_n (le_n le_0)))))))))))) ?_
          exact ih.2.2.2.2.2.2.1 _ _ _ (by omega) (by omega) (by omega) (by omega)
        · intro h8
          refine n_iload_n c_154_94 rfl (n_iconst c_154_95 ?_)
          refine n_if2_le c_154_96 (by omega) (by omega) ?_ ?_
          · intro h9
            exfalso; omega
          · intro h10
            refine n_lload c_154_99 rfl (n_iload c_154_101 rfl (n_i_lshr c_154_103 rfl ?_))
            have f11 := n_lshr_r s x10
            generalize gz12 : (n_lshr s x10) = z12 at f11 ⊢
            refine n_lconst (n := 1) c_154_104 rfl (n_i_land c_154_105 rfl ?_)
            have f13 := n_land_r z12 1
            generalize gz14 : (n_land z12 1) = z14 at f13 ⊢
            refine n_lconst (n := 0) c_154_106 rfl (n_lcmp c_154_107 ?_)
            refine n_lif_ne c_154_108 (by omega) (by omega) ?_ ?_
            · intro h15
              refine n_fg (le_s (le_s (le_s (le_s (le_s (le_s (le_n (le_s (le_s (le_s (le_s (le_n le_0)))))))))))) ?_
              exact ih.2.2.2.2.1 _ _ _ _ (by omega) (by omega) (by omega) (by omega) (by omega)
            · intro h16
              refine n_goto c_154_111 (n_fg (le_s (le_s (le_s (le_s (le_s (le_s (le_n (le_s (le_s (le_s (le_s (le_n le_0)))))))))))) ?_)
              exact ih.2.2.2.2.2.1 _ _ _ _ (by omega) (by omega) (by omega) (by omega) (by omega)
    · intro x7 x8 x9 x10 k7 k8 k9 k10 hnn
      refine n_aload_n c_154_114 rfl (n_iload_n c_154_115 rfl (n_aload_n c_154_116 rfl (n_iload_n c_154_117 rfl (n_iload c_154_118 rfl (n_iload c_154_120 rfl (n_iload c_154_122 rfl (n_iload c_154_124 rfl (n_v7I c_154_126 rfl sc_112.n rfl rfl rfl rfl (imageT1_2 (m := m) (f := f) (x := x8) (y := x9) (z0 := x10) hS hdm (by omega) (by omega) (by omega) (by omega) (by omega)) ?_))))))))
      intro z1 M2 hP3
      obtain ⟨eM, f3⟩ := hP3
      subst eM
      refine n_istore (L2 := [some (2, 112), some (0, m), some (2, 117), some (0, f), some (0, 1), some (1, s), none, some (0, x7), some (0, x8), some (0, x9), some (0, x10), some (0, z1)]) c_154_129 rfl rfl (n_lload c_154_131 rfl (n_iload c_154_133 rfl (n_i_lshr c_154_135 rfl ?_)))
      have f4 := n_lshr_r s z1
      generalize gz5 : (n_lshr s z1) = z5 at f4 ⊢
      refine n_lconst (n := 1) c_154_136 rfl (n_i_land c_154_137 rfl ?_)
      have f6 := n_land_r z5 1
      generalize gz7 : (n_land z5 1) = z7 at f6 ⊢
      refine n_lconst (n := 0) c_154_138 rfl (n_lcmp c_154_139 ?_)
      refine n_lif_ne c_154_140 (by omega) (by omega) ?_ ?_
      · intro h8
        refine n_fg (le_s (le_s (le_s (le_s (le_s (le_s (le_n (le_s (le_s (le_s (le_s (le_n le_0)))))))))))) ?_
        exact ih.2.2.2.2.2.1 _ _ _ _ (by omega) (by omega) (by omega) (by omega) (by omega)
      · intro h9
        refine n_iload c_154_143 rfl ?_
        exact n_rI c_154_145 rfl ⟨rfl, by omega, by first | omega | (refine Or.inr ?_; subst_vars; assumption)⟩
    · intro x7 x8 x9 x10 k7 k8 k9 k10 hnn
      refine n_iinc (L2 := [some (2, 112), some (0, m), some (2, 117), some (0, f), some (0, 1), some (1, s), none, some (0, x7), some (0, x8), some (0, x9), some (0, (x10 + 1)), none]) c_154_146 rfl rfl rfl (n_goto c_154_149 (n_fg (le_s (le_s (le_s (le_s (le_s (le_s (le_n (le_s (le_s (le_s (le_s (le_n le_0)))))))))))) ?_))
      exact ih.2.2.2.1 _ _ _ _ (by omega) (by omega) (by omega) (by omega) (by omega)
    · intro x7 x8 x9 k7 k8 k9 hnn
      refine n_iinc (L2 := [some (2, 112), some (0, m), some (2, 117), some (0, f), some (0, 1), some (1, s), none, some (0, x7), some (0, x8), some (0, (x9 + 1)), none, none]) c_154_152 rfl rfl rfl (n_goto c_154_155 (n_fg (le_s (le_s (le_s (le_s (le_s (le_s (le_n (le_s (le_s (le_s (le_n (le_n le_0)))))))))))) ?_))
      exact ih.2.1 _ _ _ (by omega) (by omega) (by omega) (by omega)
    · intro x7 x8 k7 k8 hnn
      refine n_iinc (L2 := [some (2, 112), some (0, m), some (2, 117), some (0, f), some (0, 1), some (1, s), none, some (0, x7), some (0, (x8 + 1)), none, none, none]) c_154_158 rfl rfl rfl (n_goto c_154_161 (n_fg (le_s (le_s (le_s (le_s (le_s (le_s (le_n (le_s (le_s (le_n (le_n (le_n le_0)))))))))))) ?_))
      exact ih.1 _ _ (by omega) (by omega) (by omega)
set_option maxHeartbeats 4000000 in
theorem escapesT1_2 {xs : List Int32} {e : Nat} {ac : Int} {M0 M : nM} {m f s : Int} (hS : Sf 2 ac M0 M) (hdm : M0 112 0 = 2) (hm : 0 ≤ m ∧ m ≤ 3) (hf : 0 ≤ f ∧ f ≤ 189) (hs : -9223372036854775808 ≤ s ∧ s ≤ 9223372036854775807) : nW xs (e + 2) 154 0 [some (2, 112), some (0, m), some (2, 117), some (0, f), some (0, 1), some (1, s), none, none, none, none, none, none] [] M (nPI fun z M1 => M = M1 ∧ (-1 ≤ z ∧ z ≤ 26) ∧ (z = -1 ∨ n_land (n_lshr s z) 1 = 0)) := by
  have hd : (2 : Int) = 2 ∨ (2 : Int) = 3 := by decide
  have hac := hS.2.2.2.2
  refine n_aload_n c_154_0 rfl (n_getV (bi := 0) c_154_1 sc_112.n rfl rfl rfl (t_dm hS hdm) ?_)
  intro z1 ez1 f2
  obtain rfl : z1 = 2 := by omega
  refine n_iload c_154_4 rfl (n_s2I c_154_6 rfl rfl rfl rfl (mpower1_2  hS ) ?_)
  intro z3 M4 hP5
  obtain ⟨eM, f5⟩ := hP5
  subst eM
  obtain rfl : z3 = 2 := by omega
  refine n_istore (L2 := [some (2, 112), some (0, m), some (2, 117), some (0, f), some (0, 1), some (1, s), none, some (0, 2), none, none, none, none]) c_154_9 rfl rfl (n_iconst c_154_11 (n_istore (L2 := [some (2, 112), some (0, m), some (2, 117), some (0, f), some (0, 1), some (1, s), none, some (0, 2), some (0, 0), none, none, none]) c_154_12 rfl rfl (n_fg (le_s (le_s (le_s (le_s (le_s (le_s (le_n (le_s (le_s (le_n (le_n (le_n le_0)))))))))))) ?_)))
  exact (escapesT1_2_c hS hdm hm hf hs 506).1 _ _ (by omega) (by omega) (by omega)

set_option maxHeartbeats 4000000 in
theorem escapesT2_2_c {xs : List Int32} {e : Nat} {ac : Int} {M0 M : nM} {m f s : Int} (hS : Sf 2 ac M0 M) (hdm : M0 112 0 = 2) (hm : 0 ≤ m ∧ m ≤ 3) (hf : 0 ≤ f ∧ f ≤ 189) (hs : -9223372036854775808 ≤ s ∧ s ≤ 9223372036854775807) : ∀ nn : Nat, (∀ (x7 x8 : Int), (4 ≤ x7 ∧ x7 ≤ 4) → (0 ≤ x8 ∧ x8 ≤ 4) → (4 - x8) * 128 + 128 < (nn : Int) → nW xs (e + 2) 154 14 [some (2, 112), some (0, m), some (2, 117), some (0, f), some (0, 2), some (1, s), none, some (0, x7), some (0, x8), none, none, none] [] M (nPI fun z M1 => M = M1 ∧ (-1 ≤ z ∧ z ≤ 26) ∧ (z = -1 ∨ n_land (n_lshr s z) 1 = 0))) ∧ (∀ (x7 x8 x9 : Int), (4 ≤ x7 ∧ x7 ≤ 4) → (0 ≤ x8 ∧ x8 ≤ 3) → (0 ≤ x9 ∧ x9 ≤ 4) → (4 - x8) * 128 + (4 - x9) * 21 + 22 < (nn : Int) → nW xs (e + 2) 154 39 [some (2, 112), some (0, m), some (2, 117), some (0, f), some (0, 2), some (1, s), none, some (0, x7), some (0, x8), some (0, x9), none, none] [] M (nPI fun z M1 => M = M1 ∧ (-1 ≤ z ∧ z ≤ 26) ∧ (z = -1 ∨ n_land (n_lshr s z) 1 = 0))) ∧ (∀ (x7 x8 x9 : Int), (4 ≤ x7 ∧ x7 ≤ 4) → (0 ≤ x8 ∧ x8 ≤ 3) → (0 ≤ x9 ∧ x9 ≤ 3) → (4 - x8) * 128 + (4 - x9) * 21 + 21 < (nn : Int) → nW xs (e + 2) 154 75 [some (2, 112), some (0, m), some (2, 117), some (0, f), some (0, 2), some (1, s), none, some (0, x7), some (0, x8), some (0, x9), none, none] [] M (nPI fun z M1 => M = M1 ∧ (-1 ≤ z ∧ z ≤ 26) ∧ (z = -1 ∨ n_land (n_lshr s z) 1 = 0))) ∧ (∀ (x7 x8 x9 x10 : Int), (4 ≤ x7 ∧ x7 ≤ 4) → (0 ≤ x8 ∧ x8 ≤ 3) → (0 ≤ x9 ∧ x9 ≤ 3) → (0 ≤ x10 ∧ x10 ≤ 4) → (4 - x8) * 128 + (4 - x9) * 21 + (4 - x10) * 3 + 5 < (nn : Int) → nW xs (e + 2) 154 78 [some (2, 112), some (0, m), some (2, 117), some (0, f), some (0, 2), some (1, s), none, some (0, x7), some (0, x8), some (0, x9), some (0, x10), none] [] M (nPI fun z M1 => M = M1 ∧ (-1 ≤ z ∧ z ≤ 26) ∧ (z = -1 ∨ n_land (n_lshr s z) 1 = 0))) ∧ (∀ (x7 x8 x9 x10 : Int), (4 ≤ x7 ∧ x7 ≤ 4) → (0 ≤ x8 ∧ x8 ≤ 3) → (0 ≤ x9 ∧ x9 ≤ 3) → (0 ≤ x10 ∧ x10 ≤ 3) → (4 - x8) * 128 + (4 - x9) * 21 + (4 - x10) * 3 + 4 < (nn : Int) → nW xs (e + 2) 154 114 [some (2, 112), some (0, m), some (2, 117), some (0, f), some (0, 2), some (1, s), none, some (0, x7), some (0, x8), some (0, x9), some (0, x10), none] [] M (nPI fun z M1 => M = M1 ∧ (-1 ≤ z ∧ z ≤ 26) ∧ (z = -1 ∨ n_land (n_lshr s z) 1 = 0))) ∧ (∀ (x7 x8 x9 x10 : Int), (4 ≤ x7 ∧ x7 ≤ 4) → (0 ≤ x8 ∧ x8 ≤ 3) → (0 ≤ x9 ∧ x9 ≤ 3) → (0 ≤ x10 ∧ x10 ≤ 3) → (4 - x8) * 128 + (4 - x9) * 21 + (4 - x10) * 3 + 3 < (nn : Int) → nW xs (e + 2) 154 146 [some (2, 112), some (0, m), some (2, 117), some (0, f), some (0, 2), some (1, s), none, some (0, x7), some (0, x8), some (0, x9), some (0, x10), none] [] M (nPI fun z M1 => M = M1 ∧ (-1 ≤ z ∧ z ≤ 26) ∧ (z = -1 ∨ n_land (n_lshr s z) 1 = 0))) ∧ (∀ (x7 x8 x9 : Int), (4 ≤ x7 ∧ x7 ≤ 4) → (0 ≤ x8 ∧ x8 ≤ 3) → (0 ≤ x9 ∧ x9 ≤ 3) → (4 - x8) * 128 + (4 - x9) * 21 + 2 < (nn : Int) → nW xs (e + 2) 154 152 [some (2, 112), some (0, m), some (2, 117), some (0, f), some (0, 2), some (1, s), none, some (0, x7), some (0, x8), some (0, x9), none, none] [] M (nPI fun z M1 => M = M1 ∧ (-1 ≤ z ∧ z ≤ 26) ∧ (z = -1 ∨ n_land (n_lshr s z) 1 = 0))) ∧ (∀ (x7 x8 : Int), (4 ≤ x7 ∧ x7 ≤ 4) → (0 ≤ x8 ∧ x8 ≤ 3) → (4 - x8) * 128 + 1 < (nn : Int) → nW xs (e + 2) 154 158 [some (2, 112), some (0, m), some (2, 117), some (0, f), some (0, 2), some (1, s), none, some (0, x7), some (0, x8), none, none, none] [] M (nPI fun z M1 => M = M1 ∧ (-1 ≤ z ∧ z ≤ 26) ∧ (z = -1 ∨ n_land (n_lshr s z) 1 = 0))) := by
  have hd : (2 : Int) = 2 ∨ (2 : Int) = 3 := by decide
  have hac := hS.2.2.2.2
  intro nn
  induction nn with
  | zero => refine ⟨?_, ?_, ?_, ?_, ?_, ?_, ?_, ?_⟩ <;> (intros; omega)
  | succ nn ih =>
    refine ⟨?_, ?_, ?_, ?_, ?_, ?_, ?_, ?_⟩
    · intro x7 x8 k7 k8 hnn
      refine n_iload c_154_14 rfl (n_iload c_154_16 rfl ?_)
      refine n_if2_ge c_154_18 (by omega) (by omega) ?_ ?_
      · intro h1
        refine n_iconst c_154_164 ?_
        exact n_rI c_154_165 rfl ⟨rfl, by omega, by first | omega | (refine Or.inr ?_; subst_vars; assumption)⟩
      · intro h2
        refine n_lload c_154_21 rfl (n_iload c_154_23 rfl (n_i_lshr c_154_25 rfl ?_))
        have f3 := n_lshr_r s x8
        generalize gz4 : (n_lshr s x8) = z4 at f3 ⊢
        refine n_lconst (n := 1) c_154_26 rfl (n_i_land c_154_27 rfl ?_)
        have f5 := n_land_r z4 1
        generalize gz6 : (n_land z4 1) = z6 at f5 ⊢
        refine n_lconst (n := 0) c_154_28 rfl (n_lcmp c_154_29 ?_)
        refine n_lif_ne c_154_30 (by omega) (by omega) ?_ ?_
        · intro h7
          refine n_iconst c_154_36 (n_istore (L2 := [some (2, 112), some (0, m), some (2, 117), some (0, f), some (0, 2), some (1, s), none, some (0, x7), some (0, x8), some (0, 0), none, none]) c_154_37 rfl rfl (n_fg (le_s (le_s (le_s (le_s (le_s (le_s (le_n (le_s (le_s (le_s (le_n (le_n le_0)))))))))))) ?_))
          exact ih.2.1 _ _ _ (by omega) (by omega) (by omega) (by omega)
        · intro h8
          refine n_goto c_154_33 (n_fg (le_s (le_s (le_s (le_s (le_s (le_s (le_n (le_s (le_s (le_n (le_n (le_n le_0)))))))))))) ?_)
          exact ih.2.2.2.2.2.2.2 _ _ (by omega) (by omega) (by omega)
    · intro x7 x8 x9 k7 k8 k9 hnn
      refine n_iload c_154_39 rfl (n_iload_n c_154_41 rfl (n_iconst c_154_42 ?_))
      refine n_if2_le c_154_43 (by omega) (by omega) ?_ ?_
      · intro h1
        refine n_iconst c_154_51 ?_
        refine n_if2_ge c_154_52 (by omega) (by omega) ?_ ?_
        · intro h2
          refine n_fg (le_s (le_s (le_s (le_s (le_s (le_s (le_n (le_s (le_s (le_n (le_n (le_n le_0)))))))))))) ?_
          exact ih.2.2.2.2.2.2.2 _ _ (by omega) (by omega) (by omega)
        · intro h3
          refine n_iload_n c_154_55 rfl (n_iconst c_154_56 ?_)
          refine n_if2_le c_154_57 (by omega) (by omega) ?_ ?_
          · intro h4
            refine n_fg (le_s (le_s (le_s (le_s (le_s (le_s (le_n (le_s (le_s (le_s (le_n (le_n le_0)))))))))))) ?_
            exact ih.2.2.1 _ _ _ (by omega) (by omega) (by omega) (by omega)
          · intro h5
            exfalso; omega
      · intro h6
        refine n_iload c_154_46 rfl (n_goto c_154_48 ?_)
        refine n_if2_ge c_154_52 (by omega) (by omega) ?_ ?_
        · intro h7
          refine n_fg (le_s (le_s (le_s (le_s (le_s (le_s (le_n (le_s (le_s (le_n (le_n (le_n le_0)))))))))))) ?_
          exact ih.2.2.2.2.2.2.2 _ _ (by omega) (by omega) (by omega)
        · intro h8
          refine n_iload_n c_154_55 rfl (n_iconst c_154_56 ?_)
          refine n_if2_le c_154_57 (by omega) (by omega) ?_ ?_
          · intro h9
            exfalso; omega
          · intro h10
            refine n_lload c_154_60 rfl (n_iload c_154_62 rfl (n_i_lshr c_154_64 rfl ?_))
            have f11 := n_lshr_r s x9
            generalize gz12 : (n_lshr s x9) = z12 at f11 ⊢
            refine n_lconst (n := 1) c_154_65 rfl (n_i_land c_154_66 rfl ?_)
            have f13 := n_land_r z12 1
            generalize gz14 : (n_land z12 1) = z14 at f13 ⊢
            refine n_lconst (n := 0) c_154_67 rfl (n_lcmp c_154_68 ?_)
            refine n_lif_ne c_154_69 (by omega) (by omega) ?_ ?_
            · intro h15
              refine n_fg (le_s (le_s (le_s (le_s (le_s (le_s (le_n (le_s (le_s (le_s (le_n (le_n le_0)))))))))))) ?_
              exact ih.2.2.1 _ _ _ (by omega) (by omega) (by omega) (by omega)
            · intro h16
              refine n_goto c_154_72 (n_fg (le_s (le_s (le_s (le_s (le_s (le_s (le_n (le_s (le_s (le_s (le_n (le_n le_0)))))))))))) ?_)
              exact ih.2.2.2.2.2.2.1 _ _ _ (by omega) (by omega) (by omega) (by omega)
    · intro x7 x8 x9 k7 k8 k9 hnn
      refine n_iconst c_154_75 (n_istore (L2 := [some (2, 112), some (0, m), some (2, 117), some (0, f), some (0, 2), some (1, s), none, some (0, x7), some (0, x8), some (0, x9), some (0, 0), none]) c_154_76 rfl rfl (n_fg (le_s (le_s (le_s (le_s (le_s (le_s (le_n (le_s (le_s (le_s (le_s (le_n le_0)))))))))))) ?_))
      exact ih.2.2.2.1 _ _ _ _ (by omega) (by omega) (by omega) (by omega) (by omega)
    · intro x7 x8 x9 x10 k7 k8 k9 k10 hnn
      refine n_iload c_154_78 rfl (n_iload_n c_154_80 rfl (n_iconst c_154_81 ?_))
      refine n_if2_le c_154_82 (by omega) (by omega) ?_ ?_
      · intro h1
        refine n_iconst c_154_90 ?_
        refine n_if2_ge c_154_91 (by omega) (by omega) ?_ ?_
        · intro h2
          refine n_fg (le_s (le_s (le_s (le_s (le_s (le_s (le_n (le_s (le_s (le_s (le_n (le_n le_0)))))))))))) ?_
          exact ih.2.2.2.2.2.2.1 _ _ _ (by omega) (by omega) (by omega) (by omega)
        · intro h3
          refine n_iload_n c_154_94 rfl (n_iconst c_154_95 ?_)
          refine n_if2_le c_154_96 (by omega) (by omega) ?_ ?_
          · intro h4
            refine n_fg (le_s (le_s (le_s (le_s (le_s (le_s (le_n (le_s (le_s (le_s (le_s (le_n le_0)))))))))))) ?_
            exact ih.2.2.2.2.1 _ _ _ _ (by omega) (by omega) (by omega) (by omega) (by omega)
          · intro h5
            exfalso; omega
      · intro h6
        refine n_iload c_154_85 rfl (n_goto c_154_87 ?_)
        refine n_if2_ge c_154_91 (by omega) (by omega) ?_ ?_
        · intro h7
          refine n_fg (le_s (le_s (le_s (le_s (le_s (le_s (le_n (le_s (le_s (le_s (le_n (le_n le_0)))))))))))) ?_
          exact ih.2.2.2.2.2.2.1 _ _ _ (by omega) (by omega) (by omega) (by omega)
        · intro h8
          refine n_iload_n c_154_94 rfl (n_iconst c_154_95 ?_)
          refine n_if2_le c_154_96 (by omega) (by omega) ?_ ?_
          · intro h9
            exfalso; omega
          · intro h10
            refine n_lload c_154_99 rfl (n_iload c_154_101 rfl (n_i_lshr c_154_103 rfl ?_))
            have f11 := n_lshr_r s x10
            generalize gz12 : (n_lshr s x10) = z12 at f11 ⊢
            refine n_lconst (n := 1) c_154_104 rfl (n_i_land c_154_105 rfl ?_)
            have f13 := n_land_r z12 1
            generalize gz14 : (n_land z12 1) = z14 at f13 ⊢
            refine n_lconst (n := 0) c_154_106 rfl (n_lcmp c_154_107 ?_)
            refine n_lif_ne c_154_108 (by omega) (by omega) ?_ ?_
            · intro h15
              refine n_fg (le_s (le_s (le_s (le_s (le_s (le_s (le_n (le_s (le_s (le_s (le_s (le_n le_0)))))))))))) ?_
              exact ih.2.2.2.2.1 _ _ _ _ (by omega) (by omega) (by omega) (by omega) (by omega)
            · intro h16
              refine n_goto c_154_111 (n_fg (le_s (le_s (le_s (le_s (le_s (le_s (le_n (le_s (le_s (le_s (le_s (le_n le_0)))))))))))) ?_)
              exact ih.2.2.2.2.2.1 _ _ _ _ (by omega) (by omega) (by omega) (by omega) (by omega)
    · intro x7 x8 x9 x10 k7 k8 k9 k10 hnn
      refine n_aload_n c_154_114 rfl (n_iload_n c_154_115 rfl (n_aload_n c_154_116 rfl (n_iload_n c_154_117 rfl (n_iload c_154_118 rfl (n_iload c_154_120 rfl (n_iload c_154_122 rfl (n_iload c_154_124 rfl (n_v7I c_154_126 rfl sc_112.n rfl rfl rfl rfl (imageT2_2 (m := m) (f := f) (x := x8) (y := x9) (z0 := x10) hS hdm (by omega) (by omega) (by omega) (by omega) (by omega)) ?_))))))))
      intro z1 M2 hP3
      obtain ⟨eM, f3⟩ := hP3
      subst eM
      refine n_istore (L2 := [some (2, 112), some (0, m), some (2, 117), some (0, f), some (0, 2), some (1, s), none, some (0, x7), some (0, x8), some (0, x9), some (0, x10), some (0, z1)]) c_154_129 rfl rfl (n_lload c_154_131 rfl (n_iload c_154_133 rfl (n_i_lshr c_154_135 rfl ?_)))
      have f4 := n_lshr_r s z1
      generalize gz5 : (n_lshr s z1) = z5 at f4 ⊢
      refine n_lconst (n := 1) c_154_136 rfl (n_i_land c_154_137 rfl ?_)
      have f6 := n_land_r z5 1
      generalize gz7 : (n_land z5 1) = z7 at f6 ⊢
      refine n_lconst (n := 0) c_154_138 rfl (n_lcmp c_154_139 ?_)
      refine n_lif_ne c_154_140 (by omega) (by omega) ?_ ?_
      · intro h8
        refine n_fg (le_s (le_s (le_s (le_s (le_s (le_s (le_n (le_s (le_s (le_s (le_s (le_n le_0)))))))))))) ?_
        exact ih.2.2.2.2.2.1 _ _ _ _ (by omega) (by omega) (by omega) (by omega) (by omega)
      · intro h9
        refine n_iload c_154_143 rfl ?_
        exact n_rI c_154_145 rfl ⟨rfl, by omega, by first | omega | (refine Or.inr ?_; subst_vars; assumption)⟩
    · intro x7 x8 x9 x10 k7 k8 k9 k10 hnn
      refine n_iinc (L2 := [some (2, 112), some (0, m), some (2, 117), some (0, f), some (0, 2), some (1, s), none, some (0, x7), some (0, x8), some (0, x9), some (0, (x10 + 1)), none]) c_154_146 rfl rfl rfl (n_goto c_154_149 (n_fg (le_s (le_s (le_s (le_s (le_s (le_s (le_n (le_s (le_s (le_s (le_s (le_n le_0)))))))))))) ?_))
      exact ih.2.2.2.1 _ _ _ _ (by omega) (by omega) (by omega) (by omega) (by omega)
    · intro x7 x8 x9 k7 k8 k9 hnn
      refine n_iinc (L2 := [some (2, 112), some (0, m), some (2, 117), some (0, f), some (0, 2), some (1, s), none, some (0, x7), some (0, x8), some (0, (x9 + 1)), none, none]) c_154_152 rfl rfl rfl (n_goto c_154_155 (n_fg (le_s (le_s (le_s (le_s (le_s (le_s (le_n (le_s (le_s (le_s (le_n (le_n le_0)))))))))))) ?_))
      exact ih.2.1 _ _ _ (by omega) (by omega) (by omega) (by omega)
    · intro x7 x8 k7 k8 hnn
      refine n_iinc (L2 := [some (2, 112), some (0, m), some (2, 117), some (0, f), some (0, 2), some (1, s), none, some (0, x7), some (0, (x8 + 1)), none, none, none]) c_154_158 rfl rfl rfl (n_goto c_154_161 (n_fg (le_s (le_s (le_s (le_s (le_s (le_s (le_n (le_s (le_s (le_n (le_n (le_n le_0)))))))))))) ?_))
      exact ih.1 _ _ (by omega) (by omega) (by omega)
set_option maxHeartbeats 4000000 in
theorem escapesT2_2 {xs : List Int32} {e : Nat} {ac : Int} {M0 M : nM} {m f s : Int} (hS : Sf 2 ac M0 M) (hdm : M0 112 0 = 2) (hm : 0 ≤ m ∧ m ≤ 3) (hf : 0 ≤ f ∧ f ≤ 189) (hs : -9223372036854775808 ≤ s ∧ s ≤ 9223372036854775807) : nW xs (e + 2) 154 0 [some (2, 112), some (0, m), some (2, 117), some (0, f), some (0, 2), some (1, s), none, none, none, none, none, none] [] M (nPI fun z M1 => M = M1 ∧ (-1 ≤ z ∧ z ≤ 26) ∧ (z = -1 ∨ n_land (n_lshr s z) 1 = 0)) := by
  have hd : (2 : Int) = 2 ∨ (2 : Int) = 3 := by decide
  have hac := hS.2.2.2.2
  refine n_aload_n c_154_0 rfl (n_getV (bi := 0) c_154_1 sc_112.n rfl rfl rfl (t_dm hS hdm) ?_)
  intro z1 ez1 f2
  obtain rfl : z1 = 2 := by omega
  refine n_iload c_154_4 rfl (n_s2I c_154_6 rfl rfl rfl rfl (mpower2_2  hS ) ?_)
  intro z3 M4 hP5
  obtain ⟨eM, f5⟩ := hP5
  subst eM
  obtain rfl : z3 = 4 := by omega
  refine n_istore (L2 := [some (2, 112), some (0, m), some (2, 117), some (0, f), some (0, 2), some (1, s), none, some (0, 4), none, none, none, none]) c_154_9 rfl rfl (n_iconst c_154_11 (n_istore (L2 := [some (2, 112), some (0, m), some (2, 117), some (0, f), some (0, 2), some (1, s), none, some (0, 4), some (0, 0), none, none, none]) c_154_12 rfl rfl (n_fg (le_s (le_s (le_s (le_s (le_s (le_s (le_n (le_s (le_s (le_n (le_n (le_n le_0)))))))))))) ?_)))
  exact (escapesT2_2_c hS hdm hm hf hs 1546).1 _ _ (by omega) (by omega) (by omega)

set_option maxHeartbeats 4000000 in
theorem escapesT3_2_c {xs : List Int32} {e : Nat} {ac : Int} {M0 M : nM} {m f s : Int} (hS : Sf 2 ac M0 M) (hdm : M0 112 0 = 2) (hm : 0 ≤ m ∧ m ≤ 3) (hf : 0 ≤ f ∧ f ≤ 189) (hs : -9223372036854775808 ≤ s ∧ s ≤ 9223372036854775807) : ∀ nn : Nat, (∀ (x7 x8 : Int), (8 ≤ x7 ∧ x7 ≤ 8) → (0 ≤ x8 ∧ x8 ≤ 8) → (8 - x8) * 332 + 332 < (nn : Int) → nW xs (e + 2) 154 14 [some (2, 112), some (0, m), some (2, 117), some (0, f), some (0, 3), some (1, s), none, some (0, x7), some (0, x8), none, none, none] [] M (nPI fun z M1 => M = M1 ∧ (-1 ≤ z ∧ z ≤ 26) ∧ (z = -1 ∨ n_land (n_lshr s z) 1 = 0))) ∧ (∀ (x7 x8 x9 : Int), (8 ≤ x7 ∧ x7 ≤ 8) → (0 ≤ x8 ∧ x8 ≤ 7) → (0 ≤ x9 ∧ x9 ≤ 8) → (8 - x8) * 332 + (8 - x9) * 33 + 34 < (nn : Int) → nW xs (e + 2) 154 39 [some (2, 112), some (0, m), some (2, 117), some (0, f), some (0, 3), some (1, s), none, some (0, x7), some (0, x8), some (0, x9), none, none] [] M (nPI fun z M1 => M = M1 ∧ (-1 ≤ z ∧ z ≤ 26) ∧ (z = -1 ∨ n_land (n_lshr s z) 1 = 0))) ∧ (∀ (x7 x8 x9 : Int), (8 ≤ x7 ∧ x7 ≤ 8) → (0 ≤ x8 ∧ x8 ≤ 7) → (0 ≤ x9 ∧ x9 ≤ 7) → (8 - x8) * 332 + (8 - x9) * 33 + 33 < (nn : Int) → nW xs (e + 2) 154 75 [some (2, 112), some (0, m), some (2, 117), some (0, f), some (0, 3), some (1, s), none, some (0, x7), some (0, x8), some (0, x9), none, none] [] M (nPI fun z M1 => M = M1 ∧ (-1 ≤ z ∧ z ≤ 26) ∧ (z = -1 ∨ n_land (n_lshr s z) 1 = 0))) ∧ (∀ (x7 x8 x9 x10 : Int), (8 ≤ x7 ∧ x7 ≤ 8) → (0 ≤ x8 ∧ x8 ≤ 7) → (0 ≤ x9 ∧ x9 ≤ 7) → (0 ≤ x10 ∧ x10 ≤ 8) → (8 - x8) * 332 + (8 - x9) * 33 + (8 - x10) * 3 + 5 < (nn : Int) → nW xs (e + 2) 154 78 [some (2, 112), some (0, m), some (2, 117), some (0, f), some (0, 3), some (1, s), none, some (0, x7), some (0, x8), some (0, x9), some (0, x10), none] [] M (nPI fun z M1 => M = M1 ∧ (-1 ≤ z ∧ z ≤ 26) ∧ (z = -1 ∨ n_land (n_lshr s z) 1 = 0))) ∧ (∀ (x7 x8 x9 x10 : Int), (8 ≤ x7 ∧ x7 ≤ 8) → (0 ≤ x8 ∧ x8 ≤ 7) → (0 ≤ x9 ∧ x9 ≤ 7) → (0 ≤ x10 ∧ x10 ≤ 7) → (8 - x8) * 332 + (8 - x9) * 33 + (8 - x10) * 3 + 4 < (nn : Int) → nW xs (e + 2) 154 114 [some (2, 112), some (0, m), some (2, 117), some (0, f), some (0, 3), some (1, s), none, some (0, x7), some (0, x8), some (0, x9), some (0, x10), none] [] M (nPI fun z M1 => M = M1 ∧ (-1 ≤ z ∧ z ≤ 26) ∧ (z = -1 ∨ n_land (n_lshr s z) 1 = 0))) ∧ (∀ (x7 x8 x9 x10 : Int), (8 ≤ x7 ∧ x7 ≤ 8) → (0 ≤ x8 ∧ x8 ≤ 7) → (0 ≤ x9 ∧ x9 ≤ 7) → (0 ≤ x10 ∧ x10 ≤ 7) → (8 - x8) * 332 + (8 - x9) * 33 + (8 - x10) * 3 + 3 < (nn : Int) → nW xs (e + 2) 154 146 [some (2, 112), some (0, m), some (2, 117), some (0, f), some (0, 3), some (1, s), none, some (0, x7), some (0, x8), some (0, x9), some (0, x10), none] [] M (nPI fun z M1 => M = M1 ∧ (-1 ≤ z ∧ z ≤ 26) ∧ (z = -1 ∨ n_land (n_lshr s z) 1 = 0))) ∧ (∀ (x7 x8 x9 : Int), (8 ≤ x7 ∧ x7 ≤ 8) → (0 ≤ x8 ∧ x8 ≤ 7) → (0 ≤ x9 ∧ x9 ≤ 7) → (8 - x8) * 332 + (8 - x9) * 33 + 2 < (nn : Int) → nW xs (e + 2) 154 152 [some (2, 112), some (0, m), some (2, 117), some (0, f), some (0, 3), some (1, s), none, some (0, x7), some (0, x8), some (0, x9), none, none] [] M (nPI fun z M1 => M = M1 ∧ (-1 ≤ z ∧ z ≤ 26) ∧ (z = -1 ∨ n_land (n_lshr s z) 1 = 0))) ∧ (∀ (x7 x8 : Int), (8 ≤ x7 ∧ x7 ≤ 8) → (0 ≤ x8 ∧ x8 ≤ 7) → (8 - x8) * 332 + 1 < (nn : Int) → nW xs (e + 2) 154 158 [some (2, 112), some (0, m), some (2, 117), some (0, f), some (0, 3), some (1, s), none, some (0, x7), some (0, x8), none, none, none] [] M (nPI fun z M1 => M = M1 ∧ (-1 ≤ z ∧ z ≤ 26) ∧ (z = -1 ∨ n_land (n_lshr s z) 1 = 0))) := by
  have hd : (2 : Int) = 2 ∨ (2 : Int) = 3 := by decide
  have hac := hS.2.2.2.2
  intro nn
  induction nn with
  | zero => refine ⟨?_, ?_, ?_, ?_, ?_, ?_, ?_, ?_⟩ <;> (intros; omega)
  | succ nn ih =>
    refine ⟨?_, ?_, ?_, ?_, ?_, ?_, ?_, ?_⟩
    · intro x7 x8 k7 k8 hnn
      refine n_iload c_154_14 rfl (n_iload c_154_16 rfl ?_)
      refine n_if2_ge c_154_18 (by omega) (by omega) ?_ ?_
      · intro h1
        refine n_iconst c_154_164 ?_
        exact n_rI c_154_165 rfl ⟨rfl, by omega, by first | omega | (refine Or.inr ?_; subst_vars; assumption)⟩
      · intro h2
        refine n_lload c_154_21 rfl (n_iload c_154_23 rfl (n_i_lshr c_154_25 rfl ?_))
        have f3 := n_lshr_r s x8
        generalize gz4 : (n_lshr s x8) = z4 at f3 ⊢
        refine n_lconst (n := 1) c_154_26 rfl (n_i_land c_154_27 rfl ?_)
        have f5 := n_land_r z4 1
        generalize gz6 : (n_land z4 1) = z6 at f5 ⊢
        refine n_lconst (n := 0) c_154_28 rfl (n_lcmp c_154_29 ?_)
        refine n_lif_ne c_154_30 (by omega) (by omega) ?_ ?_
        · intro h7
          refine n_iconst c_154_36 (n_istore (L2 := [some (2, 112), some (0, m), some (2, 117), some (0, f), some (0, 3), some (1, s), none, some (0, x7), some (0, x8), some (0, 0), none, none]) c_154_37 rfl rfl (n_fg (le_s (le_s (le_s (le_s (le_s (le_s (le_n (le_s (le_s (le_s (le_n (le_n le_0)))))))))))) ?_))
          exact ih.2.1 _ _ _ (by omega) (by omega) (by omega) (by omega)
        · intro h8
          refine n_goto c_154_33 (n_fg (le_s (le_s (le_s (le_s (le_s (le_s (le_n (le_s (le_s (le_n (le_n (le_n le_0)))))))))))) ?_)
          exact ih.2.2.2.2.2.2.2 _ _ (by omega) (by omega) (by omega)
    · intro x7 x8 x9 k7 k8 k9 hnn
      refine n_iload c_154_39 rfl (n_iload_n c_154_41 rfl (n_iconst c_154_42 ?_))
      refine n_if2_le c_154_43 (by omega) (by omega) ?_ ?_
      · intro h1
        refine n_iconst c_154_51 ?_
        refine n_if2_ge c_154_52 (by omega) (by omega) ?_ ?_
        · intro h2
          refine n_fg (le_s (le_s (le_s (le_s (le_s (le_s (le_n (le_s (le_s (le_n (le_n (le_n le_0)))))))))))) ?_
          exact ih.2.2.2.2.2.2.2 _ _ (by omega) (by omega) (by omega)
        · intro h3
          refine n_iload_n c_154_55 rfl (n_iconst c_154_56 ?_)
          refine n_if2_le c_154_57 (by omega) (by omega) ?_ ?_
          · intro h4
            refine n_fg (le_s (le_s (le_s (le_s (le_s (le_s (le_n (le_s (le_s (le_s (le_n (le_n le_0)))))))))))) ?_
            exact ih.2.2.1 _ _ _ (by omega) (by omega) (by omega) (by omega)
          · intro h5
            exfalso; omega
      · intro h6
        refine n_iload c_154_46 rfl (n_goto c_154_48 ?_)
        refine n_if2_ge c_154_52 (by omega) (by omega) ?_ ?_
        · intro h7
          refine n_fg (le_s (le_s (le_s (le_s (le_s (le_s (le_n (le_s (le_s (le_n (le_n (le_n le_0)))))))))))) ?_
          exact ih.2.2.2.2.2.2.2 _ _ (by omega) (by omega) (by omega)
        · intro h8
          refine n_iload_n c_154_55 rfl (n_iconst c_154_56 ?_)
          refine n_if2_le c_154_57 (by omega) (by omega) ?_ ?_
          · intro h9
            exfalso; omega
          · intro h10
            refine n_lload c_154_60 rfl (n_iload c_154_62 rfl (n_i_lshr c_154_64 rfl ?_))
            have f11 := n_lshr_r s x9
            generalize gz12 : (n_lshr s x9) = z12 at f11 ⊢
            refine n_lconst (n := 1) c_154_65 rfl (n_i_land c_154_66 rfl ?_)
            have f13 := n_land_r z12 1
            generalize gz14 : (n_land z12 1) = z14 at f13 ⊢
            refine n_lconst (n := 0) c_154_67 rfl (n_lcmp c_154_68 ?_)
            refine n_lif_ne c_154_69 (by omega) (by omega) ?_ ?_
            · intro h15
              refine n_fg (le_s (le_s (le_s (le_s (le_s (le_s (le_n (le_s (le_s (le_s (le_n (le_n le_0)))))))))))) ?_
              exact ih.2.2.1 _ _ _ (by omega) (by omega) (by omega) (by omega)
            · intro h16
              refine n_goto c_154_72 (n_fg (le_s (le_s (le_s (le_s (le_s (le_s (le_n (le_s (le_s (le_s (le_n (le_n le_0)))))))))))) ?_)
              exact ih.2.2.2.2.2.2.1 _ _ _ (by omega) (by omega) (by omega) (by omega)
    · intro x7 x8 x9 k7 k8 k9 hnn
      refine n_iconst c_154_75 (n_istore (L2 := [some (2, 112), some (0, m), some (2, 117), some (0, f), some (0, 3), some (1, s), none, some (0, x7), some (0, x8), some (0, x9), some (0, 0), none]) c_154_76 rfl rfl (n_fg (le_s (le_s (le_s (le_s (le_s (le_s (le_n (le_s (le_s (le_s (le_s (le_n le_0)))))))))))) ?_))
      exact ih.2.2.2.1 _ _ _ _ (by omega) (by omega) (by omega) (by omega) (by omega)
    · intro x7 x8 x9 x10 k7 k8 k9 k10 hnn
      refine n_iload c_154_78 rfl (n_iload_n c_154_80 rfl (n_iconst c_154_81 ?_))
      refine n_if2_le c_154_82 (by omega) (by omega) ?_ ?_
      · intro h1
        refine n_iconst c_154_90 ?_
        refine n_if2_ge c_154_91 (by omega) (by omega) ?_ ?_
        · intro h2
          refine n_fg (le_s (le_s (le_s (le_s (le_s (le_s (le_n (le_s (le_s (le_s (le_n (le_n le_0)))))))))))) ?_
          exact ih.2.2.2.2.2.2.1 _ _ _ (by omega) (by omega) (by omega) (by omega)
        · intro h3
          refine n_iload_n c_154_94 rfl (n_iconst c_154_95 ?_)
          refine n_if2_le c_154_96 (by omega) (by omega) ?_ ?_
          · intro h4
            refine n_fg (le_s (le_s (le_s (le_s (le_s (le_s (le_n (le_s (le_s (le_s (le_s (le_n le_0)))))))))))) ?_
            exact ih.2.2.2.2.1 _ _ _ _ (by omega) (by omega) (by omega) (by omega) (by omega)
          · intro h5
            exfalso; omega
      · intro h6
        refine n_iload c_154_85 rfl (n_goto c_154_87 ?_)
        refine n_if2_ge c_154_91 (by omega) (by omega) ?_ ?_
        · intro h7
          refine n_fg (le_s (le_s (le_s (le_s (le_s (le_s (le_n (le_s (le_s (le_s (le_n (le_n le_0)))))))))))) ?_
          exact ih.2.2.2.2.2.2.1 _ _ _ (by omega) (by omega) (by omega) (by omega)
        · intro h8
          refine n_iload_n c_154_94 rfl (n_iconst c_154_95 ?_)
          refine n_if2_le c_154_96 (by omega) (by omega) ?_ ?_
          · intro h9
            exfalso; omega
          · intro h10
            refine n_lload c_154_99 rfl (n_iload c_154_101 rfl (n_i_lshr c_154_103 rfl ?_))
            have f11 := n_lshr_r s x10
            generalize gz12 : (n_lshr s x10) = z12 at f11 ⊢
            refine n_lconst (n := 1) c_154_104 rfl (n_i_land c_154_105 rfl ?_)
            have f13 := n_land_r z12 1
            generalize gz14 : (n_land z12 1) = z14 at f13 ⊢
            refine n_lconst (n := 0) c_154_106 rfl (n_lcmp c_154_107 ?_)
            refine n_lif_ne c_154_108 (by omega) (by omega) ?_ ?_
            · intro h15
              refine n_fg (le_s (le_s (le_s (le_s (le_s (le_s (le_n (le_s (le_s (le_s (le_s (le_n le_0)))))))))))) ?_
              exact ih.2.2.2.2.1 _ _ _ _ (by omega) (by omega) (by omega) (by omega) (by omega)
            · intro h16
              refine n_goto c_154_111 (n_fg (le_s (le_s (le_s (le_s (le_s (le_s (le_n (le_s (le_s (le_s (le_s (le_n le_0)))))))))))) ?_)
              exact ih.2.2.2.2.2.1 _ _ _ _ (by omega) (by omega) (by omega) (by omega) (by omega)
    · intro x7 x8 x9 x10 k7 k8 k9 k10 hnn
      refine n_aload_n c_154_114 rfl (n_iload_n c_154_115 rfl (n_aload_n c_154_116 rfl (n_iload_n c_154_117 rfl (n_iload c_154_118 rfl (n_iload c_154_120 rfl (n_iload c_154_122 rfl (n_iload c_154_124 rfl (n_v7I c_154_126 rfl sc_112.n rfl rfl rfl rfl (imageT3_2 (m := m) (f := f) (x := x8) (y := x9) (z0 := x10) hS hdm (by omega) (by omega) (by omega) (by omega) (by omega)) ?_))))))))
      intro z1 M2 hP3
      obtain ⟨eM, f3⟩ := hP3
      subst eM
      refine n_istore (L2 := [some (2, 112), some (0, m), some (2, 117), some (0, f), some (0, 3), some (1, s), none, some (0, x7), some (0, x8), some (0, x9), some (0, x10), some (0, z1)]) c_154_129 rfl rfl (n_lload c_154_131 rfl (n_iload c_154_133 rfl (n_i_lshr c_154_135 rfl ?_)))
      have f4 := n_lshr_r s z1
      generalize gz5 : (n_lshr s z1) = z5 at f4 ⊢
      refine n_lconst (n := 1) c_154_136 rfl (n_i_land c_154_137 rfl ?_)
      have f6 := n_land_r z5 1
      generalize gz7 : (n_land z5 1) = z7 at f6 ⊢
      refine n_lconst (n := 0) c_154_138 rfl (n_lcmp c_154_139 ?_)
      refine n_lif_ne c_154_140 (by omega) (by omega) ?_ ?_
      · intro h8
        refine n_fg (le_s (le_s (le_s (le_s (le_s (le_s (le_n (le_s (le_s (le_s (le_s (le_n le_0)))))))))))) ?_
        exact ih.2.2.2.2.2.1 _ _ _ _ (by omega) (by omega) (by omega) (by omega) (by omega)
      · intro h9
        refine n_iload c_154_143 rfl ?_
        exact n_rI c_154_145 rfl ⟨rfl, by omega, by first | omega | (refine Or.inr ?_; subst_vars; assumption)⟩
    · intro x7 x8 x9 x10 k7 k8 k9 k10 hnn
      refine n_iinc (L2 := [some (2, 112), some (0, m), some (2, 117), some (0, f), some (0, 3), some (1, s), none, some (0, x7), some (0, x8), some (0, x9), some (0, (x10 + 1)), none]) c_154_146 rfl rfl rfl (n_goto c_154_149 (n_fg (le_s (le_s (le_s (le_s (le_s (le_s (le_n (le_s (le_s (le_s (le_s (le_n le_0)))))))))))) ?_))
      exact ih.2.2.2.1 _ _ _ _ (by omega) (by omega) (by omega) (by omega) (by omega)
    · intro x7 x8 x9 k7 k8 k9 hnn
      refine n_iinc (L2 := [some (2, 112), some (0, m), some (2, 117), some (0, f), some (0, 3), some (1, s), none, some (0, x7), some (0, x8), some (0, (x9 + 1)), none, none]) c_154_152 rfl rfl rfl (n_goto c_154_155 (n_fg (le_s (le_s (le_s (le_s (le_s (le_s (le_n (le_s (le_s (le_s (le_n (le_n le_0)))))))))))) ?_))
      exact ih.2.1 _ _ _ (by omega) (by omega) (by omega) (by omega)
    · intro x7 x8 k7 k8 hnn
      refine n_iinc (L2 := [some (2, 112), some (0, m), some (2, 117), some (0, f), some (0, 3), some (1, s), none, some (0, x7), some (0, (x8 + 1)), none, none, none]) c_154_158 rfl rfl rfl (n_goto c_154_161 (n_fg (le_s (le_s (le_s (le_s (le_s (le_s (le_n (le_s (le_s (le_n (le_n (le_n le_0)))))))))))) ?_))
      exact ih.1 _ _ (by omega) (by omega) (by omega)
set_option maxHeartbeats 4000000 in
theorem escapesT3_2 {xs : List Int32} {e : Nat} {ac : Int} {M0 M : nM} {m f s : Int} (hS : Sf 2 ac M0 M) (hdm : M0 112 0 = 2) (hm : 0 ≤ m ∧ m ≤ 3) (hf : 0 ≤ f ∧ f ≤ 189) (hs : -9223372036854775808 ≤ s ∧ s ≤ 9223372036854775807) : nW xs (e + 2) 154 0 [some (2, 112), some (0, m), some (2, 117), some (0, f), some (0, 3), some (1, s), none, none, none, none, none, none] [] M (nPI fun z M1 => M = M1 ∧ (-1 ≤ z ∧ z ≤ 26) ∧ (z = -1 ∨ n_land (n_lshr s z) 1 = 0)) := by
  have hd : (2 : Int) = 2 ∨ (2 : Int) = 3 := by decide
  have hac := hS.2.2.2.2
  refine n_aload_n c_154_0 rfl (n_getV (bi := 0) c_154_1 sc_112.n rfl rfl rfl (t_dm hS hdm) ?_)
  intro z1 ez1 f2
  obtain rfl : z1 = 2 := by omega
  refine n_iload c_154_4 rfl (n_s2I c_154_6 rfl rfl rfl rfl (mpower3_2  hS ) ?_)
  intro z3 M4 hP5
  obtain ⟨eM, f5⟩ := hP5
  subst eM
  obtain rfl : z3 = 8 := by omega
  refine n_istore (L2 := [some (2, 112), some (0, m), some (2, 117), some (0, f), some (0, 3), some (1, s), none, some (0, 8), none, none, none, none]) c_154_9 rfl rfl (n_iconst c_154_11 (n_istore (L2 := [some (2, 112), some (0, m), some (2, 117), some (0, f), some (0, 3), some (1, s), none, some (0, 8), some (0, 0), none, none, none]) c_154_12 rfl rfl (n_fg (le_s (le_s (le_s (le_s (le_s (le_s (le_n (le_s (le_s (le_n (le_n (le_n le_0)))))))))))) ?_)))
  exact (escapesT3_2_c hS hdm hm hf hs 6650).1 _ _ (by omega) (by omega) (by omega)

set_option maxHeartbeats 4000000 in
theorem escapesT_2 {xs : List Int32} {e : Nat} {ac : Int} {M0 M : nM} {m f k s : Int} (hS : Sf 2 ac M0 M) (hdm : M0 112 0 = 2) (hm : 0 ≤ m ∧ m ≤ 3) (hf : 0 ≤ f ∧ f ≤ 189) (hk : 0 ≤ k ∧ k ≤ 3) (hs : -9223372036854775808 ≤ s ∧ s ≤ 9223372036854775807) : nW xs (e + 2) 154 0 [some (2, 112), some (0, m), some (2, 117), some (0, f), some (0, k), some (1, s), none, none, none, none, none, none] [] M (nPI fun z M1 => M = M1 ∧ (-1 ≤ z ∧ z ≤ 26) ∧ (z = -1 ∨ n_land (n_lshr s z) 1 = 0)) := by
  rcases (show k = 0 ∨ k = 1 ∨ k = 2 ∨ k = 3 by omega) with rfl | rfl | rfl | rfl
  · exact n_post (escapesT0_2 hS hdm (by omega) (by omega) (by omega)) (fun w M1 h => by obtain ⟨z, rfl, h1, h2, h3⟩ := h; exact ⟨z, rfl, h1, by omega, h3⟩)
  · exact n_post (escapesT1_2 hS hdm (by omega) (by omega) (by omega)) (fun w M1 h => by obtain ⟨z, rfl, h1, h2, h3⟩ := h; exact ⟨z, rfl, h1, by omega, h3⟩)
  · exact n_post (escapesT2_2 hS hdm (by omega) (by omega) (by omega)) (fun w M1 h => by obtain ⟨z, rfl, h1, h2, h3⟩ := h; exact ⟨z, rfl, h1, by omega, h3⟩)
  · exact n_post (escapesT3_2 hS hdm (by omega) (by omega) (by omega)) (fun w M1 h => by obtain ⟨z, rfl, h1, h2, h3⟩ := h; exact ⟨z, rfl, h1, by omega, h3⟩)

set_option maxHeartbeats 4000000 in
theorem imageH0_2 {xs : List Int32} {e : Nat} {ac : Int} {M0 M : nM} {m f x y z0 : Int} (hS : Sf 2 ac M0 M) (hdm : M0 112 0 = 2) (hm : 0 ≤ m ∧ m ≤ 3) (hf : 0 ≤ f ∧ f ≤ 0) (hx : 0 ≤ x ∧ x ≤ 26) (hy : 0 ≤ y ∧ y ≤ 26) (hz0 : 0 ≤ z0 ∧ z0 ≤ 26) : nW xs (e + 1) 153 0 [some (2, 112), some (0, m), some (2, 127), some (0, f), some (0, 0), some (0, x), some (0, y), some (0, z0), none, none, none, none] [] M (nPI fun z M1 => M = M1 ∧ (0 ≤ z ∧ z ≤ 26)) := by
  have hd : (2 : Int) = 2 ∨ (2 : Int) = 3 := by decide
  have hac := hS.2.2.2.2
  refine n_iconst c_153_0 (n_istore (L2 := [some (2, 112), some (0, m), some (2, 127), some (0, f), some (0, 0), some (0, x), some (0, y), some (0, z0), some (0, 0), none, none, none]) c_153_1 rfl rfl (n_aload_n c_153_3 rfl (n_getV (bi := 0) c_153_4 sc_112.n rfl rfl rfl (t_dm hS hdm) ?_)))
  intro z1 ez1 f2
  obtain rfl : z1 = 2 := by omega
  refine n_iload c_153_7 rfl (n_iconst c_153_9 (n_isub c_153_10 rfl (n_s2I c_153_11 rfl rfl rfl rfl (mpowerN_2 (n := (0 - 1)) hS (by omega)) ?_)))
  intro z3 M4 hP5
  obtain ⟨eM, f5⟩ := hP5
  subst eM
  obtain rfl : z3 = 1 := by omega
  refine n_istore (L2 := [some (2, 112), some (0, m), some (2, 127), some (0, f), some (0, 0), some (0, x), some (0, y), some (0, z0), some (0, 0), some (0, 1), none, none]) c_153_14 rfl rfl (n_iconst c_153_16 (n_istore (L2 := [some (2, 112), some (0, m), some (2, 127), some (0, f), some (0, 0), some (0, x), some (0, y), some (0, z0), some (0, 0), some (0, 1), some (0, 0), none]) c_153_17 rfl rfl (n_iload c_153_19 rfl (n_iload c_153_21 rfl ?_))))
  refine n_if2_ge c_153_23 (by omega) (by omega) ?_ ?_
  · intro h6
    refine n_iload c_153_119 rfl ?_
    exact n_rI c_153_121 rfl ⟨rfl, by omega⟩
  · intro h7
    exfalso; omega

set_option maxHeartbeats 4000000 in
theorem imageH1_2 {xs : List Int32} {e : Nat} {ac : Int} {M0 M : nM} {m f x y z0 : Int} (hS : Sf 2 ac M0 M) (hdm : M0 112 0 = 2) (hm : 0 ≤ m ∧ m ≤ 3) (hf : 0 ≤ f ∧ f ≤ 0) (hx : 0 ≤ x ∧ x ≤ 26) (hy : 0 ≤ y ∧ y ≤ 26) (hz0 : 0 ≤ z0 ∧ z0 ≤ 26) : nW xs (e + 1) 153 0 [some (2, 112), some (0, m), some (2, 127), some (0, f), some (0, 1), some (0, x), some (0, y), some (0, z0), none, none, none, none] [] M (nPI fun z M1 => M = M1 ∧ (0 ≤ z ∧ z ≤ 26)) := by
  have hd : (2 : Int) = 2 ∨ (2 : Int) = 3 := by decide
  have hac := hS.2.2.2.2
  refine n_iconst c_153_0 (n_istore (L2 := [some (2, 112), some (0, m), some (2, 127), some (0, f), some (0, 1), some (0, x), some (0, y), some (0, z0), some (0, 0), none, none, none]) c_153_1 rfl rfl (n_aload_n c_153_3 rfl (n_getV (bi := 0) c_153_4 sc_112.n rfl rfl rfl (t_dm hS hdm) ?_)))
  intro z1 ez1 f2
  obtain rfl : z1 = 2 := by omega
  refine n_iload c_153_7 rfl (n_iconst c_153_9 (n_isub c_153_10 rfl ?_))
  have hcst : ((1 - 1) : Int) = 0 := by omega
  rw [hcst]
  refine n_s2I c_153_11 rfl rfl rfl rfl (mpower0_2  hS ) ?_
  intro z3 M4 hP5
  obtain ⟨eM, f5⟩ := hP5
  subst eM
  obtain rfl : z3 = 1 := by omega
  refine n_istore (L2 := [some (2, 112), some (0, m), some (2, 127), some (0, f), some (0, 1), some (0, x), some (0, y), some (0, z0), some (0, 0), some (0, 1), none, none]) c_153_14 rfl rfl (n_iconst c_153_16 (n_istore (L2 := [some (2, 112), some (0, m), some (2, 127), some (0, f), some (0, 1), some (0, x), some (0, y), some (0, z0), some (0, 0), some (0, 1), some (0, 0), none]) c_153_17 rfl rfl (n_iload c_153_19 rfl (n_iload c_153_21 rfl ?_))))
  refine n_if2_ge c_153_23 (by omega) (by omega) ?_ ?_
  · intro h6
    exfalso; omega
  · intro h7
    refine n_iload c_153_26 rfl (n_iload c_153_28 rfl (n_idivV c_153_30 (by omega) (by omega) ?_))
    intro z8 _ f9
    refine n_aload_n c_153_31 rfl (n_getV (bi := 0) c_153_32 sc_112.n rfl rfl rfl (t_dm hS hdm) ?_)
    intro z10 ez10 f11
    obtain rfl : z10 = 2 := by omega
    refine n_iremV c_153_35 (by omega) (by omega) ?_
    intro z12 _ f13
    refine n_istore (L2 := [some (2, 112), some (0, m), some (2, 127), some (0, f), some (0, 1), some (0, x), some (0, y), some (0, z0), some (0, 0), some (0, 1), some (0, 0), some (0, z12)]) c_153_36 rfl rfl (n_iload_n c_153_38 rfl (n_iconst c_153_39 ?_))
    refine n_if2_le c_153_40 (by omega) (by omega) ?_ ?_
    · intro h14
      refine n_iload_n c_153_63 rfl (n_iconst c_153_64 ?_)
      refine n_if2_le c_153_65 (by omega) (by omega) ?_ ?_
      · intro h15
        refine n_iload c_153_88 rfl (n_aload_n c_153_90 rfl (n_getV (bi := 0) c_153_91 sc_112.n rfl rfl rfl (t_dm hS hdm) ?_))
        intro z16 ez16 f17
        obtain rfl : z16 = 2 := by omega
        refine n_imul c_153_94 rfl (n_aload_n c_153_95 rfl (n_iload_n c_153_96 rfl (n_iload c_153_97 rfl (n_iadd c_153_99 rfl (n_ialoadV c_153_100 sc_127.n rfl rfl rfl (by omega) (t_127 hS (by omega)) ?_)))))
        intro z18 ez18 f19
        refine n_iadd c_153_101 rfl (n_istore (L2 := [some (2, 112), some (0, m), some (2, 127), some (0, f), some (0, 1), some (0, x), some (0, y), some (0, z0), some (0, ((0 * 2) + z18)), some (0, 1), some (0, 0), some (0, z12)]) c_153_102 rfl rfl (n_iload c_153_104 rfl (n_aload_n c_153_106 rfl (n_getV (bi := 0) c_153_107 sc_112.n rfl rfl rfl (t_dm hS hdm) ?_))))
        intro z20 ez20 f21
        obtain rfl : z20 = 2 := by omega
        refine n_idivT (z := 0) c_153_110 (by omega) (by omega) (by omega) (by decide) ?_
        refine n_istore (L2 := [some (2, 112), some (0, m), some (2, 127), some (0, f), some (0, 1), some (0, x), some (0, y), some (0, z0), some (0, ((0 * 2) + z18)), some (0, 0), some (0, 0), some (0, z12)]) c_153_111 rfl rfl (n_iinc (L2 := [some (2, 112), some (0, m), some (2, 127), some (0, f), some (0, 1), some (0, x), some (0, y), some (0, z0), some (0, ((0 * 2) + z18)), some (0, 0), some (0, (0 + 1)), some (0, z12)]) c_153_113 rfl rfl rfl (n_goto c_153_116 (n_iload c_153_19 rfl (n_iload c_153_21 rfl ?_))))
        refine n_if2_ge c_153_23 (by omega) (by omega) ?_ ?_
        · intro h22
          refine n_iload c_153_119 rfl ?_
          exact n_rI c_153_121 rfl ⟨rfl, by omega⟩
        · intro h23
          exfalso; omega
      · intro h24
        exfalso; omega
    · intro h25
      refine n_iload c_153_43 rfl (n_aload_n c_153_45 rfl (n_getV (bi := 0) c_153_46 sc_112.n rfl rfl rfl (t_dm hS hdm) ?_))
      intro z26 ez26 f27
      obtain rfl : z26 = 2 := by omega
      refine n_imul c_153_49 rfl (n_iload c_153_50 rfl (n_iload c_153_52 rfl (n_idivV c_153_54 (by omega) (by omega) ?_)))
      intro z28 _ f29
      refine n_aload_n c_153_55 rfl (n_getV (bi := 0) c_153_56 sc_112.n rfl rfl rfl (t_dm hS hdm) ?_)
      intro z30 ez30 f31
      obtain rfl : z30 = 2 := by omega
      refine n_iremV c_153_59 (by omega) (by omega) ?_
      intro z32 _ f33
      refine n_iadd c_153_60 rfl (n_istore (L2 := [some (2, 112), some (0, m), some (2, 127), some (0, f), some (0, 1), some (0, x), some (0, y), some (0, z0), some (0, 0), some (0, 1), some (0, 0), some (0, ((z12 * 2) + z32))]) c_153_61 rfl rfl (n_iload_n c_153_63 rfl (n_iconst c_153_64 ?_)))
      refine n_if2_le c_153_65 (by omega) (by omega) ?_ ?_
      · intro h34
        refine n_iload c_153_88 rfl (n_aload_n c_153_90 rfl (n_getV (bi := 0) c_153_91 sc_112.n rfl rfl rfl (t_dm hS hdm) ?_))
        intro z35 ez35 f36
        obtain rfl : z35 = 2 := by omega
        refine n_imul c_153_94 rfl (n_aload_n c_153_95 rfl (n_iload_n c_153_96 rfl (n_iload c_153_97 rfl (n_iadd c_153_99 rfl (n_ialoadV c_153_100 sc_127.n rfl rfl rfl (by omega) (t_127 hS (by omega)) ?_)))))
        intro z37 ez37 f38
        refine n_iadd c_153_101 rfl (n_istore (L2 := [some (2, 112), some (0, m), some (2, 127), some (0, f), some (0, 1), some (0, x), some (0, y), some (0, z0), some (0, ((0 * 2) + z37)), some (0, 1), some (0, 0), some (0, ((z12 * 2) + z32))]) c_153_102 rfl rfl (n_iload c_153_104 rfl (n_aload_n c_153_106 rfl (n_getV (bi := 0) c_153_107 sc_112.n rfl rfl rfl (t_dm hS hdm) ?_))))
        intro z39 ez39 f40
        obtain rfl : z39 = 2 := by omega
        refine n_idivT (z := 0) c_153_110 (by omega) (by omega) (by omega) (by decide) ?_
        refine n_istore (L2 := [some (2, 112), some (0, m), some (2, 127), some (0, f), some (0, 1), some (0, x), some (0, y), some (0, z0), some (0, ((0 * 2) + z37)), some (0, 0), some (0, 0), some (0, ((z12 * 2) + z32))]) c_153_111 rfl rfl (n_iinc (L2 := [some (2, 112), some (0, m), some (2, 127), some (0, f), some (0, 1), some (0, x), some (0, y), some (0, z0), some (0, ((0 * 2) + z37)), some (0, 0), some (0, (0 + 1)), some (0, ((z12 * 2) + z32))]) c_153_113 rfl rfl rfl (n_goto c_153_116 (n_iload c_153_19 rfl (n_iload c_153_21 rfl ?_))))
        refine n_if2_ge c_153_23 (by omega) (by omega) ?_ ?_
        · intro h41
          refine n_iload c_153_119 rfl ?_
          exact n_rI c_153_121 rfl ⟨rfl, by omega⟩
        · intro h42
          exfalso; omega
      · intro h43
        refine n_iload c_153_68 rfl (n_aload_n c_153_70 rfl (n_getV (bi := 0) c_153_71 sc_112.n rfl rfl rfl (t_dm hS hdm) ?_))
        intro z44 ez44 f45
        obtain rfl : z44 = 2 := by omega
        refine n_imul c_153_74 rfl (n_iload c_153_75 rfl (n_iload c_153_77 rfl (n_idivV c_153_79 (by omega) (by omega) ?_)))
        intro z46 _ f47
        refine n_aload_n c_153_80 rfl (n_getV (bi := 0) c_153_81 sc_112.n rfl rfl rfl (t_dm hS hdm) ?_)
        intro z48 ez48 f49
        obtain rfl : z48 = 2 := by omega
        refine n_iremV c_153_84 (by omega) (by omega) ?_
        intro z50 _ f51
        refine n_iadd c_153_85 rfl (n_istore (L2 := [some (2, 112), some (0, m), some (2, 127), some (0, f), some (0, 1), some (0, x), some (0, y), some (0, z0), some (0, 0), some (0, 1), some (0, 0), some (0, ((((z12 * 2) + z32) * 2) + z50))]) c_153_86 rfl rfl (n_iload c_153_88 rfl (n_aload_n c_153_90 rfl (n_getV (bi := 0) c_153_91 sc_112.n rfl rfl rfl (t_dm hS hdm) ?_))))
        intro z52 ez52 f53
        obtain rfl : z52 = 2 := by omega
        refine n_imul c_153_94 rfl (n_aload_n c_153_95 rfl (n_iload_n c_153_96 rfl (n_iload c_153_97 rfl (n_iadd c_153_99 rfl (n_ialoadV c_153_100 sc_127.n rfl rfl rfl (by omega) (t_127 hS (by omega)) ?_)))))
        intro z54 ez54 f55
        refine n_iadd c_153_101 rfl (n_istore (L2 := [some (2, 112), some (0, m), some (2, 127), some (0, f), some (0, 1), some (0, x), some (0, y), some (0, z0), some (0, ((0 * 2) + z54)), some (0, 1), some (0, 0), some (0, ((((z12 * 2) + z32) * 2) + z50))]) c_153_102 rfl rfl (n_iload c_153_104 rfl (n_aload_n c_153_106 rfl (n_getV (bi := 0) c_153_107 sc_112.n rfl rfl rfl (t_dm hS hdm) ?_))))
        intro z56 ez56 f57
        obtain rfl : z56 = 2 := by omega
        refine n_idivT (z := 0) c_153_110 (by omega) (by omega) (by omega) (by decide) ?_
        refine n_istore (L2 := [some (2, 112), some (0, m), some (2, 127), some (0, f), some (0, 1), some (0, x), some (0, y), some (0, z0), some (0, ((0 * 2) + z54)), some (0, 0), some (0, 0), some (0, ((((z12 * 2) + z32) * 2) + z50))]) c_153_111 rfl rfl (n_iinc (L2 := [some (2, 112), some (0, m), some (2, 127), some (0, f), some (0, 1), some (0, x), some (0, y), some (0, z0), some (0, ((0 * 2) + z54)), some (0, 0), some (0, (0 + 1)), some (0, ((((z12 * 2) + z32) * 2) + z50))]) c_153_113 rfl rfl rfl (n_goto c_153_116 (n_iload c_153_19 rfl (n_iload c_153_21 rfl ?_))))
        refine n_if2_ge c_153_23 (by omega) (by omega) ?_ ?_
        · intro h58
          refine n_iload c_153_119 rfl ?_
          exact n_rI c_153_121 rfl ⟨rfl, by omega⟩
        · intro h59
          exfalso; omega

set_option maxHeartbeats 4000000 in
theorem imageH2_2 {xs : List Int32} {e : Nat} {ac : Int} {M0 M : nM} {m f x y z0 : Int} (hS : Sf 2 ac M0 M) (hdm : M0 112 0 = 2) (hm : 0 ≤ m ∧ m ≤ 3) (hf : 0 ≤ f ∧ f ≤ 0) (hx : 0 ≤ x ∧ x ≤ 26) (hy : 0 ≤ y ∧ y ≤ 26) (hz0 : 0 ≤ z0 ∧ z0 ≤ 26) : nW xs (e + 1) 153 0 [some (2, 112), some (0, m), some (2, 127), some (0, f), some (0, 2), some (0, x), some (0, y), some (0, z0), none, none, none, none] [] M (nPI fun z M1 => M = M1 ∧ (0 ≤ z ∧ z ≤ 26)) := by
  have hd : (2 : Int) = 2 ∨ (2 : Int) = 3 := by decide
  have hac := hS.2.2.2.2
  refine n_iconst c_153_0 (n_istore (L2 := [some (2, 112), some (0, m), some (2, 127), some (0, f), some (0, 2), some (0, x), some (0, y), some (0, z0), some (0, 0), none, none, none]) c_153_1 rfl rfl (n_aload_n c_153_3 rfl (n_getV (bi := 0) c_153_4 sc_112.n rfl rfl rfl (t_dm hS hdm) ?_)))
  intro z1 ez1 f2
  obtain rfl : z1 = 2 := by omega
  refine n_iload c_153_7 rfl (n_iconst c_153_9 (n_isub c_153_10 rfl ?_))
  have hcst : ((2 - 1) : Int) = 1 := by omega
  rw [hcst]
  refine n_s2I c_153_11 rfl rfl rfl rfl (mpower1_2  hS ) ?_
  intro z3 M4 hP5
  obtain ⟨eM, f5⟩ := hP5
  subst eM
  obtain rfl : z3 = 2 := by omega
  refine n_istore (L2 := [some (2, 112), some (0, m), some (2, 127), some (0, f), some (0, 2), some (0, x), some (0, y), some (0, z0), some (0, 0), some (0, 2), none, none]) c_153_14 rfl rfl (n_iconst c_153_16 (n_istore (L2 := [some (2, 112), some (0, m), some (2, 127), some (0, f), some (0, 2), some (0, x), some (0, y), some (0, z0), some (0, 0), some (0, 2), some (0, 0), none]) c_153_17 rfl rfl (n_iload c_153_19 rfl (n_iload c_153_21 rfl ?_))))
  refine n_if2_ge c_153_23 (by omega) (by omega) ?_ ?_
  · intro h6
    exfalso; omega
  · intro h7
    refine n_iload c_153_26 rfl (n_iload c_153_28 rfl (n_idivV c_153_30 (by omega) (by omega) ?_))
    intro z8 _ f9
    refine n_aload_n c_153_31 rfl (n_getV (bi := 0) c_153_32 sc_112.n rfl rfl rfl (t_dm hS hdm) ?_)
    intro z10 ez10 f11
    obtain rfl : z10 = 2 := by omega
    refine n_iremV c_153_35 (by omega) (by omega) ?_
    intro z12 _ f13
    refine n_istore (L2 := [some (2, 112), some (0, m), some (2, 127), some (0, f), some (0, 2), some (0, x), some (0, y), some (0, z0), some (0, 0), some (0, 2), some (0, 0), some (0, z12)]) c_153_36 rfl rfl (n_iload_n c_153_38 rfl (n_iconst c_153_39 ?_))
    refine n_if2_le c_153_40 (by omega) (by omega) ?_ ?_
    · intro h14
      refine n_iload_n c_153_63 rfl (n_iconst c_153_64 ?_)
      refine n_if2_le c_153_65 (by omega) (by omega) ?_ ?_
      · intro h15
        refine n_iload c_153_88 rfl (n_aload_n c_153_90 rfl (n_getV (bi := 0) c_153_91 sc_112.n rfl rfl rfl (t_dm hS hdm) ?_))
        intro z16 ez16 f17
        obtain rfl : z16 = 2 := by omega
        refine n_imul c_153_94 rfl (n_aload_n c_153_95 rfl (n_iload_n c_153_96 rfl (n_iload c_153_97 rfl (n_iadd c_153_99 rfl (n_ialoadV c_153_100 sc_127.n rfl rfl rfl (by omega) (t_127 hS (by omega)) ?_)))))
        intro z18 ez18 f19
        refine n_iadd c_153_101 rfl (n_istore (L2 := [some (2, 112), some (0, m), some (2, 127), some (0, f), some (0, 2), some (0, x), some (0, y), some (0, z0), some (0, ((0 * 2) + z18)), some (0, 2), some (0, 0), some (0, z12)]) c_153_102 rfl rfl (n_iload c_153_104 rfl (n_aload_n c_153_106 rfl (n_getV (bi := 0) c_153_107 sc_112.n rfl rfl rfl (t_dm hS hdm) ?_))))
        intro z20 ez20 f21
        obtain rfl : z20 = 2 := by omega
        refine n_idivT (z := 1) c_153_110 (by omega) (by omega) (by omega) (by decide) ?_
        refine n_istore (L2 := [some (2, 112), some (0, m), some (2, 127), some (0, f), some (0, 2), some (0, x), some (0, y), some (0, z0), some (0, ((0 * 2) + z18)), some (0, 1), some (0, 0), some (0, z12)]) c_153_111 rfl rfl (n_iinc (L2 := [some (2, 112), some (0, m), some (2, 127), some (0, f), some (0, 2), some (0, x), some (0, y), some (0, z0), some (0, ((0 * 2) + z18)), some (0, 1), some (0, (0 + 1)), some (0, z12)]) c_153_113 rfl rfl rfl (n_goto c_153_116 (n_iload c_153_19 rfl (n_iload c_153_21 rfl ?_))))
        refine n_if2_ge c_153_23 (by omega) (by omega) ?_ ?_
        · intro h22
          exfalso; omega
        · intro h23
          refine n_iload c_153_26 rfl (n_iload c_153_28 rfl (n_idivV c_153_30 (by omega) (by omega) ?_))
          intro z24 _ f25
          refine n_aload_n c_153_31 rfl (n_getV (bi := 0) c_153_32 sc_112.n rfl rfl rfl (t_dm hS hdm) ?_)
          intro z26 ez26 f27
          obtain rfl : z26 = 2 := by omega
          refine n_iremV c_153_35 (by omega) (by omega) ?_
          intro z28 _ f29
          refine n_istore (L2 := [some (2, 112), some (0, m), some (2, 127), some (0, f), some (0, 2), some (0, x), some (0, y), some (0, z0), some (0, ((0 * 2) + z18)), some (0, 1), some (0, (0 + 1)), some (0, z28)]) c_153_36 rfl rfl (n_iload_n c_153_38 rfl (n_iconst c_153_39 ?_))
          refine n_if2_le c_153_40 (by omega) (by omega) ?_ ?_
          · intro h30
            refine n_iload_n c_153_63 rfl (n_iconst c_153_64 ?_)
            refine n_if2_le c_153_65 (by omega) (by omega) ?_ ?_
            · intro h31
              refine n_iload c_153_88 rfl (n_aload_n c_153_90 rfl (n_getV (bi := 0) c_153_91 sc_112.n rfl rfl rfl (t_dm hS hdm) ?_))
              intro z32 ez32 f33
              obtain rfl : z32 = 2 := by omega
              refine n_imul c_153_94 rfl (n_aload_n c_153_95 rfl (n_iload_n c_153_96 rfl (n_iload c_153_97 rfl (n_iadd c_153_99 rfl (n_ialoadV c_153_100 sc_127.n rfl rfl rfl (by omega) (t_127 hS (by omega)) ?_)))))
              intro z34 ez34 f35
              refine n_iadd c_153_101 rfl (n_istore (L2 := [some (2, 112), some (0, m), some (2, 127), some (0, f), some (0, 2), some (0, x), some (0, y), some (0, z0), some (0, ((((0 * 2) + z18) * 2) + z34)), some (0, 1), some (0, (0 + 1)), some (0, z28)]) c_153_102 rfl rfl (n_iload c_153_104 rfl (n_aload_n c_153_106 rfl (n_getV (bi := 0) c_153_107 sc_112.n rfl rfl rfl (t_dm hS hdm) ?_))))
              intro z36 ez36 f37
              obtain rfl : z36 = 2 := by omega
              refine n_idivT (z := 0) c_153_110 (by omega) (by omega) (by omega) (by decide) ?_
              refine n_istore (L2 := [some (2, 112), some (0, m), some (2, 127), some (0, f), some (0, 2), some (0, x), some (0, y), some (0, z0), some (0, ((((0 * 2) + z18) * 2) + z34)), some (0, 0), some (0, (0 + 1)), some (0, z28)]) c_153_111 rfl rfl (n_iinc (L2 := [some (2, 112), some (0, m), some (2, 127), some (0, f), some (0, 2), some (0, x), some (0, y), some (0, z0), some (0, ((((0 * 2) + z18) * 2) + z34)), some (0, 0), some (0, ((0 + 1) + 1)), some (0, z28)]) c_153_113 rfl rfl rfl (n_goto c_153_116 (n_iload c_153_19 rfl (n_iload c_153_21 rfl ?_))))
              refine n_if2_ge c_153_23 (by omega) (by omega) ?_ ?_
              · intro h38
                refine n_iload c_153_119 rfl ?_
                exact n_rI c_153_121 rfl ⟨rfl, by omega⟩
              · intro h39
                exfalso; omega
            · intro h40
              exfalso; omega
          · intro h41
            exfalso; omega
      · intro h42
        exfalso; omega
    · intro h43
      refine n_iload c_153_43 rfl (n_aload_n c_153_45 rfl (n_getV (bi := 0) c_153_46 sc_112.n rfl rfl rfl (t_dm hS hdm) ?_))
      intro z44 ez44 f45
      obtain rfl : z44 = 2 := by omega
      refine n_imul c_153_49 rfl (n_iload c_153_50 rfl (n_iload c_153_52 rfl (n_idivV c_153_54 (by omega) (by omega) ?_)))
      intro z46 _ f47
      refine n_aload_n c_153_55 rfl (n_getV (bi := 0) c_153_56 sc_112.n rfl rfl rfl (t_dm hS hdm) ?_)
      intro z48 ez48 f49
      obtain rfl : z48 = 2 := by omega
      refine n_iremV c_153_59 (by omega) (by omega) ?_
      intro z50 _ f51
      refine n_iadd c_153_60 rfl (n_istore (L2 := [some (2, 112), some (0, m), some (2, 127), some (0, f), some (0, 2), some (0, x), some (0, y), some (0, z0), some (0, 0), some (0, 2), some (0, 0), some (0, ((z12 * 2) + z50))]) c_153_61 rfl rfl (n_iload_n c_153_63 rfl (n_iconst c_153_64 ?_)))
      refine n_if2_le c_153_65 (by omega) (by omega) ?_ ?_
      · intro h52
        refine n_iload c_153_88 rfl (n_aload_n c_153_90 rfl (n_getV (bi := 0) c_153_91 sc_112.n rfl rfl rfl (t_dm hS hdm) ?_))
        intro z53 ez53 f54
        obtain rfl : z53 = 2 := by omega
        refine n_imul c_153_94 rfl (n_aload_n c_153_95 rfl (n_iload_n c_153_96 rfl (n_iload c_153_97 rfl (n_iadd c_153_99 rfl (n_ialoadV c_153_100 sc_127.n rfl rfl rfl (by omega) (t_127 hS (by omega)) ?_)))))
        intro z55 ez55 f56
        refine n_iadd c_153_101 rfl (n_istore (L2 := [some (2, 112), some (0, m), some (2, 127), some (0, f), some (0, 2), some (0, x), some (0, y), some (0, z0), some (0, ((0 * 2) + z55)), some (0, 2), some (0, 0), some (0, ((z12 * 2) + z50))]) c_153_102 rfl rfl (n_iload c_153_104 rfl (n_aload_n c_153_106 rfl (n_getV (bi := 0) c_153_107 sc_112.n rfl rfl rfl (t_dm hS hdm) ?_))))
        intro z57 ez57 f58
        obtain rfl : z57 = 2 := by omega
        refine n_idivT (z := 1) c_153_110 (by omega) (by omega) (by omega) (by decide) ?_
        refine n_istore (L2 := [some (2, 112), some (0, m), some (2, 127), some (0, f), some (0, 2), some (0, x), some (0, y), some (0, z0), some (0, ((0 * 2) + z55)), some (0, 1), some (0, 0), some (0, ((z12 * 2) + z50))]) c_153_111 rfl rfl (n_iinc (L2 := [some (2, 112), some (0, m), some (2, 127), some (0, f), some (0, 2), some (0, x), some (0, y), some (0, z0), some (0, ((0 * 2) + z55)), some (0, 1), some (0, (0 + 1)), some (0, ((z12 * 2) + z50))]) c_153_113 rfl rfl rfl (n_goto c_153_116 (n_iload c_153_19 rfl (n_iload c_153_21 rfl ?_))))
        refine n_if2_ge c_153_23 (by omega) (by omega) ?_ ?_
        · intro h59
          exfalso; omega
        · intro h60
          refine n_iload c_153_26 rfl (n_iload c_153_28 rfl (n_idivV c_153_30 (by omega) (by omega) ?_))
          intro z61 _ f62
          refine n_aload_n c_153_31 rfl (n_getV (bi := 0) c_153_32 sc_112.n rfl rfl rfl (t_dm hS hdm) ?_)
          intro z63 ez63 f64
          obtain rfl : z63 = 2 := by omega
          refine n_iremV c_153_35 (by omega) (by omega) ?_
          intro z65 _ f66
          refine n_istore (L2 := [some (2, 112), some (0, m), some (2, 127), some (0, f), some (0, 2), some (0, x), some (0, y), some (0, z0), some (0, ((0 * 2) + z55)), some (0, 1), some (0, (0 + 1)), some (0, z65)]) c_153_36 rfl rfl (n_iload_n c_153_38 rfl (n_iconst c_153_39 ?_))
          refine n_if2_le c_153_40 (by omega) (by omega) ?_ ?_
          · intro h67
            exfalso; omega
          · intro h68
            refine n_iload c_153_43 rfl (n_aload_n c_153_45 rfl (n_getV (bi := 0) c_153_46 sc_112.n rfl rfl rfl (t_dm hS hdm) ?_))
            intro z69 ez69 f70
            obtain rfl : z69 = 2 := by omega
            refine n_imul c_153_49 rfl (n_iload c_153_50 rfl (n_iload c_153_52 rfl (n_idivV c_153_54 (by omega) (by omega) ?_)))
            intro z71 _ f72
            refine n_aload_n c_153_55 rfl (n_getV (bi := 0) c_153_56 sc_112.n rfl rfl rfl (t_dm hS hdm) ?_)
            intro z73 ez73 f74
            obtain rfl : z73 = 2 := by omega
            refine n_iremV c_153_59 (by omega) (by omega) ?_
            intro z75 _ f76
            refine n_iadd c_153_60 rfl (n_istore (L2 := [some (2, 112), some (0, m), some (2, 127), some (0, f), some (0, 2), some (0, x), some (0, y), some (0, z0), some (0, ((0 * 2) + z55)), some (0, 1), some (0, (0 + 1)), some (0, ((z65 * 2) + z75))]) c_153_61 rfl rfl (n_iload_n c_153_63 rfl (n_iconst c_153_64 ?_)))
            refine n_if2_le c_153_65 (by omega) (by omega) ?_ ?_
            · intro h77
              refine n_iload c_153_88 rfl (n_aload_n c_153_90 rfl (n_getV (bi := 0) c_153_91 sc_112.n rfl rfl rfl (t_dm hS hdm) ?_))
              intro z78 ez78 f79
              obtain rfl : z78 = 2 := by omega
              refine n_imul c_153_94 rfl (n_aload_n c_153_95 rfl (n_iload_n c_153_96 rfl (n_iload c_153_97 rfl (n_iadd c_153_99 rfl (n_ialoadV c_153_100 sc_127.n rfl rfl rfl (by omega) (t_127 hS (by omega)) ?_)))))
              intro z80 ez80 f81
              refine n_iadd c_153_101 rfl (n_istore (L2 := [some (2, 112), some (0, m), some (2, 127), some (0, f), some (0, 2), some (0, x), some (0, y), some (0, z0), some (0, ((((0 * 2) + z55) * 2) + z80)), some (0, 1), some (0, (0 + 1)), some (0, ((z65 * 2) + z75))]) c_153_102 rfl rfl (n_iload c_153_104 rfl (n_aload_n c_153_106 rfl (n_getV (bi := 0) c_153_107 sc_112.n rfl rfl rfl (t_dm hS hdm) ?_))))
              intro z82 ez82 f83
              obtain rfl : z82 = 2 := by omega
              refine n_idivT (z := 0) c_153_110 (by omega) (by omega) (by omega) (by decide) ?_
              refine n_istore (L2 := [some (2, 112), some (0, m), some (2, 127), some (0, f), some (0, 2), some (0, x), some (0, y), some (0, z0), some (0, ((((0 * 2) + z55) * 2) + z80)), some (0, 0), some (0, (0 + 1)), some (0, ((z65 * 2) + z75))]) c_153_111 rfl rfl (n_iinc (L2 := [some (2, 112), some (0, m), some (2, 127), some (0, f), some (0, 2), some (0, x), some (0, y), some (0, z0), some (0, ((((0 * 2) + z55) * 2) + z80)), some (0, 0), some (0, ((0 + 1) + 1)), some (0, ((z65 * 2) + z75))]) c_153_113 rfl rfl rfl (n_goto c_153_116 (n_iload c_153_19 rfl (n_iload c_153_21 rfl ?_))))
              refine n_if2_ge c_153_23 (by omega) (by omega) ?_ ?_
              · intro h84
                refine n_iload c_153_119 rfl ?_
                exact n_rI c_153_121 rfl ⟨rfl, by omega⟩
              · intro h85
                exfalso; omega
            · intro h86
              exfalso; omega
      · intro h87
        refine n_iload c_153_68 rfl (n_aload_n c_153_70 rfl (n_getV (bi := 0) c_153_71 sc_112.n rfl rfl rfl (t_dm hS hdm) ?_))
        intro z88 ez88 f89
        obtain rfl : z88 = 2 := by omega
        refine n_imul c_153_74 rfl (n_iload c_153_75 rfl (n_iload c_153_77 rfl (n_idivV c_153_79 (by omega) (by omega) ?_)))
        intro z90 _ f91
        refine n_aload_n c_153_80 rfl (n_getV (bi := 0) c_153_81 sc_112.n rfl rfl rfl (t_dm hS hdm) ?_)
        intro z92 ez92 f93
        obtain rfl : z92 = 2 := by omega
        refine n_iremV c_153_84 (by omega) (by omega) ?_
        intro z94 _ f95
        refine n_iadd c_153_85 rfl (n_istore (L2 := [some (2, 112), some (0, m), some (2, 127), some (0, f), some (0, 2), some (0, x), some (0, y), some (0, z0), some (0, 0), some (0, 2), some (0, 0), some (0, ((((z12 * 2) + z50) * 2) + z94))]) c_153_86 rfl rfl (n_iload c_153_88 rfl (n_aload_n c_153_90 rfl (n_getV (bi := 0) c_153_91 sc_112.n rfl rfl rfl (t_dm hS hdm) ?_))))
        intro z96 ez96 f97
        obtain rfl : z96 = 2 := by omega
        refine n_imul c_153_94 rfl (n_aload_n c_153_95 rfl (n_iload_n c_153_96 rfl (n_iload c_153_97 rfl (n_iadd c_153_99 rfl (n_ialoadV c_153_100 sc_127.n rfl rfl rfl (by omega) (t_127 hS (by omega)) ?_)))))
        intro z98 ez98 f99
        refine n_iadd c_153_101 rfl (n_istore (L2 := [some (2, 112), some (0, m), some (2, 127), some (0, f), some (0, 2), some (0, x), some (0, y), some (0, z0), some (0, ((0 * 2) + z98)), some (0, 2), some (0, 0), some (0, ((((z12 * 2) + z50) * 2) + z94))]) c_153_102 rfl rfl (n_iload c_153_104 rfl (n_aload_n c_153_106 rfl (n_getV (bi := 0) c_153_107 sc_112.n rfl rfl rfl (t_dm hS hdm) ?_))))
        intro z100 ez100 f101
        obtain rfl : z100 = 2 := by omega
        refine n_idivT (z := 1) c_153_110 (by omega) (by omega) (by omega) (by decide) ?_
        refine n_istore (L2 := [some (2, 112), some (0, m), some (2, 127), some (0, f), some (0, 2), some (0, x), some (0, y), some (0, z0), some (0, ((0 * 2) + z98)), some (0, 1), some (0, 0), some (0, ((((z12 * 2) + z50) * 2) + z94))]) c_153_111 rfl rfl (n_iinc (L2 := [some (2, 112), some (0, m), some (2, 127), some (0, f), some (0, 2), some (0, x), some (0, y), some (0, z0), some (0, ((0 * 2) + z98)), some (0, 1), some (0, (0 + 1)), some (0, ((((z12 * 2) + z50) * 2) + z94))]) c_153_113 rfl rfl rfl (n_goto c_153_116 (n_iload c_153_19 rfl (n_iload c_153_21 rfl ?_))))
        refine n_if2_ge c_153_23 (by omega) (by omega) ?_ ?_
        · intro h102
          exfalso; omega
        · intro h103
          refine n_iload c_153_26 rfl (n_iload c_153_28 rfl (n_idivV c_153_30 (by omega) (by omega) ?_))
          intro z104 _ f105
          refine n_aload_n c_153_31 rfl (n_getV (bi := 0) c_153_32 sc_112.n rfl rfl rfl (t_dm hS hdm) ?_)
          intro z106 ez106 f107
          obtain rfl : z106 = 2 := by omega
          refine n_iremV c_153_35 (by omega) (by omega) ?_
          intro z108 _ f109
          refine n_istore (L2 := [some (2, 112), some (0, m), some (2, 127), some (0, f), some (0, 2), some (0, x), some (0, y), some (0, z0), some (0, ((0 * 2) + z98)), some (0, 1), some (0, (0 + 1)), some (0, z108)]) c_153_36 rfl rfl (n_iload_n c_153_38 rfl (n_iconst c_153_39 ?_))
          refine n_if2_le c_153_40 (by omega) (by omega) ?_ ?_
          · intro h110
            exfalso; omega
          · intro h111
            refine n_iload c_153_43 rfl (n_aload_n c_153_45 rfl (n_getV (bi := 0) c_153_46 sc_112.n rfl rfl rfl (t_dm hS hdm) ?_))
            intro z112 ez112 f113
            obtain rfl : z112 = 2 := by omega
            refine n_imul c_153_49 rfl (n_iload c_153_50 rfl (n_iload c_153_52 rfl (n_idivV c_153_54 (by omega) (by omega) ?_)))
            intro z114 _ f115
            refine n_aload_n c_153_55 rfl (n_getV (bi := 0) c_153_56 sc_112.n rfl rfl rfl (t_dm hS hdm) ?_)
            intro z116 ez116 f117
            obtain rfl : z116 = 2 := by omega
            refine n_iremV c_153_59 (by omega) (by omega) ?_
            intro z118 _ f119
            refine n_iadd c_153_60 rfl (n_istore (L2 := [some (2, 112), some (0, m), some (2, 127), some (0, f), some (0, 2), some (0, x), some (0, y), some (0, z0), some (0, ((0 * 2) + z98)), some (0, 1), some (0, (0 + 1)), some (0, ((z108 * 2) + z118))]) c_153_61 rfl rfl (n_iload_n c_153_63 rfl (n_iconst c_153_64 ?_)))
            refine n_if2_le c_153_65 (by omega) (by omega) ?_ ?_
            · intro h120
              exfalso; omega
            · intro h121
              refine n_iload c_153_68 rfl (n_aload_n c_153_70 rfl (n_getV (bi := 0) c_153_71 sc_112.n rfl rfl rfl (t_dm hS hdm) ?_))
              intro z122 ez122 f123
              obtain rfl : z122 = 2 := by omega
              refine n_imul c_153_74 rfl (n_iload c_153_75 rfl (n_iload c_153_77 rfl (n_idivV c_153_79 (by omega) (by omega) ?_)))
              intro z124 _ f125
              refine n_aload_n c_153_80 rfl (n_getV (bi := 0) c_153_81 sc_112.n rfl rfl rfl (t_dm hS hdm) ?_)
              intro z126 ez126 f127
              obtain rfl : z126 = 2 := by omega
              refine n_iremV c_153_84 (by omega) (by omega) ?_
              intro z128 _ f129
              refine n_iadd c_153_85 rfl (n_istore (L2 := [some (2, 112), some (0, m), some (2, 127), some (0, f), some (0, 2), some (0, x), some (0, y), some (0, z0), some (0, ((0 * 2) + z98)), some (0, 1), some (0, (0 + 1)), some (0, ((((z108 * 2) + z118) * 2) + z128))]) c_153_86 rfl rfl (n_iload c_153_88 rfl (n_aload_n c_153_90 rfl (n_getV (bi := 0) c_153_91 sc_112.n rfl rfl rfl (t_dm hS hdm) ?_))))
              intro z130 ez130 f131
              obtain rfl : z130 = 2 := by omega
              refine n_imul c_153_94 rfl (n_aload_n c_153_95 rfl (n_iload_n c_153_96 rfl (n_iload c_153_97 rfl (n_iadd c_153_99 rfl (n_ialoadV c_153_100 sc_127.n rfl rfl rfl (by omega) (t_127 hS (by omega)) ?_)))))
              intro z132 ez132 f133
              refine n_iadd c_153_101 rfl (n_istore (L2 := [some (2, 112), some (0, m), some (2, 127), some (0, f), some (0, 2), some (0, x), some (0, y), some (0, z0), some (0, ((((0 * 2) + z98) * 2) + z132)), some (0, 1), some (0, (0 + 1)), some (0, ((((z108 * 2) + z118) * 2) + z128))]) c_153_102 rfl rfl (n_iload c_153_104 rfl (n_aload_n c_153_106 rfl (n_getV (bi := 0) c_153_107 sc_112.n rfl rfl rfl (t_dm hS hdm) ?_))))
              intro z134 ez134 f135
              obtain rfl : z134 = 2 := by omega
              refine n_idivT (z := 0) c_153_110 (by omega) (by omega) (by omega) (by decide) ?_
              refine n_istore (L2 := [some (2, 112), some (0, m), some (2, 127), some (0, f), some (0, 2), some (0, x), some (0, y), some (0, z0), some (0, ((((0 * 2) + z98) * 2) + z132)), some (0, 0), some (0, (0 + 1)), some (0, ((((z108 * 2) + z118) * 2) + z128))]) c_153_111 rfl rfl (n_iinc (L2 := [some (2, 112), some (0, m), some (2, 127), some (0, f), some (0, 2), some (0, x), some (0, y), some (0, z0), some (0, ((((0 * 2) + z98) * 2) + z132)), some (0, 0), some (0, ((0 + 1) + 1)), some (0, ((((z108 * 2) + z118) * 2) + z128))]) c_153_113 rfl rfl rfl (n_goto c_153_116 (n_iload c_153_19 rfl (n_iload c_153_21 rfl ?_))))
              refine n_if2_ge c_153_23 (by omega) (by omega) ?_ ?_
              · intro h136
                refine n_iload c_153_119 rfl ?_
                exact n_rI c_153_121 rfl ⟨rfl, by omega⟩
              · intro h137
                exfalso; omega
