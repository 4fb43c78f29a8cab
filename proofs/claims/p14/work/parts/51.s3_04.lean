/-! The methods, by program. -/
set_option maxHeartbeats 4000000 in
theorem mcount_3_c {xs : List Int32} {e : Nat} {ac : Int} {M0 M : nM} {w : Int} (hS : Sf 3 ac M0 M) (hdm : M0 112 0 = 3) (hw : -2147483648 ≤ w ∧ w ≤ 2147483647) : ∀ nn : Nat, (∀ (x2 x3 : Int), (-2147483648 ≤ x2 ∧ x2 ≤ 2147483647) → (0 ≤ x3 ∧ x3 ≤ 8) → (8 - x3) * 1 + 1 < (nn : Int) → nW xs e 201 69 [some (2, 112), none, some (0, x2), some (0, x3)] [] M (nPI fun z M1 => M = M1 ∧ (-2147483648 ≤ z ∧ z ≤ 2147483647))) := by
  have hd : (3 : Int) = 2 ∨ (3 : Int) = 3 := by decide
  have hac := hS.2.2.2.2
  intro nn
  induction nn with
  | zero => intros; omega
  | succ nn ih =>
    intro x2 x3 k2 k3 hnn
    refine n_iload_n c_201_69 rfl ?_
    refine n_bipush c_201_70 rfl ?_
    refine n_if2_ge c_201_72 (by omega) (by omega) ?_ ?_
    · intro h1
      refine n_iload_n c_201_98 rfl ?_
      exact n_rI c_201_99 rfl ⟨rfl, by omega⟩
    · intro h2
      refine n_iload_n c_201_75 rfl ?_
      refine n_aload_n c_201_76 rfl ?_
      refine n_getR c_201_77 sc_112.n rfl rfl rfl r_112_1 ?_
      refine n_iload_n c_201_80 rfl ?_
      refine n_ialoadV c_201_81 sc_113.n rfl rfl rfl (by omega) (t_113 hS (by omega)) ?_
      intro z3 ez3 f4
      refine n_if0_ne c_201_82 (by omega) ?_ ?_
      · intro h5
        refine n_iconst c_201_89 ?_
        refine n_iadd c_201_90 rfl ?_
        refine n_wrap ?_
        have f6 := n_wr_r (x2 + 1)
        generalize n_wr (x2 + 1) = z7 at f6 ⊢
        refine n_istore_n (L2 := [some (2, 112), none, some (0, z7), some (0, x3)]) c_201_91 rfl rfl ?_
        refine n_iinc (L2 := [some (2, 112), none, some (0, z7), some (0, (x3 + 1))]) c_201_92 rfl rfl rfl ?_
        refine n_goto c_201_95 ?_
        refine n_fg (le_s (le_n (le_s (le_s le_0)))) ?_
        exact ih _ _ (by omega) (by omega) (by omega)
      · intro h8
        refine n_iconst c_201_85 ?_
        refine n_goto c_201_86 ?_
        refine n_iadd c_201_90 rfl ?_
        refine n_istore_n (L2 := [some (2, 112), none, some (0, (x2 + 0)), some (0, x3)]) c_201_91 rfl rfl ?_
        refine n_iinc (L2 := [some (2, 112), none, some (0, (x2 + 0)), some (0, (x3 + 1))]) c_201_92 rfl rfl rfl ?_
        refine n_goto c_201_95 ?_
        refine n_fg (le_s (le_n (le_s (le_s le_0)))) ?_
        exact ih _ _ (by omega) (by omega) (by omega)
set_option maxHeartbeats 4000000 in
theorem mcount_3 {xs : List Int32} {e : Nat} {ac : Int} {M0 M : nM} {w : Int} (hS : Sf 3 ac M0 M) (hdm : M0 112 0 = 3) (hw : -2147483648 ≤ w ∧ w ≤ 2147483647) : nW xs e 201 0 [some (2, 112), some (0, w), none, none] [] M (nPI fun z M1 => M = M1 ∧ (-2147483648 ≤ z ∧ z ≤ 2147483647)) := by
  have hd : (3 : Int) = 2 ∨ (3 : Int) = 3 := by decide
  have hac := hS.2.2.2.2
  refine n_iload_n c_201_0 rfl ?_
  refine n_sw c_201_1 (by omega) (by decide) ?_ ?_
  · intro h1
    refine n_pc (k2 := 100) rfl ?_
    refine n_iconst c_201_100 ?_
    exact n_rI c_201_101 rfl ⟨rfl, by omega⟩
  · intro h2 h2b
    rcases (show w = 0 ∨ w = 1 ∨ w = 2 ∨ w = 3 ∨ w = 4 ∨ w = 5 by omega) with h2c | h2c | h2c | h2c | h2c | h2c
    · refine ⟨_, by rw [h2c]; rfl, by decide, ?_⟩
      refine n_pc (k2 := 40) rfl ?_
      refine n_aload_n c_201_40 rfl ?_
      refine n_getV (bi := 0) c_201_41 sc_112.n rfl rfl rfl (t_dm hS hdm) ?_
      intro z3 ez3 f4
      obtain rfl : z3 = 3 := by omega
      exact n_rI c_201_44 rfl ⟨rfl, by omega⟩
    · refine ⟨_, by rw [h2c]; rfl, by decide, ?_⟩
      refine n_pc (k2 := 45) rfl ?_
      refine n_aload_n c_201_45 rfl ?_
      refine n_getV (bi := 4) c_201_46 sc_112.n rfl rfl rfl (t_112_4 hS) ?_
      intro z5 ez5 f6
      exact n_rI c_201_49 rfl ⟨rfl, by omega⟩
    · refine ⟨_, by rw [h2c]; rfl, by decide, ?_⟩
      refine n_pc (k2 := 50) rfl ?_
      refine n_aload_n c_201_50 rfl ?_
      refine n_getV (bi := 7) c_201_51 sc_112.n rfl rfl rfl (t_112_7 hS) ?_
      intro z7 ez7 f8
      exact n_rI c_201_54 rfl ⟨rfl, by omega⟩
    · refine ⟨_, by rw [h2c]; rfl, by decide, ?_⟩
      refine n_pc (k2 := 55) rfl ?_
      refine n_aload_n c_201_55 rfl ?_
      refine n_getV (bi := 10) c_201_56 sc_112.n rfl rfl rfl (t_112_10 hS) ?_
      intro z9 ez9 f10
      exact n_rI c_201_59 rfl ⟨rfl, by omega⟩
    · refine ⟨_, by rw [h2c]; rfl, by decide, ?_⟩
      refine n_pc (k2 := 60) rfl ?_
      refine n_aload_n c_201_60 rfl ?_
      refine n_getV (bi := 11) c_201_61 sc_112.n rfl rfl rfl (t_112_11 hS) ?_
      intro z11 ez11 f12
      exact n_rI c_201_64 rfl ⟨rfl, by omega⟩
    · refine ⟨_, by rw [h2c]; rfl, by decide, ?_⟩
      refine n_pc (k2 := 65) rfl ?_
      refine n_iconst c_201_65 ?_
      refine n_istore_n (L2 := [some (2, 112), some (0, w), some (0, 0), none]) c_201_66 rfl rfl ?_
      refine n_iconst c_201_67 ?_
      refine n_istore_n (L2 := [some (2, 112), some (0, w), some (0, 0), some (0, 0)]) c_201_68 rfl rfl ?_
      refine n_fg (le_s (le_n (le_s (le_s le_0)))) ?_
      exact (mcount_3_c hS hdm hw 30) _ _ (by omega) (by omega) (by omega)
