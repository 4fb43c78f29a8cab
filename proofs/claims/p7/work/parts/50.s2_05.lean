/-! The methods, by program. -/
set_option maxHeartbeats 4000000 in
theorem seek5_2_c {xs : List Int32} {e : Nat} {ac : Int} {M0 M : nM} (hS : Sf 2 ac M0 M)  : ∀ nn : Nat, (∀ (x3 : Int) (M : nM), Sf 2 ac M0 M → (0 ≤ x3 ∧ x3 ≤ 3) → (3 - x3) * 2 + 2 < (nn : Int) → nW xs (e + 7) 71 23 [some (2, 38), some (0, 5), some (2, 44), some (0, x3)] [] M (nPI fun z M1 => Sf 2 ac M0 M1 ∧ (0 ≤ z ∧ z ≤ 1))) ∧ (∀ (x3 : Int) (M : nM), Sf 2 ac M0 M → (0 ≤ x3 ∧ x3 ≤ 2) → (3 - x3) * 2 + 1 < (nn : Int) → nW xs (e + 7) 71 59 [some (2, 38), some (0, 5), some (2, 44), some (0, x3)] [] M (nPI fun z M1 => Sf 2 ac M0 M1 ∧ (0 ≤ z ∧ z ≤ 1))) := by
  have hd : (2 : Int) = 2 ∨ (2 : Int) = 3 := by decide
  have hac := hS.2.2.2.2
  intro nn
  induction nn with
  | zero => refine ⟨?_, ?_⟩ <;> (intros; omega)
  | succ nn ih =>
    refine ⟨?_, ?_⟩
    · intro x3 M hS k3 hnn
      refine n_iload_n c_71_23 rfl ?_
      refine n_aload_n c_71_24 rfl ?_
      refine n_getV (bi := 5) c_71_25 sc_38.n rfl rfl rfl (t_38_5 hS) ?_
      intro z1 ez1 f2
      refine n_if2_ge c_71_28 (by omega) (by omega) ?_ ?_
      · intro h3
        refine n_iconst c_71_65 ?_
        exact n_rZ c_71_66 rfl (by omega) ⟨hS, by omega⟩
      · intro h4
        refine n_aload_n c_71_31 rfl ?_
        refine n_getR c_71_32 sc_38.n rfl rfl rfl r_38_0 ?_
        refine n_iload_n c_71_35 rfl ?_
        refine n_iload_n c_71_36 rfl ?_
        refine n_iastoreV hS c_71_37 sc_39.n rfl (by omega) (w_39 (by omega) (by omega)) ?_
        intro M5 eM5 hS5
        have g5_0 : M5 38 5 = M 38 5 := by rw [eM5]; exact nu_a (by omega)
        have g5_1 : M5 39 5 = x3 := by rw [eM5]; exact nu_s _ _ _ _
        refine n_aload_n c_71_38 rfl ?_
        refine n_iload_n c_71_39 rfl ?_
        refine n_v1I c_71_40 rfl sc_38.n rfl rfl rfl rfl (fits_2 (l := 5) hS5 (by omega)) ?_
        intro z6 M7 hP8
        obtain ⟨eM, f8⟩ := hP8
        subst eM
        refine n_if0_eq c_71_43 (by omega) ?_ ?_
        · intro h9
          refine n_fg (le_s (le_s (le_s (le_s le_0)))) ?_
          exact ih.2 _ M5 hS5 (by omega) (by omega)
        · intro h10
          refine n_aload_n c_71_46 rfl ?_
          refine n_iload_n c_71_47 rfl ?_
          refine n_iconst c_71_48 ?_
          refine n_iadd c_71_49 rfl ?_
          refine n_aload_n c_71_50 rfl ?_
          have hcst : ((5 + 1) : Int) = 6 := by omega
          rw [hcst]
          refine n_s3I c_71_51 rfl rfl rfl rfl (seek6_2  hS5 ) ?_
          intro z11 M12 hP13
          obtain ⟨hS12, f13⟩ := hP13
          refine n_if0_eq c_71_54 (by omega) ?_ ?_
          · intro h14
            refine n_fg (le_s (le_s (le_s (le_s le_0)))) ?_
            exact ih.2 _ M12 hS12 (by omega) (by omega)
          · intro h15
            refine n_iconst c_71_57 ?_
            exact n_rZ c_71_58 rfl (by omega) ⟨hS12, by omega⟩
    · intro x3 M hS k3 hnn
      refine n_iinc (L2 := [some (2, 38), some (0, 5), some (2, 44), some (0, (x3 + 1))]) c_71_59 rfl rfl rfl ?_
      refine n_goto c_71_62 ?_
      refine n_fg (le_s (le_s (le_s (le_s le_0)))) ?_
      exact ih.1 _ M hS (by omega) (by omega)
set_option maxHeartbeats 4000000 in
theorem seek5_2 {xs : List Int32} {e : Nat} {ac : Int} {M0 M : nM} (hS : Sf 2 ac M0 M)  : nW xs (e + 7) 71 0 [some (2, 38), some (0, 5), some (2, 44), none] [] M (nPI fun z M1 => Sf 2 ac M0 M1 ∧ (0 ≤ z ∧ z ≤ 1)) := by
  have hd : (2 : Int) = 2 ∨ (2 : Int) = 3 := by decide
  have hac := hS.2.2.2.2
  refine n_iload_n c_71_0 rfl ?_
  refine n_aload_n c_71_1 rfl ?_
  refine n_getV (bi := 6) c_71_2 sc_38.n rfl rfl rfl (t_38_6 hS) ?_
  intro z1 ez1 f2
  refine n_if2_lt c_71_5 (by omega) (by omega) ?_ ?_
  · intro h3
    refine n_iconst c_71_21 ?_
    refine n_istore_n (L2 := [some (2, 38), some (0, 5), some (2, 44), some (0, 0)]) c_71_22 rfl rfl ?_
    refine n_fg (le_s (le_s (le_s (le_s le_0)))) ?_
    exact (seek5_2_c hS  30).1 _ M hS (by omega) (by omega)
  · intro h4
    refine n_aload_n c_71_8 rfl ?_
    refine n_aload_n c_71_9 rfl ?_
    refine n_getR c_71_10 sc_38.n rfl rfl rfl r_38_0 ?_
    refine n_aload_n c_71_13 rfl ?_
    refine n_getV (bi := 5) c_71_14 sc_38.n rfl rfl rfl (t_38_5 hS) ?_
    intro z5 ez5 f6
    refine n_v2I c_71_17 rfl sc_44.n rfl rfl rfl rfl (suits_2 (t := z5) hS (by omega)) ?_
    intro z7 M8 hP9
    obtain ⟨eM, f9⟩ := hP9
    subst eM
    exact n_rZ c_71_20 rfl (by omega) ⟨hS, by omega⟩

set_option maxHeartbeats 4000000 in
theorem seek4_2_c {xs : List Int32} {e : Nat} {ac : Int} {M0 M : nM} (hS : Sf 2 ac M0 M)  : ∀ nn : Nat, (∀ (x3 : Int) (M : nM), Sf 2 ac M0 M → (0 ≤ x3 ∧ x3 ≤ 3) → (3 - x3) * 2 + 2 < (nn : Int) → nW xs (e + 8) 71 23 [some (2, 38), some (0, 4), some (2, 44), some (0, x3)] [] M (nPI fun z M1 => Sf 2 ac M0 M1 ∧ (0 ≤ z ∧ z ≤ 1))) ∧ (∀ (x3 : Int) (M : nM), Sf 2 ac M0 M → (0 ≤ x3 ∧ x3 ≤ 2) → (3 - x3) * 2 + 1 < (nn : Int) → nW xs (e + 8) 71 59 [some (2, 38), some (0, 4), some (2, 44), some (0, x3)] [] M (nPI fun z M1 => Sf 2 ac M0 M1 ∧ (0 ≤ z ∧ z ≤ 1))) := by
  have hd : (2 : Int) = 2 ∨ (2 : Int) = 3 := by decide
  have hac := hS.2.2.2.2
  intro nn
  induction nn with
  | zero => refine ⟨?_, ?_⟩ <;> (intros; omega)
  | succ nn ih =>
    refine ⟨?_, ?_⟩
    · intro x3 M hS k3 hnn
      refine n_iload_n c_71_23 rfl ?_
      refine n_aload_n c_71_24 rfl ?_
      refine n_getV (bi := 5) c_71_25 sc_38.n rfl rfl rfl (t_38_5 hS) ?_
      intro z1 ez1 f2
      refine n_if2_ge c_71_28 (by omega) (by omega) ?_ ?_
      · intro h3
        refine n_iconst c_71_65 ?_
        exact n_rZ c_71_66 rfl (by omega) ⟨hS, by omega⟩
      · intro h4
        refine n_aload_n c_71_31 rfl ?_
        refine n_getR c_71_32 sc_38.n rfl rfl rfl r_38_0 ?_
        refine n_iload_n c_71_35 rfl ?_
        refine n_iload_n c_71_36 rfl ?_
        refine n_iastoreV hS c_71_37 sc_39.n rfl (by omega) (w_39 (by omega) (by omega)) ?_
        intro M5 eM5 hS5
        have g5_0 : M5 38 5 = M 38 5 := by rw [eM5]; exact nu_a (by omega)
        have g5_1 : M5 39 4 = x3 := by rw [eM5]; exact nu_s _ _ _ _
        refine n_aload_n c_71_38 rfl ?_
        refine n_iload_n c_71_39 rfl ?_
        refine n_v1I c_71_40 rfl sc_38.n rfl rfl rfl rfl (fits_2 (l := 4) hS5 (by omega)) ?_
        intro z6 M7 hP8
        obtain ⟨eM, f8⟩ := hP8
        subst eM
        refine n_if0_eq c_71_43 (by omega) ?_ ?_
        · intro h9
          refine n_fg (le_s (le_s (le_s (le_s le_0)))) ?_
          exact ih.2 _ M5 hS5 (by omega) (by omega)
        · intro h10
          refine n_aload_n c_71_46 rfl ?_
          refine n_iload_n c_71_47 rfl ?_
          refine n_iconst c_71_48 ?_
          refine n_iadd c_71_49 rfl ?_
          refine n_aload_n c_71_50 rfl ?_
          have hcst : ((4 + 1) : Int) = 5 := by omega
          rw [hcst]
          refine n_s3I c_71_51 rfl rfl rfl rfl (seek5_2  hS5 ) ?_
          intro z11 M12 hP13
          obtain ⟨hS12, f13⟩ := hP13
          refine n_if0_eq c_71_54 (by omega) ?_ ?_
          · intro h14
            refine n_fg (le_s (le_s (le_s (le_s le_0)))) ?_
            exact ih.2 _ M12 hS12 (by omega) (by omega)
          · intro h15
            refine n_iconst c_71_57 ?_
            exact n_rZ c_71_58 rfl (by omega) ⟨hS12, by omega⟩
    · intro x3 M hS k3 hnn
      refine n_iinc (L2 := [some (2, 38), some (0, 4), some (2, 44), some (0, (x3 + 1))]) c_71_59 rfl rfl rfl ?_
      refine n_goto c_71_62 ?_
      refine n_fg (le_s (le_s (le_s (le_s le_0)))) ?_
      exact ih.1 _ M hS (by omega) (by omega)
set_option maxHeartbeats 4000000 in
theorem seek4_2 {xs : List Int32} {e : Nat} {ac : Int} {M0 M : nM} (hS : Sf 2 ac M0 M)  : nW xs (e + 8) 71 0 [some (2, 38), some (0, 4), some (2, 44), none] [] M (nPI fun z M1 => Sf 2 ac M0 M1 ∧ (0 ≤ z ∧ z ≤ 1)) := by
  have hd : (2 : Int) = 2 ∨ (2 : Int) = 3 := by decide
  have hac := hS.2.2.2.2
  refine n_iload_n c_71_0 rfl ?_
  refine n_aload_n c_71_1 rfl ?_
  refine n_getV (bi := 6) c_71_2 sc_38.n rfl rfl rfl (t_38_6 hS) ?_
  intro z1 ez1 f2
  refine n_if2_lt c_71_5 (by omega) (by omega) ?_ ?_
  · intro h3
    refine n_iconst c_71_21 ?_
    refine n_istore_n (L2 := [some (2, 38), some (0, 4), some (2, 44), some (0, 0)]) c_71_22 rfl rfl ?_
    refine n_fg (le_s (le_s (le_s (le_s le_0)))) ?_
    exact (seek4_2_c hS  30).1 _ M hS (by omega) (by omega)
  · intro h4
    refine n_aload_n c_71_8 rfl ?_
    refine n_aload_n c_71_9 rfl ?_
    refine n_getR c_71_10 sc_38.n rfl rfl rfl r_38_0 ?_
    refine n_aload_n c_71_13 rfl ?_
    refine n_getV (bi := 5) c_71_14 sc_38.n rfl rfl rfl (t_38_5 hS) ?_
    intro z5 ez5 f6
    refine n_v2I c_71_17 rfl sc_44.n rfl rfl rfl rfl (suits_2 (t := z5) hS (by omega)) ?_
    intro z7 M8 hP9
    obtain ⟨eM, f9⟩ := hP9
    subst eM
    exact n_rZ c_71_20 rfl (by omega) ⟨hS, by omega⟩

set_option maxHeartbeats 4000000 in
theorem seek3_2_c {xs : List Int32} {e : Nat} {ac : Int} {M0 M : nM} (hS : Sf 2 ac M0 M)  : ∀ nn : Nat, (∀ (x3 : Int) (M : nM), Sf 2 ac M0 M → (0 ≤ x3 ∧ x3 ≤ 3) → (3 - x3) * 2 + 2 < (nn : Int) → nW xs (e + 9) 71 23 [some (2, 38), some (0, 3), some (2, 44), some (0, x3)] [] M (nPI fun z M1 => Sf 2 ac M0 M1 ∧ (0 ≤ z ∧ z ≤ 1))) ∧ (∀ (x3 : Int) (M : nM), Sf 2 ac M0 M → (0 ≤ x3 ∧ x3 ≤ 2) → (3 - x3) * 2 + 1 < (nn : Int) → nW xs (e + 9) 71 59 [some (2, 38), some (0, 3), some (2, 44), some (0, x3)] [] M (nPI fun z M1 => Sf 2 ac M0 M1 ∧ (0 ≤ z ∧ z ≤ 1))) := by
  have hd : (2 : Int) = 2 ∨ (2 : Int) = 3 := by decide
  have hac := hS.2.2.2.2
  intro nn
  induction nn with
  | zero => refine ⟨?_, ?_⟩ <;> (intros; omega)
  | succ nn ih =>
    refine ⟨?_, ?_⟩
    · intro x3 M hS k3 hnn
      refine n_iload_n c_71_23 rfl ?_
      refine n_aload_n c_71_24 rfl ?_
      refine n_getV (bi := 5) c_71_25 sc_38.n rfl rfl rfl (t_38_5 hS) ?_
      intro z1 ez1 f2
      refine n_if2_ge c_71_28 (by omega) (by omega) ?_ ?_
      · intro h3
        refine n_iconst c_71_65 ?_
        exact n_rZ c_71_66 rfl (by omega) ⟨hS, by omega⟩
      · intro h4
        refine n_aload_n c_71_31 rfl ?_
        refine n_getR c_71_32 sc_38.n rfl rfl rfl r_38_0 ?_
        refine n_iload_n c_71_35 rfl ?_
        refine n_iload_n c_71_36 rfl ?_
        refine n_iastoreV hS c_71_37 sc_39.n rfl (by omega) (w_39 (by omega) (by omega)) ?_
        intro M5 eM5 hS5
        have g5_0 : M5 38 5 = M 38 5 := by rw [eM5]; exact nu_a (by omega)
        have g5_1 : M5 39 3 = x3 := by rw [eM5]; exact nu_s _ _ _ _
        refine n_aload_n c_71_38 rfl ?_
        refine n_iload_n c_71_39 rfl ?_
        refine n_v1I c_71_40 rfl sc_38.n rfl rfl rfl rfl (fits_2 (l := 3) hS5 (by omega)) ?_
        intro z6 M7 hP8
        obtain ⟨eM, f8⟩ := hP8
        subst eM
        refine n_if0_eq c_71_43 (by omega) ?_ ?_
        · intro h9
          refine n_fg (le_s (le_s (le_s (le_s le_0)))) ?_
          exact ih.2 _ M5 hS5 (by omega) (by omega)
        · intro h10
          refine n_aload_n c_71_46 rfl ?_
          refine n_iload_n c_71_47 rfl ?_
          refine n_iconst c_71_48 ?_
          refine n_iadd c_71_49 rfl ?_
          refine n_aload_n c_71_50 rfl ?_
          have hcst : ((3 + 1) : Int) = 4 := by omega
          rw [hcst]
          refine n_s3I c_71_51 rfl rfl rfl rfl (seek4_2  hS5 ) ?_
          intro z11 M12 hP13
          obtain ⟨hS12, f13⟩ := hP13
          refine n_if0_eq c_71_54 (by omega) ?_ ?_
          · intro h14
            refine n_fg (le_s (le_s (le_s (le_s le_0)))) ?_
            exact ih.2 _ M12 hS12 (by omega) (by omega)
          · intro h15
            refine n_iconst c_71_57 ?_
            exact n_rZ c_71_58 rfl (by omega) ⟨hS12, by omega⟩
    · intro x3 M hS k3 hnn
      refine n_iinc (L2 := [some (2, 38), some (0, 3), some (2, 44), some (0, (x3 + 1))]) c_71_59 rfl rfl rfl ?_
      refine n_goto c_71_62 ?_
      refine n_fg (le_s (le_s (le_s (le_s le_0)))) ?_
      exact ih.1 _ M hS (by omega) (by omega)
set_option maxHeartbeats 4000000 in
theorem seek3_2 {xs : List Int32} {e : Nat} {ac : Int} {M0 M : nM} (hS : Sf 2 ac M0 M)  : nW xs (e + 9) 71 0 [some (2, 38), some (0, 3), some (2, 44), none] [] M (nPI fun z M1 => Sf 2 ac M0 M1 ∧ (0 ≤ z ∧ z ≤ 1)) := by
  have hd : (2 : Int) = 2 ∨ (2 : Int) = 3 := by decide
  have hac := hS.2.2.2.2
  refine n_iload_n c_71_0 rfl ?_
  refine n_aload_n c_71_1 rfl ?_
  refine n_getV (bi := 6) c_71_2 sc_38.n rfl rfl rfl (t_38_6 hS) ?_
  intro z1 ez1 f2
  refine n_if2_lt c_71_5 (by omega) (by omega) ?_ ?_
  · intro h3
    refine n_iconst c_71_21 ?_
    refine n_istore_n (L2 := [some (2, 38), some (0, 3), some (2, 44), some (0, 0)]) c_71_22 rfl rfl ?_
    refine n_fg (le_s (le_s (le_s (le_s le_0)))) ?_
    exact (seek3_2_c hS  30).1 _ M hS (by omega) (by omega)
  · intro h4
    refine n_aload_n c_71_8 rfl ?_
    refine n_aload_n c_71_9 rfl ?_
    refine n_getR c_71_10 sc_38.n rfl rfl rfl r_38_0 ?_
    refine n_aload_n c_71_13 rfl ?_
    refine n_getV (bi := 5) c_71_14 sc_38.n rfl rfl rfl (t_38_5 hS) ?_
    intro z5 ez5 f6
    refine n_v2I c_71_17 rfl sc_44.n rfl rfl rfl rfl (suits_2 (t := z5) hS (by omega)) ?_
    intro z7 M8 hP9
    obtain ⟨eM, f9⟩ := hP9
    subst eM
    exact n_rZ c_71_20 rfl (by omega) ⟨hS, by omega⟩

set_option maxHeartbeats 4000000 in
theorem seek2_2_c {xs : List Int32} {e : Nat} {ac : Int} {M0 M : nM} (hS : Sf 2 ac M0 M)  : ∀ nn : Nat, (∀ (x3 : Int) (M : nM), Sf 2 ac M0 M → (0 ≤ x3 ∧ x3 ≤ 3) → (3 - x3) * 2 + 2 < (nn : Int) → nW xs (e + 10) 71 23 [some (2, 38), some (0, 2), some (2, 44), some (0, x3)] [] M (nPI fun z M1 => Sf 2 ac M0 M1 ∧ (0 ≤ z ∧ z ≤ 1))) ∧ (∀ (x3 : Int) (M : nM), Sf 2 ac M0 M → (0 ≤ x3 ∧ x3 ≤ 2) → (3 - x3) * 2 + 1 < (nn : Int) → nW xs (e + 10) 71 59 [some (2, 38), some (0, 2), some (2, 44), some (0, x3)] [] M (nPI fun z M1 => Sf 2 ac M0 M1 ∧ (0 ≤ z ∧ z ≤ 1))) := by
  have hd : (2 : Int) = 2 ∨ (2 : Int) = 3 := by decide
  have hac := hS.2.2.2.2
  intro nn
  induction nn with
  | zero => refine ⟨?_, ?_⟩ <;> (intros; omega)
  | succ nn ih =>
    refine ⟨?_, ?_⟩
    · intro x3 M hS k3 hnn
      refine n_iload_n c_71_23 rfl ?_
      refine n_aload_n c_71_24 rfl ?_
      refine n_getV (bi := 5) c_71_25 sc_38.n rfl rfl rfl (t_38_5 hS) ?_
      intro z1 ez1 f2
      refine n_if2_ge c_71_28 (by omega) (by omega) ?_ ?_
      · intro h3
        refine n_iconst c_71_65 ?_
        exact n_rZ c_71_66 rfl (by omega) ⟨hS, by omega⟩
      · intro h4
        refine n_aload_n c_71_31 rfl ?_
        refine n_getR c_71_32 sc_38.n rfl rfl rfl r_38_0 ?_
        refine n_iload_n c_71_35 rfl ?_
        refine n_iload_n c_71_36 rfl ?_
        refine n_iastoreV hS c_71_37 sc_39.n rfl (by omega) (w_39 (by omega) (by omega)) ?_
        intro M5 eM5 hS5
        have g5_0 : M5 38 5 = M 38 5 := by rw [eM5]; exact nu_a (by omega)
        have g5_1 : M5 39 2 = x3 := by rw [eM5]; exact nu_s _ _ _ _
        refine n_aload_n c_71_38 rfl ?_
        refine n_iload_n c_71_39 rfl ?_
        refine n_v1I c_71_40 rfl sc_38.n rfl rfl rfl rfl (fits_2 (l := 2) hS5 (by omega)) ?_
        intro z6 M7 hP8
        obtain ⟨eM, f8⟩ := hP8
        subst eM
        refine n_if0_eq c_71_43 (by omega) ?_ ?_
        · intro h9
          refine n_fg (le_s (le_s (le_s (le_s le_0)))) ?_
          exact ih.2 _ M5 hS5 (by omega) (by omega)
        · intro h10
          refine n_aload_n c_71_46 rfl ?_
          refine n_iload_n c_71_47 rfl ?_
          refine n_iconst c_71_48 ?_
          refine n_iadd c_71_49 rfl ?_
          refine n_aload_n c_71_50 rfl ?_
          have hcst : ((2 + 1) : Int) = 3 := by omega
          rw [hcst]
          refine n_s3I c_71_51 rfl rfl rfl rfl (seek3_2  hS5 ) ?_
          intro z11 M12 hP13
          obtain ⟨hS12, f13⟩ := hP13
          refine n_if0_eq c_71_54 (by omega) ?_ ?_
          · intro h14
            refine n_fg (le_s (le_s (le_s (le_s le_0)))) ?_
            exact ih.2 _ M12 hS12 (by omega) (by omega)
          · intro h15
            refine n_iconst c_71_57 ?_
            exact n_rZ c_71_58 rfl (by omega) ⟨hS12, by omega⟩
    · intro x3 M hS k3 hnn
      refine n_iinc (L2 := [some (2, 38), some (0, 2), some (2, 44), some (0, (x3 + 1))]) c_71_59 rfl rfl rfl ?_
      refine n_goto c_71_62 ?_
      refine n_fg (le_s (le_s (le_s (le_s le_0)))) ?_
      exact ih.1 _ M hS (by omega) (by omega)
set_option maxHeartbeats 4000000 in
theorem seek2_2 {xs : List Int32} {e : Nat} {ac : Int} {M0 M : nM} (hS : Sf 2 ac M0 M)  : nW xs (e + 10) 71 0 [some (2, 38), some (0, 2), some (2, 44), none] [] M (nPI fun z M1 => Sf 2 ac M0 M1 ∧ (0 ≤ z ∧ z ≤ 1)) := by
  have hd : (2 : Int) = 2 ∨ (2 : Int) = 3 := by decide
  have hac := hS.2.2.2.2
  refine n_iload_n c_71_0 rfl ?_
  refine n_aload_n c_71_1 rfl ?_
  refine n_getV (bi := 6) c_71_2 sc_38.n rfl rfl rfl (t_38_6 hS) ?_
  intro z1 ez1 f2
  refine n_if2_lt c_71_5 (by omega) (by omega) ?_ ?_
  · intro h3
    refine n_iconst c_71_21 ?_
    refine n_istore_n (L2 := [some (2, 38), some (0, 2), some (2, 44), some (0, 0)]) c_71_22 rfl rfl ?_
    refine n_fg (le_s (le_s (le_s (le_s le_0)))) ?_
    exact (seek2_2_c hS  30).1 _ M hS (by omega) (by omega)
  · intro h4
    refine n_aload_n c_71_8 rfl ?_
    refine n_aload_n c_71_9 rfl ?_
    refine n_getR c_71_10 sc_38.n rfl rfl rfl r_38_0 ?_
    refine n_aload_n c_71_13 rfl ?_
    refine n_getV (bi := 5) c_71_14 sc_38.n rfl rfl rfl (t_38_5 hS) ?_
    intro z5 ez5 f6
    refine n_v2I c_71_17 rfl sc_44.n rfl rfl rfl rfl (suits_2 (t := z5) hS (by omega)) ?_
    intro z7 M8 hP9
    obtain ⟨eM, f9⟩ := hP9
    subst eM
    exact n_rZ c_71_20 rfl (by omega) ⟨hS, by omega⟩

set_option maxHeartbeats 4000000 in
theorem seek1_2_c {xs : List Int32} {e : Nat} {ac : Int} {M0 M : nM} (hS : Sf 2 ac M0 M)  : ∀ nn : Nat, (∀ (x3 : Int) (M : nM), Sf 2 ac M0 M → (0 ≤ x3 ∧ x3 ≤ 3) → (3 - x3) * 2 + 2 < (nn : Int) → nW xs (e + 11) 71 23 [some (2, 38), some (0, 1), some (2, 44), some (0, x3)] [] M (nPI fun z M1 => Sf 2 ac M0 M1 ∧ (0 ≤ z ∧ z ≤ 1))) ∧ (∀ (x3 : Int) (M : nM), Sf 2 ac M0 M → (0 ≤ x3 ∧ x3 ≤ 2) → (3 - x3) * 2 + 1 < (nn : Int) → nW xs (e + 11) 71 59 [some (2, 38), some (0, 1), some (2, 44), some (0, x3)] [] M (nPI fun z M1 => Sf 2 ac M0 M1 ∧ (0 ≤ z ∧ z ≤ 1))) := by
  have hd : (2 : Int) = 2 ∨ (2 : Int) = 3 := by decide
  have hac := hS.2.2.2.2
  intro nn
  induction nn with
  | zero => refine ⟨?_, ?_⟩ <;> (intros; omega)
  | succ nn ih =>
    refine ⟨?_, ?_⟩
    · intro x3 M hS k3 hnn
      refine n_iload_n c_71_23 rfl ?_
      refine n_aload_n c_71_24 rfl ?_
      refine n_getV (bi := 5) c_71_25 sc_38.n rfl rfl rfl (t_38_5 hS) ?_
      intro z1 ez1 f2
      refine n_if2_ge c_71_28 (by omega) (by omega) ?_ ?_
      · intro h3
        refine n_iconst c_71_65 ?_
        exact n_rZ c_71_66 rfl (by omega) ⟨hS, by omega⟩
      · intro h4
        refine n_aload_n c_71_31 rfl ?_
        refine n_getR c_71_32 sc_38.n rfl rfl rfl r_38_0 ?_
        refine n_iload_n c_71_35 rfl ?_
        refine n_iload_n c_71_36 rfl ?_
        refine n_iastoreV hS c_71_37 sc_39.n rfl (by omega) (w_39 (by omega) (by omega)) ?_
        intro M5 eM5 hS5
        have g5_0 : M5 38 5 = M 38 5 := by rw [eM5]; exact nu_a (by omega)
        have g5_1 : M5 39 1 = x3 := by rw [eM5]; exact nu_s _ _ _ _
        refine n_aload_n c_71_38 rfl ?_
        refine n_iload_n c_71_39 rfl ?_
        refine n_v1I c_71_40 rfl sc_38.n rfl rfl rfl rfl (fits_2 (l := 1) hS5 (by omega)) ?_
        intro z6 M7 hP8
        obtain ⟨eM, f8⟩ := hP8
        subst eM
        refine n_if0_eq c_71_43 (by omega) ?_ ?_
        · intro h9
          refine n_fg (le_s (le_s (le_s (le_s le_0)))) ?_
          exact ih.2 _ M5 hS5 (by omega) (by omega)
        · intro h10
          refine n_aload_n c_71_46 rfl ?_
          refine n_iload_n c_71_47 rfl ?_
          refine n_iconst c_71_48 ?_
          refine n_iadd c_71_49 rfl ?_
          refine n_aload_n c_71_50 rfl ?_
          have hcst : ((1 + 1) : Int) = 2 := by omega
          rw [hcst]
          refine n_s3I c_71_51 rfl rfl rfl rfl (seek2_2  hS5 ) ?_
          intro z11 M12 hP13
          obtain ⟨hS12, f13⟩ := hP13
          refine n_if0_eq c_71_54 (by omega) ?_ ?_
          · intro h14
            refine n_fg (le_s (le_s (le_s (le_s le_0)))) ?_
            exact ih.2 _ M12 hS12 (by omega) (by omega)
          · intro h15
            refine n_iconst c_71_57 ?_
            exact n_rZ c_71_58 rfl (by omega) ⟨hS12, by omega⟩
    · intro x3 M hS k3 hnn
      refine n_iinc (L2 := [some (2, 38), some (0, 1), some (2, 44), some (0, (x3 + 1))]) c_71_59 rfl rfl rfl ?_
      refine n_goto c_71_62 ?_
      refine n_fg (le_s (le_s (le_s (le_s le_0)))) ?_
      exact ih.1 _ M hS (by omega) (by omega)
set_option maxHeartbeats 4000000 in
theorem seek1_2 {xs : List Int32} {e : Nat} {ac : Int} {M0 M : nM} (hS : Sf 2 ac M0 M)  : nW xs (e + 11) 71 0 [some (2, 38), some (0, 1), some (2, 44), none] [] M (nPI fun z M1 => Sf 2 ac M0 M1 ∧ (0 ≤ z ∧ z ≤ 1)) := by
  have hd : (2 : Int) = 2 ∨ (2 : Int) = 3 := by decide
  have hac := hS.2.2.2.2
  refine n_iload_n c_71_0 rfl ?_
  refine n_aload_n c_71_1 rfl ?_
  refine n_getV (bi := 6) c_71_2 sc_38.n rfl rfl rfl (t_38_6 hS) ?_
  intro z1 ez1 f2
  refine n_if2_lt c_71_5 (by omega) (by omega) ?_ ?_
  · intro h3
    refine n_iconst c_71_21 ?_
    refine n_istore_n (L2 := [some (2, 38), some (0, 1), some (2, 44), some (0, 0)]) c_71_22 rfl rfl ?_
    refine n_fg (le_s (le_s (le_s (le_s le_0)))) ?_
    exact (seek1_2_c hS  30).1 _ M hS (by omega) (by omega)
  · intro h4
    refine n_aload_n c_71_8 rfl ?_
    refine n_aload_n c_71_9 rfl ?_
    refine n_getR c_71_10 sc_38.n rfl rfl rfl r_38_0 ?_
    refine n_aload_n c_71_13 rfl ?_
    refine n_getV (bi := 5) c_71_14 sc_38.n rfl rfl rfl (t_38_5 hS) ?_
    intro z5 ez5 f6
    refine n_v2I c_71_17 rfl sc_44.n rfl rfl rfl rfl (suits_2 (t := z5) hS (by omega)) ?_
    intro z7 M8 hP9
    obtain ⟨eM, f9⟩ := hP9
    subst eM
    exact n_rZ c_71_20 rfl (by omega) ⟨hS, by omega⟩

set_option maxHeartbeats 4000000 in
theorem seek0_2_c {xs : List Int32} {e : Nat} {ac : Int} {M0 M : nM} (hS : Sf 2 ac M0 M)  : ∀ nn : Nat, (∀ (x3 : Int) (M : nM), Sf 2 ac M0 M → (0 ≤ x3 ∧ x3 ≤ 3) → (3 - x3) * 2 + 2 < (nn : Int) → nW xs (e + 12) 71 23 [some (2, 38), some (0, 0), some (2, 44), some (0, x3)] [] M (nPI fun z M1 => Sf 2 ac M0 M1 ∧ (0 ≤ z ∧ z ≤ 1))) ∧ (∀ (x3 : Int) (M : nM), Sf 2 ac M0 M → (0 ≤ x3 ∧ x3 ≤ 2) → (3 - x3) * 2 + 1 < (nn : Int) → nW xs (e + 12) 71 59 [some (2, 38), some (0, 0), some (2, 44), some (0, x3)] [] M (nPI fun z M1 => Sf 2 ac M0 M1 ∧ (0 ≤ z ∧ z ≤ 1))) := by
  have hd : (2 : Int) = 2 ∨ (2 : Int) = 3 := by decide
  have hac := hS.2.2.2.2
  intro nn
  induction nn with
  | zero => refine ⟨?_, ?_⟩ <;> (intros; omega)
  | succ nn ih =>
    refine ⟨?_, ?_⟩
    · intro x3 M hS k3 hnn
      refine n_iload_n c_71_23 rfl ?_
      refine n_aload_n c_71_24 rfl ?_
      refine n_getV (bi := 5) c_71_25 sc_38.n rfl rfl rfl (t_38_5 hS) ?_
      intro z1 ez1 f2
      refine n_if2_ge c_71_28 (by omega) (by omega) ?_ ?_
      · intro h3
        refine n_iconst c_71_65 ?_
        exact n_rZ c_71_66 rfl (by omega) ⟨hS, by omega⟩
      · intro h4
        refine n_aload_n c_71_31 rfl ?_
        refine n_getR c_71_32 sc_38.n rfl rfl rfl r_38_0 ?_
        refine n_iload_n c_71_35 rfl ?_
        refine n_iload_n c_71_36 rfl ?_
        refine n_iastoreV hS c_71_37 sc_39.n rfl (by omega) (w_39 (by omega) (by omega)) ?_
        intro M5 eM5 hS5
        have g5_0 : M5 38 5 = M 38 5 := by rw [eM5]; exact nu_a (by omega)
        have g5_1 : M5 39 0 = x3 := by rw [eM5]; exact nu_s _ _ _ _
        refine n_aload_n c_71_38 rfl ?_
        refine n_iload_n c_71_39 rfl ?_
        refine n_v1I c_71_40 rfl sc_38.n rfl rfl rfl rfl (fits_2 (l := 0) hS5 (by omega)) ?_
        intro z6 M7 hP8
        obtain ⟨eM, f8⟩ := hP8
        subst eM
        refine n_if0_eq c_71_43 (by omega) ?_ ?_
        · intro h9
          refine n_fg (le_s (le_s (le_s (le_s le_0)))) ?_
          exact ih.2 _ M5 hS5 (by omega) (by omega)
        · intro h10
          refine n_aload_n c_71_46 rfl ?_
          refine n_iload_n c_71_47 rfl ?_
          refine n_iconst c_71_48 ?_
          refine n_iadd c_71_49 rfl ?_
          refine n_aload_n c_71_50 rfl ?_
          have hcst : ((0 + 1) : Int) = 1 := by omega
          rw [hcst]
          refine n_s3I c_71_51 rfl rfl rfl rfl (seek1_2  hS5 ) ?_
          intro z11 M12 hP13
          obtain ⟨hS12, f13⟩ := hP13
          refine n_if0_eq c_71_54 (by omega) ?_ ?_
          · intro h14
            refine n_fg (le_s (le_s (le_s (le_s le_0)))) ?_
            exact ih.2 _ M12 hS12 (by omega) (by omega)
          · intro h15
            refine n_iconst c_71_57 ?_
            exact n_rZ c_71_58 rfl (by omega) ⟨hS12, by omega⟩
    · intro x3 M hS k3 hnn
      refine n_iinc (L2 := [some (2, 38), some (0, 0), some (2, 44), some (0, (x3 + 1))]) c_71_59 rfl rfl rfl ?_
      refine n_goto c_71_62 ?_
      refine n_fg (le_s (le_s (le_s (le_s le_0)))) ?_
      exact ih.1 _ M hS (by omega) (by omega)
set_option maxHeartbeats 4000000 in
theorem seek0_2 {xs : List Int32} {e : Nat} {ac : Int} {M0 M : nM} (hS : Sf 2 ac M0 M)  : nW xs (e + 12) 71 0 [some (2, 38), some (0, 0), some (2, 44), none] [] M (nPI fun z M1 => Sf 2 ac M0 M1 ∧ (0 ≤ z ∧ z ≤ 1)) := by
  have hd : (2 : Int) = 2 ∨ (2 : Int) = 3 := by decide
  have hac := hS.2.2.2.2
  refine n_iload_n c_71_0 rfl ?_
  refine n_aload_n c_71_1 rfl ?_
  refine n_getV (bi := 6) c_71_2 sc_38.n rfl rfl rfl (t_38_6 hS) ?_
  intro z1 ez1 f2
  refine n_if2_lt c_71_5 (by omega) (by omega) ?_ ?_
  · intro h3
    refine n_iconst c_71_21 ?_
    refine n_istore_n (L2 := [some (2, 38), some (0, 0), some (2, 44), some (0, 0)]) c_71_22 rfl rfl ?_
    refine n_fg (le_s (le_s (le_s (le_s le_0)))) ?_
    exact (seek0_2_c hS  30).1 _ M hS (by omega) (by omega)
  · intro h4
    refine n_aload_n c_71_8 rfl ?_
    refine n_aload_n c_71_9 rfl ?_
    refine n_getR c_71_10 sc_38.n rfl rfl rfl r_38_0 ?_
    refine n_aload_n c_71_13 rfl ?_
    refine n_getV (bi := 5) c_71_14 sc_38.n rfl rfl rfl (t_38_5 hS) ?_
    intro z5 ez5 f6
    refine n_v2I c_71_17 rfl sc_44.n rfl rfl rfl rfl (suits_2 (t := z5) hS (by omega)) ?_
    intro z7 M8 hP9
    obtain ⟨eM, f9⟩ := hP9
    subst eM
    exact n_rZ c_71_20 rfl (by omega) ⟨hS, by omega⟩

set_option maxHeartbeats 4000000 in
theorem seek_2 {xs : List Int32} {e : Nat} {ac : Int} {M0 M : nM} {k : Int} (hS : Sf 2 ac M0 M) (hk : 0 ≤ k ∧ k ≤ 3) : nW xs (e + 13) 71 0 [some (2, 38), some (0, k), some (2, 44), none] [] M (nPI fun z M1 => Sf 2 ac M0 M1 ∧ (0 ≤ z ∧ z ≤ 1)) := by
  rcases (show k = 0 ∨ k = 1 ∨ k = 2 ∨ k = 3 by omega) with rfl | rfl | rfl | rfl
  · exact n_post (seek0_2 hS ) (fun w M1 h => by obtain ⟨z, rfl, h1, h2⟩ := h; exact ⟨z, rfl, h1, by omega⟩)
  · exact n_post (seek1_2 hS ) (fun w M1 h => by obtain ⟨z, rfl, h1, h2⟩ := h; exact ⟨z, rfl, h1, by omega⟩)
  · exact n_post (seek2_2 hS ) (fun w M1 h => by obtain ⟨z, rfl, h1, h2⟩ := h; exact ⟨z, rfl, h1, by omega⟩)
  · exact n_post (seek3_2 hS ) (fun w M1 h => by obtain ⟨z, rfl, h1, h2⟩ := h; exact ⟨z, rfl, h1, by omega⟩)

set_option maxHeartbeats 4000000 in
theorem findFirst_2_c {xs : List Int32} {e : Nat} {ac : Int} {M0 M : nM} (hS : Sf 2 ac M0 M)  : ∀ nn : Nat, (∀ (x2 : Int) (M : nM), Sf 2 ac M0 M → (0 ≤ x2 ∧ x2 ≤ 3) → (3 - x2) * 1 + 1 < (nn : Int) → nW xs (e + 15) 69 2 [some (2, 38), some (2, 44), some (0, x2)] [] M (nPI fun z M1 => Sf 2 ac M0 M1 ∧ (0 ≤ z ∧ z ≤ 1))) := by
  have hd : (2 : Int) = 2 ∨ (2 : Int) = 3 := by decide
  have hac := hS.2.2.2.2
  intro nn
  induction nn with
  | zero => intros; omega
  | succ nn ih =>
    intro x2 M hS k2 hnn
    refine n_iload_n c_69_2 rfl ?_
    refine n_aload_n c_69_3 rfl ?_
    refine n_getV (bi := 1) c_69_4 sc_44.n rfl rfl rfl (t_44_1 hS) ?_
    intro z1 ez1 f2
    refine n_if2_ge c_69_7 (by omega) (by omega) ?_ ?_
    · intro h3
      refine n_aload_n c_69_33 rfl ?_
      refine n_aload_n c_69_34 rfl ?_
      refine n_getV (bi := 1) c_69_35 sc_44.n rfl rfl rfl (t_44_1 hS) ?_
      intro z4 ez4 f5
      refine n_aload_n c_69_38 rfl ?_
      refine n_s3I c_69_39 rfl rfl rfl rfl (seek_2 (k := z4) hS (by omega)) ?_
      intro z6 M7 hP8
      obtain ⟨hS7, f8⟩ := hP8
      exact n_rZ c_69_42 rfl (by omega) ⟨hS7, by omega⟩
    · intro h9
      refine n_aload_n c_69_10 rfl ?_
      refine n_getR c_69_11 sc_38.n rfl rfl rfl r_38_0 ?_
      refine n_iload_n c_69_14 rfl ?_
      refine n_iload_n c_69_15 rfl ?_
      refine n_iastoreV hS c_69_16 sc_39.n rfl (by omega) (w_39 (by omega) (by omega)) ?_
      intro M10 eM10 hS10
      have g10_0 : M10 44 1 = M 44 1 := by rw [eM10]; exact nu_a (by omega)
      have g10_1 : M10 39 x2 = x2 := by rw [eM10]; exact nu_s _ _ _ _
      refine n_aload_n c_69_17 rfl ?_
      refine n_iload_n c_69_18 rfl ?_
      refine n_v1I c_69_19 rfl sc_38.n rfl rfl rfl rfl (fits_2 (l := x2) hS10 (by omega)) ?_
      intro z11 M12 hP13
      obtain ⟨eM, f13⟩ := hP13
      subst eM
      refine n_if0_ne c_69_22 (by omega) ?_ ?_
      · intro h14
        refine n_iinc (L2 := [some (2, 38), some (2, 44), some (0, (x2 + 1))]) c_69_27 rfl rfl rfl ?_
        refine n_goto c_69_30 ?_
        refine n_fg (le_s (le_s (le_s le_0))) ?_
        exact ih _ M10 hS10 (by omega) (by omega)
      · intro h15
        refine n_iconst c_69_25 ?_
        exact n_rZ c_69_26 rfl (by omega) ⟨hS10, by omega⟩
set_option maxHeartbeats 4000000 in
theorem findFirst_2 {xs : List Int32} {e : Nat} {ac : Int} {M0 M : nM} (hS : Sf 2 ac M0 M)  : nW xs (e + 15) 69 0 [some (2, 38), some (2, 44), none] [] M (nPI fun z M1 => Sf 2 ac M0 M1 ∧ (0 ≤ z ∧ z ≤ 1)) := by
  have hd : (2 : Int) = 2 ∨ (2 : Int) = 3 := by decide
  have hac := hS.2.2.2.2
  refine n_iconst c_69_0 ?_
  refine n_istore_n (L2 := [some (2, 38), some (2, 44), some (0, 0)]) c_69_1 rfl rfl ?_
  refine n_fg (le_s (le_s (le_s le_0))) ?_
  exact (findFirst_2_c hS  20) _ M hS (by omega) (by omega)

set_option maxHeartbeats 4000000 in
theorem isAct_2_c {xs : List Int32} {e : Nat} {ac : Int} {M0 M : nM} {a : Int} (hS : Sf 2 ac M0 M) (ha : -2147483648 ≤ a ∧ a ≤ 2147483647) : ∀ nn : Nat, (1 < (nn : Int) → nW xs e 125 16 [none, none] [] M (nPI fun z M1 => M = M1 ∧ (0 ≤ z ∧ z ≤ 1) ∧ (z = 0 ∨ (0 ≤ a ∧ a < ac)))) := by
  have hd : (2 : Int) = 2 ∨ (2 : Int) = 3 := by decide
  have hac := hS.2.2.2.2
  intro nn
  induction nn with
  | zero => intros; omega
  | succ nn ih =>
    intro hnn
    refine n_iconst c_125_16 ?_
    exact n_rZ c_125_17 rfl (by omega) ⟨rfl, by omega, by omega⟩
set_option maxHeartbeats 4000000 in
theorem isAct_2 {xs : List Int32} {e : Nat} {ac : Int} {M0 M : nM} {a : Int} (hS : Sf 2 ac M0 M) (ha : -2147483648 ≤ a ∧ a ≤ 2147483647) : nW xs e 125 0 [some (2, 3), some (0, a)] [] M (nPI fun z M1 => M = M1 ∧ (0 ≤ z ∧ z ≤ 1) ∧ (z = 0 ∨ (0 ≤ a ∧ a < ac))) := by
  have hd : (2 : Int) = 2 ∨ (2 : Int) = 3 := by decide
  have hac := hS.2.2.2.2
  refine n_iload_n c_125_0 rfl ?_
  refine n_if0_lt c_125_1 (by omega) ?_ ?_
  · intro h1
    refine n_fg (le_n (le_n le_0)) ?_
    exact (isAct_2_c hS ha 12)   (by omega)
  · intro h2
    refine n_iload_n c_125_4 rfl ?_
    refine n_aload_n c_125_5 rfl ?_
    refine n_getV (bi := 14) c_125_6 sc_3.n rfl rfl rfl (t_3_14x hS) ?_
    intro z3 ez3 f4
    have f4a := t_ac hS
    refine n_if2_ge c_125_9 (by omega) (by omega) ?_ ?_
    · intro h5
      refine n_fg (le_n (le_n le_0)) ?_
      exact (isAct_2_c hS ha 12)   (by omega)
    · intro h6
      refine n_iconst c_125_12 ?_
      refine n_goto c_125_13 ?_
      exact n_rZ c_125_17 rfl (by omega) ⟨rfl, by omega, by omega⟩

set_option maxHeartbeats 4000000 in
theorem isLaw_2_c {xs : List Int32} {e : Nat} {ac : Int} {M0 M : nM} {l : Int} (hS : Sf 2 ac M0 M) (hl : -2147483648 ≤ l ∧ l ≤ 2147483647) : ∀ nn : Nat, (1 < (nn : Int) → nW xs e 126 16 [none, none] [] M (nPI fun z M1 => M = M1 ∧ (0 ≤ z ∧ z ≤ 1) ∧ (z = 0 ∨ (0 ≤ l ∧ l ≤ 11)))) := by
  have hd : (2 : Int) = 2 ∨ (2 : Int) = 3 := by decide
  have hac := hS.2.2.2.2
  intro nn
  induction nn with
  | zero => intros; omega
  | succ nn ih =>
    intro hnn
    refine n_iconst c_126_16 ?_
    exact n_rZ c_126_17 rfl (by omega) ⟨rfl, by omega, by omega⟩
set_option maxHeartbeats 4000000 in
theorem isLaw_2 {xs : List Int32} {e : Nat} {ac : Int} {M0 M : nM} {l : Int} (hS : Sf 2 ac M0 M) (hl : -2147483648 ≤ l ∧ l ≤ 2147483647) : nW xs e 126 0 [some (2, 3), some (0, l)] [] M (nPI fun z M1 => M = M1 ∧ (0 ≤ z ∧ z ≤ 1) ∧ (z = 0 ∨ (0 ≤ l ∧ l ≤ 11))) := by
  have hd : (2 : Int) = 2 ∨ (2 : Int) = 3 := by decide
  have hac := hS.2.2.2.2
  refine n_iload_n c_126_0 rfl ?_
  refine n_if0_lt c_126_1 (by omega) ?_ ?_
  · intro h1
    refine n_fg (le_n (le_n le_0)) ?_
    exact (isLaw_2_c hS hl 12)   (by omega)
  · intro h2
    refine n_iload_n c_126_4 rfl ?_
    refine n_aload_n c_126_5 rfl ?_
    refine n_getV (bi := 15) c_126_6 sc_3.n rfl rfl rfl (t_3_15 hS) ?_
    intro z3 ez3 f4
    refine n_if2_ge c_126_9 (by omega) (by omega) ?_ ?_
    · intro h5
      refine n_fg (le_n (le_n le_0)) ?_
      exact (isLaw_2_c hS hl 12)   (by omega)
    · intro h6
      refine n_iconst c_126_12 ?_
      refine n_goto c_126_13 ?_
      exact n_rZ c_126_17 rfl (by omega) ⟨rfl, by omega, by omega⟩

set_option maxHeartbeats 4000000 in
theorem isPlaceCount_2_c {xs : List Int32} {e : Nat} {ac : Int} {M0 M : nM} {k : Int} (hS : Sf 2 ac M0 M) (hk : -2147483648 ≤ k ∧ k ≤ 2147483647) : ∀ nn : Nat, (1 < (nn : Int) → nW xs e 124 14 [none, none] [] M (nPI fun z M1 => M = M1 ∧ (0 ≤ z ∧ z ≤ 1) ∧ (z = 0 ∨ (1 ≤ k ∧ k ≤ 3)))) := by
  have hd : (2 : Int) = 2 ∨ (2 : Int) = 3 := by decide
  have hac := hS.2.2.2.2
  intro nn
  induction nn with
  | zero => intros; omega
  | succ nn ih =>
    intro hnn
    refine n_iconst c_124_14 ?_
    exact n_rZ c_124_15 rfl (by omega) ⟨rfl, by omega, by omega⟩
set_option maxHeartbeats 4000000 in
theorem isPlaceCount_2 {xs : List Int32} {e : Nat} {ac : Int} {M0 M : nM} {k : Int} (hS : Sf 2 ac M0 M) (hk : -2147483648 ≤ k ∧ k ≤ 2147483647) : nW xs e 124 0 [some (2, 3), some (0, k)] [] M (nPI fun z M1 => M = M1 ∧ (0 ≤ z ∧ z ≤ 1) ∧ (z = 0 ∨ (1 ≤ k ∧ k ≤ 3))) := by
  have hd : (2 : Int) = 2 ∨ (2 : Int) = 3 := by decide
  have hac := hS.2.2.2.2
  refine n_iload_n c_124_0 rfl ?_
  refine n_iconst c_124_1 ?_
  refine n_if2_lt c_124_2 (by omega) (by omega) ?_ ?_
  · intro h1
    refine n_fg (le_n (le_n le_0)) ?_
    exact (isPlaceCount_2_c hS hk 12)   (by omega)
  · intro h2
    refine n_iload_n c_124_5 rfl ?_
    refine n_iconst c_124_6 ?_
    refine n_if2_gt c_124_7 (by omega) (by omega) ?_ ?_
    · intro h3
      refine n_fg (le_n (le_n le_0)) ?_
      exact (isPlaceCount_2_c hS hk 12)   (by omega)
    · intro h4
      refine n_iconst c_124_10 ?_
      refine n_goto c_124_11 ?_
      exact n_rZ c_124_15 rfl (by omega) ⟨rfl, by omega, by omega⟩

set_option maxHeartbeats 4000000 in
theorem forgetMade_2_c {xs : List Int32} {e : Nat} {ac : Int} {M0 M : nM} (hS : Sf 2 ac M0 M)  : ∀ nn : Nat, (∀ (x1 : Int) (M : nM), Sf 2 ac M0 M → (0 ≤ x1 ∧ x1 ≤ 3) → (3 - x1) * 1 + 1 < (nn : Int) → nW xs e 123 2 [some (2, 3), some (0, x1)] [] M (nPV fun M1 => Sf 2 ac M0 M1)) := by
  have hd : (2 : Int) = 2 ∨ (2 : Int) = 3 := by decide
  have hac := hS.2.2.2.2
  intro nn
  induction nn with
  | zero => intros; omega
  | succ nn ih =>
    intro x1 M hS k1 hnn
    refine n_iload_n c_123_2 rfl ?_
    refine n_iconst c_123_3 ?_
    refine n_if2_ge c_123_4 (by omega) (by omega) ?_ ?_
    · intro h1
      exact n_rV c_123_23 rfl hS
    · intro h2
      refine n_aload_n c_123_7 rfl ?_
      refine n_getR c_123_8 sc_3.n rfl rfl rfl r_3_4 ?_
      refine n_iload_n c_123_11 rfl ?_
      refine n_aaload c_123_12 sc_14.n rfl rfl rfl (by omega) (r_made _) ?_
      have q3 : MadeAt (103 + 3 * x1) := by unfold MadeAt; omega
      refine n_iconst c_123_13 ?_
      refine n_putZV (bi := 0) hS c_123_14 q3.c0.1.n rfl rfl rfl (by omega) rfl (w_made q3 (by omega) (by omega)) ?_
      intro M4 eM4 hS4
      have g4_0 : M4 (103 + 3 * x1) 0 = 0 := by rw [eM4]; exact nu_s _ _ _ _
      refine n_iinc (L2 := [some (2, 3), some (0, (x1 + 1))]) c_123_17 rfl rfl rfl ?_
      refine n_goto c_123_20 ?_
      refine n_fg (le_s (le_s le_0)) ?_
      exact ih _ M4 hS4 (by omega) (by omega)
set_option maxHeartbeats 4000000 in
theorem forgetMade_2 {xs : List Int32} {e : Nat} {ac : Int} {M0 M : nM} (hS : Sf 2 ac M0 M)  : nW xs e 123 0 [some (2, 3), none] [] M (nPV fun M1 => Sf 2 ac M0 M1) := by
  have hd : (2 : Int) = 2 ∨ (2 : Int) = 3 := by decide
  have hac := hS.2.2.2.2
  refine n_iconst c_123_0 ?_
  refine n_istore_n (L2 := [some (2, 3), some (0, 0)]) c_123_1 rfl rfl ?_
  refine n_fg (le_s (le_s le_0)) ?_
  exact (forgetMade_2_c hS  20) _ M hS (by omega) (by omega)

set_option maxHeartbeats 4000000 in
theorem at_2_c {xs : List Int32} {e : Nat} {ac : Int} {M0 M : nM} {a r : Int} (hS : Sf 2 ac M0 M) (ha : -2147483648 ≤ a ∧ a ≤ 2147483647) (hr : -2147483648 ≤ r ∧ r ≤ 2147483647) : ∀ nn : Nat, (1 < (nn : Int) → nW xs (e + 1) 99 25 [none, none, none] [] M (nPI fun z M1 => M = M1 ∧ (-2147483648 ≤ z ∧ z ≤ 2147483647))) := by
  have hd : (2 : Int) = 2 ∨ (2 : Int) = 3 := by decide
  have hac := hS.2.2.2.2
  intro nn
  induction nn with
  | zero => intros; omega
  | succ nn ih =>
    intro hnn
    refine n_iconst c_99_25 ?_
    exact n_rI c_99_26 rfl ⟨rfl, by omega⟩
set_option maxHeartbeats 4000000 in
theorem at_2 {xs : List Int32} {e : Nat} {ac : Int} {M0 M : nM} {a r : Int} (hS : Sf 2 ac M0 M) (ha : -2147483648 ≤ a ∧ a ≤ 2147483647) (hr : -2147483648 ≤ r ∧ r ≤ 2147483647) : nW xs (e + 1) 99 0 [some (2, 3), some (0, a), some (0, r)] [] M (nPI fun z M1 => M = M1 ∧ (-2147483648 ≤ z ∧ z ≤ 2147483647)) := by
  have hd : (2 : Int) = 2 ∨ (2 : Int) = 3 := by decide
  have hac := hS.2.2.2.2
  refine n_aload_n c_99_0 rfl ?_
  refine n_iload_n c_99_1 rfl ?_
  refine n_v1I c_99_2 rfl sc_3.n rfl rfl rfl rfl (isAct_2 (a := a) hS (by omega)) ?_
  intro z1 M2 hP3
  obtain ⟨eM, f3, f3p0⟩ := hP3
  subst eM
  refine n_if0_eq c_99_5 (by omega) ?_ ?_
  · intro h4
    refine n_fg (le_n (le_n (le_n le_0))) ?_
    exact (at_2_c hS ha hr 12)   (by omega)
  · intro h5
    refine n_iload_n c_99_8 rfl ?_
    refine n_if0_lt c_99_9 (by omega) ?_ ?_
    · intro h6
      refine n_fg (le_n (le_n (le_n le_0))) ?_
      exact (at_2_c hS ha hr 12)   (by omega)
    · intro h7
      refine n_iload_n c_99_12 rfl ?_
      refine n_aload_n c_99_13 rfl ?_
      refine n_getR c_99_14 sc_3.n rfl rfl rfl r_3_2 ?_
      refine n_iload_n c_99_17 rfl ?_
      refine n_aaload c_99_18 sc_12.n rfl rfl rfl (by omega) (r_acts _) ?_
      have q8 : ActAt (55 + 3 * a) := by unfold ActAt; omega
      have q8l : (55 + 3 * a) < 55 + 3 * ac := by omega
      refine n_getV (bi := 1) c_99_19 q8.c0.1.n rfl rfl rfl (t_actl hS q8 q8l).2 ?_
      intro z9 ez9 f10
      refine n_if2_lt c_99_22 (by omega) (by omega) ?_ ?_
      · intro h11
        refine n_aload_n c_99_27 rfl ?_
        refine n_getR c_99_28 sc_3.n rfl rfl rfl r_3_2 ?_
        refine n_iload_n c_99_31 rfl ?_
        refine n_aaload c_99_32 sc_12.n rfl rfl rfl (by omega) (r_acts _) ?_
        have q12 : ActAt (55 + 3 * a) := by unfold ActAt; omega
        have q12l : (55 + 3 * a) < 55 + 3 * ac := by omega
        refine n_getR c_99_33 q12.c0.1.n rfl rfl rfl q12.r.1 ?_
        refine n_iload_n c_99_36 rfl ?_
        refine n_ialoadV c_99_37 q12.c0.2.1.n rfl rfl rfl (by omega) (t_actrl hS q12 q12l (Or.inl rfl) (by omega) (by omega)) ?_
        intro z13 ez13 f14
        exact n_rI c_99_38 rfl ⟨rfl, by omega⟩
      · intro h15
        refine n_fg (le_n (le_n (le_n le_0))) ?_
        exact (at_2_c hS ha hr 12)   (by omega)

set_option maxHeartbeats 4000000 in
theorem lawOf_2 {xs : List Int32} {e : Nat} {ac : Int} {M0 M : nM} {l : Int} (hS : Sf 2 ac M0 M) (hl : -2147483648 ≤ l ∧ l ≤ 2147483647) : nW xs (e + 1) 100 0 [some (2, 3), some (0, l)] [] M (nPJ fun z M1 => M = M1 ∧ (-9223372036854775808 ≤ z ∧ z ≤ 9223372036854775807)) := by
  have hd : (2 : Int) = 2 ∨ (2 : Int) = 3 := by decide
  have hac := hS.2.2.2.2
  refine n_aload_n c_100_0 rfl ?_
  refine n_iload_n c_100_1 rfl ?_
  refine n_v1I c_100_2 rfl sc_3.n rfl rfl rfl rfl (isLaw_2 (l := l) hS (by omega)) ?_
  intro z1 M2 hP3
  obtain ⟨eM, f3, f3p0⟩ := hP3
  subst eM
  refine n_if0_eq c_100_5 (by omega) ?_ ?_
  · intro h4
    refine n_ldc2 (n := (-1)) c_100_21 rfl ?_
    exact n_rJ c_100_24 rfl ⟨rfl, by omega⟩
  · intro h5
    refine n_aload_n c_100_8 rfl ?_
    refine n_getR c_100_9 sc_3.n rfl rfl rfl r_3_3 ?_
    refine n_iload_n c_100_12 rfl ?_
    refine n_aaload c_100_13 sc_13.n rfl rfl rfl (by omega) (r_laws _) ?_
    have q6 : LawAt (79 + 2 * l) := by unfold LawAt; omega
    refine n_getV (bi := 1) c_100_14 q6.c0.1.n rfl rfl rfl (t_law hS q6).2.1 ?_
    intro z7 ez7 f8
    refine n_i2l c_100_17 (by omega) ?_
    refine n_goto c_100_18 ?_
    exact n_rJ c_100_24 rfl ⟨rfl, by omega⟩

set_option maxHeartbeats 4000000 in
theorem keeps_2_c {xs : List Int32} {e : Nat} {ac : Int} {M0 M : nM} {a l : Int} (hS : Sf 2 ac M0 M) (ha : -2147483648 ≤ a ∧ a ≤ 2147483647) (hl : -2147483648 ≤ l ∧ l ≤ 2147483647) : ∀ nn : Nat, (∀ (M : nM), Sf 2 ac M0 M → 1 < (nn : Int) → nW xs (e + 3) 101 16 [none, none, none] [] M (nPI fun z M1 => Sf 2 ac M0 M1 ∧ (-2147483648 ≤ z ∧ z ≤ 2147483647))) := by
  have hd : (2 : Int) = 2 ∨ (2 : Int) = 3 := by decide
  have hac := hS.2.2.2.2
  intro nn
  induction nn with
  | zero => intros; omega
  | succ nn ih =>
    intro M hS hnn
    refine n_iconst c_101_16 ?_
    exact n_rI c_101_17 rfl ⟨hS, by omega⟩
set_option maxHeartbeats 4000000 in
theorem keeps_2 {xs : List Int32} {e : Nat} {ac : Int} {M0 M : nM} {a l : Int} (hS : Sf 2 ac M0 M) (ha : -2147483648 ≤ a ∧ a ≤ 2147483647) (hl : -2147483648 ≤ l ∧ l ≤ 2147483647) : nW xs (e + 3) 101 0 [some (2, 3), some (0, a), some (0, l)] [] M (nPI fun z M1 => Sf 2 ac M0 M1 ∧ (-2147483648 ≤ z ∧ z ≤ 2147483647)) := by
  have hd : (2 : Int) = 2 ∨ (2 : Int) = 3 := by decide
  have hac := hS.2.2.2.2
  refine n_aload_n c_101_0 rfl ?_
  refine n_iload_n c_101_1 rfl ?_
  refine n_v1I c_101_2 rfl sc_3.n rfl rfl rfl rfl (isAct_2 (a := a) hS (by omega)) ?_
  intro z1 M2 hP3
  obtain ⟨eM, f3, f3p0⟩ := hP3
  subst eM
  refine n_if0_eq c_101_5 (by omega) ?_ ?_
  · intro h4
    refine n_fg (le_n (le_n (le_n le_0))) ?_
    exact (keeps_2_c hS ha hl 12)  M hS  (by omega)
  · intro h5
    refine n_aload_n c_101_8 rfl ?_
    refine n_iload_n c_101_9 rfl ?_
    refine n_v1I c_101_10 rfl sc_3.n rfl rfl rfl rfl (isLaw_2 (l := l) hS (by omega)) ?_
    intro z6 M7 hP8
    obtain ⟨eM, f8, f8p0⟩ := hP8
    subst eM
    refine n_if0_ne c_101_13 (by omega) ?_ ?_
    · intro h9
      refine n_aload_n c_101_18 rfl ?_
      refine n_getR c_101_19 sc_3.n rfl rfl rfl r_3_3 ?_
      refine n_iload_n c_101_22 rfl ?_
      refine n_aaload c_101_23 sc_13.n rfl rfl rfl (by omega) (r_laws _) ?_
      have q10 : LawAt (79 + 2 * l) := by unfold LawAt; omega
      refine n_aload_n c_101_24 rfl ?_
      refine n_getR c_101_25 sc_3.n rfl rfl rfl r_3_2 ?_
      refine n_iload_n c_101_28 rfl ?_
      refine n_aaload c_101_29 sc_12.n rfl rfl rfl (by omega) (r_acts _) ?_
      have q11 : ActAt (55 + 3 * a) := by unfold ActAt; omega
      have q11l : (55 + 3 * a) < 55 + 3 * ac := by omega
      refine n_aload_n c_101_30 rfl ?_
      refine n_getR c_101_31 sc_3.n rfl rfl rfl r_3_0 ?_
      refine n_aload_n c_101_34 rfl ?_
      refine n_getR c_101_35 sc_3.n rfl rfl rfl r_3_12 ?_
      refine n_v3I c_101_38 rfl q10.c0.1.n rfl rfl rfl rfl (isKeptBy_2 (q := (79 + 2 * l)) (p := (55 + 3 * a)) hS q10 q11 q11l) ?_
      intro z12 M13 hP14
      obtain ⟨hS13, f14⟩ := hP14
      refine n_if0_eq c_101_41 (by omega) ?_ ?_
      · intro h15
        refine n_iconst c_101_48 ?_
        exact n_rI c_101_49 rfl ⟨hS13, by omega⟩
      · intro h16
        refine n_iconst c_101_44 ?_
        refine n_goto c_101_45 ?_
        exact n_rI c_101_49 rfl ⟨hS13, by omega⟩
    · intro h17
      refine n_fg (le_n (le_n (le_n le_0))) ?_
      exact (keeps_2_c hS ha hl 12)  M hS  (by omega)

set_option maxHeartbeats 4000000 in
theorem closed_2_c {xs : List Int32} {e : Nat} {ac : Int} {M0 M : nM} {l : Int} (hS : Sf 2 ac M0 M) (hl : -2147483648 ≤ l ∧ l ≤ 2147483647) : ∀ nn : Nat, (∀ (x2 x3 : Int) (M : nM), Sf 2 ac M0 M → (0 ≤ x2 ∧ x2 ≤ 1) → (0 ≤ x3 ∧ x3 ≤ 28) → (28 - x3) * 11 + 12 < (nn : Int) → nW xs (e + 3) 102 45 [some (2, 3), none, some (0, x2), some (0, x3), none] [] M (nPJ fun z M1 => Sf 2 ac M0 M1 ∧ (-9223372036854775808 ≤ z ∧ z ≤ 9223372036854775807))) ∧ (∀ (x2 x3 x4 : Int) (M : nM), Sf 2 ac M0 M → (0 ≤ x2 ∧ x2 ≤ 1) → (0 ≤ x3 ∧ x3 ≤ 27) → (0 ≤ x4 ∧ x4 ≤ 8) → (28 - x3) * 11 + (8 - x4) * 1 + 2 < (nn : Int) → nW xs (e + 3) 102 60 [some (2, 3), none, some (0, x2), some (0, x3), some (0, x4)] [] M (nPJ fun z M1 => Sf 2 ac M0 M1 ∧ (-9223372036854775808 ≤ z ∧ z ≤ 9223372036854775807))) ∧ (∀ (M : nM), Sf 2 ac M0 M → 1 < (nn : Int) → nW xs (e + 3) 102 106 [some (2, 3), none, none, none, none] [] M (nPJ fun z M1 => Sf 2 ac M0 M1 ∧ (-9223372036854775808 ≤ z ∧ z ≤ 9223372036854775807))) := by
  have hd : (2 : Int) = 2 ∨ (2 : Int) = 3 := by decide
  have hac := hS.2.2.2.2
  intro nn
  induction nn with
  | zero => refine ⟨?_, ?_, ?_⟩ <;> (intros; omega)
  | succ nn ih =>
    refine ⟨?_, ?_, ?_⟩
    · intro x2 x3 M hS k2 k3 hnn
      refine n_iload_n c_102_45 rfl ?_
      refine n_bipush c_102_46 rfl ?_
      refine n_if2_gt c_102_48 (by omega) (by omega) ?_ ?_
      · intro h1
        refine n_fg (le_s (le_n (le_n (le_n (le_n le_0))))) ?_
        exact ih.2.2  M hS  (by omega)
      · intro h2
        refine n_iload_n c_102_51 rfl ?_
        refine n_if0_eq c_102_52 (by omega) ?_ ?_
        · intro h3
          refine n_fg (le_s (le_n (le_n (le_n (le_n le_0))))) ?_
          exact ih.2.2  M hS  (by omega)
        · intro h4
          refine n_iconst c_102_55 ?_
          refine n_istore_n (L2 := [some (2, 3), none, some (0, 0), some (0, x3), none]) c_102_56 rfl rfl ?_
          refine n_iconst c_102_57 ?_
          refine n_istore (L2 := [some (2, 3), none, some (0, 0), some (0, x3), some (0, 0)]) c_102_58 rfl rfl ?_
          refine n_fg (le_s (le_n (le_s (le_s (le_s le_0))))) ?_
          exact ih.2.1 _ _ _ M hS (by omega) (by omega) (by omega) (by omega)
    · intro x2 x3 x4 M hS k2 k3 k4 hnn
      refine n_iload c_102_60 rfl ?_
      refine n_aload_n c_102_62 rfl ?_
      refine n_getV (bi := 14) c_102_63 sc_3.n rfl rfl rfl (t_3_14x hS) ?_
      intro z1 ez1 f2
      have f2a := t_ac hS
      refine n_if2_ge c_102_66 (by omega) (by omega) ?_ ?_
      · intro h3
        refine n_iinc (L2 := [some (2, 3), none, some (0, x2), some (0, (x3 + 1)), some (0, x4)]) c_102_100 rfl rfl rfl ?_
        refine n_goto c_102_103 ?_
        refine n_fg (le_s (le_n (le_s (le_s (le_n le_0))))) ?_
        exact ih.1 _ _ M hS (by omega) (by omega) (by omega)
      · intro h4
        refine n_iload_n c_102_69 rfl ?_
        refine n_aload_n c_102_70 rfl ?_
        refine n_getR c_102_71 sc_3.n rfl rfl rfl r_3_11 ?_
        refine n_aload_n c_102_74 rfl ?_
        refine n_getR c_102_75 sc_3.n rfl rfl rfl r_3_2 ?_
        refine n_iload c_102_78 rfl ?_
        refine n_aaload c_102_80 sc_12.n rfl rfl rfl (by omega) (r_acts _) ?_
        have q5 : ActAt (55 + 3 * x4) := by unfold ActAt; omega
        have q5l : (55 + 3 * x4) < 55 + 3 * ac := by omega
        refine n_aload_n c_102_81 rfl ?_
        refine n_getR c_102_82 sc_3.n rfl rfl rfl r_3_0 ?_
        refine n_aload_n c_102_85 rfl ?_
        refine n_getR c_102_86 sc_3.n rfl rfl rfl r_3_12 ?_
        refine n_v3I c_102_89 rfl law50.c0.1.n rfl rfl rfl rfl (growsBy_2 (p := (55 + 3 * x4)) hS q5 q5l) ?_
        intro z6 M7 hP8
        obtain ⟨hS7, f8⟩ := hP8
        refine n_i_ior c_102_92 rfl ?_
        have f9 := n_or_1 (x := x2) (y := z6) (by omega) (by omega)
        generalize (n_or x2 z6) = z10 at f9 ⊢
        refine n_istore_n (L2 := [some (2, 3), none, some (0, z10), some (0, x3), some (0, x4)]) c_102_93 rfl rfl ?_
        refine n_iinc (L2 := [some (2, 3), none, some (0, z10), some (0, x3), some (0, (x4 + 1))]) c_102_94 rfl rfl rfl ?_
        refine n_goto c_102_97 ?_
        refine n_fg (le_s (le_n (le_s (le_s (le_s le_0))))) ?_
        exact ih.2.1 _ _ _ M7 hS7 (by omega) (by omega) (by omega) (by omega)
    · intro M hS hnn
      refine n_aload_n c_102_106 rfl ?_
      refine n_getR c_102_107 sc_3.n rfl rfl rfl r_3_11 ?_
      refine n_aload_n c_102_110 rfl ?_
      refine n_getR c_102_111 sc_3.n rfl rfl rfl r_3_0 ?_
      refine n_v1I c_102_114 rfl law50.c0.1.n rfl rfl rfl rfl (narrowSet_2  hS ) ?_
      intro z1 M2 hP3
      obtain ⟨eM, f3⟩ := hP3
      subst eM
      refine n_i2l c_102_117 (by omega) ?_
      exact n_rJ c_102_118 rfl ⟨hS, by omega⟩
set_option maxHeartbeats 4000000 in
theorem closed_2 {xs : List Int32} {e : Nat} {ac : Int} {M0 M : nM} {l : Int} (hS : Sf 2 ac M0 M) (hl : -2147483648 ≤ l ∧ l ≤ 2147483647) : nW xs (e + 3) 102 0 [some (2, 3), some (0, l), none, none, none] [] M (nPJ fun z M1 => Sf 2 ac M0 M1 ∧ (-9223372036854775808 ≤ z ∧ z ≤ 9223372036854775807)) := by
  have hd : (2 : Int) = 2 ∨ (2 : Int) = 3 := by decide
  have hac := hS.2.2.2.2
  refine n_aload_n c_102_0 rfl ?_
  refine n_iload_n c_102_1 rfl ?_
  refine n_v1I c_102_2 rfl sc_3.n rfl rfl rfl rfl (isLaw_2 (l := l) hS (by omega)) ?_
  intro z1 M2 hP3
  obtain ⟨eM, f3, f3p0⟩ := hP3
  subst eM
  refine n_if0_ne c_102_5 (by omega) ?_ ?_
  · intro h4
    refine n_aload_n c_102_12 rfl ?_
    refine n_getR c_102_13 sc_3.n rfl rfl rfl r_3_11 ?_
    refine n_aload_n c_102_16 rfl ?_
    refine n_getR c_102_17 sc_3.n rfl rfl rfl r_3_3 ?_
    refine n_iload_n c_102_20 rfl ?_
    refine n_aaload c_102_21 sc_13.n rfl rfl rfl (by omega) (r_laws _) ?_
    have q5 : LawAt (79 + 2 * l) := by unfold LawAt; omega
    refine n_getV (bi := 0) c_102_22 q5.c0.1.n rfl rfl rfl (t_law hS q5).1 ?_
    intro z6 ez6 f7
    refine n_aload_n c_102_25 rfl ?_
    refine n_getR c_102_26 sc_3.n rfl rfl rfl r_3_3 ?_
    refine n_iload_n c_102_29 rfl ?_
    refine n_aaload c_102_30 sc_13.n rfl rfl rfl (by omega) (r_laws _) ?_
    have q8 : LawAt (79 + 2 * l) := by unfold LawAt; omega
    refine n_getV (bi := 1) c_102_31 q8.c0.1.n rfl rfl rfl (t_law hS q8).2.1 ?_
    intro z9 ez9 f10
    refine n_aload_n c_102_34 rfl ?_
    refine n_getR c_102_35 sc_3.n rfl rfl rfl r_3_0 ?_
    refine n_v3V c_102_38 rfl law50.c0.1.n rfl rfl rfl rfl (takeS_2 (k := z6) (s := z9) hS (by omega) (by omega)) ?_
    intro  M11 hP12
    have hS11 := hP12
    refine n_iconst c_102_41 ?_
    refine n_istore_n (L2 := [some (2, 3), some (0, l), some (0, 1), none, none]) c_102_42 rfl rfl ?_
    refine n_iconst c_102_43 ?_
    refine n_istore_n (L2 := [some (2, 3), some (0, l), some (0, 1), some (0, 0), none]) c_102_44 rfl rfl ?_
    refine n_fg (le_s (le_n (le_s (le_s (le_n le_0))))) ?_
    exact (closed_2_c hS hl 672).1 _ _ M11 hS11 (by omega) (by omega) (by omega)
  · intro h13
    refine n_ldc2 (n := (-1)) c_102_8 rfl ?_
    exact n_rJ c_102_11 rfl ⟨hS, by omega⟩

set_option maxHeartbeats 4000000 in
theorem aaks_2_c {xs : List Int32} {e : Nat} {ac : Int} {M0 M : nM} (hS : Sf 2 ac M0 M)  : ∀ nn : Nat, (∀ (x1 : Int) (M : nM), Sf 2 ac M0 M → (0 ≤ x1 ∧ x1 ≤ 8) → (8 - x1) * 1 + 1 < (nn : Int) → nW xs (e + 3) 129 2 [some (2, 3), some (0, x1)] [] M (nPI fun z M1 => Sf 2 ac M0 M1 ∧ (0 ≤ z ∧ z ≤ 1))) := by
  have hd : (2 : Int) = 2 ∨ (2 : Int) = 3 := by decide
  have hac := hS.2.2.2.2
  intro nn
  induction nn with
  | zero => intros; omega
  | succ nn ih =>
    intro x1 M hS k1 hnn
    refine n_iload_n c_129_2 rfl ?_
    refine n_aload_n c_129_3 rfl ?_
    refine n_getV (bi := 14) c_129_4 sc_3.n rfl rfl rfl (t_3_14x hS) ?_
    intro z1 ez1 f2
    have f2a := t_ac hS
    refine n_if2_ge c_129_7 (by omega) (by omega) ?_ ?_
    · intro h3
      refine n_iconst c_129_42 ?_
      exact n_rZ c_129_43 rfl (by omega) ⟨hS, by omega⟩
    · intro h4
      refine n_aload_n c_129_10 rfl ?_
      refine n_getR c_129_11 sc_3.n rfl rfl rfl r_3_11 ?_
      refine n_aload_n c_129_14 rfl ?_
      refine n_getR c_129_15 sc_3.n rfl rfl rfl r_3_2 ?_
      refine n_iload_n c_129_18 rfl ?_
      refine n_aaload c_129_19 sc_12.n rfl rfl rfl (by omega) (r_acts _) ?_
      have q5 : ActAt (55 + 3 * x1) := by unfold ActAt; omega
      have q5l : (55 + 3 * x1) < 55 + 3 * ac := by omega
      refine n_aload_n c_129_20 rfl ?_
      refine n_getR c_129_21 sc_3.n rfl rfl rfl r_3_0 ?_
      refine n_aload_n c_129_24 rfl ?_
      refine n_getR c_129_25 sc_3.n rfl rfl rfl r_3_12 ?_
      refine n_v3I c_129_28 rfl law50.c0.1.n rfl rfl rfl rfl (isKeptBy_2 (q := 50) (p := (55 + 3 * x1)) hS law50 q5 q5l) ?_
      intro z6 M7 hP8
      obtain ⟨hS7, f8⟩ := hP8
      refine n_if0_ne c_129_31 (by omega) ?_ ?_
      · intro h9
        refine n_iinc (L2 := [some (2, 3), some (0, (x1 + 1))]) c_129_36 rfl rfl rfl ?_
        refine n_goto c_129_39 ?_
        refine n_fg (le_s (le_s le_0)) ?_
        exact ih _ M7 hS7 (by omega) (by omega)
      · intro h10
        refine n_iconst c_129_34 ?_
        exact n_rZ c_129_35 rfl (by omega) ⟨hS7, by omega⟩
set_option maxHeartbeats 4000000 in
theorem aaks_2 {xs : List Int32} {e : Nat} {ac : Int} {M0 M : nM} (hS : Sf 2 ac M0 M)  : nW xs (e + 3) 129 0 [some (2, 3), none] [] M (nPI fun z M1 => Sf 2 ac M0 M1 ∧ (0 ≤ z ∧ z ≤ 1)) := by
  have hd : (2 : Int) = 2 ∨ (2 : Int) = 3 := by decide
  have hac := hS.2.2.2.2
  refine n_iconst c_129_0 ?_
  refine n_istore_n (L2 := [some (2, 3), some (0, 0)]) c_129_1 rfl rfl ?_
  refine n_fg (le_s (le_s le_0)) ?_
  exact (aaks_2_c hS  30) _ M hS (by omega) (by omega)

set_option maxHeartbeats 4000000 in
theorem laws_2_c {xs : List Int32} {e : Nat} {ac : Int} {M0 M : nM} {k : Int} (hS : Sf 2 ac M0 M) (hk : -2147483648 ≤ k ∧ k ≤ 2147483647) : ∀ nn : Nat, (∀ (M : nM), Sf 2 ac M0 M → (1 ≤ k ∧ k ≤ 2) → 517 < (nn : Int) → nW xs (e + 4) 103 12 [some (2, 3), some (0, k), none, none, none] [] M (nPI fun z M1 => Sf 2 ac M0 M1 ∧ (-2147483648 ≤ z ∧ z ≤ 2147483647))) ∧ (∀ (x2 x3 x4 : Int) (M : nM), Sf 2 ac M0 M → (1 ≤ k ∧ k ≤ 2) → (2 ≤ x2 ∧ x2 ≤ 256) → (0 ≤ x3 ∧ x3 ≤ 134217728) → (0 ≤ x4 ∧ x4 ≤ 256) → (x3 ≤ x4) → (256 - x4) * 2 + 2 < (nn : Int) → nW xs (e + 4) 103 28 [some (2, 3), some (0, k), some (0, x2), some (0, x3), some (0, x4)] [] M (nPI fun z M1 => Sf 2 ac M0 M1 ∧ (-2147483648 ≤ z ∧ z ≤ 2147483647))) ∧ (∀ (x2 x3 x4 : Int) (M : nM), Sf 2 ac M0 M → (1 ≤ k ∧ k ≤ 2) → (2 ≤ x2 ∧ x2 ≤ 256) → (0 ≤ x3 ∧ x3 ≤ 134217728) → (0 ≤ x4 ∧ x4 ≤ 255) → (x3 ≤ x4 + 1) → (256 - x4) * 2 + 1 < (nn : Int) → nW xs (e + 4) 103 58 [some (2, 3), some (0, k), some (0, x2), some (0, x3), some (0, x4)] [] M (nPI fun z M1 => Sf 2 ac M0 M1 ∧ (-2147483648 ≤ z ∧ z ≤ 2147483647))) := by
  have hd : (2 : Int) = 2 ∨ (2 : Int) = 3 := by decide
  have hac := hS.2.2.2.2
  intro nn
  induction nn with
  | zero => refine ⟨?_, ?_, ?_⟩ <;> (intros; omega)
  | succ nn ih =>
    refine ⟨?_, ?_, ?_⟩
    · intro M hS k1 hnn
      refine n_iconst c_103_12 ?_
      refine n_aload_n c_103_13 rfl ?_
      refine n_getR c_103_14 sc_3.n rfl rfl rfl r_3_0 ?_
      refine n_iload_n c_103_17 rfl ?_
      refine n_v1I c_103_18 rfl sc_4.n rfl rfl rfl rfl (powerU_2 (n := k) hS (by omega)) ?_
      intro z1 M2 hP3
      obtain ⟨eM, f3⟩ := hP3
      subst eM
      refine n_i_ishl c_103_21 rfl ?_
      have f4 := n_shl_1 (y := z1) (a := 1) (b := 8) (by decide) (by omega)
      generalize (n_shl 1 z1) = z5 at f4 ⊢
      refine n_istore_n (L2 := [some (2, 3), some (0, k), some (0, z5), none, none]) c_103_22 rfl rfl ?_
      refine n_iconst c_103_23 ?_
      refine n_istore_n (L2 := [some (2, 3), some (0, k), some (0, z5), some (0, 0), none]) c_103_24 rfl rfl ?_
      refine n_iconst c_103_25 ?_
      refine n_istore (L2 := [some (2, 3), some (0, k), some (0, z5), some (0, 0), some (0, 0)]) c_103_26 rfl rfl ?_
      refine n_fg (le_s (le_s (le_s (le_s (le_s le_0))))) ?_
      exact ih.2.1 _ _ _ M hS (by omega) (by omega) (by omega) (by omega) (by omega) (by omega)
    · intro x2 x3 x4 M hS k1 k2 k3 k4 v0 hnn
      refine n_iload c_103_28 rfl ?_
      refine n_iload_n c_103_30 rfl ?_
      refine n_if2_ge c_103_31 (by omega) (by omega) ?_ ?_
      · intro h1
        refine n_iload_n c_103_64 rfl ?_
        exact n_rI c_103_65 rfl ⟨hS, by omega⟩
      · intro h2
        refine n_aload_n c_103_34 rfl ?_
        refine n_getR c_103_35 sc_3.n rfl rfl rfl r_3_11 ?_
        refine n_iload_n c_103_38 rfl ?_
        refine n_iload c_103_39 rfl ?_
        refine n_aload_n c_103_41 rfl ?_
        refine n_getR c_103_42 sc_3.n rfl rfl rfl r_3_0 ?_
        refine n_v3V c_103_45 rfl law50.c0.1.n rfl rfl rfl rfl (takeS_2 (k := k) (s := x4) hS (by omega) (by omega)) ?_
        intro  M3 hP4
        have hS3 := hP4
        refine n_aload_n c_103_48 rfl ?_
        refine n_v0I c_103_49 rfl sc_3.n rfl rfl rfl rfl (aaks_2  hS3 ) ?_
        intro z5 M6 hP7
        obtain ⟨hS6, f7⟩ := hP7
        refine n_if0_eq c_103_52 (by omega) ?_ ?_
        · intro h8
          refine n_fg (le_s (le_s (le_s (le_s (le_s le_0))))) ?_
          exact ih.2.2 _ _ _ M6 hS6 (by omega) (by omega) (by omega) (by omega) (by omega) (by omega)
        · intro h9
          refine n_iinc (L2 := [some (2, 3), some (0, k), some (0, x2), some (0, (x3 + 1)), some (0, x4)]) c_103_55 rfl rfl rfl ?_
          refine n_fg (le_s (le_s (le_s (le_s (le_s le_0))))) ?_
          exact ih.2.2 _ _ _ M6 hS6 (by omega) (by omega) (by omega) (by omega) (by omega) (by omega)
    · intro x2 x3 x4 M hS k1 k2 k3 k4 v0 hnn
      refine n_iinc (L2 := [some (2, 3), some (0, k), some (0, x2), some (0, x3), some (0, (x4 + 1))]) c_103_58 rfl rfl rfl ?_
      refine n_goto c_103_61 ?_
      refine n_fg (le_s (le_s (le_s (le_s (le_s le_0))))) ?_
      exact ih.2.1 _ _ _ M hS (by omega) (by omega) (by omega) (by omega) (by omega) (by omega)
set_option maxHeartbeats 4000000 in
theorem laws_2 {xs : List Int32} {e : Nat} {ac : Int} {M0 M : nM} {k : Int} (hS : Sf 2 ac M0 M) (hk : -2147483648 ≤ k ∧ k ≤ 2147483647) : nW xs (e + 4) 103 0 [some (2, 3), some (0, k), none, none, none] [] M (nPI fun z M1 => Sf 2 ac M0 M1 ∧ (-2147483648 ≤ z ∧ z ≤ 2147483647)) := by
  have hd : (2 : Int) = 2 ∨ (2 : Int) = 3 := by decide
  have hac := hS.2.2.2.2
  refine n_iload_n c_103_0 rfl ?_
  refine n_iconst c_103_1 ?_
  refine n_if2_eq c_103_2 (by omega) (by omega) ?_ ?_
  · intro h1
    refine n_fg (le_s (le_s (le_n (le_n (le_n le_0))))) ?_
    exact (laws_2_c hS hk 1044).1  M hS (by omega) (by omega)
  · intro h2
    refine n_iload_n c_103_5 rfl ?_
    refine n_iconst c_103_6 ?_
    refine n_if2_eq c_103_7 (by omega) (by omega) ?_ ?_
    · intro h3
      refine n_fg (le_s (le_s (le_n (le_n (le_n le_0))))) ?_
      exact (laws_2_c hS hk 1044).1  M hS (by omega) (by omega)
    · intro h4
      refine n_iconst c_103_10 ?_
      exact n_rI c_103_11 rfl ⟨hS, by omega⟩

set_option maxHeartbeats 4000000 in
theorem isHeap_2_c {xs : List Int32} {e : Nat} {ac : Int} {M0 M : nM} {s : Int} (hS : Sf 2 ac M0 M) (hs : -2147483648 ≤ s ∧ s ≤ 2147483647) : ∀ nn : Nat, (∀ (x2 : Int), (0 ≤ x2 ∧ x2 ≤ 8) → (8 - x2) * 1 + 1 < (nn : Int) → nW xs (e + 2) 135 2 [some (2, 3), some (0, s), some (0, x2)] [] M (nPI fun z M1 => M = M1 ∧ (0 ≤ z ∧ z ≤ 1))) := by
  have hd : (2 : Int) = 2 ∨ (2 : Int) = 3 := by decide
  have hac := hS.2.2.2.2
  intro nn
  induction nn with
  | zero => intros; omega
  | succ nn ih =>
    intro x2 k2 hnn
    refine n_iload_n c_135_2 rfl ?_
    refine n_aload_n c_135_3 rfl ?_
    refine n_getV (bi := 14) c_135_4 sc_3.n rfl rfl rfl (t_3_14x hS) ?_
    intro z1 ez1 f2
    have f2a := t_ac hS
    refine n_if2_ge c_135_7 (by omega) (by omega) ?_ ?_
    · intro h3
      refine n_iconst c_135_35 ?_
      exact n_rZ c_135_36 rfl (by omega) ⟨rfl, by omega⟩
    · intro h4
      refine n_aload_n c_135_10 rfl ?_
      refine n_getR c_135_11 sc_3.n rfl rfl rfl r_3_2 ?_
      refine n_iload_n c_135_14 rfl ?_
      refine n_aaload c_135_15 sc_12.n rfl rfl rfl (by omega) (r_acts _) ?_
      have q5 : ActAt (55 + 3 * x2) := by unfold ActAt; omega
      have q5l : (55 + 3 * x2) < 55 + 3 * ac := by omega
      refine n_iload_n c_135_16 rfl ?_
      refine n_aload_n c_135_17 rfl ?_
      refine n_getR c_135_18 sc_3.n rfl rfl rfl r_3_0 ?_
      refine n_v2I c_135_21 rfl q5.c0.1.n rfl rfl rfl rfl (staysIn_2 (p := (55 + 3 * x2)) (s := s) hS q5 q5l (by omega)) ?_
      intro z6 M7 hP8
      obtain ⟨eM, f8⟩ := hP8
      subst eM
      refine n_if0_ne c_135_24 (by omega) ?_ ?_
      · intro h9
        refine n_iinc (L2 := [some (2, 3), some (0, s), some (0, (x2 + 1))]) c_135_29 rfl rfl rfl ?_
        refine n_goto c_135_32 ?_
        refine n_fg (le_s (le_s (le_s le_0))) ?_
        exact ih _ (by omega) (by omega)
      · intro h10
        refine n_iconst c_135_27 ?_
        exact n_rZ c_135_28 rfl (by omega) ⟨rfl, by omega⟩
set_option maxHeartbeats 4000000 in
theorem isHeap_2 {xs : List Int32} {e : Nat} {ac : Int} {M0 M : nM} {s : Int} (hS : Sf 2 ac M0 M) (hs : -2147483648 ≤ s ∧ s ≤ 2147483647) : nW xs (e + 2) 135 0 [some (2, 3), some (0, s), none] [] M (nPI fun z M1 => M = M1 ∧ (0 ≤ z ∧ z ≤ 1)) := by
  have hd : (2 : Int) = 2 ∨ (2 : Int) = 3 := by decide
  have hac := hS.2.2.2.2
  refine n_iconst c_135_0 ?_
  refine n_istore_n (L2 := [some (2, 3), some (0, s), some (0, 0)]) c_135_1 rfl rfl ?_
  refine n_fg (le_s (le_s (le_s le_0))) ?_
  exact (isHeap_2_c hS hs 30) _ (by omega) (by omega)

set_option maxHeartbeats 4000000 in
theorem leastHeap_2_c {xs : List Int32} {e : Nat} {ac : Int} {M0 M : nM} {m : Int} (hS : Sf 2 ac M0 M) (hm : -2147483648 ≤ m ∧ m ≤ 2147483647) : ∀ nn : Nat, (∀ (x2 x3 : Int), (3 ≤ x2 ∧ x2 ≤ 3) → (-2147483648 ≤ x3 ∧ x3 ≤ 2147483647) → (2147483647 - x3) * 2 + 2 < (nn : Int) → nW xs (e + 3) 136 10 [some (2, 3), some (0, m), some (0, x2), some (0, x3)] [] M (nPI fun z M1 => M = M1 ∧ (-2147483648 ≤ z ∧ z ≤ 2147483647))) ∧ (∀ (x2 x3 : Int), (3 ≤ x2 ∧ x2 ≤ 3) → (-2147483648 ≤ x3 ∧ x3 ≤ 2) → (2147483647 - x3) * 2 + 1 < (nn : Int) → nW xs (e + 3) 136 32 [some (2, 3), some (0, m), some (0, x2), some (0, x3)] [] M (nPI fun z M1 => M = M1 ∧ (-2147483648 ≤ z ∧ z ≤ 2147483647))) := by
  have hd : (2 : Int) = 2 ∨ (2 : Int) = 3 := by decide
  have hac := hS.2.2.2.2
  intro nn
  induction nn with
  | zero => refine ⟨?_, ?_⟩ <;> (intros; omega)
  | succ nn ih =>
    refine ⟨?_, ?_⟩
    · intro x2 x3 k2 k3 hnn
      refine n_iload_n c_136_10 rfl ?_
      refine n_iload_n c_136_11 rfl ?_
      refine n_if2_ge c_136_12 (by omega) (by omega) ?_ ?_
      · intro h1
        refine n_iload_n c_136_38 rfl ?_
        exact n_rI c_136_39 rfl ⟨rfl, by omega⟩
      · intro h2
        refine n_iload_n c_136_15 rfl ?_
        refine n_iload_n c_136_16 rfl ?_
        refine n_i_iand c_136_17 rfl ?_
        have f3 := n_and_r x3 m
        generalize (n_and x3 m) = z4 at f3 ⊢
        refine n_iload_n c_136_18 rfl ?_
        refine n_if2_ne c_136_19 (by omega) (by omega) ?_ ?_
        · intro h5
          refine n_fg (le_s (le_s (le_s (le_s le_0)))) ?_
          exact ih.2 _ _ (by omega) (by omega) (by omega)
        · intro h6
          refine n_aload_n c_136_22 rfl ?_
          refine n_iload_n c_136_23 rfl ?_
          refine n_v1I c_136_24 rfl sc_3.n rfl rfl rfl rfl (isHeap_2 (s := x3) hS (by omega)) ?_
          intro z7 M8 hP9
          obtain ⟨eM, f9⟩ := hP9
          subst eM
          refine n_if0_eq c_136_27 (by omega) ?_ ?_
          · intro h10
            refine n_fg (le_s (le_s (le_s (le_s le_0)))) ?_
            exact ih.2 _ _ (by omega) (by omega) (by omega)
          · intro h11
            refine n_iload_n c_136_30 rfl ?_
            exact n_rI c_136_31 rfl ⟨rfl, by omega⟩
    · intro x2 x3 k2 k3 hnn
      refine n_iinc (L2 := [some (2, 3), some (0, m), some (0, x2), some (0, (x3 + 1))]) c_136_32 rfl rfl rfl ?_
      refine n_goto c_136_35 ?_
      refine n_fg (le_s (le_s (le_s (le_s le_0)))) ?_
      exact ih.1 _ _ (by omega) (by omega) (by omega)
set_option maxHeartbeats 4000000 in
theorem leastHeap_2 {xs : List Int32} {e : Nat} {ac : Int} {M0 M : nM} {m : Int} (hS : Sf 2 ac M0 M) (hm : -2147483648 ≤ m ∧ m ≤ 2147483647) : nW xs (e + 3) 136 0 [some (2, 3), some (0, m), none, none] [] M (nPI fun z M1 => M = M1 ∧ (-2147483648 ≤ z ∧ z ≤ 2147483647)) := by
  have hd : (2 : Int) = 2 ∨ (2 : Int) = 3 := by decide
  have hac := hS.2.2.2.2
  refine n_aload_n c_136_0 rfl ?_
  refine n_getR c_136_1 sc_3.n rfl rfl rfl r_3_0 ?_
  refine n_v0I c_136_4 rfl sc_4.n rfl rfl rfl rfl (allThings_2  hS ) ?_
  intro z1 M2 hP3
  obtain ⟨eM, f3⟩ := hP3
  subst eM
  obtain rfl : z1 = 3 := by omega
  refine n_istore_n (L2 := [some (2, 3), some (0, m), some (0, 3), none]) c_136_7 rfl rfl ?_
  refine n_iload_n c_136_8 rfl ?_
  refine n_istore_n (L2 := [some (2, 3), some (0, m), some (0, 3), some (0, m)]) c_136_9 rfl rfl ?_
  refine n_fg (le_s (le_s (le_s (le_s le_0)))) ?_
  exact (leastHeap_2_c hS hm 17179869198).1 _ _ (by omega) (by omega) (by omega)

set_option maxHeartbeats 4000000 in
theorem heaps_2_c {xs : List Int32} {e : Nat} {ac : Int} {M0 M : nM} (hS : Sf 2 ac M0 M)  : ∀ nn : Nat, (∀ (x1 x2 : Int), (0 ≤ x1 ∧ x1 ≤ 8) → (1 ≤ x2 ∧ x2 ≤ 4) → (x1 ≤ x2) → (4 - x2) * 2 + 2 < (nn : Int) → nW xs (e + 3) 109 4 [some (2, 3), some (0, x1), some (0, x2)] [] M (nPI fun z M1 => M = M1 ∧ (-2147483648 ≤ z ∧ z ≤ 2147483647))) ∧ (∀ (x1 x2 : Int), (0 ≤ x1 ∧ x1 ≤ 8) → (1 ≤ x2 ∧ x2 ≤ 3) → (x1 ≤ x2 + 1) → (4 - x2) * 2 + 1 < (nn : Int) → nW xs (e + 3) 109 26 [some (2, 3), some (0, x1), some (0, x2)] [] M (nPI fun z M1 => M = M1 ∧ (-2147483648 ≤ z ∧ z ≤ 2147483647))) := by
  have hd : (2 : Int) = 2 ∨ (2 : Int) = 3 := by decide
  have hac := hS.2.2.2.2
  intro nn
  induction nn with
  | zero => refine ⟨?_, ?_⟩ <;> (intros; omega)
  | succ nn ih =>
    refine ⟨?_, ?_⟩
    · intro x1 x2 k1 k2 v0 hnn
      refine n_iload_n c_109_4 rfl ?_
      refine n_aload_n c_109_5 rfl ?_
      refine n_getR c_109_6 sc_3.n rfl rfl rfl r_3_0 ?_
      refine n_v0I c_109_9 rfl sc_4.n rfl rfl rfl rfl (allThings_2  hS ) ?_
      intro z1 M2 hP3
      obtain ⟨eM, f3⟩ := hP3
      subst eM
      obtain rfl : z1 = 3 := by omega
      refine n_if2_gt c_109_12 (by omega) (by omega) ?_ ?_
      · intro h4
        refine n_iload_n c_109_32 rfl ?_
        exact n_rI c_109_33 rfl ⟨rfl, by omega⟩
      · intro h5
        refine n_aload_n c_109_15 rfl ?_
        refine n_iload_n c_109_16 rfl ?_
        refine n_v1I c_109_17 rfl sc_3.n rfl rfl rfl rfl (isHeap_2 (s := x2) hS (by omega)) ?_
        intro z6 M7 hP8
        obtain ⟨eM, f8⟩ := hP8
        subst eM
        refine n_if0_eq c_109_20 (by omega) ?_ ?_
        · intro h9
          refine n_fg (le_s (le_s (le_s le_0))) ?_
          exact ih.2 _ _ (by omega) (by omega) (by omega) (by omega)
        · intro h10
          refine n_iinc (L2 := [some (2, 3), some (0, (x1 + 1)), some (0, x2)]) c_109_23 rfl rfl rfl ?_
          refine n_fg (le_s (le_s (le_s le_0))) ?_
          exact ih.2 _ _ (by omega) (by omega) (by omega) (by omega)
    · intro x1 x2 k1 k2 v0 hnn
      refine n_iinc (L2 := [some (2, 3), some (0, x1), some (0, (x2 + 1))]) c_109_26 rfl rfl rfl ?_
      refine n_goto c_109_29 ?_
      refine n_fg (le_s (le_s (le_s le_0))) ?_
      exact ih.1 _ _ (by omega) (by omega) (by omega) (by omega)
set_option maxHeartbeats 4000000 in
theorem heaps_2 {xs : List Int32} {e : Nat} {ac : Int} {M0 M : nM} (hS : Sf 2 ac M0 M)  : nW xs (e + 3) 109 0 [some (2, 3), none, none] [] M (nPI fun z M1 => M = M1 ∧ (-2147483648 ≤ z ∧ z ≤ 2147483647)) := by
  have hd : (2 : Int) = 2 ∨ (2 : Int) = 3 := by decide
  have hac := hS.2.2.2.2
  refine n_iconst c_109_0 ?_
  refine n_istore_n (L2 := [some (2, 3), some (0, 0), none]) c_109_1 rfl rfl ?_
  refine n_iconst c_109_2 ?_
  refine n_istore_n (L2 := [some (2, 3), some (0, 0), some (0, 1)]) c_109_3 rfl rfl ?_
  refine n_fg (le_s (le_s (le_s le_0))) ?_
  exact (heaps_2_c hS  30).1 _ _ (by omega) (by omega) (by omega) (by omega)

set_option maxHeartbeats 4000000 in
theorem heap_2_c {xs : List Int32} {e : Nat} {ac : Int} {M0 M : nM} {m : Int} (hS : Sf 2 ac M0 M) (hm : -2147483648 ≤ m ∧ m ≤ 2147483647) : ∀ nn : Nat, (1 < (nn : Int) → nW xs (e + 4) 110 16 [none, none] [] M (nPI fun z M1 => M = M1 ∧ (-2147483648 ≤ z ∧ z ≤ 2147483647))) := by
  have hd : (2 : Int) = 2 ∨ (2 : Int) = 3 := by decide
  have hac := hS.2.2.2.2
  intro nn
  induction nn with
  | zero => intros; omega
  | succ nn ih =>
    intro hnn
    refine n_iconst c_110_16 ?_
    exact n_rI c_110_17 rfl ⟨rfl, by omega⟩
set_option maxHeartbeats 4000000 in
theorem heap_2 {xs : List Int32} {e : Nat} {ac : Int} {M0 M : nM} {m : Int} (hS : Sf 2 ac M0 M) (hm : -2147483648 ≤ m ∧ m ≤ 2147483647) : nW xs (e + 4) 110 0 [some (2, 3), some (0, m)] [] M (nPI fun z M1 => M = M1 ∧ (-2147483648 ≤ z ∧ z ≤ 2147483647)) := by
  have hd : (2 : Int) = 2 ∨ (2 : Int) = 3 := by decide
  have hac := hS.2.2.2.2
  refine n_iload_n c_110_0 rfl ?_
  refine n_iconst c_110_1 ?_
  refine n_if2_lt c_110_2 (by omega) (by omega) ?_ ?_
  · intro h1
    refine n_fg (le_n (le_n le_0)) ?_
    exact (heap_2_c hS hm 12)   (by omega)
  · intro h2
    refine n_iload_n c_110_5 rfl ?_
    refine n_aload_n c_110_6 rfl ?_
    refine n_getR c_110_7 sc_3.n rfl rfl rfl r_3_0 ?_
    refine n_v0I c_110_10 rfl sc_4.n rfl rfl rfl rfl (allThings_2  hS ) ?_
    intro z3 M4 hP5
    obtain ⟨eM, f5⟩ := hP5
    subst eM
    obtain rfl : z3 = 3 := by omega
    refine n_if2_le c_110_13 (by omega) (by omega) ?_ ?_
    · intro h6
      refine n_aload_n c_110_18 rfl ?_
      refine n_iload_n c_110_19 rfl ?_
      refine n_v1I c_110_20 rfl sc_3.n rfl rfl rfl rfl (leastHeap_2 (m := m) hS (by omega)) ?_
      intro z7 M8 hP9
      obtain ⟨eM, f9⟩ := hP9
      subst eM
      exact n_rI c_110_23 rfl ⟨rfl, by omega⟩
    · intro h10
      refine n_fg (le_n (le_n le_0)) ?_
      exact (heap_2_c hS hm 12)   (by omega)

set_option maxHeartbeats 4000000 in
theorem partings_2 {xs : List Int32} {e : Nat} {ac : Int} {M0 M : nM} (hS : Sf 2 ac M0 M)  : nW xs e 137 0 [some (2, 3)] [] M (nPA fun z M1 => M = M1 ∧ z = 0) := by
  have hd : (2 : Int) = 2 ∨ (2 : Int) = 3 := by decide
  have hac := hS.2.2.2.2
  refine n_aload_n c_137_0 rfl ?_
  refine n_getR c_137_1 sc_3.n rfl rfl rfl r_3_0 ?_
  refine n_getV (bi := 0) c_137_4 sc_4.n rfl rfl rfl (t_4_0 hS) ?_
  intro z1 ez1 f2
  obtain rfl : z1 = 2 := by omega
  refine n_iconst c_137_7 ?_
  refine n_if2_ne c_137_8 (by omega) (by omega) ?_ ?_
  · intro h3
    exfalso; omega
  · intro h4
    refine n_gets c_137_11 ?_
    refine n_goto c_137_14 ?_
    exact n_rA c_137_20 rfl ⟨rfl, rfl⟩

set_option maxHeartbeats 4000000 in
theorem aakp0_2_c {xs : List Int32} {e : Nat} {ac : Int} {M0 M : nM} (hS : Sf 2 ac M0 M)  : ∀ nn : Nat, (∀ (x2 : Int), (0 ≤ x2 ∧ x2 ≤ 8) → (8 - x2) * 1 + 1 < (nn : Int) → nW xs (e + 2) 138 2 [some (2, 3), some (0, 0), some (0, x2)] [] M (nPI fun z M1 => M = M1 ∧ (0 ≤ z ∧ z ≤ 1))) := by
  have hd : (2 : Int) = 2 ∨ (2 : Int) = 3 := by decide
  have hac := hS.2.2.2.2
  intro nn
  induction nn with
  | zero => intros; omega
  | succ nn ih =>
    intro x2 k2 hnn
    refine n_iload_n c_138_2 rfl ?_
    refine n_aload_n c_138_3 rfl ?_
    refine n_getV (bi := 14) c_138_4 sc_3.n rfl rfl rfl (t_3_14x hS) ?_
    intro z1 ez1 f2
    have f2a := t_ac hS
    refine n_if2_ge c_138_7 (by omega) (by omega) ?_ ?_
    · intro h3
      refine n_iconst c_138_35 ?_
      exact n_rZ c_138_36 rfl (by omega) ⟨rfl, by omega⟩
    · intro h4
      refine n_aload_n c_138_10 rfl ?_
      refine n_getR c_138_11 sc_3.n rfl rfl rfl r_3_2 ?_
      refine n_iload_n c_138_14 rfl ?_
      refine n_aaload c_138_15 sc_12.n rfl rfl rfl (by omega) (r_acts _) ?_
      have q5 : ActAt (55 + 3 * x2) := by unfold ActAt; omega
      have q5l : (55 + 3 * x2) < 55 + 3 * ac := by omega
      refine n_iload_n c_138_16 rfl ?_
      refine n_aload_n c_138_17 rfl ?_
      refine n_getR c_138_18 sc_3.n rfl rfl rfl r_3_0 ?_
      refine n_v2I c_138_21 rfl q5.c0.1.n rfl rfl rfl rfl (keepsParts0_2 (p := (55 + 3 * x2)) hS q5 q5l) ?_
      intro z6 M7 hP8
      obtain ⟨eM, f8⟩ := hP8
      subst eM
      refine n_if0_ne c_138_24 (by omega) ?_ ?_
      · intro h9
        refine n_iinc (L2 := [some (2, 3), some (0, 0), some (0, (x2 + 1))]) c_138_29 rfl rfl rfl ?_
        refine n_goto c_138_32 ?_
        refine n_fg (le_s (le_s (le_s le_0))) ?_
        exact ih _ (by omega) (by omega)
      · intro h10
        refine n_iconst c_138_27 ?_
        exact n_rZ c_138_28 rfl (by omega) ⟨rfl, by omega⟩
set_option maxHeartbeats 4000000 in
theorem aakp0_2 {xs : List Int32} {e : Nat} {ac : Int} {M0 M : nM} (hS : Sf 2 ac M0 M)  : nW xs (e + 2) 138 0 [some (2, 3), some (0, 0), none] [] M (nPI fun z M1 => M = M1 ∧ (0 ≤ z ∧ z ≤ 1)) := by
  have hd : (2 : Int) = 2 ∨ (2 : Int) = 3 := by decide
  have hac := hS.2.2.2.2
  refine n_iconst c_138_0 ?_
  refine n_istore_n (L2 := [some (2, 3), some (0, 0), some (0, 0)]) c_138_1 rfl rfl ?_
  refine n_fg (le_s (le_s (le_s le_0))) ?_
  exact (aakp0_2_c hS  30) _ (by omega) (by omega)

set_option maxHeartbeats 4000000 in
theorem aakp4_2_c {xs : List Int32} {e : Nat} {ac : Int} {M0 M : nM} (hS : Sf 2 ac M0 M)  : ∀ nn : Nat, (∀ (x2 : Int), (0 ≤ x2 ∧ x2 ≤ 8) → (8 - x2) * 1 + 1 < (nn : Int) → nW xs (e + 2) 138 2 [some (2, 3), some (0, 4), some (0, x2)] [] M (nPI fun z M1 => M = M1 ∧ (0 ≤ z ∧ z ≤ 1))) := by
  have hd : (2 : Int) = 2 ∨ (2 : Int) = 3 := by decide
  have hac := hS.2.2.2.2
  intro nn
  induction nn with
  | zero => intros; omega
  | succ nn ih =>
    intro x2 k2 hnn
    refine n_iload_n c_138_2 rfl ?_
    refine n_aload_n c_138_3 rfl ?_
    refine n_getV (bi := 14) c_138_4 sc_3.n rfl rfl rfl (t_3_14x hS) ?_
    intro z1 ez1 f2
    have f2a := t_ac hS
    refine n_if2_ge c_138_7 (by omega) (by omega) ?_ ?_
    · intro h3
      refine n_iconst c_138_35 ?_
      exact n_rZ c_138_36 rfl (by omega) ⟨rfl, by omega⟩
    · intro h4
      refine n_aload_n c_138_10 rfl ?_
      refine n_getR c_138_11 sc_3.n rfl rfl rfl r_3_2 ?_
      refine n_iload_n c_138_14 rfl ?_
      refine n_aaload c_138_15 sc_12.n rfl rfl rfl (by omega) (r_acts _) ?_
      have q5 : ActAt (55 + 3 * x2) := by unfold ActAt; omega
      have q5l : (55 + 3 * x2) < 55 + 3 * ac := by omega
      refine n_iload_n c_138_16 rfl ?_
      refine n_aload_n c_138_17 rfl ?_
      refine n_getR c_138_18 sc_3.n rfl rfl rfl r_3_0 ?_
      refine n_v2I c_138_21 rfl q5.c0.1.n rfl rfl rfl rfl (keepsParts4_2 (p := (55 + 3 * x2)) hS q5 q5l) ?_
      intro z6 M7 hP8
      obtain ⟨eM, f8⟩ := hP8
      subst eM
      refine n_if0_ne c_138_24 (by omega) ?_ ?_
      · intro h9
        refine n_iinc (L2 := [some (2, 3), some (0, 4), some (0, (x2 + 1))]) c_138_29 rfl rfl rfl ?_
        refine n_goto c_138_32 ?_
        refine n_fg (le_s (le_s (le_s le_0))) ?_
        exact ih _ (by omega) (by omega)
      · intro h10
        refine n_iconst c_138_27 ?_
        exact n_rZ c_138_28 rfl (by omega) ⟨rfl, by omega⟩
set_option maxHeartbeats 4000000 in
theorem aakp4_2 {xs : List Int32} {e : Nat} {ac : Int} {M0 M : nM} (hS : Sf 2 ac M0 M)  : nW xs (e + 2) 138 0 [some (2, 3), some (0, 4), none] [] M (nPI fun z M1 => M = M1 ∧ (0 ≤ z ∧ z ≤ 1)) := by
  have hd : (2 : Int) = 2 ∨ (2 : Int) = 3 := by decide
  have hac := hS.2.2.2.2
  refine n_iconst c_138_0 ?_
  refine n_istore_n (L2 := [some (2, 3), some (0, 4), some (0, 0)]) c_138_1 rfl rfl ?_
  refine n_fg (le_s (le_s (le_s le_0))) ?_
  exact (aakp4_2_c hS  30) _ (by omega) (by omega)

set_option maxHeartbeats 4000000 in
theorem pairings_2 {xs : List Int32} {e : Nat} {ac : Int} {M0 M : nM} (hS : Sf 2 ac M0 M)  : nW xs (e + 3) 111 0 [some (2, 3), none, none, none] [] M (nPI fun z M1 => M = M1 ∧ (-2147483648 ≤ z ∧ z ≤ 2147483647)) := by
  have hd : (2 : Int) = 2 ∨ (2 : Int) = 3 := by decide
  have hac := hS.2.2.2.2
  refine n_aload_n c_111_0 rfl ?_
  refine n_v0A c_111_1 rfl sc_3.n rfl rfl rfl rfl (partings_2  hS ) ?_
  intro z1 M2 hP3
  obtain ⟨eM, f3⟩ := hP3
  subst eM
  obtain rfl : z1 = 0 := f3
  refine n_astore_n (L2 := [some (2, 3), some (2, 0), none, none]) c_111_4 rfl rfl ?_
  refine n_iconst c_111_5 ?_
  refine n_istore_n (L2 := [some (2, 3), some (2, 0), some (0, 0), none]) c_111_6 rfl rfl ?_
  refine n_iconst c_111_7 ?_
  refine n_istore_n (L2 := [some (2, 3), some (2, 0), some (0, 0), some (0, 0)]) c_111_8 rfl rfl ?_
  refine n_iload_n c_111_9 rfl ?_
  refine n_aload_n c_111_10 rfl ?_
  refine n_alen c_111_11 sc_0.n rfl ?_
  refine n_if2_ge c_111_12 (by omega) (by omega) ?_ ?_
  · intro h4
    exfalso; omega
  · intro h5
    refine n_aload_n c_111_15 rfl ?_
    refine n_aload_n c_111_16 rfl ?_
    refine n_iload_n c_111_17 rfl ?_
    refine n_ialoadV c_111_18 sc_0.n rfl rfl rfl (by omega) (t_0_0 hS) ?_
    intro z6 ez6 f7
    have hcst : (z6 : Int) = 0 := by omega
    rw [hcst]
    refine n_v1I c_111_19 rfl sc_3.n rfl rfl rfl rfl (aakp0_2  hS ) ?_
    intro z8 M9 hP10
    obtain ⟨eM, f10⟩ := hP10
    subst eM
    refine n_if0_eq c_111_22 (by omega) ?_ ?_
    · intro h11
      refine n_iinc (L2 := [some (2, 3), some (2, 0), some (0, 0), some (0, (0 + 1))]) c_111_28 rfl rfl rfl ?_
      refine n_goto c_111_31 ?_
      refine n_iload_n c_111_9 rfl ?_
      refine n_aload_n c_111_10 rfl ?_
      refine n_alen c_111_11 sc_0.n rfl ?_
      refine n_if2_ge c_111_12 (by omega) (by omega) ?_ ?_
      · intro h12
        exfalso; omega
      · intro h13
        refine n_aload_n c_111_15 rfl ?_
        refine n_aload_n c_111_16 rfl ?_
        refine n_iload_n c_111_17 rfl ?_
        refine n_ialoadV c_111_18 sc_0.n rfl rfl rfl (by omega) (t_0_1 hS) ?_
        intro z14 ez14 f15
        have hcst : (z14 : Int) = 4 := by omega
        rw [hcst]
        refine n_v1I c_111_19 rfl sc_3.n rfl rfl rfl rfl (aakp4_2  hS ) ?_
        intro z16 M17 hP18
        obtain ⟨eM, f18⟩ := hP18
        subst eM
        refine n_if0_eq c_111_22 (by omega) ?_ ?_
        · intro h19
          refine n_iinc (L2 := [some (2, 3), some (2, 0), some (0, 0), some (0, ((0 + 1) + 1))]) c_111_28 rfl rfl rfl ?_
          refine n_goto c_111_31 ?_
          refine n_iload_n c_111_9 rfl ?_
          refine n_aload_n c_111_10 rfl ?_
          refine n_alen c_111_11 sc_0.n rfl ?_
          refine n_if2_ge c_111_12 (by omega) (by omega) ?_ ?_
          · intro h20
            refine n_iload_n c_111_34 rfl ?_
            exact n_rI c_111_35 rfl ⟨rfl, by omega⟩
          · intro h21
            exfalso; omega
        · intro h22
          refine n_iinc (L2 := [some (2, 3), some (2, 0), some (0, (0 + 1)), some (0, (0 + 1))]) c_111_25 rfl rfl rfl ?_
          refine n_iinc (L2 := [some (2, 3), some (2, 0), some (0, (0 + 1)), some (0, ((0 + 1) + 1))]) c_111_28 rfl rfl rfl ?_
          refine n_goto c_111_31 ?_
          refine n_iload_n c_111_9 rfl ?_
          refine n_aload_n c_111_10 rfl ?_
          refine n_alen c_111_11 sc_0.n rfl ?_
          refine n_if2_ge c_111_12 (by omega) (by omega) ?_ ?_
          · intro h23
            refine n_iload_n c_111_34 rfl ?_
            exact n_rI c_111_35 rfl ⟨rfl, by omega⟩
          · intro h24
            exfalso; omega
    · intro h25
      refine n_iinc (L2 := [some (2, 3), some (2, 0), some (0, (0 + 1)), some (0, 0)]) c_111_25 rfl rfl rfl ?_
      refine n_iinc (L2 := [some (2, 3), some (2, 0), some (0, (0 + 1)), some (0, (0 + 1))]) c_111_28 rfl rfl rfl ?_
      refine n_goto c_111_31 ?_
      refine n_iload_n c_111_9 rfl ?_
      refine n_aload_n c_111_10 rfl ?_
      refine n_alen c_111_11 sc_0.n rfl ?_
      refine n_if2_ge c_111_12 (by omega) (by omega) ?_ ?_
      · intro h26
        exfalso; omega
      · intro h27
        refine n_aload_n c_111_15 rfl ?_
        refine n_aload_n c_111_16 rfl ?_
        refine n_iload_n c_111_17 rfl ?_
        refine n_ialoadV c_111_18 sc_0.n rfl rfl rfl (by omega) (t_0_1 hS) ?_
        intro z28 ez28 f29
        have hcst : (z28 : Int) = 4 := by omega
        rw [hcst]
        refine n_v1I c_111_19 rfl sc_3.n rfl rfl rfl rfl (aakp4_2  hS ) ?_
        intro z30 M31 hP32
        obtain ⟨eM, f32⟩ := hP32
        subst eM
        refine n_if0_eq c_111_22 (by omega) ?_ ?_
        · intro h33
          refine n_iinc (L2 := [some (2, 3), some (2, 0), some (0, (0 + 1)), some (0, ((0 + 1) + 1))]) c_111_28 rfl rfl rfl ?_
          refine n_goto c_111_31 ?_
          refine n_iload_n c_111_9 rfl ?_
          refine n_aload_n c_111_10 rfl ?_
          refine n_alen c_111_11 sc_0.n rfl ?_
          refine n_if2_ge c_111_12 (by omega) (by omega) ?_ ?_
          · intro h34
            refine n_iload_n c_111_34 rfl ?_
            exact n_rI c_111_35 rfl ⟨rfl, by omega⟩
          · intro h35
            exfalso; omega
        · intro h36
          refine n_iinc (L2 := [some (2, 3), some (2, 0), some (0, ((0 + 1) + 1)), some (0, (0 + 1))]) c_111_25 rfl rfl rfl ?_
          refine n_iinc (L2 := [some (2, 3), some (2, 0), some (0, ((0 + 1) + 1)), some (0, ((0 + 1) + 1))]) c_111_28 rfl rfl rfl ?_
          refine n_goto c_111_31 ?_
          refine n_iload_n c_111_9 rfl ?_
          refine n_aload_n c_111_10 rfl ?_
          refine n_alen c_111_11 sc_0.n rfl ?_
          refine n_if2_ge c_111_12 (by omega) (by omega) ?_ ?_
          · intro h37
            refine n_iload_n c_111_34 rfl ?_
            exact n_rI c_111_35 rfl ⟨rfl, by omega⟩
          · intro h38
            exfalso; omega

set_option maxHeartbeats 4000000 in
theorem pairing_2 {xs : List Int32} {e : Nat} {ac : Int} {M0 M : nM} {i : Int} (hS : Sf 2 ac M0 M) (hi : -2147483648 ≤ i ∧ i ≤ 2147483647) : nW xs (e + 3) 112 0 [some (2, 3), some (0, i), none, none, none] [] M (nPI fun z M1 => M = M1 ∧ (-2147483648 ≤ z ∧ z ≤ 2147483647)) := by
  have hd : (2 : Int) = 2 ∨ (2 : Int) = 3 := by decide
  have hac := hS.2.2.2.2
  refine n_aload_n c_112_0 rfl ?_
  refine n_v0A c_112_1 rfl sc_3.n rfl rfl rfl rfl (partings_2  hS ) ?_
  intro z1 M2 hP3
  obtain ⟨eM, f3⟩ := hP3
  subst eM
  obtain rfl : z1 = 0 := f3
  refine n_astore_n (L2 := [some (2, 3), some (0, i), some (2, 0), none, none]) c_112_4 rfl rfl ?_
  refine n_iconst c_112_5 ?_
  refine n_istore_n (L2 := [some (2, 3), some (0, i), some (2, 0), some (0, 0), none]) c_112_6 rfl rfl ?_
  refine n_iconst c_112_7 ?_
  refine n_istore (L2 := [some (2, 3), some (0, i), some (2, 0), some (0, 0), some (0, 0)]) c_112_8 rfl rfl ?_
  refine n_iload c_112_10 rfl ?_
  refine n_aload_n c_112_12 rfl ?_
  refine n_alen c_112_13 sc_0.n rfl ?_
  refine n_if2_ge c_112_14 (by omega) (by omega) ?_ ?_
  · intro h4
    exfalso; omega
  · intro h5
    refine n_aload_n c_112_17 rfl ?_
    refine n_aload_n c_112_18 rfl ?_
    refine n_iload c_112_19 rfl ?_
    refine n_ialoadV c_112_21 sc_0.n rfl rfl rfl (by omega) (t_0_0 hS) ?_
    intro z6 ez6 f7
    have hcst : (z6 : Int) = 0 := by omega
    rw [hcst]
    refine n_v1I c_112_22 rfl sc_3.n rfl rfl rfl rfl (aakp0_2  hS ) ?_
    intro z8 M9 hP10
    obtain ⟨eM, f10⟩ := hP10
    subst eM
    refine n_if0_eq c_112_25 (by omega) ?_ ?_
    · intro h11
      refine n_iinc (L2 := [some (2, 3), some (0, i), some (2, 0), some (0, 0), some (0, (0 + 1))]) c_112_41 rfl rfl rfl ?_
      refine n_goto c_112_44 ?_
      refine n_iload c_112_10 rfl ?_
      refine n_aload_n c_112_12 rfl ?_
      refine n_alen c_112_13 sc_0.n rfl ?_
      refine n_if2_ge c_112_14 (by omega) (by omega) ?_ ?_
      · intro h12
        exfalso; omega
      · intro h13
        refine n_aload_n c_112_17 rfl ?_
        refine n_aload_n c_112_18 rfl ?_
        refine n_iload c_112_19 rfl ?_
        refine n_ialoadV c_112_21 sc_0.n rfl rfl rfl (by omega) (t_0_1 hS) ?_
        intro z14 ez14 f15
        have hcst : (z14 : Int) = 4 := by omega
        rw [hcst]
        refine n_v1I c_112_22 rfl sc_3.n rfl rfl rfl rfl (aakp4_2  hS ) ?_
        intro z16 M17 hP18
        obtain ⟨eM, f18⟩ := hP18
        subst eM
        refine n_if0_eq c_112_25 (by omega) ?_ ?_
        · intro h19
          refine n_iinc (L2 := [some (2, 3), some (0, i), some (2, 0), some (0, 0), some (0, ((0 + 1) + 1))]) c_112_41 rfl rfl rfl ?_
          refine n_goto c_112_44 ?_
          refine n_iload c_112_10 rfl ?_
          refine n_aload_n c_112_12 rfl ?_
          refine n_alen c_112_13 sc_0.n rfl ?_
          refine n_if2_ge c_112_14 (by omega) (by omega) ?_ ?_
          · intro h20
            refine n_iconst c_112_47 ?_
            exact n_rI c_112_48 rfl ⟨rfl, by omega⟩
          · intro h21
            exfalso; omega
        · intro h22
          refine n_iload_n c_112_28 rfl ?_
          refine n_iload_n c_112_29 rfl ?_
          refine n_if2_ne c_112_30 (by omega) (by omega) ?_ ?_
          · intro h23
            refine n_iinc (L2 := [some (2, 3), some (0, i), some (2, 0), some (0, (0 + 1)), some (0, (0 + 1))]) c_112_38 rfl rfl rfl ?_
            refine n_iinc (L2 := [some (2, 3), some (0, i), some (2, 0), some (0, (0 + 1)), some (0, ((0 + 1) + 1))]) c_112_41 rfl rfl rfl ?_
            refine n_goto c_112_44 ?_
            refine n_iload c_112_10 rfl ?_
            refine n_aload_n c_112_12 rfl ?_
            refine n_alen c_112_13 sc_0.n rfl ?_
            refine n_if2_ge c_112_14 (by omega) (by omega) ?_ ?_
            · intro h24
              refine n_iconst c_112_47 ?_
              exact n_rI c_112_48 rfl ⟨rfl, by omega⟩
            · intro h25
              exfalso; omega
          · intro h26
            refine n_aload_n c_112_33 rfl ?_
            refine n_iload c_112_34 rfl ?_
            refine n_ialoadV c_112_36 sc_0.n rfl rfl rfl (by omega) (t_0_1 hS) ?_
            intro z27 ez27 f28
            exact n_rI c_112_37 rfl ⟨rfl, by omega⟩
    · intro h29
      refine n_iload_n c_112_28 rfl ?_
      refine n_iload_n c_112_29 rfl ?_
      refine n_if2_ne c_112_30 (by omega) (by omega) ?_ ?_
      · intro h30
        refine n_iinc (L2 := [some (2, 3), some (0, i), some (2, 0), some (0, (0 + 1)), some (0, 0)]) c_112_38 rfl rfl rfl ?_
        refine n_iinc (L2 := [some (2, 3), some (0, i), some (2, 0), some (0, (0 + 1)), some (0, (0 + 1))]) c_112_41 rfl rfl rfl ?_
        refine n_goto c_112_44 ?_
        refine n_iload c_112_10 rfl ?_
        refine n_aload_n c_112_12 rfl ?_
        refine n_alen c_112_13 sc_0.n rfl ?_
        refine n_if2_ge c_112_14 (by omega) (by omega) ?_ ?_
        · intro h31
          exfalso; omega
        · intro h32
          refine n_aload_n c_112_17 rfl ?_
          refine n_aload_n c_112_18 rfl ?_
          refine n_iload c_112_19 rfl ?_
          refine n_ialoadV c_112_21 sc_0.n rfl rfl rfl (by omega) (t_0_1 hS) ?_
          intro z33 ez33 f34
          have hcst : (z33 : Int) = 4 := by omega
          rw [hcst]
          refine n_v1I c_112_22 rfl sc_3.n rfl rfl rfl rfl (aakp4_2  hS ) ?_
          intro z35 M36 hP37
          obtain ⟨eM, f37⟩ := hP37
          subst eM
          refine n_if0_eq c_112_25 (by omega) ?_ ?_
          · intro h38
            refine n_iinc (L2 := [some (2, 3), some (0, i), some (2, 0), some (0, (0 + 1)), some (0, ((0 + 1) + 1))]) c_112_41 rfl rfl rfl ?_
            refine n_goto c_112_44 ?_
            refine n_iload c_112_10 rfl ?_
            refine n_aload_n c_112_12 rfl ?_
            refine n_alen c_112_13 sc_0.n rfl ?_
            refine n_if2_ge c_112_14 (by omega) (by omega) ?_ ?_
            · intro h39
              refine n_iconst c_112_47 ?_
              exact n_rI c_112_48 rfl ⟨rfl, by omega⟩
            · intro h40
              exfalso; omega
          · intro h41
            refine n_iload_n c_112_28 rfl ?_
            refine n_iload_n c_112_29 rfl ?_
            refine n_if2_ne c_112_30 (by omega) (by omega) ?_ ?_
            · intro h42
              refine n_iinc (L2 := [some (2, 3), some (0, i), some (2, 0), some (0, ((0 + 1) + 1)), some (0, (0 + 1))]) c_112_38 rfl rfl rfl ?_
              refine n_iinc (L2 := [some (2, 3), some (0, i), some (2, 0), some (0, ((0 + 1) + 1)), some (0, ((0 + 1) + 1))]) c_112_41 rfl rfl rfl ?_
              refine n_goto c_112_44 ?_
              refine n_iload c_112_10 rfl ?_
              refine n_aload_n c_112_12 rfl ?_
              refine n_alen c_112_13 sc_0.n rfl ?_
              refine n_if2_ge c_112_14 (by omega) (by omega) ?_ ?_
              · intro h43
                refine n_iconst c_112_47 ?_
                exact n_rI c_112_48 rfl ⟨rfl, by omega⟩
              · intro h44
                exfalso; omega
            · intro h45
              refine n_aload_n c_112_33 rfl ?_
              refine n_iload c_112_34 rfl ?_
              refine n_ialoadV c_112_36 sc_0.n rfl rfl rfl (by omega) (t_0_1 hS) ?_
              intro z46 ez46 f47
              exact n_rI c_112_37 rfl ⟨rfl, by omega⟩
      · intro h48
        refine n_aload_n c_112_33 rfl ?_
        refine n_iload c_112_34 rfl ?_
        refine n_ialoadV c_112_36 sc_0.n rfl rfl rfl (by omega) (t_0_0 hS) ?_
        intro z49 ez49 f50
        exact n_rI c_112_37 rfl ⟨rfl, by omega⟩

set_option maxHeartbeats 4000000 in
theorem signs_2_c {xs : List Int32} {e : Nat} {ac : Int} {M0 M : nM} {a : Int} (hS : Sf 2 ac M0 M) (ha : -2147483648 ≤ a ∧ a ≤ 2147483647) : ∀ nn : Nat, (1 < (nn : Int) → nW xs (e + 2) 113 19 [none, none] [] M (nPI fun z M1 => M = M1 ∧ (-2147483648 ≤ z ∧ z ≤ 2147483647))) := by
  have hd : (2 : Int) = 2 ∨ (2 : Int) = 3 := by decide
  have hac := hS.2.2.2.2
  intro nn
  induction nn with
  | zero => intros; omega
  | succ nn ih =>
    intro hnn
    refine n_iconst c_113_19 ?_
    exact n_rI c_113_20 rfl ⟨rfl, by omega⟩
set_option maxHeartbeats 4000000 in
theorem signs_2 {xs : List Int32} {e : Nat} {ac : Int} {M0 M : nM} {a : Int} (hS : Sf 2 ac M0 M) (ha : -2147483648 ≤ a ∧ a ≤ 2147483647) : nW xs (e + 2) 113 0 [some (2, 3), some (0, a)] [] M (nPI fun z M1 => M = M1 ∧ (-2147483648 ≤ z ∧ z ≤ 2147483647)) := by
  have hd : (2 : Int) = 2 ∨ (2 : Int) = 3 := by decide
  have hac := hS.2.2.2.2
  refine n_aload_n c_113_0 rfl ?_
  refine n_iload_n c_113_1 rfl ?_
  refine n_v1I c_113_2 rfl sc_3.n rfl rfl rfl rfl (isAct_2 (a := a) hS (by omega)) ?_
  intro z1 M2 hP3
  obtain ⟨eM, f3, f3p0⟩ := hP3
  subst eM
  refine n_if0_eq c_113_5 (by omega) ?_ ?_
  · intro h4
    refine n_fg (le_n (le_n le_0)) ?_
    exact (signs_2_c hS ha 12)   (by omega)
  · intro h5
    refine n_aload_n c_113_8 rfl ?_
    refine n_getR c_113_9 sc_3.n rfl rfl rfl r_3_0 ?_
    refine n_getV (bi := 0) c_113_12 sc_4.n rfl rfl rfl (t_4_0 hS) ?_
    intro z6 ez6 f7
    obtain rfl : z6 = 2 := by omega
    refine n_iconst c_113_15 ?_
    refine n_if2_ne c_113_16 (by omega) (by omega) ?_ ?_
    · intro h8
      refine n_aload_n c_113_21 rfl ?_
      refine n_getR c_113_22 sc_3.n rfl rfl rfl r_3_2 ?_
      refine n_iload_n c_113_25 rfl ?_
      refine n_aaload c_113_26 sc_12.n rfl rfl rfl (by omega) (r_acts _) ?_
      have q9 : ActAt (55 + 3 * a) := by unfold ActAt; omega
      have q9l : (55 + 3 * a) < 55 + 3 * ac := by omega
      refine n_v0I c_113_27 rfl q9.c0.1.n rfl rfl rfl rfl (signBits_2 (p := (55 + 3 * a)) hS q9 q9l) ?_
      intro z10 M11 hP12
      obtain ⟨eM, f12⟩ := hP12
      subst eM
      exact n_rI c_113_30 rfl ⟨rfl, by omega⟩
    · intro h13
      exfalso; omega

set_option maxHeartbeats 4000000 in
theorem whole_2_c {xs : List Int32} {e : Nat} {ac : Int} {M0 M : nM} (hS : Sf 2 ac M0 M)  : ∀ nn : Nat, (∀ (x1 x2 : Int), (0 ≤ x1 ∧ x1 ≤ 31) → (0 ≤ x2 ∧ x2 ≤ 8) → (8 - x2) * 1 + 1 < (nn : Int) → nW xs (e + 2) 114 18 [some (2, 3), some (0, x1), some (0, x2)] [] M (nPI fun z M1 => M = M1 ∧ (-2147483648 ≤ z ∧ z ≤ 2147483647))) := by
  have hd : (2 : Int) = 2 ∨ (2 : Int) = 3 := by decide
  have hac := hS.2.2.2.2
  intro nn
  induction nn with
  | zero => intros; omega
  | succ nn ih =>
    intro x1 x2 k1 k2 hnn
    refine n_iload_n c_114_18 rfl ?_
    refine n_aload_n c_114_19 rfl ?_
    refine n_getV (bi := 14) c_114_20 sc_3.n rfl rfl rfl (t_3_14x hS) ?_
    intro z1 ez1 f2
    have f2a := t_ac hS
    refine n_if2_ge c_114_23 (by omega) (by omega) ?_ ?_
    · intro h3
      refine n_iload_n c_114_44 rfl ?_
      refine n_if0_ne c_114_45 (by omega) ?_ ?_
      · intro h4
        refine n_iconst c_114_52 ?_
        exact n_rI c_114_53 rfl ⟨rfl, by omega⟩
      · intro h5
        refine n_iconst c_114_48 ?_
        refine n_goto c_114_49 ?_
        exact n_rI c_114_53 rfl ⟨rfl, by omega⟩
    · intro h6
      refine n_iload_n c_114_26 rfl ?_
      refine n_aload_n c_114_27 rfl ?_
      refine n_getR c_114_28 sc_3.n rfl rfl rfl r_3_2 ?_
      refine n_iload_n c_114_31 rfl ?_
      refine n_aaload c_114_32 sc_12.n rfl rfl rfl (by omega) (r_acts _) ?_
      have q7 : ActAt (55 + 3 * x2) := by unfold ActAt; omega
      have q7l : (55 + 3 * x2) < 55 + 3 * ac := by omega
      refine n_v0I c_114_33 rfl q7.c0.1.n rfl rfl rfl rfl (signBits_2 (p := (55 + 3 * x2)) hS q7 q7l) ?_
      intro z8 M9 hP10
      obtain ⟨eM, f10⟩ := hP10
      subst eM
      refine n_i_iand c_114_36 rfl ?_
      have f11 := n_and_x (x := x1) (y := z8) (by omega)
      generalize (n_and x1 z8) = z12 at f11 ⊢
      refine n_istore_n (L2 := [some (2, 3), some (0, z12), some (0, x2)]) c_114_37 rfl rfl ?_
      refine n_iinc (L2 := [some (2, 3), some (0, z12), some (0, (x2 + 1))]) c_114_38 rfl rfl rfl ?_
      refine n_goto c_114_41 ?_
      refine n_fg (le_s (le_s (le_s le_0))) ?_
      exact ih _ _ (by omega) (by omega) (by omega)
set_option maxHeartbeats 4000000 in
theorem whole_2 {xs : List Int32} {e : Nat} {ac : Int} {M0 M : nM} (hS : Sf 2 ac M0 M)  : nW xs (e + 2) 114 0 [some (2, 3), none, none] [] M (nPI fun z M1 => M = M1 ∧ (-2147483648 ≤ z ∧ z ≤ 2147483647)) := by
  have hd : (2 : Int) = 2 ∨ (2 : Int) = 3 := by decide
  have hac := hS.2.2.2.2
  refine n_aload_n c_114_0 rfl ?_
  refine n_getR c_114_1 sc_3.n rfl rfl rfl r_3_0 ?_
  refine n_getV (bi := 0) c_114_4 sc_4.n rfl rfl rfl (t_4_0 hS) ?_
  intro z1 ez1 f2
  obtain rfl : z1 = 2 := by omega
  refine n_iconst c_114_7 ?_
  refine n_if2_ne c_114_8 (by omega) (by omega) ?_ ?_
  · intro h3
    refine n_bipush c_114_13 rfl ?_
    refine n_istore_n (L2 := [some (2, 3), some (0, 31), none]) c_114_15 rfl rfl ?_
    refine n_iconst c_114_16 ?_
    refine n_istore_n (L2 := [some (2, 3), some (0, 31), some (0, 0)]) c_114_17 rfl rfl ?_
    refine n_fg (le_s (le_s (le_s le_0))) ?_
    exact (whole_2_c hS  30) _ _ (by omega) (by omega) (by omega)
  · intro h4
    exfalso; omega

set_option maxHeartbeats 4000000 in
theorem restrainForm_2_c {xs : List Int32} {e : Nat} {ac : Int} {M0 M : nM} {m : Int} (hS : Sf 2 ac M0 M) (hm : -2147483648 ≤ m ∧ m ≤ 2147483647) : ∀ nn : Nat, (∀ (x2 : Int) (M : nM), Sf 2 ac M0 M → (0 ≤ x2 ∧ x2 ≤ 12) → (12 - x2) * 2 + 2 < (nn : Int) → nW xs (e + 3) 133 2 [some (2, 3), some (0, m), some (0, x2)] [] M (nPV fun M1 => Sf 2 ac M0 M1)) ∧ (∀ (x2 : Int) (M : nM), Sf 2 ac M0 M → (0 ≤ x2 ∧ x2 ≤ 11) → (12 - x2) * 2 + 1 < (nn : Int) → nW xs (e + 3) 133 39 [some (2, 3), some (0, m), some (0, x2)] [] M (nPV fun M1 => Sf 2 ac M0 M1)) := by
  have hd : (2 : Int) = 2 ∨ (2 : Int) = 3 := by decide
  have hac := hS.2.2.2.2
  intro nn
  induction nn with
  | zero => refine ⟨?_, ?_⟩ <;> (intros; omega)
  | succ nn ih =>
    refine ⟨?_, ?_⟩
    · intro x2 M hS k2 hnn
      refine n_iload_n c_133_2 rfl ?_
      refine n_aload_n c_133_3 rfl ?_
      refine n_getV (bi := 15) c_133_4 sc_3.n rfl rfl rfl (t_3_15 hS) ?_
      intro z1 ez1 f2
      refine n_if2_ge c_133_7 (by omega) (by omega) ?_ ?_
      · intro h3
        exact n_rV c_133_45 rfl hS
      · intro h4
        refine n_iload_n c_133_10 rfl ?_
        refine n_iload_n c_133_11 rfl ?_
        refine n_i_ishr c_133_12 rfl ?_
        have f5 := n_shr_r m x2
        generalize (n_shr m x2) = z6 at f5 ⊢
        refine n_iconst c_133_13 ?_
        refine n_i_iand c_133_14 rfl ?_
        have f7 := n_and_y (x := z6) (y := 1) (by omega)
        generalize (n_and z6 1) = z8 at f7 ⊢
        refine n_if0_eq c_133_15 (by omega) ?_ ?_
        · intro h9
          refine n_fg (le_s (le_s (le_s le_0))) ?_
          exact ih.2 _ M hS (by omega) (by omega)
        · intro h10
          refine n_aload_n c_133_18 rfl ?_
          refine n_getR c_133_19 sc_3.n rfl rfl rfl r_3_7 ?_
          refine n_aload_n c_133_22 rfl ?_
          refine n_getR c_133_23 sc_3.n rfl rfl rfl r_3_8 ?_
          refine n_aload_n c_133_26 rfl ?_
          refine n_getR c_133_27 sc_3.n rfl rfl rfl r_3_3 ?_
          refine n_iload_n c_133_30 rfl ?_
          refine n_aaload c_133_31 sc_13.n rfl rfl rfl (by omega) (r_laws _) ?_
          have q11 : LawAt (79 + 2 * x2) := by unfold LawAt; omega
          refine n_aload_n c_133_32 rfl ?_
          refine n_getR c_133_33 sc_3.n rfl rfl rfl r_3_0 ?_
          refine n_v3V c_133_36 rfl sc_38.n rfl rfl rfl rfl (restrain_2 (w := (79 + 2 * x2)) hS q11) ?_
          intro  M12 hP13
          have hS12 := hP13
          refine n_fg (le_s (le_s (le_s le_0))) ?_
          exact ih.2 _ M12 hS12 (by omega) (by omega)
    · intro x2 M hS k2 hnn
      refine n_iinc (L2 := [some (2, 3), some (0, m), some (0, (x2 + 1))]) c_133_39 rfl rfl rfl ?_
      refine n_goto c_133_42 ?_
      refine n_fg (le_s (le_s (le_s le_0))) ?_
      exact ih.1 _ M hS (by omega) (by omega)
set_option maxHeartbeats 4000000 in
theorem restrainForm_2 {xs : List Int32} {e : Nat} {ac : Int} {M0 M : nM} {m : Int} (hS : Sf 2 ac M0 M) (hm : -2147483648 ≤ m ∧ m ≤ 2147483647) : nW xs (e + 3) 133 0 [some (2, 3), some (0, m), none] [] M (nPV fun M1 => Sf 2 ac M0 M1) := by
  have hd : (2 : Int) = 2 ∨ (2 : Int) = 3 := by decide
  have hac := hS.2.2.2.2
  refine n_iconst c_133_0 ?_
  refine n_istore_n (L2 := [some (2, 3), some (0, m), some (0, 0)]) c_133_1 rfl rfl ?_
  refine n_fg (le_s (le_s (le_s le_0))) ?_
  exact (restrainForm_2_c hS hm 66).1 _ M hS (by omega) (by omega)

set_option maxHeartbeats 4000000 in
theorem findKeepers_2_c {xs : List Int32} {e : Nat} {ac : Int} {M0 M : nM} {m n : Int} (hS : Sf 2 ac M0 M) (hm : -2147483648 ≤ m ∧ m ≤ 2147483647) (hn : 1 ≤ n ∧ n ≤ 3) : ∀ nn : Nat, (∀ (x3 : Int) (M : nM), Sf 2 ac M0 M → (0 ≤ x3 ∧ x3 ≤ 4095) → 1 < (nn : Int) → nW xs (e + 30) 132 28 [some (2, 3), none, some (0, n), some (0, x3)] [] M (nPV fun M1 => Sf 2 ac M0 M1)) := by
  have hd : (2 : Int) = 2 ∨ (2 : Int) = 3 := by decide
  have hac := hS.2.2.2.2
  intro nn
  induction nn with
  | zero => intros; omega
  | succ nn ih =>
    intro x3 M hS k3 hnn
    refine n_aload_n c_132_28 rfl ?_
    refine n_getR c_132_29 sc_3.n rfl rfl rfl r_3_8 ?_
    refine n_iload_n c_132_32 rfl ?_
    refine n_aload_n c_132_33 rfl ?_
    refine n_getR c_132_34 sc_3.n rfl rfl rfl r_3_0 ?_
    refine n_v2V c_132_37 rfl sc_44.n rfl rfl rfl rfl (beFree_2 (n := n) hS (by omega)) ?_
    intro  M1 hP2
    have hS1 := hP2
    refine n_aload_n c_132_40 rfl ?_
    refine n_getR c_132_41 sc_3.n rfl rfl rfl r_3_7 ?_
    refine n_aload_n c_132_44 rfl ?_
    refine n_getR c_132_45 sc_3.n rfl rfl rfl r_3_0 ?_
    refine n_getV (bi := 0) c_132_48 sc_4.n rfl rfl rfl (t_4_0 hS1) ?_
    intro z3 ez3 f4
    obtain rfl : z3 = 2 := by omega
    refine n_aload_n c_132_51 rfl ?_
    refine n_getR c_132_52 sc_3.n rfl rfl rfl r_3_8 ?_
    refine n_getV (bi := 2) c_132_55 sc_44.n rfl rfl rfl (t_44_2 hS1) ?_
    intro z5 ez5 f6
    refine n_v2V c_132_58 rfl sc_38.n rfl rfl rfl rfl (nstart_2 (c := z5) hS1 (by omega)) ?_
    intro  M7 hP8
    have hS7 := hP8
    refine n_aload_n c_132_61 rfl ?_
    refine n_iload_n c_132_62 rfl ?_
    refine n_v1V c_132_63 rfl sc_3.n rfl rfl rfl rfl (restrainForm_2 (m := x3) hS7 (by omega)) ?_
    intro  M9 hP10
    have hS9 := hP10
    refine n_aload_n c_132_66 rfl ?_
    refine n_getR c_132_67 sc_3.n rfl rfl rfl r_3_7 ?_
    refine n_v0V c_132_70 rfl sc_38.n rfl rfl rfl rfl (order_2  hS9 ) ?_
    intro  M11 hP12
    have hS11 := hP12
    refine n_aload_n c_132_73 rfl ?_
    refine n_getR c_132_74 sc_3.n rfl rfl rfl r_3_7 ?_
    refine n_aload_n c_132_77 rfl ?_
    refine n_getR c_132_78 sc_3.n rfl rfl rfl r_3_9 ?_
    refine n_v1V c_132_81 rfl sc_38.n rfl rfl rfl rfl (findAll46_2  hS11 ) ?_
    intro  M13 hP14
    have hS13 := hP14
    refine n_aload_n c_132_84 rfl ?_
    refine n_iload_n c_132_85 rfl ?_
    refine n_putV (bi := 17) hS13 c_132_86 sc_3.n rfl rfl rfl rfl (w_3_17 (by omega)) ?_
    intro M15 eM15 hS15
    have g15_0 : M15 3 17 = n := by rw [eM15]; exact nu_s _ _ _ _
    refine n_aload_n c_132_89 rfl ?_
    refine n_iload_n c_132_90 rfl ?_
    refine n_putV (bi := 16) hS15 c_132_91 sc_3.n rfl rfl rfl rfl (w_3_16 (by omega)) ?_
    intro M16 eM16 hS16
    have g16_0 : M16 3 17 = M15 3 17 := by rw [eM16]; exact nu_i (by omega)
    have g16_1 : M16 3 16 = x3 := by rw [eM16]; exact nu_s _ _ _ _
    exact n_rV c_132_94 rfl hS16
set_option maxHeartbeats 4000000 in
theorem findKeepers_2 {xs : List Int32} {e : Nat} {ac : Int} {M0 M : nM} {m n : Int} (hS : Sf 2 ac M0 M) (hm : -2147483648 ≤ m ∧ m ≤ 2147483647) (hn : 1 ≤ n ∧ n ≤ 3) : nW xs (e + 30) 132 0 [some (2, 3), some (0, m), some (0, n), none] [] M (nPV fun M1 => Sf 2 ac M0 M1) := by
  have hd : (2 : Int) = 2 ∨ (2 : Int) = 3 := by decide
  have hac := hS.2.2.2.2
  refine n_iload_n c_132_0 rfl ?_
  refine n_iconst c_132_1 ?_
  refine n_aload_n c_132_2 rfl ?_
  refine n_getV (bi := 15) c_132_3 sc_3.n rfl rfl rfl (t_3_15 hS) ?_
  intro z1 ez1 f2
  refine n_i_ishl c_132_6 rfl ?_
  have f3 := n_shl_1 (y := z1) (a := 0) (b := 12) (by decide) (by omega)
  generalize (n_shl 1 z1) = z4 at f3 ⊢
  refine n_iconst c_132_7 ?_
  refine n_isub c_132_8 rfl ?_
  refine n_i_iand c_132_9 rfl ?_
  have f5 := n_and_y (x := m) (y := (z4 - 1)) (by omega)
  generalize (n_and m (z4 - 1)) = z6 at f5 ⊢
  refine n_istore_n (L2 := [some (2, 3), some (0, m), some (0, n), some (0, z6)]) c_132_10 rfl rfl ?_
  refine n_aload_n c_132_11 rfl ?_
  refine n_getV (bi := 17) c_132_12 sc_3.n rfl rfl rfl (t_3_17 hS) ?_
  intro z7 ez7 f8
  refine n_iload_n c_132_15 rfl ?_
  refine n_if2_ne c_132_16 (by omega) (by omega) ?_ ?_
  · intro h9
    refine n_fg (le_s (le_n (le_s (le_s le_0)))) ?_
    exact (findKeepers_2_c hS hm hn 12) _ M hS (by omega) (by omega)
  · intro h10
    refine n_aload_n c_132_19 rfl ?_
    refine n_getV (bi := 16) c_132_20 sc_3.n rfl rfl rfl (t_3_16 hS) ?_
    intro z11 ez11 f12
    refine n_iload_n c_132_23 rfl ?_
    refine n_if2_ne c_132_24 (by omega) (by omega) ?_ ?_
    · intro h13
      refine n_fg (le_s (le_n (le_s (le_s le_0)))) ?_
      exact (findKeepers_2_c hS hm hn 12) _ M hS (by omega) (by omega)
    · intro h14
      exact n_rV c_132_27 rfl hS

set_option maxHeartbeats 4000000 in
theorem actsOf_2 {xs : List Int32} {e : Nat} {ac : Int} {M0 M : nM} {m n : Int} (hS : Sf 2 ac M0 M) (hm : -2147483648 ≤ m ∧ m ≤ 2147483647) (hn : -2147483648 ≤ n ∧ n ≤ 2147483647) : nW xs (e + 31) 107 0 [some (2, 3), some (0, m), some (0, n)] [] M (nPI fun z M1 => Sf 2 ac M0 M1 ∧ (-2147483648 ≤ z ∧ z ≤ 2147483647)) := by
  have hd : (2 : Int) = 2 ∨ (2 : Int) = 3 := by decide
  have hac := hS.2.2.2.2
  refine n_aload_n c_107_0 rfl ?_
  refine n_getR c_107_1 sc_3.n rfl rfl rfl r_3_0 ?_
  refine n_iload_n c_107_4 rfl ?_
  refine n_v1I c_107_5 rfl sc_4.n rfl rfl rfl rfl (isMadeOf_2 (n := n) hS (by omega)) ?_
  intro z1 M2 hP3
  obtain ⟨eM, f3, f3p0⟩ := hP3
  subst eM
  refine n_if0_ne c_107_8 (by omega) ?_ ?_
  · intro h4
    refine n_aload_n c_107_13 rfl ?_
    refine n_iload_n c_107_14 rfl ?_
    refine n_iload_n c_107_15 rfl ?_
    refine n_v2V c_107_16 rfl sc_3.n rfl rfl rfl rfl (findKeepers_2 (m := m) (n := n) hS (by omega) (by omega)) ?_
    intro  M5 hP6
    have hS5 := hP6
    refine n_aload_n c_107_19 rfl ?_
    refine n_getR c_107_20 sc_3.n rfl rfl rfl r_3_9 ?_
    refine n_getV (bi := 1) c_107_23 sc_46.n rfl rfl rfl (t_46_1 hS5) ?_
    intro z7 ez7 f8
    exact n_rI c_107_26 rfl ⟨hS5, by omega⟩
  · intro h9
    refine n_iconst c_107_11 ?_
    exact n_rI c_107_12 rfl ⟨hS, by omega⟩
