/-! The methods, by program. -/
set_option maxHeartbeats 4000000 in
theorem seek5_3_c {xs : List Int32} {e : Nat} {ac : Int} {M0 M : nM} (hS : Sf 3 ac M0 M)  : ∀ nn : Nat, (∀ (x3 : Int) (M : nM), Sf 3 ac M0 M → (0 ≤ x3 ∧ x3 ≤ 3) → (3 - x3) * 2 + 2 < (nn : Int) → nW xs (e + 7) 71 23 [some (2, 38), some (0, 5), some (2, 44), some (0, x3)] [] M (nPI fun z M1 => Sf 3 ac M0 M1 ∧ (0 ≤ z ∧ z ≤ 1))) ∧ (∀ (x3 : Int) (M : nM), Sf 3 ac M0 M → (0 ≤ x3 ∧ x3 ≤ 2) → (3 - x3) * 2 + 1 < (nn : Int) → nW xs (e + 7) 71 59 [some (2, 38), some (0, 5), some (2, 44), some (0, x3)] [] M (nPI fun z M1 => Sf 3 ac M0 M1 ∧ (0 ≤ z ∧ z ≤ 1))) := by
  have hd : (3 : Int) = 2 ∨ (3 : Int) = 3 := by decide
  have hac := hS.2.2.2.2
  intro nn
  induction nn with
  | zero => refine ⟨?_, ?_⟩ <;> (intros; omega)
  | succ nn ih =>
    refine ⟨?_, ?_⟩
    · intro x3 M hS k3 hnn
      refine n_iload_n c_71_23 rfl ?_
      refine n_aload_n c_71_24 rfl ?_
      refine n_getV (bi := 5) c_71_25 sc_38.n rfl rfl rfl (t_38_5 hS) ?_
      intro z1 ez1 f2
      refine n_if2_ge c_71_28 (by omega) (by omega) ?_ ?_
      · intro h3
        refine n_iconst c_71_65 ?_
        exact n_rZ c_71_66 rfl (by omega) ⟨hS, by omega⟩
      · intro h4
        refine n_aload_n c_71_31 rfl ?_
        refine n_getR c_71_32 sc_38.n rfl rfl rfl r_38_0 ?_
        refine n_iload_n c_71_35 rfl ?_
        refine n_iload_n c_71_36 rfl ?_
        refine n_iastoreV hS c_71_37 sc_39.n rfl (by omega) (w_39 (by omega) (by omega)) ?_
        intro M5 eM5 hS5
        have g5_0 : M5 38 5 = M 38 5 := by rw [eM5]; exact nu_a (by omega)
        refine n_aload_n c_71_38 rfl ?_
        refine n_iload_n c_71_39 rfl ?_
        refine n_v1I c_71_40 rfl sc_38.n rfl rfl rfl rfl (fits_3 (l := 5) hS5 (by omega)) ?_
        intro z6 M7 hP8
        obtain ⟨eM, f8⟩ := hP8
        subst eM
        refine n_if0_eq c_71_43 (by omega) ?_ ?_
        · intro h9
          refine n_fg (le_s (le_s (le_s (le_s le_0)))) ?_
          exact ih.2 _ M5 hS5 (by omega) (by omega)
        · intro h10
          refine n_aload_n c_71_46 rfl ?_
          refine n_iload_n c_71_47 rfl ?_
          refine n_iconst c_71_48 ?_
          refine n_iadd c_71_49 rfl ?_
          refine n_aload_n c_71_50 rfl ?_
          have hcst : ((5 + 1) : Int) = 6 := by omega
          rw [hcst]
          refine n_s3I c_71_51 rfl rfl rfl rfl (seek6_3  hS5 ) ?_
          intro z11 M12 hP13
          obtain ⟨hS12, f13⟩ := hP13
          refine n_if0_eq c_71_54 (by omega) ?_ ?_
          · intro h14
            refine n_fg (le_s (le_s (le_s (le_s le_0)))) ?_
            exact ih.2 _ M12 hS12 (by omega) (by omega)
          · intro h15
            refine n_iconst c_71_57 ?_
            exact n_rZ c_71_58 rfl (by omega) ⟨hS12, by omega⟩
    · intro x3 M hS k3 hnn
      refine n_iinc (L2 := [some (2, 38), some (0, 5), some (2, 44), some (0, (x3 + 1))]) c_71_59 rfl rfl rfl ?_
      refine n_goto c_71_62 ?_
      refine n_fg (le_s (le_s (le_s (le_s le_0)))) ?_
      exact ih.1 _ M hS (by omega) (by omega)
set_option maxHeartbeats 4000000 in
theorem seek5_3 {xs : List Int32} {e : Nat} {ac : Int} {M0 M : nM} (hS : Sf 3 ac M0 M)  : nW xs (e + 7) 71 0 [some (2, 38), some (0, 5), some (2, 44), none] [] M (nPI fun z M1 => Sf 3 ac M0 M1 ∧ (0 ≤ z ∧ z ≤ 1)) := by
  have hd : (3 : Int) = 2 ∨ (3 : Int) = 3 := by decide
  have hac := hS.2.2.2.2
  refine n_iload_n c_71_0 rfl ?_
  refine n_aload_n c_71_1 rfl ?_
  refine n_getV (bi := 6) c_71_2 sc_38.n rfl rfl rfl (t_38_6 hS) ?_
  intro z1 ez1 f2
  refine n_if2_lt c_71_5 (by omega) (by omega) ?_ ?_
  · intro h3
    refine n_iconst c_71_21 ?_
    refine n_istore_n (L2 := [some (2, 38), some (0, 5), some (2, 44), some (0, 0)]) c_71_22 rfl rfl ?_
    refine n_fg (le_s (le_s (le_s (le_s le_0)))) ?_
    exact (seek5_3_c hS  30).1 _ M hS (by omega) (by omega)
  · intro h4
    refine n_aload_n c_71_8 rfl ?_
    refine n_aload_n c_71_9 rfl ?_
    refine n_getR c_71_10 sc_38.n rfl rfl rfl r_38_0 ?_
    refine n_aload_n c_71_13 rfl ?_
    refine n_getV (bi := 5) c_71_14 sc_38.n rfl rfl rfl (t_38_5 hS) ?_
    intro z5 ez5 f6
    refine n_v2I c_71_17 rfl sc_44.n rfl rfl rfl rfl (suits_3 (t := z5) hS (by omega)) ?_
    intro z7 M8 hP9
    obtain ⟨eM, f9⟩ := hP9
    subst eM
    exact n_rZ c_71_20 rfl (by omega) ⟨hS, by omega⟩

set_option maxHeartbeats 4000000 in
theorem seek4_3_c {xs : List Int32} {e : Nat} {ac : Int} {M0 M : nM} (hS : Sf 3 ac M0 M)  : ∀ nn : Nat, (∀ (x3 : Int) (M : nM), Sf 3 ac M0 M → (0 ≤ x3 ∧ x3 ≤ 3) → (3 - x3) * 2 + 2 < (nn : Int) → nW xs (e + 8) 71 23 [some (2, 38), some (0, 4), some (2, 44), some (0, x3)] [] M (nPI fun z M1 => Sf 3 ac M0 M1 ∧ (0 ≤ z ∧ z ≤ 1))) ∧ (∀ (x3 : Int) (M : nM), Sf 3 ac M0 M → (0 ≤ x3 ∧ x3 ≤ 2) → (3 - x3) * 2 + 1 < (nn : Int) → nW xs (e + 8) 71 59 [some (2, 38), some (0, 4), some (2, 44), some (0, x3)] [] M (nPI fun z M1 => Sf 3 ac M0 M1 ∧ (0 ≤ z ∧ z ≤ 1))) := by
  have hd : (3 : Int) = 2 ∨ (3 : Int) = 3 := by decide
  have hac := hS.2.2.2.2
  intro nn
  induction nn with
  | zero => refine ⟨?_, ?_⟩ <;> (intros; omega)
  | succ nn ih =>
    refine ⟨?_, ?_⟩
    · intro x3 M hS k3 hnn
      refine n_iload_n c_71_23 rfl ?_
      refine n_aload_n c_71_24 rfl ?_
      refine n_getV (bi := 5) c_71_25 sc_38.n rfl rfl rfl (t_38_5 hS) ?_
      intro z1 ez1 f2
      refine n_if2_ge c_71_28 (by omega) (by omega) ?_ ?_
      · intro h3
        refine n_iconst c_71_65 ?_
        exact n_rZ c_71_66 rfl (by omega) ⟨hS, by omega⟩
      · intro h4
        refine n_aload_n c_71_31 rfl ?_
        refine n_getR c_71_32 sc_38.n rfl rfl rfl r_38_0 ?_
        refine n_iload_n c_71_35 rfl ?_
        refine n_iload_n c_71_36 rfl ?_
        refine n_iastoreV hS c_71_37 sc_39.n rfl (by omega) (w_39 (by omega) (by omega)) ?_
        intro M5 eM5 hS5
        have g5_0 : M5 38 5 = M 38 5 := by rw [eM5]; exact nu_a (by omega)
        refine n_aload_n c_71_38 rfl ?_
        refine n_iload_n c_71_39 rfl ?_
        refine n_v1I c_71_40 rfl sc_38.n rfl rfl rfl rfl (fits_3 (l := 4) hS5 (by omega)) ?_
        intro z6 M7 hP8
        obtain ⟨eM, f8⟩ := hP8
        subst eM
        refine n_if0_eq c_71_43 (by omega) ?_ ?_
        · intro h9
          refine n_fg (le_s (le_s (le_s (le_s le_0)))) ?_
          exact ih.2 _ M5 hS5 (by omega) (by omega)
        · intro h10
          refine n_aload_n c_71_46 rfl ?_
          refine n_iload_n c_71_47 rfl ?_
          refine n_iconst c_71_48 ?_
          refine n_iadd c_71_49 rfl ?_
          refine n_aload_n c_71_50 rfl ?_
          have hcst : ((4 + 1) : Int) = 5 := by omega
          rw [hcst]
          refine n_s3I c_71_51 rfl rfl rfl rfl (seek5_3  hS5 ) ?_
          intro z11 M12 hP13
          obtain ⟨hS12, f13⟩ := hP13
          refine n_if0_eq c_71_54 (by omega) ?_ ?_
          · intro h14
            refine n_fg (le_s (le_s (le_s (le_s le_0)))) ?_
            exact ih.2 _ M12 hS12 (by omega) (by omega)
          · intro h15
            refine n_iconst c_71_57 ?_
            exact n_rZ c_71_58 rfl (by omega) ⟨hS12, by omega⟩
    · intro x3 M hS k3 hnn
      refine n_iinc (L2 := [some (2, 38), some (0, 4), some (2, 44), some (0, (x3 + 1))]) c_71_59 rfl rfl rfl ?_
      refine n_goto c_71_62 ?_
      refine n_fg (le_s (le_s (le_s (le_s le_0)))) ?_
      exact ih.1 _ M hS (by omega) (by omega)
set_option maxHeartbeats 4000000 in
theorem seek4_3 {xs : List Int32} {e : Nat} {ac : Int} {M0 M : nM} (hS : Sf 3 ac M0 M)  : nW xs (e + 8) 71 0 [some (2, 38), some (0, 4), some (2, 44), none] [] M (nPI fun z M1 => Sf 3 ac M0 M1 ∧ (0 ≤ z ∧ z ≤ 1)) := by
  have hd : (3 : Int) = 2 ∨ (3 : Int) = 3 := by decide
  have hac := hS.2.2.2.2
  refine n_iload_n c_71_0 rfl ?_
  refine n_aload_n c_71_1 rfl ?_
  refine n_getV (bi := 6) c_71_2 sc_38.n rfl rfl rfl (t_38_6 hS) ?_
  intro z1 ez1 f2
  refine n_if2_lt c_71_5 (by omega) (by omega) ?_ ?_
  · intro h3
    refine n_iconst c_71_21 ?_
    refine n_istore_n (L2 := [some (2, 38), some (0, 4), some (2, 44), some (0, 0)]) c_71_22 rfl rfl ?_
    refine n_fg (le_s (le_s (le_s (le_s le_0)))) ?_
    exact (seek4_3_c hS  30).1 _ M hS (by omega) (by omega)
  · intro h4
    refine n_aload_n c_71_8 rfl ?_
    refine n_aload_n c_71_9 rfl ?_
    refine n_getR c_71_10 sc_38.n rfl rfl rfl r_38_0 ?_
    refine n_aload_n c_71_13 rfl ?_
    refine n_getV (bi := 5) c_71_14 sc_38.n rfl rfl rfl (t_38_5 hS) ?_
    intro z5 ez5 f6
    refine n_v2I c_71_17 rfl sc_44.n rfl rfl rfl rfl (suits_3 (t := z5) hS (by omega)) ?_
    intro z7 M8 hP9
    obtain ⟨eM, f9⟩ := hP9
    subst eM
    exact n_rZ c_71_20 rfl (by omega) ⟨hS, by omega⟩

set_option maxHeartbeats 4000000 in
theorem seek3_3_c {xs : List Int32} {e : Nat} {ac : Int} {M0 M : nM} (hS : Sf 3 ac M0 M)  : ∀ nn : Nat, (∀ (x3 : Int) (M : nM), Sf 3 ac M0 M → (0 ≤ x3 ∧ x3 ≤ 3) → (3 - x3) * 2 + 2 < (nn : Int) → nW xs (e + 9) 71 23 [some (2, 38), some (0, 3), some (2, 44), some (0, x3)] [] M (nPI fun z M1 => Sf 3 ac M0 M1 ∧ (0 ≤ z ∧ z ≤ 1))) ∧ (∀ (x3 : Int) (M : nM), Sf 3 ac M0 M → (0 ≤ x3 ∧ x3 ≤ 2) → (3 - x3) * 2 + 1 < (nn : Int) → nW xs (e + 9) 71 59 [some (2, 38), some (0, 3), some (2, 44), some (0, x3)] [] M (nPI fun z M1 => Sf 3 ac M0 M1 ∧ (0 ≤ z ∧ z ≤ 1))) := by
  have hd : (3 : Int) = 2 ∨ (3 : Int) = 3 := by decide
  have hac := hS.2.2.2.2
  intro nn
  induction nn with
  | zero => refine ⟨?_, ?_⟩ <;> (intros; omega)
  | succ nn ih =>
    refine ⟨?_, ?_⟩
    · intro x3 M hS k3 hnn
      refine n_iload_n c_71_23 rfl ?_
      refine n_aload_n c_71_24 rfl ?_
      refine n_getV (bi := 5) c_71_25 sc_38.n rfl rfl rfl (t_38_5 hS) ?_
      intro z1 ez1 f2
      refine n_if2_ge c_71_28 (by omega) (by omega) ?_ ?_
      · intro h3
        refine n_iconst c_71_65 ?_
        exact n_rZ c_71_66 rfl (by omega) ⟨hS, by omega⟩
      · intro h4
        refine n_aload_n c_71_31 rfl ?_
        refine n_getR c_71_32 sc_38.n rfl rfl rfl r_38_0 ?_
        refine n_iload_n c_71_35 rfl ?_
        refine n_iload_n c_71_36 rfl ?_
        refine n_iastoreV hS c_71_37 sc_39.n rfl (by omega) (w_39 (by omega) (by omega)) ?_
        intro M5 eM5 hS5
        have g5_0 : M5 38 5 = M 38 5 := by rw [eM5]; exact nu_a (by omega)
        refine n_aload_n c_71_38 rfl ?_
        refine n_iload_n c_71_39 rfl ?_
        refine n_v1I c_71_40 rfl sc_38.n rfl rfl rfl rfl (fits_3 (l := 3) hS5 (by omega)) ?_
        intro z6 M7 hP8
        obtain ⟨eM, f8⟩ := hP8
        subst eM
        refine n_if0_eq c_71_43 (by omega) ?_ ?_
        · intro h9
          refine n_fg (le_s (le_s (le_s (le_s le_0)))) ?_
          exact ih.2 _ M5 hS5 (by omega) (by omega)
        · intro h10
          refine n_aload_n c_71_46 rfl ?_
          refine n_iload_n c_71_47 rfl ?_
          refine n_iconst c_71_48 ?_
          refine n_iadd c_71_49 rfl ?_
          refine n_aload_n c_71_50 rfl ?_
          have hcst : ((3 + 1) : Int) = 4 := by omega
          rw [hcst]
          refine n_s3I c_71_51 rfl rfl rfl rfl (seek4_3  hS5 ) ?_
          intro z11 M12 hP13
          obtain ⟨hS12, f13⟩ := hP13
          refine n_if0_eq c_71_54 (by omega) ?_ ?_
          · intro h14
            refine n_fg (le_s (le_s (le_s (le_s le_0)))) ?_
            exact ih.2 _ M12 hS12 (by omega) (by omega)
          · intro h15
            refine n_iconst c_71_57 ?_
            exact n_rZ c_71_58 rfl (by omega) ⟨hS12, by omega⟩
    · intro x3 M hS k3 hnn
      refine n_iinc (L2 := [some (2, 38), some (0, 3), some (2, 44), some (0, (x3 + 1))]) c_71_59 rfl rfl rfl ?_
      refine n_goto c_71_62 ?_
      refine n_fg (le_s (le_s (le_s (le_s le_0)))) ?_
      exact ih.1 _ M hS (by omega) (by omega)
set_option maxHeartbeats 4000000 in
theorem seek3_3 {xs : List Int32} {e : Nat} {ac : Int} {M0 M : nM} (hS : Sf 3 ac M0 M)  : nW xs (e + 9) 71 0 [some (2, 38), some (0, 3), some (2, 44), none] [] M (nPI fun z M1 => Sf 3 ac M0 M1 ∧ (0 ≤ z ∧ z ≤ 1)) := by
  have hd : (3 : Int) = 2 ∨ (3 : Int) = 3 := by decide
  have hac := hS.2.2.2.2
  refine n_iload_n c_71_0 rfl ?_
  refine n_aload_n c_71_1 rfl ?_
  refine n_getV (bi := 6) c_71_2 sc_38.n rfl rfl rfl (t_38_6 hS) ?_
  intro z1 ez1 f2
  refine n_if2_lt c_71_5 (by omega) (by omega) ?_ ?_
  · intro h3
    refine n_iconst c_71_21 ?_
    refine n_istore_n (L2 := [some (2, 38), some (0, 3), some (2, 44), some (0, 0)]) c_71_22 rfl rfl ?_
    refine n_fg (le_s (le_s (le_s (le_s le_0)))) ?_
    exact (seek3_3_c hS  30).1 _ M hS (by omega) (by omega)
  · intro h4
    refine n_aload_n c_71_8 rfl ?_
    refine n_aload_n c_71_9 rfl ?_
    refine n_getR c_71_10 sc_38.n rfl rfl rfl r_38_0 ?_
    refine n_aload_n c_71_13 rfl ?_
    refine n_getV (bi := 5) c_71_14 sc_38.n rfl rfl rfl (t_38_5 hS) ?_
    intro z5 ez5 f6
    refine n_v2I c_71_17 rfl sc_44.n rfl rfl rfl rfl (suits_3 (t := z5) hS (by omega)) ?_
    intro z7 M8 hP9
    obtain ⟨eM, f9⟩ := hP9
    subst eM
    exact n_rZ c_71_20 rfl (by omega) ⟨hS, by omega⟩

set_option maxHeartbeats 4000000 in
theorem seek2_3_c {xs : List Int32} {e : Nat} {ac : Int} {M0 M : nM} (hS : Sf 3 ac M0 M)  : ∀ nn : Nat, (∀ (x3 : Int) (M : nM), Sf 3 ac M0 M → (0 ≤ x3 ∧ x3 ≤ 3) → (3 - x3) * 2 + 2 < (nn : Int) → nW xs (e + 10) 71 23 [some (2, 38), some (0, 2), some (2, 44), some (0, x3)] [] M (nPI fun z M1 => Sf 3 ac M0 M1 ∧ (0 ≤ z ∧ z ≤ 1))) ∧ (∀ (x3 : Int) (M : nM), Sf 3 ac M0 M → (0 ≤ x3 ∧ x3 ≤ 2) → (3 - x3) * 2 + 1 < (nn : Int) → nW xs (e + 10) 71 59 [some (2, 38), some (0, 2), some (2, 44), some (0, x3)] [] M (nPI fun z M1 => Sf 3 ac M0 M1 ∧ (0 ≤ z ∧ z ≤ 1))) := by
  have hd : (3 : Int) = 2 ∨ (3 : Int) = 3 := by decide
  have hac := hS.2.2.2.2
  intro nn
  induction nn with
  | zero => refine ⟨?_, ?_⟩ <;> (intros; omega)
  | succ nn ih =>
    refine ⟨?_, ?_⟩
    · intro x3 M hS k3 hnn
      refine n_iload_n c_71_23 rfl ?_
      refine n_aload_n c_71_24 rfl ?_
      refine n_getV (bi := 5) c_71_25 sc_38.n rfl rfl rfl (t_38_5 hS) ?_
      intro z1 ez1 f2
      refine n_if2_ge c_71_28 (by omega) (by omega) ?_ ?_
      · intro h3
        refine n_iconst c_71_65 ?_
        exact n_rZ c_71_66 rfl (by omega) ⟨hS, by omega⟩
      · intro h4
        refine n_aload_n c_71_31 rfl ?_
        refine n_getR c_71_32 sc_38.n rfl rfl rfl r_38_0 ?_
        refine n_iload_n c_71_35 rfl ?_
        refine n_iload_n c_71_36 rfl ?_
        refine n_iastoreV hS c_71_37 sc_39.n rfl (by omega) (w_39 (by omega) (by omega)) ?_
        intro M5 eM5 hS5
        have g5_0 : M5 38 5 = M 38 5 := by rw [eM5]; exact nu_a (by omega)
        refine n_aload_n c_71_38 rfl ?_
        refine n_iload_n c_71_39 rfl ?_
        refine n_v1I c_71_40 rfl sc_38.n rfl rfl rfl rfl (fits_3 (l := 2) hS5 (by omega)) ?_
        intro z6 M7 hP8
        obtain ⟨eM, f8⟩ := hP8
        subst eM
        refine n_if0_eq c_71_43 (by omega) ?_ ?_
        · intro h9
          refine n_fg (le_s (le_s (le_s (le_s le_0)))) ?_
          exact ih.2 _ M5 hS5 (by omega) (by omega)
        · intro h10
          refine n_aload_n c_71_46 rfl ?_
          refine n_iload_n c_71_47 rfl ?_
          refine n_iconst c_71_48 ?_
          refine n_iadd c_71_49 rfl ?_
          refine n_aload_n c_71_50 rfl ?_
          have hcst : ((2 + 1) : Int) = 3 := by omega
          rw [hcst]
          refine n_s3I c_71_51 rfl rfl rfl rfl (seek3_3  hS5 ) ?_
          intro z11 M12 hP13
          obtain ⟨hS12, f13⟩ := hP13
          refine n_if0_eq c_71_54 (by omega) ?_ ?_
          · intro h14
            refine n_fg (le_s (le_s (le_s (le_s le_0)))) ?_
            exact ih.2 _ M12 hS12 (by omega) (by omega)
          · intro h15
            refine n_iconst c_71_57 ?_
            exact n_rZ c_71_58 rfl (by omega) ⟨hS12, by omega⟩
    · intro x3 M hS k3 hnn
      refine n_iinc (L2 := [some (2, 38), some (0, 2), some (2, 44), some (0, (x3 + 1))]) c_71_59 rfl rfl rfl ?_
      refine n_goto c_71_62 ?_
      refine n_fg (le_s (le_s (le_s (le_s le_0)))) ?_
      exact ih.1 _ M hS (by omega) (by omega)
set_option maxHeartbeats 4000000 in
theorem seek2_3 {xs : List Int32} {e : Nat} {ac : Int} {M0 M : nM} (hS : Sf 3 ac M0 M)  : nW xs (e + 10) 71 0 [some (2, 38), some (0, 2), some (2, 44), none] [] M (nPI fun z M1 => Sf 3 ac M0 M1 ∧ (0 ≤ z ∧ z ≤ 1)) := by
  have hd : (3 : Int) = 2 ∨ (3 : Int) = 3 := by decide
  have hac := hS.2.2.2.2
  refine n_iload_n c_71_0 rfl ?_
  refine n_aload_n c_71_1 rfl ?_
  refine n_getV (bi := 6) c_71_2 sc_38.n rfl rfl rfl (t_38_6 hS) ?_
  intro z1 ez1 f2
  refine n_if2_lt c_71_5 (by omega) (by omega) ?_ ?_
  · intro h3
    refine n_iconst c_71_21 ?_
    refine n_istore_n (L2 := [some (2, 38), some (0, 2), some (2, 44), some (0, 0)]) c_71_22 rfl rfl ?_
    refine n_fg (le_s (le_s (le_s (le_s le_0)))) ?_
    exact (seek2_3_c hS  30).1 _ M hS (by omega) (by omega)
  · intro h4
    refine n_aload_n c_71_8 rfl ?_
    refine n_aload_n c_71_9 rfl ?_
    refine n_getR c_71_10 sc_38.n rfl rfl rfl r_38_0 ?_
    refine n_aload_n c_71_13 rfl ?_
    refine n_getV (bi := 5) c_71_14 sc_38.n rfl rfl rfl (t_38_5 hS) ?_
    intro z5 ez5 f6
    refine n_v2I c_71_17 rfl sc_44.n rfl rfl rfl rfl (suits_3 (t := z5) hS (by omega)) ?_
    intro z7 M8 hP9
    obtain ⟨eM, f9⟩ := hP9
    subst eM
    exact n_rZ c_71_20 rfl (by omega) ⟨hS, by omega⟩

set_option maxHeartbeats 4000000 in
theorem seek1_3_c {xs : List Int32} {e : Nat} {ac : Int} {M0 M : nM} (hS : Sf 3 ac M0 M)  : ∀ nn : Nat, (∀ (x3 : Int) (M : nM), Sf 3 ac M0 M → (0 ≤ x3 ∧ x3 ≤ 3) → (3 - x3) * 2 + 2 < (nn : Int) → nW xs (e + 11) 71 23 [some (2, 38), some (0, 1), some (2, 44), some (0, x3)] [] M (nPI fun z M1 => Sf 3 ac M0 M1 ∧ (0 ≤ z ∧ z ≤ 1))) ∧ (∀ (x3 : Int) (M : nM), Sf 3 ac M0 M → (0 ≤ x3 ∧ x3 ≤ 2) → (3 - x3) * 2 + 1 < (nn : Int) → nW xs (e + 11) 71 59 [some (2, 38), some (0, 1), some (2, 44), some (0, x3)] [] M (nPI fun z M1 => Sf 3 ac M0 M1 ∧ (0 ≤ z ∧ z ≤ 1))) := by
  have hd : (3 : Int) = 2 ∨ (3 : Int) = 3 := by decide
  have hac := hS.2.2.2.2
  intro nn
  induction nn with
  | zero => refine ⟨?_, ?_⟩ <;> (intros; omega)
  | succ nn ih =>
    refine ⟨?_, ?_⟩
    · intro x3 M hS k3 hnn
      refine n_iload_n c_71_23 rfl ?_
      refine n_aload_n c_71_24 rfl ?_
      refine n_getV (bi := 5) c_71_25 sc_38.n rfl rfl rfl (t_38_5 hS) ?_
      intro z1 ez1 f2
      refine n_if2_ge c_71_28 (by omega) (by omega) ?_ ?_
      · intro h3
        refine n_iconst c_71_65 ?_
        exact n_rZ c_71_66 rfl (by omega) ⟨hS, by omega⟩
      · intro h4
        refine n_aload_n c_71_31 rfl ?_
        refine n_getR c_71_32 sc_38.n rfl rfl rfl r_38_0 ?_
        refine n_iload_n c_71_35 rfl ?_
        refine n_iload_n c_71_36 rfl ?_
        refine n_iastoreV hS c_71_37 sc_39.n rfl (by omega) (w_39 (by omega) (by omega)) ?_
        intro M5 eM5 hS5
        have g5_0 : M5 38 5 = M 38 5 := by rw [eM5]; exact nu_a (by omega)
        refine n_aload_n c_71_38 rfl ?_
        refine n_iload_n c_71_39 rfl ?_
        refine n_v1I c_71_40 rfl sc_38.n rfl rfl rfl rfl (fits_3 (l := 1) hS5 (by omega)) ?_
        intro z6 M7 hP8
        obtain ⟨eM, f8⟩ := hP8
        subst eM
        refine n_if0_eq c_71_43 (by omega) ?_ ?_
        · intro h9
          refine n_fg (le_s (le_s (le_s (le_s le_0)))) ?_
          exact ih.2 _ M5 hS5 (by omega) (by omega)
        · intro h10
          refine n_aload_n c_71_46 rfl ?_
          refine n_iload_n c_71_47 rfl ?_
          refine n_iconst c_71_48 ?_
          refine n_iadd c_71_49 rfl ?_
          refine n_aload_n c_71_50 rfl ?_
          have hcst : ((1 + 1) : Int) = 2 := by omega
          rw [hcst]
          refine n_s3I c_71_51 rfl rfl rfl rfl (seek2_3  hS5 ) ?_
          intro z11 M12 hP13
          obtain ⟨hS12, f13⟩ := hP13
          refine n_if0_eq c_71_54 (by omega) ?_ ?_
          · intro h14
            refine n_fg (le_s (le_s (le_s (le_s le_0)))) ?_
            exact ih.2 _ M12 hS12 (by omega) (by omega)
          · intro h15
            refine n_iconst c_71_57 ?_
            exact n_rZ c_71_58 rfl (by omega) ⟨hS12, by omega⟩
    · intro x3 M hS k3 hnn
      refine n_iinc (L2 := [some (2, 38), some (0, 1), some (2, 44), some (0, (x3 + 1))]) c_71_59 rfl rfl rfl ?_
      refine n_goto c_71_62 ?_
      refine n_fg (le_s (le_s (le_s (le_s le_0)))) ?_
      exact ih.1 _ M hS (by omega) (by omega)
set_option maxHeartbeats 4000000 in
theorem seek1_3 {xs : List Int32} {e : Nat} {ac : Int} {M0 M : nM} (hS : Sf 3 ac M0 M)  : nW xs (e + 11) 71 0 [some (2, 38), some (0, 1), some (2, 44), none] [] M (nPI fun z M1 => Sf 3 ac M0 M1 ∧ (0 ≤ z ∧ z ≤ 1)) := by
  have hd : (3 : Int) = 2 ∨ (3 : Int) = 3 := by decide
  have hac := hS.2.2.2.2
  refine n_iload_n c_71_0 rfl ?_
  refine n_aload_n c_71_1 rfl ?_
  refine n_getV (bi := 6) c_71_2 sc_38.n rfl rfl rfl (t_38_6 hS) ?_
  intro z1 ez1 f2
  refine n_if2_lt c_71_5 (by omega) (by omega) ?_ ?_
  · intro h3
    refine n_iconst c_71_21 ?_
    refine n_istore_n (L2 := [some (2, 38), some (0, 1), some (2, 44), some (0, 0)]) c_71_22 rfl rfl ?_
    refine n_fg (le_s (le_s (le_s (le_s le_0)))) ?_
    exact (seek1_3_c hS  30).1 _ M hS (by omega) (by omega)
  · intro h4
    refine n_aload_n c_71_8 rfl ?_
    refine n_aload_n c_71_9 rfl ?_
    refine n_getR c_71_10 sc_38.n rfl rfl rfl r_38_0 ?_
    refine n_aload_n c_71_13 rfl ?_
    refine n_getV (bi := 5) c_71_14 sc_38.n rfl rfl rfl (t_38_5 hS) ?_
    intro z5 ez5 f6
    refine n_v2I c_71_17 rfl sc_44.n rfl rfl rfl rfl (suits_3 (t := z5) hS (by omega)) ?_
    intro z7 M8 hP9
    obtain ⟨eM, f9⟩ := hP9
    subst eM
    exact n_rZ c_71_20 rfl (by omega) ⟨hS, by omega⟩

set_option maxHeartbeats 4000000 in
theorem seek0_3_c {xs : List Int32} {e : Nat} {ac : Int} {M0 M : nM} (hS : Sf 3 ac M0 M)  : ∀ nn : Nat, (∀ (x3 : Int) (M : nM), Sf 3 ac M0 M → (0 ≤ x3 ∧ x3 ≤ 3) → (3 - x3) * 2 + 2 < (nn : Int) → nW xs (e + 12) 71 23 [some (2, 38), some (0, 0), some (2, 44), some (0, x3)] [] M (nPI fun z M1 => Sf 3 ac M0 M1 ∧ (0 ≤ z ∧ z ≤ 1))) ∧ (∀ (x3 : Int) (M : nM), Sf 3 ac M0 M → (0 ≤ x3 ∧ x3 ≤ 2) → (3 - x3) * 2 + 1 < (nn : Int) → nW xs (e + 12) 71 59 [some (2, 38), some (0, 0), some (2, 44), some (0, x3)] [] M (nPI fun z M1 => Sf 3 ac M0 M1 ∧ (0 ≤ z ∧ z ≤ 1))) := by
  have hd : (3 : Int) = 2 ∨ (3 : Int) = 3 := by decide
  have hac := hS.2.2.2.2
  intro nn
  induction nn with
  | zero => refine ⟨?_, ?_⟩ <;> (intros; omega)
  | succ nn ih =>
    refine ⟨?_, ?_⟩
    · intro x3 M hS k3 hnn
      refine n_iload_n c_71_23 rfl ?_
      refine n_aload_n c_71_24 rfl ?_
      refine n_getV (bi := 5) c_71_25 sc_38.n rfl rfl rfl (t_38_5 hS) ?_
      intro z1 ez1 f2
      refine n_if2_ge c_71_28 (by omega) (by omega) ?_ ?_
      · intro h3
        refine n_iconst c_71_65 ?_
        exact n_rZ c_71_66 rfl (by omega) ⟨hS, by omega⟩
      · intro h4
        refine n_aload_n c_71_31 rfl ?_
        refine n_getR c_71_32 sc_38.n rfl rfl rfl r_38_0 ?_
        refine n_iload_n c_71_35 rfl ?_
        refine n_iload_n c_71_36 rfl ?_
        refine n_iastoreV hS c_71_37 sc_39.n rfl (by omega) (w_39 (by omega) (by omega)) ?_
        intro M5 eM5 hS5
        have g5_0 : M5 38 5 = M 38 5 := by rw [eM5]; exact nu_a (by omega)
        refine n_aload_n c_71_38 rfl ?_
        refine n_iload_n c_71_39 rfl ?_
        refine n_v1I c_71_40 rfl sc_38.n rfl rfl rfl rfl (fits_3 (l := 0) hS5 (by omega)) ?_
        intro z6 M7 hP8
        obtain ⟨eM, f8⟩ := hP8
        subst eM
        refine n_if0_eq c_71_43 (by omega) ?_ ?_
        · intro h9
          refine n_fg (le_s (le_s (le_s (le_s le_0)))) ?_
          exact ih.2 _ M5 hS5 (by omega) (by omega)
        · intro h10
          refine n_aload_n c_71_46 rfl ?_
          refine n_iload_n c_71_47 rfl ?_
          refine n_iconst c_71_48 ?_
          refine n_iadd c_71_49 rfl ?_
          refine n_aload_n c_71_50 rfl ?_
          have hcst : ((0 + 1) : Int) = 1 := by omega
          rw [hcst]
          refine n_s3I c_71_51 rfl rfl rfl rfl (seek1_3  hS5 ) ?_
          intro z11 M12 hP13
          obtain ⟨hS12, f13⟩ := hP13
          refine n_if0_eq c_71_54 (by omega) ?_ ?_
          · intro h14
            refine n_fg (le_s (le_s (le_s (le_s le_0)))) ?_
            exact ih.2 _ M12 hS12 (by omega) (by omega)
          · intro h15
            refine n_iconst c_71_57 ?_
            exact n_rZ c_71_58 rfl (by omega) ⟨hS12, by omega⟩
    · intro x3 M hS k3 hnn
      refine n_iinc (L2 := [some (2, 38), some (0, 0), some (2, 44), some (0, (x3 + 1))]) c_71_59 rfl rfl rfl ?_
      refine n_goto c_71_62 ?_
      refine n_fg (le_s (le_s (le_s (le_s le_0)))) ?_
      exact ih.1 _ M hS (by omega) (by omega)
set_option maxHeartbeats 4000000 in
theorem seek0_3 {xs : List Int32} {e : Nat} {ac : Int} {M0 M : nM} (hS : Sf 3 ac M0 M)  : nW xs (e + 12) 71 0 [some (2, 38), some (0, 0), some (2, 44), none] [] M (nPI fun z M1 => Sf 3 ac M0 M1 ∧ (0 ≤ z ∧ z ≤ 1)) := by
  have hd : (3 : Int) = 2 ∨ (3 : Int) = 3 := by decide
  have hac := hS.2.2.2.2
  refine n_iload_n c_71_0 rfl ?_
  refine n_aload_n c_71_1 rfl ?_
  refine n_getV (bi := 6) c_71_2 sc_38.n rfl rfl rfl (t_38_6 hS) ?_
  intro z1 ez1 f2
  refine n_if2_lt c_71_5 (by omega) (by omega) ?_ ?_
  · intro h3
    refine n_iconst c_71_21 ?_
    refine n_istore_n (L2 := [some (2, 38), some (0, 0), some (2, 44), some (0, 0)]) c_71_22 rfl rfl ?_
    refine n_fg (le_s (le_s (le_s (le_s le_0)))) ?_
    exact (seek0_3_c hS  30).1 _ M hS (by omega) (by omega)
  · intro h4
    refine n_aload_n c_71_8 rfl ?_
    refine n_aload_n c_71_9 rfl ?_
    refine n_getR c_71_10 sc_38.n rfl rfl rfl r_38_0 ?_
    refine n_aload_n c_71_13 rfl ?_
    refine n_getV (bi := 5) c_71_14 sc_38.n rfl rfl rfl (t_38_5 hS) ?_
    intro z5 ez5 f6
    refine n_v2I c_71_17 rfl sc_44.n rfl rfl rfl rfl (suits_3 (t := z5) hS (by omega)) ?_
    intro z7 M8 hP9
    obtain ⟨eM, f9⟩ := hP9
    subst eM
    exact n_rZ c_71_20 rfl (by omega) ⟨hS, by omega⟩

set_option maxHeartbeats 4000000 in
theorem seek_3 {xs : List Int32} {e : Nat} {ac : Int} {M0 M : nM} {k : Int} (hS : Sf 3 ac M0 M) (hk : 0 ≤ k ∧ k ≤ 3) : nW xs (e + 13) 71 0 [some (2, 38), some (0, k), some (2, 44), none] [] M (nPI fun z M1 => Sf 3 ac M0 M1 ∧ (0 ≤ z ∧ z ≤ 1)) := by
  rcases (show k = 0 ∨ k = 1 ∨ k = 2 ∨ k = 3 by omega) with rfl | rfl | rfl | rfl
  · exact n_post (seek0_3 hS ) (fun w M1 h => by obtain ⟨z, rfl, h1, h2⟩ := h; exact ⟨z, rfl, h1, by omega⟩)
  · exact n_post (seek1_3 hS ) (fun w M1 h => by obtain ⟨z, rfl, h1, h2⟩ := h; exact ⟨z, rfl, h1, by omega⟩)
  · exact n_post (seek2_3 hS ) (fun w M1 h => by obtain ⟨z, rfl, h1, h2⟩ := h; exact ⟨z, rfl, h1, by omega⟩)
  · exact n_post (seek3_3 hS ) (fun w M1 h => by obtain ⟨z, rfl, h1, h2⟩ := h; exact ⟨z, rfl, h1, by omega⟩)

set_option maxHeartbeats 4000000 in
theorem findFirst_3_c {xs : List Int32} {e : Nat} {ac : Int} {M0 M : nM} (hS : Sf 3 ac M0 M)  : ∀ nn : Nat, (∀ (x2 : Int) (M : nM), Sf 3 ac M0 M → (0 ≤ x2 ∧ x2 ≤ 3) → (3 - x2) * 1 + 1 < (nn : Int) → nW xs (e + 15) 69 2 [some (2, 38), some (2, 44), some (0, x2)] [] M (nPI fun z M1 => Sf 3 ac M0 M1 ∧ (0 ≤ z ∧ z ≤ 1))) := by
  have hd : (3 : Int) = 2 ∨ (3 : Int) = 3 := by decide
  have hac := hS.2.2.2.2
  intro nn
  induction nn with
  | zero => intros; omega
  | succ nn ih =>
    intro x2 M hS k2 hnn
    refine n_iload_n c_69_2 rfl ?_
    refine n_aload_n c_69_3 rfl ?_
    refine n_getV (bi := 1) c_69_4 sc_44.n rfl rfl rfl (t_44_1 hS) ?_
    intro z1 ez1 f2
    refine n_if2_ge c_69_7 (by omega) (by omega) ?_ ?_
    · intro h3
      refine n_aload_n c_69_33 rfl ?_
      refine n_aload_n c_69_34 rfl ?_
      refine n_getV (bi := 1) c_69_35 sc_44.n rfl rfl rfl (t_44_1 hS) ?_
      intro z4 ez4 f5
      refine n_aload_n c_69_38 rfl ?_
      refine n_s3I c_69_39 rfl rfl rfl rfl (seek_3 (k := z4) hS (by omega)) ?_
      intro z6 M7 hP8
      obtain ⟨hS7, f8⟩ := hP8
      exact n_rZ c_69_42 rfl (by omega) ⟨hS7, by omega⟩
    · intro h9
      refine n_aload_n c_69_10 rfl ?_
      refine n_getR c_69_11 sc_38.n rfl rfl rfl r_38_0 ?_
      refine n_iload_n c_69_14 rfl ?_
      refine n_iload_n c_69_15 rfl ?_
      refine n_iastoreV hS c_69_16 sc_39.n rfl (by omega) (w_39 (by omega) (by omega)) ?_
      intro M10 eM10 hS10
      have g10_0 : M10 44 1 = M 44 1 := by rw [eM10]; exact nu_a (by omega)
      refine n_aload_n c_69_17 rfl ?_
      refine n_iload_n c_69_18 rfl ?_
      refine n_v1I c_69_19 rfl sc_38.n rfl rfl rfl rfl (fits_3 (l := x2) hS10 (by omega)) ?_
      intro z11 M12 hP13
      obtain ⟨eM, f13⟩ := hP13
      subst eM
      refine n_if0_ne c_69_22 (by omega) ?_ ?_
      · intro h14
        refine n_iinc (L2 := [some (2, 38), some (2, 44), some (0, (x2 + 1))]) c_69_27 rfl rfl rfl ?_
        refine n_goto c_69_30 ?_
        refine n_fg (le_s (le_s (le_s le_0))) ?_
        exact ih _ M10 hS10 (by omega) (by omega)
      · intro h15
        refine n_iconst c_69_25 ?_
        exact n_rZ c_69_26 rfl (by omega) ⟨hS10, by omega⟩
set_option maxHeartbeats 4000000 in
theorem findFirst_3 {xs : List Int32} {e : Nat} {ac : Int} {M0 M : nM} (hS : Sf 3 ac M0 M)  : nW xs (e + 15) 69 0 [some (2, 38), some (2, 44), none] [] M (nPI fun z M1 => Sf 3 ac M0 M1 ∧ (0 ≤ z ∧ z ≤ 1)) := by
  have hd : (3 : Int) = 2 ∨ (3 : Int) = 3 := by decide
  have hac := hS.2.2.2.2
  refine n_iconst c_69_0 ?_
  refine n_istore_n (L2 := [some (2, 38), some (2, 44), some (0, 0)]) c_69_1 rfl rfl ?_
  refine n_fg (le_s (le_s (le_s le_0))) ?_
  exact (findFirst_3_c hS  20) _ M hS (by omega) (by omega)

set_option maxHeartbeats 4000000 in
theorem isAct_3_c {xs : List Int32} {e : Nat} {ac : Int} {M0 M : nM} {a : Int} (hS : Sf 3 ac M0 M) (ha : -2147483648 ≤ a ∧ a ≤ 2147483647) : ∀ nn : Nat, (1 < (nn : Int) → nW xs e 125 16 [none, none] [] M (nPI fun z M1 => M = M1 ∧ (0 ≤ z ∧ z ≤ 1) ∧ (z = 0 ∨ (0 ≤ a ∧ a < ac)))) := by
  have hd : (3 : Int) = 2 ∨ (3 : Int) = 3 := by decide
  have hac := hS.2.2.2.2
  intro nn
  induction nn with
  | zero => intros; omega
  | succ nn ih =>
    intro hnn
    refine n_iconst c_125_16 ?_
    exact n_rZ c_125_17 rfl (by omega) ⟨rfl, by omega, by omega⟩
set_option maxHeartbeats 4000000 in
theorem isAct_3 {xs : List Int32} {e : Nat} {ac : Int} {M0 M : nM} {a : Int} (hS : Sf 3 ac M0 M) (ha : -2147483648 ≤ a ∧ a ≤ 2147483647) : nW xs e 125 0 [some (2, 3), some (0, a)] [] M (nPI fun z M1 => M = M1 ∧ (0 ≤ z ∧ z ≤ 1) ∧ (z = 0 ∨ (0 ≤ a ∧ a < ac))) := by
  have hd : (3 : Int) = 2 ∨ (3 : Int) = 3 := by decide
  have hac := hS.2.2.2.2
  refine n_iload_n c_125_0 rfl ?_
  refine n_if0_lt c_125_1 (by omega) ?_ ?_
  · intro h1
    refine n_fg (le_n (le_n le_0)) ?_
    exact (isAct_3_c hS ha 12)   (by omega)
  · intro h2
    refine n_iload_n c_125_4 rfl ?_
    refine n_aload_n c_125_5 rfl ?_
    refine n_getV (bi := 14) c_125_6 sc_3.n rfl rfl rfl (t_3_14x hS) ?_
    intro z3 ez3 f4
    have f4a := t_ac hS
    refine n_if2_ge c_125_9 (by omega) (by omega) ?_ ?_
    · intro h5
      refine n_fg (le_n (le_n le_0)) ?_
      exact (isAct_3_c hS ha 12)   (by omega)
    · intro h6
      refine n_iconst c_125_12 ?_
      refine n_goto c_125_13 ?_
      exact n_rZ c_125_17 rfl (by omega) ⟨rfl, by omega, by omega⟩

set_option maxHeartbeats 4000000 in
theorem isLaw_3_c {xs : List Int32} {e : Nat} {ac : Int} {M0 M : nM} {l : Int} (hS : Sf 3 ac M0 M) (hl : -2147483648 ≤ l ∧ l ≤ 2147483647) : ∀ nn : Nat, (1 < (nn : Int) → nW xs e 126 16 [none, none] [] M (nPI fun z M1 => M = M1 ∧ (0 ≤ z ∧ z ≤ 1) ∧ (z = 0 ∨ (0 ≤ l ∧ l ≤ 11)))) := by
  have hd : (3 : Int) = 2 ∨ (3 : Int) = 3 := by decide
  have hac := hS.2.2.2.2
  intro nn
  induction nn with
  | zero => intros; omega
  | succ nn ih =>
    intro hnn
    refine n_iconst c_126_16 ?_
    exact n_rZ c_126_17 rfl (by omega) ⟨rfl, by omega, by omega⟩
set_option maxHeartbeats 4000000 in
theorem isLaw_3 {xs : List Int32} {e : Nat} {ac : Int} {M0 M : nM} {l : Int} (hS : Sf 3 ac M0 M) (hl : -2147483648 ≤ l ∧ l ≤ 2147483647) : nW xs e 126 0 [some (2, 3), some (0, l)] [] M (nPI fun z M1 => M = M1 ∧ (0 ≤ z ∧ z ≤ 1) ∧ (z = 0 ∨ (0 ≤ l ∧ l ≤ 11))) := by
  have hd : (3 : Int) = 2 ∨ (3 : Int) = 3 := by decide
  have hac := hS.2.2.2.2
  refine n_iload_n c_126_0 rfl ?_
  refine n_if0_lt c_126_1 (by omega) ?_ ?_
  · intro h1
    refine n_fg (le_n (le_n le_0)) ?_
    exact (isLaw_3_c hS hl 12)   (by omega)
  · intro h2
    refine n_iload_n c_126_4 rfl ?_
    refine n_aload_n c_126_5 rfl ?_
    refine n_getV (bi := 15) c_126_6 sc_3.n rfl rfl rfl (t_3_15 hS) ?_
    intro z3 ez3 f4
    refine n_if2_ge c_126_9 (by omega) (by omega) ?_ ?_
    · intro h5
      refine n_fg (le_n (le_n le_0)) ?_
      exact (isLaw_3_c hS hl 12)   (by omega)
    · intro h6
      refine n_iconst c_126_12 ?_
      refine n_goto c_126_13 ?_
      exact n_rZ c_126_17 rfl (by omega) ⟨rfl, by omega, by omega⟩

set_option maxHeartbeats 4000000 in
theorem isPlaceCount_3_c {xs : List Int32} {e : Nat} {ac : Int} {M0 M : nM} {k : Int} (hS : Sf 3 ac M0 M) (hk : -2147483648 ≤ k ∧ k ≤ 2147483647) : ∀ nn : Nat, (1 < (nn : Int) → nW xs e 124 14 [none, none] [] M (nPI fun z M1 => M = M1 ∧ (0 ≤ z ∧ z ≤ 1) ∧ (z = 0 ∨ (1 ≤ k ∧ k ≤ 3)))) := by
  have hd : (3 : Int) = 2 ∨ (3 : Int) = 3 := by decide
  have hac := hS.2.2.2.2
  intro nn
  induction nn with
  | zero => intros; omega
  | succ nn ih =>
    intro hnn
    refine n_iconst c_124_14 ?_
    exact n_rZ c_124_15 rfl (by omega) ⟨rfl, by omega, by omega⟩
set_option maxHeartbeats 4000000 in
theorem isPlaceCount_3 {xs : List Int32} {e : Nat} {ac : Int} {M0 M : nM} {k : Int} (hS : Sf 3 ac M0 M) (hk : -2147483648 ≤ k ∧ k ≤ 2147483647) : nW xs e 124 0 [some (2, 3), some (0, k)] [] M (nPI fun z M1 => M = M1 ∧ (0 ≤ z ∧ z ≤ 1) ∧ (z = 0 ∨ (1 ≤ k ∧ k ≤ 3))) := by
  have hd : (3 : Int) = 2 ∨ (3 : Int) = 3 := by decide
  have hac := hS.2.2.2.2
  refine n_iload_n c_124_0 rfl ?_
  refine n_iconst c_124_1 ?_
  refine n_if2_lt c_124_2 (by omega) (by omega) ?_ ?_
  · intro h1
    refine n_fg (le_n (le_n le_0)) ?_
    exact (isPlaceCount_3_c hS hk 12)   (by omega)
  · intro h2
    refine n_iload_n c_124_5 rfl ?_
    refine n_iconst c_124_6 ?_
    refine n_if2_gt c_124_7 (by omega) (by omega) ?_ ?_
    · intro h3
      refine n_fg (le_n (le_n le_0)) ?_
      exact (isPlaceCount_3_c hS hk 12)   (by omega)
    · intro h4
      refine n_iconst c_124_10 ?_
      refine n_goto c_124_11 ?_
      exact n_rZ c_124_15 rfl (by omega) ⟨rfl, by omega, by omega⟩

set_option maxHeartbeats 4000000 in
theorem forgetMade_3_c {xs : List Int32} {e : Nat} {ac : Int} {M0 M : nM} (hS : Sf 3 ac M0 M)  : ∀ nn : Nat, (∀ (x1 : Int) (M : nM), Sf 3 ac M0 M → (0 ≤ x1 ∧ x1 ≤ 3) → (3 - x1) * 1 + 1 < (nn : Int) → nW xs e 123 2 [some (2, 3), some (0, x1)] [] M (nPV fun M1 => Sf 3 ac M0 M1)) := by
  have hd : (3 : Int) = 2 ∨ (3 : Int) = 3 := by decide
  have hac := hS.2.2.2.2
  intro nn
  induction nn with
  | zero => intros; omega
  | succ nn ih =>
    intro x1 M hS k1 hnn
    refine n_iload_n c_123_2 rfl ?_
    refine n_iconst c_123_3 ?_
    refine n_if2_ge c_123_4 (by omega) (by omega) ?_ ?_
    · intro h1
      exact n_rV c_123_23 rfl hS
    · intro h2
      refine n_aload_n c_123_7 rfl ?_
      refine n_getR c_123_8 sc_3.n rfl rfl rfl r_3_4 ?_
      refine n_iload_n c_123_11 rfl ?_
      refine n_aaload c_123_12 sc_14.n rfl rfl rfl (by omega) (r_made _) ?_
      have q3 : MadeAt (103 + 3 * x1) := by unfold MadeAt; omega
      refine n_iconst c_123_13 ?_
      refine n_putZV (bi := 0) hS c_123_14 q3.c0.1.n rfl rfl rfl (by omega) rfl (w_made q3 (by omega) (by omega)) ?_
      intro M4 eM4 hS4
      have g4_0 : M4 (103 + 3 * x1) 0 = 0 := by rw [eM4]; exact nu_s _ _ _ _
      refine n_iinc (L2 := [some (2, 3), some (0, (x1 + 1))]) c_123_17 rfl rfl rfl ?_
      refine n_goto c_123_20 ?_
      refine n_fg (le_s (le_s le_0)) ?_
      exact ih _ M4 hS4 (by omega) (by omega)
set_option maxHeartbeats 4000000 in
theorem forgetMade_3 {xs : List Int32} {e : Nat} {ac : Int} {M0 M : nM} (hS : Sf 3 ac M0 M)  : nW xs e 123 0 [some (2, 3), none] [] M (nPV fun M1 => Sf 3 ac M0 M1) := by
  have hd : (3 : Int) = 2 ∨ (3 : Int) = 3 := by decide
  have hac := hS.2.2.2.2
  refine n_iconst c_123_0 ?_
  refine n_istore_n (L2 := [some (2, 3), some (0, 0)]) c_123_1 rfl rfl ?_
  refine n_fg (le_s (le_s le_0)) ?_
  exact (forgetMade_3_c hS  20) _ M hS (by omega) (by omega)

set_option maxHeartbeats 4000000 in
theorem at_3_c {xs : List Int32} {e : Nat} {ac : Int} {M0 M : nM} {a r : Int} (hS : Sf 3 ac M0 M) (ha : -2147483648 ≤ a ∧ a ≤ 2147483647) (hr : -2147483648 ≤ r ∧ r ≤ 2147483647) : ∀ nn : Nat, (1 < (nn : Int) → nW xs (e + 1) 99 25 [none, none, none] [] M (nPI fun z M1 => M = M1 ∧ (-2147483648 ≤ z ∧ z ≤ 2147483647))) := by
  have hd : (3 : Int) = 2 ∨ (3 : Int) = 3 := by decide
  have hac := hS.2.2.2.2
  intro nn
  induction nn with
  | zero => intros; omega
  | succ nn ih =>
    intro hnn
    refine n_iconst c_99_25 ?_
    exact n_rI c_99_26 rfl ⟨rfl, by omega⟩
set_option maxHeartbeats 4000000 in
theorem at_3 {xs : List Int32} {e : Nat} {ac : Int} {M0 M : nM} {a r : Int} (hS : Sf 3 ac M0 M) (ha : -2147483648 ≤ a ∧ a ≤ 2147483647) (hr : -2147483648 ≤ r ∧ r ≤ 2147483647) : nW xs (e + 1) 99 0 [some (2, 3), some (0, a), some (0, r)] [] M (nPI fun z M1 => M = M1 ∧ (-2147483648 ≤ z ∧ z ≤ 2147483647)) := by
  have hd : (3 : Int) = 2 ∨ (3 : Int) = 3 := by decide
  have hac := hS.2.2.2.2
  refine n_aload_n c_99_0 rfl ?_
  refine n_iload_n c_99_1 rfl ?_
  refine n_v1I c_99_2 rfl sc_3.n rfl rfl rfl rfl (isAct_3 (a := a) hS (by omega)) ?_
  intro z1 M2 hP3
  obtain ⟨eM, f3, f3p0⟩ := hP3
  subst eM
  refine n_if0_eq c_99_5 (by omega) ?_ ?_
  · intro h4
    refine n_fg (le_n (le_n (le_n le_0))) ?_
    exact (at_3_c hS ha hr 12)   (by omega)
  · intro h5
    refine n_iload_n c_99_8 rfl ?_
    refine n_if0_lt c_99_9 (by omega) ?_ ?_
    · intro h6
      refine n_fg (le_n (le_n (le_n le_0))) ?_
      exact (at_3_c hS ha hr 12)   (by omega)
    · intro h7
      refine n_iload_n c_99_12 rfl ?_
      refine n_aload_n c_99_13 rfl ?_
      refine n_getR c_99_14 sc_3.n rfl rfl rfl r_3_2 ?_
      refine n_iload_n c_99_17 rfl ?_
      refine n_aaload c_99_18 sc_12.n rfl rfl rfl (by omega) (r_acts _) ?_
      have q8 : ActAt (55 + 3 * a) := by unfold ActAt; omega
      have q8l : (55 + 3 * a) < 55 + 3 * ac := by omega
      refine n_getV (bi := 1) c_99_19 q8.c0.1.n rfl rfl rfl (t_actl hS q8 q8l).2 ?_
      intro z9 ez9 f10
      refine n_if2_lt c_99_22 (by omega) (by omega) ?_ ?_
      · intro h11
        refine n_aload_n c_99_27 rfl ?_
        refine n_getR c_99_28 sc_3.n rfl rfl rfl r_3_2 ?_
        refine n_iload_n c_99_31 rfl ?_
        refine n_aaload c_99_32 sc_12.n rfl rfl rfl (by omega) (r_acts _) ?_
        have q12 : ActAt (55 + 3 * a) := by unfold ActAt; omega
        have q12l : (55 + 3 * a) < 55 + 3 * ac := by omega
        refine n_getR c_99_33 q12.c0.1.n rfl rfl rfl q12.r.1 ?_
        refine n_iload_n c_99_36 rfl ?_
        refine n_ialoadV c_99_37 q12.c0.2.1.n rfl rfl rfl (by omega) (t_actrl hS q12 q12l (Or.inl rfl) (by omega) (by omega)) ?_
        intro z13 ez13 f14
        exact n_rI c_99_38 rfl ⟨rfl, by omega⟩
      · intro h15
        refine n_fg (le_n (le_n (le_n le_0))) ?_
        exact (at_3_c hS ha hr 12)   (by omega)

set_option maxHeartbeats 4000000 in
theorem lawOf_3 {xs : List Int32} {e : Nat} {ac : Int} {M0 M : nM} {l : Int} (hS : Sf 3 ac M0 M) (hl : -2147483648 ≤ l ∧ l ≤ 2147483647) : nW xs (e + 1) 100 0 [some (2, 3), some (0, l)] [] M (nPJ fun z M1 => M = M1 ∧ (-9223372036854775808 ≤ z ∧ z ≤ 9223372036854775807)) := by
  have hd : (3 : Int) = 2 ∨ (3 : Int) = 3 := by decide
  have hac := hS.2.2.2.2
  refine n_aload_n c_100_0 rfl ?_
  refine n_iload_n c_100_1 rfl ?_
  refine n_v1I c_100_2 rfl sc_3.n rfl rfl rfl rfl (isLaw_3 (l := l) hS (by omega)) ?_
  intro z1 M2 hP3
  obtain ⟨eM, f3, f3p0⟩ := hP3
  subst eM
  refine n_if0_eq c_100_5 (by omega) ?_ ?_
  · intro h4
    refine n_ldc2 (n := (-1)) c_100_21 rfl ?_
    exact n_rJ c_100_24 rfl ⟨rfl, by omega⟩
  · intro h5
    refine n_aload_n c_100_8 rfl ?_
    refine n_getR c_100_9 sc_3.n rfl rfl rfl r_3_3 ?_
    refine n_iload_n c_100_12 rfl ?_
    refine n_aaload c_100_13 sc_13.n rfl rfl rfl (by omega) (r_laws _) ?_
    have q6 : LawAt (79 + 2 * l) := by unfold LawAt; omega
    refine n_getV (bi := 1) c_100_14 q6.c0.1.n rfl rfl rfl (t_law hS q6).2.1 ?_
    intro z7 ez7 f8
    refine n_i2l c_100_17 (by omega) ?_
    refine n_goto c_100_18 ?_
    exact n_rJ c_100_24 rfl ⟨rfl, by omega⟩

set_option maxHeartbeats 4000000 in
theorem keeps_3_c {xs : List Int32} {e : Nat} {ac : Int} {M0 M : nM} {a l : Int} (hS : Sf 3 ac M0 M) (ha : -2147483648 ≤ a ∧ a ≤ 2147483647) (hl : -2147483648 ≤ l ∧ l ≤ 2147483647) : ∀ nn : Nat, (∀ (M : nM), Sf 3 ac M0 M → 1 < (nn : Int) → nW xs (e + 3) 101 16 [none, none, none] [] M (nPI fun z M1 => Sf 3 ac M0 M1 ∧ (-2147483648 ≤ z ∧ z ≤ 2147483647))) := by
  have hd : (3 : Int) = 2 ∨ (3 : Int) = 3 := by decide
  have hac := hS.2.2.2.2
  intro nn
  induction nn with
  | zero => intros; omega
  | succ nn ih =>
    intro M hS hnn
    refine n_iconst c_101_16 ?_
    exact n_rI c_101_17 rfl ⟨hS, by omega⟩
set_option maxHeartbeats 4000000 in
theorem keeps_3 {xs : List Int32} {e : Nat} {ac : Int} {M0 M : nM} {a l : Int} (hS : Sf 3 ac M0 M) (ha : -2147483648 ≤ a ∧ a ≤ 2147483647) (hl : -2147483648 ≤ l ∧ l ≤ 2147483647) : nW xs (e + 3) 101 0 [some (2, 3), some (0, a), some (0, l)] [] M (nPI fun z M1 => Sf 3 ac M0 M1 ∧ (-2147483648 ≤ z ∧ z ≤ 2147483647)) := by
  have hd : (3 : Int) = 2 ∨ (3 : Int) = 3 := by decide
  have hac := hS.2.2.2.2
  refine n_aload_n c_101_0 rfl ?_
  refine n_iload_n c_101_1 rfl ?_
  refine n_v1I c_101_2 rfl sc_3.n rfl rfl rfl rfl (isAct_3 (a := a) hS (by omega)) ?_
  intro z1 M2 hP3
  obtain ⟨eM, f3, f3p0⟩ := hP3
  subst eM
  refine n_if0_eq c_101_5 (by omega) ?_ ?_
  · intro h4
    refine n_fg (le_n (le_n (le_n le_0))) ?_
    exact (keeps_3_c hS ha hl 12)  M hS  (by omega)
  · intro h5
    refine n_aload_n c_101_8 rfl ?_
    refine n_iload_n c_101_9 rfl ?_
    refine n_v1I c_101_10 rfl sc_3.n rfl rfl rfl rfl (isLaw_3 (l := l) hS (by omega)) ?_
    intro z6 M7 hP8
    obtain ⟨eM, f8, f8p0⟩ := hP8
    subst eM
    refine n_if0_ne c_101_13 (by omega) ?_ ?_
    · intro h9
      refine n_aload_n c_101_18 rfl ?_
      refine n_getR c_101_19 sc_3.n rfl rfl rfl r_3_3 ?_
      refine n_iload_n c_101_22 rfl ?_
      refine n_aaload c_101_23 sc_13.n rfl rfl rfl (by omega) (r_laws _) ?_
      have q10 : LawAt (79 + 2 * l) := by unfold LawAt; omega
      refine n_aload_n c_101_24 rfl ?_
      refine n_getR c_101_25 sc_3.n rfl rfl rfl r_3_2 ?_
      refine n_iload_n c_101_28 rfl ?_
      refine n_aaload c_101_29 sc_12.n rfl rfl rfl (by omega) (r_acts _) ?_
      have q11 : ActAt (55 + 3 * a) := by unfold ActAt; omega
      have q11l : (55 + 3 * a) < 55 + 3 * ac := by omega
      refine n_aload_n c_101_30 rfl ?_
      refine n_getR c_101_31 sc_3.n rfl rfl rfl r_3_0 ?_
      refine n_aload_n c_101_34 rfl ?_
      refine n_getR c_101_35 sc_3.n rfl rfl rfl r_3_12 ?_
      refine n_v3I c_101_38 rfl q10.c0.1.n rfl rfl rfl rfl (isKeptBy_3 (q := (79 + 2 * l)) (p := (55 + 3 * a)) hS q10 q11 q11l) ?_
      intro z12 M13 hP14
      obtain ⟨hS13, f14⟩ := hP14
      refine n_if0_eq c_101_41 (by omega) ?_ ?_
      · intro h15
        refine n_iconst c_101_48 ?_
        exact n_rI c_101_49 rfl ⟨hS13, by omega⟩
      · intro h16
        refine n_iconst c_101_44 ?_
        refine n_goto c_101_45 ?_
        exact n_rI c_101_49 rfl ⟨hS13, by omega⟩
    · intro h17
      refine n_fg (le_n (le_n (le_n le_0))) ?_
      exact (keeps_3_c hS ha hl 12)  M hS  (by omega)

set_option maxHeartbeats 4000000 in
theorem closed_3_c {xs : List Int32} {e : Nat} {ac : Int} {M0 M : nM} {l : Int} (hS : Sf 3 ac M0 M) (hl : -2147483648 ≤ l ∧ l ≤ 2147483647) : ∀ nn : Nat, (∀ (x2 x3 : Int) (M : nM), Sf 3 ac M0 M → (0 ≤ x2 ∧ x2 ≤ 1) → (0 ≤ x3 ∧ x3 ≤ 28) → (28 - x3) * 11 + 12 < (nn : Int) → nW xs (e + 3) 102 45 [some (2, 3), none, some (0, x2), some (0, x3), none] [] M (nPJ fun z M1 => Sf 3 ac M0 M1 ∧ (-9223372036854775808 ≤ z ∧ z ≤ 9223372036854775807))) ∧ (∀ (x2 x3 x4 : Int) (M : nM), Sf 3 ac M0 M → (0 ≤ x2 ∧ x2 ≤ 1) → (0 ≤ x3 ∧ x3 ≤ 27) → (0 ≤ x4 ∧ x4 ≤ 8) → (28 - x3) * 11 + (8 - x4) * 1 + 2 < (nn : Int) → nW xs (e + 3) 102 60 [some (2, 3), none, some (0, x2), some (0, x3), some (0, x4)] [] M (nPJ fun z M1 => Sf 3 ac M0 M1 ∧ (-9223372036854775808 ≤ z ∧ z ≤ 9223372036854775807))) ∧ (∀ (M : nM), Sf 3 ac M0 M → 1 < (nn : Int) → nW xs (e + 3) 102 106 [some (2, 3), none, none, none, none] [] M (nPJ fun z M1 => Sf 3 ac M0 M1 ∧ (-9223372036854775808 ≤ z ∧ z ≤ 9223372036854775807))) := by
  have hd : (3 : Int) = 2 ∨ (3 : Int) = 3 := by decide
  have hac := hS.2.2.2.2
  intro nn
  induction nn with
  | zero => refine ⟨?_, ?_, ?_⟩ <;> (intros; omega)
  | succ nn ih =>
    refine ⟨?_, ?_, ?_⟩
    · intro x2 x3 M hS k2 k3 hnn
      refine n_iload_n c_102_45 rfl ?_
      refine n_bipush c_102_46 rfl ?_
      refine n_if2_gt c_102_48 (by omega) (by omega) ?_ ?_
      · intro h1
        refine n_fg (le_s (le_n (le_n (le_n (le_n le_0))))) ?_
        exact ih.2.2  M hS  (by omega)
      · intro h2
        refine n_iload_n c_102_51 rfl ?_
        refine n_if0_eq c_102_52 (by omega) ?_ ?_
        · intro h3
          refine n_fg (le_s (le_n (le_n (le_n (le_n le_0))))) ?_
          exact ih.2.2  M hS  (by omega)
        · intro h4
          refine n_iconst c_102_55 ?_
          refine n_istore_n (L2 := [some (2, 3), none, some (0, 0), some (0, x3), none]) c_102_56 rfl rfl ?_
          refine n_iconst c_102_57 ?_
          refine n_istore (L2 := [some (2, 3), none, some (0, 0), some (0, x3), some (0, 0)]) c_102_58 rfl rfl ?_
          refine n_fg (le_s (le_n (le_s (le_s (le_s le_0))))) ?_
          exact ih.2.1 _ _ _ M hS (by omega) (by omega) (by omega) (by omega)
    · intro x2 x3 x4 M hS k2 k3 k4 hnn
      refine n_iload c_102_60 rfl ?_
      refine n_aload_n c_102_62 rfl ?_
      refine n_getV (bi := 14) c_102_63 sc_3.n rfl rfl rfl (t_3_14x hS) ?_
      intro z1 ez1 f2
      have f2a := t_ac hS
      refine n_if2_ge c_102_66 (by omega) (by omega) ?_ ?_
      · intro h3
        refine n_iinc (L2 := [some (2, 3), none, some (0, x2), some (0, (x3 + 1)), some (0, x4)]) c_102_100 rfl rfl rfl ?_
        refine n_goto c_102_103 ?_
        refine n_fg (le_s (le_n (le_s (le_s (le_n le_0))))) ?_
        exact ih.1 _ _ M hS (by omega) (by omega) (by omega)
      · intro h4
        refine n_iload_n c_102_69 rfl ?_
        refine n_aload_n c_102_70 rfl ?_
        refine n_getR c_102_71 sc_3.n rfl rfl rfl r_3_11 ?_
        refine n_aload_n c_102_74 rfl ?_
        refine n_getR c_102_75 sc_3.n rfl rfl rfl r_3_2 ?_
        refine n_iload c_102_78 rfl ?_
        refine n_aaload c_102_80 sc_12.n rfl rfl rfl (by omega) (r_acts _) ?_
        have q5 : ActAt (55 + 3 * x4) := by unfold ActAt; omega
        have q5l : (55 + 3 * x4) < 55 + 3 * ac := by omega
        refine n_aload_n c_102_81 rfl ?_
        refine n_getR c_102_82 sc_3.n rfl rfl rfl r_3_0 ?_
        refine n_aload_n c_102_85 rfl ?_
        refine n_getR c_102_86 sc_3.n rfl rfl rfl r_3_12 ?_
        refine n_v3I c_102_89 rfl law50.c0.1.n rfl rfl rfl rfl (growsBy_3 (p := (55 + 3 * x4)) hS q5 q5l) ?_
        intro z6 M7 hP8
        obtain ⟨hS7, f8⟩ := hP8
        refine n_i_ior c_102_92 rfl ?_
        have f9 := n_or_1 (x := x2) (y := z6) (by omega) (by omega)
        generalize (n_or x2 z6) = z10 at f9 ⊢
        refine n_istore_n (L2 := [some (2, 3), none, some (0, z10), some (0, x3), some (0, x4)]) c_102_93 rfl rfl ?_
        refine n_iinc (L2 := [some (2, 3), none, some (0, z10), some (0, x3), some (0, (x4 + 1))]) c_102_94 rfl rfl rfl ?_
        refine n_goto c_102_97 ?_
        refine n_fg (le_s (le_n (le_s (le_s (le_s le_0))))) ?_
        exact ih.2.1 _ _ _ M7 hS7 (by omega) (by omega) (by omega) (by omega)
    · intro M hS hnn
      refine n_aload_n c_102_106 rfl ?_
      refine n_getR c_102_107 sc_3.n rfl rfl rfl r_3_11 ?_
      refine n_aload_n c_102_110 rfl ?_
      refine n_getR c_102_111 sc_3.n rfl rfl rfl r_3_0 ?_
      refine n_v1I c_102_114 rfl law50.c0.1.n rfl rfl rfl rfl (narrowSet_3  hS ) ?_
      intro z1 M2 hP3
      obtain ⟨eM, f3⟩ := hP3
      subst eM
      refine n_i2l c_102_117 (by omega) ?_
      exact n_rJ c_102_118 rfl ⟨hS, by omega⟩
set_option maxHeartbeats 4000000 in
theorem closed_3 {xs : List Int32} {e : Nat} {ac : Int} {M0 M : nM} {l : Int} (hS : Sf 3 ac M0 M) (hl : -2147483648 ≤ l ∧ l ≤ 2147483647) : nW xs (e + 3) 102 0 [some (2, 3), some (0, l), none, none, none] [] M (nPJ fun z M1 => Sf 3 ac M0 M1 ∧ (-9223372036854775808 ≤ z ∧ z ≤ 9223372036854775807)) := by
  have hd : (3 : Int) = 2 ∨ (3 : Int) = 3 := by decide
  have hac := hS.2.2.2.2
  refine n_aload_n c_102_0 rfl ?_
  refine n_iload_n c_102_1 rfl ?_
  refine n_v1I c_102_2 rfl sc_3.n rfl rfl rfl rfl (isLaw_3 (l := l) hS (by omega)) ?_
  intro z1 M2 hP3
  obtain ⟨eM, f3, f3p0⟩ := hP3
  subst eM
  refine n_if0_ne c_102_5 (by omega) ?_ ?_
  · intro h4
    refine n_aload_n c_102_12 rfl ?_
    refine n_getR c_102_13 sc_3.n rfl rfl rfl r_3_11 ?_
    refine n_aload_n c_102_16 rfl ?_
    refine n_getR c_102_17 sc_3.n rfl rfl rfl r_3_3 ?_
    refine n_iload_n c_102_20 rfl ?_
    refine n_aaload c_102_21 sc_13.n rfl rfl rfl (by omega) (r_laws _) ?_
    have q5 : LawAt (79 + 2 * l) := by unfold LawAt; omega
    refine n_getV (bi := 0) c_102_22 q5.c0.1.n rfl rfl rfl (t_law hS q5).1 ?_
    intro z6 ez6 f7
    refine n_aload_n c_102_25 rfl ?_
    refine n_getR c_102_26 sc_3.n rfl rfl rfl r_3_3 ?_
    refine n_iload_n c_102_29 rfl ?_
    refine n_aaload c_102_30 sc_13.n rfl rfl rfl (by omega) (r_laws _) ?_
    have q8 : LawAt (79 + 2 * l) := by unfold LawAt; omega
    refine n_getV (bi := 1) c_102_31 q8.c0.1.n rfl rfl rfl (t_law hS q8).2.1 ?_
    intro z9 ez9 f10
    refine n_aload_n c_102_34 rfl ?_
    refine n_getR c_102_35 sc_3.n rfl rfl rfl r_3_0 ?_
    refine n_v3V c_102_38 rfl law50.c0.1.n rfl rfl rfl rfl (takeS_3 (k := z6) (s := z9) hS (by omega) (by omega)) ?_
    intro  M11 hP12
    have hS11 := hP12
    refine n_iconst c_102_41 ?_
    refine n_istore_n (L2 := [some (2, 3), some (0, l), some (0, 1), none, none]) c_102_42 rfl rfl ?_
    refine n_iconst c_102_43 ?_
    refine n_istore_n (L2 := [some (2, 3), some (0, l), some (0, 1), some (0, 0), none]) c_102_44 rfl rfl ?_
    refine n_fg (le_s (le_n (le_s (le_s (le_n le_0))))) ?_
    exact (closed_3_c hS hl 672).1 _ _ M11 hS11 (by omega) (by omega) (by omega)
  · intro h13
    refine n_ldc2 (n := (-1)) c_102_8 rfl ?_
    exact n_rJ c_102_11 rfl ⟨hS, by omega⟩

set_option maxHeartbeats 4000000 in
theorem aaks_3_c {xs : List Int32} {e : Nat} {ac : Int} {M0 M : nM} (hS : Sf 3 ac M0 M)  : ∀ nn : Nat, (∀ (x1 : Int) (M : nM), Sf 3 ac M0 M → (0 ≤ x1 ∧ x1 ≤ 8) → (8 - x1) * 1 + 1 < (nn : Int) → nW xs (e + 3) 129 2 [some (2, 3), some (0, x1)] [] M (nPI fun z M1 => Sf 3 ac M0 M1 ∧ (0 ≤ z ∧ z ≤ 1))) := by
  have hd : (3 : Int) = 2 ∨ (3 : Int) = 3 := by decide
  have hac := hS.2.2.2.2
  intro nn
  induction nn with
  | zero => intros; omega
  | succ nn ih =>
    intro x1 M hS k1 hnn
    refine n_iload_n c_129_2 rfl ?_
    refine n_aload_n c_129_3 rfl ?_
    refine n_getV (bi := 14) c_129_4 sc_3.n rfl rfl rfl (t_3_14x hS) ?_
    intro z1 ez1 f2
    have f2a := t_ac hS
    refine n_if2_ge c_129_7 (by omega) (by omega) ?_ ?_
    · intro h3
      refine n_iconst c_129_42 ?_
      exact n_rZ c_129_43 rfl (by omega) ⟨hS, by omega⟩
    · intro h4
      refine n_aload_n c_129_10 rfl ?_
      refine n_getR c_129_11 sc_3.n rfl rfl rfl r_3_11 ?_
      refine n_aload_n c_129_14 rfl ?_
      refine n_getR c_129_15 sc_3.n rfl rfl rfl r_3_2 ?_
      refine n_iload_n c_129_18 rfl ?_
      refine n_aaload c_129_19 sc_12.n rfl rfl rfl (by omega) (r_acts _) ?_
      have q5 : ActAt (55 + 3 * x1) := by unfold ActAt; omega
      have q5l : (55 + 3 * x1) < 55 + 3 * ac := by omega
      refine n_aload_n c_129_20 rfl ?_
      refine n_getR c_129_21 sc_3.n rfl rfl rfl r_3_0 ?_
      refine n_aload_n c_129_24 rfl ?_
      refine n_getR c_129_25 sc_3.n rfl rfl rfl r_3_12 ?_
      refine n_v3I c_129_28 rfl law50.c0.1.n rfl rfl rfl rfl (isKeptBy_3 (q := 50) (p := (55 + 3 * x1)) hS law50 q5 q5l) ?_
      intro z6 M7 hP8
      obtain ⟨hS7, f8⟩ := hP8
      refine n_if0_ne c_129_31 (by omega) ?_ ?_
      · intro h9
        refine n_iinc (L2 := [some (2, 3), some (0, (x1 + 1))]) c_129_36 rfl rfl rfl ?_
        refine n_goto c_129_39 ?_
        refine n_fg (le_s (le_s le_0)) ?_
        exact ih _ M7 hS7 (by omega) (by omega)
      · intro h10
        refine n_iconst c_129_34 ?_
        exact n_rZ c_129_35 rfl (by omega) ⟨hS7, by omega⟩
set_option maxHeartbeats 4000000 in
theorem aaks_3 {xs : List Int32} {e : Nat} {ac : Int} {M0 M : nM} (hS : Sf 3 ac M0 M)  : nW xs (e + 3) 129 0 [some (2, 3), none] [] M (nPI fun z M1 => Sf 3 ac M0 M1 ∧ (0 ≤ z ∧ z ≤ 1)) := by
  have hd : (3 : Int) = 2 ∨ (3 : Int) = 3 := by decide
  have hac := hS.2.2.2.2
  refine n_iconst c_129_0 ?_
  refine n_istore_n (L2 := [some (2, 3), some (0, 0)]) c_129_1 rfl rfl ?_
  refine n_fg (le_s (le_s le_0)) ?_
  exact (aaks_3_c hS  30) _ M hS (by omega) (by omega)

set_option maxHeartbeats 4000000 in
theorem laws_3_c {xs : List Int32} {e : Nat} {ac : Int} {M0 M : nM} {k : Int} (hS : Sf 3 ac M0 M) (hk : -2147483648 ≤ k ∧ k ≤ 2147483647) : ∀ nn : Nat, (∀ (M : nM), Sf 3 ac M0 M → (1 ≤ k ∧ k ≤ 2) → 268435461 < (nn : Int) → nW xs (e + 4) 103 12 [some (2, 3), some (0, k), none, none, none] [] M (nPI fun z M1 => Sf 3 ac M0 M1 ∧ (-2147483648 ≤ z ∧ z ≤ 2147483647))) ∧ (∀ (x2 x3 x4 : Int) (M : nM), Sf 3 ac M0 M → (1 ≤ k ∧ k ≤ 2) → (2 ≤ x2 ∧ x2 ≤ 134217728) → (0 ≤ x3 ∧ x3 ≤ 134217728) → (0 ≤ x4 ∧ x4 ≤ 134217728) → (x3 ≤ x4) → (134217728 - x4) * 2 + 2 < (nn : Int) → nW xs (e + 4) 103 28 [some (2, 3), some (0, k), some (0, x2), some (0, x3), some (0, x4)] [] M (nPI fun z M1 => Sf 3 ac M0 M1 ∧ (-2147483648 ≤ z ∧ z ≤ 2147483647))) ∧ (∀ (x2 x3 x4 : Int) (M : nM), Sf 3 ac M0 M → (1 ≤ k ∧ k ≤ 2) → (2 ≤ x2 ∧ x2 ≤ 134217728) → (0 ≤ x3 ∧ x3 ≤ 134217728) → (0 ≤ x4 ∧ x4 ≤ 134217727) → (x3 ≤ x4 + 1) → (134217728 - x4) * 2 + 1 < (nn : Int) → nW xs (e + 4) 103 58 [some (2, 3), some (0, k), some (0, x2), some (0, x3), some (0, x4)] [] M (nPI fun z M1 => Sf 3 ac M0 M1 ∧ (-2147483648 ≤ z ∧ z ≤ 2147483647))) := by
  have hd : (3 : Int) = 2 ∨ (3 : Int) = 3 := by decide
  have hac := hS.2.2.2.2
  intro nn
  induction nn with
  | zero => refine ⟨?_, ?_, ?_⟩ <;> (intros; omega)
  | succ nn ih =>
    refine ⟨?_, ?_, ?_⟩
    · intro M hS k1 hnn
      refine n_iconst c_103_12 ?_
      refine n_aload_n c_103_13 rfl ?_
      refine n_getR c_103_14 sc_3.n rfl rfl rfl r_3_0 ?_
      refine n_iload_n c_103_17 rfl ?_
      refine n_v1I c_103_18 rfl sc_4.n rfl rfl rfl rfl (powerU_3 (n := k) hS (by omega)) ?_
      intro z1 M2 hP3
      obtain ⟨eM, f3⟩ := hP3
      subst eM
      refine n_i_ishl c_103_21 rfl ?_
      have f4 := n_shl_1 (y := z1) (a := 1) (b := 27) (by decide) (by omega)
      generalize (n_shl 1 z1) = z5 at f4 ⊢
      refine n_istore_n (L2 := [some (2, 3), some (0, k), some (0, z5), none, none]) c_103_22 rfl rfl ?_
      refine n_iconst c_103_23 ?_
      refine n_istore_n (L2 := [some (2, 3), some (0, k), some (0, z5), some (0, 0), none]) c_103_24 rfl rfl ?_
      refine n_iconst c_103_25 ?_
      refine n_istore (L2 := [some (2, 3), some (0, k), some (0, z5), some (0, 0), some (0, 0)]) c_103_26 rfl rfl ?_
      refine n_fg (le_s (le_s (le_s (le_s (le_s le_0))))) ?_
      exact ih.2.1 _ _ _ M hS (by omega) (by omega) (by omega) (by omega) (by omega) (by omega)
    · intro x2 x3 x4 M hS k1 k2 k3 k4 v0 hnn
      refine n_iload c_103_28 rfl ?_
      refine n_iload_n c_103_30 rfl ?_
      refine n_if2_ge c_103_31 (by omega) (by omega) ?_ ?_
      · intro h1
        refine n_iload_n c_103_64 rfl ?_
        exact n_rI c_103_65 rfl ⟨hS, by omega⟩
      · intro h2
        refine n_aload_n c_103_34 rfl ?_
        refine n_getR c_103_35 sc_3.n rfl rfl rfl r_3_11 ?_
        refine n_iload_n c_103_38 rfl ?_
        refine n_iload c_103_39 rfl ?_
        refine n_aload_n c_103_41 rfl ?_
        refine n_getR c_103_42 sc_3.n rfl rfl rfl r_3_0 ?_
        refine n_v3V c_103_45 rfl law50.c0.1.n rfl rfl rfl rfl (takeS_3 (k := k) (s := x4) hS (by omega) (by omega)) ?_
        intro  M3 hP4
        have hS3 := hP4
        refine n_aload_n c_103_48 rfl ?_
        refine n_v0I c_103_49 rfl sc_3.n rfl rfl rfl rfl (aaks_3  hS3 ) ?_
        intro z5 M6 hP7
        obtain ⟨hS6, f7⟩ := hP7
        refine n_if0_eq c_103_52 (by omega) ?_ ?_
        · intro h8
          refine n_fg (le_s (le_s (le_s (le_s (le_s le_0))))) ?_
          exact ih.2.2 _ _ _ M6 hS6 (by omega) (by omega) (by omega) (by omega) (by omega) (by omega)
        · intro h9
          refine n_iinc (L2 := [some (2, 3), some (0, k), some (0, x2), some (0, (x3 + 1)), some (0, x4)]) c_103_55 rfl rfl rfl ?_
          refine n_fg (le_s (le_s (le_s (le_s (le_s le_0))))) ?_
          exact ih.2.2 _ _ _ M6 hS6 (by omega) (by omega) (by omega) (by omega) (by omega) (by omega)
    · intro x2 x3 x4 M hS k1 k2 k3 k4 v0 hnn
      refine n_iinc (L2 := [some (2, 3), some (0, k), some (0, x2), some (0, x3), some (0, (x4 + 1))]) c_103_58 rfl rfl rfl ?_
      refine n_goto c_103_61 ?_
      refine n_fg (le_s (le_s (le_s (le_s (le_s le_0))))) ?_
      exact ih.2.1 _ _ _ M hS (by omega) (by omega) (by omega) (by omega) (by omega) (by omega)
set_option maxHeartbeats 4000000 in
theorem laws_3 {xs : List Int32} {e : Nat} {ac : Int} {M0 M : nM} {k : Int} (hS : Sf 3 ac M0 M) (hk : -2147483648 ≤ k ∧ k ≤ 2147483647) : nW xs (e + 4) 103 0 [some (2, 3), some (0, k), none, none, none] [] M (nPI fun z M1 => Sf 3 ac M0 M1 ∧ (-2147483648 ≤ z ∧ z ≤ 2147483647)) := by
  have hd : (3 : Int) = 2 ∨ (3 : Int) = 3 := by decide
  have hac := hS.2.2.2.2
  refine n_iload_n c_103_0 rfl ?_
  refine n_iconst c_103_1 ?_
  refine n_if2_eq c_103_2 (by omega) (by omega) ?_ ?_
  · intro h1
    refine n_fg (le_s (le_s (le_n (le_n (le_n le_0))))) ?_
    exact (laws_3_c hS hk 536870932).1  M hS (by omega) (by omega)
  · intro h2
    refine n_iload_n c_103_5 rfl ?_
    refine n_iconst c_103_6 ?_
    refine n_if2_eq c_103_7 (by omega) (by omega) ?_ ?_
    · intro h3
      refine n_fg (le_s (le_s (le_n (le_n (le_n le_0))))) ?_
      exact (laws_3_c hS hk 536870932).1  M hS (by omega) (by omega)
    · intro h4
      refine n_iconst c_103_10 ?_
      exact n_rI c_103_11 rfl ⟨hS, by omega⟩

set_option maxHeartbeats 4000000 in
theorem isHeap_3_c {xs : List Int32} {e : Nat} {ac : Int} {M0 M : nM} {s : Int} (hS : Sf 3 ac M0 M) (hs : -2147483648 ≤ s ∧ s ≤ 2147483647) : ∀ nn : Nat, (∀ (x2 : Int), (0 ≤ x2 ∧ x2 ≤ 8) → (8 - x2) * 1 + 1 < (nn : Int) → nW xs (e + 2) 135 2 [some (2, 3), some (0, s), some (0, x2)] [] M (nPI fun z M1 => M = M1 ∧ (0 ≤ z ∧ z ≤ 1))) := by
  have hd : (3 : Int) = 2 ∨ (3 : Int) = 3 := by decide
  have hac := hS.2.2.2.2
  intro nn
  induction nn with
  | zero => intros; omega
  | succ nn ih =>
    intro x2 k2 hnn
    refine n_iload_n c_135_2 rfl ?_
    refine n_aload_n c_135_3 rfl ?_
    refine n_getV (bi := 14) c_135_4 sc_3.n rfl rfl rfl (t_3_14x hS) ?_
    intro z1 ez1 f2
    have f2a := t_ac hS
    refine n_if2_ge c_135_7 (by omega) (by omega) ?_ ?_
    · intro h3
      refine n_iconst c_135_35 ?_
      exact n_rZ c_135_36 rfl (by omega) ⟨rfl, by omega⟩
    · intro h4
      refine n_aload_n c_135_10 rfl ?_
      refine n_getR c_135_11 sc_3.n rfl rfl rfl r_3_2 ?_
      refine n_iload_n c_135_14 rfl ?_
      refine n_aaload c_135_15 sc_12.n rfl rfl rfl (by omega) (r_acts _) ?_
      have q5 : ActAt (55 + 3 * x2) := by unfold ActAt; omega
      have q5l : (55 + 3 * x2) < 55 + 3 * ac := by omega
      refine n_iload_n c_135_16 rfl ?_
      refine n_aload_n c_135_17 rfl ?_
      refine n_getR c_135_18 sc_3.n rfl rfl rfl r_3_0 ?_
      refine n_v2I c_135_21 rfl q5.c0.1.n rfl rfl rfl rfl (staysIn_3 (p := (55 + 3 * x2)) (s := s) hS q5 q5l (by omega)) ?_
      intro z6 M7 hP8
      obtain ⟨eM, f8⟩ := hP8
      subst eM
      refine n_if0_ne c_135_24 (by omega) ?_ ?_
      · intro h9
        refine n_iinc (L2 := [some (2, 3), some (0, s), some (0, (x2 + 1))]) c_135_29 rfl rfl rfl ?_
        refine n_goto c_135_32 ?_
        refine n_fg (le_s (le_s (le_s le_0))) ?_
        exact ih _ (by omega) (by omega)
      · intro h10
        refine n_iconst c_135_27 ?_
        exact n_rZ c_135_28 rfl (by omega) ⟨rfl, by omega⟩
set_option maxHeartbeats 4000000 in
theorem isHeap_3 {xs : List Int32} {e : Nat} {ac : Int} {M0 M : nM} {s : Int} (hS : Sf 3 ac M0 M) (hs : -2147483648 ≤ s ∧ s ≤ 2147483647) : nW xs (e + 2) 135 0 [some (2, 3), some (0, s), none] [] M (nPI fun z M1 => M = M1 ∧ (0 ≤ z ∧ z ≤ 1)) := by
  have hd : (3 : Int) = 2 ∨ (3 : Int) = 3 := by decide
  have hac := hS.2.2.2.2
  refine n_iconst c_135_0 ?_
  refine n_istore_n (L2 := [some (2, 3), some (0, s), some (0, 0)]) c_135_1 rfl rfl ?_
  refine n_fg (le_s (le_s (le_s le_0))) ?_
  exact (isHeap_3_c hS hs 30) _ (by omega) (by omega)

set_option maxHeartbeats 4000000 in
theorem leastHeap_3_c {xs : List Int32} {e : Nat} {ac : Int} {M0 M : nM} {m : Int} (hS : Sf 3 ac M0 M) (hm : -2147483648 ≤ m ∧ m ≤ 2147483647) : ∀ nn : Nat, (∀ (x2 x3 : Int), (7 ≤ x2 ∧ x2 ≤ 7) → (-2147483648 ≤ x3 ∧ x3 ≤ 2147483647) → (2147483647 - x3) * 2 + 2 < (nn : Int) → nW xs (e + 3) 136 10 [some (2, 3), some (0, m), some (0, x2), some (0, x3)] [] M (nPI fun z M1 => M = M1 ∧ (-2147483648 ≤ z ∧ z ≤ 2147483647))) ∧ (∀ (x2 x3 : Int), (7 ≤ x2 ∧ x2 ≤ 7) → (-2147483648 ≤ x3 ∧ x3 ≤ 6) → (2147483647 - x3) * 2 + 1 < (nn : Int) → nW xs (e + 3) 136 32 [some (2, 3), some (0, m), some (0, x2), some (0, x3)] [] M (nPI fun z M1 => M = M1 ∧ (-2147483648 ≤ z ∧ z ≤ 2147483647))) := by
  have hd : (3 : Int) = 2 ∨ (3 : Int) = 3 := by decide
  have hac := hS.2.2.2.2
  intro nn
  induction nn with
  | zero => refine ⟨?_, ?_⟩ <;> (intros; omega)
  | succ nn ih =>
    refine ⟨?_, ?_⟩
    · intro x2 x3 k2 k3 hnn
      refine n_iload_n c_136_10 rfl ?_
      refine n_iload_n c_136_11 rfl ?_
      refine n_if2_ge c_136_12 (by omega) (by omega) ?_ ?_
      · intro h1
        refine n_iload_n c_136_38 rfl ?_
        exact n_rI c_136_39 rfl ⟨rfl, by omega⟩
      · intro h2
        refine n_iload_n c_136_15 rfl ?_
        refine n_iload_n c_136_16 rfl ?_
        refine n_i_iand c_136_17 rfl ?_
        have f3 := n_and_r x3 m
        generalize (n_and x3 m) = z4 at f3 ⊢
        refine n_iload_n c_136_18 rfl ?_
        refine n_if2_ne c_136_19 (by omega) (by omega) ?_ ?_
        · intro h5
          refine n_fg (le_s (le_s (le_s (le_s le_0)))) ?_
          exact ih.2 _ _ (by omega) (by omega) (by omega)
        · intro h6
          refine n_aload_n c_136_22 rfl ?_
          refine n_iload_n c_136_23 rfl ?_
          refine n_v1I c_136_24 rfl sc_3.n rfl rfl rfl rfl (isHeap_3 (s := x3) hS (by omega)) ?_
          intro z7 M8 hP9
          obtain ⟨eM, f9⟩ := hP9
          subst eM
          refine n_if0_eq c_136_27 (by omega) ?_ ?_
          · intro h10
            refine n_fg (le_s (le_s (le_s (le_s le_0)))) ?_
            exact ih.2 _ _ (by omega) (by omega) (by omega)
          · intro h11
            refine n_iload_n c_136_30 rfl ?_
            exact n_rI c_136_31 rfl ⟨rfl, by omega⟩
    · intro x2 x3 k2 k3 hnn
      refine n_iinc (L2 := [some (2, 3), some (0, m), some (0, x2), some (0, (x3 + 1))]) c_136_32 rfl rfl rfl ?_
      refine n_goto c_136_35 ?_
      refine n_fg (le_s (le_s (le_s (le_s le_0)))) ?_
      exact ih.1 _ _ (by omega) (by omega) (by omega)
set_option maxHeartbeats 4000000 in
theorem leastHeap_3 {xs : List Int32} {e : Nat} {ac : Int} {M0 M : nM} {m : Int} (hS : Sf 3 ac M0 M) (hm : -2147483648 ≤ m ∧ m ≤ 2147483647) : nW xs (e + 3) 136 0 [some (2, 3), some (0, m), none, none] [] M (nPI fun z M1 => M = M1 ∧ (-2147483648 ≤ z ∧ z ≤ 2147483647)) := by
  have hd : (3 : Int) = 2 ∨ (3 : Int) = 3 := by decide
  have hac := hS.2.2.2.2
  refine n_aload_n c_136_0 rfl ?_
  refine n_getR c_136_1 sc_3.n rfl rfl rfl r_3_0 ?_
  refine n_v0I c_136_4 rfl sc_4.n rfl rfl rfl rfl (allThings_3  hS ) ?_
  intro z1 M2 hP3
  obtain ⟨eM, f3⟩ := hP3
  subst eM
  obtain rfl : z1 = 7 := by omega
  refine n_istore_n (L2 := [some (2, 3), some (0, m), some (0, 7), none]) c_136_7 rfl rfl ?_
  refine n_iload_n c_136_8 rfl ?_
  refine n_istore_n (L2 := [some (2, 3), some (0, m), some (0, 7), some (0, m)]) c_136_9 rfl rfl ?_
  refine n_fg (le_s (le_s (le_s (le_s le_0)))) ?_
  exact (leastHeap_3_c hS hm 17179869198).1 _ _ (by omega) (by omega) (by omega)

set_option maxHeartbeats 4000000 in
theorem heaps_3_c {xs : List Int32} {e : Nat} {ac : Int} {M0 M : nM} (hS : Sf 3 ac M0 M)  : ∀ nn : Nat, (∀ (x1 x2 : Int), (0 ≤ x1 ∧ x1 ≤ 8) → (1 ≤ x2 ∧ x2 ≤ 8) → (x1 ≤ x2) → (8 - x2) * 2 + 2 < (nn : Int) → nW xs (e + 3) 109 4 [some (2, 3), some (0, x1), some (0, x2)] [] M (nPI fun z M1 => M = M1 ∧ (-2147483648 ≤ z ∧ z ≤ 2147483647))) ∧ (∀ (x1 x2 : Int), (0 ≤ x1 ∧ x1 ≤ 8) → (1 ≤ x2 ∧ x2 ≤ 7) → (x1 ≤ x2 + 1) → (8 - x2) * 2 + 1 < (nn : Int) → nW xs (e + 3) 109 26 [some (2, 3), some (0, x1), some (0, x2)] [] M (nPI fun z M1 => M = M1 ∧ (-2147483648 ≤ z ∧ z ≤ 2147483647))) := by
  have hd : (3 : Int) = 2 ∨ (3 : Int) = 3 := by decide
  have hac := hS.2.2.2.2
  intro nn
  induction nn with
  | zero => refine ⟨?_, ?_⟩ <;> (intros; omega)
  | succ nn ih =>
    refine ⟨?_, ?_⟩
    · intro x1 x2 k1 k2 v0 hnn
      refine n_iload_n c_109_4 rfl ?_
      refine n_aload_n c_109_5 rfl ?_
      refine n_getR c_109_6 sc_3.n rfl rfl rfl r_3_0 ?_
      refine n_v0I c_109_9 rfl sc_4.n rfl rfl rfl rfl (allThings_3  hS ) ?_
      intro z1 M2 hP3
      obtain ⟨eM, f3⟩ := hP3
      subst eM
      obtain rfl : z1 = 7 := by omega
      refine n_if2_gt c_109_12 (by omega) (by omega) ?_ ?_
      · intro h4
        refine n_iload_n c_109_32 rfl ?_
        exact n_rI c_109_33 rfl ⟨rfl, by omega⟩
      · intro h5
        refine n_aload_n c_109_15 rfl ?_
        refine n_iload_n c_109_16 rfl ?_
        refine n_v1I c_109_17 rfl sc_3.n rfl rfl rfl rfl (isHeap_3 (s := x2) hS (by omega)) ?_
        intro z6 M7 hP8
        obtain ⟨eM, f8⟩ := hP8
        subst eM
        refine n_if0_eq c_109_20 (by omega) ?_ ?_
        · intro h9
          refine n_fg (le_s (le_s (le_s le_0))) ?_
          exact ih.2 _ _ (by omega) (by omega) (by omega) (by omega)
        · intro h10
          refine n_iinc (L2 := [some (2, 3), some (0, (x1 + 1)), some (0, x2)]) c_109_23 rfl rfl rfl ?_
          refine n_fg (le_s (le_s (le_s le_0))) ?_
          exact ih.2 _ _ (by omega) (by omega) (by omega) (by omega)
    · intro x1 x2 k1 k2 v0 hnn
      refine n_iinc (L2 := [some (2, 3), some (0, x1), some (0, (x2 + 1))]) c_109_26 rfl rfl rfl ?_
      refine n_goto c_109_29 ?_
      refine n_fg (le_s (le_s (le_s le_0))) ?_
      exact ih.1 _ _ (by omega) (by omega) (by omega) (by omega)
set_option maxHeartbeats 4000000 in
theorem heaps_3 {xs : List Int32} {e : Nat} {ac : Int} {M0 M : nM} (hS : Sf 3 ac M0 M)  : nW xs (e + 3) 109 0 [some (2, 3), none, none] [] M (nPI fun z M1 => M = M1 ∧ (-2147483648 ≤ z ∧ z ≤ 2147483647)) := by
  have hd : (3 : Int) = 2 ∨ (3 : Int) = 3 := by decide
  have hac := hS.2.2.2.2
  refine n_iconst c_109_0 ?_
  refine n_istore_n (L2 := [some (2, 3), some (0, 0), none]) c_109_1 rfl rfl ?_
  refine n_iconst c_109_2 ?_
  refine n_istore_n (L2 := [some (2, 3), some (0, 0), some (0, 1)]) c_109_3 rfl rfl ?_
  refine n_fg (le_s (le_s (le_s le_0))) ?_
  exact (heaps_3_c hS  46).1 _ _ (by omega) (by omega) (by omega) (by omega)

set_option maxHeartbeats 4000000 in
theorem heap_3_c {xs : List Int32} {e : Nat} {ac : Int} {M0 M : nM} {m : Int} (hS : Sf 3 ac M0 M) (hm : -2147483648 ≤ m ∧ m ≤ 2147483647) : ∀ nn : Nat, (1 < (nn : Int) → nW xs (e + 4) 110 16 [none, none] [] M (nPI fun z M1 => M = M1 ∧ (-2147483648 ≤ z ∧ z ≤ 2147483647))) := by
  have hd : (3 : Int) = 2 ∨ (3 : Int) = 3 := by decide
  have hac := hS.2.2.2.2
  intro nn
  induction nn with
  | zero => intros; omega
  | succ nn ih =>
    intro hnn
    refine n_iconst c_110_16 ?_
    exact n_rI c_110_17 rfl ⟨rfl, by omega⟩
set_option maxHeartbeats 4000000 in
theorem heap_3 {xs : List Int32} {e : Nat} {ac : Int} {M0 M : nM} {m : Int} (hS : Sf 3 ac M0 M) (hm : -2147483648 ≤ m ∧ m ≤ 2147483647) : nW xs (e + 4) 110 0 [some (2, 3), some (0, m)] [] M (nPI fun z M1 => M = M1 ∧ (-2147483648 ≤ z ∧ z ≤ 2147483647)) := by
  have hd : (3 : Int) = 2 ∨ (3 : Int) = 3 := by decide
  have hac := hS.2.2.2.2
  refine n_iload_n c_110_0 rfl ?_
  refine n_iconst c_110_1 ?_
  refine n_if2_lt c_110_2 (by omega) (by omega) ?_ ?_
  · intro h1
    refine n_fg (le_n (le_n le_0)) ?_
    exact (heap_3_c hS hm 12)   (by omega)
  · intro h2
    refine n_iload_n c_110_5 rfl ?_
    refine n_aload_n c_110_6 rfl ?_
    refine n_getR c_110_7 sc_3.n rfl rfl rfl r_3_0 ?_
    refine n_v0I c_110_10 rfl sc_4.n rfl rfl rfl rfl (allThings_3  hS ) ?_
    intro z3 M4 hP5
    obtain ⟨eM, f5⟩ := hP5
    subst eM
    obtain rfl : z3 = 7 := by omega
    refine n_if2_le c_110_13 (by omega) (by omega) ?_ ?_
    · intro h6
      refine n_aload_n c_110_18 rfl ?_
      refine n_iload_n c_110_19 rfl ?_
      refine n_v1I c_110_20 rfl sc_3.n rfl rfl rfl rfl (leastHeap_3 (m := m) hS (by omega)) ?_
      intro z7 M8 hP9
      obtain ⟨eM, f9⟩ := hP9
      subst eM
      exact n_rI c_110_23 rfl ⟨rfl, by omega⟩
    · intro h10
      refine n_fg (le_n (le_n le_0)) ?_
      exact (heap_3_c hS hm 12)   (by omega)

set_option maxHeartbeats 4000000 in
theorem partings_3 {xs : List Int32} {e : Nat} {ac : Int} {M0 M : nM} (hS : Sf 3 ac M0 M)  : nW xs e 137 0 [some (2, 3)] [] M (nPA fun z M1 => M = M1 ∧ z = 1) := by
  have hd : (3 : Int) = 2 ∨ (3 : Int) = 3 := by decide
  have hac := hS.2.2.2.2
  refine n_aload_n c_137_0 rfl ?_
  refine n_getR c_137_1 sc_3.n rfl rfl rfl r_3_0 ?_
  refine n_getV (bi := 0) c_137_4 sc_4.n rfl rfl rfl (t_4_0 hS) ?_
  intro z1 ez1 f2
  obtain rfl : z1 = 3 := by omega
  refine n_iconst c_137_7 ?_
  refine n_if2_ne c_137_8 (by omega) (by omega) ?_ ?_
  · intro h3
    refine n_gets c_137_17 ?_
    exact n_rA c_137_20 rfl ⟨rfl, rfl⟩
  · intro h4
    exfalso; omega

set_option maxHeartbeats 4000000 in
theorem aakp0_3_c {xs : List Int32} {e : Nat} {ac : Int} {M0 M : nM} (hS : Sf 3 ac M0 M)  : ∀ nn : Nat, (∀ (x2 : Int), (0 ≤ x2 ∧ x2 ≤ 8) → (8 - x2) * 1 + 1 < (nn : Int) → nW xs (e + 2) 138 2 [some (2, 3), some (0, 0), some (0, x2)] [] M (nPI fun z M1 => M = M1 ∧ (0 ≤ z ∧ z ≤ 1))) := by
  have hd : (3 : Int) = 2 ∨ (3 : Int) = 3 := by decide
  have hac := hS.2.2.2.2
  intro nn
  induction nn with
  | zero => intros; omega
  | succ nn ih =>
    intro x2 k2 hnn
    refine n_iload_n c_138_2 rfl ?_
    refine n_aload_n c_138_3 rfl ?_
    refine n_getV (bi := 14) c_138_4 sc_3.n rfl rfl rfl (t_3_14x hS) ?_
    intro z1 ez1 f2
    have f2a := t_ac hS
    refine n_if2_ge c_138_7 (by omega) (by omega) ?_ ?_
    · intro h3
      refine n_iconst c_138_35 ?_
      exact n_rZ c_138_36 rfl (by omega) ⟨rfl, by omega⟩
    · intro h4
      refine n_aload_n c_138_10 rfl ?_
      refine n_getR c_138_11 sc_3.n rfl rfl rfl r_3_2 ?_
      refine n_iload_n c_138_14 rfl ?_
      refine n_aaload c_138_15 sc_12.n rfl rfl rfl (by omega) (r_acts _) ?_
      have q5 : ActAt (55 + 3 * x2) := by unfold ActAt; omega
      have q5l : (55 + 3 * x2) < 55 + 3 * ac := by omega
      refine n_iload_n c_138_16 rfl ?_
      refine n_aload_n c_138_17 rfl ?_
      refine n_getR c_138_18 sc_3.n rfl rfl rfl r_3_0 ?_
      refine n_v2I c_138_21 rfl q5.c0.1.n rfl rfl rfl rfl (keepsParts0_3 (p := (55 + 3 * x2)) hS q5 q5l) ?_
      intro z6 M7 hP8
      obtain ⟨eM, f8⟩ := hP8
      subst eM
      refine n_if0_ne c_138_24 (by omega) ?_ ?_
      · intro h9
        refine n_iinc (L2 := [some (2, 3), some (0, 0), some (0, (x2 + 1))]) c_138_29 rfl rfl rfl ?_
        refine n_goto c_138_32 ?_
        refine n_fg (le_s (le_s (le_s le_0))) ?_
        exact ih _ (by omega) (by omega)
      · intro h10
        refine n_iconst c_138_27 ?_
        exact n_rZ c_138_28 rfl (by omega) ⟨rfl, by omega⟩
set_option maxHeartbeats 4000000 in
theorem aakp0_3 {xs : List Int32} {e : Nat} {ac : Int} {M0 M : nM} (hS : Sf 3 ac M0 M)  : nW xs (e + 2) 138 0 [some (2, 3), some (0, 0), none] [] M (nPI fun z M1 => M = M1 ∧ (0 ≤ z ∧ z ≤ 1)) := by
  have hd : (3 : Int) = 2 ∨ (3 : Int) = 3 := by decide
  have hac := hS.2.2.2.2
  refine n_iconst c_138_0 ?_
  refine n_istore_n (L2 := [some (2, 3), some (0, 0), some (0, 0)]) c_138_1 rfl rfl ?_
  refine n_fg (le_s (le_s (le_s le_0))) ?_
  exact (aakp0_3_c hS  30) _ (by omega) (by omega)

set_option maxHeartbeats 4000000 in
theorem aakp4_3_c {xs : List Int32} {e : Nat} {ac : Int} {M0 M : nM} (hS : Sf 3 ac M0 M)  : ∀ nn : Nat, (∀ (x2 : Int), (0 ≤ x2 ∧ x2 ≤ 8) → (8 - x2) * 1 + 1 < (nn : Int) → nW xs (e + 2) 138 2 [some (2, 3), some (0, 4), some (0, x2)] [] M (nPI fun z M1 => M = M1 ∧ (0 ≤ z ∧ z ≤ 1))) := by
  have hd : (3 : Int) = 2 ∨ (3 : Int) = 3 := by decide
  have hac := hS.2.2.2.2
  intro nn
  induction nn with
  | zero => intros; omega
  | succ nn ih =>
    intro x2 k2 hnn
    refine n_iload_n c_138_2 rfl ?_
    refine n_aload_n c_138_3 rfl ?_
    refine n_getV (bi := 14) c_138_4 sc_3.n rfl rfl rfl (t_3_14x hS) ?_
    intro z1 ez1 f2
    have f2a := t_ac hS
    refine n_if2_ge c_138_7 (by omega) (by omega) ?_ ?_
    · intro h3
      refine n_iconst c_138_35 ?_
      exact n_rZ c_138_36 rfl (by omega) ⟨rfl, by omega⟩
    · intro h4
      refine n_aload_n c_138_10 rfl ?_
      refine n_getR c_138_11 sc_3.n rfl rfl rfl r_3_2 ?_
      refine n_iload_n c_138_14 rfl ?_
      refine n_aaload c_138_15 sc_12.n rfl rfl rfl (by omega) (r_acts _) ?_
      have q5 : ActAt (55 + 3 * x2) := by unfold ActAt; omega
      have q5l : (55 + 3 * x2) < 55 + 3 * ac := by omega
      refine n_iload_n c_138_16 rfl ?_
      refine n_aload_n c_138_17 rfl ?_
      refine n_getR c_138_18 sc_3.n rfl rfl rfl r_3_0 ?_
      refine n_v2I c_138_21 rfl q5.c0.1.n rfl rfl rfl rfl (keepsParts4_3 (p := (55 + 3 * x2)) hS q5 q5l) ?_
      intro z6 M7 hP8
      obtain ⟨eM, f8⟩ := hP8
      subst eM
      refine n_if0_ne c_138_24 (by omega) ?_ ?_
      · intro h9
        refine n_iinc (L2 := [some (2, 3), some (0, 4), some (0, (x2 + 1))]) c_138_29 rfl rfl rfl ?_
        refine n_goto c_138_32 ?_
        refine n_fg (le_s (le_s (le_s le_0))) ?_
        exact ih _ (by omega) (by omega)
      · intro h10
        refine n_iconst c_138_27 ?_
        exact n_rZ c_138_28 rfl (by omega) ⟨rfl, by omega⟩
set_option maxHeartbeats 4000000 in
theorem aakp4_3 {xs : List Int32} {e : Nat} {ac : Int} {M0 M : nM} (hS : Sf 3 ac M0 M)  : nW xs (e + 2) 138 0 [some (2, 3), some (0, 4), none] [] M (nPI fun z M1 => M = M1 ∧ (0 ≤ z ∧ z ≤ 1)) := by
  have hd : (3 : Int) = 2 ∨ (3 : Int) = 3 := by decide
  have hac := hS.2.2.2.2
  refine n_iconst c_138_0 ?_
  refine n_istore_n (L2 := [some (2, 3), some (0, 4), some (0, 0)]) c_138_1 rfl rfl ?_
  refine n_fg (le_s (le_s (le_s le_0))) ?_
  exact (aakp4_3_c hS  30) _ (by omega) (by omega)

set_option maxHeartbeats 4000000 in
theorem aakp20_3_c {xs : List Int32} {e : Nat} {ac : Int} {M0 M : nM} (hS : Sf 3 ac M0 M)  : ∀ nn : Nat, (∀ (x2 : Int), (0 ≤ x2 ∧ x2 ≤ 8) → (8 - x2) * 1 + 1 < (nn : Int) → nW xs (e + 2) 138 2 [some (2, 3), some (0, 20), some (0, x2)] [] M (nPI fun z M1 => M = M1 ∧ (0 ≤ z ∧ z ≤ 1))) := by
  have hd : (3 : Int) = 2 ∨ (3 : Int) = 3 := by decide
  have hac := hS.2.2.2.2
  intro nn
  induction nn with
  | zero => intros; omega
  | succ nn ih =>
    intro x2 k2 hnn
    refine n_iload_n c_138_2 rfl ?_
    refine n_aload_n c_138_3 rfl ?_
    refine n_getV (bi := 14) c_138_4 sc_3.n rfl rfl rfl (t_3_14x hS) ?_
    intro z1 ez1 f2
    have f2a := t_ac hS
    refine n_if2_ge c_138_7 (by omega) (by omega) ?_ ?_
    · intro h3
      refine n_iconst c_138_35 ?_
      exact n_rZ c_138_36 rfl (by omega) ⟨rfl, by omega⟩
    · intro h4
      refine n_aload_n c_138_10 rfl ?_
      refine n_getR c_138_11 sc_3.n rfl rfl rfl r_3_2 ?_
      refine n_iload_n c_138_14 rfl ?_
      refine n_aaload c_138_15 sc_12.n rfl rfl rfl (by omega) (r_acts _) ?_
      have q5 : ActAt (55 + 3 * x2) := by unfold ActAt; omega
      have q5l : (55 + 3 * x2) < 55 + 3 * ac := by omega
      refine n_iload_n c_138_16 rfl ?_
      refine n_aload_n c_138_17 rfl ?_
      refine n_getR c_138_18 sc_3.n rfl rfl rfl r_3_0 ?_
      refine n_v2I c_138_21 rfl q5.c0.1.n rfl rfl rfl rfl (keepsParts20_3 (p := (55 + 3 * x2)) hS q5 q5l) ?_
      intro z6 M7 hP8
      obtain ⟨eM, f8⟩ := hP8
      subst eM
      refine n_if0_ne c_138_24 (by omega) ?_ ?_
      · intro h9
        refine n_iinc (L2 := [some (2, 3), some (0, 20), some (0, (x2 + 1))]) c_138_29 rfl rfl rfl ?_
        refine n_goto c_138_32 ?_
        refine n_fg (le_s (le_s (le_s le_0))) ?_
        exact ih _ (by omega) (by omega)
      · intro h10
        refine n_iconst c_138_27 ?_
        exact n_rZ c_138_28 rfl (by omega) ⟨rfl, by omega⟩
set_option maxHeartbeats 4000000 in
theorem aakp20_3 {xs : List Int32} {e : Nat} {ac : Int} {M0 M : nM} (hS : Sf 3 ac M0 M)  : nW xs (e + 2) 138 0 [some (2, 3), some (0, 20), none] [] M (nPI fun z M1 => M = M1 ∧ (0 ≤ z ∧ z ≤ 1)) := by
  have hd : (3 : Int) = 2 ∨ (3 : Int) = 3 := by decide
  have hac := hS.2.2.2.2
  refine n_iconst c_138_0 ?_
  refine n_istore_n (L2 := [some (2, 3), some (0, 20), some (0, 0)]) c_138_1 rfl rfl ?_
  refine n_fg (le_s (le_s (le_s le_0))) ?_
  exact (aakp20_3_c hS  30) _ (by omega) (by omega)

set_option maxHeartbeats 4000000 in
theorem aakp32_3_c {xs : List Int32} {e : Nat} {ac : Int} {M0 M : nM} (hS : Sf 3 ac M0 M)  : ∀ nn : Nat, (∀ (x2 : Int), (0 ≤ x2 ∧ x2 ≤ 8) → (8 - x2) * 1 + 1 < (nn : Int) → nW xs (e + 2) 138 2 [some (2, 3), some (0, 32), some (0, x2)] [] M (nPI fun z M1 => M = M1 ∧ (0 ≤ z ∧ z ≤ 1))) := by
  have hd : (3 : Int) = 2 ∨ (3 : Int) = 3 := by decide
  have hac := hS.2.2.2.2
  intro nn
  induction nn with
  | zero => intros; omega
  | succ nn ih =>
    intro x2 k2 hnn
    refine n_iload_n c_138_2 rfl ?_
    refine n_aload_n c_138_3 rfl ?_
    refine n_getV (bi := 14) c_138_4 sc_3.n rfl rfl rfl (t_3_14x hS) ?_
    intro z1 ez1 f2
    have f2a := t_ac hS
    refine n_if2_ge c_138_7 (by omega) (by omega) ?_ ?_
    · intro h3
      refine n_iconst c_138_35 ?_
      exact n_rZ c_138_36 rfl (by omega) ⟨rfl, by omega⟩
    · intro h4
      refine n_aload_n c_138_10 rfl ?_
      refine n_getR c_138_11 sc_3.n rfl rfl rfl r_3_2 ?_
      refine n_iload_n c_138_14 rfl ?_
      refine n_aaload c_138_15 sc_12.n rfl rfl rfl (by omega) (r_acts _) ?_
      have q5 : ActAt (55 + 3 * x2) := by unfold ActAt; omega
      have q5l : (55 + 3 * x2) < 55 + 3 * ac := by omega
      refine n_iload_n c_138_16 rfl ?_
      refine n_aload_n c_138_17 rfl ?_
      refine n_getR c_138_18 sc_3.n rfl rfl rfl r_3_0 ?_
      refine n_v2I c_138_21 rfl q5.c0.1.n rfl rfl rfl rfl (keepsParts32_3 (p := (55 + 3 * x2)) hS q5 q5l) ?_
      intro z6 M7 hP8
      obtain ⟨eM, f8⟩ := hP8
      subst eM
      refine n_if0_ne c_138_24 (by omega) ?_ ?_
      · intro h9
        refine n_iinc (L2 := [some (2, 3), some (0, 32), some (0, (x2 + 1))]) c_138_29 rfl rfl rfl ?_
        refine n_goto c_138_32 ?_
        refine n_fg (le_s (le_s (le_s le_0))) ?_
        exact ih _ (by omega) (by omega)
      · intro h10
        refine n_iconst c_138_27 ?_
        exact n_rZ c_138_28 rfl (by omega) ⟨rfl, by omega⟩
set_option maxHeartbeats 4000000 in
theorem aakp32_3 {xs : List Int32} {e : Nat} {ac : Int} {M0 M : nM} (hS : Sf 3 ac M0 M)  : nW xs (e + 2) 138 0 [some (2, 3), some (0, 32), none] [] M (nPI fun z M1 => M = M1 ∧ (0 ≤ z ∧ z ≤ 1)) := by
  have hd : (3 : Int) = 2 ∨ (3 : Int) = 3 := by decide
  have hac := hS.2.2.2.2
  refine n_iconst c_138_0 ?_
  refine n_istore_n (L2 := [some (2, 3), some (0, 32), some (0, 0)]) c_138_1 rfl rfl ?_
  refine n_fg (le_s (le_s (le_s le_0))) ?_
  exact (aakp32_3_c hS  30) _ (by omega) (by omega)

set_option maxHeartbeats 4000000 in
theorem aakp36_3_c {xs : List Int32} {e : Nat} {ac : Int} {M0 M : nM} (hS : Sf 3 ac M0 M)  : ∀ nn : Nat, (∀ (x2 : Int), (0 ≤ x2 ∧ x2 ≤ 8) → (8 - x2) * 1 + 1 < (nn : Int) → nW xs (e + 2) 138 2 [some (2, 3), some (0, 36), some (0, x2)] [] M (nPI fun z M1 => M = M1 ∧ (0 ≤ z ∧ z ≤ 1))) := by
  have hd : (3 : Int) = 2 ∨ (3 : Int) = 3 := by decide
  have hac := hS.2.2.2.2
  intro nn
  induction nn with
  | zero => intros; omega
  | succ nn ih =>
    intro x2 k2 hnn
    refine n_iload_n c_138_2 rfl ?_
    refine n_aload_n c_138_3 rfl ?_
    refine n_getV (bi := 14) c_138_4 sc_3.n rfl rfl rfl (t_3_14x hS) ?_
    intro z1 ez1 f2
    have f2a := t_ac hS
    refine n_if2_ge c_138_7 (by omega) (by omega) ?_ ?_
    · intro h3
      refine n_iconst c_138_35 ?_
      exact n_rZ c_138_36 rfl (by omega) ⟨rfl, by omega⟩
    · intro h4
      refine n_aload_n c_138_10 rfl ?_
      refine n_getR c_138_11 sc_3.n rfl rfl rfl r_3_2 ?_
      refine n_iload_n c_138_14 rfl ?_
      refine n_aaload c_138_15 sc_12.n rfl rfl rfl (by omega) (r_acts _) ?_
      have q5 : ActAt (55 + 3 * x2) := by unfold ActAt; omega
      have q5l : (55 + 3 * x2) < 55 + 3 * ac := by omega
      refine n_iload_n c_138_16 rfl ?_
      refine n_aload_n c_138_17 rfl ?_
      refine n_getR c_138_18 sc_3.n rfl rfl rfl r_3_0 ?_
      refine n_v2I c_138_21 rfl q5.c0.1.n rfl rfl rfl rfl (keepsParts36_3 (p := (55 + 3 * x2)) hS q5 q5l) ?_
      intro z6 M7 hP8
      obtain ⟨eM, f8⟩ := hP8
      subst eM
      refine n_if0_ne c_138_24 (by omega) ?_ ?_
      · intro h9
        refine n_iinc (L2 := [some (2, 3), some (0, 36), some (0, (x2 + 1))]) c_138_29 rfl rfl rfl ?_
        refine n_goto c_138_32 ?_
        refine n_fg (le_s (le_s (le_s le_0))) ?_
        exact ih _ (by omega) (by omega)
      · intro h10
        refine n_iconst c_138_27 ?_
        exact n_rZ c_138_28 rfl (by omega) ⟨rfl, by omega⟩
set_option maxHeartbeats 4000000 in
theorem aakp36_3 {xs : List Int32} {e : Nat} {ac : Int} {M0 M : nM} (hS : Sf 3 ac M0 M)  : nW xs (e + 2) 138 0 [some (2, 3), some (0, 36), none] [] M (nPI fun z M1 => M = M1 ∧ (0 ≤ z ∧ z ≤ 1)) := by
  have hd : (3 : Int) = 2 ∨ (3 : Int) = 3 := by decide
  have hac := hS.2.2.2.2
  refine n_iconst c_138_0 ?_
  refine n_istore_n (L2 := [some (2, 3), some (0, 36), some (0, 0)]) c_138_1 rfl rfl ?_
  refine n_fg (le_s (le_s (le_s le_0))) ?_
  exact (aakp36_3_c hS  30) _ (by omega) (by omega)

set_option maxHeartbeats 4000000 in
theorem pairings_3 {xs : List Int32} {e : Nat} {ac : Int} {M0 M : nM} (hS : Sf 3 ac M0 M)  : nW xs (e + 3) 111 0 [some (2, 3), none, none, none] [] M (nPI fun z M1 => M = M1 ∧ (-2147483648 ≤ z ∧ z ≤ 2147483647)) := by
  have hd : (3 : Int) = 2 ∨ (3 : Int) = 3 := by decide
  have hac := hS.2.2.2.2
  refine n_aload_n c_111_0 rfl ?_
  refine n_v0A c_111_1 rfl sc_3.n rfl rfl rfl rfl (partings_3  hS ) ?_
  intro z1 M2 hP3
  obtain ⟨eM, f3⟩ := hP3
  subst eM
  obtain rfl : z1 = 1 := f3
  refine n_astore_n (L2 := [some (2, 3), some (2, 1), none, none]) c_111_4 rfl rfl ?_
  refine n_iconst c_111_5 ?_
  refine n_istore_n (L2 := [some (2, 3), some (2, 1), some (0, 0), none]) c_111_6 rfl rfl ?_
  refine n_iconst c_111_7 ?_
  refine n_istore_n (L2 := [some (2, 3), some (2, 1), some (0, 0), some (0, 0)]) c_111_8 rfl rfl ?_
  refine n_iload_n c_111_9 rfl ?_
  refine n_aload_n c_111_10 rfl ?_
  refine n_alen c_111_11 sc_1.n rfl ?_
  refine n_if2_ge c_111_12 (by omega) (by omega) ?_ ?_
  · intro h4
    exfalso; omega
  · intro h5
    refine n_aload_n c_111_15 rfl ?_
    refine n_aload_n c_111_16 rfl ?_
    refine n_iload_n c_111_17 rfl ?_
    refine n_ialoadV c_111_18 sc_1.n rfl rfl rfl (by omega) (t_1_0 hS) ?_
    intro z6 ez6 f7
    have hcst : (z6 : Int) = 0 := by omega
    rw [hcst]
    refine n_v1I c_111_19 rfl sc_3.n rfl rfl rfl rfl (aakp0_3  hS ) ?_
    intro z8 M9 hP10
    obtain ⟨eM, f10⟩ := hP10
    subst eM
    refine n_if0_eq c_111_22 (by omega) ?_ ?_
    · intro h11
      refine n_iinc (L2 := [some (2, 3), some (2, 1), some (0, 0), some (0, (0 + 1))]) c_111_28 rfl rfl rfl ?_
      refine n_goto c_111_31 ?_
      refine n_iload_n c_111_9 rfl ?_
      refine n_aload_n c_111_10 rfl ?_
      refine n_alen c_111_11 sc_1.n rfl ?_
      refine n_if2_ge c_111_12 (by omega) (by omega) ?_ ?_
      · intro h12
        exfalso; omega
      · intro h13
        refine n_aload_n c_111_15 rfl ?_
        refine n_aload_n c_111_16 rfl ?_
        refine n_iload_n c_111_17 rfl ?_
        refine n_ialoadV c_111_18 sc_1.n rfl rfl rfl (by omega) (t_1_1 hS) ?_
        intro z14 ez14 f15
        have hcst : (z14 : Int) = 4 := by omega
        rw [hcst]
        refine n_v1I c_111_19 rfl sc_3.n rfl rfl rfl rfl (aakp4_3  hS ) ?_
        intro z16 M17 hP18
        obtain ⟨eM, f18⟩ := hP18
        subst eM
        refine n_if0_eq c_111_22 (by omega) ?_ ?_
        · intro h19
          refine n_iinc (L2 := [some (2, 3), some (2, 1), some (0, 0), some (0, ((0 + 1) + 1))]) c_111_28 rfl rfl rfl ?_
          refine n_goto c_111_31 ?_
          refine n_iload_n c_111_9 rfl ?_
          refine n_aload_n c_111_10 rfl ?_
          refine n_alen c_111_11 sc_1.n rfl ?_
          refine n_if2_ge c_111_12 (by omega) (by omega) ?_ ?_
          · intro h20
            exfalso; omega
          · intro h21
            refine n_aload_n c_111_15 rfl ?_
            refine n_aload_n c_111_16 rfl ?_
            refine n_iload_n c_111_17 rfl ?_
            refine n_ialoadV c_111_18 sc_1.n rfl rfl rfl (by omega) (t_1_2 hS) ?_
            intro z22 ez22 f23
            have hcst : (z22 : Int) = 20 := by omega
            rw [hcst]
            refine n_v1I c_111_19 rfl sc_3.n rfl rfl rfl rfl (aakp20_3  hS ) ?_
            intro z24 M25 hP26
            obtain ⟨eM, f26⟩ := hP26
            subst eM
            refine n_if0_eq c_111_22 (by omega) ?_ ?_
            · intro h27
              refine n_iinc (L2 := [some (2, 3), some (2, 1), some (0, 0), some (0, (((0 + 1) + 1) + 1))]) c_111_28 rfl rfl rfl ?_
              refine n_goto c_111_31 ?_
              refine n_iload_n c_111_9 rfl ?_
              refine n_aload_n c_111_10 rfl ?_
              refine n_alen c_111_11 sc_1.n rfl ?_
              refine n_if2_ge c_111_12 (by omega) (by omega) ?_ ?_
              · intro h28
                exfalso; omega
              · intro h29
                refine n_aload_n c_111_15 rfl ?_
                refine n_aload_n c_111_16 rfl ?_
                refine n_iload_n c_111_17 rfl ?_
                refine n_ialoadV c_111_18 sc_1.n rfl rfl rfl (by omega) (t_1_3 hS) ?_
                intro z30 ez30 f31
                have hcst : (z30 : Int) = 32 := by omega
                rw [hcst]
                refine n_v1I c_111_19 rfl sc_3.n rfl rfl rfl rfl (aakp32_3  hS ) ?_
                intro z32 M33 hP34
                obtain ⟨eM, f34⟩ := hP34
                subst eM
                refine n_if0_eq c_111_22 (by omega) ?_ ?_
                · intro h35
                  refine n_iinc (L2 := [some (2, 3), some (2, 1), some (0, 0), some (0, ((((0 + 1) + 1) + 1) + 1))]) c_111_28 rfl rfl rfl ?_
                  refine n_goto c_111_31 ?_
                  refine n_iload_n c_111_9 rfl ?_
                  refine n_aload_n c_111_10 rfl ?_
                  refine n_alen c_111_11 sc_1.n rfl ?_
                  refine n_if2_ge c_111_12 (by omega) (by omega) ?_ ?_
                  · intro h36
                    exfalso; omega
                  · intro h37
                    refine n_aload_n c_111_15 rfl ?_
                    refine n_aload_n c_111_16 rfl ?_
                    refine n_iload_n c_111_17 rfl ?_
                    refine n_ialoadV c_111_18 sc_1.n rfl rfl rfl (by omega) (t_1_4 hS) ?_
                    intro z38 ez38 f39
                    have hcst : (z38 : Int) = 36 := by omega
                    rw [hcst]
                    refine n_v1I c_111_19 rfl sc_3.n rfl rfl rfl rfl (aakp36_3  hS ) ?_
                    intro z40 M41 hP42
                    obtain ⟨eM, f42⟩ := hP42
                    subst eM
                    refine n_if0_eq c_111_22 (by omega) ?_ ?_
                    · intro h43
                      refine n_iinc (L2 := [some (2, 3), some (2, 1), some (0, 0), some (0, (((((0 + 1) + 1) + 1) + 1) + 1))]) c_111_28 rfl rfl rfl ?_
                      refine n_goto c_111_31 ?_
                      refine n_iload_n c_111_9 rfl ?_
                      refine n_aload_n c_111_10 rfl ?_
                      refine n_alen c_111_11 sc_1.n rfl ?_
                      refine n_if2_ge c_111_12 (by omega) (by omega) ?_ ?_
                      · intro h44
                        refine n_iload_n c_111_34 rfl ?_
                        exact n_rI c_111_35 rfl ⟨rfl, by omega⟩
                      · intro h45
                        exfalso; omega
                    · intro h46
                      refine n_iinc (L2 := [some (2, 3), some (2, 1), some (0, (0 + 1)), some (0, ((((0 + 1) + 1) + 1) + 1))]) c_111_25 rfl rfl rfl ?_
                      refine n_iinc (L2 := [some (2, 3), some (2, 1), some (0, (0 + 1)), some (0, (((((0 + 1) + 1) + 1) + 1) + 1))]) c_111_28 rfl rfl rfl ?_
                      refine n_goto c_111_31 ?_
                      refine n_iload_n c_111_9 rfl ?_
                      refine n_aload_n c_111_10 rfl ?_
                      refine n_alen c_111_11 sc_1.n rfl ?_
                      refine n_if2_ge c_111_12 (by omega) (by omega) ?_ ?_
                      · intro h47
                        refine n_iload_n c_111_34 rfl ?_
                        exact n_rI c_111_35 rfl ⟨rfl, by omega⟩
                      · intro h48
                        exfalso; omega
                · intro h49
                  refine n_iinc (L2 := [some (2, 3), some (2, 1), some (0, (0 + 1)), some (0, (((0 + 1) + 1) + 1))]) c_111_25 rfl rfl rfl ?_
                  refine n_iinc (L2 := [some (2, 3), some (2, 1), some (0, (0 + 1)), some (0, ((((0 + 1) + 1) + 1) + 1))]) c_111_28 rfl rfl rfl ?_
                  refine n_goto c_111_31 ?_
                  refine n_iload_n c_111_9 rfl ?_
                  refine n_aload_n c_111_10 rfl ?_
                  refine n_alen c_111_11 sc_1.n rfl ?_
                  refine n_if2_ge c_111_12 (by omega) (by omega) ?_ ?_
                  · intro h50
                    exfalso; omega
                  · intro h51
                    refine n_aload_n c_111_15 rfl ?_
                    refine n_aload_n c_111_16 rfl ?_
                    refine n_iload_n c_111_17 rfl ?_
                    refine n_ialoadV c_111_18 sc_1.n rfl rfl rfl (by omega) (t_1_4 hS) ?_
                    intro z52 ez52 f53
                    have hcst : (z52 : Int) = 36 := by omega
                    rw [hcst]
                    refine n_v1I c_111_19 rfl sc_3.n rfl rfl rfl rfl (aakp36_3  hS ) ?_
                    intro z54 M55 hP56
                    obtain ⟨eM, f56⟩ := hP56
                    subst eM
                    refine n_if0_eq c_111_22 (by omega) ?_ ?_
                    · intro h57
                      refine n_iinc (L2 := [some (2, 3), some (2, 1), some (0, (0 + 1)), some (0, (((((0 + 1) + 1) + 1) + 1) + 1))]) c_111_28 rfl rfl rfl ?_
                      refine n_goto c_111_31 ?_
                      refine n_iload_n c_111_9 rfl ?_
                      refine n_aload_n c_111_10 rfl ?_
                      refine n_alen c_111_11 sc_1.n rfl ?_
                      refine n_if2_ge c_111_12 (by omega) (by omega) ?_ ?_
                      · intro h58
                        refine n_iload_n c_111_34 rfl ?_
                        exact n_rI c_111_35 rfl ⟨rfl, by omega⟩
                      · intro h59
                        exfalso; omega
                    · intro h60
                      refine n_iinc (L2 := [some (2, 3), some (2, 1), some (0, ((0 + 1) + 1)), some (0, ((((0 + 1) + 1) + 1) + 1))]) c_111_25 rfl rfl rfl ?_
                      refine n_iinc (L2 := [some (2, 3), some (2, 1), some (0, ((0 + 1) + 1)), some (0, (((((0 + 1) + 1) + 1) + 1) + 1))]) c_111_28 rfl rfl rfl ?_
                      refine n_goto c_111_31 ?_
                      refine n_iload_n c_111_9 rfl ?_
                      refine n_aload_n c_111_10 rfl ?_
                      refine n_alen c_111_11 sc_1.n rfl ?_
                      refine n_if2_ge c_111_12 (by omega) (by omega) ?_ ?_
                      · intro h61
                        refine n_iload_n c_111_34 rfl ?_
                        exact n_rI c_111_35 rfl ⟨rfl, by omega⟩
                      · intro h62
                        exfalso; omega
            · intro h63
              refine n_iinc (L2 := [some (2, 3), some (2, 1), some (0, (0 + 1)), some (0, ((0 + 1) + 1))]) c_111_25 rfl rfl rfl ?_
              refine n_iinc (L2 := [some (2, 3), some (2, 1), some (0, (0 + 1)), some (0, (((0 + 1) + 1) + 1))]) c_111_28 rfl rfl rfl ?_
              refine n_goto c_111_31 ?_
              refine n_iload_n c_111_9 rfl ?_
              refine n_aload_n c_111_10 rfl ?_
              refine n_alen c_111_11 sc_1.n rfl ?_
              refine n_if2_ge c_111_12 (by omega) (by omega) ?_ ?_
              · intro h64
                exfalso; omega
              · intro h65
                refine n_aload_n c_111_15 rfl ?_
                refine n_aload_n c_111_16 rfl ?_
                refine n_iload_n c_111_17 rfl ?_
                refine n_ialoadV c_111_18 sc_1.n rfl rfl rfl (by omega) (t_1_3 hS) ?_
                intro z66 ez66 f67
                have hcst : (z66 : Int) = 32 := by omega
                rw [hcst]
                refine n_v1I c_111_19 rfl sc_3.n rfl rfl rfl rfl (aakp32_3  hS ) ?_
                intro z68 M69 hP70
                obtain ⟨eM, f70⟩ := hP70
                subst eM
                refine n_if0_eq c_111_22 (by omega) ?_ ?_
                · intro h71
                  refine n_iinc (L2 := [some (2, 3), some (2, 1), some (0, (0 + 1)), some (0, ((((0 + 1) + 1) + 1) + 1))]) c_111_28 rfl rfl rfl ?_
                  refine n_goto c_111_31 ?_
                  refine n_iload_n c_111_9 rfl ?_
                  refine n_aload_n c_111_10 rfl ?_
                  refine n_alen c_111_11 sc_1.n rfl ?_
                  refine n_if2_ge c_111_12 (by omega) (by omega) ?_ ?_
                  · intro h72
                    exfalso; omega
                  · intro h73
                    refine n_aload_n c_111_15 rfl ?_
                    refine n_aload_n c_111_16 rfl ?_
                    refine n_iload_n c_111_17 rfl ?_
                    refine n_ialoadV c_111_18 sc_1.n rfl rfl rfl (by omega) (t_1_4 hS) ?_
                    intro z74 ez74 f75
                    have hcst : (z74 : Int) = 36 := by omega
                    rw [hcst]
                    refine n_v1I c_111_19 rfl sc_3.n rfl rfl rfl rfl (aakp36_3  hS ) ?_
                    intro z76 M77 hP78
                    obtain ⟨eM, f78⟩ := hP78
                    subst eM
                    refine n_if0_eq c_111_22 (by omega) ?_ ?_
                    · intro h79
                      refine n_iinc (L2 := [some (2, 3), some (2, 1), some (0, (0 + 1)), some (0, (((((0 + 1) + 1) + 1) + 1) + 1))]) c_111_28 rfl rfl rfl ?_
                      refine n_goto c_111_31 ?_
                      refine n_iload_n c_111_9 rfl ?_
                      refine n_aload_n c_111_10 rfl ?_
                      refine n_alen c_111_11 sc_1.n rfl ?_
                      refine n_if2_ge c_111_12 (by omega) (by omega) ?_ ?_
                      · intro h80
                        refine n_iload_n c_111_34 rfl ?_
                        exact n_rI c_111_35 rfl ⟨rfl, by omega⟩
                      · intro h81
                        exfalso; omega
                    · intro h82
                      refine n_iinc (L2 := [some (2, 3), some (2, 1), some (0, ((0 + 1) + 1)), some (0, ((((0 + 1) + 1) + 1) + 1))]) c_111_25 rfl rfl rfl ?_
                      refine n_iinc (L2 := [some (2, 3), some (2, 1), some (0, ((0 + 1) + 1)), some (0, (((((0 + 1) + 1) + 1) + 1) + 1))]) c_111_28 rfl rfl rfl ?_
                      refine n_goto c_111_31 ?_
                      refine n_iload_n c_111_9 rfl ?_
                      refine n_aload_n c_111_10 rfl ?_
                      refine n_alen c_111_11 sc_1.n rfl ?_
                      refine n_if2_ge c_111_12 (by omega) (by omega) ?_ ?_
                      · intro h83
                        refine n_iload_n c_111_34 rfl ?_
                        exact n_rI c_111_35 rfl ⟨rfl, by omega⟩
                      · intro h84
                        exfalso; omega
                · intro h85
                  refine n_iinc (L2 := [some (2, 3), some (2, 1), some (0, ((0 + 1) + 1)), some (0, (((0 + 1) + 1) + 1))]) c_111_25 rfl rfl rfl ?_
                  refine n_iinc (L2 := [some (2, 3), some (2, 1), some (0, ((0 + 1) + 1)), some (0, ((((0 + 1) + 1) + 1) + 1))]) c_111_28 rfl rfl rfl ?_
                  refine n_goto c_111_31 ?_
                  refine n_iload_n c_111_9 rfl ?_
                  refine n_aload_n c_111_10 rfl ?_
                  refine n_alen c_111_11 sc_1.n rfl ?_
                  refine n_if2_ge c_111_12 (by omega) (by omega) ?_ ?_
                  · intro h86
                    exfalso; omega
                  · intro h87
                    refine n_aload_n c_111_15 rfl ?_
                    refine n_aload_n c_111_16 rfl ?_
                    refine n_iload_n c_111_17 rfl ?_
                    refine n_ialoadV c_111_18 sc_1.n rfl rfl rfl (by omega) (t_1_4 hS) ?_
                    intro z88 ez88 f89
                    have hcst : (z88 : Int) = 36 := by omega
                    rw [hcst]
                    refine n_v1I c_111_19 rfl sc_3.n rfl rfl rfl rfl (aakp36_3  hS ) ?_
                    intro z90 M91 hP92
                    obtain ⟨eM, f92⟩ := hP92
                    subst eM
                    refine n_if0_eq c_111_22 (by omega) ?_ ?_
                    · intro h93
                      refine n_iinc (L2 := [some (2, 3), some (2, 1), some (0, ((0 + 1) + 1)), some (0, (((((0 + 1) + 1) + 1) + 1) + 1))]) c_111_28 rfl rfl rfl ?_
                      refine n_goto c_111_31 ?_
                      refine n_iload_n c_111_9 rfl ?_
                      refine n_aload_n c_111_10 rfl ?_
                      refine n_alen c_111_11 sc_1.n rfl ?_
                      refine n_if2_ge c_111_12 (by omega) (by omega) ?_ ?_
                      · intro h94
                        refine n_iload_n c_111_34 rfl ?_
                        exact n_rI c_111_35 rfl ⟨rfl, by omega⟩
                      · intro h95
                        exfalso; omega
                    · intro h96
                      refine n_iinc (L2 := [some (2, 3), some (2, 1), some (0, (((0 + 1) + 1) + 1)), some (0, ((((0 + 1) + 1) + 1) + 1))]) c_111_25 rfl rfl rfl ?_
                      refine n_iinc (L2 := [some (2, 3), some (2, 1), some (0, (((0 + 1) + 1) + 1)), some (0, (((((0 + 1) + 1) + 1) + 1) + 1))]) c_111_28 rfl rfl rfl ?_
                      refine n_goto c_111_31 ?_
                      refine n_iload_n c_111_9 rfl ?_
                      refine n_aload_n c_111_10 rfl ?_
                      refine n_alen c_111_11 sc_1.n rfl ?_
                      refine n_if2_ge c_111_12 (by omega) (by omega) ?_ ?_
                      · intro h97
                        refine n_iload_n c_111_34 rfl ?_
                        exact n_rI c_111_35 rfl ⟨rfl, by omega⟩
                      · intro h98
                        exfalso; omega
        · intro h99
          refine n_iinc (L2 := [some (2, 3), some (2, 1), some (0, (0 + 1)), some (0, (0 + 1))]) c_111_25 rfl rfl rfl ?_
          refine n_iinc (L2 := [some (2, 3), some (2, 1), some (0, (0 + 1)), some (0, ((0 + 1) + 1))]) c_111_28 rfl rfl rfl ?_
          refine n_goto c_111_31 ?_
          refine n_iload_n c_111_9 rfl ?_
          refine n_aload_n c_111_10 rfl ?_
          refine n_alen c_111_11 sc_1.n rfl ?_
          refine n_if2_ge c_111_12 (by omega) (by omega) ?_ ?_
          · intro h100
            exfalso; omega
          · intro h101
            refine n_aload_n c_111_15 rfl ?_
            refine n_aload_n c_111_16 rfl ?_
            refine n_iload_n c_111_17 rfl ?_
            refine n_ialoadV c_111_18 sc_1.n rfl rfl rfl (by omega) (t_1_2 hS) ?_
            intro z102 ez102 f103
            have hcst : (z102 : Int) = 20 := by omega
            rw [hcst]
            refine n_v1I c_111_19 rfl sc_3.n rfl rfl rfl rfl (aakp20_3  hS ) ?_
            intro z104 M105 hP106
            obtain ⟨eM, f106⟩ := hP106
            subst eM
            refine n_if0_eq c_111_22 (by omega) ?_ ?_
            · intro h107
              refine n_iinc (L2 := [some (2, 3), some (2, 1), some (0, (0 + 1)), some (0, (((0 + 1) + 1) + 1))]) c_111_28 rfl rfl rfl ?_
              refine n_goto c_111_31 ?_
              refine n_iload_n c_111_9 rfl ?_
              refine n_aload_n c_111_10 rfl ?_
              refine n_alen c_111_11 sc_1.n rfl ?_
              refine n_if2_ge c_111_12 (by omega) (by omega) ?_ ?_
              · intro h108
                exfalso; omega
              · intro h109
                refine n_aload_n c_111_15 rfl ?_
                refine n_aload_n c_111_16 rfl ?_
                refine n_iload_n c_111_17 rfl ?_
                refine n_ialoadV c_111_18 sc_1.n rfl rfl rfl (by omega) (t_1_3 hS) ?_
                intro z110 ez110 f111
                have hcst : (z110 : Int) = 32 := by omega
                rw [hcst]
                refine n_v1I c_111_19 rfl sc_3.n rfl rfl rfl rfl (aakp32_3  hS ) ?_
                intro z112 M113 hP114
                obtain ⟨eM, f114⟩ := hP114
                subst eM
                refine n_if0_eq c_111_22 (by omega) ?_ ?_
                · intro h115
                  refine n_iinc (L2 := [some (2, 3), some (2, 1), some (0, (0 + 1)), some (0, ((((0 + 1) + 1) + 1) + 1))]) c_111_28 rfl rfl rfl ?_
                  refine n_goto c_111_31 ?_
                  refine n_iload_n c_111_9 rfl ?_
                  refine n_aload_n c_111_10 rfl ?_
                  refine n_alen c_111_11 sc_1.n rfl ?_
                  refine n_if2_ge c_111_12 (by omega) (by omega) ?_ ?_
                  · intro h116
                    exfalso; omega
                  · intro h117
                    refine n_aload_n c_111_15 rfl ?_
                    refine n_aload_n c_111_16 rfl ?_
                    refine n_iload_n c_111_17 rfl ?_
                    refine n_ialoadV c_111_18 sc_1.n rfl rfl rfl (by omega) (t_1_4 hS) ?_
                    intro z118 ez118 f119
                    have hcst : (z118 : Int) = 36 := by omega
                    rw [hcst]
                    refine n_v1I c_111_19 rfl sc_3.n rfl rfl rfl rfl (aakp36_3  hS ) ?_
                    intro z120 M121 hP122
                    obtain ⟨eM, f122⟩ := hP122
                    subst eM
                    refine n_if0_eq c_111_22 (by omega) ?_ ?_
                    · intro h123
                      refine n_iinc (L2 := [some (2, 3), some (2, 1), some (0, (0 + 1)), some (0, (((((0 + 1) + 1) + 1) + 1) + 1))]) c_111_28 rfl rfl rfl ?_
                      refine n_goto c_111_31 ?_
                      refine n_iload_n c_111_9 rfl ?_
                      refine n_aload_n c_111_10 rfl ?_
                      refine n_alen c_111_11 sc_1.n rfl ?_
                      refine n_if2_ge c_111_12 (by omega) (by omega) ?_ ?_
                      · intro h124
                        refine n_iload_n c_111_34 rfl ?_
                        exact n_rI c_111_35 rfl ⟨rfl, by omega⟩
                      · intro h125
                        exfalso; omega
                    · intro h126
                      refine n_iinc (L2 := [some (2, 3), some (2, 1), some (0, ((0 + 1) + 1)), some (0, ((((0 + 1) + 1) + 1) + 1))]) c_111_25 rfl rfl rfl ?_
                      refine n_iinc (L2 := [some (2, 3), some (2, 1), some (0, ((0 + 1) + 1)), some (0, (((((0 + 1) + 1) + 1) + 1) + 1))]) c_111_28 rfl rfl rfl ?_
                      refine n_goto c_111_31 ?_
                      refine n_iload_n c_111_9 rfl ?_
                      refine n_aload_n c_111_10 rfl ?_
                      refine n_alen c_111_11 sc_1.n rfl ?_
                      refine n_if2_ge c_111_12 (by omega) (by omega) ?_ ?_
                      · intro h127
                        refine n_iload_n c_111_34 rfl ?_
                        exact n_rI c_111_35 rfl ⟨rfl, by omega⟩
                      · intro h128
                        exfalso; omega
                · intro h129
                  refine n_iinc (L2 := [some (2, 3), some (2, 1), some (0, ((0 + 1) + 1)), some (0, (((0 + 1) + 1) + 1))]) c_111_25 rfl rfl rfl ?_
                  refine n_iinc (L2 := [some (2, 3), some (2, 1), some (0, ((0 + 1) + 1)), some (0, ((((0 + 1) + 1) + 1) + 1))]) c_111_28 rfl rfl rfl ?_
                  refine n_goto c_111_31 ?_
                  refine n_iload_n c_111_9 rfl ?_
                  refine n_aload_n c_111_10 rfl ?_
                  refine n_alen c_111_11 sc_1.n rfl ?_
                  refine n_if2_ge c_111_12 (by omega) (by omega) ?_ ?_
                  · intro h130
                    exfalso; omega
                  · intro h131
                    refine n_aload_n c_111_15 rfl ?_
                    refine n_aload_n c_111_16 rfl ?_
                    refine n_iload_n c_111_17 rfl ?_
                    refine n_ialoadV c_111_18 sc_1.n rfl rfl rfl (by omega) (t_1_4 hS) ?_
                    intro z132 ez132 f133
                    have hcst : (z132 : Int) = 36 := by omega
                    rw [hcst]
                    refine n_v1I c_111_19 rfl sc_3.n rfl rfl rfl rfl (aakp36_3  hS ) ?_
                    intro z134 M135 hP136
                    obtain ⟨eM, f136⟩ := hP136
                    subst eM
                    refine n_if0_eq c_111_22 (by omega) ?_ ?_
                    · intro h137
                      refine n_iinc (L2 := [some (2, 3), some (2, 1), some (0, ((0 + 1) + 1)), some (0, (((((0 + 1) + 1) + 1) + 1) + 1))]) c_111_28 rfl rfl rfl ?_
                      refine n_goto c_111_31 ?_
                      refine n_iload_n c_111_9 rfl ?_
                      refine n_aload_n c_111_10 rfl ?_
                      refine n_alen c_111_11 sc_1.n rfl ?_
                      refine n_if2_ge c_111_12 (by omega) (by omega) ?_ ?_
                      · intro h138
                        refine n_iload_n c_111_34 rfl ?_
                        exact n_rI c_111_35 rfl ⟨rfl, by omega⟩
                      · intro h139
                        exfalso; omega
                    · intro h140
                      refine n_iinc (L2 := [some (2, 3), some (2, 1), some (0, (((0 + 1) + 1) + 1)), some (0, ((((0 + 1) + 1) + 1) + 1))]) c_111_25 rfl rfl rfl ?_
                      refine n_iinc (L2 := [some (2, 3), some (2, 1), some (0, (((0 + 1) + 1) + 1)), some (0, (((((0 + 1) + 1) + 1) + 1) + 1))]) c_111_28 rfl rfl rfl ?_
                      refine n_goto c_111_31 ?_
                      refine n_iload_n c_111_9 rfl ?_
                      refine n_aload_n c_111_10 rfl ?_
                      refine n_alen c_111_11 sc_1.n rfl ?_
                      refine n_if2_ge c_111_12 (by omega) (by omega) ?_ ?_
                      · intro h141
                        refine n_iload_n c_111_34 rfl ?_
                        exact n_rI c_111_35 rfl ⟨rfl, by omega⟩
                      · intro h142
                        exfalso; omega
            · intro h143
              refine n_iinc (L2 := [some (2, 3), some (2, 1), some (0, ((0 + 1) + 1)), some (0, ((0 + 1) + 1))]) c_111_25 rfl rfl rfl ?_
              refine n_iinc (L2 := [some (2, 3), some (2, 1), some (0, ((0 + 1) + 1)), some (0, (((0 + 1) + 1) + 1))]) c_111_28 rfl rfl rfl ?_
              refine n_goto c_111_31 ?_
              refine n_iload_n c_111_9 rfl ?_
              refine n_aload_n c_111_10 rfl ?_
              refine n_alen c_111_11 sc_1.n rfl ?_
              refine n_if2_ge c_111_12 (by omega) (by omega) ?_ ?_
              · intro h144
                exfalso; omega
              · intro h145
                refine n_aload_n c_111_15 rfl ?_
                refine n_aload_n c_111_16 rfl ?_
                refine n_iload_n c_111_17 rfl ?_
                refine n_ialoadV c_111_18 sc_1.n rfl rfl rfl (by omega) (t_1_3 hS) ?_
                intro z146 ez146 f147
                have hcst : (z146 : Int) = 32 := by omega
                rw [hcst]
                refine n_v1I c_111_19 rfl sc_3.n rfl rfl rfl rfl (aakp32_3  hS ) ?_
                intro z148 M149 hP150
                obtain ⟨eM, f150⟩ := hP150
                subst eM
                refine n_if0_eq c_111_22 (by omega) ?_ ?_
                · intro h151
                  refine n_iinc (L2 := [some (2, 3), some (2, 1), some (0, ((0 + 1) + 1)), some (0, ((((0 + 1) + 1) + 1) + 1))]) c_111_28 rfl rfl rfl ?_
                  refine n_goto c_111_31 ?_
                  refine n_iload_n c_111_9 rfl ?_
                  refine n_aload_n c_111_10 rfl ?_
                  refine n_alen c_111_11 sc_1.n rfl ?_
                  refine n_if2_ge c_111_12 (by omega) (by omega) ?_ ?_
                  · intro h152
                    exfalso; omega
                  · intro h153
                    refine n_aload_n c_111_15 rfl ?_
                    refine n_aload_n c_111_16 rfl ?_
                    refine n_iload_n c_111_17 rfl ?_
                    refine n_ialoadV c_111_18 sc_1.n rfl rfl rfl (by omega) (t_1_4 hS) ?_
                    intro z154 ez154 f155
                    have hcst : (z154 : Int) = 36 := by omega
                    rw [hcst]
                    refine n_v1I c_111_19 rfl sc_3.n rfl rfl rfl rfl (aakp36_3  hS ) ?_
                    intro z156 M157 hP158
                    obtain ⟨eM, f158⟩ := hP158
                    subst eM
                    refine n_if0_eq c_111_22 (by omega) ?_ ?_
                    · intro h159
                      refine n_iinc (L2 := [some (2, 3), some (2, 1), some (0, ((0 + 1) + 1)), some (0, (((((0 + 1) + 1) + 1) + 1) + 1))]) c_111_28 rfl rfl rfl ?_
                      refine n_goto c_111_31 ?_
                      refine n_iload_n c_111_9 rfl ?_
                      refine n_aload_n c_111_10 rfl ?_
                      refine n_alen c_111_11 sc_1.n rfl ?_
                      refine n_if2_ge c_111_12 (by omega) (by omega) ?_ ?_
                      · intro h160
                        refine n_iload_n c_111_34 rfl ?_
                        exact n_rI c_111_35 rfl ⟨rfl, by omega⟩
                      · intro h161
                        exfalso; omega
                    · intro h162
                      refine n_iinc (L2 := [some (2, 3), some (2, 1), some (0, (((0 + 1) + 1) + 1)), some (0, ((((0 + 1) + 1) + 1) + 1))]) c_111_25 rfl rfl rfl ?_
                      refine n_iinc (L2 := [some (2, 3), some (2, 1), some (0, (((0 + 1) + 1) + 1)), some (0, (((((0 + 1) + 1) + 1) + 1) + 1))]) c_111_28 rfl rfl rfl ?_
                      refine n_goto c_111_31 ?_
                      refine n_iload_n c_111_9 rfl ?_
                      refine n_aload_n c_111_10 rfl ?_
                      refine n_alen c_111_11 sc_1.n rfl ?_
                      refine n_if2_ge c_111_12 (by omega) (by omega) ?_ ?_
                      · intro h163
                        refine n_iload_n c_111_34 rfl ?_
                        exact n_rI c_111_35 rfl ⟨rfl, by omega⟩
                      · intro h164
                        exfalso; omega
                · intro h165
                  refine n_iinc (L2 := [some (2, 3), some (2, 1), some (0, (((0 + 1) + 1) + 1)), some (0, (((0 + 1) + 1) + 1))]) c_111_25 rfl rfl rfl ?_
                  refine n_iinc (L2 := [some (2, 3), some (2, 1), some (0, (((0 + 1) + 1) + 1)), some (0, ((((0 + 1) + 1) + 1) + 1))]) c_111_28 rfl rfl rfl ?_
                  refine n_goto c_111_31 ?_
                  refine n_iload_n c_111_9 rfl ?_
                  refine n_aload_n c_111_10 rfl ?_
                  refine n_alen c_111_11 sc_1.n rfl ?_
                  refine n_if2_ge c_111_12 (by omega) (by omega) ?_ ?_
                  · intro h166
                    exfalso; omega
                  · intro h167
                    refine n_aload_n c_111_15 rfl ?_
                    refine n_aload_n c_111_16 rfl ?_
                    refine n_iload_n c_111_17 rfl ?_
                    refine n_ialoadV c_111_18 sc_1.n rfl rfl rfl (by omega) (t_1_4 hS) ?_
                    intro z168 ez168 f169
                    have hcst : (z168 : Int) = 36 := by omega
                    rw [hcst]
                    refine n_v1I c_111_19 rfl sc_3.n rfl rfl rfl rfl (aakp36_3  hS ) ?_
                    intro z170 M171 hP172
                    obtain ⟨eM, f172⟩ := hP172
                    subst eM
                    refine n_if0_eq c_111_22 (by omega) ?_ ?_
                    · intro h173
                      refine n_iinc (L2 := [some (2, 3), some (2, 1), some (0, (((0 + 1) + 1) + 1)), some (0, (((((0 + 1) + 1) + 1) + 1) + 1))]) c_111_28 rfl rfl rfl ?_
                      refine n_goto c_111_31 ?_
                      refine n_iload_n c_111_9 rfl ?_
                      refine n_aload_n c_111_10 rfl ?_
                      refine n_alen c_111_11 sc_1.n rfl ?_
                      refine n_if2_ge c_111_12 (by omega) (by omega) ?_ ?_
                      · intro h174
                        refine n_iload_n c_111_34 rfl ?_
                        exact n_rI c_111_35 rfl ⟨rfl, by omega⟩
                      · intro h175
                        exfalso; omega
                    · intro h176
                      refine n_iinc (L2 := [some (2, 3), some (2, 1), some (0, ((((0 + 1) + 1) + 1) + 1)), some (0, ((((0 + 1) + 1) + 1) + 1))]) c_111_25 rfl rfl rfl ?_
                      refine n_iinc (L2 := [some (2, 3), some (2, 1), some (0, ((((0 + 1) + 1) + 1) + 1)), some (0, (((((0 + 1) + 1) + 1) + 1) + 1))]) c_111_28 rfl rfl rfl ?_
                      refine n_goto c_111_31 ?_
                      refine n_iload_n c_111_9 rfl ?_
                      refine n_aload_n c_111_10 rfl ?_
                      refine n_alen c_111_11 sc_1.n rfl ?_
                      refine n_if2_ge c_111_12 (by omega) (by omega) ?_ ?_
                      · intro h177
                        refine n_iload_n c_111_34 rfl ?_
                        exact n_rI c_111_35 rfl ⟨rfl, by omega⟩
                      · intro h178
                        exfalso; omega
    · intro h179
      refine n_iinc (L2 := [some (2, 3), some (2, 1), some (0, (0 + 1)), some (0, 0)]) c_111_25 rfl rfl rfl ?_
      refine n_iinc (L2 := [some (2, 3), some (2, 1), some (0, (0 + 1)), some (0, (0 + 1))]) c_111_28 rfl rfl rfl ?_
      refine n_goto c_111_31 ?_
      refine n_iload_n c_111_9 rfl ?_
      refine n_aload_n c_111_10 rfl ?_
      refine n_alen c_111_11 sc_1.n rfl ?_
      refine n_if2_ge c_111_12 (by omega) (by omega) ?_ ?_
      · intro h180
        exfalso; omega
      · intro h181
        refine n_aload_n c_111_15 rfl ?_
        refine n_aload_n c_111_16 rfl ?_
        refine n_iload_n c_111_17 rfl ?_
        refine n_ialoadV c_111_18 sc_1.n rfl rfl rfl (by omega) (t_1_1 hS) ?_
        intro z182 ez182 f183
        have hcst : (z182 : Int) = 4 := by omega
        rw [hcst]
        refine n_v1I c_111_19 rfl sc_3.n rfl rfl rfl rfl (aakp4_3  hS ) ?_
        intro z184 M185 hP186
        obtain ⟨eM, f186⟩ := hP186
        subst eM
        refine n_if0_eq c_111_22 (by omega) ?_ ?_
        · intro h187
          refine n_iinc (L2 := [some (2, 3), some (2, 1), some (0, (0 + 1)), some (0, ((0 + 1) + 1))]) c_111_28 rfl rfl rfl ?_
          refine n_goto c_111_31 ?_
          refine n_iload_n c_111_9 rfl ?_
          refine n_aload_n c_111_10 rfl ?_
          refine n_alen c_111_11 sc_1.n rfl ?_
          refine n_if2_ge c_111_12 (by omega) (by omega) ?_ ?_
          · intro h188
            exfalso; omega
          · intro h189
            refine n_aload_n c_111_15 rfl ?_
            refine n_aload_n c_111_16 rfl ?_
            refine n_iload_n c_111_17 rfl ?_
            refine n_ialoadV c_111_18 sc_1.n rfl rfl rfl (by omega) (t_1_2 hS) ?_
            intro z190 ez190 f191
            have hcst : (z190 : Int) = 20 := by omega
            rw [hcst]
            refine n_v1I c_111_19 rfl sc_3.n rfl rfl rfl rfl (aakp20_3  hS ) ?_
            intro z192 M193 hP194
            obtain ⟨eM, f194⟩ := hP194
            subst eM
            refine n_if0_eq c_111_22 (by omega) ?_ ?_
            · intro h195
              refine n_iinc (L2 := [some (2, 3), some (2, 1), some (0, (0 + 1)), some (0, (((0 + 1) + 1) + 1))]) c_111_28 rfl rfl rfl ?_
              refine n_goto c_111_31 ?_
              refine n_iload_n c_111_9 rfl ?_
              refine n_aload_n c_111_10 rfl ?_
              refine n_alen c_111_11 sc_1.n rfl ?_
              refine n_if2_ge c_111_12 (by omega) (by omega) ?_ ?_
              · intro h196
                exfalso; omega
              · intro h197
                refine n_aload_n c_111_15 rfl ?_
                refine n_aload_n c_111_16 rfl ?_
                refine n_iload_n c_111_17 rfl ?_
                refine n_ialoadV c_111_18 sc_1.n rfl rfl rfl (by omega) (t_1_3 hS) ?_
                intro z198 ez198 f199
                have hcst : (z198 : Int) = 32 := by omega
                rw [hcst]
                refine n_v1I c_111_19 rfl sc_3.n rfl rfl rfl rfl (aakp32_3  hS ) ?_
                intro z200 M201 hP202
                obtain ⟨eM, f202⟩ := hP202
                subst eM
                refine n_if0_eq c_111_22 (by omega) ?_ ?_
                · intro h203
                  refine n_iinc (L2 := [some (2, 3), some (2, 1), some (0, (0 + 1)), some (0, ((((0 + 1) + 1) + 1) + 1))]) c_111_28 rfl rfl rfl ?_
                  refine n_goto c_111_31 ?_
                  refine n_iload_n c_111_9 rfl ?_
                  refine n_aload_n c_111_10 rfl ?_
                  refine n_alen c_111_11 sc_1.n rfl ?_
                  refine n_if2_ge c_111_12 (by omega) (by omega) ?_ ?_
                  · intro h204
                    exfalso; omega
                  · intro h205
                    refine n_aload_n c_111_15 rfl ?_
                    refine n_aload_n c_111_16 rfl ?_
                    refine n_iload_n c_111_17 rfl ?_
                    refine n_ialoadV c_111_18 sc_1.n rfl rfl rfl (by omega) (t_1_4 hS) ?_
                    intro z206 ez206 f207
                    have hcst : (z206 : Int) = 36 := by omega
                    rw [hcst]
                    refine n_v1I c_111_19 rfl sc_3.n rfl rfl rfl rfl (aakp36_3  hS ) ?_
                    intro z208 M209 hP210
                    obtain ⟨eM, f210⟩ := hP210
                    subst eM
                    refine n_if0_eq c_111_22 (by omega) ?_ ?_
                    · intro h211
                      refine n_iinc (L2 := [some (2, 3), some (2, 1), some (0, (0 + 1)), some (0, (((((0 + 1) + 1) + 1) + 1) + 1))]) c_111_28 rfl rfl rfl ?_
                      refine n_goto c_111_31 ?_
                      refine n_iload_n c_111_9 rfl ?_
                      refine n_aload_n c_111_10 rfl ?_
                      refine n_alen c_111_11 sc_1.n rfl ?_
                      refine n_if2_ge c_111_12 (by omega) (by omega) ?_ ?_
                      · intro h212
                        refine n_iload_n c_111_34 rfl ?_
                        exact n_rI c_111_35 rfl ⟨rfl, by omega⟩
                      · intro h213
                        exfalso; omega
                    · intro h214
                      refine n_iinc (L2 := [some (2, 3), some (2, 1), some (0, ((0 + 1) + 1)), some (0, ((((0 + 1) + 1) + 1) + 1))]) c_111_25 rfl rfl rfl ?_
                      refine n_iinc (L2 := [some (2, 3), some (2, 1), some (0, ((0 + 1) + 1)), some (0, (((((0 + 1) + 1) + 1) + 1) + 1))]) c_111_28 rfl rfl rfl ?_
                      refine n_goto c_111_31 ?_
                      refine n_iload_n c_111_9 rfl ?_
                      refine n_aload_n c_111_10 rfl ?_
                      refine n_alen c_111_11 sc_1.n rfl ?_
                      refine n_if2_ge c_111_12 (by omega) (by omega) ?_ ?_
                      · intro h215
                        refine n_iload_n c_111_34 rfl ?_
                        exact n_rI c_111_35 rfl ⟨rfl, by omega⟩
                      · intro h216
                        exfalso; omega
                · intro h217
                  refine n_iinc (L2 := [some (2, 3), some (2, 1), some (0, ((0 + 1) + 1)), some (0, (((0 + 1) + 1) + 1))]) c_111_25 rfl rfl rfl ?_
                  refine n_iinc (L2 := [some (2, 3), some (2, 1), some (0, ((0 + 1) + 1)), some (0, ((((0 + 1) + 1) + 1) + 1))]) c_111_28 rfl rfl rfl ?_
                  refine n_goto c_111_31 ?_
                  refine n_iload_n c_111_9 rfl ?_
                  refine n_aload_n c_111_10 rfl ?_
                  refine n_alen c_111_11 sc_1.n rfl ?_
                  refine n_if2_ge c_111_12 (by omega) (by omega) ?_ ?_
                  · intro h218
                    exfalso; omega
                  · intro h219
                    refine n_aload_n c_111_15 rfl ?_
                    refine n_aload_n c_111_16 rfl ?_
                    refine n_iload_n c_111_17 rfl ?_
                    refine n_ialoadV c_111_18 sc_1.n rfl rfl rfl (by omega) (t_1_4 hS) ?_
                    intro z220 ez220 f221
                    have hcst : (z220 : Int) = 36 := by omega
                    rw [hcst]
                    refine n_v1I c_111_19 rfl sc_3.n rfl rfl rfl rfl (aakp36_3  hS ) ?_
                    intro z222 M223 hP224
                    obtain ⟨eM, f224⟩ := hP224
                    subst eM
                    refine n_if0_eq c_111_22 (by omega) ?_ ?_
                    · intro h225
                      refine n_iinc (L2 := [some (2, 3), some (2, 1), some (0, ((0 + 1) + 1)), some (0, (((((0 + 1) + 1) + 1) + 1) + 1))]) c_111_28 rfl rfl rfl ?_
                      refine n_goto c_111_31 ?_
                      refine n_iload_n c_111_9 rfl ?_
                      refine n_aload_n c_111_10 rfl ?_
                      refine n_alen c_111_11 sc_1.n rfl ?_
                      refine n_if2_ge c_111_12 (by omega) (by omega) ?_ ?_
                      · intro h226
                        refine n_iload_n c_111_34 rfl ?_
                        exact n_rI c_111_35 rfl ⟨rfl, by omega⟩
                      · intro h227
                        exfalso; omega
                    · intro h228
                      refine n_iinc (L2 := [some (2, 3), some (2, 1), some (0, (((0 + 1) + 1) + 1)), some (0, ((((0 + 1) + 1) + 1) + 1))]) c_111_25 rfl rfl rfl ?_
                      refine n_iinc (L2 := [some (2, 3), some (2, 1), some (0, (((0 + 1) + 1) + 1)), some (0, (((((0 + 1) + 1) + 1) + 1) + 1))]) c_111_28 rfl rfl rfl ?_
                      refine n_goto c_111_31 ?_
                      refine n_iload_n c_111_9 rfl ?_
                      refine n_aload_n c_111_10 rfl ?_
                      refine n_alen c_111_11 sc_1.n rfl ?_
                      refine n_if2_ge c_111_12 (by omega) (by omega) ?_ ?_
                      · intro h229
                        refine n_iload_n c_111_34 rfl ?_
                        exact n_rI c_111_35 rfl ⟨rfl, by omega⟩
                      · intro h230
                        exfalso; omega
            · intro h231
              refine n_iinc (L2 := [some (2, 3), some (2, 1), some (0, ((0 + 1) + 1)), some (0, ((0 + 1) + 1))]) c_111_25 rfl rfl rfl ?_
              refine n_iinc (L2 := [some (2, 3), some (2, 1), some (0, ((0 + 1) + 1)), some (0, (((0 + 1) + 1) + 1))]) c_111_28 rfl rfl rfl ?_
              refine n_goto c_111_31 ?_
              refine n_iload_n c_111_9 rfl ?_
              refine n_aload_n c_111_10 rfl ?_
              refine n_alen c_111_11 sc_1.n rfl ?_
              refine n_if2_ge c_111_12 (by omega) (by omega) ?_ ?_
              · intro h232
                exfalso; omega
              · intro h233
                refine n_aload_n c_111_15 rfl ?_
                refine n_aload_n c_111_16 rfl ?_
                refine n_iload_n c_111_17 rfl ?_
                refine n_ialoadV c_111_18 sc_1.n rfl rfl rfl (by omega) (t_1_3 hS) ?_
                intro z234 ez234 f235
                have hcst : (z234 : Int) = 32 := by omega
                rw [hcst]
                refine n_v1I c_111_19 rfl sc_3.n rfl rfl rfl rfl (aakp32_3  hS ) ?_
                intro z236 M237 hP238
                obtain ⟨eM, f238⟩ := hP238
                subst eM
                refine n_if0_eq c_111_22 (by omega) ?_ ?_
                · intro h239
                  refine n_iinc (L2 := [some (2, 3), some (2, 1), some (0, ((0 + 1) + 1)), some (0, ((((0 + 1) + 1) + 1) + 1))]) c_111_28 rfl rfl rfl ?_
                  refine n_goto c_111_31 ?_
                  refine n_iload_n c_111_9 rfl ?_
                  refine n_aload_n c_111_10 rfl ?_
                  refine n_alen c_111_11 sc_1.n rfl ?_
                  refine n_if2_ge c_111_12 (by omega) (by omega) ?_ ?_
                  · intro h240
                    exfalso; omega
                  · intro h241
                    refine n_aload_n c_111_15 rfl ?_
                    refine n_aload_n c_111_16 rfl ?_
                    refine n_iload_n c_111_17 rfl ?_
                    refine n_ialoadV c_111_18 sc_1.n rfl rfl rfl (by omega) (t_1_4 hS) ?_
                    intro z242 ez242 f243
                    have hcst : (z242 : Int) = 36 := by omega
                    rw [hcst]
                    refine n_v1I c_111_19 rfl sc_3.n rfl rfl rfl rfl (aakp36_3  hS ) ?_
                    intro z244 M245 hP246
                    obtain ⟨eM, f246⟩ := hP246
                    subst eM
                    refine n_if0_eq c_111_22 (by omega) ?_ ?_
                    · intro h247
                      refine n_iinc (L2 := [some (2, 3), some (2, 1), some (0, ((0 + 1) + 1)), some (0, (((((0 + 1) + 1) + 1) + 1) + 1))]) c_111_28 rfl rfl rfl ?_
                      refine n_goto c_111_31 ?_
                      refine n_iload_n c_111_9 rfl ?_
                      refine n_aload_n c_111_10 rfl ?_
                      refine n_alen c_111_11 sc_1.n rfl ?_
                      refine n_if2_ge c_111_12 (by omega) (by omega) ?_ ?_
                      · intro h248
                        refine n_iload_n c_111_34 rfl ?_
                        exact n_rI c_111_35 rfl ⟨rfl, by omega⟩
                      · intro h249
                        exfalso; omega
                    · intro h250
                      refine n_iinc (L2 := [some (2, 3), some (2, 1), some (0, (((0 + 1) + 1) + 1)), some (0, ((((0 + 1) + 1) + 1) + 1))]) c_111_25 rfl rfl rfl ?_
                      refine n_iinc (L2 := [some (2, 3), some (2, 1), some (0, (((0 + 1) + 1) + 1)), some (0, (((((0 + 1) + 1) + 1) + 1) + 1))]) c_111_28 rfl rfl rfl ?_
                      refine n_goto c_111_31 ?_
                      refine n_iload_n c_111_9 rfl ?_
                      refine n_aload_n c_111_10 rfl ?_
                      refine n_alen c_111_11 sc_1.n rfl ?_
                      refine n_if2_ge c_111_12 (by omega) (by omega) ?_ ?_
                      · intro h251
                        refine n_iload_n c_111_34 rfl ?_
                        exact n_rI c_111_35 rfl ⟨rfl, by omega⟩
                      · intro h252
                        exfalso; omega
                · intro h253
                  refine n_iinc (L2 := [some (2, 3), some (2, 1), some (0, (((0 + 1) + 1) + 1)), some (0, (((0 + 1) + 1) + 1))]) c_111_25 rfl rfl rfl ?_
                  refine n_iinc (L2 := [some (2, 3), some (2, 1), some (0, (((0 + 1) + 1) + 1)), some (0, ((((0 + 1) + 1) + 1) + 1))]) c_111_28 rfl rfl rfl ?_
                  refine n_goto c_111_31 ?_
                  refine n_iload_n c_111_9 rfl ?_
                  refine n_aload_n c_111_10 rfl ?_
                  refine n_alen c_111_11 sc_1.n rfl ?_
                  refine n_if2_ge c_111_12 (by omega) (by omega) ?_ ?_
                  · intro h254
                    exfalso; omega
                  · intro h255
                    refine n_aload_n c_111_15 rfl ?_
                    refine n_aload_n c_111_16 rfl ?_
                    refine n_iload_n c_111_17 rfl ?_
                    refine n_ialoadV c_111_18 sc_1.n rfl rfl rfl (by omega) (t_1_4 hS) ?_
                    intro z256 ez256 f257
                    have hcst : (z256 : Int) = 36 := by omega
                    rw [hcst]
                    refine n_v1I c_111_19 rfl sc_3.n rfl rfl rfl rfl (aakp36_3  hS ) ?_
                    intro z258 M259 hP260
                    obtain ⟨eM, f260⟩ := hP260
                    subst eM
                    refine n_if0_eq c_111_22 (by omega) ?_ ?_
                    · intro h261
                      refine n_iinc (L2 := [some (2, 3), some (2, 1), some (0, (((0 + 1) + 1) + 1)), some (0, (((((0 + 1) + 1) + 1) + 1) + 1))]) c_111_28 rfl rfl rfl ?_
                      refine n_goto c_111_31 ?_
                      refine n_iload_n c_111_9 rfl ?_
                      refine n_aload_n c_111_10 rfl ?_
                      refine n_alen c_111_11 sc_1.n rfl ?_
                      refine n_if2_ge c_111_12 (by omega) (by omega) ?_ ?_
                      · intro h262
                        refine n_iload_n c_111_34 rfl ?_
                        exact n_rI c_111_35 rfl ⟨rfl, by omega⟩
                      · intro h263
                        exfalso; omega
                    · intro h264
                      refine n_iinc (L2 := [some (2, 3), some (2, 1), some (0, ((((0 + 1) + 1) + 1) + 1)), some (0, ((((0 + 1) + 1) + 1) + 1))]) c_111_25 rfl rfl rfl ?_
                      refine n_iinc (L2 := [some (2, 3), some (2, 1), some (0, ((((0 + 1) + 1) + 1) + 1)), some (0, (((((0 + 1) + 1) + 1) + 1) + 1))]) c_111_28 rfl rfl rfl ?_
                      refine n_goto c_111_31 ?_
                      refine n_iload_n c_111_9 rfl ?_
                      refine n_aload_n c_111_10 rfl ?_
                      refine n_alen c_111_11 sc_1.n rfl ?_
                      refine n_if2_ge c_111_12 (by omega) (by omega) ?_ ?_
                      · intro h265
                        refine n_iload_n c_111_34 rfl ?_
                        exact n_rI c_111_35 rfl ⟨rfl, by omega⟩
                      · intro h266
                        exfalso; omega
        · intro h267
          refine n_iinc (L2 := [some (2, 3), some (2, 1), some (0, ((0 + 1) + 1)), some (0, (0 + 1))]) c_111_25 rfl rfl rfl ?_
          refine n_iinc (L2 := [some (2, 3), some (2, 1), some (0, ((0 + 1) + 1)), some (0, ((0 + 1) + 1))]) c_111_28 rfl rfl rfl ?_
          refine n_goto c_111_31 ?_
          refine n_iload_n c_111_9 rfl ?_
          refine n_aload_n c_111_10 rfl ?_
          refine n_alen c_111_11 sc_1.n rfl ?_
          refine n_if2_ge c_111_12 (by omega) (by omega) ?_ ?_
          · intro h268
            exfalso; omega
          · intro h269
            refine n_aload_n c_111_15 rfl ?_
            refine n_aload_n c_111_16 rfl ?_
            refine n_iload_n c_111_17 rfl ?_
            refine n_ialoadV c_111_18 sc_1.n rfl rfl rfl (by omega) (t_1_2 hS) ?_
            intro z270 ez270 f271
            have hcst : (z270 : Int) = 20 := by omega
            rw [hcst]
            refine n_v1I c_111_19 rfl sc_3.n rfl rfl rfl rfl (aakp20_3  hS ) ?_
            intro z272 M273 hP274
            obtain ⟨eM, f274⟩ := hP274
            subst eM
            refine n_if0_eq c_111_22 (by omega) ?_ ?_
            · intro h275
              refine n_iinc (L2 := [some (2, 3), some (2, 1), some (0, ((0 + 1) + 1)), some (0, (((0 + 1) + 1) + 1))]) c_111_28 rfl rfl rfl ?_
              refine n_goto c_111_31 ?_
              refine n_iload_n c_111_9 rfl ?_
              refine n_aload_n c_111_10 rfl ?_
              refine n_alen c_111_11 sc_1.n rfl ?_
              refine n_if2_ge c_111_12 (by omega) (by omega) ?_ ?_
              · intro h276
                exfalso; omega
              · intro h277
                refine n_aload_n c_111_15 rfl ?_
                refine n_aload_n c_111_16 rfl ?_
                refine n_iload_n c_111_17 rfl ?_
                refine n_ialoadV c_111_18 sc_1.n rfl rfl rfl (by omega) (t_1_3 hS) ?_
                intro z278 ez278 f279
                have hcst : (z278 : Int) = 32 := by omega
                rw [hcst]
                refine n_v1I c_111_19 rfl sc_3.n rfl rfl rfl rfl (aakp32_3  hS ) ?_
                intro z280 M281 hP282
                obtain ⟨eM, f282⟩ := hP282
                subst eM
                refine n_if0_eq c_111_22 (by omega) ?_ ?_
                · intro h283
                  refine n_iinc (L2 := [some (2, 3), some (2, 1), some (0, ((0 + 1) + 1)), some (0, ((((0 + 1) + 1) + 1) + 1))]) c_111_28 rfl rfl rfl ?_
                  refine n_goto c_111_31 ?_
                  refine n_iload_n c_111_9 rfl ?_
                  refine n_aload_n c_111_10 rfl ?_
                  refine n_alen c_111_11 sc_1.n rfl ?_
                  refine n_if2_ge c_111_12 (by omega) (by omega) ?_ ?_
                  · intro h284
                    exfalso; omega
                  · intro h285
                    refine n_aload_n c_111_15 rfl ?_
                    refine n_aload_n c_111_16 rfl ?_
                    refine n_iload_n c_111_17 rfl ?_
                    refine n_ialoadV c_111_18 sc_1.n rfl rfl rfl (by omega) (t_1_4 hS) ?_
                    intro z286 ez286 f287
                    have hcst : (z286 : Int) = 36 := by omega
                    rw [hcst]
                    refine n_v1I c_111_19 rfl sc_3.n rfl rfl rfl rfl (aakp36_3  hS ) ?_
                    intro z288 M289 hP290
                    obtain ⟨eM, f290⟩ := hP290
                    subst eM
                    refine n_if0_eq c_111_22 (by omega) ?_ ?_
                    · intro h291
                      refine n_iinc (L2 := [some (2, 3), some (2, 1), some (0, ((0 + 1) + 1)), some (0, (((((0 + 1) + 1) + 1) + 1) + 1))]) c_111_28 rfl rfl rfl ?_
                      refine n_goto c_111_31 ?_
                      refine n_iload_n c_111_9 rfl ?_
                      refine n_aload_n c_111_10 rfl ?_
                      refine n_alen c_111_11 sc_1.n rfl ?_
                      refine n_if2_ge c_111_12 (by omega) (by omega) ?_ ?_
                      · intro h292
                        refine n_iload_n c_111_34 rfl ?_
                        exact n_rI c_111_35 rfl ⟨rfl, by omega⟩
                      · intro h293
                        exfalso; omega
                    · intro h294
                      refine n_iinc (L2 := [some (2, 3), some (2, 1), some (0, (((0 + 1) + 1) + 1)), some (0, ((((0 + 1) + 1) + 1) + 1))]) c_111_25 rfl rfl rfl ?_
                      refine n_iinc (L2 := [some (2, 3), some (2, 1), some (0, (((0 + 1) + 1) + 1)), some (0, (((((0 + 1) + 1) + 1) + 1) + 1))]) c_111_28 rfl rfl rfl ?_
                      refine n_goto c_111_31 ?_
                      refine n_iload_n c_111_9 rfl ?_
                      refine n_aload_n c_111_10 rfl ?_
                      refine n_alen c_111_11 sc_1.n rfl ?_
                      refine n_if2_ge c_111_12 (by omega) (by omega) ?_ ?_
                      · intro h295
                        refine n_iload_n c_111_34 rfl ?_
                        exact n_rI c_111_35 rfl ⟨rfl, by omega⟩
                      · intro h296
                        exfalso; omega
                · intro h297
                  refine n_iinc (L2 := [some (2, 3), some (2, 1), some (0, (((0 + 1) + 1) + 1)), some (0, (((0 + 1) + 1) + 1))]) c_111_25 rfl rfl rfl ?_
                  refine n_iinc (L2 := [some (2, 3), some (2, 1), some (0, (((0 + 1) + 1) + 1)), some (0, ((((0 + 1) + 1) + 1) + 1))]) c_111_28 rfl rfl rfl ?_
                  refine n_goto c_111_31 ?_
                  refine n_iload_n c_111_9 rfl ?_
                  refine n_aload_n c_111_10 rfl ?_
                  refine n_alen c_111_11 sc_1.n rfl ?_
                  refine n_if2_ge c_111_12 (by omega) (by omega) ?_ ?_
                  · intro h298
                    exfalso; omega
                  · intro h299
                    refine n_aload_n c_111_15 rfl ?_
                    refine n_aload_n c_111_16 rfl ?_
                    refine n_iload_n c_111_17 rfl ?_
                    refine n_ialoadV c_111_18 sc_1.n rfl rfl rfl (by omega) (t_1_4 hS) ?_
                    intro z300 ez300 f301
                    have hcst : (z300 : Int) = 36 := by omega
                    rw [hcst]
                    refine n_v1I c_111_19 rfl sc_3.n rfl rfl rfl rfl (aakp36_3  hS ) ?_
                    intro z302 M303 hP304
                    obtain ⟨eM, f304⟩ := hP304
                    subst eM
                    refine n_if0_eq c_111_22 (by omega) ?_ ?_
                    · intro h305
                      refine n_iinc (L2 := [some (2, 3), some (2, 1), some (0, (((0 + 1) + 1) + 1)), some (0, (((((0 + 1) + 1) + 1) + 1) + 1))]) c_111_28 rfl rfl rfl ?_
                      refine n_goto c_111_31 ?_
                      refine n_iload_n c_111_9 rfl ?_
                      refine n_aload_n c_111_10 rfl ?_
                      refine n_alen c_111_11 sc_1.n rfl ?_
                      refine n_if2_ge c_111_12 (by omega) (by omega) ?_ ?_
                      · intro h306
                        refine n_iload_n c_111_34 rfl ?_
                        exact n_rI c_111_35 rfl ⟨rfl, by omega⟩
                      · intro h307
                        exfalso; omega
                    · intro h308
                      refine n_iinc (L2 := [some (2, 3), some (2, 1), some (0, ((((0 + 1) + 1) + 1) + 1)), some (0, ((((0 + 1) + 1) + 1) + 1))]) c_111_25 rfl rfl rfl ?_
                      refine n_iinc (L2 := [some (2, 3), some (2, 1), some (0, ((((0 + 1) + 1) + 1) + 1)), some (0, (((((0 + 1) + 1) + 1) + 1) + 1))]) c_111_28 rfl rfl rfl ?_
                      refine n_goto c_111_31 ?_
                      refine n_iload_n c_111_9 rfl ?_
                      refine n_aload_n c_111_10 rfl ?_
                      refine n_alen c_111_11 sc_1.n rfl ?_
                      refine n_if2_ge c_111_12 (by omega) (by omega) ?_ ?_
                      · intro h309
                        refine n_iload_n c_111_34 rfl ?_
                        exact n_rI c_111_35 rfl ⟨rfl, by omega⟩
                      · intro h310
                        exfalso; omega
            · intro h311
              refine n_iinc (L2 := [some (2, 3), some (2, 1), some (0, (((0 + 1) + 1) + 1)), some (0, ((0 + 1) + 1))]) c_111_25 rfl rfl rfl ?_
              refine n_iinc (L2 := [some (2, 3), some (2, 1), some (0, (((0 + 1) + 1) + 1)), some (0, (((0 + 1) + 1) + 1))]) c_111_28 rfl rfl rfl ?_
              refine n_goto c_111_31 ?_
              refine n_iload_n c_111_9 rfl ?_
              refine n_aload_n c_111_10 rfl ?_
              refine n_alen c_111_11 sc_1.n rfl ?_
              refine n_if2_ge c_111_12 (by omega) (by omega) ?_ ?_
              · intro h312
                exfalso; omega
              · intro h313
                refine n_aload_n c_111_15 rfl ?_
                refine n_aload_n c_111_16 rfl ?_
                refine n_iload_n c_111_17 rfl ?_
                refine n_ialoadV c_111_18 sc_1.n rfl rfl rfl (by omega) (t_1_3 hS) ?_
                intro z314 ez314 f315
                have hcst : (z314 : Int) = 32 := by omega
                rw [hcst]
                refine n_v1I c_111_19 rfl sc_3.n rfl rfl rfl rfl (aakp32_3  hS ) ?_
                intro z316 M317 hP318
                obtain ⟨eM, f318⟩ := hP318
                subst eM
                refine n_if0_eq c_111_22 (by omega) ?_ ?_
                · intro h319
                  refine n_iinc (L2 := [some (2, 3), some (2, 1), some (0, (((0 + 1) + 1) + 1)), some (0, ((((0 + 1) + 1) + 1) + 1))]) c_111_28 rfl rfl rfl ?_
                  refine n_goto c_111_31 ?_
                  refine n_iload_n c_111_9 rfl ?_
                  refine n_aload_n c_111_10 rfl ?_
                  refine n_alen c_111_11 sc_1.n rfl ?_
                  refine n_if2_ge c_111_12 (by omega) (by omega) ?_ ?_
                  · intro h320
                    exfalso; omega
                  · intro h321
                    refine n_aload_n c_111_15 rfl ?_
                    refine n_aload_n c_111_16 rfl ?_
                    refine n_iload_n c_111_17 rfl ?_
                    refine n_ialoadV c_111_18 sc_1.n rfl rfl rfl (by omega) (t_1_4 hS) ?_
                    intro z322 ez322 f323
                    have hcst : (z322 : Int) = 36 := by omega
                    rw [hcst]
                    refine n_v1I c_111_19 rfl sc_3.n rfl rfl rfl rfl (aakp36_3  hS ) ?_
                    intro z324 M325 hP326
                    obtain ⟨eM, f326⟩ := hP326
                    subst eM
                    refine n_if0_eq c_111_22 (by omega) ?_ ?_
                    · intro h327
                      refine n_iinc (L2 := [some (2, 3), some (2, 1), some (0, (((0 + 1) + 1) + 1)), some (0, (((((0 + 1) + 1) + 1) + 1) + 1))]) c_111_28 rfl rfl rfl ?_
                      refine n_goto c_111_31 ?_
                      refine n_iload_n c_111_9 rfl ?_
                      refine n_aload_n c_111_10 rfl ?_
                      refine n_alen c_111_11 sc_1.n rfl ?_
                      refine n_if2_ge c_111_12 (by omega) (by omega) ?_ ?_
                      · intro h328
                        refine n_iload_n c_111_34 rfl ?_
                        exact n_rI c_111_35 rfl ⟨rfl, by omega⟩
                      · intro h329
                        exfalso; omega
                    · intro h330
                      refine n_iinc (L2 := [some (2, 3), some (2, 1), some (0, ((((0 + 1) + 1) + 1) + 1)), some (0, ((((0 + 1) + 1) + 1) + 1))]) c_111_25 rfl rfl rfl ?_
                      refine n_iinc (L2 := [some (2, 3), some (2, 1), some (0, ((((0 + 1) + 1) + 1) + 1)), some (0, (((((0 + 1) + 1) + 1) + 1) + 1))]) c_111_28 rfl rfl rfl ?_
                      refine n_goto c_111_31 ?_
                      refine n_iload_n c_111_9 rfl ?_
                      refine n_aload_n c_111_10 rfl ?_
                      refine n_alen c_111_11 sc_1.n rfl ?_
                      refine n_if2_ge c_111_12 (by omega) (by omega) ?_ ?_
                      · intro h331
                        refine n_iload_n c_111_34 rfl ?_
                        exact n_rI c_111_35 rfl ⟨rfl, by omega⟩
                      · intro h332
                        exfalso; omega
                · intro h333
                  refine n_iinc (L2 := [some (2, 3), some (2, 1), some (0, ((((0 + 1) + 1) + 1) + 1)), some (0, (((0 + 1) + 1) + 1))]) c_111_25 rfl rfl rfl ?_
                  refine n_iinc (L2 := [some (2, 3), some (2, 1), some (0, ((((0 + 1) + 1) + 1) + 1)), some (0, ((((0 + 1) + 1) + 1) + 1))]) c_111_28 rfl rfl rfl ?_
                  refine n_goto c_111_31 ?_
                  refine n_iload_n c_111_9 rfl ?_
                  refine n_aload_n c_111_10 rfl ?_
                  refine n_alen c_111_11 sc_1.n rfl ?_
                  refine n_if2_ge c_111_12 (by omega) (by omega) ?_ ?_
                  · intro h334
                    exfalso; omega
                  · intro h335
                    refine n_aload_n c_111_15 rfl ?_
                    refine n_aload_n c_111_16 rfl ?_
                    refine n_iload_n c_111_17 rfl ?_
                    refine n_ialoadV c_111_18 sc_1.n rfl rfl rfl (by omega) (t_1_4 hS) ?_
                    intro z336 ez336 f337
                    have hcst : (z336 : Int) = 36 := by omega
                    rw [hcst]
                    refine n_v1I c_111_19 rfl sc_3.n rfl rfl rfl rfl (aakp36_3  hS ) ?_
                    intro z338 M339 hP340
                    obtain ⟨eM, f340⟩ := hP340
                    subst eM
                    refine n_if0_eq c_111_22 (by omega) ?_ ?_
                    · intro h341
                      refine n_iinc (L2 := [some (2, 3), some (2, 1), some (0, ((((0 + 1) + 1) + 1) + 1)), some (0, (((((0 + 1) + 1) + 1) + 1) + 1))]) c_111_28 rfl rfl rfl ?_
                      refine n_goto c_111_31 ?_
                      refine n_iload_n c_111_9 rfl ?_
                      refine n_aload_n c_111_10 rfl ?_
                      refine n_alen c_111_11 sc_1.n rfl ?_
                      refine n_if2_ge c_111_12 (by omega) (by omega) ?_ ?_
                      · intro h342
                        refine n_iload_n c_111_34 rfl ?_
                        exact n_rI c_111_35 rfl ⟨rfl, by omega⟩
                      · intro h343
                        exfalso; omega
                    · intro h344
                      refine n_iinc (L2 := [some (2, 3), some (2, 1), some (0, (((((0 + 1) + 1) + 1) + 1) + 1)), some (0, ((((0 + 1) + 1) + 1) + 1))]) c_111_25 rfl rfl rfl ?_
                      refine n_iinc (L2 := [some (2, 3), some (2, 1), some (0, (((((0 + 1) + 1) + 1) + 1) + 1)), some (0, (((((0 + 1) + 1) + 1) + 1) + 1))]) c_111_28 rfl rfl rfl ?_
                      refine n_goto c_111_31 ?_
                      refine n_iload_n c_111_9 rfl ?_
                      refine n_aload_n c_111_10 rfl ?_
                      refine n_alen c_111_11 sc_1.n rfl ?_
                      refine n_if2_ge c_111_12 (by omega) (by omega) ?_ ?_
                      · intro h345
                        refine n_iload_n c_111_34 rfl ?_
                        exact n_rI c_111_35 rfl ⟨rfl, by omega⟩
                      · intro h346
                        exfalso; omega
