/-! What the methods tell. -/
set_option maxHeartbeats 4000000 in
theorem misMakX2_3 {xs : List Int32} {e : Nat} {ac : Int} {M0 M : nM} (hS : Sf 3 ac M0 M) (hdm : M0 112 0 = 3) : nW xs e 161 0 [some (2, 112), some (0, 2)] [] M (nPI fun z M1 => M = M1 ∧ (1 ≤ z ∧ z ≤ 1)) := by
  have hd : (3 : Int) = 2 ∨ (3 : Int) = 3 := by decide
  have hac := hS.2.2.2.2
  refine n_iload_n c_161_0 rfl ?_
  refine n_iconst c_161_1 ?_
  refine n_if2_lt c_161_2 (by omega) (by omega) ?_ ?_
  · intro h1
    exfalso; omega
  · intro h2
    refine n_iload_n c_161_5 rfl ?_
    refine n_aload_n c_161_6 rfl ?_
    refine n_getV (bi := 0) c_161_7 sc_112.n rfl rfl rfl (t_dm hS hdm) ?_
    intro z3 ez3 f4
    obtain rfl : z3 = 3 := by omega
    refine n_iconst c_161_10 ?_
    refine n_if2_ne c_161_11 (by omega) (by omega) ?_ ?_
    · intro h5
      refine n_iconst c_161_18 ?_
      refine n_if2_gt c_161_19 (by omega) (by omega) ?_ ?_
      · intro h6
        exfalso; omega
      · intro h7
        refine n_iconst c_161_22 ?_
        refine n_goto c_161_23 ?_
        exact n_rZ c_161_27 rfl (by omega) ⟨rfl, by omega⟩
    · intro h8
      exfalso; omega

set_option maxHeartbeats 4000000 in
theorem mmadeX_2_3 {xs : List Int32} {e : Nat} {ac : Int} {M : nM} {gd : Int} {Ms : nM} (hS : Sf 3 ac M M) (hdm : M 112 0 = 3) (hgd : M 112 0 = gd) (hms : M = Ms) (hac4 : Ms 112 4 = ac) (hwr : ∀ a : Int, 0 ≤ a → a < ac → WR 3 a Ms) (hkr : Ms 124 2 ≠ -1 → cMd (NCl 3 9 2 ac (Tm Ms)) (Ms 124 2)) : nW xs (e + 3) 168 0 [some (2, 112), some (0, 2)] [] M (nPI fun z M1 => Sf 3 ac M1 M1 ∧ (-2147483648 ≤ z ∧ z ≤ 2147483647) ∧ (M1 112 0 = gd) ∧ ((M1 124 2 ≠ -1 → cMd (NCl 3 9 2 ac (Tm Ms)) (M1 124 2)) ∧ F5 2 Ms M1) ∧ (cMd (NCl 3 9 2 ac (Tm Ms)) z)) := by
  have hd : (3 : Int) = 2 ∨ (3 : Int) = 3 := by decide
  have hac := hS.2.2.2.2
  refine n_aload_n c_168_0 rfl ?_
  refine n_iload_n c_168_1 rfl ?_
  refine n_v1I c_168_2 rfl sc_112.n rfl rfl rfl rfl (misMakX2_3  hS (by omega)) ?_
  intro z1 M2 hP3
  obtain ⟨eM, f3⟩ := hP3
  subst eM
  obtain rfl : z1 = 1 := by omega
  refine n_if0_ne c_168_5 (by omega) ?_ ?_
  · intro h4
    refine n_aload_n c_168_10 rfl ?_
    refine n_iload_n c_168_11 rfl ?_
    refine n_v1V c_168_12 rfl sc_112.n rfl rfl rfl rfl (mmakesX_2_3 (Ms := M) hS (by omega) (by rfl) (by rw [hms]; exact hac4) (by rw [hms]; exact hwr) (by rw [hms]; exact hkr)) ?_
    intro  M5 hP6
    obtain ⟨hS5, f6p0, f6p1⟩ := hP6
    have g112 := f6p1 112 0 (by omega) (by omega) (by omega) (by omega) (by omega)
    refine n_aload_n c_168_15 rfl ?_
    refine n_getR c_168_16 sc_112.n rfl rfl rfl r_112_16 ?_
    refine n_iload_n c_168_19 rfl ?_
    refine n_ialoadV c_168_20 sc_124.n rfl rfl rfl (by omega) (t_124 hS5 (by omega)) ?_
    intro z7 ez7 f8
    exact n_rI c_168_21 rfl ⟨hS5, by omega, by omega, by have y := f6p0; have u := f6p1; rw [hms] at y u; exact ⟨fun _ => y, u⟩, by have y := f6p0; rw [hms] at y; rw [ez7]; exact y⟩
  · intro h9
    exfalso; omega

set_option maxHeartbeats 4000000 in
theorem mmadeOfX_2_3 {xs : List Int32} {e : Nat} {ac : Int} {M : nM} {i w gd : Int} {Ms : nM} (hS : Sf 3 ac M M) (hdm : M 112 0 = 3) (hi : -2147483648 ≤ i ∧ i ≤ 2147483647) (hw : -2147483648 ≤ w ∧ w ≤ 2147483647) (hgd : M 112 0 = gd) (hms : M = Ms) (hac4 : Ms 112 4 = ac) (hwr : ∀ a : Int, 0 ≤ a → a < ac → WR 3 a Ms) (hkr : Ms 124 2 ≠ -1 → cMd (NCl 3 9 2 ac (Tm Ms)) (Ms 124 2)) : nW xs (e + 3) 169 0 [some (2, 112), some (0, 2), some (0, i), some (0, w)] [] M (nPI fun z M1 => Sf 3 ac M1 M1 ∧ (-2147483648 ≤ z ∧ z ≤ 2147483647) ∧ (M1 112 0 = gd) ∧ ((M1 124 2 ≠ -1 → cMd (NCl 3 9 2 ac (Tm Ms)) (M1 124 2)) ∧ F5 2 Ms M1)) := by
  have hd : (3 : Int) = 2 ∨ (3 : Int) = 3 := by decide
  have hac := hS.2.2.2.2
  refine n_aload_n c_169_0 rfl ?_
  refine n_iload_n c_169_1 rfl ?_
  refine n_v1I c_169_2 rfl sc_112.n rfl rfl rfl rfl (misMakX2_3  hS (by omega)) ?_
  intro z1 M2 hP3
  obtain ⟨eM, f3⟩ := hP3
  subst eM
  obtain rfl : z1 = 1 := by omega
  refine n_if0_ne c_169_5 (by omega) ?_ ?_
  · intro h4
    refine n_aload_n c_169_10 rfl ?_
    refine n_iload_n c_169_11 rfl ?_
    refine n_v1V c_169_12 rfl sc_112.n rfl rfl rfl rfl (mmakesX_2_3 (Ms := M) hS (by omega) (by rfl) (by rw [hms]; exact hac4) (by rw [hms]; exact hwr) (by rw [hms]; exact hkr)) ?_
    intro  M5 hP6
    obtain ⟨hS5, f6p0, f6p1⟩ := hP6
    have g112 := f6p1 112 0 (by omega) (by omega) (by omega) (by omega) (by omega)
    refine n_iload_n c_169_15 rfl ?_
    refine n_if0_lt c_169_16 (by omega) ?_ ?_
    · intro h7
      refine n_iconst c_169_29 ?_
      exact n_rI c_169_30 rfl ⟨hS5, by omega, by omega, by have y := f6p0; have u := f6p1; rw [hms] at y u; exact ⟨fun _ => y, u⟩⟩
    · intro h8
      refine n_iload_n c_169_19 rfl ?_
      refine n_aload_n c_169_20 rfl ?_
      refine n_getR c_169_21 sc_112.n rfl rfl rfl r_112_16 ?_
      refine n_iload_n c_169_24 rfl ?_
      refine n_ialoadV c_169_25 sc_124.n rfl rfl rfl (by omega) (t_124 hS5 (by omega)) ?_
      intro z9 ez9 f10
      refine n_if2_lt c_169_26 (by omega) (by omega) ?_ ?_
      · intro h11
        refine n_iload_n c_169_31 rfl ?_
        refine n_if0_ne c_169_32 (by omega) ?_ ?_
        · intro h12
          refine n_iload_n c_169_50 rfl ?_
          refine n_iconst c_169_51 ?_
          refine n_if2_ne c_169_52 (by omega) (by omega) ?_ ?_
          · intro h13
            refine n_iconst c_169_64 ?_
            exact n_rI c_169_65 rfl ⟨hS5, by omega, by omega, by have y := f6p0; have u := f6p1; rw [hms] at y u; exact ⟨fun _ => y, u⟩⟩
          · intro h14
            refine n_aload_n c_169_55 rfl ?_
            refine n_iload_n c_169_56 rfl ?_
            refine n_iload_n c_169_57 rfl ?_
            refine n_v2I c_169_58 rfl sc_112.n rfl rfl rfl rfl (msizeOf_3 (n := 2) (i := i) hS5 (by omega) (by omega) (by omega)) ?_
            intro z15 M16 hP17
            obtain ⟨eM, f17⟩ := hP17
            subst eM
            refine n_goto c_169_61 ?_
            exact n_rI c_169_65 rfl ⟨hS5, by omega, by omega, by have y := f6p0; have u := f6p1; rw [hms] at y u; exact ⟨fun _ => y, u⟩⟩
        · intro h18
          refine n_aload_n c_169_35 rfl ?_
          refine n_getR c_169_36 sc_112.n rfl rfl rfl r_112_14 ?_
          refine n_sipush c_169_39 rfl ?_
          refine n_iload_n c_169_42 rfl ?_
          refine n_imul c_169_43 rfl ?_
          refine n_iload_n c_169_44 rfl ?_
          refine n_iadd c_169_45 rfl ?_
          refine n_ialoadV c_169_46 sc_122.n rfl rfl rfl (by omega) (t_122 hS5 (by omega)) ?_
          intro z19 ez19 f20
          refine n_goto c_169_47 ?_
          exact n_rI c_169_65 rfl ⟨hS5, by omega, by omega, by have y := f6p0; have u := f6p1; rw [hms] at y u; exact ⟨fun _ => y, u⟩⟩
      · intro h21
        refine n_iconst c_169_29 ?_
        exact n_rI c_169_30 rfl ⟨hS5, by omega, by omega, by have y := f6p0; have u := f6p1; rw [hms] at y u; exact ⟨fun _ => y, u⟩⟩
  · intro h22
    exfalso; omega

set_option maxHeartbeats 4000000 in
theorem msizeX_2_3_c {xs : List Int32} {e : Nat} {ac : Int} {M : nM} {c gd : Int} {Ms : nM} (hS : Sf 3 ac M M) (hdm : M 112 0 = 3) (hc : -2147483648 ≤ c ∧ c ≤ 2147483647) (hgd : M 112 0 = gd) (hms : M = Ms) (hac4 : Ms 112 4 = ac) (hwr : ∀ a : Int, 0 ≤ a → a < ac → WR 3 a Ms) (hkr : Ms 124 2 ≠ -1 → cMd (NCl 3 9 2 ac (Tm Ms)) (Ms 124 2)) : ∀ nn : Nat, (∀ (x3 : Int) (M : nM), Sf 3 ac M M → (0 ≤ c ∧ c ≤ 19682) → (0 ≤ x3 ∧ x3 ≤ 256) → (M 112 0 = 3) → (M 112 0 = gd) → ((M 124 2 ≠ -1 → cMd (NCl 3 9 2 ac (Tm Ms)) (M 124 2)) ∧ F5 2 Ms M) → (256 - x3) * 1 + 1 < (nn : Int) → nW xs (e + 3) 170 51 [some (2, 112), some (0, 2), some (0, c), some (0, x3)] [] M (nPI fun z M1 => Sf 3 ac M1 M1 ∧ (-2147483648 ≤ z ∧ z ≤ 2147483647) ∧ (M1 112 0 = gd) ∧ ((M1 124 2 ≠ -1 → cMd (NCl 3 9 2 ac (Tm Ms)) (M1 124 2)) ∧ F5 2 Ms M1))) := by
  have hd : (3 : Int) = 2 ∨ (3 : Int) = 3 := by decide
  have hac := hS.2.2.2.2
  intro nn
  induction nn with
  | zero => intros; omega
  | succ nn ih =>
    intro x3 M hS k2 k3 hdm hggd v0 hnn
    refine n_iload_n c_170_51 rfl ?_
    refine n_aload_n c_170_52 rfl ?_
    refine n_getR c_170_53 sc_112.n rfl rfl rfl r_112_16 ?_
    refine n_iload_n c_170_56 rfl ?_
    refine n_ialoadV c_170_57 sc_124.n rfl rfl rfl (by omega) (t_124 hS (by omega)) ?_
    intro z1 ez1 f2
    refine n_if2_ge c_170_58 (by omega) (by omega) ?_ ?_
    · intro h3
      refine n_bipush c_170_90 rfl ?_
      exact n_rI c_170_92 rfl ⟨hS, by omega, by omega, by exact v0⟩
    · intro h4
      refine n_aload_n c_170_61 rfl ?_
      refine n_getR c_170_62 sc_112.n rfl rfl rfl r_112_14 ?_
      refine n_sipush c_170_65 rfl ?_
      refine n_iload_n c_170_68 rfl ?_
      refine n_imul c_170_69 rfl ?_
      refine n_iload_n c_170_70 rfl ?_
      refine n_iadd c_170_71 rfl ?_
      refine n_ialoadV c_170_72 sc_122.n rfl rfl rfl (by omega) (t_122 hS (by omega)) ?_
      intro z5 ez5 f6
      refine n_iload_n c_170_73 rfl ?_
      refine n_if2_ne c_170_74 (by omega) (by omega) ?_ ?_
      · intro h7
        refine n_iinc (L2 := [some (2, 112), some (0, 2), some (0, c), some (0, (x3 + 1))]) c_170_84 rfl rfl rfl ?_
        refine n_goto c_170_87 ?_
        refine n_fg (le_s (le_s (le_s (le_s le_0)))) ?_
        exact ih _ M hS (by omega) (by omega) (by omega) (by omega) (by exact v0) (by omega)
      · intro h8
        refine n_aload_n c_170_77 rfl ?_
        refine n_iload_n c_170_78 rfl ?_
        refine n_iload_n c_170_79 rfl ?_
        refine n_v2I c_170_80 rfl sc_112.n rfl rfl rfl rfl (msizeOf_3 (n := 2) (i := x3) hS (by omega) (by omega) (by omega)) ?_
        intro z9 M10 hP11
        obtain ⟨eM, f11⟩ := hP11
        subst eM
        exact n_rI c_170_83 rfl ⟨hS, by omega, by omega, by exact v0⟩
set_option maxHeartbeats 4000000 in
theorem msizeX_2_3 {xs : List Int32} {e : Nat} {ac : Int} {M : nM} {c gd : Int} {Ms : nM} (hS : Sf 3 ac M M) (hdm : M 112 0 = 3) (hc : -2147483648 ≤ c ∧ c ≤ 2147483647) (hgd : M 112 0 = gd) (hms : M = Ms) (hac4 : Ms 112 4 = ac) (hwr : ∀ a : Int, 0 ≤ a → a < ac → WR 3 a Ms) (hkr : Ms 124 2 ≠ -1 → cMd (NCl 3 9 2 ac (Tm Ms)) (Ms 124 2)) : nW xs (e + 3) 170 0 [some (2, 112), some (0, 2), some (0, c), none] [] M (nPI fun z M1 => Sf 3 ac M1 M1 ∧ (-2147483648 ≤ z ∧ z ≤ 2147483647) ∧ (M1 112 0 = gd) ∧ ((M1 124 2 ≠ -1 → cMd (NCl 3 9 2 ac (Tm Ms)) (M1 124 2)) ∧ F5 2 Ms M1)) := by
  have hd : (3 : Int) = 2 ∨ (3 : Int) = 3 := by decide
  have hac := hS.2.2.2.2
  refine n_aload_n c_170_0 rfl ?_
  refine n_iload_n c_170_1 rfl ?_
  refine n_v1I c_170_2 rfl sc_112.n rfl rfl rfl rfl (misMakX2_3  hS (by omega)) ?_
  intro z1 M2 hP3
  obtain ⟨eM, f3⟩ := hP3
  subst eM
  obtain rfl : z1 = 1 := by omega
  refine n_if0_eq c_170_5 (by omega) ?_ ?_
  · intro h4
    exfalso; omega
  · intro h5
    refine n_iload_n c_170_8 rfl ?_
    refine n_if0_lt c_170_9 (by omega) ?_ ?_
    · intro h6
      refine n_iconst c_170_28 ?_
      exact n_rI c_170_29 rfl ⟨hS, by omega, by omega, by rw [hms]; exact ⟨hkr, fun _ _ _ _ _ _ _ => rfl⟩⟩
    · intro h7
      refine n_iload_n c_170_12 rfl ?_
      refine n_aload_n c_170_13 rfl ?_
      refine n_getV (bi := 0) c_170_14 sc_112.n rfl rfl rfl (show 3 ≤ M 112 0 ∧ M 112 0 ≤ 3 by omega) ?_
      intro z8 ez8 f9
      obtain rfl : z8 = 3 := by omega
      refine n_aload_n c_170_17 rfl ?_
      refine n_iload_n c_170_18 rfl ?_
      refine n_v1I c_170_19 rfl sc_112.n rfl rfl rfl rfl (mrowsOf2_3  hS (by omega)) ?_
      intro z10 M11 hP12
      obtain ⟨eM, f12⟩ := hP12
      subst eM
      obtain rfl : z10 = 9 := by omega
      refine n_s2I c_170_22 rfl rfl rfl rfl (mpower9_3  hS ) ?_
      intro z13 M14 hP15
      obtain ⟨eM, f15⟩ := hP15
      subst eM
      obtain rfl : z13 = 19683 := by omega
      refine n_if2_lt c_170_25 (by omega) (by omega) ?_ ?_
      · intro h16
        refine n_aload_n c_170_30 rfl ?_
        refine n_iload_n c_170_31 rfl ?_
        refine n_v1V c_170_32 rfl sc_112.n rfl rfl rfl rfl (mmakesX_2_3 (Ms := M) hS (by omega) (by rfl) (by rw [hms]; exact hac4) (by rw [hms]; exact hwr) (by rw [hms]; exact hkr)) ?_
        intro  M17 hP18
        obtain ⟨hS17, f18p0, f18p1⟩ := hP18
        have g112 := f18p1 112 0 (by omega) (by omega) (by omega) (by omega) (by omega)
        refine n_aload_n c_170_35 rfl ?_
        refine n_getR c_170_36 sc_112.n rfl rfl rfl r_112_16 ?_
        refine n_iload_n c_170_39 rfl ?_
        refine n_ialoadV c_170_40 sc_124.n rfl rfl rfl (by omega) (t_124 hS17 (by omega)) ?_
        intro z19 ez19 f20
        refine n_bipush c_170_41 rfl ?_
        refine n_if2_ne c_170_43 (by omega) (by omega) ?_ ?_
        · intro h21
          refine n_iconst c_170_49 ?_
          refine n_istore_n (L2 := [some (2, 112), some (0, 2), some (0, c), some (0, 0)]) c_170_50 rfl rfl ?_
          refine n_fg (le_s (le_s (le_s (le_s le_0)))) ?_
          exact (msizeX_2_3_c hS hdm hc hgd hms hac4 hwr hkr 526) _ M17 hS17 (by omega) (by omega) (by omega) (by omega) (by have y := f18p0; have u := f18p1; rw [hms] at y u; exact ⟨fun _ => y, u⟩) (by omega)
        · intro h22
          refine n_bipush c_170_46 rfl ?_
          exact n_rI c_170_48 rfl ⟨hS17, by omega, by omega, by have y := f18p0; have u := f18p1; rw [hms] at y u; exact ⟨fun _ => y, u⟩⟩
      · intro h23
        refine n_iconst c_170_28 ?_
        exact n_rI c_170_29 rfl ⟨hS, by omega, by omega, by rw [hms]; exact ⟨hkr, fun _ _ _ _ _ _ _ => rfl⟩⟩
