/-! What the methods tell. -/
set_option maxHeartbeats 4000000 in
theorem misMakX2_2 {xs : List Int32} {e : Nat} {ac : Int} {M0 M : nM} (hS : Sf 2 ac M0 M) (hdm : M0 112 0 = 2) : nW xs e 161 0 [some (2, 112), some (0, 2)] [] M (nPI fun z M1 => M = M1 ∧ (1 ≤ z ∧ z ≤ 1)) := by
  have hd : (2 : Int) = 2 ∨ (2 : Int) = 3 := by decide
  have hac := hS.2.2.2.2
  refine n_iload_n c_161_0 rfl ?_
  refine n_iconst c_161_1 ?_
  refine n_if2_lt c_161_2 (by omega) (by omega) ?_ ?_
  · intro h1
    exfalso; omega
  · intro h2
    refine n_iload_n c_161_5 rfl ?_
    refine n_aload_n c_161_6 rfl ?_
    refine n_getV (bi := 0) c_161_7 sc_112.n rfl rfl rfl (t_dm hS hdm) ?_
    intro z3 ez3 f4
    obtain rfl : z3 = 2 := by omega
    refine n_iconst c_161_10 ?_
    refine n_if2_ne c_161_11 (by omega) (by omega) ?_ ?_
    · intro h5
      exfalso; omega
    · intro h6
      refine n_iconst c_161_14 ?_
      refine n_goto c_161_15 ?_
      refine n_if2_gt c_161_19 (by omega) (by omega) ?_ ?_
      · intro h7
        exfalso; omega
      · intro h8
        refine n_iconst c_161_22 ?_
        refine n_goto c_161_23 ?_
        exact n_rZ c_161_27 rfl (by omega) ⟨rfl, by omega⟩

set_option maxHeartbeats 4000000 in
theorem mmadeX_2_2 {xs : List Int32} {e : Nat} {ac : Int} {M : nM} {gd : Int} {Ms : nM} (hS : Sf 2 ac M M) (hdm : M 112 0 = 2) (hgd : M 112 0 = gd) (hms : M = Ms) (hac4 : Ms 112 4 = ac) (hwr : ∀ a : Int, 0 ≤ a → a < ac → WR 2 a Ms) (hkr : Ms 124 2 ≠ -1 → cMd (NCl 2 4 2 ac (Tm Ms)) (Ms 124 2)) (hpm : ∀ a : Int, 0 ≤ a → a < ac → Pm Ms a = Ms 116 a) (hkl : Ms 124 2 ≠ -1 → Ms 124 2 ≠ -8 → LOr 2 4 2 ac Ms (Ms 124 2) Ms) : nW xs (e + 3) 168 0 [some (2, 112), some (0, 2)] [] M (nPI fun z M1 => Sf 2 ac M1 M1 ∧ (-2147483648 ≤ z ∧ z ≤ 2147483647) ∧ (M1 112 0 = gd) ∧ ((M1 124 2 ≠ -1 → cMd (NCl 2 4 2 ac (Tm Ms)) (M1 124 2)) ∧ F5 2 Ms M1) ∧ (M1 124 2 ≠ -1 → M1 124 2 ≠ -8 → LOr 2 4 2 ac Ms (M1 124 2) M1) ∧ (F6 2 Ms M1) ∧ (cMd (NCl 2 4 2 ac (Tm Ms)) z)) := by
  have hd : (2 : Int) = 2 ∨ (2 : Int) = 3 := by decide
  have hac := hS.2.2.2.2
  refine n_aload_n c_168_0 rfl ?_
  refine n_iload_n c_168_1 rfl ?_
  refine n_v1I c_168_2 rfl sc_112.n rfl rfl rfl rfl (misMakX2_2  hS (by omega)) ?_
  intro z1 M2 hP3
  obtain ⟨eM, f3⟩ := hP3
  subst eM
  obtain rfl : z1 = 1 := by omega
  refine n_if0_ne c_168_5 (by omega) ?_ ?_
  · intro h4
    refine n_aload_n c_168_10 rfl ?_
    refine n_iload_n c_168_11 rfl ?_
    refine n_v1V c_168_12 rfl sc_112.n rfl rfl rfl rfl (mmakesX_2_2 (Ms := M) hS (by omega) (by rfl) (by rw [hms]; exact hac4) (by rw [hms]; exact hwr) (by rw [hms]; exact hkr) (by rw [hms]; exact hpm) (by rw [hms]; exact hkl)) ?_
    intro  M5 hP6
    obtain ⟨hS5, f6p0, f6p1, f6p2, f6p3⟩ := hP6
    have g112 := f6p1 112 0 (by omega) (by omega) (by omega) (by omega) (by omega)
    refine n_aload_n c_168_15 rfl ?_
    refine n_getR c_168_16 sc_112.n rfl rfl rfl r_112_16 ?_
    refine n_iload_n c_168_19 rfl ?_
    refine n_ialoadV c_168_20 sc_124.n rfl rfl rfl (by omega) (t_124 hS5 (by omega)) ?_
    intro z7 ez7 f8
    exact n_rI c_168_21 rfl ⟨hS5, by omega, by omega, by have y := f6p0; have u := f6p1; rw [hms] at y u; exact ⟨fun _ => y, u⟩, by have u := f6p2; rw [hms] at u; exact fun _ => u, by have u := f6p3; rw [hms] at u; exact u, by have y := f6p0; rw [hms] at y; rw [ez7]; exact y⟩
  · intro h9
    exfalso; omega

set_option maxHeartbeats 4000000 in
theorem mmadeOfX_2_2 {xs : List Int32} {e : Nat} {ac : Int} {M : nM} {i w gd : Int} {Ms : nM} (hS : Sf 2 ac M M) (hdm : M 112 0 = 2) (hi : -2147483648 ≤ i ∧ i ≤ 2147483647) (hw : -2147483648 ≤ w ∧ w ≤ 2147483647) (hgd : M 112 0 = gd) (hms : M = Ms) (hac4 : Ms 112 4 = ac) (hwr : ∀ a : Int, 0 ≤ a → a < ac → WR 2 a Ms) (hkr : Ms 124 2 ≠ -1 → cMd (NCl 2 4 2 ac (Tm Ms)) (Ms 124 2)) (hpm : ∀ a : Int, 0 ≤ a → a < ac → Pm Ms a = Ms 116 a) (hkl : Ms 124 2 ≠ -1 → Ms 124 2 ≠ -8 → LOr 2 4 2 ac Ms (Ms 124 2) Ms) : nW xs (e + 3) 169 0 [some (2, 112), some (0, 2), some (0, i), some (0, w)] [] M (nPI fun z M1 => Sf 2 ac M1 M1 ∧ (-2147483648 ≤ z ∧ z ≤ 2147483647) ∧ (M1 112 0 = gd) ∧ ((M1 124 2 ≠ -1 → cMd (NCl 2 4 2 ac (Tm Ms)) (M1 124 2)) ∧ F5 2 Ms M1) ∧ (M1 124 2 ≠ -1 → M1 124 2 ≠ -8 → LOr 2 4 2 ac Ms (M1 124 2) M1) ∧ (F6 2 Ms M1) ∧ (mMO 2 i w z M1) ∧ (cMd (NCl 2 4 2 ac (Tm Ms)) (M1 124 2))) := by
  have hd : (2 : Int) = 2 ∨ (2 : Int) = 3 := by decide
  have hac := hS.2.2.2.2
  refine n_aload_n c_169_0 rfl ?_
  refine n_iload_n c_169_1 rfl ?_
  refine n_v1I c_169_2 rfl sc_112.n rfl rfl rfl rfl (misMakX2_2  hS (by omega)) ?_
  intro z1 M2 hP3
  obtain ⟨eM, f3⟩ := hP3
  subst eM
  obtain rfl : z1 = 1 := by omega
  refine n_if0_ne c_169_5 (by omega) ?_ ?_
  · intro h4
    refine n_aload_n c_169_10 rfl ?_
    refine n_iload_n c_169_11 rfl ?_
    refine n_v1V c_169_12 rfl sc_112.n rfl rfl rfl rfl (mmakesX_2_2 (Ms := M) hS (by omega) (by rfl) (by rw [hms]; exact hac4) (by rw [hms]; exact hwr) (by rw [hms]; exact hkr) (by rw [hms]; exact hpm) (by rw [hms]; exact hkl)) ?_
    intro  M5 hP6
    obtain ⟨hS5, f6p0, f6p1, f6p2, f6p3⟩ := hP6
    have g112 := f6p1 112 0 (by omega) (by omega) (by omega) (by omega) (by omega)
    refine n_iload_n c_169_15 rfl ?_
    refine n_if0_lt c_169_16 (by omega) ?_ ?_
    · intro h7
      refine n_iconst c_169_29 ?_
      exact n_rI c_169_30 rfl ⟨hS5, by omega, by omega, by have y := f6p0; have u := f6p1; rw [hms] at y u; exact ⟨fun _ => y, u⟩, by have u := f6p2; rw [hms] at u; exact fun _ => u, by have u := f6p3; rw [hms] at u; exact u, by unfold mMO; omega, by have y := f6p0; rw [hms] at y; exact y⟩
    · intro h8
      refine n_iload_n c_169_19 rfl ?_
      refine n_aload_n c_169_20 rfl ?_
      refine n_getR c_169_21 sc_112.n rfl rfl rfl r_112_16 ?_
      refine n_iload_n c_169_24 rfl ?_
      refine n_ialoadV c_169_25 sc_124.n rfl rfl rfl (by omega) (t_124 hS5 (by omega)) ?_
      intro z9 ez9 f10
      refine n_if2_lt c_169_26 (by omega) (by omega) ?_ ?_
      · intro h11
        refine n_iload_n c_169_31 rfl ?_
        refine n_if0_ne c_169_32 (by omega) ?_ ?_
        · intro h12
          refine n_iload_n c_169_50 rfl ?_
          refine n_iconst c_169_51 ?_
          refine n_if2_ne c_169_52 (by omega) (by omega) ?_ ?_
          · intro h13
            refine n_iconst c_169_64 ?_
            exact n_rI c_169_65 rfl ⟨hS5, by omega, by omega, by have y := f6p0; have u := f6p1; rw [hms] at y u; exact ⟨fun _ => y, u⟩, by have u := f6p2; rw [hms] at u; exact fun _ => u, by have u := f6p3; rw [hms] at u; exact u, by unfold mMO; omega, by have y := f6p0; rw [hms] at y; exact y⟩
          · intro h14
            refine n_aload_n c_169_55 rfl ?_
            refine n_iload_n c_169_56 rfl ?_
            refine n_iload_n c_169_57 rfl ?_
            refine n_v2I c_169_58 rfl sc_112.n rfl rfl rfl rfl (msizeOfX_2_2 (i := i) hS5 (by omega) (by omega)) ?_
            intro z15 M16 hP17
            obtain ⟨eM, f17, f17p0⟩ := hP17
            subst eM
            refine n_goto c_169_61 ?_
            exact n_rI c_169_65 rfl ⟨hS5, by omega, by omega, by have y := f6p0; have u := f6p1; rw [hms] at y u; exact ⟨fun _ => y, u⟩, by have u := f6p2; rw [hms] at u; exact fun _ => u, by have u := f6p3; rw [hms] at u; exact u, by unfold mMO; omega, by have y := f6p0; rw [hms] at y; exact y⟩
        · intro h18
          refine n_aload_n c_169_35 rfl ?_
          refine n_getR c_169_36 sc_112.n rfl rfl rfl r_112_14 ?_
          refine n_sipush c_169_39 rfl ?_
          refine n_iload_n c_169_42 rfl ?_
          refine n_imul c_169_43 rfl ?_
          refine n_iload_n c_169_44 rfl ?_
          refine n_iadd c_169_45 rfl ?_
          refine n_ialoadV c_169_46 sc_122.n rfl rfl rfl (by omega) (t_122 hS5 (by omega)) ?_
          intro z19 ez19 f20
          refine n_goto c_169_47 ?_
          exact n_rI c_169_65 rfl ⟨hS5, by omega, by omega, by have y := f6p0; have u := f6p1; rw [hms] at y u; exact ⟨fun _ => y, u⟩, by have u := f6p2; rw [hms] at u; exact fun _ => u, by have u := f6p3; rw [hms] at u; exact u, by unfold mMO; omega, by have y := f6p0; rw [hms] at y; exact y⟩
      · intro h21
        refine n_iconst c_169_29 ?_
        exact n_rI c_169_30 rfl ⟨hS5, by omega, by omega, by have y := f6p0; have u := f6p1; rw [hms] at y u; exact ⟨fun _ => y, u⟩, by have u := f6p2; rw [hms] at u; exact fun _ => u, by have u := f6p3; rw [hms] at u; exact u, by unfold mMO; omega, by have y := f6p0; rw [hms] at y; exact y⟩
  · intro h22
    exfalso; omega

set_option maxHeartbeats 4000000 in
theorem msizeX_2_2_c {xs : List Int32} {e : Nat} {ac : Int} {M : nM} {c gd : Int} {Ms : nM} (hS : Sf 2 ac M M) (hdm : M 112 0 = 2) (hc : -2147483648 ≤ c ∧ c ≤ 2147483647) (hgd : M 112 0 = gd) (hms : M = Ms) (hac4 : Ms 112 4 = ac) (hwr : ∀ a : Int, 0 ≤ a → a < ac → WR 2 a Ms) (hkr : Ms 124 2 ≠ -1 → cMd (NCl 2 4 2 ac (Tm Ms)) (Ms 124 2)) (hpm : ∀ a : Int, 0 ≤ a → a < ac → Pm Ms a = Ms 116 a) (hkl : Ms 124 2 ≠ -1 → Ms 124 2 ≠ -8 → LOr 2 4 2 ac Ms (Ms 124 2) Ms) : ∀ nn : Nat, (∀ (x3 : Int) (M : nM), Sf 2 ac M M → (0 ≤ c ∧ c ≤ 15) → (0 ≤ x3 ∧ x3 ≤ 256) → (M 112 0 = 2) → (M 112 0 = gd) → ((M 124 2 ≠ -1 → cMd (NCl 2 4 2 ac (Tm Ms)) (M 124 2)) ∧ F5 2 Ms M) → (M 124 2 ≠ -1 → M 124 2 ≠ -8 → LOr 2 4 2 ac Ms (M 124 2) M) → (F6 2 Ms M) → (256 - x3) * 1 + 1 < (nn : Int) → nW xs (e + 3) 170 51 [some (2, 112), some (0, 2), some (0, c), some (0, x3)] [] M (nPI fun z M1 => Sf 2 ac M1 M1 ∧ (-2147483648 ≤ z ∧ z ≤ 2147483647) ∧ (M1 112 0 = gd) ∧ ((M1 124 2 ≠ -1 → cMd (NCl 2 4 2 ac (Tm Ms)) (M1 124 2)) ∧ F5 2 Ms M1) ∧ (M1 124 2 ≠ -1 → M1 124 2 ≠ -8 → LOr 2 4 2 ac Ms (M1 124 2) M1) ∧ (F6 2 Ms M1))) := by
  have hd : (2 : Int) = 2 ∨ (2 : Int) = 3 := by decide
  have hac := hS.2.2.2.2
  intro nn
  induction nn with
  | zero => intros; omega
  | succ nn ih =>
    intro x3 M hS k2 k3 hdm hggd v0 v1 v2 hnn
    refine n_iload_n c_170_51 rfl ?_
    refine n_aload_n c_170_52 rfl ?_
    refine n_getR c_170_53 sc_112.n rfl rfl rfl r_112_16 ?_
    refine n_iload_n c_170_56 rfl ?_
    refine n_ialoadV c_170_57 sc_124.n rfl rfl rfl (by omega) (t_124 hS (by omega)) ?_
    intro z1 ez1 f2
    refine n_if2_ge c_170_58 (by omega) (by omega) ?_ ?_
    · intro h3
      refine n_bipush c_170_90 rfl ?_
      exact n_rI c_170_92 rfl ⟨hS, by omega, by omega, by exact v0, by exact v1, by exact v2⟩
    · intro h4
      refine n_aload_n c_170_61 rfl ?_
      refine n_getR c_170_62 sc_112.n rfl rfl rfl r_112_14 ?_
      refine n_sipush c_170_65 rfl ?_
      refine n_iload_n c_170_68 rfl ?_
      refine n_imul c_170_69 rfl ?_
      refine n_iload_n c_170_70 rfl ?_
      refine n_iadd c_170_71 rfl ?_
      refine n_ialoadV c_170_72 sc_122.n rfl rfl rfl (by omega) (t_122 hS (by omega)) ?_
      intro z5 ez5 f6
      refine n_iload_n c_170_73 rfl ?_
      refine n_if2_ne c_170_74 (by omega) (by omega) ?_ ?_
      · intro h7
        refine n_iinc (L2 := [some (2, 112), some (0, 2), some (0, c), some (0, (x3 + 1))]) c_170_84 rfl rfl rfl ?_
        refine n_goto c_170_87 ?_
        refine n_fg (le_s (le_s (le_s (le_s le_0)))) ?_
        exact ih _ M hS (by omega) (by omega) (by omega) (by omega) (by exact v0) (by exact v1) (by exact v2) (by omega)
      · intro h8
        refine n_aload_n c_170_77 rfl ?_
        refine n_iload_n c_170_78 rfl ?_
        refine n_iload_n c_170_79 rfl ?_
        refine n_v2I c_170_80 rfl sc_112.n rfl rfl rfl rfl (msizeOf_2 (n := 2) (i := x3) hS (by omega) (by omega) (by omega)) ?_
        intro z9 M10 hP11
        obtain ⟨eM, f11⟩ := hP11
        subst eM
        exact n_rI c_170_83 rfl ⟨hS, by omega, by omega, by exact v0, by exact v1, by exact v2⟩
set_option maxHeartbeats 4000000 in
theorem msizeX_2_2 {xs : List Int32} {e : Nat} {ac : Int} {M : nM} {c gd : Int} {Ms : nM} (hS : Sf 2 ac M M) (hdm : M 112 0 = 2) (hc : -2147483648 ≤ c ∧ c ≤ 2147483647) (hgd : M 112 0 = gd) (hms : M = Ms) (hac4 : Ms 112 4 = ac) (hwr : ∀ a : Int, 0 ≤ a → a < ac → WR 2 a Ms) (hkr : Ms 124 2 ≠ -1 → cMd (NCl 2 4 2 ac (Tm Ms)) (Ms 124 2)) (hpm : ∀ a : Int, 0 ≤ a → a < ac → Pm Ms a = Ms 116 a) (hkl : Ms 124 2 ≠ -1 → Ms 124 2 ≠ -8 → LOr 2 4 2 ac Ms (Ms 124 2) Ms) : nW xs (e + 3) 170 0 [some (2, 112), some (0, 2), some (0, c), none] [] M (nPI fun z M1 => Sf 2 ac M1 M1 ∧ (-2147483648 ≤ z ∧ z ≤ 2147483647) ∧ (M1 112 0 = gd) ∧ ((M1 124 2 ≠ -1 → cMd (NCl 2 4 2 ac (Tm Ms)) (M1 124 2)) ∧ F5 2 Ms M1) ∧ (M1 124 2 ≠ -1 → M1 124 2 ≠ -8 → LOr 2 4 2 ac Ms (M1 124 2) M1) ∧ (F6 2 Ms M1)) := by
  have hd : (2 : Int) = 2 ∨ (2 : Int) = 3 := by decide
  have hac := hS.2.2.2.2
  refine n_aload_n c_170_0 rfl ?_
  refine n_iload_n c_170_1 rfl ?_
  refine n_v1I c_170_2 rfl sc_112.n rfl rfl rfl rfl (misMakX2_2  hS (by omega)) ?_
  intro z1 M2 hP3
  obtain ⟨eM, f3⟩ := hP3
  subst eM
  obtain rfl : z1 = 1 := by omega
  refine n_if0_eq c_170_5 (by omega) ?_ ?_
  · intro h4
    exfalso; omega
  · intro h5
    refine n_iload_n c_170_8 rfl ?_
    refine n_if0_lt c_170_9 (by omega) ?_ ?_
    · intro h6
      refine n_iconst c_170_28 ?_
      exact n_rI c_170_29 rfl ⟨hS, by omega, by omega, by rw [hms]; exact ⟨hkr, fun _ _ _ _ _ _ _ => rfl⟩, by rw [hms]; exact hkl, by rw [hms]; exact fun _ _ _ _ => rfl⟩
    · intro h7
      refine n_iload_n c_170_12 rfl ?_
      refine n_aload_n c_170_13 rfl ?_
      refine n_getV (bi := 0) c_170_14 sc_112.n rfl rfl rfl (show 2 ≤ M 112 0 ∧ M 112 0 ≤ 2 by omega) ?_
      intro z8 ez8 f9
      obtain rfl : z8 = 2 := by omega
      refine n_aload_n c_170_17 rfl ?_
      refine n_iload_n c_170_18 rfl ?_
      refine n_v1I c_170_19 rfl sc_112.n rfl rfl rfl rfl (mrowsOf2_2  hS (by omega)) ?_
      intro z10 M11 hP12
      obtain ⟨eM, f12⟩ := hP12
      subst eM
      obtain rfl : z10 = 4 := by omega
      refine n_s2I c_170_22 rfl rfl rfl rfl (mpower4_2  hS ) ?_
      intro z13 M14 hP15
      obtain ⟨eM, f15⟩ := hP15
      subst eM
      obtain rfl : z13 = 16 := by omega
      refine n_if2_lt c_170_25 (by omega) (by omega) ?_ ?_
      · intro h16
        refine n_aload_n c_170_30 rfl ?_
        refine n_iload_n c_170_31 rfl ?_
        refine n_v1V c_170_32 rfl sc_112.n rfl rfl rfl rfl (mmakesX_2_2 (Ms := M) hS (by omega) (by rfl) (by rw [hms]; exact hac4) (by rw [hms]; exact hwr) (by rw [hms]; exact hkr) (by rw [hms]; exact hpm) (by rw [hms]; exact hkl)) ?_
        intro  M17 hP18
        obtain ⟨hS17, f18p0, f18p1, f18p2, f18p3⟩ := hP18
        have g112 := f18p1 112 0 (by omega) (by omega) (by omega) (by omega) (by omega)
        refine n_aload_n c_170_35 rfl ?_
        refine n_getR c_170_36 sc_112.n rfl rfl rfl r_112_16 ?_
        refine n_iload_n c_170_39 rfl ?_
        refine n_ialoadV c_170_40 sc_124.n rfl rfl rfl (by omega) (t_124 hS17 (by omega)) ?_
        intro z19 ez19 f20
        refine n_bipush c_170_41 rfl ?_
        refine n_if2_ne c_170_43 (by omega) (by omega) ?_ ?_
        · intro h21
          refine n_iconst c_170_49 ?_
          refine n_istore_n (L2 := [some (2, 112), some (0, 2), some (0, c), some (0, 0)]) c_170_50 rfl rfl ?_
          refine n_fg (le_s (le_s (le_s (le_s le_0)))) ?_
          exact (msizeX_2_2_c hS hdm hc hgd hms hac4 hwr hkr hpm hkl 526) _ M17 hS17 (by omega) (by omega) (by omega) (by omega) (by have y := f18p0; have u := f18p1; rw [hms] at y u; exact ⟨fun _ => y, u⟩) (by have u := f18p2; rw [hms] at u; exact fun _ => u) (by have u := f18p3; rw [hms] at u; exact u) (by omega)
        · intro h22
          refine n_bipush c_170_46 rfl ?_
          exact n_rI c_170_48 rfl ⟨hS17, by omega, by omega, by have y := f18p0; have u := f18p1; rw [hms] at y u; exact ⟨fun _ => y, u⟩, by have u := f18p2; rw [hms] at u; exact fun _ => u, by have u := f18p3; rw [hms] at u; exact u⟩
      · intro h23
        refine n_iconst c_170_28 ?_
        exact n_rI c_170_29 rfl ⟨hS, by omega, by omega, by rw [hms]; exact ⟨hkr, fun _ _ _ _ _ _ _ => rfl⟩, by rw [hms]; exact hkl, by rw [hms]; exact fun _ _ _ _ => rfl⟩

set_option maxHeartbeats 4000000 in
theorem msizeOfX_3_2 {xs : List Int32} {e : Nat} {ac : Int} {M0 M : nM} {i : Int} (hS : Sf 2 ac M0 M) (hdm : M0 112 0 = 2) (hi : 0 ≤ i ∧ i ≤ 255) : nW xs e 164 0 [some (2, 112), some (0, 3), some (0, i)] [] M (nPI fun z M1 => M = M1 ∧ (0 ≤ z ∧ z ≤ 1000000) ∧ (z = M 123 (256 * 3 + i))) := by
  have hd : (2 : Int) = 2 ∨ (2 : Int) = 3 := by decide
  have hac := hS.2.2.2.2
  refine n_aload_n c_164_0 rfl ?_
  refine n_getR c_164_1 sc_112.n rfl rfl rfl r_112_15 ?_
  refine n_sipush c_164_4 rfl ?_
  refine n_iload_n c_164_7 rfl ?_
  refine n_imul c_164_8 rfl ?_
  refine n_iload_n c_164_9 rfl ?_
  refine n_iadd c_164_10 rfl ?_
  refine n_ialoadV c_164_11 sc_123.n rfl rfl rfl (by omega) (t_123 hS (by omega)) ?_
  intro z1 ez1 f2
  exact n_rI c_164_12 rfl ⟨rfl, by omega, by exact ez1⟩

set_option maxHeartbeats 4000000 in
theorem mjoinedX_3_2_c {xs : List Int32} {e : Nat} {ac : Int} {M0 M : nM} {a x y w s : Int} {Ms : nM} {Mt : nM} {t : Int} (hS : Sf 2 ac M0 M) (hdm : M0 112 0 = 2) (ha : 0 ≤ a ∧ a ≤ 7) (hx : 0 ≤ x ∧ x ≤ 256) (hy : 0 ≤ y ∧ y ≤ 256) (hw : 0 ≤ w ∧ w ≤ 256) (hs : 0 ≤ s ∧ s ≤ 1000000) (hmt : M = Mt) (hfr : FR Ms Mt) (hwr : WR 2 a Ms) (hT : ∀ i : Int, 0 ≤ i → i < 2 * 2 * 2 → 0 ≤ Tm Ms a i ∧ Tm Ms a i < 2) (hxt : x ≤ t ∧ y ≤ t ∧ w ≤ t) (hdg : ∀ i r : Int, 0 ≤ i → i ≤ t → 0 ≤ r → r < 8 → Ms 126 (9 * i + r) = mdg 2 (cdr 3 Ms i) r) : ∀ nn : Nat, (∀ (x7 x8 x9 : Int) (M : nM), Sf 2 ac M0 M → (0 ≤ x7 ∧ x7 ≤ 3) → (0 ≤ x8 ∧ x8 ≤ 255) → (-1 ≤ x9 ∧ x9 ≤ 7) → (M = Mt) → (x7 = Ms 116 a) → (x8 = mcd 2 (JF 2 (Ms 116 a) (JT a Ms) (cdr 3 Ms x) (cdr 3 Ms y) (cdr 3 Ms w)) (x9 + 1) (((8 : Nat) : Int) - 1 - x9).toNat) → (x9 - (-1)) * 1 + 1 < (nn : Int) → nW xs e 163 16 [some (2, 112), some (0, a), none, some (0, x), some (0, y), some (0, w), some (0, s), some (0, x7), some (0, x8), some (0, x9), none] [] M (nPV fun M1 => Sf 2 ac M0 M1 ∧ (JD (JC 2 8 a Ms (cdr 3 Ms x) (cdr 3 Ms y) (cdr 3 Ms w)) Mt M1) ∧ (JZ (JC 2 8 a Ms (cdr 3 Ms x) (cdr 3 Ms y) (cdr 3 Ms w)) s Mt M1))) := by
  have hd : (2 : Int) = 2 ∨ (2 : Int) = 3 := by decide
  have hac := hS.2.2.2.2
  intro nn
  induction nn with
  | zero => intros; omega
  | succ nn ih =>
    intro x7 x8 x9 M hS k7 k8 k9 v0 v1 v2 hnn
    have hwk := hwr.1
    refine n_iload c_163_16 rfl ?_
    refine n_if0_lt c_163_18 (by omega) ?_ ?_
    · intro h1
      refine n_aload_n c_163_121 rfl ?_
      refine n_getR c_163_122 sc_112.n rfl rfl rfl r_112_17 ?_
      refine n_iload c_163_125 rfl ?_
      refine n_ialoadV c_163_127 sc_125.n rfl rfl rfl (by omega) (t_125 hS (by omega)) ?_
      intro z2 ez2 f3
      refine n_if0_eq c_163_128 (by omega) ?_ ?_
      · intro h4
        refine n_aload_n c_163_145 rfl ?_
        refine n_getR c_163_146 sc_112.n rfl rfl rfl r_112_17 ?_
        refine n_iload c_163_149 rfl ?_
        refine n_iload c_163_151 rfl ?_
        refine n_iconst c_163_153 ?_
        refine n_iadd c_163_154 rfl ?_
        refine n_iastoreV hS c_163_155 sc_125.n rfl (by omega) (w_125 (by omega) (by omega)) ?_
        intro M5 eM5 hS5
        exact n_rV c_163_156 rfl ⟨hS5, by have e8 : x8 = JC 2 8 a Ms (cdr 3 Ms x) (cdr 3 Ms y) (cdr 3 Ms w) := (by rw [v2, show x9 = -1 by omega]; rfl); rw [← e8, ← v0]; exact ⟨fun b i q => by rw [eM5, nu_e, if_neg q], by rw [eM5, nu_s]; omega, by rw [eM5, nu_s]; omega⟩, by have e8 : x8 = JC 2 8 a Ms (cdr 3 Ms x) (cdr 3 Ms y) (cdr 3 Ms w) := (by rw [v2, show x9 = -1 by omega]; rfl); rw [← e8, ← v0]; exact ⟨fun b i q => by rw [eM5, nu_e, if_neg q], Or.inl ⟨by omega, by rw [eM5, nu_s]⟩⟩⟩
      · intro h6
        refine n_aload_n c_163_131 rfl ?_
        refine n_getR c_163_132 sc_112.n rfl rfl rfl r_112_17 ?_
        refine n_iload c_163_135 rfl ?_
        refine n_ialoadV c_163_137 sc_125.n rfl rfl rfl (by omega) (t_125 hS (by omega)) ?_
        intro z7 ez7 f8
        refine n_iload c_163_138 rfl ?_
        refine n_iconst c_163_140 ?_
        refine n_iadd c_163_141 rfl ?_
        refine n_if2_le c_163_142 (by omega) (by omega) ?_ ?_
        · intro h9
          exact n_rV c_163_156 rfl ⟨hS, by have e8 : x8 = JC 2 8 a Ms (cdr 3 Ms x) (cdr 3 Ms y) (cdr 3 Ms w) := (by rw [v2, show x9 = -1 by omega]; rfl); rw [← e8, ← v0]; exact ⟨fun _ _ _ => rfl, by omega, Iff.rfl⟩, by have e8 : x8 = JC 2 8 a Ms (cdr 3 Ms x) (cdr 3 Ms y) (cdr 3 Ms w) := (by rw [v2, show x9 = -1 by omega]; rfl); rw [← e8, ← v0]; exact ⟨fun _ _ _ => rfl, Or.inr ⟨by omega, rfl⟩⟩⟩
        · intro h10
          refine n_aload_n c_163_145 rfl ?_
          refine n_getR c_163_146 sc_112.n rfl rfl rfl r_112_17 ?_
          refine n_iload c_163_149 rfl ?_
          refine n_iload c_163_151 rfl ?_
          refine n_iconst c_163_153 ?_
          refine n_iadd c_163_154 rfl ?_
          refine n_iastoreV hS c_163_155 sc_125.n rfl (by omega) (w_125 (by omega) (by omega)) ?_
          intro M11 eM11 hS11
          exact n_rV c_163_156 rfl ⟨hS11, by have e8 : x8 = JC 2 8 a Ms (cdr 3 Ms x) (cdr 3 Ms y) (cdr 3 Ms w) := (by rw [v2, show x9 = -1 by omega]; rfl); rw [← e8, ← v0]; exact ⟨fun b i q => by rw [eM11, nu_e, if_neg q], by rw [eM11, nu_s]; omega, by rw [eM11, nu_s]; omega⟩, by have e8 : x8 = JC 2 8 a Ms (cdr 3 Ms x) (cdr 3 Ms y) (cdr 3 Ms w) := (by rw [v2, show x9 = -1 by omega]; rfl); rw [← e8, ← v0]; exact ⟨fun b i q => by rw [eM11, nu_e, if_neg q], Or.inl ⟨by omega, by rw [eM11, nu_s]⟩⟩⟩
    · intro h12
      refine n_aload_n c_163_21 rfl ?_
      refine n_getR c_163_22 sc_112.n rfl rfl rfl r_112_18 ?_
      refine n_bipush c_163_25 rfl ?_
      refine n_iload_n c_163_27 rfl ?_
      refine n_imul c_163_28 rfl ?_
      refine n_iload c_163_29 rfl ?_
      refine n_iadd c_163_31 rfl ?_
      refine n_ialoadV c_163_32 sc_126.n rfl rfl rfl (by omega) (t_126 hS (by omega)) ?_
      intro z13 ez13 f14
      have dzx : z13 = mdg 2 (cdr 3 Ms x) x9 := by rw [ez13, v0, hfr 126 _ (by omega)]; exact hdg x x9 (by omega) (by omega) (by omega) (by omega)
      have rzx := mdg_r (c := (cdr 3 Ms x)) (r := x9) hd
      rw [← dzx] at rzx
      refine n_istore (L2 := [some (2, 112), some (0, a), none, some (0, x), some (0, y), some (0, w), some (0, s), some (0, x7), some (0, x8), some (0, x9), some (0, z13)]) c_163_33 rfl rfl ?_
      refine n_iload c_163_35 rfl ?_
      refine n_iconst c_163_37 ?_
      refine n_if2_le c_163_38 (by omega) (by omega) ?_ ?_
      · intro h15
        refine n_iload c_163_64 rfl ?_
        refine n_iconst c_163_66 ?_
        refine n_if2_le c_163_67 (by omega) (by omega) ?_ ?_
        · intro h16
          refine n_iload c_163_93 rfl ?_
          refine n_aload_n c_163_95 rfl ?_
          refine n_getV (bi := 0) c_163_96 sc_112.n rfl rfl rfl (t_dm hS hdm) ?_
          intro z17 ez17 f18
          obtain rfl : z17 = 2 := by omega
          refine n_imul c_163_99 rfl ?_
          refine n_aload_n c_163_100 rfl ?_
          refine n_getR c_163_101 sc_112.n rfl rfl rfl r_112_6 ?_
          refine n_bipush c_163_104 rfl ?_
          refine n_iload_n c_163_106 rfl ?_
          refine n_imul c_163_107 rfl ?_
          refine n_iload c_163_108 rfl ?_
          refine n_iadd c_163_110 rfl ?_
          refine n_ialoadV c_163_111 sc_117.n rfl rfl rfl (by omega) (t_117 hS (by omega)) ?_
          intro z19 ez19 f20
          have jf : z19 = (JF 2 (Ms 116 a) (JT a Ms) (cdr 3 Ms x) (cdr 3 Ms y) (cdr 3 Ms w)) x9 := by unfold JF JT; rw [if_pos (by omega), ez19, v0, hfr 117 _ (by omega), dzx]
          refine n_iadd c_163_112 rfl ?_
          have jn : ((x8 * 2) + z19) = mcd 2 (JF 2 (Ms 116 a) (JT a Ms) (cdr 3 Ms x) (cdr 3 Ms y) (cdr 3 Ms w)) ((x9 - 1) + 1) (((8 : Nat) : Int) - 1 - (x9 - 1)).toNat := by rw [mcd_dn (by omega), ← v2, ← jf]; omega
          have jr := JX.r (R := 8) (X := (cdr 3 Ms x)) (Y := (cdr 3 Ms y)) (Z := (cdr 3 Ms w)) (x := x9 - 1) hd hwr hT (by omega)
          rw [← jn, show dpn 2 8 = 256 from by decide +kernel] at jr
          refine n_istore (L2 := [some (2, 112), some (0, a), none, some (0, x), some (0, y), some (0, w), some (0, s), some (0, x7), some (0, ((x8 * 2) + z19)), some (0, x9), some (0, z13)]) c_163_113 rfl rfl ?_
          refine n_iinc (L2 := [some (2, 112), some (0, a), none, some (0, x), some (0, y), some (0, w), some (0, s), some (0, x7), some (0, ((x8 * 2) + z19)), some (0, (x9 + (-1))), some (0, z13)]) c_163_115 rfl rfl rfl ?_
          refine n_goto c_163_118 ?_
          refine n_fg (le_s (le_s (le_n (le_s (le_s (le_s (le_s (le_s (le_s (le_s (le_n le_0))))))))))) ?_
          exact ih _ _ _ M hS (by omega) (by omega) (by omega) (by exact v0) (by exact v1) (by exact jn) (by omega)
        · intro h21
          exfalso; omega
      · intro h22
        refine n_iload c_163_41 rfl ?_
        refine n_aload_n c_163_43 rfl ?_
        refine n_getV (bi := 0) c_163_44 sc_112.n rfl rfl rfl (t_dm hS hdm) ?_
        intro z23 ez23 f24
        obtain rfl : z23 = 2 := by omega
        refine n_imul c_163_47 rfl ?_
        refine n_aload_n c_163_48 rfl ?_
        refine n_getR c_163_49 sc_112.n rfl rfl rfl r_112_18 ?_
        refine n_bipush c_163_52 rfl ?_
        refine n_iload c_163_54 rfl ?_
        refine n_imul c_163_56 rfl ?_
        refine n_iload c_163_57 rfl ?_
        refine n_iadd c_163_59 rfl ?_
        refine n_ialoadV c_163_60 sc_126.n rfl rfl rfl (by omega) (t_126 hS (by omega)) ?_
        intro z25 ez25 f26
        have dzy : z25 = mdg 2 (cdr 3 Ms y) x9 := by rw [ez25, v0, hfr 126 _ (by omega)]; exact hdg y x9 (by omega) (by omega) (by omega) (by omega)
        have rzy := mdg_r (c := (cdr 3 Ms y)) (r := x9) hd
        rw [← dzy] at rzy
        refine n_iadd c_163_61 rfl ?_
        refine n_istore (L2 := [some (2, 112), some (0, a), none, some (0, x), some (0, y), some (0, w), some (0, s), some (0, x7), some (0, x8), some (0, x9), some (0, ((z13 * 2) + z25))]) c_163_62 rfl rfl ?_
        refine n_iload c_163_64 rfl ?_
        refine n_iconst c_163_66 ?_
        refine n_if2_le c_163_67 (by omega) (by omega) ?_ ?_
        · intro h27
          refine n_iload c_163_93 rfl ?_
          refine n_aload_n c_163_95 rfl ?_
          refine n_getV (bi := 0) c_163_96 sc_112.n rfl rfl rfl (t_dm hS hdm) ?_
          intro z28 ez28 f29
          obtain rfl : z28 = 2 := by omega
          refine n_imul c_163_99 rfl ?_
          refine n_aload_n c_163_100 rfl ?_
          refine n_getR c_163_101 sc_112.n rfl rfl rfl r_112_6 ?_
          refine n_bipush c_163_104 rfl ?_
          refine n_iload_n c_163_106 rfl ?_
          refine n_imul c_163_107 rfl ?_
          refine n_iload c_163_108 rfl ?_
          refine n_iadd c_163_110 rfl ?_
          refine n_ialoadV c_163_111 sc_117.n rfl rfl rfl (by omega) (t_117 hS (by omega)) ?_
          intro z30 ez30 f31
          have jf : z30 = (JF 2 (Ms 116 a) (JT a Ms) (cdr 3 Ms x) (cdr 3 Ms y) (cdr 3 Ms w)) x9 := by unfold JF JT; rw [if_neg (by omega), if_pos (by omega), ez30, v0, hfr 117 _ (by omega), dzx, dzy]
          refine n_iadd c_163_112 rfl ?_
          have jn : ((x8 * 2) + z30) = mcd 2 (JF 2 (Ms 116 a) (JT a Ms) (cdr 3 Ms x) (cdr 3 Ms y) (cdr 3 Ms w)) ((x9 - 1) + 1) (((8 : Nat) : Int) - 1 - (x9 - 1)).toNat := by rw [mcd_dn (by omega), ← v2, ← jf]; omega
          have jr := JX.r (R := 8) (X := (cdr 3 Ms x)) (Y := (cdr 3 Ms y)) (Z := (cdr 3 Ms w)) (x := x9 - 1) hd hwr hT (by omega)
          rw [← jn, show dpn 2 8 = 256 from by decide +kernel] at jr
          refine n_istore (L2 := [some (2, 112), some (0, a), none, some (0, x), some (0, y), some (0, w), some (0, s), some (0, x7), some (0, ((x8 * 2) + z30)), some (0, x9), some (0, ((z13 * 2) + z25))]) c_163_113 rfl rfl ?_
          refine n_iinc (L2 := [some (2, 112), some (0, a), none, some (0, x), some (0, y), some (0, w), some (0, s), some (0, x7), some (0, ((x8 * 2) + z30)), some (0, (x9 + (-1))), some (0, ((z13 * 2) + z25))]) c_163_115 rfl rfl rfl ?_
          refine n_goto c_163_118 ?_
          refine n_fg (le_s (le_s (le_n (le_s (le_s (le_s (le_s (le_s (le_s (le_s (le_n le_0))))))))))) ?_
          exact ih _ _ _ M hS (by omega) (by omega) (by omega) (by exact v0) (by exact v1) (by exact jn) (by omega)
        · intro h32
          refine n_iload c_163_70 rfl ?_
          refine n_aload_n c_163_72 rfl ?_
          refine n_getV (bi := 0) c_163_73 sc_112.n rfl rfl rfl (t_dm hS hdm) ?_
          intro z33 ez33 f34
          obtain rfl : z33 = 2 := by omega
          refine n_imul c_163_76 rfl ?_
          refine n_aload_n c_163_77 rfl ?_
          refine n_getR c_163_78 sc_112.n rfl rfl rfl r_112_18 ?_
          refine n_bipush c_163_81 rfl ?_
          refine n_iload c_163_83 rfl ?_
          refine n_imul c_163_85 rfl ?_
          refine n_iload c_163_86 rfl ?_
          refine n_iadd c_163_88 rfl ?_
          refine n_ialoadV c_163_89 sc_126.n rfl rfl rfl (by omega) (t_126 hS (by omega)) ?_
          intro z35 ez35 f36
          have dzw : z35 = mdg 2 (cdr 3 Ms w) x9 := by rw [ez35, v0, hfr 126 _ (by omega)]; exact hdg w x9 (by omega) (by omega) (by omega) (by omega)
          have rzw := mdg_r (c := (cdr 3 Ms w)) (r := x9) hd
          rw [← dzw] at rzw
          refine n_iadd c_163_90 rfl ?_
          refine n_istore (L2 := [some (2, 112), some (0, a), none, some (0, x), some (0, y), some (0, w), some (0, s), some (0, x7), some (0, x8), some (0, x9), some (0, ((((z13 * 2) + z25) * 2) + z35))]) c_163_91 rfl rfl ?_
          refine n_iload c_163_93 rfl ?_
          refine n_aload_n c_163_95 rfl ?_
          refine n_getV (bi := 0) c_163_96 sc_112.n rfl rfl rfl (t_dm hS hdm) ?_
          intro z37 ez37 f38
          obtain rfl : z37 = 2 := by omega
          refine n_imul c_163_99 rfl ?_
          refine n_aload_n c_163_100 rfl ?_
          refine n_getR c_163_101 sc_112.n rfl rfl rfl r_112_6 ?_
          refine n_bipush c_163_104 rfl ?_
          refine n_iload_n c_163_106 rfl ?_
          refine n_imul c_163_107 rfl ?_
          refine n_iload c_163_108 rfl ?_
          refine n_iadd c_163_110 rfl ?_
          refine n_ialoadV c_163_111 sc_117.n rfl rfl rfl (by omega) (t_117 hS (by omega)) ?_
          intro z39 ez39 f40
          have jf : z39 = (JF 2 (Ms 116 a) (JT a Ms) (cdr 3 Ms x) (cdr 3 Ms y) (cdr 3 Ms w)) x9 := by unfold JF JT; rw [if_neg (by omega), if_neg (by omega), ez39, v0, hfr 117 _ (by omega), dzx, dzy, dzw]
          refine n_iadd c_163_112 rfl ?_
          have jn : ((x8 * 2) + z39) = mcd 2 (JF 2 (Ms 116 a) (JT a Ms) (cdr 3 Ms x) (cdr 3 Ms y) (cdr 3 Ms w)) ((x9 - 1) + 1) (((8 : Nat) : Int) - 1 - (x9 - 1)).toNat := by rw [mcd_dn (by omega), ← v2, ← jf]; omega
          have jr := JX.r (R := 8) (X := (cdr 3 Ms x)) (Y := (cdr 3 Ms y)) (Z := (cdr 3 Ms w)) (x := x9 - 1) hd hwr hT (by omega)
          rw [← jn, show dpn 2 8 = 256 from by decide +kernel] at jr
          refine n_istore (L2 := [some (2, 112), some (0, a), none, some (0, x), some (0, y), some (0, w), some (0, s), some (0, x7), some (0, ((x8 * 2) + z39)), some (0, x9), some (0, ((((z13 * 2) + z25) * 2) + z35))]) c_163_113 rfl rfl ?_
          refine n_iinc (L2 := [some (2, 112), some (0, a), none, some (0, x), some (0, y), some (0, w), some (0, s), some (0, x7), some (0, ((x8 * 2) + z39)), some (0, (x9 + (-1))), some (0, ((((z13 * 2) + z25) * 2) + z35))]) c_163_115 rfl rfl rfl ?_
          refine n_goto c_163_118 ?_
          refine n_fg (le_s (le_s (le_n (le_s (le_s (le_s (le_s (le_s (le_s (le_s (le_n le_0))))))))))) ?_
          exact ih _ _ _ M hS (by omega) (by omega) (by omega) (by exact v0) (by exact v1) (by exact jn) (by omega)
set_option maxHeartbeats 4000000 in
theorem mjoinedX_3_2 {xs : List Int32} {e : Nat} {ac : Int} {M0 M : nM} {a x y w s : Int} {Ms : nM} {Mt : nM} {t : Int} (hS : Sf 2 ac M0 M) (hdm : M0 112 0 = 2) (ha : 0 ≤ a ∧ a ≤ 7) (hx : 0 ≤ x ∧ x ≤ 256) (hy : 0 ≤ y ∧ y ≤ 256) (hw : 0 ≤ w ∧ w ≤ 256) (hs : 0 ≤ s ∧ s ≤ 1000000) (hmt : M = Mt) (hfr : FR Ms Mt) (hwr : WR 2 a Ms) (hT : ∀ i : Int, 0 ≤ i → i < 2 * 2 * 2 → 0 ≤ Tm Ms a i ∧ Tm Ms a i < 2) (hxt : x ≤ t ∧ y ≤ t ∧ w ≤ t) (hdg : ∀ i r : Int, 0 ≤ i → i ≤ t → 0 ≤ r → r < 8 → Ms 126 (9 * i + r) = mdg 2 (cdr 3 Ms i) r) : nW xs e 163 0 [some (2, 112), some (0, a), some (0, 8), some (0, x), some (0, y), some (0, w), some (0, s), none, none, none, none] [] M (nPV fun M1 => Sf 2 ac M0 M1 ∧ (JD (JC 2 8 a Ms (cdr 3 Ms x) (cdr 3 Ms y) (cdr 3 Ms w)) Mt M1) ∧ (JZ (JC 2 8 a Ms (cdr 3 Ms x) (cdr 3 Ms y) (cdr 3 Ms w)) s Mt M1)) := by
  have hd : (2 : Int) = 2 ∨ (2 : Int) = 3 := by decide
  have hac := hS.2.2.2.2
  refine n_aload_n c_163_0 rfl ?_
  refine n_getR c_163_1 sc_112.n rfl rfl rfl r_112_5 ?_
  refine n_iload_n c_163_4 rfl ?_
  refine n_ialoadV c_163_5 sc_116.n rfl rfl rfl (by omega) (t_116 hS (by omega)) ?_
  intro z1 ez1 f2
  refine n_istore (L2 := [some (2, 112), some (0, a), some (0, 8), some (0, x), some (0, y), some (0, w), some (0, s), some (0, z1), none, none, none]) c_163_6 rfl rfl ?_
  refine n_iconst c_163_8 ?_
  refine n_istore (L2 := [some (2, 112), some (0, a), some (0, 8), some (0, x), some (0, y), some (0, w), some (0, s), some (0, z1), some (0, 0), none, none]) c_163_9 rfl rfl ?_
  refine n_iload_n c_163_11 rfl ?_
  refine n_iconst c_163_12 ?_
  refine n_isub c_163_13 rfl ?_
  refine n_istore (L2 := [some (2, 112), some (0, a), some (0, 8), some (0, x), some (0, y), some (0, w), some (0, s), some (0, z1), some (0, 0), some (0, (8 - 1)), none]) c_163_14 rfl rfl ?_
  refine n_fg (le_s (le_s (le_n (le_s (le_s (le_s (le_s (le_s (le_s (le_s (le_n le_0))))))))))) ?_
  exact (mjoinedX_3_2_c hS hdm ha hx hy hw hs hmt hfr hwr hT hxt hdg 30) _ _ _ M hS (by omega) (by omega) (by omega) (by exact hmt) (by rw [ez1, hmt]; exact hfr 116 a (by omega)) (by rfl) (by omega)

set_option maxHeartbeats 4000000 in
theorem mjoinsX_3_2_c {xs : List Int32} {e : Nat} {ac : Int} {M0 M : nM} {t : Int} {Ms : nM} (hS : Sf 2 ac M0 M) (hdm : M0 112 0 = 2) (ht : 0 ≤ t ∧ t ≤ 255) (hms : M = Ms) (hac4 : Ms 112 4 = ac) (hwr : ∀ a : Int, 0 ≤ a → a < ac → WR 2 a Ms) (hT : ∀ a i : Int, 0 ≤ a → a < ac → 0 ≤ i → i < 2 * 2 * 2 → 0 ≤ Tm Ms a i ∧ Tm Ms a i < 2) (hdg : ∀ i r : Int, 0 ≤ i → i ≤ t → 0 ≤ r → r < 8 → Ms 126 (9 * i + r) = mdg 2 (cdr 3 Ms i) r) (hclo : ∀ i : Int, 0 ≤ i → i ≤ t → Clo 2 8 3 ac (Tm Ms) (cdr 3 Ms i)) (hpd : PDr 2 8 3 ac t Ms Ms) (hpz : PDrz 2 8 3 ac t Ms Ms) (hvs : ∀ i : Int, 0 ≤ i → i ≤ t → VAL 2 8 3 ac (Tm Ms) (Pm Ms) (cdr 3 Ms i) (szr 3 Ms i)) (hI2r : ∀ i : Int, 0 ≤ i → i ≤ t → szr 3 Ms i ≤ szr 3 Ms t) (hdn : ∀ c : Int, 0 ≤ c → c < 256 → Ms 125 c = -1 → ∃ i : Int, 0 ≤ i ∧ i < t ∧ cdr 3 Ms i = c) (hrv : RV 2 8 256 3 ac Ms Ms) (hlw : LWs 256 (szr 3 Ms t) Ms) (hpm : ∀ a : Int, 0 ≤ a → a < ac → Pm Ms a = Ms 116 a) : ∀ nn : Nat, (∀ (x4 x5 : Int) (M : nM), Sf 2 ac M0 M → (0 ≤ x4 ∧ x4 ≤ 1000000) → (0 ≤ x5 ∧ x5 ≤ 8) → (JSt 2 8 3 ac Ms M) → (∀ a : Int, 0 ≤ a → a < x5 → JA 2 8 3 a t Ms M) → (x5 ≤ ac) → (JMs 3 t Ms Ms M) → (RV 2 8 256 3 ac Ms M) → (LWs 256 (szr 3 Ms t) M) → (∀ a : Int, 0 ≤ a → a < x5 → JAz 2 8 3 a t Ms M) → (x4 = szr 3 Ms t) → (8 - x5) * 66823 + 66823 < (nn : Int) → nW xs (e + 1) 165 11 [some (2, 112), some (0, 3), some (0, 8), some (0, t), some (0, x4), some (0, x5), none, none, none, none] [] M (nPV fun M1 => Sf 2 ac M0 M1 ∧ (JSt 2 8 3 ac Ms M1) ∧ (PDr 2 8 3 ac (t + 1) Ms M1) ∧ (JMs 3 t Ms Ms M1) ∧ (RV 2 8 256 3 ac Ms M1) ∧ (LWs 256 (szr 3 Ms t) M1) ∧ (∀ a : Int, 0 ≤ a → a < ac → JAz 2 8 3 a t Ms M1))) ∧ (∀ (x4 x5 x6 : Int) (M : nM), Sf 2 ac M0 M → (0 ≤ x4 ∧ x4 ≤ 1000000) → (0 ≤ x5 ∧ x5 ≤ 7) → (0 ≤ x6 ∧ x6 ≤ 256) → (JSt 2 8 3 ac Ms M) → (∀ a : Int, 0 ≤ a → a < x5 → JA 2 8 3 a t Ms M) → (x5 < ac) → ((Ms 116 x5 = 2 → J2 2 8 3 x5 t x6 Ms M) ∧ (Ms 116 x5 = 3 → J3 2 8 3 x5 t x6 Ms M)) → (Ms 116 x5 = 2 ∨ Ms 116 x5 = 3) → (JMs 3 t Ms Ms M) → (RV 2 8 256 3 ac Ms M) → (LWs 256 (szr 3 Ms t) M) → (∀ a : Int, 0 ≤ a → a < x5 → JAz 2 8 3 a t Ms M) → ((Ms 116 x5 = 2 → J2z 2 8 3 x5 t x6 Ms M) ∧ (Ms 116 x5 = 3 → J3z 2 8 3 x5 t x6 Ms M)) → (x4 = szr 3 Ms t) → (8 - x5) * 66823 + (256 - x6) * 259 + 259 < (nn : Int) → nW xs (e + 1) 165 56 [some (2, 112), some (0, 3), some (0, 8), some (0, t), some (0, x4), some (0, x5), some (0, x6), none, none, none] [] M (nPV fun M1 => Sf 2 ac M0 M1 ∧ (JSt 2 8 3 ac Ms M1) ∧ (PDr 2 8 3 ac (t + 1) Ms M1) ∧ (JMs 3 t Ms Ms M1) ∧ (RV 2 8 256 3 ac Ms M1) ∧ (LWs 256 (szr 3 Ms t) M1) ∧ (∀ a : Int, 0 ≤ a → a < ac → JAz 2 8 3 a t Ms M1))) ∧ (∀ (x4 x5 x6 x7 x8 : Int) (M : nM), Sf 2 ac M0 M → (0 ≤ x4 ∧ x4 ≤ 1000000) → (0 ≤ x5 ∧ x5 ≤ 7) → (0 ≤ x6 ∧ x6 ≤ 255) → (1 ≤ x7 ∧ x7 ≤ 1000000) → (0 ≤ x8 ∧ x8 ≤ 256) → (JSt 2 8 3 ac Ms M) → (∀ a : Int, 0 ≤ a → a < x5 → JA 2 8 3 a t Ms M) → (x5 < ac) → ((Ms 116 x5 = 2 → J2 2 8 3 x5 t x6 Ms M) ∧ (Ms 116 x5 = 3 → J3 2 8 3 x5 t x6 Ms M)) → (J4 2 8 3 x5 t x6 x8 Ms M) → (Ms 116 x5 = 3) → (x6 ≤ t) → (JMs 3 t Ms Ms M) → (RV 2 8 256 3 ac Ms M) → (LWs 256 (szr 3 Ms t) M) → (∀ a : Int, 0 ≤ a → a < x5 → JAz 2 8 3 a t Ms M) → ((Ms 116 x5 = 2 → J2z 2 8 3 x5 t x6 Ms M) ∧ (Ms 116 x5 = 3 → J3z 2 8 3 x5 t x6 Ms M)) → (J4z 2 8 3 x5 t x6 x8 Ms M) → (x7 = kap (1 + szr 3 Ms t + szr 3 Ms x6)) → (x4 = szr 3 Ms t) → (8 - x5) * 66823 + (256 - x6) * 259 + (256 - x8) * 1 + 1 < (nn : Int) → nW xs (e + 1) 165 124 [some (2, 112), some (0, 3), some (0, 8), some (0, t), some (0, x4), some (0, x5), some (0, x6), some (0, x7), some (0, x8), none] [] M (nPV fun M1 => Sf 2 ac M0 M1 ∧ (JSt 2 8 3 ac Ms M1) ∧ (PDr 2 8 3 ac (t + 1) Ms M1) ∧ (JMs 3 t Ms Ms M1) ∧ (RV 2 8 256 3 ac Ms M1) ∧ (LWs 256 (szr 3 Ms t) M1) ∧ (∀ a : Int, 0 ≤ a → a < ac → JAz 2 8 3 a t Ms M1))) := by
  have hd : (2 : Int) = 2 ∨ (2 : Int) = 3 := by decide
  have hac := hS.2.2.2.2
  have hat := t_112_4 hS
  have h4m : M 112 4 = ac := by rw [hms]; exact hac4
  intro nn
  induction nn with
  | zero => refine ⟨?_, ?_, ?_⟩ <;> (intros; omega)
  | succ nn ih =>
    refine ⟨?_, ?_, ?_⟩
    · intro x4 x5 M hS k4 k5 v0 v1 v2 v3 v4 v5 v6 v7 hnn
      have h4x := v0.1 112 4 (by omega)
      refine n_iload c_165_11 rfl ?_
      refine n_aload_n c_165_13 rfl ?_
      refine n_getV (bi := 4) c_165_14 sc_112.n rfl rfl rfl (t_112_4 hS) ?_
      intro z1 ez1 f2
      refine n_if2_ge c_165_17 (by omega) (by omega) ?_ ?_
      · intro h3
        exact n_rV c_165_207 rfl ⟨hS, by exact v0, by exact PDr.st (fun a a0 a1 => v1 a a0 (by omega)), by exact v3, by exact v4, by exact v5, by exact fun a a0 a1 => v6 a a0 (by omega)⟩
      · intro h4
        refine n_aload_n c_165_20 rfl ?_
        refine n_getR c_165_21 sc_112.n rfl rfl rfl r_112_5 ?_
        refine n_iload c_165_24 rfl ?_
        refine n_ialoadV c_165_26 sc_116.n rfl rfl rfl (by omega) (t_116 hS (by omega)) ?_
        intro z5 ez5 f6
        have pk0 : z5 = Ms 116 x5 := by rw [ez5]; exact v0.1 116 x5 (by omega)
        refine n_iconst c_165_27 ?_
        refine n_if2_ne c_165_28 (by omega) (by omega) ?_ ?_
        · intro h7
          refine n_iconst c_165_53 ?_
          refine n_istore (L2 := [some (2, 112), some (0, 3), some (0, 8), some (0, t), some (0, x4), some (0, x5), some (0, 0), none, none, none]) c_165_54 rfl rfl ?_
          refine n_fg (le_s (le_s (le_s (le_s (le_s (le_s (le_s (le_n (le_n (le_n le_0)))))))))) ?_
          exact ih.2.1 _ _ _ M hS (by omega) (by omega) (by omega) (by exact v0) (by exact fun a a0 a1 => (v1 a a0 a1)) (by omega) (by exact ⟨fun _ => J2.ini, fun _ => J3.ini⟩) (by have hw5 := (hwr x5 (by omega) (by omega)).1; omega) (by exact v3) (by exact v4) (by exact v5) (by exact fun a a0 a1 => (v6 a a0 a1)) (by exact ⟨fun _ => J2z.ini, fun _ => J3z.ini⟩) (by exact v7) (by omega)
        · intro h8
          refine n_aload_n c_165_31 rfl ?_
          refine n_iload c_165_32 rfl ?_
          refine n_iload_n c_165_34 rfl ?_
          refine n_iload_n c_165_35 rfl ?_
          refine n_iconst c_165_36 ?_
          refine n_iconst c_165_37 ?_
          refine n_ldc (n := 1000000) c_165_38 rfl ?_
          refine n_iload c_165_40 rfl ?_
          refine n_iconst c_165_42 ?_
          refine n_iadd c_165_43 rfl ?_
          refine n_s2I c_165_44 rfl rfl rfl rfl (imin_2 (x := 1000000) (y := (x4 + 1)) hS (by omega) (by omega)) ?_
          intro z9 M10 hP11
          obtain ⟨eM, f11, f11p0⟩ := hP11
          subst eM
          have kq1 : z9 = kap (1 + szr 3 Ms t) := by have y := f11p0; rw [show 1 + szr 3 Ms t = x4 + 1 by omega]; exact kap_min (by omega)
          refine n_v6V c_165_47 rfl sc_112.n rfl rfl rfl rfl (mjoinedX_3_2 (a := x5) (x := t) (y := 0) (w := 0) (s := z9) (Ms := Ms) (Mt := M) (t := t) hS hdm (by omega) (by omega) (by omega) (by omega) (by omega) (by rfl) (by exact v0.1) (by exact hwr x5 (by omega) (by omega)) (by exact fun i i0 i1 => hT x5 i (by omega) (by omega) i0 i1) (by omega) (by exact hdg)) ?_
          intro  M12 hP13
          obtain ⟨hS12, f13p0, f13p1⟩ := hP13
          have jd0 := f13p0
          rw [JC.one hd (hwr x5 (by omega) (by omega)) (by omega) (cdr 3 Ms t) (cdr 3 Ms t)] at jd0
          have js0 := v0.st jd0 (Clo.app (by omega) (by omega) (hclo _ (by omega) (by omega)) (hclo _ (by omega) (by omega)) (hclo _ (by omega) (by omega)))
          have jm0 := jd0.jm
          have jz0 := f13p1
          rw [JC.one hd (hwr x5 (by omega) (by omega)) (by omega) (cdr 3 Ms t) (cdr 3 Ms t)] at jz0
          have cs0 : z9 = cst (Pm Ms x5) (szr 3 Ms t) (szr 3 Ms t) (szr 3 Ms t) := by rw [show Pm Ms x5 = 1 from (hpm x5 (by omega) (by omega)).trans (by omega), cst1]; rw [kq1] <;> exact congrArg kap (by omega)
          have sl0 : szr 3 Ms t ≤ z9 := by rw [cs0]; exact kap_ge (by rw [show Pm Ms x5 = 1 from (hpm x5 (by omega) (by omega)).trans (by omega)]; rw [if_neg (by omega), if_neg (by omega)]; omega) (by omega)
          have vl0 : VAL 2 8 3 ac (Tm Ms) (Pm Ms) (mcm 2 8 (Tm Ms x5) (cdr 3 Ms t) (cdr 3 Ms t) (cdr 3 Ms t)) z9 := by rw [cs0]; exact VAL.app (by omega) (by omega) (hvs _ (by omega) (by omega)) (hvs _ (by omega) (by omega)) (hvs _ (by omega) (by omega))
          have c00 := Clo.r (R := 8) hd hT vl0.clo
          rw [show dpn 2 8 = 256 by decide +kernel] at c00
          have lo0 := (t_125 hS c00.1).1
          have sn0 := jz0.sn (n := 3) (t := t) (Ms := Ms) (by omega) lo0 (fun u => by obtain ⟨i, i0, i1, ei⟩ := hdn _ c00.1 (by omega) ((v0.2.2.1 _).mp u); exact ⟨i, i0, i1, ei, Int.le_trans (hI2r i i0 (by omega)) sl0⟩)
          rw [cs0] at sn0
          have jq0 : JMs 3 t Ms M M12 := jz0.jm (by omega)
          have rv0 := jz0.rv v4 vl0
          have lw0 := jz0.lw v5 sl0
          refine n_goto c_165_50 ?_
          refine n_iinc (L2 := [some (2, 112), some (0, 3), some (0, 8), some (0, t), some (0, x4), some (0, (x5 + 1)), none, none, none, none]) c_165_201 rfl rfl rfl ?_
          refine n_goto c_165_204 ?_
          refine n_fg (le_s (le_s (le_s (le_s (le_s (le_s (le_n (le_n (le_n (le_n le_0)))))))))) ?_
          exact ih.1 _ _ M12 hS12 (by omega) (by omega) (by exact js0) (by exact fun a a0 a1 => by by_cases u : a = x5; (rw [u]; exact JA.one hd (hwr x5 (by omega) (by omega)) (by omega) (by omega) (by omega) hpd (js0).2.1 (fun x y z (p : x = t ∧ y = t ∧ z = t) => by rw [p.1, p.2.1, p.2.2]; exact jd0.2.1)); (exact ((v1 a a0 (by omega))).mo jm0)) (by omega) (by exact (JMs.tr v3 jq0)) (by exact rv0) (by exact lw0) (by exact fun a a0 a1 => by by_cases u : a = x5; (rw [u]; exact JAz.one hd (hwr x5 (by omega) (by omega)) (by omega) ((hpm x5 (by omega) (by omega)).trans (by omega)) (by omega) (by omega) hpz (JMs.tr v3 jq0) (fun x y z (p : x = t ∧ y = t ∧ z = t) => by rw [p.1, p.2.1, p.2.2]; exact sn0)); (exact (JVz.mo (v6 a a0 (by omega)) jq0))) (by exact v7) (by omega)
    · intro x4 x5 x6 M hS k4 k5 k6 v0 v1 v2 v3 v4 v5 v6 v7 v8 v9 v10 hnn
      have h4x := v0.1 112 4 (by omega)
      refine n_iload c_165_56 rfl ?_
      refine n_iload_n c_165_58 rfl ?_
      refine n_if2_gt c_165_59 (by omega) (by omega) ?_ ?_
      · intro h1
        refine n_iinc (L2 := [some (2, 112), some (0, 3), some (0, 8), some (0, t), some (0, x4), some (0, (x5 + 1)), some (0, x6), none, none, none]) c_165_201 rfl rfl rfl ?_
        refine n_goto c_165_204 ?_
        refine n_fg (le_s (le_s (le_s (le_s (le_s (le_s (le_n (le_n (le_n (le_n le_0)))))))))) ?_
        exact ih.1 _ _ M hS (by omega) (by omega) (by exact v0) (by exact fun a a0 a1 => by by_cases u : a = x5; (rw [u]; rcases v4 with k2 | k3; (exact J2.fin hd (hwr x5 (by omega) (by omega)) k2 (by omega) (by omega) hpd v0.2.1 (v3.1 k2) (by omega)); (exact J3.fin (by omega) hpd v0.2.1 (v3.2 k3) (by omega))); (exact v1 a a0 (by omega))) (by omega) (by exact v5) (by exact v6) (by exact v7) (by exact fun a a0 a1 => by by_cases u : a = x5; (rw [u]; rcases v4 with k2 | k3; (exact J2z.fin hd (hwr x5 (by omega) (by omega)) k2 ((hpm x5 (by omega) (by omega)).trans (by omega)) (by omega) (by omega) hpz v5 (v9.1 k2) (by omega)); (exact J3z.fin (by omega) hpz v5 (v9.2 k3) (by omega))); (exact (v8 a a0 (by omega)))) (by exact v10) (by omega)
      · intro h2
        refine n_ldc (n := 1000000) c_165_62 rfl ?_
        refine n_iload c_165_64 rfl ?_
        refine n_aload_n c_165_66 rfl ?_
        refine n_iload_n c_165_67 rfl ?_
        refine n_iload c_165_68 rfl ?_
        refine n_v2I c_165_70 rfl sc_112.n rfl rfl rfl rfl (msizeOfX_3_2 (i := x6) hS hdm (by omega)) ?_
        intro z3 M4 hP5
        obtain ⟨eM, f5, f5p0⟩ := hP5
        subst eM
        refine n_iadd c_165_73 rfl ?_
        refine n_iconst c_165_74 ?_
        refine n_iadd c_165_75 rfl ?_
        refine n_s2I c_165_76 rfl rfl rfl rfl (imin_2 (x := 1000000) (y := ((x4 + z3) + 1)) hS (by omega) (by omega)) ?_
        intro z6 M7 hP8
        obtain ⟨eM, f8, f8p0⟩ := hP8
        subst eM
        have zi : z3 = szr 3 Ms x6 := by rw [f5p0]; exact v0.1 123 _ (by omega)
        have ri := (hvs x6 (by omega) (by omega)).r
        have rt := (hvs t (by omega) (by omega)).r
        have kq2 : z6 = kap (1 + szr 3 Ms t + szr 3 Ms x6) := by have y := f8p0; rw [show 1 + szr 3 Ms t + szr 3 Ms x6 = x4 + z3 + 1 by omega]; exact kap_min (by omega)
        refine n_istore (L2 := [some (2, 112), some (0, 3), some (0, 8), some (0, t), some (0, x4), some (0, x5), some (0, x6), some (0, z6), none, none]) c_165_79 rfl rfl ?_
        refine n_aload_n c_165_81 rfl ?_
        refine n_getR c_165_82 sc_112.n rfl rfl rfl r_112_5 ?_
        refine n_iload c_165_85 rfl ?_
        refine n_ialoadV c_165_87 sc_116.n rfl rfl rfl (by omega) (t_116 hS (by omega)) ?_
        intro z9 ez9 f10
        have pk0 : z9 = Ms 116 x5 := by rw [ez9]; exact v0.1 116 x5 (by omega)
        refine n_iconst c_165_88 ?_
        refine n_if2_ne c_165_89 (by omega) (by omega) ?_ ?_
        · intro h11
          refine n_iconst c_165_121 ?_
          refine n_istore (L2 := [some (2, 112), some (0, 3), some (0, 8), some (0, t), some (0, x4), some (0, x5), some (0, x6), some (0, z6), some (0, 0), none]) c_165_122 rfl rfl ?_
          refine n_fg (le_s (le_s (le_s (le_s (le_s (le_s (le_s (le_s (le_s (le_n le_0)))))))))) ?_
          exact ih.2.2 _ _ _ _ _ M hS (by omega) (by omega) (by omega) (by omega) (by omega) (by exact v0) (by exact fun a a0 a1 => (v1 a a0 a1)) (by omega) (by exact v3) (by exact J4.ini) (by omega) (by omega) (by exact v5) (by exact v6) (by exact v7) (by exact fun a a0 a1 => (v8 a a0 a1)) (by exact v9) (by exact J4z.ini) (by exact kq2) (by exact v10) (by omega)
        · intro h12
          refine n_aload_n c_165_92 rfl ?_
          refine n_iload c_165_93 rfl ?_
          refine n_iload_n c_165_95 rfl ?_
          refine n_iload_n c_165_96 rfl ?_
          refine n_iload c_165_97 rfl ?_
          refine n_iconst c_165_99 ?_
          refine n_iload c_165_100 rfl ?_
          refine n_v6V c_165_102 rfl sc_112.n rfl rfl rfl rfl (mjoinedX_3_2 (a := x5) (x := t) (y := x6) (w := 0) (s := z6) (Ms := Ms) (Mt := M) (t := t) hS hdm (by omega) (by omega) (by omega) (by omega) (by omega) (by rfl) (by exact v0.1) (by exact hwr x5 (by omega) (by omega)) (by exact fun i i0 i1 => hT x5 i (by omega) (by omega) i0 i1) (by omega) (by exact hdg)) ?_
          intro  M13 hP14
          obtain ⟨hS13, f14p0, f14p1⟩ := hP14
          have jd0 := f14p0
          rw [JC.two hd (hwr x5 (by omega) (by omega)) (by omega) (cdr 3 Ms t)] at jd0
          have js0 := v0.st jd0 (Clo.app (by omega) (by omega) (hclo _ (by omega) (by omega)) (hclo _ (by omega) (by omega)) (hclo _ (by omega) (by omega)))
          have jm0 := jd0.jm
          have jz0 := f14p1
          rw [JC.two hd (hwr x5 (by omega) (by omega)) (by omega) (cdr 3 Ms t)] at jz0
          have cs0 : z6 = cst (Pm Ms x5) (szr 3 Ms t) (szr 3 Ms t) (szr 3 Ms x6) := by rw [show Pm Ms x5 = 2 from (hpm x5 (by omega) (by omega)).trans (by omega), cst2]; rw [kq2] <;> exact congrArg kap (by omega)
          have sl0 : szr 3 Ms t ≤ z6 := by rw [cs0]; exact kap_ge (by rw [show Pm Ms x5 = 2 from (hpm x5 (by omega) (by omega)).trans (by omega)]; rw [if_neg (by omega), if_pos (by omega)]; omega) (by omega)
          have vl0 : VAL 2 8 3 ac (Tm Ms) (Pm Ms) (mcm 2 8 (Tm Ms x5) (cdr 3 Ms t) (cdr 3 Ms t) (cdr 3 Ms x6)) z6 := by rw [cs0]; exact VAL.app (by omega) (by omega) (hvs _ (by omega) (by omega)) (hvs _ (by omega) (by omega)) (hvs _ (by omega) (by omega))
          have c00 := Clo.r (R := 8) hd hT vl0.clo
          rw [show dpn 2 8 = 256 by decide +kernel] at c00
          have lo0 := (t_125 hS c00.1).1
          have sn0 := jz0.sn (n := 3) (t := t) (Ms := Ms) (by omega) lo0 (fun u => by obtain ⟨i, i0, i1, ei⟩ := hdn _ c00.1 (by omega) ((v0.2.2.1 _).mp u); exact ⟨i, i0, i1, ei, Int.le_trans (hI2r i i0 (by omega)) sl0⟩)
          rw [cs0] at sn0
          have jq0 : JMs 3 t Ms M M13 := jz0.jm (by omega)
          have rv0 := jz0.rv v6 vl0
          have lw0 := jz0.lw v7 sl0
          refine n_aload_n c_165_105 rfl ?_
          refine n_iload c_165_106 rfl ?_
          refine n_iload_n c_165_108 rfl ?_
          refine n_iload c_165_109 rfl ?_
          refine n_iload_n c_165_111 rfl ?_
          refine n_iconst c_165_112 ?_
          refine n_iload c_165_113 rfl ?_
          refine n_v6V c_165_115 rfl sc_112.n rfl rfl rfl rfl (mjoinedX_3_2 (a := x5) (x := x6) (y := t) (w := 0) (s := z6) (Ms := Ms) (Mt := M13) (t := t) hS13 hdm (by omega) (by omega) (by omega) (by omega) (by omega) (by rfl) (by exact js0.1) (by exact hwr x5 (by omega) (by omega)) (by exact fun i i0 i1 => hT x5 i (by omega) (by omega) i0 i1) (by omega) (by exact hdg)) ?_
          intro  M15 hP16
          obtain ⟨hS15, f16p0, f16p1⟩ := hP16
          have jd1 := f16p0
          rw [JC.two hd (hwr x5 (by omega) (by omega)) (by omega) (cdr 3 Ms t)] at jd1
          have js1 := js0.st jd1 (Clo.app (by omega) (by omega) (hclo _ (by omega) (by omega)) (hclo _ (by omega) (by omega)) (hclo _ (by omega) (by omega)))
          have jm1 := jd1.jm
          have jz1 := f16p1
          rw [JC.two hd (hwr x5 (by omega) (by omega)) (by omega) (cdr 3 Ms t)] at jz1
          have cs1 : z6 = cst (Pm Ms x5) (szr 3 Ms t) (szr 3 Ms x6) (szr 3 Ms t) := by rw [show Pm Ms x5 = 2 from (hpm x5 (by omega) (by omega)).trans (by omega), cst2]; rw [kq2] <;> exact congrArg kap (by omega)
          have sl1 : szr 3 Ms t ≤ z6 := by rw [cs1]; exact kap_ge (by rw [show Pm Ms x5 = 2 from (hpm x5 (by omega) (by omega)).trans (by omega)]; rw [if_neg (by omega), if_pos (by omega)]; omega) (by omega)
          have vl1 : VAL 2 8 3 ac (Tm Ms) (Pm Ms) (mcm 2 8 (Tm Ms x5) (cdr 3 Ms t) (cdr 3 Ms x6) (cdr 3 Ms t)) z6 := by rw [cs1]; exact VAL.app (by omega) (by omega) (hvs _ (by omega) (by omega)) (hvs _ (by omega) (by omega)) (hvs _ (by omega) (by omega))
          have c01 := Clo.r (R := 8) hd hT vl1.clo
          rw [show dpn 2 8 = 256 by decide +kernel] at c01
          have lo1 := (t_125 hS13 c01.1).1
          have sn1 := jz1.sn (n := 3) (t := t) (Ms := Ms) (by omega) lo1 (fun u => by obtain ⟨i, i0, i1, ei⟩ := hdn _ c01.1 (by omega) ((js0.2.2.1 _).mp u); exact ⟨i, i0, i1, ei, Int.le_trans (hI2r i i0 (by omega)) sl1⟩)
          rw [cs1] at sn1
          have jq1 : JMs 3 t Ms M13 M15 := jz1.jm (by omega)
          have rv1 := jz1.rv rv0 vl1
          have lw1 := jz1.lw lw0 sl1
          refine n_goto c_165_118 ?_
          refine n_iinc (L2 := [some (2, 112), some (0, 3), some (0, 8), some (0, t), some (0, x4), some (0, x5), some (0, (x6 + 1)), some (0, z6), none, none]) c_165_195 rfl rfl rfl ?_
          refine n_goto c_165_198 ?_
          refine n_fg (le_s (le_s (le_s (le_s (le_s (le_s (le_s (le_n (le_n (le_n le_0)))))))))) ?_
          exact ih.2.1 _ _ _ M15 hS15 (by omega) (by omega) (by omega) (by exact js1) (by exact fun a a0 a1 => (((v1 a a0 a1)).mo jm0).mo jm1) (by omega) (by exact ⟨fun k2 => (v3.1 k2).st (jm0.tr jm1) (jm1 _ jd0.2.1) jd1.2.1, fun k3 => by omega⟩) (by exact v4) (by exact (JMs.tr (JMs.tr v5 jq0) jq1)) (by exact rv1) (by exact lw1) (by exact fun a a0 a1 => JVz.mo (v8 a a0 a1) (jq0.tr jq1)) (by exact ⟨fun k2 => (v9.1 k2).st (jq0.tr jq1) (jq1 _ _ sn0) sn1, fun k3 => by omega⟩) (by exact v10) (by omega)
    · intro x4 x5 x6 x7 x8 M hS k4 k5 k6 k7 k8 v0 v1 v2 v3 v4 v5 v6 v7 v8 v9 v10 v11 v12 v13 v14 hnn
      have h4x := v0.1 112 4 (by omega)
      refine n_iload c_165_124 rfl ?_
      refine n_iload_n c_165_126 rfl ?_
      refine n_if2_gt c_165_127 (by omega) (by omega) ?_ ?_
      · intro h1
        refine n_iinc (L2 := [some (2, 112), some (0, 3), some (0, 8), some (0, t), some (0, x4), some (0, x5), some (0, (x6 + 1)), some (0, x7), some (0, x8), none]) c_165_195 rfl rfl rfl ?_
        refine n_goto c_165_198 ?_
        refine n_fg (le_s (le_s (le_s (le_s (le_s (le_s (le_s (le_n (le_n (le_n le_0)))))))))) ?_
        exact ih.2.1 _ _ _ M hS (by omega) (by omega) (by omega) (by exact v0) (by exact fun a a0 a1 => (v1 a a0 a1)) (by omega) (by exact ⟨fun k2 => by omega, fun k3 => (v3.2 k3).st v4 (by omega)⟩) (by exact Or.inr v5) (by exact v7) (by exact v8) (by exact v9) (by exact fun a a0 a1 => (v10 a a0 a1)) (by exact ⟨fun k2 => by omega, fun k3 => (v11.2 k3).st v12 (by omega)⟩) (by exact v14) (by omega)
      · intro h2
        refine n_ldc (n := 1000000) c_165_130 rfl ?_
        refine n_iload c_165_132 rfl ?_
        refine n_aload_n c_165_134 rfl ?_
        refine n_iload_n c_165_135 rfl ?_
        refine n_iload c_165_136 rfl ?_
        refine n_v2I c_165_138 rfl sc_112.n rfl rfl rfl rfl (msizeOfX_3_2 (i := x8) hS hdm (by omega)) ?_
        intro z3 M4 hP5
        obtain ⟨eM, f5, f5p0⟩ := hP5
        subst eM
        refine n_iadd c_165_141 rfl ?_
        refine n_s2I c_165_142 rfl rfl rfl rfl (imin_2 (x := 1000000) (y := (x7 + z3)) hS (by omega) (by omega)) ?_
        intro z6 M7 hP8
        obtain ⟨eM, f8, f8p0⟩ := hP8
        subst eM
        have zj : z3 = szr 3 Ms x8 := by rw [f5p0]; exact v0.1 123 _ (by omega)
        have rj := (hvs x8 (by omega) (by omega)).r
        have ri := (hvs x6 (by omega) (by omega)).r
        have rt := (hvs t (by omega) (by omega)).r
        have kq3 : z6 = kap (1 + szr 3 Ms t + szr 3 Ms x6 + szr 3 Ms x8) := by have y := f8p0; rw [← kap_kap rj.1, ← v13, ← zj]; exact kap_min (by omega)
        refine n_istore (L2 := [some (2, 112), some (0, 3), some (0, 8), some (0, t), some (0, x4), some (0, x5), some (0, x6), some (0, x7), some (0, x8), some (0, z6)]) c_165_145 rfl rfl ?_
        refine n_aload_n c_165_147 rfl ?_
        refine n_iload c_165_148 rfl ?_
        refine n_iload_n c_165_150 rfl ?_
        refine n_iload_n c_165_151 rfl ?_
        refine n_iload c_165_152 rfl ?_
        refine n_iload c_165_154 rfl ?_
        refine n_iload c_165_156 rfl ?_
        refine n_v6V c_165_158 rfl sc_112.n rfl rfl rfl rfl (mjoinedX_3_2 (a := x5) (x := t) (y := x6) (w := x8) (s := z6) (Ms := Ms) (Mt := M) (t := t) hS hdm (by omega) (by omega) (by omega) (by omega) (by omega) (by rfl) (by exact v0.1) (by exact hwr x5 (by omega) (by omega)) (by exact fun i i0 i1 => hT x5 i (by omega) (by omega) i0 i1) (by omega) (by exact hdg)) ?_
        intro  M9 hP10
        obtain ⟨hS9, f10p0, f10p1⟩ := hP10
        have jd0 := f10p0
        rw [JC.thr hd (hwr x5 (by omega) (by omega)) (by omega)] at jd0
        have js0 := v0.st jd0 (Clo.app (by omega) (by omega) (hclo _ (by omega) (by omega)) (hclo _ (by omega) (by omega)) (hclo _ (by omega) (by omega)))
        have jm0 := jd0.jm
        have jz0 := f10p1
        rw [JC.thr hd (hwr x5 (by omega) (by omega)) (by omega)] at jz0
        have cs0 : z6 = cst (Pm Ms x5) (szr 3 Ms t) (szr 3 Ms x6) (szr 3 Ms x8) := by rw [show Pm Ms x5 = 3 from (hpm x5 (by omega) (by omega)).trans (by omega), cst3]; rw [kq3] <;> exact congrArg kap (by omega)
        have sl0 : szr 3 Ms t ≤ z6 := by rw [cs0]; exact kap_ge (by rw [show Pm Ms x5 = 3 from (hpm x5 (by omega) (by omega)).trans (by omega)]; rw [if_pos rfl, if_pos (by omega)]; omega) (by omega)
        have vl0 : VAL 2 8 3 ac (Tm Ms) (Pm Ms) (mcm 2 8 (Tm Ms x5) (cdr 3 Ms t) (cdr 3 Ms x6) (cdr 3 Ms x8)) z6 := by rw [cs0]; exact VAL.app (by omega) (by omega) (hvs _ (by omega) (by omega)) (hvs _ (by omega) (by omega)) (hvs _ (by omega) (by omega))
        have c00 := Clo.r (R := 8) hd hT vl0.clo
        rw [show dpn 2 8 = 256 by decide +kernel] at c00
        have lo0 := (t_125 hS c00.1).1
        have sn0 := jz0.sn (n := 3) (t := t) (Ms := Ms) (by omega) lo0 (fun u => by obtain ⟨i, i0, i1, ei⟩ := hdn _ c00.1 (by omega) ((v0.2.2.1 _).mp u); exact ⟨i, i0, i1, ei, Int.le_trans (hI2r i i0 (by omega)) sl0⟩)
        rw [cs0] at sn0
        have jq0 : JMs 3 t Ms M M9 := jz0.jm (by omega)
        have rv0 := jz0.rv v8 vl0
        have lw0 := jz0.lw v9 sl0
        refine n_aload_n c_165_161 rfl ?_
        refine n_iload c_165_162 rfl ?_
        refine n_iload_n c_165_164 rfl ?_
        refine n_iload c_165_165 rfl ?_
        refine n_iload_n c_165_167 rfl ?_
        refine n_iload c_165_168 rfl ?_
        refine n_iload c_165_170 rfl ?_
        refine n_v6V c_165_172 rfl sc_112.n rfl rfl rfl rfl (mjoinedX_3_2 (a := x5) (x := x6) (y := t) (w := x8) (s := z6) (Ms := Ms) (Mt := M9) (t := t) hS9 hdm (by omega) (by omega) (by omega) (by omega) (by omega) (by rfl) (by exact js0.1) (by exact hwr x5 (by omega) (by omega)) (by exact fun i i0 i1 => hT x5 i (by omega) (by omega) i0 i1) (by omega) (by exact hdg)) ?_
        intro  M11 hP12
        obtain ⟨hS11, f12p0, f12p1⟩ := hP12
        have jd1 := f12p0
        rw [JC.thr hd (hwr x5 (by omega) (by omega)) (by omega)] at jd1
        have js1 := js0.st jd1 (Clo.app (by omega) (by omega) (hclo _ (by omega) (by omega)) (hclo _ (by omega) (by omega)) (hclo _ (by omega) (by omega)))
        have jm1 := jd1.jm
        have jz1 := f12p1
        rw [JC.thr hd (hwr x5 (by omega) (by omega)) (by omega)] at jz1
        have cs1 : z6 = cst (Pm Ms x5) (szr 3 Ms x6) (szr 3 Ms t) (szr 3 Ms x8) := by rw [show Pm Ms x5 = 3 from (hpm x5 (by omega) (by omega)).trans (by omega), cst3]; rw [kq3] <;> exact congrArg kap (by omega)
        have sl1 : szr 3 Ms t ≤ z6 := by rw [cs1]; exact kap_ge (by rw [show Pm Ms x5 = 3 from (hpm x5 (by omega) (by omega)).trans (by omega)]; rw [if_pos rfl, if_pos (by omega)]; omega) (by omega)
        have vl1 : VAL 2 8 3 ac (Tm Ms) (Pm Ms) (mcm 2 8 (Tm Ms x5) (cdr 3 Ms x6) (cdr 3 Ms t) (cdr 3 Ms x8)) z6 := by rw [cs1]; exact VAL.app (by omega) (by omega) (hvs _ (by omega) (by omega)) (hvs _ (by omega) (by omega)) (hvs _ (by omega) (by omega))
        have c01 := Clo.r (R := 8) hd hT vl1.clo
        rw [show dpn 2 8 = 256 by decide +kernel] at c01
        have lo1 := (t_125 hS9 c01.1).1
        have sn1 := jz1.sn (n := 3) (t := t) (Ms := Ms) (by omega) lo1 (fun u => by obtain ⟨i, i0, i1, ei⟩ := hdn _ c01.1 (by omega) ((js0.2.2.1 _).mp u); exact ⟨i, i0, i1, ei, Int.le_trans (hI2r i i0 (by omega)) sl1⟩)
        rw [cs1] at sn1
        have jq1 : JMs 3 t Ms M9 M11 := jz1.jm (by omega)
        have rv1 := jz1.rv rv0 vl1
        have lw1 := jz1.lw lw0 sl1
        refine n_aload_n c_165_175 rfl ?_
        refine n_iload c_165_176 rfl ?_
        refine n_iload_n c_165_178 rfl ?_
        refine n_iload c_165_179 rfl ?_
        refine n_iload c_165_181 rfl ?_
        refine n_iload_n c_165_183 rfl ?_
        refine n_iload c_165_184 rfl ?_
        refine n_v6V c_165_186 rfl sc_112.n rfl rfl rfl rfl (mjoinedX_3_2 (a := x5) (x := x6) (y := x8) (w := t) (s := z6) (Ms := Ms) (Mt := M11) (t := t) hS11 hdm (by omega) (by omega) (by omega) (by omega) (by omega) (by rfl) (by exact js1.1) (by exact hwr x5 (by omega) (by omega)) (by exact fun i i0 i1 => hT x5 i (by omega) (by omega) i0 i1) (by omega) (by exact hdg)) ?_
        intro  M13 hP14
        obtain ⟨hS13, f14p0, f14p1⟩ := hP14
        have jd2 := f14p0
        rw [JC.thr hd (hwr x5 (by omega) (by omega)) (by omega)] at jd2
        have js2 := js1.st jd2 (Clo.app (by omega) (by omega) (hclo _ (by omega) (by omega)) (hclo _ (by omega) (by omega)) (hclo _ (by omega) (by omega)))
        have jm2 := jd2.jm
        have jz2 := f14p1
        rw [JC.thr hd (hwr x5 (by omega) (by omega)) (by omega)] at jz2
        have cs2 : z6 = cst (Pm Ms x5) (szr 3 Ms x6) (szr 3 Ms x8) (szr 3 Ms t) := by rw [show Pm Ms x5 = 3 from (hpm x5 (by omega) (by omega)).trans (by omega), cst3]; rw [kq3] <;> exact congrArg kap (by omega)
        have sl2 : szr 3 Ms t ≤ z6 := by rw [cs2]; exact kap_ge (by rw [show Pm Ms x5 = 3 from (hpm x5 (by omega) (by omega)).trans (by omega)]; rw [if_pos rfl, if_pos (by omega)]; omega) (by omega)
        have vl2 : VAL 2 8 3 ac (Tm Ms) (Pm Ms) (mcm 2 8 (Tm Ms x5) (cdr 3 Ms x6) (cdr 3 Ms x8) (cdr 3 Ms t)) z6 := by rw [cs2]; exact VAL.app (by omega) (by omega) (hvs _ (by omega) (by omega)) (hvs _ (by omega) (by omega)) (hvs _ (by omega) (by omega))
        have c02 := Clo.r (R := 8) hd hT vl2.clo
        rw [show dpn 2 8 = 256 by decide +kernel] at c02
        have lo2 := (t_125 hS11 c02.1).1
        have sn2 := jz2.sn (n := 3) (t := t) (Ms := Ms) (by omega) lo2 (fun u => by obtain ⟨i, i0, i1, ei⟩ := hdn _ c02.1 (by omega) ((js1.2.2.1 _).mp u); exact ⟨i, i0, i1, ei, Int.le_trans (hI2r i i0 (by omega)) sl2⟩)
        rw [cs2] at sn2
        have jq2 : JMs 3 t Ms M11 M13 := jz2.jm (by omega)
        have rv2 := jz2.rv rv1 vl2
        have lw2 := jz2.lw lw1 sl2
        refine n_iinc (L2 := [some (2, 112), some (0, 3), some (0, 8), some (0, t), some (0, x4), some (0, x5), some (0, x6), some (0, x7), some (0, (x8 + 1)), some (0, z6)]) c_165_189 rfl rfl rfl ?_
        refine n_goto c_165_192 ?_
        refine n_fg (le_s (le_s (le_s (le_s (le_s (le_s (le_s (le_s (le_s (le_n le_0)))))))))) ?_
        exact ih.2.2 _ _ _ _ _ M13 hS13 (by omega) (by omega) (by omega) (by omega) (by omega) (by exact js2) (by exact fun a a0 a1 => ((((v1 a a0 a1)).mo jm0).mo jm1).mo jm2) (by omega) (by exact ⟨fun k2 => (v3.1 k2).mo ((jm0.tr jm1).tr jm2), fun k3 => (v3.2 k3).mo ((jm0.tr jm1).tr jm2)⟩) (by exact v4.st ((jm0.tr jm1).tr jm2) (jm2 _ (jm1 _ jd0.2.1)) (jm2 _ jd1.2.1) jd2.2.1) (by exact v5) (by omega) (by exact (JMs.tr (JMs.tr (JMs.tr v7 jq0) jq1) jq2)) (by exact rv2) (by exact lw2) (by exact fun a a0 a1 => JVz.mo (v10 a a0 a1) ((jq0.tr jq1).tr jq2)) (by exact ⟨fun k2 => (v11.1 k2).mo ((jq0.tr jq1).tr jq2), fun k3 => (v11.2 k3).mo ((jq0.tr jq1).tr jq2)⟩) (by exact v12.st ((jq0.tr jq1).tr jq2) (jq2 _ _ (jq1 _ _ sn0)) (jq2 _ _ sn1) sn2) (by exact v13) (by exact v14) (by omega)
set_option maxHeartbeats 4000000 in
theorem mjoinsX_3_2 {xs : List Int32} {e : Nat} {ac : Int} {M0 M : nM} {t : Int} {Ms : nM} (hS : Sf 2 ac M0 M) (hdm : M0 112 0 = 2) (ht : 0 ≤ t ∧ t ≤ 255) (hms : M = Ms) (hac4 : Ms 112 4 = ac) (hwr : ∀ a : Int, 0 ≤ a → a < ac → WR 2 a Ms) (hT : ∀ a i : Int, 0 ≤ a → a < ac → 0 ≤ i → i < 2 * 2 * 2 → 0 ≤ Tm Ms a i ∧ Tm Ms a i < 2) (hdg : ∀ i r : Int, 0 ≤ i → i ≤ t → 0 ≤ r → r < 8 → Ms 126 (9 * i + r) = mdg 2 (cdr 3 Ms i) r) (hclo : ∀ i : Int, 0 ≤ i → i ≤ t → Clo 2 8 3 ac (Tm Ms) (cdr 3 Ms i)) (hpd : PDr 2 8 3 ac t Ms Ms) (hpz : PDrz 2 8 3 ac t Ms Ms) (hvs : ∀ i : Int, 0 ≤ i → i ≤ t → VAL 2 8 3 ac (Tm Ms) (Pm Ms) (cdr 3 Ms i) (szr 3 Ms i)) (hI2r : ∀ i : Int, 0 ≤ i → i ≤ t → szr 3 Ms i ≤ szr 3 Ms t) (hdn : ∀ c : Int, 0 ≤ c → c < 256 → Ms 125 c = -1 → ∃ i : Int, 0 ≤ i ∧ i < t ∧ cdr 3 Ms i = c) (hrv : RV 2 8 256 3 ac Ms Ms) (hlw : LWs 256 (szr 3 Ms t) Ms) (hpm : ∀ a : Int, 0 ≤ a → a < ac → Pm Ms a = Ms 116 a) : nW xs (e + 1) 165 0 [some (2, 112), some (0, 3), some (0, 8), some (0, t), none, none, none, none, none, none] [] M (nPV fun M1 => Sf 2 ac M0 M1 ∧ (JSt 2 8 3 ac Ms M1) ∧ (PDr 2 8 3 ac (t + 1) Ms M1) ∧ (JMs 3 t Ms Ms M1) ∧ (RV 2 8 256 3 ac Ms M1) ∧ (LWs 256 (szr 3 Ms t) M1) ∧ (∀ a : Int, 0 ≤ a → a < ac → JAz 2 8 3 a t Ms M1)) := by
  have hd : (2 : Int) = 2 ∨ (2 : Int) = 3 := by decide
  have hac := hS.2.2.2.2
  have hat := t_112_4 hS
  have h4m : M 112 4 = ac := by rw [hms]; exact hac4
  refine n_aload_n c_165_0 rfl ?_
  refine n_iload_n c_165_1 rfl ?_
  refine n_iload_n c_165_2 rfl ?_
  refine n_v2I c_165_3 rfl sc_112.n rfl rfl rfl rfl (msizeOfX_3_2 (i := t) hS hdm (by omega)) ?_
  intro z1 M2 hP3
  obtain ⟨eM, f3, f3p0⟩ := hP3
  subst eM
  refine n_istore (L2 := [some (2, 112), some (0, 3), some (0, 8), some (0, t), some (0, z1), none, none, none, none, none]) c_165_6 rfl rfl ?_
  refine n_iconst c_165_8 ?_
  refine n_istore (L2 := [some (2, 112), some (0, 3), some (0, 8), some (0, t), some (0, z1), some (0, 0), none, none, none, none]) c_165_9 rfl rfl ?_
  refine n_fg (le_s (le_s (le_s (le_s (le_s (le_s (le_n (le_n (le_n (le_n le_0)))))))))) ?_
  exact (mjoinsX_3_2_c hS hdm ht hms hac4 hwr hT hdg hclo hpd hpz hvs hI2r hdn hrv hlw hpm 1336470).1 _ _ M hS (by omega) (by omega) (by rw [hms]; exact JSt.refl) (by exact fun a a0 a1 => by omega) (by omega) (by rw [hms]; exact fun c s q => q) (by rw [hms]; exact hrv) (by rw [hms]; exact hlw) (by exact fun a a0 a1 => by omega) (by rw [f3p0, hms]; rfl) (by omega)

set_option maxHeartbeats 4000000 in
theorem mdigK_3_0_0_2 {xs : List Int32} {e : Nat} {ac : Int} {M0 M : nM} (hS : Sf 2 ac M0 M) (hdm : M0 112 0 = 2) : nW xs (e + 1) 152 0 [some (2, 112), some (0, 0), some (0, 3), some (0, 0)] [] M (nPI fun z M1 => M = M1 ∧ (0 ≤ z ∧ z ≤ 0)) := by
  have hd : (2 : Int) = 2 ∨ (2 : Int) = 3 := by decide
  have hac := hS.2.2.2.2
  refine n_iload_n c_152_0 rfl ?_
  refine n_aload_n c_152_1 rfl ?_
  refine n_getV (bi := 0) c_152_2 sc_112.n rfl rfl rfl (t_dm hS hdm) ?_
  intro z1 ez1 f2
  obtain rfl : z1 = 2 := by omega
  refine n_iload_n c_152_5 rfl ?_
  refine n_iconst c_152_6 ?_
  refine n_isub c_152_7 rfl ?_
  refine n_iload_n c_152_8 rfl ?_
  refine n_isub c_152_9 rfl ?_
  have hcst : (((3 - 1) - 0) : Int) = 2 := by omega
  rw [hcst]
  refine n_s2I c_152_10 rfl rfl rfl rfl (mpower2_2  hS ) ?_
  intro z3 M4 hP5
  obtain ⟨eM, f5⟩ := hP5
  subst eM
  obtain rfl : z3 = 4 := by omega
  refine n_idivT (z := 0) c_152_13 (by omega) (by omega) (by omega) (by decide) ?_
  refine n_aload_n c_152_14 rfl ?_
  refine n_getV (bi := 0) c_152_15 sc_112.n rfl rfl rfl (t_dm hS hdm) ?_
  intro z6 ez6 f7
  obtain rfl : z6 = 2 := by omega
  refine n_iremT (z := 0) c_152_18 (by omega) (by omega) (by omega) (by decide) ?_
  exact n_rI c_152_19 rfl ⟨rfl, by omega⟩

set_option maxHeartbeats 4000000 in
theorem mdigK_3_1_0_2 {xs : List Int32} {e : Nat} {ac : Int} {M0 M : nM} (hS : Sf 2 ac M0 M) (hdm : M0 112 0 = 2) : nW xs (e + 1) 152 0 [some (2, 112), some (0, 1), some (0, 3), some (0, 0)] [] M (nPI fun z M1 => M = M1 ∧ (0 ≤ z ∧ z ≤ 0)) := by
  have hd : (2 : Int) = 2 ∨ (2 : Int) = 3 := by decide
  have hac := hS.2.2.2.2
  refine n_iload_n c_152_0 rfl ?_
  refine n_aload_n c_152_1 rfl ?_
  refine n_getV (bi := 0) c_152_2 sc_112.n rfl rfl rfl (t_dm hS hdm) ?_
  intro z1 ez1 f2
  obtain rfl : z1 = 2 := by omega
  refine n_iload_n c_152_5 rfl ?_
  refine n_iconst c_152_6 ?_
  refine n_isub c_152_7 rfl ?_
  refine n_iload_n c_152_8 rfl ?_
  refine n_isub c_152_9 rfl ?_
  have hcst : (((3 - 1) - 0) : Int) = 2 := by omega
  rw [hcst]
  refine n_s2I c_152_10 rfl rfl rfl rfl (mpower2_2  hS ) ?_
  intro z3 M4 hP5
  obtain ⟨eM, f5⟩ := hP5
  subst eM
  obtain rfl : z3 = 4 := by omega
  refine n_idivT (z := 0) c_152_13 (by omega) (by omega) (by omega) (by decide) ?_
  refine n_aload_n c_152_14 rfl ?_
  refine n_getV (bi := 0) c_152_15 sc_112.n rfl rfl rfl (t_dm hS hdm) ?_
  intro z6 ez6 f7
  obtain rfl : z6 = 2 := by omega
  refine n_iremT (z := 0) c_152_18 (by omega) (by omega) (by omega) (by decide) ?_
  exact n_rI c_152_19 rfl ⟨rfl, by omega⟩

set_option maxHeartbeats 4000000 in
theorem mdigK_3_2_0_2 {xs : List Int32} {e : Nat} {ac : Int} {M0 M : nM} (hS : Sf 2 ac M0 M) (hdm : M0 112 0 = 2) : nW xs (e + 1) 152 0 [some (2, 112), some (0, 2), some (0, 3), some (0, 0)] [] M (nPI fun z M1 => M = M1 ∧ (0 ≤ z ∧ z ≤ 0)) := by
  have hd : (2 : Int) = 2 ∨ (2 : Int) = 3 := by decide
  have hac := hS.2.2.2.2
  refine n_iload_n c_152_0 rfl ?_
  refine n_aload_n c_152_1 rfl ?_
  refine n_getV (bi := 0) c_152_2 sc_112.n rfl rfl rfl (t_dm hS hdm) ?_
  intro z1 ez1 f2
  obtain rfl : z1 = 2 := by omega
  refine n_iload_n c_152_5 rfl ?_
  refine n_iconst c_152_6 ?_
  refine n_isub c_152_7 rfl ?_
  refine n_iload_n c_152_8 rfl ?_
  refine n_isub c_152_9 rfl ?_
  have hcst : (((3 - 1) - 0) : Int) = 2 := by omega
  rw [hcst]
  refine n_s2I c_152_10 rfl rfl rfl rfl (mpower2_2  hS ) ?_
  intro z3 M4 hP5
  obtain ⟨eM, f5⟩ := hP5
  subst eM
  obtain rfl : z3 = 4 := by omega
  refine n_idivT (z := 0) c_152_13 (by omega) (by omega) (by omega) (by decide) ?_
  refine n_aload_n c_152_14 rfl ?_
  refine n_getV (bi := 0) c_152_15 sc_112.n rfl rfl rfl (t_dm hS hdm) ?_
  intro z6 ez6 f7
  obtain rfl : z6 = 2 := by omega
  refine n_iremT (z := 0) c_152_18 (by omega) (by omega) (by omega) (by decide) ?_
  exact n_rI c_152_19 rfl ⟨rfl, by omega⟩

set_option maxHeartbeats 4000000 in
theorem mdigK_3_3_0_2 {xs : List Int32} {e : Nat} {ac : Int} {M0 M : nM} (hS : Sf 2 ac M0 M) (hdm : M0 112 0 = 2) : nW xs (e + 1) 152 0 [some (2, 112), some (0, 3), some (0, 3), some (0, 0)] [] M (nPI fun z M1 => M = M1 ∧ (0 ≤ z ∧ z ≤ 0)) := by
  have hd : (2 : Int) = 2 ∨ (2 : Int) = 3 := by decide
  have hac := hS.2.2.2.2
  refine n_iload_n c_152_0 rfl ?_
  refine n_aload_n c_152_1 rfl ?_
  refine n_getV (bi := 0) c_152_2 sc_112.n rfl rfl rfl (t_dm hS hdm) ?_
  intro z1 ez1 f2
  obtain rfl : z1 = 2 := by omega
  refine n_iload_n c_152_5 rfl ?_
  refine n_iconst c_152_6 ?_
  refine n_isub c_152_7 rfl ?_
  refine n_iload_n c_152_8 rfl ?_
  refine n_isub c_152_9 rfl ?_
  have hcst : (((3 - 1) - 0) : Int) = 2 := by omega
  rw [hcst]
  refine n_s2I c_152_10 rfl rfl rfl rfl (mpower2_2  hS ) ?_
  intro z3 M4 hP5
  obtain ⟨eM, f5⟩ := hP5
  subst eM
  obtain rfl : z3 = 4 := by omega
  refine n_idivT (z := 0) c_152_13 (by omega) (by omega) (by omega) (by decide) ?_
  refine n_aload_n c_152_14 rfl ?_
  refine n_getV (bi := 0) c_152_15 sc_112.n rfl rfl rfl (t_dm hS hdm) ?_
  intro z6 ez6 f7
  obtain rfl : z6 = 2 := by omega
  refine n_iremT (z := 0) c_152_18 (by omega) (by omega) (by omega) (by decide) ?_
  exact n_rI c_152_19 rfl ⟨rfl, by omega⟩

set_option maxHeartbeats 4000000 in
theorem mdigK_3_4_0_2 {xs : List Int32} {e : Nat} {ac : Int} {M0 M : nM} (hS : Sf 2 ac M0 M) (hdm : M0 112 0 = 2) : nW xs (e + 1) 152 0 [some (2, 112), some (0, 4), some (0, 3), some (0, 0)] [] M (nPI fun z M1 => M = M1 ∧ (1 ≤ z ∧ z ≤ 1)) := by
  have hd : (2 : Int) = 2 ∨ (2 : Int) = 3 := by decide
  have hac := hS.2.2.2.2
  refine n_iload_n c_152_0 rfl ?_
  refine n_aload_n c_152_1 rfl ?_
  refine n_getV (bi := 0) c_152_2 sc_112.n rfl rfl rfl (t_dm hS hdm) ?_
  intro z1 ez1 f2
  obtain rfl : z1 = 2 := by omega
  refine n_iload_n c_152_5 rfl ?_
  refine n_iconst c_152_6 ?_
  refine n_isub c_152_7 rfl ?_
  refine n_iload_n c_152_8 rfl ?_
  refine n_isub c_152_9 rfl ?_
  have hcst : (((3 - 1) - 0) : Int) = 2 := by omega
  rw [hcst]
  refine n_s2I c_152_10 rfl rfl rfl rfl (mpower2_2  hS ) ?_
  intro z3 M4 hP5
  obtain ⟨eM, f5⟩ := hP5
  subst eM
  obtain rfl : z3 = 4 := by omega
  refine n_idivT (z := 1) c_152_13 (by omega) (by omega) (by omega) (by decide) ?_
  refine n_aload_n c_152_14 rfl ?_
  refine n_getV (bi := 0) c_152_15 sc_112.n rfl rfl rfl (t_dm hS hdm) ?_
  intro z6 ez6 f7
  obtain rfl : z6 = 2 := by omega
  refine n_iremT (z := 1) c_152_18 (by omega) (by omega) (by omega) (by decide) ?_
  exact n_rI c_152_19 rfl ⟨rfl, by omega⟩

set_option maxHeartbeats 4000000 in
theorem mdigK_3_5_0_2 {xs : List Int32} {e : Nat} {ac : Int} {M0 M : nM} (hS : Sf 2 ac M0 M) (hdm : M0 112 0 = 2) : nW xs (e + 1) 152 0 [some (2, 112), some (0, 5), some (0, 3), some (0, 0)] [] M (nPI fun z M1 => M = M1 ∧ (1 ≤ z ∧ z ≤ 1)) := by
  have hd : (2 : Int) = 2 ∨ (2 : Int) = 3 := by decide
  have hac := hS.2.2.2.2
  refine n_iload_n c_152_0 rfl ?_
  refine n_aload_n c_152_1 rfl ?_
  refine n_getV (bi := 0) c_152_2 sc_112.n rfl rfl rfl (t_dm hS hdm) ?_
  intro z1 ez1 f2
  obtain rfl : z1 = 2 := by omega
  refine n_iload_n c_152_5 rfl ?_
  refine n_iconst c_152_6 ?_
  refine n_isub c_152_7 rfl ?_
  refine n_iload_n c_152_8 rfl ?_
  refine n_isub c_152_9 rfl ?_
  have hcst : (((3 - 1) - 0) : Int) = 2 := by omega
  rw [hcst]
  refine n_s2I c_152_10 rfl rfl rfl rfl (mpower2_2  hS ) ?_
  intro z3 M4 hP5
  obtain ⟨eM, f5⟩ := hP5
  subst eM
  obtain rfl : z3 = 4 := by omega
  refine n_idivT (z := 1) c_152_13 (by omega) (by omega) (by omega) (by decide) ?_
  refine n_aload_n c_152_14 rfl ?_
  refine n_getV (bi := 0) c_152_15 sc_112.n rfl rfl rfl (t_dm hS hdm) ?_
  intro z6 ez6 f7
  obtain rfl : z6 = 2 := by omega
  refine n_iremT (z := 1) c_152_18 (by omega) (by omega) (by omega) (by decide) ?_
  exact n_rI c_152_19 rfl ⟨rfl, by omega⟩

set_option maxHeartbeats 4000000 in
theorem mdigK_3_6_0_2 {xs : List Int32} {e : Nat} {ac : Int} {M0 M : nM} (hS : Sf 2 ac M0 M) (hdm : M0 112 0 = 2) : nW xs (e + 1) 152 0 [some (2, 112), some (0, 6), some (0, 3), some (0, 0)] [] M (nPI fun z M1 => M = M1 ∧ (1 ≤ z ∧ z ≤ 1)) := by
  have hd : (2 : Int) = 2 ∨ (2 : Int) = 3 := by decide
  have hac := hS.2.2.2.2
  refine n_iload_n c_152_0 rfl ?_
  refine n_aload_n c_152_1 rfl ?_
  refine n_getV (bi := 0) c_152_2 sc_112.n rfl rfl rfl (t_dm hS hdm) ?_
  intro z1 ez1 f2
  obtain rfl : z1 = 2 := by omega
  refine n_iload_n c_152_5 rfl ?_
  refine n_iconst c_152_6 ?_
  refine n_isub c_152_7 rfl ?_
  refine n_iload_n c_152_8 rfl ?_
  refine n_isub c_152_9 rfl ?_
  have hcst : (((3 - 1) - 0) : Int) = 2 := by omega
  rw [hcst]
  refine n_s2I c_152_10 rfl rfl rfl rfl (mpower2_2  hS ) ?_
  intro z3 M4 hP5
  obtain ⟨eM, f5⟩ := hP5
  subst eM
  obtain rfl : z3 = 4 := by omega
  refine n_idivT (z := 1) c_152_13 (by omega) (by omega) (by omega) (by decide) ?_
  refine n_aload_n c_152_14 rfl ?_
  refine n_getV (bi := 0) c_152_15 sc_112.n rfl rfl rfl (t_dm hS hdm) ?_
  intro z6 ez6 f7
  obtain rfl : z6 = 2 := by omega
  refine n_iremT (z := 1) c_152_18 (by omega) (by omega) (by omega) (by decide) ?_
  exact n_rI c_152_19 rfl ⟨rfl, by omega⟩

set_option maxHeartbeats 4000000 in
theorem mdigK_3_7_0_2 {xs : List Int32} {e : Nat} {ac : Int} {M0 M : nM} (hS : Sf 2 ac M0 M) (hdm : M0 112 0 = 2) : nW xs (e + 1) 152 0 [some (2, 112), some (0, 7), some (0, 3), some (0, 0)] [] M (nPI fun z M1 => M = M1 ∧ (1 ≤ z ∧ z ≤ 1)) := by
  have hd : (2 : Int) = 2 ∨ (2 : Int) = 3 := by decide
  have hac := hS.2.2.2.2
  refine n_iload_n c_152_0 rfl ?_
  refine n_aload_n c_152_1 rfl ?_
  refine n_getV (bi := 0) c_152_2 sc_112.n rfl rfl rfl (t_dm hS hdm) ?_
  intro z1 ez1 f2
  obtain rfl : z1 = 2 := by omega
  refine n_iload_n c_152_5 rfl ?_
  refine n_iconst c_152_6 ?_
  refine n_isub c_152_7 rfl ?_
  refine n_iload_n c_152_8 rfl ?_
  refine n_isub c_152_9 rfl ?_
  have hcst : (((3 - 1) - 0) : Int) = 2 := by omega
  rw [hcst]
  refine n_s2I c_152_10 rfl rfl rfl rfl (mpower2_2  hS ) ?_
  intro z3 M4 hP5
  obtain ⟨eM, f5⟩ := hP5
  subst eM
  obtain rfl : z3 = 4 := by omega
  refine n_idivT (z := 1) c_152_13 (by omega) (by omega) (by omega) (by decide) ?_
  refine n_aload_n c_152_14 rfl ?_
  refine n_getV (bi := 0) c_152_15 sc_112.n rfl rfl rfl (t_dm hS hdm) ?_
  intro z6 ez6 f7
  obtain rfl : z6 = 2 := by omega
  refine n_iremT (z := 1) c_152_18 (by omega) (by omega) (by omega) (by decide) ?_
  exact n_rI c_152_19 rfl ⟨rfl, by omega⟩

set_option maxHeartbeats 4000000 in
theorem mdigK_3_0_1_2 {xs : List Int32} {e : Nat} {ac : Int} {M0 M : nM} (hS : Sf 2 ac M0 M) (hdm : M0 112 0 = 2) : nW xs (e + 1) 152 0 [some (2, 112), some (0, 0), some (0, 3), some (0, 1)] [] M (nPI fun z M1 => M = M1 ∧ (0 ≤ z ∧ z ≤ 0)) := by
  have hd : (2 : Int) = 2 ∨ (2 : Int) = 3 := by decide
  have hac := hS.2.2.2.2
  refine n_iload_n c_152_0 rfl ?_
  refine n_aload_n c_152_1 rfl ?_
  refine n_getV (bi := 0) c_152_2 sc_112.n rfl rfl rfl (t_dm hS hdm) ?_
  intro z1 ez1 f2
  obtain rfl : z1 = 2 := by omega
  refine n_iload_n c_152_5 rfl ?_
  refine n_iconst c_152_6 ?_
  refine n_isub c_152_7 rfl ?_
  refine n_iload_n c_152_8 rfl ?_
  refine n_isub c_152_9 rfl ?_
  have hcst : (((3 - 1) - 1) : Int) = 1 := by omega
  rw [hcst]
  refine n_s2I c_152_10 rfl rfl rfl rfl (mpower1_2  hS ) ?_
  intro z3 M4 hP5
  obtain ⟨eM, f5⟩ := hP5
  subst eM
  obtain rfl : z3 = 2 := by omega
  refine n_idivT (z := 0) c_152_13 (by omega) (by omega) (by omega) (by decide) ?_
  refine n_aload_n c_152_14 rfl ?_
  refine n_getV (bi := 0) c_152_15 sc_112.n rfl rfl rfl (t_dm hS hdm) ?_
  intro z6 ez6 f7
  obtain rfl : z6 = 2 := by omega
  refine n_iremT (z := 0) c_152_18 (by omega) (by omega) (by omega) (by decide) ?_
  exact n_rI c_152_19 rfl ⟨rfl, by omega⟩

set_option maxHeartbeats 4000000 in
theorem mdigK_3_1_1_2 {xs : List Int32} {e : Nat} {ac : Int} {M0 M : nM} (hS : Sf 2 ac M0 M) (hdm : M0 112 0 = 2) : nW xs (e + 1) 152 0 [some (2, 112), some (0, 1), some (0, 3), some (0, 1)] [] M (nPI fun z M1 => M = M1 ∧ (0 ≤ z ∧ z ≤ 0)) := by
  have hd : (2 : Int) = 2 ∨ (2 : Int) = 3 := by decide
  have hac := hS.2.2.2.2
  refine n_iload_n c_152_0 rfl ?_
  refine n_aload_n c_152_1 rfl ?_
  refine n_getV (bi := 0) c_152_2 sc_112.n rfl rfl rfl (t_dm hS hdm) ?_
  intro z1 ez1 f2
  obtain rfl : z1 = 2 := by omega
  refine n_iload_n c_152_5 rfl ?_
  refine n_iconst c_152_6 ?_
  refine n_isub c_152_7 rfl ?_
  refine n_iload_n c_152_8 rfl ?_
  refine n_isub c_152_9 rfl ?_
  have hcst : (((3 - 1) - 1) : Int) = 1 := by omega
  rw [hcst]
  refine n_s2I c_152_10 rfl rfl rfl rfl (mpower1_2  hS ) ?_
  intro z3 M4 hP5
  obtain ⟨eM, f5⟩ := hP5
  subst eM
  obtain rfl : z3 = 2 := by omega
  refine n_idivT (z := 0) c_152_13 (by omega) (by omega) (by omega) (by decide) ?_
  refine n_aload_n c_152_14 rfl ?_
  refine n_getV (bi := 0) c_152_15 sc_112.n rfl rfl rfl (t_dm hS hdm) ?_
  intro z6 ez6 f7
  obtain rfl : z6 = 2 := by omega
  refine n_iremT (z := 0) c_152_18 (by omega) (by omega) (by omega) (by decide) ?_
  exact n_rI c_152_19 rfl ⟨rfl, by omega⟩

set_option maxHeartbeats 4000000 in
theorem mdigK_3_2_1_2 {xs : List Int32} {e : Nat} {ac : Int} {M0 M : nM} (hS : Sf 2 ac M0 M) (hdm : M0 112 0 = 2) : nW xs (e + 1) 152 0 [some (2, 112), some (0, 2), some (0, 3), some (0, 1)] [] M (nPI fun z M1 => M = M1 ∧ (1 ≤ z ∧ z ≤ 1)) := by
  have hd : (2 : Int) = 2 ∨ (2 : Int) = 3 := by decide
  have hac := hS.2.2.2.2
  refine n_iload_n c_152_0 rfl ?_
  refine n_aload_n c_152_1 rfl ?_
  refine n_getV (bi := 0) c_152_2 sc_112.n rfl rfl rfl (t_dm hS hdm) ?_
  intro z1 ez1 f2
  obtain rfl : z1 = 2 := by omega
  refine n_iload_n c_152_5 rfl ?_
  refine n_iconst c_152_6 ?_
  refine n_isub c_152_7 rfl ?_
  refine n_iload_n c_152_8 rfl ?_
  refine n_isub c_152_9 rfl ?_
  have hcst : (((3 - 1) - 1) : Int) = 1 := by omega
  rw [hcst]
  refine n_s2I c_152_10 rfl rfl rfl rfl (mpower1_2  hS ) ?_
  intro z3 M4 hP5
  obtain ⟨eM, f5⟩ := hP5
  subst eM
  obtain rfl : z3 = 2 := by omega
  refine n_idivT (z := 1) c_152_13 (by omega) (by omega) (by omega) (by decide) ?_
  refine n_aload_n c_152_14 rfl ?_
  refine n_getV (bi := 0) c_152_15 sc_112.n rfl rfl rfl (t_dm hS hdm) ?_
  intro z6 ez6 f7
  obtain rfl : z6 = 2 := by omega
  refine n_iremT (z := 1) c_152_18 (by omega) (by omega) (by omega) (by decide) ?_
  exact n_rI c_152_19 rfl ⟨rfl, by omega⟩

set_option maxHeartbeats 4000000 in
theorem mdigK_3_3_1_2 {xs : List Int32} {e : Nat} {ac : Int} {M0 M : nM} (hS : Sf 2 ac M0 M) (hdm : M0 112 0 = 2) : nW xs (e + 1) 152 0 [some (2, 112), some (0, 3), some (0, 3), some (0, 1)] [] M (nPI fun z M1 => M = M1 ∧ (1 ≤ z ∧ z ≤ 1)) := by
  have hd : (2 : Int) = 2 ∨ (2 : Int) = 3 := by decide
  have hac := hS.2.2.2.2
  refine n_iload_n c_152_0 rfl ?_
  refine n_aload_n c_152_1 rfl ?_
  refine n_getV (bi := 0) c_152_2 sc_112.n rfl rfl rfl (t_dm hS hdm) ?_
  intro z1 ez1 f2
  obtain rfl : z1 = 2 := by omega
  refine n_iload_n c_152_5 rfl ?_
  refine n_iconst c_152_6 ?_
  refine n_isub c_152_7 rfl ?_
  refine n_iload_n c_152_8 rfl ?_
  refine n_isub c_152_9 rfl ?_
  have hcst : (((3 - 1) - 1) : Int) = 1 := by omega
  rw [hcst]
  refine n_s2I c_152_10 rfl rfl rfl rfl (mpower1_2  hS ) ?_
  intro z3 M4 hP5
  obtain ⟨eM, f5⟩ := hP5
  subst eM
  obtain rfl : z3 = 2 := by omega
  refine n_idivT (z := 1) c_152_13 (by omega) (by omega) (by omega) (by decide) ?_
  refine n_aload_n c_152_14 rfl ?_
  refine n_getV (bi := 0) c_152_15 sc_112.n rfl rfl rfl (t_dm hS hdm) ?_
  intro z6 ez6 f7
  obtain rfl : z6 = 2 := by omega
  refine n_iremT (z := 1) c_152_18 (by omega) (by omega) (by omega) (by decide) ?_
  exact n_rI c_152_19 rfl ⟨rfl, by omega⟩

set_option maxHeartbeats 4000000 in
theorem mdigK_3_4_1_2 {xs : List Int32} {e : Nat} {ac : Int} {M0 M : nM} (hS : Sf 2 ac M0 M) (hdm : M0 112 0 = 2) : nW xs (e + 1) 152 0 [some (2, 112), some (0, 4), some (0, 3), some (0, 1)] [] M (nPI fun z M1 => M = M1 ∧ (0 ≤ z ∧ z ≤ 0)) := by
  have hd : (2 : Int) = 2 ∨ (2 : Int) = 3 := by decide
  have hac := hS.2.2.2.2
  refine n_iload_n c_152_0 rfl ?_
  refine n_aload_n c_152_1 rfl ?_
  refine n_getV (bi := 0) c_152_2 sc_112.n rfl rfl rfl (t_dm hS hdm) ?_
  intro z1 ez1 f2
  obtain rfl : z1 = 2 := by omega
  refine n_iload_n c_152_5 rfl ?_
  refine n_iconst c_152_6 ?_
  refine n_isub c_152_7 rfl ?_
  refine n_iload_n c_152_8 rfl ?_
  refine n_isub c_152_9 rfl ?_
  have hcst : (((3 - 1) - 1) : Int) = 1 := by omega
  rw [hcst]
  refine n_s2I c_152_10 rfl rfl rfl rfl (mpower1_2  hS ) ?_
  intro z3 M4 hP5
  obtain ⟨eM, f5⟩ := hP5
  subst eM
  obtain rfl : z3 = 2 := by omega
  refine n_idivT (z := 2) c_152_13 (by omega) (by omega) (by omega) (by decide) ?_
  refine n_aload_n c_152_14 rfl ?_
  refine n_getV (bi := 0) c_152_15 sc_112.n rfl rfl rfl (t_dm hS hdm) ?_
  intro z6 ez6 f7
  obtain rfl : z6 = 2 := by omega
  refine n_iremT (z := 0) c_152_18 (by omega) (by omega) (by omega) (by decide) ?_
  exact n_rI c_152_19 rfl ⟨rfl, by omega⟩

set_option maxHeartbeats 4000000 in
theorem mdigK_3_5_1_2 {xs : List Int32} {e : Nat} {ac : Int} {M0 M : nM} (hS : Sf 2 ac M0 M) (hdm : M0 112 0 = 2) : nW xs (e + 1) 152 0 [some (2, 112), some (0, 5), some (0, 3), some (0, 1)] [] M (nPI fun z M1 => M = M1 ∧ (0 ≤ z ∧ z ≤ 0)) := by
  have hd : (2 : Int) = 2 ∨ (2 : Int) = 3 := by decide
  have hac := hS.2.2.2.2
  refine n_iload_n c_152_0 rfl ?_
  refine n_aload_n c_152_1 rfl ?_
  refine n_getV (bi := 0) c_152_2 sc_112.n rfl rfl rfl (t_dm hS hdm) ?_
  intro z1 ez1 f2
  obtain rfl : z1 = 2 := by omega
  refine n_iload_n c_152_5 rfl ?_
  refine n_iconst c_152_6 ?_
  refine n_isub c_152_7 rfl ?_
  refine n_iload_n c_152_8 rfl ?_
  refine n_isub c_152_9 rfl ?_
  have hcst : (((3 - 1) - 1) : Int) = 1 := by omega
  rw [hcst]
  refine n_s2I c_152_10 rfl rfl rfl rfl (mpower1_2  hS ) ?_
  intro z3 M4 hP5
  obtain ⟨eM, f5⟩ := hP5
  subst eM
  obtain rfl : z3 = 2 := by omega
  refine n_idivT (z := 2) c_152_13 (by omega) (by omega) (by omega) (by decide) ?_
  refine n_aload_n c_152_14 rfl ?_
  refine n_getV (bi := 0) c_152_15 sc_112.n rfl rfl rfl (t_dm hS hdm) ?_
  intro z6 ez6 f7
  obtain rfl : z6 = 2 := by omega
  refine n_iremT (z := 0) c_152_18 (by omega) (by omega) (by omega) (by decide) ?_
  exact n_rI c_152_19 rfl ⟨rfl, by omega⟩

set_option maxHeartbeats 4000000 in
theorem mdigK_3_6_1_2 {xs : List Int32} {e : Nat} {ac : Int} {M0 M : nM} (hS : Sf 2 ac M0 M) (hdm : M0 112 0 = 2) : nW xs (e + 1) 152 0 [some (2, 112), some (0, 6), some (0, 3), some (0, 1)] [] M (nPI fun z M1 => M = M1 ∧ (1 ≤ z ∧ z ≤ 1)) := by
  have hd : (2 : Int) = 2 ∨ (2 : Int) = 3 := by decide
  have hac := hS.2.2.2.2
  refine n_iload_n c_152_0 rfl ?_
  refine n_aload_n c_152_1 rfl ?_
  refine n_getV (bi := 0) c_152_2 sc_112.n rfl rfl rfl (t_dm hS hdm) ?_
  intro z1 ez1 f2
  obtain rfl : z1 = 2 := by omega
  refine n_iload_n c_152_5 rfl ?_
  refine n_iconst c_152_6 ?_
  refine n_isub c_152_7 rfl ?_
  refine n_iload_n c_152_8 rfl ?_
  refine n_isub c_152_9 rfl ?_
  have hcst : (((3 - 1) - 1) : Int) = 1 := by omega
  rw [hcst]
  refine n_s2I c_152_10 rfl rfl rfl rfl (mpower1_2  hS ) ?_
  intro z3 M4 hP5
  obtain ⟨eM, f5⟩ := hP5
  subst eM
  obtain rfl : z3 = 2 := by omega
  refine n_idivT (z := 3) c_152_13 (by omega) (by omega) (by omega) (by decide) ?_
  refine n_aload_n c_152_14 rfl ?_
  refine n_getV (bi := 0) c_152_15 sc_112.n rfl rfl rfl (t_dm hS hdm) ?_
  intro z6 ez6 f7
  obtain rfl : z6 = 2 := by omega
  refine n_iremT (z := 1) c_152_18 (by omega) (by omega) (by omega) (by decide) ?_
  exact n_rI c_152_19 rfl ⟨rfl, by omega⟩

set_option maxHeartbeats 4000000 in
theorem mdigK_3_7_1_2 {xs : List Int32} {e : Nat} {ac : Int} {M0 M : nM} (hS : Sf 2 ac M0 M) (hdm : M0 112 0 = 2) : nW xs (e + 1) 152 0 [some (2, 112), some (0, 7), some (0, 3), some (0, 1)] [] M (nPI fun z M1 => M = M1 ∧ (1 ≤ z ∧ z ≤ 1)) := by
  have hd : (2 : Int) = 2 ∨ (2 : Int) = 3 := by decide
  have hac := hS.2.2.2.2
  refine n_iload_n c_152_0 rfl ?_
  refine n_aload_n c_152_1 rfl ?_
  refine n_getV (bi := 0) c_152_2 sc_112.n rfl rfl rfl (t_dm hS hdm) ?_
  intro z1 ez1 f2
  obtain rfl : z1 = 2 := by omega
  refine n_iload_n c_152_5 rfl ?_
  refine n_iconst c_152_6 ?_
  refine n_isub c_152_7 rfl ?_
  refine n_iload_n c_152_8 rfl ?_
  refine n_isub c_152_9 rfl ?_
  have hcst : (((3 - 1) - 1) : Int) = 1 := by omega
  rw [hcst]
  refine n_s2I c_152_10 rfl rfl rfl rfl (mpower1_2  hS ) ?_
  intro z3 M4 hP5
  obtain ⟨eM, f5⟩ := hP5
  subst eM
  obtain rfl : z3 = 2 := by omega
  refine n_idivT (z := 3) c_152_13 (by omega) (by omega) (by omega) (by decide) ?_
  refine n_aload_n c_152_14 rfl ?_
  refine n_getV (bi := 0) c_152_15 sc_112.n rfl rfl rfl (t_dm hS hdm) ?_
  intro z6 ez6 f7
  obtain rfl : z6 = 2 := by omega
  refine n_iremT (z := 1) c_152_18 (by omega) (by omega) (by omega) (by decide) ?_
  exact n_rI c_152_19 rfl ⟨rfl, by omega⟩

set_option maxHeartbeats 4000000 in
theorem mdigK_3_0_2_2 {xs : List Int32} {e : Nat} {ac : Int} {M0 M : nM} (hS : Sf 2 ac M0 M) (hdm : M0 112 0 = 2) : nW xs (e + 1) 152 0 [some (2, 112), some (0, 0), some (0, 3), some (0, 2)] [] M (nPI fun z M1 => M = M1 ∧ (0 ≤ z ∧ z ≤ 0)) := by
  have hd : (2 : Int) = 2 ∨ (2 : Int) = 3 := by decide
  have hac := hS.2.2.2.2
  refine n_iload_n c_152_0 rfl ?_
  refine n_aload_n c_152_1 rfl ?_
  refine n_getV (bi := 0) c_152_2 sc_112.n rfl rfl rfl (t_dm hS hdm) ?_
  intro z1 ez1 f2
  obtain rfl : z1 = 2 := by omega
  refine n_iload_n c_152_5 rfl ?_
  refine n_iconst c_152_6 ?_
  refine n_isub c_152_7 rfl ?_
  refine n_iload_n c_152_8 rfl ?_
  refine n_isub c_152_9 rfl ?_
  have hcst : (((3 - 1) - 2) : Int) = 0 := by omega
  rw [hcst]
  refine n_s2I c_152_10 rfl rfl rfl rfl (mpower0_2  hS ) ?_
  intro z3 M4 hP5
  obtain ⟨eM, f5⟩ := hP5
  subst eM
  obtain rfl : z3 = 1 := by omega
  refine n_idivT (z := 0) c_152_13 (by omega) (by omega) (by omega) (by decide) ?_
  refine n_aload_n c_152_14 rfl ?_
  refine n_getV (bi := 0) c_152_15 sc_112.n rfl rfl rfl (t_dm hS hdm) ?_
  intro z6 ez6 f7
  obtain rfl : z6 = 2 := by omega
  refine n_iremT (z := 0) c_152_18 (by omega) (by omega) (by omega) (by decide) ?_
  exact n_rI c_152_19 rfl ⟨rfl, by omega⟩

set_option maxHeartbeats 4000000 in
theorem mdigK_3_1_2_2 {xs : List Int32} {e : Nat} {ac : Int} {M0 M : nM} (hS : Sf 2 ac M0 M) (hdm : M0 112 0 = 2) : nW xs (e + 1) 152 0 [some (2, 112), some (0, 1), some (0, 3), some (0, 2)] [] M (nPI fun z M1 => M = M1 ∧ (1 ≤ z ∧ z ≤ 1)) := by
  have hd : (2 : Int) = 2 ∨ (2 : Int) = 3 := by decide
  have hac := hS.2.2.2.2
  refine n_iload_n c_152_0 rfl ?_
  refine n_aload_n c_152_1 rfl ?_
  refine n_getV (bi := 0) c_152_2 sc_112.n rfl rfl rfl (t_dm hS hdm) ?_
  intro z1 ez1 f2
  obtain rfl : z1 = 2 := by omega
  refine n_iload_n c_152_5 rfl ?_
  refine n_iconst c_152_6 ?_
  refine n_isub c_152_7 rfl ?_
  refine n_iload_n c_152_8 rfl ?_
  refine n_isub c_152_9 rfl ?_
  have hcst : (((3 - 1) - 2) : Int) = 0 := by omega
  rw [hcst]
  refine n_s2I c_152_10 rfl rfl rfl rfl (mpower0_2  hS ) ?_
  intro z3 M4 hP5
  obtain ⟨eM, f5⟩ := hP5
  subst eM
  obtain rfl : z3 = 1 := by omega
  refine n_idivT (z := 1) c_152_13 (by omega) (by omega) (by omega) (by decide) ?_
  refine n_aload_n c_152_14 rfl ?_
  refine n_getV (bi := 0) c_152_15 sc_112.n rfl rfl rfl (t_dm hS hdm) ?_
  intro z6 ez6 f7
  obtain rfl : z6 = 2 := by omega
  refine n_iremT (z := 1) c_152_18 (by omega) (by omega) (by omega) (by decide) ?_
  exact n_rI c_152_19 rfl ⟨rfl, by omega⟩

set_option maxHeartbeats 4000000 in
theorem mdigK_3_2_2_2 {xs : List Int32} {e : Nat} {ac : Int} {M0 M : nM} (hS : Sf 2 ac M0 M) (hdm : M0 112 0 = 2) : nW xs (e + 1) 152 0 [some (2, 112), some (0, 2), some (0, 3), some (0, 2)] [] M (nPI fun z M1 => M = M1 ∧ (0 ≤ z ∧ z ≤ 0)) := by
  have hd : (2 : Int) = 2 ∨ (2 : Int) = 3 := by decide
  have hac := hS.2.2.2.2
  refine n_iload_n c_152_0 rfl ?_
  refine n_aload_n c_152_1 rfl ?_
  refine n_getV (bi := 0) c_152_2 sc_112.n rfl rfl rfl (t_dm hS hdm) ?_
  intro z1 ez1 f2
  obtain rfl : z1 = 2 := by omega
  refine n_iload_n c_152_5 rfl ?_
  refine n_iconst c_152_6 ?_
  refine n_isub c_152_7 rfl ?_
  refine n_iload_n c_152_8 rfl ?_
  refine n_isub c_152_9 rfl ?_
  have hcst : (((3 - 1) - 2) : Int) = 0 := by omega
  rw [hcst]
  refine n_s2I c_152_10 rfl rfl rfl rfl (mpower0_2  hS ) ?_
  intro z3 M4 hP5
  obtain ⟨eM, f5⟩ := hP5
  subst eM
  obtain rfl : z3 = 1 := by omega
  refine n_idivT (z := 2) c_152_13 (by omega) (by omega) (by omega) (by decide) ?_
  refine n_aload_n c_152_14 rfl ?_
  refine n_getV (bi := 0) c_152_15 sc_112.n rfl rfl rfl (t_dm hS hdm) ?_
  intro z6 ez6 f7
  obtain rfl : z6 = 2 := by omega
  refine n_iremT (z := 0) c_152_18 (by omega) (by omega) (by omega) (by decide) ?_
  exact n_rI c_152_19 rfl ⟨rfl, by omega⟩

set_option maxHeartbeats 4000000 in
theorem mdigK_3_3_2_2 {xs : List Int32} {e : Nat} {ac : Int} {M0 M : nM} (hS : Sf 2 ac M0 M) (hdm : M0 112 0 = 2) : nW xs (e + 1) 152 0 [some (2, 112), some (0, 3), some (0, 3), some (0, 2)] [] M (nPI fun z M1 => M = M1 ∧ (1 ≤ z ∧ z ≤ 1)) := by
  have hd : (2 : Int) = 2 ∨ (2 : Int) = 3 := by decide
  have hac := hS.2.2.2.2
  refine n_iload_n c_152_0 rfl ?_
  refine n_aload_n c_152_1 rfl ?_
  refine n_getV (bi := 0) c_152_2 sc_112.n rfl rfl rfl (t_dm hS hdm) ?_
  intro z1 ez1 f2
  obtain rfl : z1 = 2 := by omega
  refine n_iload_n c_152_5 rfl ?_
  refine n_iconst c_152_6 ?_
  refine n_isub c_152_7 rfl ?_
  refine n_iload_n c_152_8 rfl ?_
  refine n_isub c_152_9 rfl ?_
  have hcst : (((3 - 1) - 2) : Int) = 0 := by omega
  rw [hcst]
  refine n_s2I c_152_10 rfl rfl rfl rfl (mpower0_2  hS ) ?_
  intro z3 M4 hP5
  obtain ⟨eM, f5⟩ := hP5
  subst eM
  obtain rfl : z3 = 1 := by omega
  refine n_idivT (z := 3) c_152_13 (by omega) (by omega) (by omega) (by decide) ?_
  refine n_aload_n c_152_14 rfl ?_
  refine n_getV (bi := 0) c_152_15 sc_112.n rfl rfl rfl (t_dm hS hdm) ?_
  intro z6 ez6 f7
  obtain rfl : z6 = 2 := by omega
  refine n_iremT (z := 1) c_152_18 (by omega) (by omega) (by omega) (by decide) ?_
  exact n_rI c_152_19 rfl ⟨rfl, by omega⟩

set_option maxHeartbeats 4000000 in
theorem mdigK_3_4_2_2 {xs : List Int32} {e : Nat} {ac : Int} {M0 M : nM} (hS : Sf 2 ac M0 M) (hdm : M0 112 0 = 2) : nW xs (e + 1) 152 0 [some (2, 112), some (0, 4), some (0, 3), some (0, 2)] [] M (nPI fun z M1 => M = M1 ∧ (0 ≤ z ∧ z ≤ 0)) := by
  have hd : (2 : Int) = 2 ∨ (2 : Int) = 3 := by decide
  have hac := hS.2.2.2.2
  refine n_iload_n c_152_0 rfl ?_
  refine n_aload_n c_152_1 rfl ?_
  refine n_getV (bi := 0) c_152_2 sc_112.n rfl rfl rfl (t_dm hS hdm) ?_
  intro z1 ez1 f2
  obtain rfl : z1 = 2 := by omega
  refine n_iload_n c_152_5 rfl ?_
  refine n_iconst c_152_6 ?_
  refine n_isub c_152_7 rfl ?_
  refine n_iload_n c_152_8 rfl ?_
  refine n_isub c_152_9 rfl ?_
  have hcst : (((3 - 1) - 2) : Int) = 0 := by omega
  rw [hcst]
  refine n_s2I c_152_10 rfl rfl rfl rfl (mpower0_2  hS ) ?_
  intro z3 M4 hP5
  obtain ⟨eM, f5⟩ := hP5
  subst eM
  obtain rfl : z3 = 1 := by omega
  refine n_idivT (z := 4) c_152_13 (by omega) (by omega) (by omega) (by decide) ?_
  refine n_aload_n c_152_14 rfl ?_
  refine n_getV (bi := 0) c_152_15 sc_112.n rfl rfl rfl (t_dm hS hdm) ?_
  intro z6 ez6 f7
  obtain rfl : z6 = 2 := by omega
  refine n_iremT (z := 0) c_152_18 (by omega) (by omega) (by omega) (by decide) ?_
  exact n_rI c_152_19 rfl ⟨rfl, by omega⟩

set_option maxHeartbeats 4000000 in
theorem mdigK_3_5_2_2 {xs : List Int32} {e : Nat} {ac : Int} {M0 M : nM} (hS : Sf 2 ac M0 M) (hdm : M0 112 0 = 2) : nW xs (e + 1) 152 0 [some (2, 112), some (0, 5), some (0, 3), some (0, 2)] [] M (nPI fun z M1 => M = M1 ∧ (1 ≤ z ∧ z ≤ 1)) := by
  have hd : (2 : Int) = 2 ∨ (2 : Int) = 3 := by decide
  have hac := hS.2.2.2.2
  refine n_iload_n c_152_0 rfl ?_
  refine n_aload_n c_152_1 rfl ?_
  refine n_getV (bi := 0) c_152_2 sc_112.n rfl rfl rfl (t_dm hS hdm) ?_
  intro z1 ez1 f2
  obtain rfl : z1 = 2 := by omega
  refine n_iload_n c_152_5 rfl ?_
  refine n_iconst c_152_6 ?_
  refine n_isub c_152_7 rfl ?_
  refine n_iload_n c_152_8 rfl ?_
  refine n_isub c_152_9 rfl ?_
  have hcst : (((3 - 1) - 2) : Int) = 0 := by omega
  rw [hcst]
  refine n_s2I c_152_10 rfl rfl rfl rfl (mpower0_2  hS ) ?_
  intro z3 M4 hP5
  obtain ⟨eM, f5⟩ := hP5
  subst eM
  obtain rfl : z3 = 1 := by omega
  refine n_idivT (z := 5) c_152_13 (by omega) (by omega) (by omega) (by decide) ?_
  refine n_aload_n c_152_14 rfl ?_
  refine n_getV (bi := 0) c_152_15 sc_112.n rfl rfl rfl (t_dm hS hdm) ?_
  intro z6 ez6 f7
  obtain rfl : z6 = 2 := by omega
  refine n_iremT (z := 1) c_152_18 (by omega) (by omega) (by omega) (by decide) ?_
  exact n_rI c_152_19 rfl ⟨rfl, by omega⟩

set_option maxHeartbeats 4000000 in
theorem mdigK_3_6_2_2 {xs : List Int32} {e : Nat} {ac : Int} {M0 M : nM} (hS : Sf 2 ac M0 M) (hdm : M0 112 0 = 2) : nW xs (e + 1) 152 0 [some (2, 112), some (0, 6), some (0, 3), some (0, 2)] [] M (nPI fun z M1 => M = M1 ∧ (0 ≤ z ∧ z ≤ 0)) := by
  have hd : (2 : Int) = 2 ∨ (2 : Int) = 3 := by decide
  have hac := hS.2.2.2.2
  refine n_iload_n c_152_0 rfl ?_
  refine n_aload_n c_152_1 rfl ?_
  refine n_getV (bi := 0) c_152_2 sc_112.n rfl rfl rfl (t_dm hS hdm) ?_
  intro z1 ez1 f2
  obtain rfl : z1 = 2 := by omega
  refine n_iload_n c_152_5 rfl ?_
  refine n_iconst c_152_6 ?_
  refine n_isub c_152_7 rfl ?_
  refine n_iload_n c_152_8 rfl ?_
  refine n_isub c_152_9 rfl ?_
  have hcst : (((3 - 1) - 2) : Int) = 0 := by omega
  rw [hcst]
  refine n_s2I c_152_10 rfl rfl rfl rfl (mpower0_2  hS ) ?_
  intro z3 M4 hP5
  obtain ⟨eM, f5⟩ := hP5
  subst eM
  obtain rfl : z3 = 1 := by omega
  refine n_idivT (z := 6) c_152_13 (by omega) (by omega) (by omega) (by decide) ?_
  refine n_aload_n c_152_14 rfl ?_
  refine n_getV (bi := 0) c_152_15 sc_112.n rfl rfl rfl (t_dm hS hdm) ?_
  intro z6 ez6 f7
  obtain rfl : z6 = 2 := by omega
  refine n_iremT (z := 0) c_152_18 (by omega) (by omega) (by omega) (by decide) ?_
  exact n_rI c_152_19 rfl ⟨rfl, by omega⟩

set_option maxHeartbeats 4000000 in
theorem mdigK_3_7_2_2 {xs : List Int32} {e : Nat} {ac : Int} {M0 M : nM} (hS : Sf 2 ac M0 M) (hdm : M0 112 0 = 2) : nW xs (e + 1) 152 0 [some (2, 112), some (0, 7), some (0, 3), some (0, 2)] [] M (nPI fun z M1 => M = M1 ∧ (1 ≤ z ∧ z ≤ 1)) := by
  have hd : (2 : Int) = 2 ∨ (2 : Int) = 3 := by decide
  have hac := hS.2.2.2.2
  refine n_iload_n c_152_0 rfl ?_
  refine n_aload_n c_152_1 rfl ?_
  refine n_getV (bi := 0) c_152_2 sc_112.n rfl rfl rfl (t_dm hS hdm) ?_
  intro z1 ez1 f2
  obtain rfl : z1 = 2 := by omega
  refine n_iload_n c_152_5 rfl ?_
  refine n_iconst c_152_6 ?_
  refine n_isub c_152_7 rfl ?_
  refine n_iload_n c_152_8 rfl ?_
  refine n_isub c_152_9 rfl ?_
  have hcst : (((3 - 1) - 2) : Int) = 0 := by omega
  rw [hcst]
  refine n_s2I c_152_10 rfl rfl rfl rfl (mpower0_2  hS ) ?_
  intro z3 M4 hP5
  obtain ⟨eM, f5⟩ := hP5
  subst eM
  obtain rfl : z3 = 1 := by omega
  refine n_idivT (z := 7) c_152_13 (by omega) (by omega) (by omega) (by decide) ?_
  refine n_aload_n c_152_14 rfl ?_
  refine n_getV (bi := 0) c_152_15 sc_112.n rfl rfl rfl (t_dm hS hdm) ?_
  intro z6 ez6 f7
  obtain rfl : z6 = 2 := by omega
  refine n_iremT (z := 1) c_152_18 (by omega) (by omega) (by omega) (by decide) ?_
  exact n_rI c_152_19 rfl ⟨rfl, by omega⟩

set_option maxHeartbeats 4000000 in
theorem morderedZ_3_2_c {xs : List Int32} {e : Nat} {ac : Int} {M : nM} {m : Int} {Ms : nM} (hS : Sf 2 ac M M) (hdm : M 112 0 = 2) (hm : 0 ≤ m ∧ m ≤ 256) (hms : M = Ms) (hdf : Dif (cdr 3 Ms) m) : ∀ nn : Nat, (∀ (x3 : Int) (M : nM), Sf 2 ac M M → (1 ≤ x3 ∧ x3 ≤ 256) → (M 112 0 = 2) → (∀ a i : Int, a ≠ 122 → a ≠ 123 → M a i = Ms a i) → (PMf m (cdr 3 Ms) (szr 3 Ms) (cdr 3 M) (szr 3 M)) → (SO (cdr 3 M) (szr 3 M) x3) → (Dif (cdr 3 M) m) → (F6 3 Ms M) → (256 - x3) * 258 + 258 < (nn : Int) → nW xs (e + 1) 166 2 [some (2, 112), some (0, 3), some (0, m), some (0, x3), none, none, none] [] M (nPV fun M1 => Sf 2 ac M1 M1 ∧ (∀ a i : Int, a ≠ 122 → a ≠ 123 → M1 a i = Ms a i) ∧ (PMr 3 m Ms M1) ∧ (Srt (cdr 3 M1) (szr 3 M1) m) ∧ (F6 3 Ms M1))) ∧ (∀ (x3 x4 x5 x6 : Int) (M : nM), Sf 2 ac M M → (2 ≤ m ∧ m ≤ 256) → (1 ≤ x3 ∧ x3 ≤ 255) → (0 ≤ x4 ∧ x4 ≤ 19682) → (0 ≤ x5 ∧ x5 ≤ 1000000) → (0 ≤ x6 ∧ x6 ≤ 255) → (M 112 0 = 2) → (∀ a i : Int, a ≠ 122 → a ≠ 123 → M a i = Ms a i) → (PMf m (cdr 3 Ms) (szr 3 Ms) (vw (cdr 3 M) x6 x4) (vw (szr 3 M) x6 x5)) → (SO1 (cdr 3 M) (szr 3 M) x3 x6) → (SO2 (cdr 3 M) (szr 3 M) x4 x5 x3 x6) → (Dif (vw (cdr 3 M) x6 x4) m) → (x6 ≤ x3) → (x3 < m) → (F6 3 Ms M) → (256 - x3) * 258 + (x6 - 0) * 1 + 1 < (nn : Int) → nW xs (e + 1) 166 38 [some (2, 112), some (0, 3), some (0, m), some (0, x3), some (0, x4), some (0, x5), some (0, x6)] [] M (nPV fun M1 => Sf 2 ac M1 M1 ∧ (∀ a i : Int, a ≠ 122 → a ≠ 123 → M1 a i = Ms a i) ∧ (PMr 3 m Ms M1) ∧ (Srt (cdr 3 M1) (szr 3 M1) m) ∧ (F6 3 Ms M1))) := by
  have hd : (2 : Int) = 2 ∨ (2 : Int) = 3 := by decide
  have hac := hS.2.2.2.2
  intro nn
  induction nn with
  | zero => refine ⟨?_, ?_⟩ <;> (intros; omega)
  | succ nn ih =>
    refine ⟨?_, ?_⟩
    · intro x3 M hS k3 hdm v0 v1 v2 v3 v4 hnn
      refine n_iload_n c_166_2 rfl ?_
      refine n_iload_n c_166_3 rfl ?_
      refine n_if2_ge c_166_4 (by omega) (by omega) ?_ ?_
      · intro h1
        exact n_rV c_166_189 rfl ⟨hS, by exact v0, by exact v1, by exact fun i j i0 ij j1 => v2 i j i0 ij (by omega), by exact v4⟩
      · intro h2
        refine n_aload_n c_166_7 rfl ?_
        refine n_getR c_166_8 sc_112.n rfl rfl rfl r_112_14 ?_
        refine n_sipush c_166_11 rfl ?_
        refine n_iload_n c_166_14 rfl ?_
        refine n_imul c_166_15 rfl ?_
        refine n_iload_n c_166_16 rfl ?_
        refine n_iadd c_166_17 rfl ?_
        refine n_ialoadV c_166_18 sc_122.n rfl rfl rfl (by omega) (t_122 hS (by omega)) ?_
        intro z3 ez3 f4
        refine n_istore (L2 := [some (2, 112), some (0, 3), some (0, m), some (0, x3), some (0, z3), none, none]) c_166_19 rfl rfl ?_
        refine n_aload_n c_166_21 rfl ?_
        refine n_getR c_166_22 sc_112.n rfl rfl rfl r_112_15 ?_
        refine n_sipush c_166_25 rfl ?_
        refine n_iload_n c_166_28 rfl ?_
        refine n_imul c_166_29 rfl ?_
        refine n_iload_n c_166_30 rfl ?_
        refine n_iadd c_166_31 rfl ?_
        refine n_ialoadV c_166_32 sc_123.n rfl rfl rfl (by omega) (t_123 hS (by omega)) ?_
        intro z5 ez5 f6
        refine n_istore (L2 := [some (2, 112), some (0, 3), some (0, m), some (0, x3), some (0, z3), some (0, z5), none]) c_166_33 rfl rfl ?_
        refine n_iload_n c_166_35 rfl ?_
        refine n_istore (L2 := [some (2, 112), some (0, 3), some (0, m), some (0, x3), some (0, z3), some (0, z5), some (0, x3)]) c_166_36 rfl rfl ?_
        refine n_fg (le_s (le_s (le_s (le_s (le_s (le_s (le_s le_0))))))) ?_
        exact ih.2 _ _ _ _ M hS (by omega) (by omega) (by omega) (by omega) (by omega) (by omega) (by exact v0) (by rw [(show z3 = cdr 3 M x3 from ez3), (show z5 = szr 3 M x3 from ez5), vw_s, vw_s]; exact v1) (by exact fun a b a0 ab b1 an bn => v2 a b a0 ab (by omega)) (by exact fun b b0 b1 => by omega) (by rw [(show z3 = cdr 3 M x3 from ez3), vw_s]; exact v3) (by omega) (by omega) (by exact v4) (by omega)
    · intro x3 x4 x5 x6 M hS k2 k3 k4 k5 k6 hdm v0 v1 v2 v3 v4 v5 v6 v7 hnn
      refine n_iload c_166_38 rfl ?_
      refine n_if0_le c_166_40 (by omega) ?_ ?_
      · intro h1
        refine n_aload_n c_166_153 rfl ?_
        refine n_getR c_166_154 sc_112.n rfl rfl rfl r_112_14 ?_
        refine n_sipush c_166_157 rfl ?_
        refine n_iload_n c_166_160 rfl ?_
        refine n_imul c_166_161 rfl ?_
        refine n_iload c_166_162 rfl ?_
        refine n_iadd c_166_164 rfl ?_
        refine n_iload c_166_165 rfl ?_
        refine n_iastoreM hS c_166_167 sc_122.n rfl (by omega) (m_122 (by omega) (by omega)) ?_
        intro M2 eM2 hS2
        have g2_0 : M2 112 0 = M 112 0 := by rw [eM2]; exact nu_a (by omega)
        refine n_aload_n c_166_168 rfl ?_
        refine n_getR c_166_169 sc_112.n rfl rfl rfl r_112_15 ?_
        refine n_sipush c_166_172 rfl ?_
        refine n_iload_n c_166_175 rfl ?_
        refine n_imul c_166_176 rfl ?_
        refine n_iload c_166_177 rfl ?_
        refine n_iadd c_166_179 rfl ?_
        refine n_iload c_166_180 rfl ?_
        refine n_iastoreM hS2 c_166_182 sc_123.n rfl (by omega) (m_123 (by omega) (by omega)) ?_
        intro M3 eM3 hS3
        have g3_0 : M3 112 0 = M2 112 0 := by rw [eM3]; exact nu_a (by omega)
        refine n_iinc (L2 := [some (2, 112), some (0, 3), some (0, m), some (0, (x3 + 1)), some (0, x4), some (0, x5), some (0, x6)]) c_166_183 rfl rfl rfl ?_
        refine n_goto c_166_186 ?_
        refine n_fg (le_s (le_s (le_s (le_s (le_n (le_n (le_n le_0))))))) ?_
        exact ih.1 _ M3 hS3 (by omega) (by omega) (by exact fun a i q1 q2 => by rw [eM3, nu_a (by omega), eM2, nu_a (by omega)]; exact v0 a i q1 q2) (by obtain ⟨ew1, ew2⟩ := cdr_w (n := 3) (k := x6) eM2 eM3 (by omega) (by omega); rw [ew1, ew2]; exact v1) (by obtain ⟨ew1, ew2⟩ := cdr_w (n := 3) (k := x6) eM2 eM3 (by omega) (by omega); rw [ew1, ew2]; exact SO.fin v2 v3 (fun q => by omega)) (by obtain ⟨ew1, ew2⟩ := cdr_w (n := 3) (k := x6) eM2 eM3 (by omega) (by omega); rw [ew1]; exact v4) (by exact fun a i q1 q2 => by rw [eM3, nu_e, if_neg (by omega), eM2, nu_e, if_neg (by omega)]; exact v7 a i q1 q2) (by omega)
      · intro h4
        refine n_aload_n c_166_43 rfl ?_
        refine n_iload_n c_166_44 rfl ?_
        refine n_iload c_166_45 rfl ?_
        refine n_iconst c_166_47 ?_
        refine n_isub c_166_48 rfl ?_
        refine n_v2I c_166_49 rfl sc_112.n rfl rfl rfl rfl (msizeOfX_3_2 (i := (x6 - 1)) hS (by omega) (by omega)) ?_
        intro z5 M6 hP7
        obtain ⟨eM, f7, f7p0⟩ := hP7
        subst eM
        refine n_iload c_166_52 rfl ?_
        refine n_if2_gt c_166_54 (by omega) (by omega) ?_ ?_
        · intro h8
          refine n_aload_n c_166_91 rfl ?_
          refine n_getR c_166_92 sc_112.n rfl rfl rfl r_112_14 ?_
          refine n_sipush c_166_95 rfl ?_
          refine n_iload_n c_166_98 rfl ?_
          refine n_imul c_166_99 rfl ?_
          refine n_iload c_166_100 rfl ?_
          refine n_iadd c_166_102 rfl ?_
          refine n_aload_n c_166_103 rfl ?_
          refine n_getR c_166_104 sc_112.n rfl rfl rfl r_112_14 ?_
          refine n_sipush c_166_107 rfl ?_
          refine n_iload_n c_166_110 rfl ?_
          refine n_imul c_166_111 rfl ?_
          refine n_iload c_166_112 rfl ?_
          refine n_iadd c_166_114 rfl ?_
          refine n_iconst c_166_115 ?_
          refine n_isub c_166_116 rfl ?_
          refine n_ialoadV c_166_117 sc_122.n rfl rfl rfl (by omega) (t_122 hS (by omega)) ?_
          intro z9 ez9 f10
          refine n_iastoreM hS c_166_118 sc_122.n rfl (by omega) (m_122 (by omega) (by omega)) ?_
          intro M11 eM11 hS11
          have g11_0 : M11 112 0 = M 112 0 := by rw [eM11]; exact nu_a (by omega)
          refine n_aload_n c_166_119 rfl ?_
          refine n_getR c_166_120 sc_112.n rfl rfl rfl r_112_15 ?_
          refine n_sipush c_166_123 rfl ?_
          refine n_iload_n c_166_126 rfl ?_
          refine n_imul c_166_127 rfl ?_
          refine n_iload c_166_128 rfl ?_
          refine n_iadd c_166_130 rfl ?_
          refine n_aload_n c_166_131 rfl ?_
          refine n_getR c_166_132 sc_112.n rfl rfl rfl r_112_15 ?_
          refine n_sipush c_166_135 rfl ?_
          refine n_iload_n c_166_138 rfl ?_
          refine n_imul c_166_139 rfl ?_
          refine n_iload c_166_140 rfl ?_
          refine n_iadd c_166_142 rfl ?_
          refine n_iconst c_166_143 ?_
          refine n_isub c_166_144 rfl ?_
          refine n_ialoadV c_166_145 sc_123.n rfl rfl rfl (by omega) (t_123 hS11 (by omega)) ?_
          intro z12 ez12 f13
          refine n_iastoreM hS11 c_166_146 sc_123.n rfl (by omega) (m_123 (by omega) (by omega)) ?_
          intro M14 eM14 hS14
          have g14_0 : M14 112 0 = M11 112 0 := by rw [eM14]; exact nu_a (by omega)
          refine n_iinc (L2 := [some (2, 112), some (0, 3), some (0, m), some (0, x3), some (0, x4), some (0, x5), some (0, (x6 + (-1)))]) c_166_147 rfl rfl rfl ?_
          refine n_goto c_166_150 ?_
          refine n_fg (le_s (le_s (le_s (le_s (le_s (le_s (le_s le_0))))))) ?_
          exact ih.2 _ _ _ _ M14 hS14 (by omega) (by omega) (by omega) (by omega) (by omega) (by omega) (by exact fun a i q1 q2 => by rw [eM14, nu_a (by omega), eM11, nu_a (by omega)]; exact v0 a i q1 q2) (by have yv : z9 = cdr 3 M (x6 - 1) := (by rw [ez9]; unfold cdr; congr 1 <;> omega); have yw : z12 = szr 3 M (x6 - 1) := (by rw [ez12, eM11, nu_a (by omega)]; unfold szr; congr 1 <;> omega); obtain ⟨ew1, ew2⟩ := cdr_w (n := 3) (k := x6) eM11 eM14 (by omega) (by omega); rw [yv] at ew1; rw [yw] at ew2; rw [ew1, ew2]; exact v1.sh (by omega) (by omega)) (by have yv : z9 = cdr 3 M (x6 - 1) := (by rw [ez9]; unfold cdr; congr 1 <;> omega); have yw : z12 = szr 3 M (x6 - 1) := (by rw [ez12, eM11, nu_a (by omega)]; unfold szr; congr 1 <;> omega); obtain ⟨ew1, ew2⟩ := cdr_w (n := 3) (k := x6) eM11 eM14 (by omega) (by omega); rw [yv] at ew1; rw [yw] at ew2; rw [ew1, ew2]; exact v2.sh (by omega)) (by have y1 : z5 = szr 3 M (x6 - 1) := (by rw [f7p0]; unfold szr; congr 1 <;> omega); have yv : z9 = cdr 3 M (x6 - 1) := (by rw [ez9]; unfold cdr; congr 1 <;> omega); have yw : z12 = szr 3 M (x6 - 1) := (by rw [ez12, eM11, nu_a (by omega)]; unfold szr; congr 1 <;> omega); obtain ⟨ew1, ew2⟩ := cdr_w (n := 3) (k := x6) eM11 eM14 (by omega) (by omega); rw [yv] at ew1; rw [yw] at ew2; rw [ew1, ew2]; exact v3.sh (by omega)) (by have yv : z9 = cdr 3 M (x6 - 1) := (by rw [ez9]; unfold cdr; congr 1 <;> omega); have yw : z12 = szr 3 M (x6 - 1) := (by rw [ez12, eM11, nu_a (by omega)]; unfold szr; congr 1 <;> omega); obtain ⟨ew1, ew2⟩ := cdr_w (n := 3) (k := x6) eM11 eM14 (by omega) (by omega); rw [yv] at ew1; rw [yw] at ew2; rw [ew1]; exact v4.sh (by omega) (by omega)) (by omega) (by omega) (by exact fun a i q1 q2 => by rw [eM14, nu_e, if_neg (by omega), eM11, nu_e, if_neg (by omega)]; exact v7 a i q1 q2) (by omega)
        · intro h15
          refine n_aload_n c_166_57 rfl ?_
          refine n_iload_n c_166_58 rfl ?_
          refine n_iload c_166_59 rfl ?_
          refine n_iconst c_166_61 ?_
          refine n_isub c_166_62 rfl ?_
          refine n_v2I c_166_63 rfl sc_112.n rfl rfl rfl rfl (msizeOfX_3_2 (i := (x6 - 1)) hS (by omega) (by omega)) ?_
          intro z16 M17 hP18
          obtain ⟨eM, f18, f18p0⟩ := hP18
          subst eM
          refine n_iload c_166_66 rfl ?_
          refine n_if2_ne c_166_68 (by omega) (by omega) ?_ ?_
          · intro h19
            refine n_aload_n c_166_153 rfl ?_
            refine n_getR c_166_154 sc_112.n rfl rfl rfl r_112_14 ?_
            refine n_sipush c_166_157 rfl ?_
            refine n_iload_n c_166_160 rfl ?_
            refine n_imul c_166_161 rfl ?_
            refine n_iload c_166_162 rfl ?_
            refine n_iadd c_166_164 rfl ?_
            refine n_iload c_166_165 rfl ?_
            refine n_iastoreM hS c_166_167 sc_122.n rfl (by omega) (m_122 (by omega) (by omega)) ?_
            intro M20 eM20 hS20
            have g20_0 : M20 112 0 = M 112 0 := by rw [eM20]; exact nu_a (by omega)
            refine n_aload_n c_166_168 rfl ?_
            refine n_getR c_166_169 sc_112.n rfl rfl rfl r_112_15 ?_
            refine n_sipush c_166_172 rfl ?_
            refine n_iload_n c_166_175 rfl ?_
            refine n_imul c_166_176 rfl ?_
            refine n_iload c_166_177 rfl ?_
            refine n_iadd c_166_179 rfl ?_
            refine n_iload c_166_180 rfl ?_
            refine n_iastoreM hS20 c_166_182 sc_123.n rfl (by omega) (m_123 (by omega) (by omega)) ?_
            intro M21 eM21 hS21
            have g21_0 : M21 112 0 = M20 112 0 := by rw [eM21]; exact nu_a (by omega)
            refine n_iinc (L2 := [some (2, 112), some (0, 3), some (0, m), some (0, (x3 + 1)), some (0, x4), some (0, x5), some (0, x6)]) c_166_183 rfl rfl rfl ?_
            refine n_goto c_166_186 ?_
            refine n_fg (le_s (le_s (le_s (le_s (le_n (le_n (le_n le_0))))))) ?_
            exact ih.1 _ M21 hS21 (by omega) (by omega) (by exact fun a i q1 q2 => by rw [eM21, nu_a (by omega), eM20, nu_a (by omega)]; exact v0 a i q1 q2) (by obtain ⟨ew1, ew2⟩ := cdr_w (n := 3) (k := x6) eM20 eM21 (by omega) (by omega); rw [ew1, ew2]; exact v1) (by obtain ⟨ew1, ew2⟩ := cdr_w (n := 3) (k := x6) eM20 eM21 (by omega) (by omega); rw [ew1, ew2]; exact SO.fin v2 v3 (fun q => by have y1 : z5 = szr 3 M (x6 - 1) := (by rw [f7p0]; unfold szr; congr 1 <;> omega); have y3 := v4.nk (by omega) (by omega); omega)) (by obtain ⟨ew1, ew2⟩ := cdr_w (n := 3) (k := x6) eM20 eM21 (by omega) (by omega); rw [ew1]; exact v4) (by exact fun a i q1 q2 => by rw [eM21, nu_e, if_neg (by omega), eM20, nu_e, if_neg (by omega)]; exact v7 a i q1 q2) (by omega)
          · intro h22
            refine n_aload_n c_166_71 rfl ?_
            refine n_getR c_166_72 sc_112.n rfl rfl rfl r_112_14 ?_
            refine n_sipush c_166_75 rfl ?_
            refine n_iload_n c_166_78 rfl ?_
            refine n_imul c_166_79 rfl ?_
            refine n_iload c_166_80 rfl ?_
            refine n_iadd c_166_82 rfl ?_
            refine n_iconst c_166_83 ?_
            refine n_isub c_166_84 rfl ?_
            refine n_ialoadV c_166_85 sc_122.n rfl rfl rfl (by omega) (t_122 hS (by omega)) ?_
            intro z23 ez23 f24
            refine n_iload c_166_86 rfl ?_
            refine n_if2_le c_166_88 (by omega) (by omega) ?_ ?_
            · intro h25
              refine n_aload_n c_166_153 rfl ?_
              refine n_getR c_166_154 sc_112.n rfl rfl rfl r_112_14 ?_
              refine n_sipush c_166_157 rfl ?_
              refine n_iload_n c_166_160 rfl ?_
              refine n_imul c_166_161 rfl ?_
              refine n_iload c_166_162 rfl ?_
              refine n_iadd c_166_164 rfl ?_
              refine n_iload c_166_165 rfl ?_
              refine n_iastoreM hS c_166_167 sc_122.n rfl (by omega) (m_122 (by omega) (by omega)) ?_
              intro M26 eM26 hS26
              have g26_0 : M26 112 0 = M 112 0 := by rw [eM26]; exact nu_a (by omega)
              refine n_aload_n c_166_168 rfl ?_
              refine n_getR c_166_169 sc_112.n rfl rfl rfl r_112_15 ?_
              refine n_sipush c_166_172 rfl ?_
              refine n_iload_n c_166_175 rfl ?_
              refine n_imul c_166_176 rfl ?_
              refine n_iload c_166_177 rfl ?_
              refine n_iadd c_166_179 rfl ?_
              refine n_iload c_166_180 rfl ?_
              refine n_iastoreM hS26 c_166_182 sc_123.n rfl (by omega) (m_123 (by omega) (by omega)) ?_
              intro M27 eM27 hS27
              have g27_0 : M27 112 0 = M26 112 0 := by rw [eM27]; exact nu_a (by omega)
              refine n_iinc (L2 := [some (2, 112), some (0, 3), some (0, m), some (0, (x3 + 1)), some (0, x4), some (0, x5), some (0, x6)]) c_166_183 rfl rfl rfl ?_
              refine n_goto c_166_186 ?_
              refine n_fg (le_s (le_s (le_s (le_s (le_n (le_n (le_n le_0))))))) ?_
              exact ih.1 _ M27 hS27 (by omega) (by omega) (by exact fun a i q1 q2 => by rw [eM27, nu_a (by omega), eM26, nu_a (by omega)]; exact v0 a i q1 q2) (by obtain ⟨ew1, ew2⟩ := cdr_w (n := 3) (k := x6) eM26 eM27 (by omega) (by omega); rw [ew1, ew2]; exact v1) (by obtain ⟨ew1, ew2⟩ := cdr_w (n := 3) (k := x6) eM26 eM27 (by omega) (by omega); rw [ew1, ew2]; exact SO.fin v2 v3 (fun q => by have y1 : z5 = szr 3 M (x6 - 1) := (by rw [f7p0]; unfold szr; congr 1 <;> omega); have y3 := v4.nk (by omega) (by omega); have y2 : z23 = cdr 3 M (x6 - 1) := (by rw [ez23]; unfold cdr; congr 1 <;> omega); omega)) (by obtain ⟨ew1, ew2⟩ := cdr_w (n := 3) (k := x6) eM26 eM27 (by omega) (by omega); rw [ew1]; exact v4) (by exact fun a i q1 q2 => by rw [eM27, nu_e, if_neg (by omega), eM26, nu_e, if_neg (by omega)]; exact v7 a i q1 q2) (by omega)
            · intro h28
              refine n_aload_n c_166_91 rfl ?_
              refine n_getR c_166_92 sc_112.n rfl rfl rfl r_112_14 ?_
              refine n_sipush c_166_95 rfl ?_
              refine n_iload_n c_166_98 rfl ?_
              refine n_imul c_166_99 rfl ?_
              refine n_iload c_166_100 rfl ?_
              refine n_iadd c_166_102 rfl ?_
              refine n_aload_n c_166_103 rfl ?_
              refine n_getR c_166_104 sc_112.n rfl rfl rfl r_112_14 ?_
              refine n_sipush c_166_107 rfl ?_
              refine n_iload_n c_166_110 rfl ?_
              refine n_imul c_166_111 rfl ?_
              refine n_iload c_166_112 rfl ?_
              refine n_iadd c_166_114 rfl ?_
              refine n_iconst c_166_115 ?_
              refine n_isub c_166_116 rfl ?_
              refine n_ialoadV c_166_117 sc_122.n rfl rfl rfl (by omega) (t_122 hS (by omega)) ?_
              intro z29 ez29 f30
              refine n_iastoreM hS c_166_118 sc_122.n rfl (by omega) (m_122 (by omega) (by omega)) ?_
              intro M31 eM31 hS31
              have g31_0 : M31 112 0 = M 112 0 := by rw [eM31]; exact nu_a (by omega)
              refine n_aload_n c_166_119 rfl ?_
              refine n_getR c_166_120 sc_112.n rfl rfl rfl r_112_15 ?_
              refine n_sipush c_166_123 rfl ?_
              refine n_iload_n c_166_126 rfl ?_
              refine n_imul c_166_127 rfl ?_
              refine n_iload c_166_128 rfl ?_
              refine n_iadd c_166_130 rfl ?_
              refine n_aload_n c_166_131 rfl ?_
              refine n_getR c_166_132 sc_112.n rfl rfl rfl r_112_15 ?_
              refine n_sipush c_166_135 rfl ?_
              refine n_iload_n c_166_138 rfl ?_
              refine n_imul c_166_139 rfl ?_
              refine n_iload c_166_140 rfl ?_
              refine n_iadd c_166_142 rfl ?_
              refine n_iconst c_166_143 ?_
              refine n_isub c_166_144 rfl ?_
              refine n_ialoadV c_166_145 sc_123.n rfl rfl rfl (by omega) (t_123 hS31 (by omega)) ?_
              intro z32 ez32 f33
              refine n_iastoreM hS31 c_166_146 sc_123.n rfl (by omega) (m_123 (by omega) (by omega)) ?_
              intro M34 eM34 hS34
              have g34_0 : M34 112 0 = M31 112 0 := by rw [eM34]; exact nu_a (by omega)
              refine n_iinc (L2 := [some (2, 112), some (0, 3), some (0, m), some (0, x3), some (0, x4), some (0, x5), some (0, (x6 + (-1)))]) c_166_147 rfl rfl rfl ?_
              refine n_goto c_166_150 ?_
              refine n_fg (le_s (le_s (le_s (le_s (le_s (le_s (le_s le_0))))))) ?_
              exact ih.2 _ _ _ _ M34 hS34 (by omega) (by omega) (by omega) (by omega) (by omega) (by omega) (by exact fun a i q1 q2 => by rw [eM34, nu_a (by omega), eM31, nu_a (by omega)]; exact v0 a i q1 q2) (by have yv : z29 = cdr 3 M (x6 - 1) := (by rw [ez29]; unfold cdr; congr 1 <;> omega); have yw : z32 = szr 3 M (x6 - 1) := (by rw [ez32, eM31, nu_a (by omega)]; unfold szr; congr 1 <;> omega); obtain ⟨ew1, ew2⟩ := cdr_w (n := 3) (k := x6) eM31 eM34 (by omega) (by omega); rw [yv] at ew1; rw [yw] at ew2; rw [ew1, ew2]; exact v1.sh (by omega) (by omega)) (by have yv : z29 = cdr 3 M (x6 - 1) := (by rw [ez29]; unfold cdr; congr 1 <;> omega); have yw : z32 = szr 3 M (x6 - 1) := (by rw [ez32, eM31, nu_a (by omega)]; unfold szr; congr 1 <;> omega); obtain ⟨ew1, ew2⟩ := cdr_w (n := 3) (k := x6) eM31 eM34 (by omega) (by omega); rw [yv] at ew1; rw [yw] at ew2; rw [ew1, ew2]; exact v2.sh (by omega)) (by have y1 : z5 = szr 3 M (x6 - 1) := (by rw [f7p0]; unfold szr; congr 1 <;> omega); have y4 : z16 = szr 3 M (x6 - 1) := (by rw [f18p0]; unfold szr; congr 1 <;> omega); have y2 : z23 = cdr 3 M (x6 - 1) := (by rw [ez23]; unfold cdr; congr 1 <;> omega); have yv : z29 = cdr 3 M (x6 - 1) := (by rw [ez29]; unfold cdr; congr 1 <;> omega); have yw : z32 = szr 3 M (x6 - 1) := (by rw [ez32, eM31, nu_a (by omega)]; unfold szr; congr 1 <;> omega); obtain ⟨ew1, ew2⟩ := cdr_w (n := 3) (k := x6) eM31 eM34 (by omega) (by omega); rw [yv] at ew1; rw [yw] at ew2; rw [ew1, ew2]; exact v3.sh (by omega)) (by have yv : z29 = cdr 3 M (x6 - 1) := (by rw [ez29]; unfold cdr; congr 1 <;> omega); have yw : z32 = szr 3 M (x6 - 1) := (by rw [ez32, eM31, nu_a (by omega)]; unfold szr; congr 1 <;> omega); obtain ⟨ew1, ew2⟩ := cdr_w (n := 3) (k := x6) eM31 eM34 (by omega) (by omega); rw [yv] at ew1; rw [yw] at ew2; rw [ew1]; exact v4.sh (by omega) (by omega)) (by omega) (by omega) (by exact fun a i q1 q2 => by rw [eM34, nu_e, if_neg (by omega), eM31, nu_e, if_neg (by omega)]; exact v7 a i q1 q2) (by omega)
set_option maxHeartbeats 4000000 in
theorem morderedZ_3_2 {xs : List Int32} {e : Nat} {ac : Int} {M : nM} {m : Int} {Ms : nM} (hS : Sf 2 ac M M) (hdm : M 112 0 = 2) (hm : 0 ≤ m ∧ m ≤ 256) (hms : M = Ms) (hdf : Dif (cdr 3 Ms) m) : nW xs (e + 1) 166 0 [some (2, 112), some (0, 3), some (0, m), none, none, none, none] [] M (nPV fun M1 => Sf 2 ac M1 M1 ∧ (∀ a i : Int, a ≠ 122 → a ≠ 123 → M1 a i = Ms a i) ∧ (PMr 3 m Ms M1) ∧ (Srt (cdr 3 M1) (szr 3 M1) m) ∧ (F6 3 Ms M1)) := by
  have hd : (2 : Int) = 2 ∨ (2 : Int) = 3 := by decide
  have hac := hS.2.2.2.2
  refine n_iconst c_166_0 ?_
  refine n_istore_n (L2 := [some (2, 112), some (0, 3), some (0, m), some (0, 1), none, none, none]) c_166_1 rfl rfl ?_
  refine n_fg (le_s (le_s (le_s (le_s (le_n (le_n (le_n le_0))))))) ?_
  exact (morderedZ_3_2_c hS hdm hm hms hdf 132622).1 _ M hS (by omega) (by omega) (by rw [hms]; exact fun _ _ _ _ => rfl) (by rw [hms]; exact ⟨fun i i0 i1 => ⟨i, i0, i1, rfl, rfl⟩, fun i i0 i1 => ⟨i, i0, i1, rfl, rfl⟩⟩) (by exact fun a b a0 ab b1 => by omega) (by rw [hms]; exact hdf) (by rw [hms]; exact fun _ _ _ _ => rfl) (by omega)
