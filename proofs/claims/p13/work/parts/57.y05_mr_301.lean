/-! What the methods tell. -/
set_option maxHeartbeats 4000000 in
theorem mmadeX_1_3 {xs : List Int32} {e : Nat} {ac : Int} {M : nM} {gd : Int} {Ms : nM} (hS : Sf 3 ac M M) (hdm : M 112 0 = 3) (hgd : M 112 0 = gd) (hms : M = Ms) (hac4 : Ms 112 4 = ac) (hwr : ∀ a : Int, 0 ≤ a → a < ac → WR 3 a Ms) (hkr : Ms 124 1 ≠ -1 → cMd (NCl 3 3 1 ac (Tm Ms)) (Ms 124 1)) : nW xs (e + 3) 168 0 [some (2, 112), some (0, 1)] [] M (nPI fun z M1 => Sf 3 ac M1 M1 ∧ (-2147483648 ≤ z ∧ z ≤ 2147483647) ∧ (M1 112 0 = gd) ∧ ((M1 124 1 ≠ -1 → cMd (NCl 3 3 1 ac (Tm Ms)) (M1 124 1)) ∧ F5 1 Ms M1) ∧ (cMd (NCl 3 3 1 ac (Tm Ms)) z)) := by
  have hd : (3 : Int) = 2 ∨ (3 : Int) = 3 := by decide
  have hac := hS.2.2.2.2
  refine n_aload_n c_168_0 rfl ?_
  refine n_iload_n c_168_1 rfl ?_
  refine n_v1I c_168_2 rfl sc_112.n rfl rfl rfl rfl (misMakX1_3  hS (by omega)) ?_
  intro z1 M2 hP3
  obtain ⟨eM, f3⟩ := hP3
  subst eM
  obtain rfl : z1 = 1 := by omega
  refine n_if0_ne c_168_5 (by omega) ?_ ?_
  · intro h4
    refine n_aload_n c_168_10 rfl ?_
    refine n_iload_n c_168_11 rfl ?_
    refine n_v1V c_168_12 rfl sc_112.n rfl rfl rfl rfl (mmakesX_1_3 (Ms := M) hS (by omega) (by rfl) (by rw [hms]; exact hac4) (by rw [hms]; exact hwr) (by rw [hms]; exact hkr)) ?_
    intro  M5 hP6
    obtain ⟨hS5, f6p0, f6p1⟩ := hP6
    have g112 := f6p1 112 0 (by omega) (by omega) (by omega) (by omega) (by omega)
    refine n_aload_n c_168_15 rfl ?_
    refine n_getR c_168_16 sc_112.n rfl rfl rfl r_112_16 ?_
    refine n_iload_n c_168_19 rfl ?_
    refine n_ialoadV c_168_20 sc_124.n rfl rfl rfl (by omega) (t_124 hS5 (by omega)) ?_
    intro z7 ez7 f8
    exact n_rI c_168_21 rfl ⟨hS5, by omega, by omega, by have y := f6p0; have u := f6p1; rw [hms] at y u; exact ⟨fun _ => y, u⟩, by have y := f6p0; rw [hms] at y; rw [ez7]; exact y⟩
  · intro h9
    exfalso; omega

set_option maxHeartbeats 4000000 in
theorem mmadeOfX_1_3 {xs : List Int32} {e : Nat} {ac : Int} {M : nM} {i w gd : Int} {Ms : nM} (hS : Sf 3 ac M M) (hdm : M 112 0 = 3) (hi : -2147483648 ≤ i ∧ i ≤ 2147483647) (hw : -2147483648 ≤ w ∧ w ≤ 2147483647) (hgd : M 112 0 = gd) (hms : M = Ms) (hac4 : Ms 112 4 = ac) (hwr : ∀ a : Int, 0 ≤ a → a < ac → WR 3 a Ms) (hkr : Ms 124 1 ≠ -1 → cMd (NCl 3 3 1 ac (Tm Ms)) (Ms 124 1)) : nW xs (e + 3) 169 0 [some (2, 112), some (0, 1), some (0, i), some (0, w)] [] M (nPI fun z M1 => Sf 3 ac M1 M1 ∧ (-2147483648 ≤ z ∧ z ≤ 2147483647) ∧ (M1 112 0 = gd) ∧ ((M1 124 1 ≠ -1 → cMd (NCl 3 3 1 ac (Tm Ms)) (M1 124 1)) ∧ F5 1 Ms M1)) := by
  have hd : (3 : Int) = 2 ∨ (3 : Int) = 3 := by decide
  have hac := hS.2.2.2.2
  refine n_aload_n c_169_0 rfl ?_
  refine n_iload_n c_169_1 rfl ?_
  refine n_v1I c_169_2 rfl sc_112.n rfl rfl rfl rfl (misMakX1_3  hS (by omega)) ?_
  intro z1 M2 hP3
  obtain ⟨eM, f3⟩ := hP3
  subst eM
  obtain rfl : z1 = 1 := by omega
  refine n_if0_ne c_169_5 (by omega) ?_ ?_
  · intro h4
    refine n_aload_n c_169_10 rfl ?_
    refine n_iload_n c_169_11 rfl ?_
    refine n_v1V c_169_12 rfl sc_112.n rfl rfl rfl rfl (mmakesX_1_3 (Ms := M) hS (by omega) (by rfl) (by rw [hms]; exact hac4) (by rw [hms]; exact hwr) (by rw [hms]; exact hkr)) ?_
    intro  M5 hP6
    obtain ⟨hS5, f6p0, f6p1⟩ := hP6
    have g112 := f6p1 112 0 (by omega) (by omega) (by omega) (by omega) (by omega)
    refine n_iload_n c_169_15 rfl ?_
    refine n_if0_lt c_169_16 (by omega) ?_ ?_
    · intro h7
      refine n_iconst c_169_29 ?_
      exact n_rI c_169_30 rfl ⟨hS5, by omega, by omega, by have y := f6p0; have u := f6p1; rw [hms] at y u; exact ⟨fun _ => y, u⟩⟩
    · intro h8
      refine n_iload_n c_169_19 rfl ?_
      refine n_aload_n c_169_20 rfl ?_
      refine n_getR c_169_21 sc_112.n rfl rfl rfl r_112_16 ?_
      refine n_iload_n c_169_24 rfl ?_
      refine n_ialoadV c_169_25 sc_124.n rfl rfl rfl (by omega) (t_124 hS5 (by omega)) ?_
      intro z9 ez9 f10
      refine n_if2_lt c_169_26 (by omega) (by omega) ?_ ?_
      · intro h11
        refine n_iload_n c_169_31 rfl ?_
        refine n_if0_ne c_169_32 (by omega) ?_ ?_
        · intro h12
          refine n_iload_n c_169_50 rfl ?_
          refine n_iconst c_169_51 ?_
          refine n_if2_ne c_169_52 (by omega) (by omega) ?_ ?_
          · intro h13
            refine n_iconst c_169_64 ?_
            exact n_rI c_169_65 rfl ⟨hS5, by omega, by omega, by have y := f6p0; have u := f6p1; rw [hms] at y u; exact ⟨fun _ => y, u⟩⟩
          · intro h14
            refine n_aload_n c_169_55 rfl ?_
            refine n_iload_n c_169_56 rfl ?_
            refine n_iload_n c_169_57 rfl ?_
            refine n_v2I c_169_58 rfl sc_112.n rfl rfl rfl rfl (msizeOf_3 (n := 1) (i := i) hS5 (by omega) (by omega) (by omega)) ?_
            intro z15 M16 hP17
            obtain ⟨eM, f17⟩ := hP17
            subst eM
            refine n_goto c_169_61 ?_
            exact n_rI c_169_65 rfl ⟨hS5, by omega, by omega, by have y := f6p0; have u := f6p1; rw [hms] at y u; exact ⟨fun _ => y, u⟩⟩
        · intro h18
          refine n_aload_n c_169_35 rfl ?_
          refine n_getR c_169_36 sc_112.n rfl rfl rfl r_112_14 ?_
          refine n_sipush c_169_39 rfl ?_
          refine n_iload_n c_169_42 rfl ?_
          refine n_imul c_169_43 rfl ?_
          refine n_iload_n c_169_44 rfl ?_
          refine n_iadd c_169_45 rfl ?_
          refine n_ialoadV c_169_46 sc_122.n rfl rfl rfl (by omega) (t_122 hS5 (by omega)) ?_
          intro z19 ez19 f20
          refine n_goto c_169_47 ?_
          exact n_rI c_169_65 rfl ⟨hS5, by omega, by omega, by have y := f6p0; have u := f6p1; rw [hms] at y u; exact ⟨fun _ => y, u⟩⟩
      · intro h21
        refine n_iconst c_169_29 ?_
        exact n_rI c_169_30 rfl ⟨hS5, by omega, by omega, by have y := f6p0; have u := f6p1; rw [hms] at y u; exact ⟨fun _ => y, u⟩⟩
  · intro h22
    exfalso; omega

set_option maxHeartbeats 4000000 in
theorem msizeX_1_3_c {xs : List Int32} {e : Nat} {ac : Int} {M : nM} {c gd : Int} {Ms : nM} (hS : Sf 3 ac M M) (hdm : M 112 0 = 3) (hc : -2147483648 ≤ c ∧ c ≤ 2147483647) (hgd : M 112 0 = gd) (hms : M = Ms) (hac4 : Ms 112 4 = ac) (hwr : ∀ a : Int, 0 ≤ a → a < ac → WR 3 a Ms) (hkr : Ms 124 1 ≠ -1 → cMd (NCl 3 3 1 ac (Tm Ms)) (Ms 124 1)) : ∀ nn : Nat, (∀ (x3 : Int) (M : nM), Sf 3 ac M M → (0 ≤ c ∧ c ≤ 26) → (0 ≤ x3 ∧ x3 ≤ 256) → (M 112 0 = 3) → (M 112 0 = gd) → ((M 124 1 ≠ -1 → cMd (NCl 3 3 1 ac (Tm Ms)) (M 124 1)) ∧ F5 1 Ms M) → (256 - x3) * 1 + 1 < (nn : Int) → nW xs (e + 3) 170 51 [some (2, 112), some (0, 1), some (0, c), some (0, x3)] [] M (nPI fun z M1 => Sf 3 ac M1 M1 ∧ (-2147483648 ≤ z ∧ z ≤ 2147483647) ∧ (M1 112 0 = gd) ∧ ((M1 124 1 ≠ -1 → cMd (NCl 3 3 1 ac (Tm Ms)) (M1 124 1)) ∧ F5 1 Ms M1))) := by
  have hd : (3 : Int) = 2 ∨ (3 : Int) = 3 := by decide
  have hac := hS.2.2.2.2
  intro nn
  induction nn with
  | zero => intros; omega
  | succ nn ih =>
    intro x3 M hS k2 k3 hdm hggd v0 hnn
    refine n_iload_n c_170_51 rfl ?_
    refine n_aload_n c_170_52 rfl ?_
    refine n_getR c_170_53 sc_112.n rfl rfl rfl r_112_16 ?_
    refine n_iload_n c_170_56 rfl ?_
    refine n_ialoadV c_170_57 sc_124.n rfl rfl rfl (by omega) (t_124 hS (by omega)) ?_
    intro z1 ez1 f2
    refine n_if2_ge c_170_58 (by omega) (by omega) ?_ ?_
    · intro h3
      refine n_bipush c_170_90 rfl ?_
      exact n_rI c_170_92 rfl ⟨hS, by omega, by omega, by exact v0⟩
    · intro h4
      refine n_aload_n c_170_61 rfl ?_
      refine n_getR c_170_62 sc_112.n rfl rfl rfl r_112_14 ?_
      refine n_sipush c_170_65 rfl ?_
      refine n_iload_n c_170_68 rfl ?_
      refine n_imul c_170_69 rfl ?_
      refine n_iload_n c_170_70 rfl ?_
      refine n_iadd c_170_71 rfl ?_
      refine n_ialoadV c_170_72 sc_122.n rfl rfl rfl (by omega) (t_122 hS (by omega)) ?_
      intro z5 ez5 f6
      refine n_iload_n c_170_73 rfl ?_
      refine n_if2_ne c_170_74 (by omega) (by omega) ?_ ?_
      · intro h7
        refine n_iinc (L2 := [some (2, 112), some (0, 1), some (0, c), some (0, (x3 + 1))]) c_170_84 rfl rfl rfl ?_
        refine n_goto c_170_87 ?_
        refine n_fg (le_s (le_s (le_s (le_s le_0)))) ?_
        exact ih _ M hS (by omega) (by omega) (by omega) (by omega) (by exact v0) (by omega)
      · intro h8
        refine n_aload_n c_170_77 rfl ?_
        refine n_iload_n c_170_78 rfl ?_
        refine n_iload_n c_170_79 rfl ?_
        refine n_v2I c_170_80 rfl sc_112.n rfl rfl rfl rfl (msizeOf_3 (n := 1) (i := x3) hS (by omega) (by omega) (by omega)) ?_
        intro z9 M10 hP11
        obtain ⟨eM, f11⟩ := hP11
        subst eM
        exact n_rI c_170_83 rfl ⟨hS, by omega, by omega, by exact v0⟩
set_option maxHeartbeats 4000000 in
theorem msizeX_1_3 {xs : List Int32} {e : Nat} {ac : Int} {M : nM} {c gd : Int} {Ms : nM} (hS : Sf 3 ac M M) (hdm : M 112 0 = 3) (hc : -2147483648 ≤ c ∧ c ≤ 2147483647) (hgd : M 112 0 = gd) (hms : M = Ms) (hac4 : Ms 112 4 = ac) (hwr : ∀ a : Int, 0 ≤ a → a < ac → WR 3 a Ms) (hkr : Ms 124 1 ≠ -1 → cMd (NCl 3 3 1 ac (Tm Ms)) (Ms 124 1)) : nW xs (e + 3) 170 0 [some (2, 112), some (0, 1), some (0, c), none] [] M (nPI fun z M1 => Sf 3 ac M1 M1 ∧ (-2147483648 ≤ z ∧ z ≤ 2147483647) ∧ (M1 112 0 = gd) ∧ ((M1 124 1 ≠ -1 → cMd (NCl 3 3 1 ac (Tm Ms)) (M1 124 1)) ∧ F5 1 Ms M1)) := by
  have hd : (3 : Int) = 2 ∨ (3 : Int) = 3 := by decide
  have hac := hS.2.2.2.2
  refine n_aload_n c_170_0 rfl ?_
  refine n_iload_n c_170_1 rfl ?_
  refine n_v1I c_170_2 rfl sc_112.n rfl rfl rfl rfl (misMakX1_3  hS (by omega)) ?_
  intro z1 M2 hP3
  obtain ⟨eM, f3⟩ := hP3
  subst eM
  obtain rfl : z1 = 1 := by omega
  refine n_if0_eq c_170_5 (by omega) ?_ ?_
  · intro h4
    exfalso; omega
  · intro h5
    refine n_iload_n c_170_8 rfl ?_
    refine n_if0_lt c_170_9 (by omega) ?_ ?_
    · intro h6
      refine n_iconst c_170_28 ?_
      exact n_rI c_170_29 rfl ⟨hS, by omega, by omega, by rw [hms]; exact ⟨hkr, fun _ _ _ _ _ _ _ => rfl⟩⟩
    · intro h7
      refine n_iload_n c_170_12 rfl ?_
      refine n_aload_n c_170_13 rfl ?_
      refine n_getV (bi := 0) c_170_14 sc_112.n rfl rfl rfl (show 3 ≤ M 112 0 ∧ M 112 0 ≤ 3 by omega) ?_
      intro z8 ez8 f9
      obtain rfl : z8 = 3 := by omega
      refine n_aload_n c_170_17 rfl ?_
      refine n_iload_n c_170_18 rfl ?_
      refine n_v1I c_170_19 rfl sc_112.n rfl rfl rfl rfl (mrowsOf1_3  hS (by omega)) ?_
      intro z10 M11 hP12
      obtain ⟨eM, f12⟩ := hP12
      subst eM
      obtain rfl : z10 = 3 := by omega
      refine n_s2I c_170_22 rfl rfl rfl rfl (mpower3_3  hS ) ?_
      intro z13 M14 hP15
      obtain ⟨eM, f15⟩ := hP15
      subst eM
      obtain rfl : z13 = 27 := by omega
      refine n_if2_lt c_170_25 (by omega) (by omega) ?_ ?_
      · intro h16
        refine n_aload_n c_170_30 rfl ?_
        refine n_iload_n c_170_31 rfl ?_
        refine n_v1V c_170_32 rfl sc_112.n rfl rfl rfl rfl (mmakesX_1_3 (Ms := M) hS (by omega) (by rfl) (by rw [hms]; exact hac4) (by rw [hms]; exact hwr) (by rw [hms]; exact hkr)) ?_
        intro  M17 hP18
        obtain ⟨hS17, f18p0, f18p1⟩ := hP18
        have g112 := f18p1 112 0 (by omega) (by omega) (by omega) (by omega) (by omega)
        refine n_aload_n c_170_35 rfl ?_
        refine n_getR c_170_36 sc_112.n rfl rfl rfl r_112_16 ?_
        refine n_iload_n c_170_39 rfl ?_
        refine n_ialoadV c_170_40 sc_124.n rfl rfl rfl (by omega) (t_124 hS17 (by omega)) ?_
        intro z19 ez19 f20
        refine n_bipush c_170_41 rfl ?_
        refine n_if2_ne c_170_43 (by omega) (by omega) ?_ ?_
        · intro h21
          refine n_iconst c_170_49 ?_
          refine n_istore_n (L2 := [some (2, 112), some (0, 1), some (0, c), some (0, 0)]) c_170_50 rfl rfl ?_
          refine n_fg (le_s (le_s (le_s (le_s le_0)))) ?_
          exact (msizeX_1_3_c hS hdm hc hgd hms hac4 hwr hkr 526) _ M17 hS17 (by omega) (by omega) (by omega) (by omega) (by have y := f18p0; have u := f18p1; rw [hms] at y u; exact ⟨fun _ => y, u⟩) (by omega)
        · intro h22
          refine n_bipush c_170_46 rfl ?_
          exact n_rI c_170_48 rfl ⟨hS17, by omega, by omega, by have y := f18p0; have u := f18p1; rw [hms] at y u; exact ⟨fun _ => y, u⟩⟩
      · intro h23
        refine n_iconst c_170_28 ?_
        exact n_rI c_170_29 rfl ⟨hS, by omega, by omega, by rw [hms]; exact ⟨hkr, fun _ _ _ _ _ _ _ => rfl⟩⟩

set_option maxHeartbeats 4000000 in
theorem mjoinedX_2_3_c {xs : List Int32} {e : Nat} {ac : Int} {M0 M : nM} {a x y w s : Int} {Ms : nM} {Mt : nM} {t : Int} (hS : Sf 3 ac M0 M) (hdm : M0 112 0 = 3) (ha : 0 ≤ a ∧ a ≤ 7) (hx : 0 ≤ x ∧ x ≤ 256) (hy : 0 ≤ y ∧ y ≤ 256) (hw : 0 ≤ w ∧ w ≤ 256) (hs : 0 ≤ s ∧ s ≤ 1000000) (hmt : M = Mt) (hfr : FR Ms Mt) (hwr : WR 3 a Ms) (hT : ∀ i : Int, 0 ≤ i → i < 3 * 3 * 3 → 0 ≤ Tm Ms a i ∧ Tm Ms a i < 3) (hxt : x ≤ t ∧ y ≤ t ∧ w ≤ t) (hdg : ∀ i r : Int, 0 ≤ i → i ≤ t → 0 ≤ r → r < 9 → Ms 126 (9 * i + r) = mdg 3 (cdr 2 Ms i) r) : ∀ nn : Nat, (∀ (x7 x8 x9 : Int) (M : nM), Sf 3 ac M0 M → (0 ≤ x7 ∧ x7 ≤ 3) → (0 ≤ x8 ∧ x8 ≤ 19682) → (-1 ≤ x9 ∧ x9 ≤ 8) → (M = Mt) → (x7 = Ms 116 a) → (x8 = mcd 3 (JF 3 (Ms 116 a) (JT a Ms) (cdr 2 Ms x) (cdr 2 Ms y) (cdr 2 Ms w)) (x9 + 1) (((9 : Nat) : Int) - 1 - x9).toNat) → (x9 - (-1)) * 1 + 1 < (nn : Int) → nW xs e 163 16 [some (2, 112), some (0, a), none, some (0, x), some (0, y), some (0, w), some (0, s), some (0, x7), some (0, x8), some (0, x9), none] [] M (nPV fun M1 => Sf 3 ac M0 M1 ∧ (JD (JC 3 9 a Ms (cdr 2 Ms x) (cdr 2 Ms y) (cdr 2 Ms w)) Mt M1))) := by
  have hd : (3 : Int) = 2 ∨ (3 : Int) = 3 := by decide
  have hac := hS.2.2.2.2
  intro nn
  induction nn with
  | zero => intros; omega
  | succ nn ih =>
    intro x7 x8 x9 M hS k7 k8 k9 v0 v1 v2 hnn
    have hwk := hwr.1
    refine n_iload c_163_16 rfl ?_
    refine n_if0_lt c_163_18 (by omega) ?_ ?_
    · intro h1
      refine n_aload_n c_163_121 rfl ?_
      refine n_getR c_163_122 sc_112.n rfl rfl rfl r_112_17 ?_
      refine n_iload c_163_125 rfl ?_
      refine n_ialoadV c_163_127 sc_125.n rfl rfl rfl (by omega) (t_125 hS (by omega)) ?_
      intro z2 ez2 f3
      refine n_if0_eq c_163_128 (by omega) ?_ ?_
      · intro h4
        refine n_aload_n c_163_145 rfl ?_
        refine n_getR c_163_146 sc_112.n rfl rfl rfl r_112_17 ?_
        refine n_iload c_163_149 rfl ?_
        refine n_iload c_163_151 rfl ?_
        refine n_iconst c_163_153 ?_
        refine n_iadd c_163_154 rfl ?_
        refine n_iastoreV hS c_163_155 sc_125.n rfl (by omega) (w_125 (by omega) (by omega)) ?_
        intro M5 eM5 hS5
        exact n_rV c_163_156 rfl ⟨hS5, by have e8 : x8 = JC 3 9 a Ms (cdr 2 Ms x) (cdr 2 Ms y) (cdr 2 Ms w) := (by rw [v2, show x9 = -1 by omega]; rfl); rw [← e8, ← v0]; exact ⟨fun b i q => by rw [eM5, nu_e, if_neg q], by rw [eM5, nu_s]; omega, by rw [eM5, nu_s]; omega⟩⟩
      · intro h6
        refine n_aload_n c_163_131 rfl ?_
        refine n_getR c_163_132 sc_112.n rfl rfl rfl r_112_17 ?_
        refine n_iload c_163_135 rfl ?_
        refine n_ialoadV c_163_137 sc_125.n rfl rfl rfl (by omega) (t_125 hS (by omega)) ?_
        intro z7 ez7 f8
        refine n_iload c_163_138 rfl ?_
        refine n_iconst c_163_140 ?_
        refine n_iadd c_163_141 rfl ?_
        refine n_if2_le c_163_142 (by omega) (by omega) ?_ ?_
        · intro h9
          exact n_rV c_163_156 rfl ⟨hS, by have e8 : x8 = JC 3 9 a Ms (cdr 2 Ms x) (cdr 2 Ms y) (cdr 2 Ms w) := (by rw [v2, show x9 = -1 by omega]; rfl); rw [← e8, ← v0]; exact ⟨fun _ _ _ => rfl, by omega, Iff.rfl⟩⟩
        · intro h10
          refine n_aload_n c_163_145 rfl ?_
          refine n_getR c_163_146 sc_112.n rfl rfl rfl r_112_17 ?_
          refine n_iload c_163_149 rfl ?_
          refine n_iload c_163_151 rfl ?_
          refine n_iconst c_163_153 ?_
          refine n_iadd c_163_154 rfl ?_
          refine n_iastoreV hS c_163_155 sc_125.n rfl (by omega) (w_125 (by omega) (by omega)) ?_
          intro M11 eM11 hS11
          exact n_rV c_163_156 rfl ⟨hS11, by have e8 : x8 = JC 3 9 a Ms (cdr 2 Ms x) (cdr 2 Ms y) (cdr 2 Ms w) := (by rw [v2, show x9 = -1 by omega]; rfl); rw [← e8, ← v0]; exact ⟨fun b i q => by rw [eM11, nu_e, if_neg q], by rw [eM11, nu_s]; omega, by rw [eM11, nu_s]; omega⟩⟩
    · intro h12
      refine n_aload_n c_163_21 rfl ?_
      refine n_getR c_163_22 sc_112.n rfl rfl rfl r_112_18 ?_
      refine n_bipush c_163_25 rfl ?_
      refine n_iload_n c_163_27 rfl ?_
      refine n_imul c_163_28 rfl ?_
      refine n_iload c_163_29 rfl ?_
      refine n_iadd c_163_31 rfl ?_
      refine n_ialoadV c_163_32 sc_126.n rfl rfl rfl (by omega) (t_126 hS (by omega)) ?_
      intro z13 ez13 f14
      have dzx : z13 = mdg 3 (cdr 2 Ms x) x9 := by rw [ez13, v0, hfr 126 _ (by omega)]; exact hdg x x9 (by omega) (by omega) (by omega) (by omega)
      have rzx := mdg_r (c := (cdr 2 Ms x)) (r := x9) hd
      rw [← dzx] at rzx
      refine n_istore (L2 := [some (2, 112), some (0, a), none, some (0, x), some (0, y), some (0, w), some (0, s), some (0, x7), some (0, x8), some (0, x9), some (0, z13)]) c_163_33 rfl rfl ?_
      refine n_iload c_163_35 rfl ?_
      refine n_iconst c_163_37 ?_
      refine n_if2_le c_163_38 (by omega) (by omega) ?_ ?_
      · intro h15
        refine n_iload c_163_64 rfl ?_
        refine n_iconst c_163_66 ?_
        refine n_if2_le c_163_67 (by omega) (by omega) ?_ ?_
        · intro h16
          refine n_iload c_163_93 rfl ?_
          refine n_aload_n c_163_95 rfl ?_
          refine n_getV (bi := 0) c_163_96 sc_112.n rfl rfl rfl (t_dm hS hdm) ?_
          intro z17 ez17 f18
          obtain rfl : z17 = 3 := by omega
          refine n_imul c_163_99 rfl ?_
          refine n_aload_n c_163_100 rfl ?_
          refine n_getR c_163_101 sc_112.n rfl rfl rfl r_112_6 ?_
          refine n_bipush c_163_104 rfl ?_
          refine n_iload_n c_163_106 rfl ?_
          refine n_imul c_163_107 rfl ?_
          refine n_iload c_163_108 rfl ?_
          refine n_iadd c_163_110 rfl ?_
          refine n_ialoadV c_163_111 sc_117.n rfl rfl rfl (by omega) (t_117 hS (by omega)) ?_
          intro z19 ez19 f20
          have jf : z19 = (JF 3 (Ms 116 a) (JT a Ms) (cdr 2 Ms x) (cdr 2 Ms y) (cdr 2 Ms w)) x9 := by unfold JF JT; rw [if_pos (by omega), ez19, v0, hfr 117 _ (by omega), dzx]
          refine n_iadd c_163_112 rfl ?_
          have jn : ((x8 * 3) + z19) = mcd 3 (JF 3 (Ms 116 a) (JT a Ms) (cdr 2 Ms x) (cdr 2 Ms y) (cdr 2 Ms w)) ((x9 - 1) + 1) (((9 : Nat) : Int) - 1 - (x9 - 1)).toNat := by rw [mcd_dn (by omega), ← v2, ← jf]; omega
          have jr := JX.r (R := 9) (X := (cdr 2 Ms x)) (Y := (cdr 2 Ms y)) (Z := (cdr 2 Ms w)) (x := x9 - 1) hd hwr hT (by omega)
          rw [← jn, show dpn 3 9 = 19683 from by decide +kernel] at jr
          refine n_istore (L2 := [some (2, 112), some (0, a), none, some (0, x), some (0, y), some (0, w), some (0, s), some (0, x7), some (0, ((x8 * 3) + z19)), some (0, x9), some (0, z13)]) c_163_113 rfl rfl ?_
          refine n_iinc (L2 := [some (2, 112), some (0, a), none, some (0, x), some (0, y), some (0, w), some (0, s), some (0, x7), some (0, ((x8 * 3) + z19)), some (0, (x9 + (-1))), some (0, z13)]) c_163_115 rfl rfl rfl ?_
          refine n_goto c_163_118 ?_
          refine n_fg (le_s (le_s (le_n (le_s (le_s (le_s (le_s (le_s (le_s (le_s (le_n le_0))))))))))) ?_
          exact ih _ _ _ M hS (by omega) (by omega) (by omega) (by exact v0) (by exact v1) (by exact jn) (by omega)
        · intro h21
          exfalso; omega
      · intro h22
        refine n_iload c_163_41 rfl ?_
        refine n_aload_n c_163_43 rfl ?_
        refine n_getV (bi := 0) c_163_44 sc_112.n rfl rfl rfl (t_dm hS hdm) ?_
        intro z23 ez23 f24
        obtain rfl : z23 = 3 := by omega
        refine n_imul c_163_47 rfl ?_
        refine n_aload_n c_163_48 rfl ?_
        refine n_getR c_163_49 sc_112.n rfl rfl rfl r_112_18 ?_
        refine n_bipush c_163_52 rfl ?_
        refine n_iload c_163_54 rfl ?_
        refine n_imul c_163_56 rfl ?_
        refine n_iload c_163_57 rfl ?_
        refine n_iadd c_163_59 rfl ?_
        refine n_ialoadV c_163_60 sc_126.n rfl rfl rfl (by omega) (t_126 hS (by omega)) ?_
        intro z25 ez25 f26
        have dzy : z25 = mdg 3 (cdr 2 Ms y) x9 := by rw [ez25, v0, hfr 126 _ (by omega)]; exact hdg y x9 (by omega) (by omega) (by omega) (by omega)
        have rzy := mdg_r (c := (cdr 2 Ms y)) (r := x9) hd
        rw [← dzy] at rzy
        refine n_iadd c_163_61 rfl ?_
        refine n_istore (L2 := [some (2, 112), some (0, a), none, some (0, x), some (0, y), some (0, w), some (0, s), some (0, x7), some (0, x8), some (0, x9), some (0, ((z13 * 3) + z25))]) c_163_62 rfl rfl ?_
        refine n_iload c_163_64 rfl ?_
        refine n_iconst c_163_66 ?_
        refine n_if2_le c_163_67 (by omega) (by omega) ?_ ?_
        · intro h27
          refine n_iload c_163_93 rfl ?_
          refine n_aload_n c_163_95 rfl ?_
          refine n_getV (bi := 0) c_163_96 sc_112.n rfl rfl rfl (t_dm hS hdm) ?_
          intro z28 ez28 f29
          obtain rfl : z28 = 3 := by omega
          refine n_imul c_163_99 rfl ?_
          refine n_aload_n c_163_100 rfl ?_
          refine n_getR c_163_101 sc_112.n rfl rfl rfl r_112_6 ?_
          refine n_bipush c_163_104 rfl ?_
          refine n_iload_n c_163_106 rfl ?_
          refine n_imul c_163_107 rfl ?_
          refine n_iload c_163_108 rfl ?_
          refine n_iadd c_163_110 rfl ?_
          refine n_ialoadV c_163_111 sc_117.n rfl rfl rfl (by omega) (t_117 hS (by omega)) ?_
          intro z30 ez30 f31
          have jf : z30 = (JF 3 (Ms 116 a) (JT a Ms) (cdr 2 Ms x) (cdr 2 Ms y) (cdr 2 Ms w)) x9 := by unfold JF JT; rw [if_neg (by omega), if_pos (by omega), ez30, v0, hfr 117 _ (by omega), dzx, dzy]
          refine n_iadd c_163_112 rfl ?_
          have jn : ((x8 * 3) + z30) = mcd 3 (JF 3 (Ms 116 a) (JT a Ms) (cdr 2 Ms x) (cdr 2 Ms y) (cdr 2 Ms w)) ((x9 - 1) + 1) (((9 : Nat) : Int) - 1 - (x9 - 1)).toNat := by rw [mcd_dn (by omega), ← v2, ← jf]; omega
          have jr := JX.r (R := 9) (X := (cdr 2 Ms x)) (Y := (cdr 2 Ms y)) (Z := (cdr 2 Ms w)) (x := x9 - 1) hd hwr hT (by omega)
          rw [← jn, show dpn 3 9 = 19683 from by decide +kernel] at jr
          refine n_istore (L2 := [some (2, 112), some (0, a), none, some (0, x), some (0, y), some (0, w), some (0, s), some (0, x7), some (0, ((x8 * 3) + z30)), some (0, x9), some (0, ((z13 * 3) + z25))]) c_163_113 rfl rfl ?_
          refine n_iinc (L2 := [some (2, 112), some (0, a), none, some (0, x), some (0, y), some (0, w), some (0, s), some (0, x7), some (0, ((x8 * 3) + z30)), some (0, (x9 + (-1))), some (0, ((z13 * 3) + z25))]) c_163_115 rfl rfl rfl ?_
          refine n_goto c_163_118 ?_
          refine n_fg (le_s (le_s (le_n (le_s (le_s (le_s (le_s (le_s (le_s (le_s (le_n le_0))))))))))) ?_
          exact ih _ _ _ M hS (by omega) (by omega) (by omega) (by exact v0) (by exact v1) (by exact jn) (by omega)
        · intro h32
          refine n_iload c_163_70 rfl ?_
          refine n_aload_n c_163_72 rfl ?_
          refine n_getV (bi := 0) c_163_73 sc_112.n rfl rfl rfl (t_dm hS hdm) ?_
          intro z33 ez33 f34
          obtain rfl : z33 = 3 := by omega
          refine n_imul c_163_76 rfl ?_
          refine n_aload_n c_163_77 rfl ?_
          refine n_getR c_163_78 sc_112.n rfl rfl rfl r_112_18 ?_
          refine n_bipush c_163_81 rfl ?_
          refine n_iload c_163_83 rfl ?_
          refine n_imul c_163_85 rfl ?_
          refine n_iload c_163_86 rfl ?_
          refine n_iadd c_163_88 rfl ?_
          refine n_ialoadV c_163_89 sc_126.n rfl rfl rfl (by omega) (t_126 hS (by omega)) ?_
          intro z35 ez35 f36
          have dzw : z35 = mdg 3 (cdr 2 Ms w) x9 := by rw [ez35, v0, hfr 126 _ (by omega)]; exact hdg w x9 (by omega) (by omega) (by omega) (by omega)
          have rzw := mdg_r (c := (cdr 2 Ms w)) (r := x9) hd
          rw [← dzw] at rzw
          refine n_iadd c_163_90 rfl ?_
          refine n_istore (L2 := [some (2, 112), some (0, a), none, some (0, x), some (0, y), some (0, w), some (0, s), some (0, x7), some (0, x8), some (0, x9), some (0, ((((z13 * 3) + z25) * 3) + z35))]) c_163_91 rfl rfl ?_
          refine n_iload c_163_93 rfl ?_
          refine n_aload_n c_163_95 rfl ?_
          refine n_getV (bi := 0) c_163_96 sc_112.n rfl rfl rfl (t_dm hS hdm) ?_
          intro z37 ez37 f38
          obtain rfl : z37 = 3 := by omega
          refine n_imul c_163_99 rfl ?_
          refine n_aload_n c_163_100 rfl ?_
          refine n_getR c_163_101 sc_112.n rfl rfl rfl r_112_6 ?_
          refine n_bipush c_163_104 rfl ?_
          refine n_iload_n c_163_106 rfl ?_
          refine n_imul c_163_107 rfl ?_
          refine n_iload c_163_108 rfl ?_
          refine n_iadd c_163_110 rfl ?_
          refine n_ialoadV c_163_111 sc_117.n rfl rfl rfl (by omega) (t_117 hS (by omega)) ?_
          intro z39 ez39 f40
          have jf : z39 = (JF 3 (Ms 116 a) (JT a Ms) (cdr 2 Ms x) (cdr 2 Ms y) (cdr 2 Ms w)) x9 := by unfold JF JT; rw [if_neg (by omega), if_neg (by omega), ez39, v0, hfr 117 _ (by omega), dzx, dzy, dzw]
          refine n_iadd c_163_112 rfl ?_
          have jn : ((x8 * 3) + z39) = mcd 3 (JF 3 (Ms 116 a) (JT a Ms) (cdr 2 Ms x) (cdr 2 Ms y) (cdr 2 Ms w)) ((x9 - 1) + 1) (((9 : Nat) : Int) - 1 - (x9 - 1)).toNat := by rw [mcd_dn (by omega), ← v2, ← jf]; omega
          have jr := JX.r (R := 9) (X := (cdr 2 Ms x)) (Y := (cdr 2 Ms y)) (Z := (cdr 2 Ms w)) (x := x9 - 1) hd hwr hT (by omega)
          rw [← jn, show dpn 3 9 = 19683 from by decide +kernel] at jr
          refine n_istore (L2 := [some (2, 112), some (0, a), none, some (0, x), some (0, y), some (0, w), some (0, s), some (0, x7), some (0, ((x8 * 3) + z39)), some (0, x9), some (0, ((((z13 * 3) + z25) * 3) + z35))]) c_163_113 rfl rfl ?_
          refine n_iinc (L2 := [some (2, 112), some (0, a), none, some (0, x), some (0, y), some (0, w), some (0, s), some (0, x7), some (0, ((x8 * 3) + z39)), some (0, (x9 + (-1))), some (0, ((((z13 * 3) + z25) * 3) + z35))]) c_163_115 rfl rfl rfl ?_
          refine n_goto c_163_118 ?_
          refine n_fg (le_s (le_s (le_n (le_s (le_s (le_s (le_s (le_s (le_s (le_s (le_n le_0))))))))))) ?_
          exact ih _ _ _ M hS (by omega) (by omega) (by omega) (by exact v0) (by exact v1) (by exact jn) (by omega)
set_option maxHeartbeats 4000000 in
theorem mjoinedX_2_3 {xs : List Int32} {e : Nat} {ac : Int} {M0 M : nM} {a x y w s : Int} {Ms : nM} {Mt : nM} {t : Int} (hS : Sf 3 ac M0 M) (hdm : M0 112 0 = 3) (ha : 0 ≤ a ∧ a ≤ 7) (hx : 0 ≤ x ∧ x ≤ 256) (hy : 0 ≤ y ∧ y ≤ 256) (hw : 0 ≤ w ∧ w ≤ 256) (hs : 0 ≤ s ∧ s ≤ 1000000) (hmt : M = Mt) (hfr : FR Ms Mt) (hwr : WR 3 a Ms) (hT : ∀ i : Int, 0 ≤ i → i < 3 * 3 * 3 → 0 ≤ Tm Ms a i ∧ Tm Ms a i < 3) (hxt : x ≤ t ∧ y ≤ t ∧ w ≤ t) (hdg : ∀ i r : Int, 0 ≤ i → i ≤ t → 0 ≤ r → r < 9 → Ms 126 (9 * i + r) = mdg 3 (cdr 2 Ms i) r) : nW xs e 163 0 [some (2, 112), some (0, a), some (0, 9), some (0, x), some (0, y), some (0, w), some (0, s), none, none, none, none] [] M (nPV fun M1 => Sf 3 ac M0 M1 ∧ (JD (JC 3 9 a Ms (cdr 2 Ms x) (cdr 2 Ms y) (cdr 2 Ms w)) Mt M1)) := by
  have hd : (3 : Int) = 2 ∨ (3 : Int) = 3 := by decide
  have hac := hS.2.2.2.2
  refine n_aload_n c_163_0 rfl ?_
  refine n_getR c_163_1 sc_112.n rfl rfl rfl r_112_5 ?_
  refine n_iload_n c_163_4 rfl ?_
  refine n_ialoadV c_163_5 sc_116.n rfl rfl rfl (by omega) (t_116 hS (by omega)) ?_
  intro z1 ez1 f2
  refine n_istore (L2 := [some (2, 112), some (0, a), some (0, 9), some (0, x), some (0, y), some (0, w), some (0, s), some (0, z1), none, none, none]) c_163_6 rfl rfl ?_
  refine n_iconst c_163_8 ?_
  refine n_istore (L2 := [some (2, 112), some (0, a), some (0, 9), some (0, x), some (0, y), some (0, w), some (0, s), some (0, z1), some (0, 0), none, none]) c_163_9 rfl rfl ?_
  refine n_iload_n c_163_11 rfl ?_
  refine n_iconst c_163_12 ?_
  refine n_isub c_163_13 rfl ?_
  refine n_istore (L2 := [some (2, 112), some (0, a), some (0, 9), some (0, x), some (0, y), some (0, w), some (0, s), some (0, z1), some (0, 0), some (0, (9 - 1)), none]) c_163_14 rfl rfl ?_
  refine n_fg (le_s (le_s (le_n (le_s (le_s (le_s (le_s (le_s (le_s (le_s (le_n le_0))))))))))) ?_
  exact (mjoinedX_2_3_c hS hdm ha hx hy hw hs hmt hfr hwr hT hxt hdg 32) _ _ _ M hS (by omega) (by omega) (by omega) (by exact hmt) (by rw [ez1, hmt]; exact hfr 116 a (by omega)) (by rfl) (by omega)

set_option maxHeartbeats 4000000 in
theorem mjoinsX_2_3_c {xs : List Int32} {e : Nat} {ac : Int} {M0 M : nM} {t : Int} {Ms : nM} (hS : Sf 3 ac M0 M) (hdm : M0 112 0 = 3) (ht : 0 ≤ t ∧ t ≤ 255) (hms : M = Ms) (hac4 : Ms 112 4 = ac) (hwr : ∀ a : Int, 0 ≤ a → a < ac → WR 3 a Ms) (hT : ∀ a i : Int, 0 ≤ a → a < ac → 0 ≤ i → i < 3 * 3 * 3 → 0 ≤ Tm Ms a i ∧ Tm Ms a i < 3) (hdg : ∀ i r : Int, 0 ≤ i → i ≤ t → 0 ≤ r → r < 9 → Ms 126 (9 * i + r) = mdg 3 (cdr 2 Ms i) r) (hclo : ∀ i : Int, 0 ≤ i → i ≤ t → Clo 3 9 2 ac (Tm Ms) (cdr 2 Ms i)) (hpd : PDr 3 9 2 ac t Ms Ms) : ∀ nn : Nat, (∀ (x4 x5 : Int) (M : nM), Sf 3 ac M0 M → (0 ≤ x4 ∧ x4 ≤ 1000000) → (0 ≤ x5 ∧ x5 ≤ 8) → (JSt 3 9 2 ac Ms M) → (∀ a : Int, 0 ≤ a → a < x5 → JA 3 9 2 a t Ms M) → (x5 ≤ ac) → (8 - x5) * 66823 + 66823 < (nn : Int) → nW xs (e + 1) 165 11 [some (2, 112), some (0, 2), some (0, 9), some (0, t), some (0, x4), some (0, x5), none, none, none, none] [] M (nPV fun M1 => Sf 3 ac M0 M1 ∧ (JSt 3 9 2 ac Ms M1) ∧ (PDr 3 9 2 ac (t + 1) Ms M1))) ∧ (∀ (x4 x5 x6 : Int) (M : nM), Sf 3 ac M0 M → (0 ≤ x4 ∧ x4 ≤ 1000000) → (0 ≤ x5 ∧ x5 ≤ 7) → (0 ≤ x6 ∧ x6 ≤ 256) → (JSt 3 9 2 ac Ms M) → (∀ a : Int, 0 ≤ a → a < x5 → JA 3 9 2 a t Ms M) → (x5 < ac) → ((Ms 116 x5 = 2 → J2 3 9 2 x5 t x6 Ms M) ∧ (Ms 116 x5 = 3 → J3 3 9 2 x5 t x6 Ms M)) → (Ms 116 x5 = 2 ∨ Ms 116 x5 = 3) → (8 - x5) * 66823 + (256 - x6) * 259 + 259 < (nn : Int) → nW xs (e + 1) 165 56 [some (2, 112), some (0, 2), some (0, 9), some (0, t), some (0, x4), some (0, x5), some (0, x6), none, none, none] [] M (nPV fun M1 => Sf 3 ac M0 M1 ∧ (JSt 3 9 2 ac Ms M1) ∧ (PDr 3 9 2 ac (t + 1) Ms M1))) ∧ (∀ (x4 x5 x6 x7 x8 : Int) (M : nM), Sf 3 ac M0 M → (0 ≤ x4 ∧ x4 ≤ 1000000) → (0 ≤ x5 ∧ x5 ≤ 7) → (0 ≤ x6 ∧ x6 ≤ 255) → (1 ≤ x7 ∧ x7 ≤ 1000000) → (0 ≤ x8 ∧ x8 ≤ 256) → (JSt 3 9 2 ac Ms M) → (∀ a : Int, 0 ≤ a → a < x5 → JA 3 9 2 a t Ms M) → (x5 < ac) → ((Ms 116 x5 = 2 → J2 3 9 2 x5 t x6 Ms M) ∧ (Ms 116 x5 = 3 → J3 3 9 2 x5 t x6 Ms M)) → (J4 3 9 2 x5 t x6 x8 Ms M) → (Ms 116 x5 = 3) → (x6 ≤ t) → (8 - x5) * 66823 + (256 - x6) * 259 + (256 - x8) * 1 + 1 < (nn : Int) → nW xs (e + 1) 165 124 [some (2, 112), some (0, 2), some (0, 9), some (0, t), some (0, x4), some (0, x5), some (0, x6), some (0, x7), some (0, x8), none] [] M (nPV fun M1 => Sf 3 ac M0 M1 ∧ (JSt 3 9 2 ac Ms M1) ∧ (PDr 3 9 2 ac (t + 1) Ms M1))) := by
  have hd : (3 : Int) = 2 ∨ (3 : Int) = 3 := by decide
  have hac := hS.2.2.2.2
  have hat := t_112_4 hS
  have h4m : M 112 4 = ac := by rw [hms]; exact hac4
  intro nn
  induction nn with
  | zero => refine ⟨?_, ?_, ?_⟩ <;> (intros; omega)
  | succ nn ih =>
    refine ⟨?_, ?_, ?_⟩
    · intro x4 x5 M hS k4 k5 v0 v1 v2 hnn
      have h4x := v0.1 112 4 (by omega)
      refine n_iload c_165_11 rfl ?_
      refine n_aload_n c_165_13 rfl ?_
      refine n_getV (bi := 4) c_165_14 sc_112.n rfl rfl rfl (t_112_4 hS) ?_
      intro z1 ez1 f2
      refine n_if2_ge c_165_17 (by omega) (by omega) ?_ ?_
      · intro h3
        exact n_rV c_165_207 rfl ⟨hS, by exact v0, by exact PDr.st (fun a a0 a1 => v1 a a0 (by omega))⟩
      · intro h4
        refine n_aload_n c_165_20 rfl ?_
        refine n_getR c_165_21 sc_112.n rfl rfl rfl r_112_5 ?_
        refine n_iload c_165_24 rfl ?_
        refine n_ialoadV c_165_26 sc_116.n rfl rfl rfl (by omega) (t_116 hS (by omega)) ?_
        intro z5 ez5 f6
        have pk0 : z5 = Ms 116 x5 := by rw [ez5]; exact v0.1 116 x5 (by omega)
        refine n_iconst c_165_27 ?_
        refine n_if2_ne c_165_28 (by omega) (by omega) ?_ ?_
        · intro h7
          refine n_iconst c_165_53 ?_
          refine n_istore (L2 := [some (2, 112), some (0, 2), some (0, 9), some (0, t), some (0, x4), some (0, x5), some (0, 0), none, none, none]) c_165_54 rfl rfl ?_
          refine n_fg (le_s (le_s (le_s (le_s (le_s (le_s (le_s (le_n (le_n (le_n le_0)))))))))) ?_
          exact ih.2.1 _ _ _ M hS (by omega) (by omega) (by omega) (by exact v0) (by exact fun a a0 a1 => (v1 a a0 a1)) (by omega) (by exact ⟨fun _ => J2.ini, fun _ => J3.ini⟩) (by have hw5 := (hwr x5 (by omega) (by omega)).1; omega) (by omega)
        · intro h8
          refine n_aload_n c_165_31 rfl ?_
          refine n_iload c_165_32 rfl ?_
          refine n_iload_n c_165_34 rfl ?_
          refine n_iload_n c_165_35 rfl ?_
          refine n_iconst c_165_36 ?_
          refine n_iconst c_165_37 ?_
          refine n_ldc (n := 1000000) c_165_38 rfl ?_
          refine n_iload c_165_40 rfl ?_
          refine n_iconst c_165_42 ?_
          refine n_iadd c_165_43 rfl ?_
          refine n_s2I c_165_44 rfl rfl rfl rfl (imin_3 (x := 1000000) (y := (x4 + 1)) hS (by omega) (by omega)) ?_
          intro z9 M10 hP11
          obtain ⟨eM, f11, f11p0⟩ := hP11
          subst eM
          refine n_v6V c_165_47 rfl sc_112.n rfl rfl rfl rfl (mjoinedX_2_3 (a := x5) (x := t) (y := 0) (w := 0) (s := z9) (Ms := Ms) (Mt := M) (t := t) hS hdm (by omega) (by omega) (by omega) (by omega) (by omega) (by rfl) (by exact v0.1) (by exact hwr x5 (by omega) (by omega)) (by exact fun i i0 i1 => hT x5 i (by omega) (by omega) i0 i1) (by omega) (by exact hdg)) ?_
          intro  M12 hP13
          obtain ⟨hS12, f13p0⟩ := hP13
          have jd0 := f13p0
          rw [JC.one hd (hwr x5 (by omega) (by omega)) (by omega) (cdr 2 Ms t) (cdr 2 Ms t)] at jd0
          have js0 := v0.st jd0 (Clo.app (by omega) (by omega) (hclo _ (by omega) (by omega)) (hclo _ (by omega) (by omega)) (hclo _ (by omega) (by omega)))
          have jm0 := jd0.jm
          refine n_goto c_165_50 ?_
          refine n_iinc (L2 := [some (2, 112), some (0, 2), some (0, 9), some (0, t), some (0, x4), some (0, (x5 + 1)), none, none, none, none]) c_165_201 rfl rfl rfl ?_
          refine n_goto c_165_204 ?_
          refine n_fg (le_s (le_s (le_s (le_s (le_s (le_s (le_n (le_n (le_n (le_n le_0)))))))))) ?_
          exact ih.1 _ _ M12 hS12 (by omega) (by omega) (by exact js0) (by exact fun a a0 a1 => by by_cases u : a = x5; (rw [u]; exact JA.one hd (hwr x5 (by omega) (by omega)) (by omega) (by omega) (by omega) hpd (js0).2.1 (fun x y z (p : x = t ∧ y = t ∧ z = t) => by rw [p.1, p.2.1, p.2.2]; exact jd0.2.1)); (exact ((v1 a a0 (by omega))).mo jm0)) (by omega) (by omega)
    · intro x4 x5 x6 M hS k4 k5 k6 v0 v1 v2 v3 v4 hnn
      have h4x := v0.1 112 4 (by omega)
      refine n_iload c_165_56 rfl ?_
      refine n_iload_n c_165_58 rfl ?_
      refine n_if2_gt c_165_59 (by omega) (by omega) ?_ ?_
      · intro h1
        refine n_iinc (L2 := [some (2, 112), some (0, 2), some (0, 9), some (0, t), some (0, x4), some (0, (x5 + 1)), some (0, x6), none, none, none]) c_165_201 rfl rfl rfl ?_
        refine n_goto c_165_204 ?_
        refine n_fg (le_s (le_s (le_s (le_s (le_s (le_s (le_n (le_n (le_n (le_n le_0)))))))))) ?_
        exact ih.1 _ _ M hS (by omega) (by omega) (by exact v0) (by exact fun a a0 a1 => by by_cases u : a = x5; (rw [u]; rcases v4 with k2 | k3; (exact J2.fin hd (hwr x5 (by omega) (by omega)) k2 (by omega) (by omega) hpd v0.2.1 (v3.1 k2) (by omega)); (exact J3.fin (by omega) hpd v0.2.1 (v3.2 k3) (by omega))); (exact v1 a a0 (by omega))) (by omega) (by omega)
      · intro h2
        refine n_ldc (n := 1000000) c_165_62 rfl ?_
        refine n_iload c_165_64 rfl ?_
        refine n_aload_n c_165_66 rfl ?_
        refine n_iload_n c_165_67 rfl ?_
        refine n_iload c_165_68 rfl ?_
        refine n_v2I c_165_70 rfl sc_112.n rfl rfl rfl rfl (msizeOf_3 (n := 2) (i := x6) hS hdm (by omega) (by omega)) ?_
        intro z3 M4 hP5
        obtain ⟨eM, f5⟩ := hP5
        subst eM
        refine n_iadd c_165_73 rfl ?_
        refine n_iconst c_165_74 ?_
        refine n_iadd c_165_75 rfl ?_
        refine n_s2I c_165_76 rfl rfl rfl rfl (imin_3 (x := 1000000) (y := ((x4 + z3) + 1)) hS (by omega) (by omega)) ?_
        intro z6 M7 hP8
        obtain ⟨eM, f8, f8p0⟩ := hP8
        subst eM
        refine n_istore (L2 := [some (2, 112), some (0, 2), some (0, 9), some (0, t), some (0, x4), some (0, x5), some (0, x6), some (0, z6), none, none]) c_165_79 rfl rfl ?_
        refine n_aload_n c_165_81 rfl ?_
        refine n_getR c_165_82 sc_112.n rfl rfl rfl r_112_5 ?_
        refine n_iload c_165_85 rfl ?_
        refine n_ialoadV c_165_87 sc_116.n rfl rfl rfl (by omega) (t_116 hS (by omega)) ?_
        intro z9 ez9 f10
        have pk0 : z9 = Ms 116 x5 := by rw [ez9]; exact v0.1 116 x5 (by omega)
        refine n_iconst c_165_88 ?_
        refine n_if2_ne c_165_89 (by omega) (by omega) ?_ ?_
        · intro h11
          refine n_iconst c_165_121 ?_
          refine n_istore (L2 := [some (2, 112), some (0, 2), some (0, 9), some (0, t), some (0, x4), some (0, x5), some (0, x6), some (0, z6), some (0, 0), none]) c_165_122 rfl rfl ?_
          refine n_fg (le_s (le_s (le_s (le_s (le_s (le_s (le_s (le_s (le_s (le_n le_0)))))))))) ?_
          exact ih.2.2 _ _ _ _ _ M hS (by omega) (by omega) (by omega) (by omega) (by omega) (by exact v0) (by exact fun a a0 a1 => (v1 a a0 a1)) (by omega) (by exact v3) (by exact J4.ini) (by omega) (by omega) (by omega)
        · intro h12
          refine n_aload_n c_165_92 rfl ?_
          refine n_iload c_165_93 rfl ?_
          refine n_iload_n c_165_95 rfl ?_
          refine n_iload_n c_165_96 rfl ?_
          refine n_iload c_165_97 rfl ?_
          refine n_iconst c_165_99 ?_
          refine n_iload c_165_100 rfl ?_
          refine n_v6V c_165_102 rfl sc_112.n rfl rfl rfl rfl (mjoinedX_2_3 (a := x5) (x := t) (y := x6) (w := 0) (s := z6) (Ms := Ms) (Mt := M) (t := t) hS hdm (by omega) (by omega) (by omega) (by omega) (by omega) (by rfl) (by exact v0.1) (by exact hwr x5 (by omega) (by omega)) (by exact fun i i0 i1 => hT x5 i (by omega) (by omega) i0 i1) (by omega) (by exact hdg)) ?_
          intro  M13 hP14
          obtain ⟨hS13, f14p0⟩ := hP14
          have jd0 := f14p0
          rw [JC.two hd (hwr x5 (by omega) (by omega)) (by omega) (cdr 2 Ms t)] at jd0
          have js0 := v0.st jd0 (Clo.app (by omega) (by omega) (hclo _ (by omega) (by omega)) (hclo _ (by omega) (by omega)) (hclo _ (by omega) (by omega)))
          have jm0 := jd0.jm
          refine n_aload_n c_165_105 rfl ?_
          refine n_iload c_165_106 rfl ?_
          refine n_iload_n c_165_108 rfl ?_
          refine n_iload c_165_109 rfl ?_
          refine n_iload_n c_165_111 rfl ?_
          refine n_iconst c_165_112 ?_
          refine n_iload c_165_113 rfl ?_
          refine n_v6V c_165_115 rfl sc_112.n rfl rfl rfl rfl (mjoinedX_2_3 (a := x5) (x := x6) (y := t) (w := 0) (s := z6) (Ms := Ms) (Mt := M13) (t := t) hS13 hdm (by omega) (by omega) (by omega) (by omega) (by omega) (by rfl) (by exact js0.1) (by exact hwr x5 (by omega) (by omega)) (by exact fun i i0 i1 => hT x5 i (by omega) (by omega) i0 i1) (by omega) (by exact hdg)) ?_
          intro  M15 hP16
          obtain ⟨hS15, f16p0⟩ := hP16
          have jd1 := f16p0
          rw [JC.two hd (hwr x5 (by omega) (by omega)) (by omega) (cdr 2 Ms t)] at jd1
          have js1 := js0.st jd1 (Clo.app (by omega) (by omega) (hclo _ (by omega) (by omega)) (hclo _ (by omega) (by omega)) (hclo _ (by omega) (by omega)))
          have jm1 := jd1.jm
          refine n_goto c_165_118 ?_
          refine n_iinc (L2 := [some (2, 112), some (0, 2), some (0, 9), some (0, t), some (0, x4), some (0, x5), some (0, (x6 + 1)), some (0, z6), none, none]) c_165_195 rfl rfl rfl ?_
          refine n_goto c_165_198 ?_
          refine n_fg (le_s (le_s (le_s (le_s (le_s (le_s (le_s (le_n (le_n (le_n le_0)))))))))) ?_
          exact ih.2.1 _ _ _ M15 hS15 (by omega) (by omega) (by omega) (by exact js1) (by exact fun a a0 a1 => (((v1 a a0 a1)).mo jm0).mo jm1) (by omega) (by exact ⟨fun k2 => (v3.1 k2).st (jm0.tr jm1) (jm1 _ jd0.2.1) jd1.2.1, fun k3 => by omega⟩) (by exact v4) (by omega)
    · intro x4 x5 x6 x7 x8 M hS k4 k5 k6 k7 k8 v0 v1 v2 v3 v4 v5 v6 hnn
      have h4x := v0.1 112 4 (by omega)
      refine n_iload c_165_124 rfl ?_
      refine n_iload_n c_165_126 rfl ?_
      refine n_if2_gt c_165_127 (by omega) (by omega) ?_ ?_
      · intro h1
        refine n_iinc (L2 := [some (2, 112), some (0, 2), some (0, 9), some (0, t), some (0, x4), some (0, x5), some (0, (x6 + 1)), some (0, x7), some (0, x8), none]) c_165_195 rfl rfl rfl ?_
        refine n_goto c_165_198 ?_
        refine n_fg (le_s (le_s (le_s (le_s (le_s (le_s (le_s (le_n (le_n (le_n le_0)))))))))) ?_
        exact ih.2.1 _ _ _ M hS (by omega) (by omega) (by omega) (by exact v0) (by exact fun a a0 a1 => (v1 a a0 a1)) (by omega) (by exact ⟨fun k2 => by omega, fun k3 => (v3.2 k3).st v4 (by omega)⟩) (by exact Or.inr v5) (by omega)
      · intro h2
        refine n_ldc (n := 1000000) c_165_130 rfl ?_
        refine n_iload c_165_132 rfl ?_
        refine n_aload_n c_165_134 rfl ?_
        refine n_iload_n c_165_135 rfl ?_
        refine n_iload c_165_136 rfl ?_
        refine n_v2I c_165_138 rfl sc_112.n rfl rfl rfl rfl (msizeOf_3 (n := 2) (i := x8) hS hdm (by omega) (by omega)) ?_
        intro z3 M4 hP5
        obtain ⟨eM, f5⟩ := hP5
        subst eM
        refine n_iadd c_165_141 rfl ?_
        refine n_s2I c_165_142 rfl rfl rfl rfl (imin_3 (x := 1000000) (y := (x7 + z3)) hS (by omega) (by omega)) ?_
        intro z6 M7 hP8
        obtain ⟨eM, f8, f8p0⟩ := hP8
        subst eM
        refine n_istore (L2 := [some (2, 112), some (0, 2), some (0, 9), some (0, t), some (0, x4), some (0, x5), some (0, x6), some (0, x7), some (0, x8), some (0, z6)]) c_165_145 rfl rfl ?_
        refine n_aload_n c_165_147 rfl ?_
        refine n_iload c_165_148 rfl ?_
        refine n_iload_n c_165_150 rfl ?_
        refine n_iload_n c_165_151 rfl ?_
        refine n_iload c_165_152 rfl ?_
        refine n_iload c_165_154 rfl ?_
        refine n_iload c_165_156 rfl ?_
        refine n_v6V c_165_158 rfl sc_112.n rfl rfl rfl rfl (mjoinedX_2_3 (a := x5) (x := t) (y := x6) (w := x8) (s := z6) (Ms := Ms) (Mt := M) (t := t) hS hdm (by omega) (by omega) (by omega) (by omega) (by omega) (by rfl) (by exact v0.1) (by exact hwr x5 (by omega) (by omega)) (by exact fun i i0 i1 => hT x5 i (by omega) (by omega) i0 i1) (by omega) (by exact hdg)) ?_
        intro  M9 hP10
        obtain ⟨hS9, f10p0⟩ := hP10
        have jd0 := f10p0
        rw [JC.thr hd (hwr x5 (by omega) (by omega)) (by omega)] at jd0
        have js0 := v0.st jd0 (Clo.app (by omega) (by omega) (hclo _ (by omega) (by omega)) (hclo _ (by omega) (by omega)) (hclo _ (by omega) (by omega)))
        have jm0 := jd0.jm
        refine n_aload_n c_165_161 rfl ?_
        refine n_iload c_165_162 rfl ?_
        refine n_iload_n c_165_164 rfl ?_
        refine n_iload c_165_165 rfl ?_
        refine n_iload_n c_165_167 rfl ?_
        refine n_iload c_165_168 rfl ?_
        refine n_iload c_165_170 rfl ?_
        refine n_v6V c_165_172 rfl sc_112.n rfl rfl rfl rfl (mjoinedX_2_3 (a := x5) (x := x6) (y := t) (w := x8) (s := z6) (Ms := Ms) (Mt := M9) (t := t) hS9 hdm (by omega) (by omega) (by omega) (by omega) (by omega) (by rfl) (by exact js0.1) (by exact hwr x5 (by omega) (by omega)) (by exact fun i i0 i1 => hT x5 i (by omega) (by omega) i0 i1) (by omega) (by exact hdg)) ?_
        intro  M11 hP12
        obtain ⟨hS11, f12p0⟩ := hP12
        have jd1 := f12p0
        rw [JC.thr hd (hwr x5 (by omega) (by omega)) (by omega)] at jd1
        have js1 := js0.st jd1 (Clo.app (by omega) (by omega) (hclo _ (by omega) (by omega)) (hclo _ (by omega) (by omega)) (hclo _ (by omega) (by omega)))
        have jm1 := jd1.jm
        refine n_aload_n c_165_175 rfl ?_
        refine n_iload c_165_176 rfl ?_
        refine n_iload_n c_165_178 rfl ?_
        refine n_iload c_165_179 rfl ?_
        refine n_iload c_165_181 rfl ?_
        refine n_iload_n c_165_183 rfl ?_
        refine n_iload c_165_184 rfl ?_
        refine n_v6V c_165_186 rfl sc_112.n rfl rfl rfl rfl (mjoinedX_2_3 (a := x5) (x := x6) (y := x8) (w := t) (s := z6) (Ms := Ms) (Mt := M11) (t := t) hS11 hdm (by omega) (by omega) (by omega) (by omega) (by omega) (by rfl) (by exact js1.1) (by exact hwr x5 (by omega) (by omega)) (by exact fun i i0 i1 => hT x5 i (by omega) (by omega) i0 i1) (by omega) (by exact hdg)) ?_
        intro  M13 hP14
        obtain ⟨hS13, f14p0⟩ := hP14
        have jd2 := f14p0
        rw [JC.thr hd (hwr x5 (by omega) (by omega)) (by omega)] at jd2
        have js2 := js1.st jd2 (Clo.app (by omega) (by omega) (hclo _ (by omega) (by omega)) (hclo _ (by omega) (by omega)) (hclo _ (by omega) (by omega)))
        have jm2 := jd2.jm
        refine n_iinc (L2 := [some (2, 112), some (0, 2), some (0, 9), some (0, t), some (0, x4), some (0, x5), some (0, x6), some (0, x7), some (0, (x8 + 1)), some (0, z6)]) c_165_189 rfl rfl rfl ?_
        refine n_goto c_165_192 ?_
        refine n_fg (le_s (le_s (le_s (le_s (le_s (le_s (le_s (le_s (le_s (le_n le_0)))))))))) ?_
        exact ih.2.2 _ _ _ _ _ M13 hS13 (by omega) (by omega) (by omega) (by omega) (by omega) (by exact js2) (by exact fun a a0 a1 => ((((v1 a a0 a1)).mo jm0).mo jm1).mo jm2) (by omega) (by exact ⟨fun k2 => (v3.1 k2).mo ((jm0.tr jm1).tr jm2), fun k3 => (v3.2 k3).mo ((jm0.tr jm1).tr jm2)⟩) (by exact v4.st ((jm0.tr jm1).tr jm2) (jm2 _ (jm1 _ jd0.2.1)) (jm2 _ jd1.2.1) jd2.2.1) (by exact v5) (by omega) (by omega)
set_option maxHeartbeats 4000000 in
theorem mjoinsX_2_3 {xs : List Int32} {e : Nat} {ac : Int} {M0 M : nM} {t : Int} {Ms : nM} (hS : Sf 3 ac M0 M) (hdm : M0 112 0 = 3) (ht : 0 ≤ t ∧ t ≤ 255) (hms : M = Ms) (hac4 : Ms 112 4 = ac) (hwr : ∀ a : Int, 0 ≤ a → a < ac → WR 3 a Ms) (hT : ∀ a i : Int, 0 ≤ a → a < ac → 0 ≤ i → i < 3 * 3 * 3 → 0 ≤ Tm Ms a i ∧ Tm Ms a i < 3) (hdg : ∀ i r : Int, 0 ≤ i → i ≤ t → 0 ≤ r → r < 9 → Ms 126 (9 * i + r) = mdg 3 (cdr 2 Ms i) r) (hclo : ∀ i : Int, 0 ≤ i → i ≤ t → Clo 3 9 2 ac (Tm Ms) (cdr 2 Ms i)) (hpd : PDr 3 9 2 ac t Ms Ms) : nW xs (e + 1) 165 0 [some (2, 112), some (0, 2), some (0, 9), some (0, t), none, none, none, none, none, none] [] M (nPV fun M1 => Sf 3 ac M0 M1 ∧ (JSt 3 9 2 ac Ms M1) ∧ (PDr 3 9 2 ac (t + 1) Ms M1)) := by
  have hd : (3 : Int) = 2 ∨ (3 : Int) = 3 := by decide
  have hac := hS.2.2.2.2
  have hat := t_112_4 hS
  have h4m : M 112 4 = ac := by rw [hms]; exact hac4
  refine n_aload_n c_165_0 rfl ?_
  refine n_iload_n c_165_1 rfl ?_
  refine n_iload_n c_165_2 rfl ?_
  refine n_v2I c_165_3 rfl sc_112.n rfl rfl rfl rfl (msizeOf_3 (n := 2) (i := t) hS hdm (by omega) (by omega)) ?_
  intro z1 M2 hP3
  obtain ⟨eM, f3⟩ := hP3
  subst eM
  refine n_istore (L2 := [some (2, 112), some (0, 2), some (0, 9), some (0, t), some (0, z1), none, none, none, none, none]) c_165_6 rfl rfl ?_
  refine n_iconst c_165_8 ?_
  refine n_istore (L2 := [some (2, 112), some (0, 2), some (0, 9), some (0, t), some (0, z1), some (0, 0), none, none, none, none]) c_165_9 rfl rfl ?_
  refine n_fg (le_s (le_s (le_s (le_s (le_s (le_s (le_n (le_n (le_n (le_n le_0)))))))))) ?_
  exact (mjoinsX_2_3_c hS hdm ht hms hac4 hwr hT hdg hclo hpd 1336470).1 _ _ M hS (by omega) (by omega) (by rw [hms]; exact JSt.refl) (by exact fun a a0 a1 => by omega) (by omega) (by omega)

set_option maxHeartbeats 4000000 in
theorem mdigK_2_0_0_3 {xs : List Int32} {e : Nat} {ac : Int} {M0 M : nM} (hS : Sf 3 ac M0 M) (hdm : M0 112 0 = 3) : nW xs (e + 1) 152 0 [some (2, 112), some (0, 0), some (0, 2), some (0, 0)] [] M (nPI fun z M1 => M = M1 ∧ (0 ≤ z ∧ z ≤ 0)) := by
  have hd : (3 : Int) = 2 ∨ (3 : Int) = 3 := by decide
  have hac := hS.2.2.2.2
  refine n_iload_n c_152_0 rfl ?_
  refine n_aload_n c_152_1 rfl ?_
  refine n_getV (bi := 0) c_152_2 sc_112.n rfl rfl rfl (t_dm hS hdm) ?_
  intro z1 ez1 f2
  obtain rfl : z1 = 3 := by omega
  refine n_iload_n c_152_5 rfl ?_
  refine n_iconst c_152_6 ?_
  refine n_isub c_152_7 rfl ?_
  refine n_iload_n c_152_8 rfl ?_
  refine n_isub c_152_9 rfl ?_
  have hcst : (((2 - 1) - 0) : Int) = 1 := by omega
  rw [hcst]
  refine n_s2I c_152_10 rfl rfl rfl rfl (mpower1_3  hS ) ?_
  intro z3 M4 hP5
  obtain ⟨eM, f5⟩ := hP5
  subst eM
  obtain rfl : z3 = 3 := by omega
  refine n_idivT (z := 0) c_152_13 (by omega) (by omega) (by omega) (by decide) ?_
  refine n_aload_n c_152_14 rfl ?_
  refine n_getV (bi := 0) c_152_15 sc_112.n rfl rfl rfl (t_dm hS hdm) ?_
  intro z6 ez6 f7
  obtain rfl : z6 = 3 := by omega
  refine n_iremT (z := 0) c_152_18 (by omega) (by omega) (by omega) (by decide) ?_
  exact n_rI c_152_19 rfl ⟨rfl, by omega⟩

set_option maxHeartbeats 4000000 in
theorem mdigK_2_1_0_3 {xs : List Int32} {e : Nat} {ac : Int} {M0 M : nM} (hS : Sf 3 ac M0 M) (hdm : M0 112 0 = 3) : nW xs (e + 1) 152 0 [some (2, 112), some (0, 1), some (0, 2), some (0, 0)] [] M (nPI fun z M1 => M = M1 ∧ (0 ≤ z ∧ z ≤ 0)) := by
  have hd : (3 : Int) = 2 ∨ (3 : Int) = 3 := by decide
  have hac := hS.2.2.2.2
  refine n_iload_n c_152_0 rfl ?_
  refine n_aload_n c_152_1 rfl ?_
  refine n_getV (bi := 0) c_152_2 sc_112.n rfl rfl rfl (t_dm hS hdm) ?_
  intro z1 ez1 f2
  obtain rfl : z1 = 3 := by omega
  refine n_iload_n c_152_5 rfl ?_
  refine n_iconst c_152_6 ?_
  refine n_isub c_152_7 rfl ?_
  refine n_iload_n c_152_8 rfl ?_
  refine n_isub c_152_9 rfl ?_
  have hcst : (((2 - 1) - 0) : Int) = 1 := by omega
  rw [hcst]
  refine n_s2I c_152_10 rfl rfl rfl rfl (mpower1_3  hS ) ?_
  intro z3 M4 hP5
  obtain ⟨eM, f5⟩ := hP5
  subst eM
  obtain rfl : z3 = 3 := by omega
  refine n_idivT (z := 0) c_152_13 (by omega) (by omega) (by omega) (by decide) ?_
  refine n_aload_n c_152_14 rfl ?_
  refine n_getV (bi := 0) c_152_15 sc_112.n rfl rfl rfl (t_dm hS hdm) ?_
  intro z6 ez6 f7
  obtain rfl : z6 = 3 := by omega
  refine n_iremT (z := 0) c_152_18 (by omega) (by omega) (by omega) (by decide) ?_
  exact n_rI c_152_19 rfl ⟨rfl, by omega⟩

set_option maxHeartbeats 4000000 in
theorem mdigK_2_2_0_3 {xs : List Int32} {e : Nat} {ac : Int} {M0 M : nM} (hS : Sf 3 ac M0 M) (hdm : M0 112 0 = 3) : nW xs (e + 1) 152 0 [some (2, 112), some (0, 2), some (0, 2), some (0, 0)] [] M (nPI fun z M1 => M = M1 ∧ (0 ≤ z ∧ z ≤ 0)) := by
  have hd : (3 : Int) = 2 ∨ (3 : Int) = 3 := by decide
  have hac := hS.2.2.2.2
  refine n_iload_n c_152_0 rfl ?_
  refine n_aload_n c_152_1 rfl ?_
  refine n_getV (bi := 0) c_152_2 sc_112.n rfl rfl rfl (t_dm hS hdm) ?_
  intro z1 ez1 f2
  obtain rfl : z1 = 3 := by omega
  refine n_iload_n c_152_5 rfl ?_
  refine n_iconst c_152_6 ?_
  refine n_isub c_152_7 rfl ?_
  refine n_iload_n c_152_8 rfl ?_
  refine n_isub c_152_9 rfl ?_
  have hcst : (((2 - 1) - 0) : Int) = 1 := by omega
  rw [hcst]
  refine n_s2I c_152_10 rfl rfl rfl rfl (mpower1_3  hS ) ?_
  intro z3 M4 hP5
  obtain ⟨eM, f5⟩ := hP5
  subst eM
  obtain rfl : z3 = 3 := by omega
  refine n_idivT (z := 0) c_152_13 (by omega) (by omega) (by omega) (by decide) ?_
  refine n_aload_n c_152_14 rfl ?_
  refine n_getV (bi := 0) c_152_15 sc_112.n rfl rfl rfl (t_dm hS hdm) ?_
  intro z6 ez6 f7
  obtain rfl : z6 = 3 := by omega
  refine n_iremT (z := 0) c_152_18 (by omega) (by omega) (by omega) (by decide) ?_
  exact n_rI c_152_19 rfl ⟨rfl, by omega⟩

set_option maxHeartbeats 4000000 in
theorem mdigK_2_3_0_3 {xs : List Int32} {e : Nat} {ac : Int} {M0 M : nM} (hS : Sf 3 ac M0 M) (hdm : M0 112 0 = 3) : nW xs (e + 1) 152 0 [some (2, 112), some (0, 3), some (0, 2), some (0, 0)] [] M (nPI fun z M1 => M = M1 ∧ (1 ≤ z ∧ z ≤ 1)) := by
  have hd : (3 : Int) = 2 ∨ (3 : Int) = 3 := by decide
  have hac := hS.2.2.2.2
  refine n_iload_n c_152_0 rfl ?_
  refine n_aload_n c_152_1 rfl ?_
  refine n_getV (bi := 0) c_152_2 sc_112.n rfl rfl rfl (t_dm hS hdm) ?_
  intro z1 ez1 f2
  obtain rfl : z1 = 3 := by omega
  refine n_iload_n c_152_5 rfl ?_
  refine n_iconst c_152_6 ?_
  refine n_isub c_152_7 rfl ?_
  refine n_iload_n c_152_8 rfl ?_
  refine n_isub c_152_9 rfl ?_
  have hcst : (((2 - 1) - 0) : Int) = 1 := by omega
  rw [hcst]
  refine n_s2I c_152_10 rfl rfl rfl rfl (mpower1_3  hS ) ?_
  intro z3 M4 hP5
  obtain ⟨eM, f5⟩ := hP5
  subst eM
  obtain rfl : z3 = 3 := by omega
  refine n_idivT (z := 1) c_152_13 (by omega) (by omega) (by omega) (by decide) ?_
  refine n_aload_n c_152_14 rfl ?_
  refine n_getV (bi := 0) c_152_15 sc_112.n rfl rfl rfl (t_dm hS hdm) ?_
  intro z6 ez6 f7
  obtain rfl : z6 = 3 := by omega
  refine n_iremT (z := 1) c_152_18 (by omega) (by omega) (by omega) (by decide) ?_
  exact n_rI c_152_19 rfl ⟨rfl, by omega⟩

set_option maxHeartbeats 4000000 in
theorem mdigK_2_4_0_3 {xs : List Int32} {e : Nat} {ac : Int} {M0 M : nM} (hS : Sf 3 ac M0 M) (hdm : M0 112 0 = 3) : nW xs (e + 1) 152 0 [some (2, 112), some (0, 4), some (0, 2), some (0, 0)] [] M (nPI fun z M1 => M = M1 ∧ (1 ≤ z ∧ z ≤ 1)) := by
  have hd : (3 : Int) = 2 ∨ (3 : Int) = 3 := by decide
  have hac := hS.2.2.2.2
  refine n_iload_n c_152_0 rfl ?_
  refine n_aload_n c_152_1 rfl ?_
  refine n_getV (bi := 0) c_152_2 sc_112.n rfl rfl rfl (t_dm hS hdm) ?_
  intro z1 ez1 f2
  obtain rfl : z1 = 3 := by omega
  refine n_iload_n c_152_5 rfl ?_
  refine n_iconst c_152_6 ?_
  refine n_isub c_152_7 rfl ?_
  refine n_iload_n c_152_8 rfl ?_
  refine n_isub c_152_9 rfl ?_
  have hcst : (((2 - 1) - 0) : Int) = 1 := by omega
  rw [hcst]
  refine n_s2I c_152_10 rfl rfl rfl rfl (mpower1_3  hS ) ?_
  intro z3 M4 hP5
  obtain ⟨eM, f5⟩ := hP5
  subst eM
  obtain rfl : z3 = 3 := by omega
  refine n_idivT (z := 1) c_152_13 (by omega) (by omega) (by omega) (by decide) ?_
  refine n_aload_n c_152_14 rfl ?_
  refine n_getV (bi := 0) c_152_15 sc_112.n rfl rfl rfl (t_dm hS hdm) ?_
  intro z6 ez6 f7
  obtain rfl : z6 = 3 := by omega
  refine n_iremT (z := 1) c_152_18 (by omega) (by omega) (by omega) (by decide) ?_
  exact n_rI c_152_19 rfl ⟨rfl, by omega⟩

set_option maxHeartbeats 4000000 in
theorem mdigK_2_5_0_3 {xs : List Int32} {e : Nat} {ac : Int} {M0 M : nM} (hS : Sf 3 ac M0 M) (hdm : M0 112 0 = 3) : nW xs (e + 1) 152 0 [some (2, 112), some (0, 5), some (0, 2), some (0, 0)] [] M (nPI fun z M1 => M = M1 ∧ (1 ≤ z ∧ z ≤ 1)) := by
  have hd : (3 : Int) = 2 ∨ (3 : Int) = 3 := by decide
  have hac := hS.2.2.2.2
  refine n_iload_n c_152_0 rfl ?_
  refine n_aload_n c_152_1 rfl ?_
  refine n_getV (bi := 0) c_152_2 sc_112.n rfl rfl rfl (t_dm hS hdm) ?_
  intro z1 ez1 f2
  obtain rfl : z1 = 3 := by omega
  refine n_iload_n c_152_5 rfl ?_
  refine n_iconst c_152_6 ?_
  refine n_isub c_152_7 rfl ?_
  refine n_iload_n c_152_8 rfl ?_
  refine n_isub c_152_9 rfl ?_
  have hcst : (((2 - 1) - 0) : Int) = 1 := by omega
  rw [hcst]
  refine n_s2I c_152_10 rfl rfl rfl rfl (mpower1_3  hS ) ?_
  intro z3 M4 hP5
  obtain ⟨eM, f5⟩ := hP5
  subst eM
  obtain rfl : z3 = 3 := by omega
  refine n_idivT (z := 1) c_152_13 (by omega) (by omega) (by omega) (by decide) ?_
  refine n_aload_n c_152_14 rfl ?_
  refine n_getV (bi := 0) c_152_15 sc_112.n rfl rfl rfl (t_dm hS hdm) ?_
  intro z6 ez6 f7
  obtain rfl : z6 = 3 := by omega
  refine n_iremT (z := 1) c_152_18 (by omega) (by omega) (by omega) (by decide) ?_
  exact n_rI c_152_19 rfl ⟨rfl, by omega⟩

set_option maxHeartbeats 4000000 in
theorem mdigK_2_6_0_3 {xs : List Int32} {e : Nat} {ac : Int} {M0 M : nM} (hS : Sf 3 ac M0 M) (hdm : M0 112 0 = 3) : nW xs (e + 1) 152 0 [some (2, 112), some (0, 6), some (0, 2), some (0, 0)] [] M (nPI fun z M1 => M = M1 ∧ (2 ≤ z ∧ z ≤ 2)) := by
  have hd : (3 : Int) = 2 ∨ (3 : Int) = 3 := by decide
  have hac := hS.2.2.2.2
  refine n_iload_n c_152_0 rfl ?_
  refine n_aload_n c_152_1 rfl ?_
  refine n_getV (bi := 0) c_152_2 sc_112.n rfl rfl rfl (t_dm hS hdm) ?_
  intro z1 ez1 f2
  obtain rfl : z1 = 3 := by omega
  refine n_iload_n c_152_5 rfl ?_
  refine n_iconst c_152_6 ?_
  refine n_isub c_152_7 rfl ?_
  refine n_iload_n c_152_8 rfl ?_
  refine n_isub c_152_9 rfl ?_
  have hcst : (((2 - 1) - 0) : Int) = 1 := by omega
  rw [hcst]
  refine n_s2I c_152_10 rfl rfl rfl rfl (mpower1_3  hS ) ?_
  intro z3 M4 hP5
  obtain ⟨eM, f5⟩ := hP5
  subst eM
  obtain rfl : z3 = 3 := by omega
  refine n_idivT (z := 2) c_152_13 (by omega) (by omega) (by omega) (by decide) ?_
  refine n_aload_n c_152_14 rfl ?_
  refine n_getV (bi := 0) c_152_15 sc_112.n rfl rfl rfl (t_dm hS hdm) ?_
  intro z6 ez6 f7
  obtain rfl : z6 = 3 := by omega
  refine n_iremT (z := 2) c_152_18 (by omega) (by omega) (by omega) (by decide) ?_
  exact n_rI c_152_19 rfl ⟨rfl, by omega⟩

set_option maxHeartbeats 4000000 in
theorem mdigK_2_7_0_3 {xs : List Int32} {e : Nat} {ac : Int} {M0 M : nM} (hS : Sf 3 ac M0 M) (hdm : M0 112 0 = 3) : nW xs (e + 1) 152 0 [some (2, 112), some (0, 7), some (0, 2), some (0, 0)] [] M (nPI fun z M1 => M = M1 ∧ (2 ≤ z ∧ z ≤ 2)) := by
  have hd : (3 : Int) = 2 ∨ (3 : Int) = 3 := by decide
  have hac := hS.2.2.2.2
  refine n_iload_n c_152_0 rfl ?_
  refine n_aload_n c_152_1 rfl ?_
  refine n_getV (bi := 0) c_152_2 sc_112.n rfl rfl rfl (t_dm hS hdm) ?_
  intro z1 ez1 f2
  obtain rfl : z1 = 3 := by omega
  refine n_iload_n c_152_5 rfl ?_
  refine n_iconst c_152_6 ?_
  refine n_isub c_152_7 rfl ?_
  refine n_iload_n c_152_8 rfl ?_
  refine n_isub c_152_9 rfl ?_
  have hcst : (((2 - 1) - 0) : Int) = 1 := by omega
  rw [hcst]
  refine n_s2I c_152_10 rfl rfl rfl rfl (mpower1_3  hS ) ?_
  intro z3 M4 hP5
  obtain ⟨eM, f5⟩ := hP5
  subst eM
  obtain rfl : z3 = 3 := by omega
  refine n_idivT (z := 2) c_152_13 (by omega) (by omega) (by omega) (by decide) ?_
  refine n_aload_n c_152_14 rfl ?_
  refine n_getV (bi := 0) c_152_15 sc_112.n rfl rfl rfl (t_dm hS hdm) ?_
  intro z6 ez6 f7
  obtain rfl : z6 = 3 := by omega
  refine n_iremT (z := 2) c_152_18 (by omega) (by omega) (by omega) (by decide) ?_
  exact n_rI c_152_19 rfl ⟨rfl, by omega⟩

set_option maxHeartbeats 4000000 in
theorem mdigK_2_8_0_3 {xs : List Int32} {e : Nat} {ac : Int} {M0 M : nM} (hS : Sf 3 ac M0 M) (hdm : M0 112 0 = 3) : nW xs (e + 1) 152 0 [some (2, 112), some (0, 8), some (0, 2), some (0, 0)] [] M (nPI fun z M1 => M = M1 ∧ (2 ≤ z ∧ z ≤ 2)) := by
  have hd : (3 : Int) = 2 ∨ (3 : Int) = 3 := by decide
  have hac := hS.2.2.2.2
  refine n_iload_n c_152_0 rfl ?_
  refine n_aload_n c_152_1 rfl ?_
  refine n_getV (bi := 0) c_152_2 sc_112.n rfl rfl rfl (t_dm hS hdm) ?_
  intro z1 ez1 f2
  obtain rfl : z1 = 3 := by omega
  refine n_iload_n c_152_5 rfl ?_
  refine n_iconst c_152_6 ?_
  refine n_isub c_152_7 rfl ?_
  refine n_iload_n c_152_8 rfl ?_
  refine n_isub c_152_9 rfl ?_
  have hcst : (((2 - 1) - 0) : Int) = 1 := by omega
  rw [hcst]
  refine n_s2I c_152_10 rfl rfl rfl rfl (mpower1_3  hS ) ?_
  intro z3 M4 hP5
  obtain ⟨eM, f5⟩ := hP5
  subst eM
  obtain rfl : z3 = 3 := by omega
  refine n_idivT (z := 2) c_152_13 (by omega) (by omega) (by omega) (by decide) ?_
  refine n_aload_n c_152_14 rfl ?_
  refine n_getV (bi := 0) c_152_15 sc_112.n rfl rfl rfl (t_dm hS hdm) ?_
  intro z6 ez6 f7
  obtain rfl : z6 = 3 := by omega
  refine n_iremT (z := 2) c_152_18 (by omega) (by omega) (by omega) (by decide) ?_
  exact n_rI c_152_19 rfl ⟨rfl, by omega⟩

set_option maxHeartbeats 4000000 in
theorem mdigK_2_0_1_3 {xs : List Int32} {e : Nat} {ac : Int} {M0 M : nM} (hS : Sf 3 ac M0 M) (hdm : M0 112 0 = 3) : nW xs (e + 1) 152 0 [some (2, 112), some (0, 0), some (0, 2), some (0, 1)] [] M (nPI fun z M1 => M = M1 ∧ (0 ≤ z ∧ z ≤ 0)) := by
  have hd : (3 : Int) = 2 ∨ (3 : Int) = 3 := by decide
  have hac := hS.2.2.2.2
  refine n_iload_n c_152_0 rfl ?_
  refine n_aload_n c_152_1 rfl ?_
  refine n_getV (bi := 0) c_152_2 sc_112.n rfl rfl rfl (t_dm hS hdm) ?_
  intro z1 ez1 f2
  obtain rfl : z1 = 3 := by omega
  refine n_iload_n c_152_5 rfl ?_
  refine n_iconst c_152_6 ?_
  refine n_isub c_152_7 rfl ?_
  refine n_iload_n c_152_8 rfl ?_
  refine n_isub c_152_9 rfl ?_
  have hcst : (((2 - 1) - 1) : Int) = 0 := by omega
  rw [hcst]
  refine n_s2I c_152_10 rfl rfl rfl rfl (mpower0_3  hS ) ?_
  intro z3 M4 hP5
  obtain ⟨eM, f5⟩ := hP5
  subst eM
  obtain rfl : z3 = 1 := by omega
  refine n_idivT (z := 0) c_152_13 (by omega) (by omega) (by omega) (by decide) ?_
  refine n_aload_n c_152_14 rfl ?_
  refine n_getV (bi := 0) c_152_15 sc_112.n rfl rfl rfl (t_dm hS hdm) ?_
  intro z6 ez6 f7
  obtain rfl : z6 = 3 := by omega
  refine n_iremT (z := 0) c_152_18 (by omega) (by omega) (by omega) (by decide) ?_
  exact n_rI c_152_19 rfl ⟨rfl, by omega⟩

set_option maxHeartbeats 4000000 in
theorem mdigK_2_1_1_3 {xs : List Int32} {e : Nat} {ac : Int} {M0 M : nM} (hS : Sf 3 ac M0 M) (hdm : M0 112 0 = 3) : nW xs (e + 1) 152 0 [some (2, 112), some (0, 1), some (0, 2), some (0, 1)] [] M (nPI fun z M1 => M = M1 ∧ (1 ≤ z ∧ z ≤ 1)) := by
  have hd : (3 : Int) = 2 ∨ (3 : Int) = 3 := by decide
  have hac := hS.2.2.2.2
  refine n_iload_n c_152_0 rfl ?_
  refine n_aload_n c_152_1 rfl ?_
  refine n_getV (bi := 0) c_152_2 sc_112.n rfl rfl rfl (t_dm hS hdm) ?_
  intro z1 ez1 f2
  obtain rfl : z1 = 3 := by omega
  refine n_iload_n c_152_5 rfl ?_
  refine n_iconst c_152_6 ?_
  refine n_isub c_152_7 rfl ?_
  refine n_iload_n c_152_8 rfl ?_
  refine n_isub c_152_9 rfl ?_
  have hcst : (((2 - 1) - 1) : Int) = 0 := by omega
  rw [hcst]
  refine n_s2I c_152_10 rfl rfl rfl rfl (mpower0_3  hS ) ?_
  intro z3 M4 hP5
  obtain ⟨eM, f5⟩ := hP5
  subst eM
  obtain rfl : z3 = 1 := by omega
  refine n_idivT (z := 1) c_152_13 (by omega) (by omega) (by omega) (by decide) ?_
  refine n_aload_n c_152_14 rfl ?_
  refine n_getV (bi := 0) c_152_15 sc_112.n rfl rfl rfl (t_dm hS hdm) ?_
  intro z6 ez6 f7
  obtain rfl : z6 = 3 := by omega
  refine n_iremT (z := 1) c_152_18 (by omega) (by omega) (by omega) (by decide) ?_
  exact n_rI c_152_19 rfl ⟨rfl, by omega⟩

set_option maxHeartbeats 4000000 in
theorem mdigK_2_2_1_3 {xs : List Int32} {e : Nat} {ac : Int} {M0 M : nM} (hS : Sf 3 ac M0 M) (hdm : M0 112 0 = 3) : nW xs (e + 1) 152 0 [some (2, 112), some (0, 2), some (0, 2), some (0, 1)] [] M (nPI fun z M1 => M = M1 ∧ (2 ≤ z ∧ z ≤ 2)) := by
  have hd : (3 : Int) = 2 ∨ (3 : Int) = 3 := by decide
  have hac := hS.2.2.2.2
  refine n_iload_n c_152_0 rfl ?_
  refine n_aload_n c_152_1 rfl ?_
  refine n_getV (bi := 0) c_152_2 sc_112.n rfl rfl rfl (t_dm hS hdm) ?_
  intro z1 ez1 f2
  obtain rfl : z1 = 3 := by omega
  refine n_iload_n c_152_5 rfl ?_
  refine n_iconst c_152_6 ?_
  refine n_isub c_152_7 rfl ?_
  refine n_iload_n c_152_8 rfl ?_
  refine n_isub c_152_9 rfl ?_
  have hcst : (((2 - 1) - 1) : Int) = 0 := by omega
  rw [hcst]
  refine n_s2I c_152_10 rfl rfl rfl rfl (mpower0_3  hS ) ?_
  intro z3 M4 hP5
  obtain ⟨eM, f5⟩ := hP5
  subst eM
  obtain rfl : z3 = 1 := by omega
  refine n_idivT (z := 2) c_152_13 (by omega) (by omega) (by omega) (by decide) ?_
  refine n_aload_n c_152_14 rfl ?_
  refine n_getV (bi := 0) c_152_15 sc_112.n rfl rfl rfl (t_dm hS hdm) ?_
  intro z6 ez6 f7
  obtain rfl : z6 = 3 := by omega
  refine n_iremT (z := 2) c_152_18 (by omega) (by omega) (by omega) (by decide) ?_
  exact n_rI c_152_19 rfl ⟨rfl, by omega⟩

set_option maxHeartbeats 4000000 in
theorem mdigK_2_3_1_3 {xs : List Int32} {e : Nat} {ac : Int} {M0 M : nM} (hS : Sf 3 ac M0 M) (hdm : M0 112 0 = 3) : nW xs (e + 1) 152 0 [some (2, 112), some (0, 3), some (0, 2), some (0, 1)] [] M (nPI fun z M1 => M = M1 ∧ (0 ≤ z ∧ z ≤ 0)) := by
  have hd : (3 : Int) = 2 ∨ (3 : Int) = 3 := by decide
  have hac := hS.2.2.2.2
  refine n_iload_n c_152_0 rfl ?_
  refine n_aload_n c_152_1 rfl ?_
  refine n_getV (bi := 0) c_152_2 sc_112.n rfl rfl rfl (t_dm hS hdm) ?_
  intro z1 ez1 f2
  obtain rfl : z1 = 3 := by omega
  refine n_iload_n c_152_5 rfl ?_
  refine n_iconst c_152_6 ?_
  refine n_isub c_152_7 rfl ?_
  refine n_iload_n c_152_8 rfl ?_
  refine n_isub c_152_9 rfl ?_
  have hcst : (((2 - 1) - 1) : Int) = 0 := by omega
  rw [hcst]
  refine n_s2I c_152_10 rfl rfl rfl rfl (mpower0_3  hS ) ?_
  intro z3 M4 hP5
  obtain ⟨eM, f5⟩ := hP5
  subst eM
  obtain rfl : z3 = 1 := by omega
  refine n_idivT (z := 3) c_152_13 (by omega) (by omega) (by omega) (by decide) ?_
  refine n_aload_n c_152_14 rfl ?_
  refine n_getV (bi := 0) c_152_15 sc_112.n rfl rfl rfl (t_dm hS hdm) ?_
  intro z6 ez6 f7
  obtain rfl : z6 = 3 := by omega
  refine n_iremT (z := 0) c_152_18 (by omega) (by omega) (by omega) (by decide) ?_
  exact n_rI c_152_19 rfl ⟨rfl, by omega⟩

set_option maxHeartbeats 4000000 in
theorem mdigK_2_4_1_3 {xs : List Int32} {e : Nat} {ac : Int} {M0 M : nM} (hS : Sf 3 ac M0 M) (hdm : M0 112 0 = 3) : nW xs (e + 1) 152 0 [some (2, 112), some (0, 4), some (0, 2), some (0, 1)] [] M (nPI fun z M1 => M = M1 ∧ (1 ≤ z ∧ z ≤ 1)) := by
  have hd : (3 : Int) = 2 ∨ (3 : Int) = 3 := by decide
  have hac := hS.2.2.2.2
  refine n_iload_n c_152_0 rfl ?_
  refine n_aload_n c_152_1 rfl ?_
  refine n_getV (bi := 0) c_152_2 sc_112.n rfl rfl rfl (t_dm hS hdm) ?_
  intro z1 ez1 f2
  obtain rfl : z1 = 3 := by omega
  refine n_iload_n c_152_5 rfl ?_
  refine n_iconst c_152_6 ?_
  refine n_isub c_152_7 rfl ?_
  refine n_iload_n c_152_8 rfl ?_
  refine n_isub c_152_9 rfl ?_
  have hcst : (((2 - 1) - 1) : Int) = 0 := by omega
  rw [hcst]
  refine n_s2I c_152_10 rfl rfl rfl rfl (mpower0_3  hS ) ?_
  intro z3 M4 hP5
  obtain ⟨eM, f5⟩ := hP5
  subst eM
  obtain rfl : z3 = 1 := by omega
  refine n_idivT (z := 4) c_152_13 (by omega) (by omega) (by omega) (by decide) ?_
  refine n_aload_n c_152_14 rfl ?_
  refine n_getV (bi := 0) c_152_15 sc_112.n rfl rfl rfl (t_dm hS hdm) ?_
  intro z6 ez6 f7
  obtain rfl : z6 = 3 := by omega
  refine n_iremT (z := 1) c_152_18 (by omega) (by omega) (by omega) (by decide) ?_
  exact n_rI c_152_19 rfl ⟨rfl, by omega⟩

set_option maxHeartbeats 4000000 in
theorem mdigK_2_5_1_3 {xs : List Int32} {e : Nat} {ac : Int} {M0 M : nM} (hS : Sf 3 ac M0 M) (hdm : M0 112 0 = 3) : nW xs (e + 1) 152 0 [some (2, 112), some (0, 5), some (0, 2), some (0, 1)] [] M (nPI fun z M1 => M = M1 ∧ (2 ≤ z ∧ z ≤ 2)) := by
  have hd : (3 : Int) = 2 ∨ (3 : Int) = 3 := by decide
  have hac := hS.2.2.2.2
  refine n_iload_n c_152_0 rfl ?_
  refine n_aload_n c_152_1 rfl ?_
  refine n_getV (bi := 0) c_152_2 sc_112.n rfl rfl rfl (t_dm hS hdm) ?_
  intro z1 ez1 f2
  obtain rfl : z1 = 3 := by omega
  refine n_iload_n c_152_5 rfl ?_
  refine n_iconst c_152_6 ?_
  refine n_isub c_152_7 rfl ?_
  refine n_iload_n c_152_8 rfl ?_
  refine n_isub c_152_9 rfl ?_
  have hcst : (((2 - 1) - 1) : Int) = 0 := by omega
  rw [hcst]
  refine n_s2I c_152_10 rfl rfl rfl rfl (mpower0_3  hS ) ?_
  intro z3 M4 hP5
  obtain ⟨eM, f5⟩ := hP5
  subst eM
  obtain rfl : z3 = 1 := by omega
  refine n_idivT (z := 5) c_152_13 (by omega) (by omega) (by omega) (by decide) ?_
  refine n_aload_n c_152_14 rfl ?_
  refine n_getV (bi := 0) c_152_15 sc_112.n rfl rfl rfl (t_dm hS hdm) ?_
  intro z6 ez6 f7
  obtain rfl : z6 = 3 := by omega
  refine n_iremT (z := 2) c_152_18 (by omega) (by omega) (by omega) (by decide) ?_
  exact n_rI c_152_19 rfl ⟨rfl, by omega⟩

set_option maxHeartbeats 4000000 in
theorem mdigK_2_6_1_3 {xs : List Int32} {e : Nat} {ac : Int} {M0 M : nM} (hS : Sf 3 ac M0 M) (hdm : M0 112 0 = 3) : nW xs (e + 1) 152 0 [some (2, 112), some (0, 6), some (0, 2), some (0, 1)] [] M (nPI fun z M1 => M = M1 ∧ (0 ≤ z ∧ z ≤ 0)) := by
  have hd : (3 : Int) = 2 ∨ (3 : Int) = 3 := by decide
  have hac := hS.2.2.2.2
  refine n_iload_n c_152_0 rfl ?_
  refine n_aload_n c_152_1 rfl ?_
  refine n_getV (bi := 0) c_152_2 sc_112.n rfl rfl rfl (t_dm hS hdm) ?_
  intro z1 ez1 f2
  obtain rfl : z1 = 3 := by omega
  refine n_iload_n c_152_5 rfl ?_
  refine n_iconst c_152_6 ?_
  refine n_isub c_152_7 rfl ?_
  refine n_iload_n c_152_8 rfl ?_
  refine n_isub c_152_9 rfl ?_
  have hcst : (((2 - 1) - 1) : Int) = 0 := by omega
  rw [hcst]
  refine n_s2I c_152_10 rfl rfl rfl rfl (mpower0_3  hS ) ?_
  intro z3 M4 hP5
  obtain ⟨eM, f5⟩ := hP5
  subst eM
  obtain rfl : z3 = 1 := by omega
  refine n_idivT (z := 6) c_152_13 (by omega) (by omega) (by omega) (by decide) ?_
  refine n_aload_n c_152_14 rfl ?_
  refine n_getV (bi := 0) c_152_15 sc_112.n rfl rfl rfl (t_dm hS hdm) ?_
  intro z6 ez6 f7
  obtain rfl : z6 = 3 := by omega
  refine n_iremT (z := 0) c_152_18 (by omega) (by omega) (by omega) (by decide) ?_
  exact n_rI c_152_19 rfl ⟨rfl, by omega⟩

set_option maxHeartbeats 4000000 in
theorem mdigK_2_7_1_3 {xs : List Int32} {e : Nat} {ac : Int} {M0 M : nM} (hS : Sf 3 ac M0 M) (hdm : M0 112 0 = 3) : nW xs (e + 1) 152 0 [some (2, 112), some (0, 7), some (0, 2), some (0, 1)] [] M (nPI fun z M1 => M = M1 ∧ (1 ≤ z ∧ z ≤ 1)) := by
  have hd : (3 : Int) = 2 ∨ (3 : Int) = 3 := by decide
  have hac := hS.2.2.2.2
  refine n_iload_n c_152_0 rfl ?_
  refine n_aload_n c_152_1 rfl ?_
  refine n_getV (bi := 0) c_152_2 sc_112.n rfl rfl rfl (t_dm hS hdm) ?_
  intro z1 ez1 f2
  obtain rfl : z1 = 3 := by omega
  refine n_iload_n c_152_5 rfl ?_
  refine n_iconst c_152_6 ?_
  refine n_isub c_152_7 rfl ?_
  refine n_iload_n c_152_8 rfl ?_
  refine n_isub c_152_9 rfl ?_
  have hcst : (((2 - 1) - 1) : Int) = 0 := by omega
  rw [hcst]
  refine n_s2I c_152_10 rfl rfl rfl rfl (mpower0_3  hS ) ?_
  intro z3 M4 hP5
  obtain ⟨eM, f5⟩ := hP5
  subst eM
  obtain rfl : z3 = 1 := by omega
  refine n_idivT (z := 7) c_152_13 (by omega) (by omega) (by omega) (by decide) ?_
  refine n_aload_n c_152_14 rfl ?_
  refine n_getV (bi := 0) c_152_15 sc_112.n rfl rfl rfl (t_dm hS hdm) ?_
  intro z6 ez6 f7
  obtain rfl : z6 = 3 := by omega
  refine n_iremT (z := 1) c_152_18 (by omega) (by omega) (by omega) (by decide) ?_
  exact n_rI c_152_19 rfl ⟨rfl, by omega⟩

set_option maxHeartbeats 4000000 in
theorem mdigK_2_8_1_3 {xs : List Int32} {e : Nat} {ac : Int} {M0 M : nM} (hS : Sf 3 ac M0 M) (hdm : M0 112 0 = 3) : nW xs (e + 1) 152 0 [some (2, 112), some (0, 8), some (0, 2), some (0, 1)] [] M (nPI fun z M1 => M = M1 ∧ (2 ≤ z ∧ z ≤ 2)) := by
  have hd : (3 : Int) = 2 ∨ (3 : Int) = 3 := by decide
  have hac := hS.2.2.2.2
  refine n_iload_n c_152_0 rfl ?_
  refine n_aload_n c_152_1 rfl ?_
  refine n_getV (bi := 0) c_152_2 sc_112.n rfl rfl rfl (t_dm hS hdm) ?_
  intro z1 ez1 f2
  obtain rfl : z1 = 3 := by omega
  refine n_iload_n c_152_5 rfl ?_
  refine n_iconst c_152_6 ?_
  refine n_isub c_152_7 rfl ?_
  refine n_iload_n c_152_8 rfl ?_
  refine n_isub c_152_9 rfl ?_
  have hcst : (((2 - 1) - 1) : Int) = 0 := by omega
  rw [hcst]
  refine n_s2I c_152_10 rfl rfl rfl rfl (mpower0_3  hS ) ?_
  intro z3 M4 hP5
  obtain ⟨eM, f5⟩ := hP5
  subst eM
  obtain rfl : z3 = 1 := by omega
  refine n_idivT (z := 8) c_152_13 (by omega) (by omega) (by omega) (by decide) ?_
  refine n_aload_n c_152_14 rfl ?_
  refine n_getV (bi := 0) c_152_15 sc_112.n rfl rfl rfl (t_dm hS hdm) ?_
  intro z6 ez6 f7
  obtain rfl : z6 = 3 := by omega
  refine n_iremT (z := 2) c_152_18 (by omega) (by omega) (by omega) (by decide) ?_
  exact n_rI c_152_19 rfl ⟨rfl, by omega⟩

set_option maxHeartbeats 4000000 in
theorem mmakesX_2_3_c {xs : List Int32} {e : Nat} {ac : Int} {M : nM} {Ms : nM} (hS : Sf 3 ac M M) (hdm : M 112 0 = 3) (hms : M = Ms) (hac4 : Ms 112 4 = ac) (hwr : ∀ a : Int, 0 ≤ a → a < ac → WR 3 a Ms) (hkr : Ms 124 2 ≠ -1 → cMd (NCl 3 9 2 ac (Tm Ms)) (Ms 124 2)) : ∀ nn : Nat, (∀ (x2 x3 x4 : Int) (M : nM), Sf 3 ac M M → (9 ≤ x2 ∧ x2 ≤ 9) → (19683 ≤ x3 ∧ x3 ≤ 19683) → (0 ≤ x4 ∧ x4 ≤ 19683) → (M 112 0 = 3) → (F5 2 Ms M) → (∀ c : Int, 0 ≤ c → c < x4 → M 125 c = 0) → (19683 - x4) * 1 + 5148391 < (nn : Int) → nW xs (e + 2) 167 29 [some (2, 112), some (0, 2), some (0, x2), some (0, x3), some (0, x4), none, none, none] [] M (nPV fun M1 => Sf 3 ac M1 M1 ∧ (cMd (NCl 3 9 2 ac (Tm Ms)) (M1 124 2)) ∧ (F5 2 Ms M1))) ∧ (∀ (x2 x3 x4 : Int) (M : nM), Sf 3 ac M M → (9 ≤ x2 ∧ x2 ≤ 9) → (19683 ≤ x3 ∧ x3 ≤ 19683) → (0 ≤ x4 ∧ x4 ≤ 256) → (M 112 0 = 3) → (F5 2 Ms M) → (RSw 3 9 19683 2 ac M M) → (RDn 3 9 19683 2 ac x4 M M) → (PDr 3 9 2 ac x4 M M ∨ 19683 ≤ x4) → (256 - x4) * 19955 + 19955 < (nn : Int) → nW xs (e + 2) 167 113 [some (2, 112), some (0, 2), some (0, x2), some (0, x3), some (0, x4), none, none, none] [] M (nPV fun M1 => Sf 3 ac M1 M1 ∧ (cMd (NCl 3 9 2 ac (Tm Ms)) (M1 124 2)) ∧ (F5 2 Ms M1))) ∧ (∀ (x2 x3 x4 x5 x6 : Int) (M : nM), Sf 3 ac M M → (9 ≤ x2 ∧ x2 ≤ 9) → (19683 ≤ x3 ∧ x3 ≤ 19683) → (0 ≤ x4 ∧ x4 ≤ 256) → (-1 ≤ x5 ∧ x5 ≤ 19682) → (0 ≤ x6 ∧ x6 ≤ 19683) → (M 112 0 = 3) → (F5 2 Ms M) → (RSw 3 9 19683 2 ac M M) → (RDn 3 9 19683 2 ac x4 M M) → (PDr 3 9 2 ac x4 M M ∨ 19683 ≤ x4) → (x5 = -1 → ∀ c : Int, 0 ≤ c → c < x6 → M 125 c ≤ 0) → (x5 = -1 ∨ (0 ≤ x5 ∧ 1 ≤ M 125 x5)) → (256 - x4) * 19955 + (19683 - x6) * 1 + 270 < (nn : Int) → nW xs (e + 2) 167 119 [some (2, 112), some (0, 2), some (0, x2), some (0, x3), some (0, x4), some (0, x5), some (0, x6), none] [] M (nPV fun M1 => Sf 3 ac M1 M1 ∧ (cMd (NCl 3 9 2 ac (Tm Ms)) (M1 124 2)) ∧ (F5 2 Ms M1))) ∧ (∀ (x2 x3 x4 x6 x7 : Int) (M : nM), Sf 3 ac M M → (9 ≤ x2 ∧ x2 ≤ 9) → (19683 ≤ x3 ∧ x3 ≤ 19683) → (0 ≤ x4 ∧ x4 ≤ 255) → (0 ≤ x6 ∧ x6 ≤ 19682) → (0 ≤ x7 ∧ x7 ≤ 9) → (M 112 0 = 3) → (∃ (Mm : nM) (bq : Int), F5 2 Ms Mm ∧ RSw 3 9 19683 2 ac Mm Mm ∧ RDn 3 9 19683 2 ac x4 Mm Mm ∧ (PDr 3 9 2 ac x4 Mm Mm ∨ 19683 ≤ x4) ∧ NEW 3 9 2 x4 bq x7 Mm M ∧ (1 ≤ Mm 125 bq ∧ 0 ≤ bq ∧ bq < 19683) ∧ x6 = bq / dpn 3 x7.toNat) → (256 - x4) * 19955 + (9 - x7) * 1 + 259 < (nn : Int) → nW xs (e + 2) 167 251 [some (2, 112), some (0, 2), some (0, x2), some (0, x3), some (0, x4), none, some (0, x6), some (0, x7)] [] M (nPV fun M1 => Sf 3 ac M1 M1 ∧ (cMd (NCl 3 9 2 ac (Tm Ms)) (M1 124 2)) ∧ (F5 2 Ms M1))) ∧ (∀ (x2 x3 x4 x7 : Int) (M : nM), Sf 3 ac M M → (9 ≤ x2 ∧ x2 ≤ 9) → (19683 ≤ x3 ∧ x3 ≤ 19683) → (1 ≤ x4 ∧ x4 ≤ 256) → (0 ≤ x7 ∧ x7 ≤ 256) → (M 112 0 = 3) → (F5 2 Ms M) → (RSw 3 9 19683 2 ac M M) → (RE 3 9 19683 2 ac x4 x7 M M) → (PDr 3 9 2 ac x4 M M ∨ 19683 ≤ x4) → (256 - (x4 - 1)) * 19955 + (256 - x7) * 1 + 1 < (nn : Int) → nW xs (e + 2) 167 314 [some (2, 112), some (0, 2), some (0, x2), some (0, x3), some (0, x4), none, none, some (0, x7)] [] M (nPV fun M1 => Sf 3 ac M1 M1 ∧ (cMd (NCl 3 9 2 ac (Tm Ms)) (M1 124 2)) ∧ (F5 2 Ms M1))) := by
  have hd : (3 : Int) = 2 ∨ (3 : Int) = 3 := by decide
  have hac := hS.2.2.2.2
  have hT := Tm_r hS
  rw [hms] at hT
  intro nn
  induction nn with
  | zero => refine ⟨?_, ?_, ?_, ?_, ?_⟩ <;> (intros; omega)
  | succ nn ih =>
    refine ⟨?_, ?_, ?_, ?_, ?_⟩
    · intro x2 x3 x4 M hS k2 k3 k4 hdm v0 v1 hnn
      refine n_iload c_167_29 rfl ?_
      refine n_iload_n c_167_31 rfl ?_
      refine n_if2_ge c_167_32 (by omega) (by omega) ?_ ?_
      · intro h1
        refine n_iconst c_167_49 ?_
        refine n_istore (L2 := [some (2, 112), some (0, 2), some (0, x2), some (0, x3), some (0, 0), none, none, none]) c_167_50 rfl rfl ?_
        refine n_iload c_167_52 rfl ?_
        refine n_iload_n c_167_54 rfl ?_
        refine n_if2_ge c_167_55 (by omega) (by omega) ?_ ?_
        · intro h2
          exfalso; omega
        · intro h3
          refine n_iconst c_167_58 ?_
          refine n_istore (L2 := [some (2, 112), some (0, 2), some (0, x2), some (0, x3), some (0, 0), some (0, 0), none, none]) c_167_59 rfl rfl ?_
          refine n_iload_n c_167_61 rfl ?_
          refine n_iconst c_167_62 ?_
          refine n_isub c_167_63 rfl ?_
          refine n_istore (L2 := [some (2, 112), some (0, 2), some (0, x2), some (0, x3), some (0, 0), some (0, 0), some (0, (x2 - 1)), none]) c_167_64 rfl rfl ?_
          refine n_iload c_167_66 rfl ?_
          refine n_if0_lt c_167_68 (by omega) ?_ ?_
          · intro h4
            exfalso; omega
          · intro h5
            refine n_iload c_167_71 rfl ?_
            refine n_aload_n c_167_73 rfl ?_
            refine n_getV (bi := 0) c_167_74 sc_112.n rfl rfl rfl (show 3 ≤ M 112 0 ∧ M 112 0 ≤ 3 by omega) ?_
            intro z6 ez6 f7
            obtain rfl : z6 = 3 := by omega
            refine n_imul c_167_77 rfl ?_
            refine n_aload_n c_167_78 rfl ?_
            refine n_iload c_167_79 rfl ?_
            refine n_iload_n c_167_81 rfl ?_
            refine n_iload c_167_82 rfl ?_
            have hcst : ((x2 - 1) : Int) = 8 := by omega
            rw [hcst]
            refine n_v3I c_167_84 rfl sc_112.n rfl rfl rfl rfl (mdigK_2_8_0_3  hS (by omega)) ?_
            intro z8 M9 hP10
            obtain ⟨eM, f10⟩ := hP10
            subst eM
            obtain rfl : z8 = 2 := by omega
            refine n_iadd c_167_87 rfl ?_
            refine n_istore (L2 := [some (2, 112), some (0, 2), some (0, x2), some (0, x3), some (0, 0), some (0, ((0 * 3) + 2)), some (0, 8), none]) c_167_88 rfl rfl ?_
            refine n_iinc (L2 := [some (2, 112), some (0, 2), some (0, x2), some (0, x3), some (0, 0), some (0, ((0 * 3) + 2)), some (0, (8 + (-1))), none]) c_167_90 rfl rfl rfl ?_
            refine n_goto c_167_93 ?_
            refine n_iload c_167_66 rfl ?_
            refine n_if0_lt c_167_68 (by omega) ?_ ?_
            · intro h11
              exfalso; omega
            · intro h12
              refine n_iload c_167_71 rfl ?_
              refine n_aload_n c_167_73 rfl ?_
              refine n_getV (bi := 0) c_167_74 sc_112.n rfl rfl rfl (show 3 ≤ M 112 0 ∧ M 112 0 ≤ 3 by omega) ?_
              intro z13 ez13 f14
              obtain rfl : z13 = 3 := by omega
              refine n_imul c_167_77 rfl ?_
              refine n_aload_n c_167_78 rfl ?_
              refine n_iload c_167_79 rfl ?_
              refine n_iload_n c_167_81 rfl ?_
              refine n_iload c_167_82 rfl ?_
              have hcst : ((8 + (-1)) : Int) = 7 := by omega
              rw [hcst]
              refine n_v3I c_167_84 rfl sc_112.n rfl rfl rfl rfl (mdigK_2_7_0_3  hS (by omega)) ?_
              intro z15 M16 hP17
              obtain ⟨eM, f17⟩ := hP17
              subst eM
              obtain rfl : z15 = 2 := by omega
              refine n_iadd c_167_87 rfl ?_
              refine n_istore (L2 := [some (2, 112), some (0, 2), some (0, x2), some (0, x3), some (0, 0), some (0, ((((0 * 3) + 2) * 3) + 2)), some (0, 7), none]) c_167_88 rfl rfl ?_
              refine n_iinc (L2 := [some (2, 112), some (0, 2), some (0, x2), some (0, x3), some (0, 0), some (0, ((((0 * 3) + 2) * 3) + 2)), some (0, (7 + (-1))), none]) c_167_90 rfl rfl rfl ?_
              refine n_goto c_167_93 ?_
              refine n_iload c_167_66 rfl ?_
              refine n_if0_lt c_167_68 (by omega) ?_ ?_
              · intro h18
                exfalso; omega
              · intro h19
                refine n_iload c_167_71 rfl ?_
                refine n_aload_n c_167_73 rfl ?_
                refine n_getV (bi := 0) c_167_74 sc_112.n rfl rfl rfl (show 3 ≤ M 112 0 ∧ M 112 0 ≤ 3 by omega) ?_
                intro z20 ez20 f21
                obtain rfl : z20 = 3 := by omega
                refine n_imul c_167_77 rfl ?_
                refine n_aload_n c_167_78 rfl ?_
                refine n_iload c_167_79 rfl ?_
                refine n_iload_n c_167_81 rfl ?_
                refine n_iload c_167_82 rfl ?_
                have hcst : ((7 + (-1)) : Int) = 6 := by omega
                rw [hcst]
                refine n_v3I c_167_84 rfl sc_112.n rfl rfl rfl rfl (mdigK_2_6_0_3  hS (by omega)) ?_
                intro z22 M23 hP24
                obtain ⟨eM, f24⟩ := hP24
                subst eM
                obtain rfl : z22 = 2 := by omega
                refine n_iadd c_167_87 rfl ?_
                refine n_istore (L2 := [some (2, 112), some (0, 2), some (0, x2), some (0, x3), some (0, 0), some (0, ((((((0 * 3) + 2) * 3) + 2) * 3) + 2)), some (0, 6), none]) c_167_88 rfl rfl ?_
                refine n_iinc (L2 := [some (2, 112), some (0, 2), some (0, x2), some (0, x3), some (0, 0), some (0, ((((((0 * 3) + 2) * 3) + 2) * 3) + 2)), some (0, (6 + (-1))), none]) c_167_90 rfl rfl rfl ?_
                refine n_goto c_167_93 ?_
                refine n_iload c_167_66 rfl ?_
                refine n_if0_lt c_167_68 (by omega) ?_ ?_
                · intro h25
                  exfalso; omega
                · intro h26
                  refine n_iload c_167_71 rfl ?_
                  refine n_aload_n c_167_73 rfl ?_
                  refine n_getV (bi := 0) c_167_74 sc_112.n rfl rfl rfl (show 3 ≤ M 112 0 ∧ M 112 0 ≤ 3 by omega) ?_
                  intro z27 ez27 f28
                  obtain rfl : z27 = 3 := by omega
                  refine n_imul c_167_77 rfl ?_
                  refine n_aload_n c_167_78 rfl ?_
                  refine n_iload c_167_79 rfl ?_
                  refine n_iload_n c_167_81 rfl ?_
                  refine n_iload c_167_82 rfl ?_
                  have hcst : ((6 + (-1)) : Int) = 5 := by omega
                  rw [hcst]
                  refine n_v3I c_167_84 rfl sc_112.n rfl rfl rfl rfl (mdigK_2_5_0_3  hS (by omega)) ?_
                  intro z29 M30 hP31
                  obtain ⟨eM, f31⟩ := hP31
                  subst eM
                  obtain rfl : z29 = 1 := by omega
                  refine n_iadd c_167_87 rfl ?_
                  refine n_istore (L2 := [some (2, 112), some (0, 2), some (0, x2), some (0, x3), some (0, 0), some (0, ((((((((0 * 3) + 2) * 3) + 2) * 3) + 2) * 3) + 1)), some (0, 5), none]) c_167_88 rfl rfl ?_
                  refine n_iinc (L2 := [some (2, 112), some (0, 2), some (0, x2), some (0, x3), some (0, 0), some (0, ((((((((0 * 3) + 2) * 3) + 2) * 3) + 2) * 3) + 1)), some (0, (5 + (-1))), none]) c_167_90 rfl rfl rfl ?_
                  refine n_goto c_167_93 ?_
                  refine n_iload c_167_66 rfl ?_
                  refine n_if0_lt c_167_68 (by omega) ?_ ?_
                  · intro h32
                    exfalso; omega
                  · intro h33
                    refine n_iload c_167_71 rfl ?_
                    refine n_aload_n c_167_73 rfl ?_
                    refine n_getV (bi := 0) c_167_74 sc_112.n rfl rfl rfl (show 3 ≤ M 112 0 ∧ M 112 0 ≤ 3 by omega) ?_
                    intro z34 ez34 f35
                    obtain rfl : z34 = 3 := by omega
                    refine n_imul c_167_77 rfl ?_
                    refine n_aload_n c_167_78 rfl ?_
                    refine n_iload c_167_79 rfl ?_
                    refine n_iload_n c_167_81 rfl ?_
                    refine n_iload c_167_82 rfl ?_
                    have hcst : ((5 + (-1)) : Int) = 4 := by omega
                    rw [hcst]
                    refine n_v3I c_167_84 rfl sc_112.n rfl rfl rfl rfl (mdigK_2_4_0_3  hS (by omega)) ?_
                    intro z36 M37 hP38
                    obtain ⟨eM, f38⟩ := hP38
                    subst eM
                    obtain rfl : z36 = 1 := by omega
                    refine n_iadd c_167_87 rfl ?_
                    refine n_istore (L2 := [some (2, 112), some (0, 2), some (0, x2), some (0, x3), some (0, 0), some (0, ((((((((((0 * 3) + 2) * 3) + 2) * 3) + 2) * 3) + 1) * 3) + 1)), some (0, 4), none]) c_167_88 rfl rfl ?_
                    refine n_iinc (L2 := [some (2, 112), some (0, 2), some (0, x2), some (0, x3), some (0, 0), some (0, ((((((((((0 * 3) + 2) * 3) + 2) * 3) + 2) * 3) + 1) * 3) + 1)), some (0, (4 + (-1))), none]) c_167_90 rfl rfl rfl ?_
                    refine n_goto c_167_93 ?_
                    refine n_iload c_167_66 rfl ?_
                    refine n_if0_lt c_167_68 (by omega) ?_ ?_
                    · intro h39
                      exfalso; omega
                    · intro h40
                      refine n_iload c_167_71 rfl ?_
                      refine n_aload_n c_167_73 rfl ?_
                      refine n_getV (bi := 0) c_167_74 sc_112.n rfl rfl rfl (show 3 ≤ M 112 0 ∧ M 112 0 ≤ 3 by omega) ?_
                      intro z41 ez41 f42
                      obtain rfl : z41 = 3 := by omega
                      refine n_imul c_167_77 rfl ?_
                      refine n_aload_n c_167_78 rfl ?_
                      refine n_iload c_167_79 rfl ?_
                      refine n_iload_n c_167_81 rfl ?_
                      refine n_iload c_167_82 rfl ?_
                      have hcst : ((4 + (-1)) : Int) = 3 := by omega
                      rw [hcst]
                      refine n_v3I c_167_84 rfl sc_112.n rfl rfl rfl rfl (mdigK_2_3_0_3  hS (by omega)) ?_
                      intro z43 M44 hP45
                      obtain ⟨eM, f45⟩ := hP45
                      subst eM
                      obtain rfl : z43 = 1 := by omega
                      refine n_iadd c_167_87 rfl ?_
                      refine n_istore (L2 := [some (2, 112), some (0, 2), some (0, x2), some (0, x3), some (0, 0), some (0, ((((((((((((0 * 3) + 2) * 3) + 2) * 3) + 2) * 3) + 1) * 3) + 1) * 3) + 1)), some (0, 3), none]) c_167_88 rfl rfl ?_
                      refine n_iinc (L2 := [some (2, 112), some (0, 2), some (0, x2), some (0, x3), some (0, 0), some (0, ((((((((((((0 * 3) + 2) * 3) + 2) * 3) + 2) * 3) + 1) * 3) + 1) * 3) + 1)), some (0, (3 + (-1))), none]) c_167_90 rfl rfl rfl ?_
                      refine n_goto c_167_93 ?_
                      refine n_iload c_167_66 rfl ?_
                      refine n_if0_lt c_167_68 (by omega) ?_ ?_
                      · intro h46
                        exfalso; omega
                      · intro h47
                        refine n_iload c_167_71 rfl ?_
                        refine n_aload_n c_167_73 rfl ?_
                        refine n_getV (bi := 0) c_167_74 sc_112.n rfl rfl rfl (show 3 ≤ M 112 0 ∧ M 112 0 ≤ 3 by omega) ?_
                        intro z48 ez48 f49
                        obtain rfl : z48 = 3 := by omega
                        refine n_imul c_167_77 rfl ?_
                        refine n_aload_n c_167_78 rfl ?_
                        refine n_iload c_167_79 rfl ?_
                        refine n_iload_n c_167_81 rfl ?_
                        refine n_iload c_167_82 rfl ?_
                        have hcst : ((3 + (-1)) : Int) = 2 := by omega
                        rw [hcst]
                        refine n_v3I c_167_84 rfl sc_112.n rfl rfl rfl rfl (mdigK_2_2_0_3  hS (by omega)) ?_
                        intro z50 M51 hP52
                        obtain ⟨eM, f52⟩ := hP52
                        subst eM
                        obtain rfl : z50 = 0 := by omega
                        refine n_iadd c_167_87 rfl ?_
                        refine n_istore (L2 := [some (2, 112), some (0, 2), some (0, x2), some (0, x3), some (0, 0), some (0, ((((((((((((((0 * 3) + 2) * 3) + 2) * 3) + 2) * 3) + 1) * 3) + 1) * 3) + 1) * 3) + 0)), some (0, 2), none]) c_167_88 rfl rfl ?_
                        refine n_iinc (L2 := [some (2, 112), some (0, 2), some (0, x2), some (0, x3), some (0, 0), some (0, ((((((((((((((0 * 3) + 2) * 3) + 2) * 3) + 2) * 3) + 1) * 3) + 1) * 3) + 1) * 3) + 0)), some (0, (2 + (-1))), none]) c_167_90 rfl rfl rfl ?_
                        refine n_goto c_167_93 ?_
                        refine n_iload c_167_66 rfl ?_
                        refine n_if0_lt c_167_68 (by omega) ?_ ?_
                        · intro h53
                          exfalso; omega
                        · intro h54
                          refine n_iload c_167_71 rfl ?_
                          refine n_aload_n c_167_73 rfl ?_
                          refine n_getV (bi := 0) c_167_74 sc_112.n rfl rfl rfl (show 3 ≤ M 112 0 ∧ M 112 0 ≤ 3 by omega) ?_
                          intro z55 ez55 f56
                          obtain rfl : z55 = 3 := by omega
                          refine n_imul c_167_77 rfl ?_
                          refine n_aload_n c_167_78 rfl ?_
                          refine n_iload c_167_79 rfl ?_
                          refine n_iload_n c_167_81 rfl ?_
                          refine n_iload c_167_82 rfl ?_
                          have hcst : ((2 + (-1)) : Int) = 1 := by omega
                          rw [hcst]
                          refine n_v3I c_167_84 rfl sc_112.n rfl rfl rfl rfl (mdigK_2_1_0_3  hS (by omega)) ?_
                          intro z57 M58 hP59
                          obtain ⟨eM, f59⟩ := hP59
                          subst eM
                          obtain rfl : z57 = 0 := by omega
                          refine n_iadd c_167_87 rfl ?_
                          refine n_istore (L2 := [some (2, 112), some (0, 2), some (0, x2), some (0, x3), some (0, 0), some (0, ((((((((((((((((0 * 3) + 2) * 3) + 2) * 3) + 2) * 3) + 1) * 3) + 1) * 3) + 1) * 3) + 0) * 3) + 0)), some (0, 1), none]) c_167_88 rfl rfl ?_
                          refine n_iinc (L2 := [some (2, 112), some (0, 2), some (0, x2), some (0, x3), some (0, 0), some (0, ((((((((((((((((0 * 3) + 2) * 3) + 2) * 3) + 2) * 3) + 1) * 3) + 1) * 3) + 1) * 3) + 0) * 3) + 0)), some (0, (1 + (-1))), none]) c_167_90 rfl rfl rfl ?_
                          refine n_goto c_167_93 ?_
                          refine n_iload c_167_66 rfl ?_
                          refine n_if0_lt c_167_68 (by omega) ?_ ?_
                          · intro h60
                            exfalso; omega
                          · intro h61
                            refine n_iload c_167_71 rfl ?_
                            refine n_aload_n c_167_73 rfl ?_
                            refine n_getV (bi := 0) c_167_74 sc_112.n rfl rfl rfl (show 3 ≤ M 112 0 ∧ M 112 0 ≤ 3 by omega) ?_
                            intro z62 ez62 f63
                            obtain rfl : z62 = 3 := by omega
                            refine n_imul c_167_77 rfl ?_
                            refine n_aload_n c_167_78 rfl ?_
                            refine n_iload c_167_79 rfl ?_
                            refine n_iload_n c_167_81 rfl ?_
                            refine n_iload c_167_82 rfl ?_
                            have hcst : ((1 + (-1)) : Int) = 0 := by omega
                            rw [hcst]
                            refine n_v3I c_167_84 rfl sc_112.n rfl rfl rfl rfl (mdigK_2_0_0_3  hS (by omega)) ?_
                            intro z64 M65 hP66
                            obtain ⟨eM, f66⟩ := hP66
                            subst eM
                            obtain rfl : z64 = 0 := by omega
                            refine n_iadd c_167_87 rfl ?_
                            refine n_istore (L2 := [some (2, 112), some (0, 2), some (0, x2), some (0, x3), some (0, 0), some (0, ((((((((((((((((((0 * 3) + 2) * 3) + 2) * 3) + 2) * 3) + 1) * 3) + 1) * 3) + 1) * 3) + 0) * 3) + 0) * 3) + 0)), some (0, 0), none]) c_167_88 rfl rfl ?_
                            refine n_iinc (L2 := [some (2, 112), some (0, 2), some (0, x2), some (0, x3), some (0, 0), some (0, ((((((((((((((((((0 * 3) + 2) * 3) + 2) * 3) + 2) * 3) + 1) * 3) + 1) * 3) + 1) * 3) + 0) * 3) + 0) * 3) + 0)), some (0, (0 + (-1))), none]) c_167_90 rfl rfl rfl ?_
                            refine n_goto c_167_93 ?_
                            refine n_iload c_167_66 rfl ?_
                            refine n_if0_lt c_167_68 (by omega) ?_ ?_
                            · intro h67
                              refine n_aload_n c_167_96 rfl ?_
                              refine n_getR c_167_97 sc_112.n rfl rfl rfl r_112_17 ?_
                              refine n_iload c_167_100 rfl ?_
                              refine n_iconst c_167_102 ?_
                              refine n_iastoreM hS c_167_103 sc_125.n rfl (by omega) (m_125 (by omega) (by omega)) ?_
                              intro M68 eM68 hS68
                              have g68_0 : M68 112 0 = M 112 0 := by rw [eM68]; exact nu_a (by omega)
                              have pr1 := PRj.st (p := 0) (PRj.ini (fun c c0 c1 => v1 c c0 (by omega)) : PRj 3 9 19683 2 ac 0 M M) (by omega) (show mpj 3 9 (2 - 1 - 0) = ((((((((((((((((((0 * 3) + 2) * 3) + 2) * 3) + 2) * 3) + 1) * 3) + 1) * 3) + 1) * 3) + 0) * 3) + 0) * 3) + 0) from by decide +kernel) eM68
                              have fp1 : F5 2 Ms M68 := fun a i q1 q2 q3 q4 q5 => by rw [eM68, nu_a q3]; exact v0 a i q1 q2 q3 q4 q5
                              refine n_iinc (L2 := [some (2, 112), some (0, 2), some (0, x2), some (0, x3), some (0, (0 + 1)), some (0, ((((((((((((((((((0 * 3) + 2) * 3) + 2) * 3) + 2) * 3) + 1) * 3) + 1) * 3) + 1) * 3) + 0) * 3) + 0) * 3) + 0)), some (0, (0 + (-1))), none]) c_167_104 rfl rfl rfl ?_
                              refine n_goto c_167_107 ?_
                              refine n_iload c_167_52 rfl ?_
                              refine n_iload_n c_167_54 rfl ?_
                              refine n_if2_ge c_167_55 (by omega) (by omega) ?_ ?_
                              · intro h69
                                exfalso; omega
                              · intro h70
                                refine n_iconst c_167_58 ?_
                                refine n_istore (L2 := [some (2, 112), some (0, 2), some (0, x2), some (0, x3), some (0, (0 + 1)), some (0, 0), some (0, (0 + (-1))), none]) c_167_59 rfl rfl ?_
                                refine n_iload_n c_167_61 rfl ?_
                                refine n_iconst c_167_62 ?_
                                refine n_isub c_167_63 rfl ?_
                                refine n_istore (L2 := [some (2, 112), some (0, 2), some (0, x2), some (0, x3), some (0, (0 + 1)), some (0, 0), some (0, (x2 - 1)), none]) c_167_64 rfl rfl ?_
                                refine n_iload c_167_66 rfl ?_
                                refine n_if0_lt c_167_68 (by omega) ?_ ?_
                                · intro h71
                                  exfalso; omega
                                · intro h72
                                  refine n_iload c_167_71 rfl ?_
                                  refine n_aload_n c_167_73 rfl ?_
                                  refine n_getV (bi := 0) c_167_74 sc_112.n rfl rfl rfl (show 3 ≤ M68 112 0 ∧ M68 112 0 ≤ 3 by omega) ?_
                                  intro z73 ez73 f74
                                  obtain rfl : z73 = 3 := by omega
                                  refine n_imul c_167_77 rfl ?_
                                  refine n_aload_n c_167_78 rfl ?_
                                  refine n_iload c_167_79 rfl ?_
                                  refine n_iload_n c_167_81 rfl ?_
                                  refine n_iload c_167_82 rfl ?_
                                  have hcst : ((x2 - 1) : Int) = 8 := by omega
                                  rw [hcst]
                                  have hcst : ((0 + 1) : Int) = 1 := by omega
                                  rw [hcst]
                                  refine n_v3I c_167_84 rfl sc_112.n rfl rfl rfl rfl (mdigK_2_8_1_3  hS68 (by omega)) ?_
                                  intro z75 M76 hP77
                                  obtain ⟨eM, f77⟩ := hP77
                                  subst eM
                                  obtain rfl : z75 = 2 := by omega
                                  refine n_iadd c_167_87 rfl ?_
                                  refine n_istore (L2 := [some (2, 112), some (0, 2), some (0, x2), some (0, x3), some (0, 1), some (0, ((0 * 3) + 2)), some (0, 8), none]) c_167_88 rfl rfl ?_
                                  refine n_iinc (L2 := [some (2, 112), some (0, 2), some (0, x2), some (0, x3), some (0, 1), some (0, ((0 * 3) + 2)), some (0, (8 + (-1))), none]) c_167_90 rfl rfl rfl ?_
                                  refine n_goto c_167_93 ?_
                                  refine n_iload c_167_66 rfl ?_
                                  refine n_if0_lt c_167_68 (by omega) ?_ ?_
                                  · intro h78
                                    exfalso; omega
                                  · intro h79
                                    refine n_iload c_167_71 rfl ?_
                                    refine n_aload_n c_167_73 rfl ?_
                                    refine n_getV (bi := 0) c_167_74 sc_112.n rfl rfl rfl (show 3 ≤ M68 112 0 ∧ M68 112 0 ≤ 3 by omega) ?_
                                    intro z80 ez80 f81
                                    obtain rfl : z80 = 3 := by omega
                                    refine n_imul c_167_77 rfl ?_
                                    refine n_aload_n c_167_78 rfl ?_
                                    refine n_iload c_167_79 rfl ?_
                                    refine n_iload_n c_167_81 rfl ?_
                                    refine n_iload c_167_82 rfl ?_
                                    have hcst : ((8 + (-1)) : Int) = 7 := by omega
                                    rw [hcst]
                                    refine n_v3I c_167_84 rfl sc_112.n rfl rfl rfl rfl (mdigK_2_7_1_3  hS68 (by omega)) ?_
                                    intro z82 M83 hP84
                                    obtain ⟨eM, f84⟩ := hP84
                                    subst eM
                                    obtain rfl : z82 = 1 := by omega
                                    refine n_iadd c_167_87 rfl ?_
                                    refine n_istore (L2 := [some (2, 112), some (0, 2), some (0, x2), some (0, x3), some (0, 1), some (0, ((((0 * 3) + 2) * 3) + 1)), some (0, 7), none]) c_167_88 rfl rfl ?_
                                    refine n_iinc (L2 := [some (2, 112), some (0, 2), some (0, x2), some (0, x3), some (0, 1), some (0, ((((0 * 3) + 2) * 3) + 1)), some (0, (7 + (-1))), none]) c_167_90 rfl rfl rfl ?_
                                    refine n_goto c_167_93 ?_
                                    refine n_iload c_167_66 rfl ?_
                                    refine n_if0_lt c_167_68 (by omega) ?_ ?_
                                    · intro h85
                                      exfalso; omega
                                    · intro h86
                                      refine n_iload c_167_71 rfl ?_
                                      refine n_aload_n c_167_73 rfl ?_
                                      refine n_getV (bi := 0) c_167_74 sc_112.n rfl rfl rfl (show 3 ≤ M68 112 0 ∧ M68 112 0 ≤ 3 by omega) ?_
                                      intro z87 ez87 f88
                                      obtain rfl : z87 = 3 := by omega
                                      refine n_imul c_167_77 rfl ?_
                                      refine n_aload_n c_167_78 rfl ?_
                                      refine n_iload c_167_79 rfl ?_
                                      refine n_iload_n c_167_81 rfl ?_
                                      refine n_iload c_167_82 rfl ?_
                                      have hcst : ((7 + (-1)) : Int) = 6 := by omega
                                      rw [hcst]
                                      refine n_v3I c_167_84 rfl sc_112.n rfl rfl rfl rfl (mdigK_2_6_1_3  hS68 (by omega)) ?_
                                      intro z89 M90 hP91
                                      obtain ⟨eM, f91⟩ := hP91
                                      subst eM
                                      obtain rfl : z89 = 0 := by omega
                                      refine n_iadd c_167_87 rfl ?_
                                      refine n_istore (L2 := [some (2, 112), some (0, 2), some (0, x2), some (0, x3), some (0, 1), some (0, ((((((0 * 3) + 2) * 3) + 1) * 3) + 0)), some (0, 6), none]) c_167_88 rfl rfl ?_
                                      refine n_iinc (L2 := [some (2, 112), some (0, 2), some (0, x2), some (0, x3), some (0, 1), some (0, ((((((0 * 3) + 2) * 3) + 1) * 3) + 0)), some (0, (6 + (-1))), none]) c_167_90 rfl rfl rfl ?_
                                      refine n_goto c_167_93 ?_
                                      refine n_iload c_167_66 rfl ?_
                                      refine n_if0_lt c_167_68 (by omega) ?_ ?_
                                      · intro h92
                                        exfalso; omega
                                      · intro h93
                                        refine n_iload c_167_71 rfl ?_
                                        refine n_aload_n c_167_73 rfl ?_
                                        refine n_getV (bi := 0) c_167_74 sc_112.n rfl rfl rfl (show 3 ≤ M68 112 0 ∧ M68 112 0 ≤ 3 by omega) ?_
                                        intro z94 ez94 f95
                                        obtain rfl : z94 = 3 := by omega
                                        refine n_imul c_167_77 rfl ?_
                                        refine n_aload_n c_167_78 rfl ?_
                                        refine n_iload c_167_79 rfl ?_
                                        refine n_iload_n c_167_81 rfl ?_
                                        refine n_iload c_167_82 rfl ?_
                                        have hcst : ((6 + (-1)) : Int) = 5 := by omega
                                        rw [hcst]
                                        refine n_v3I c_167_84 rfl sc_112.n rfl rfl rfl rfl (mdigK_2_5_1_3  hS68 (by omega)) ?_
                                        intro z96 M97 hP98
                                        obtain ⟨eM, f98⟩ := hP98
                                        subst eM
                                        obtain rfl : z96 = 2 := by omega
                                        refine n_iadd c_167_87 rfl ?_
                                        refine n_istore (L2 := [some (2, 112), some (0, 2), some (0, x2), some (0, x3), some (0, 1), some (0, ((((((((0 * 3) + 2) * 3) + 1) * 3) + 0) * 3) + 2)), some (0, 5), none]) c_167_88 rfl rfl ?_
                                        refine n_iinc (L2 := [some (2, 112), some (0, 2), some (0, x2), some (0, x3), some (0, 1), some (0, ((((((((0 * 3) + 2) * 3) + 1) * 3) + 0) * 3) + 2)), some (0, (5 + (-1))), none]) c_167_90 rfl rfl rfl ?_
                                        refine n_goto c_167_93 ?_
                                        refine n_iload c_167_66 rfl ?_
                                        refine n_if0_lt c_167_68 (by omega) ?_ ?_
                                        · intro h99
                                          exfalso; omega
                                        · intro h100
                                          refine n_iload c_167_71 rfl ?_
                                          refine n_aload_n c_167_73 rfl ?_
                                          refine n_getV (bi := 0) c_167_74 sc_112.n rfl rfl rfl (show 3 ≤ M68 112 0 ∧ M68 112 0 ≤ 3 by omega) ?_
                                          intro z101 ez101 f102
                                          obtain rfl : z101 = 3 := by omega
                                          refine n_imul c_167_77 rfl ?_
                                          refine n_aload_n c_167_78 rfl ?_
                                          refine n_iload c_167_79 rfl ?_
                                          refine n_iload_n c_167_81 rfl ?_
                                          refine n_iload c_167_82 rfl ?_
                                          have hcst : ((5 + (-1)) : Int) = 4 := by omega
                                          rw [hcst]
                                          refine n_v3I c_167_84 rfl sc_112.n rfl rfl rfl rfl (mdigK_2_4_1_3  hS68 (by omega)) ?_
                                          intro z103 M104 hP105
                                          obtain ⟨eM, f105⟩ := hP105
                                          subst eM
                                          obtain rfl : z103 = 1 := by omega
                                          refine n_iadd c_167_87 rfl ?_
                                          refine n_istore (L2 := [some (2, 112), some (0, 2), some (0, x2), some (0, x3), some (0, 1), some (0, ((((((((((0 * 3) + 2) * 3) + 1) * 3) + 0) * 3) + 2) * 3) + 1)), some (0, 4), none]) c_167_88 rfl rfl ?_
                                          refine n_iinc (L2 := [some (2, 112), some (0, 2), some (0, x2), some (0, x3), some (0, 1), some (0, ((((((((((0 * 3) + 2) * 3) + 1) * 3) + 0) * 3) + 2) * 3) + 1)), some (0, (4 + (-1))), none]) c_167_90 rfl rfl rfl ?_
                                          refine n_goto c_167_93 ?_
                                          refine n_iload c_167_66 rfl ?_
                                          refine n_if0_lt c_167_68 (by omega) ?_ ?_
                                          · intro h106
                                            exfalso; omega
                                          · intro h107
                                            refine n_iload c_167_71 rfl ?_
                                            refine n_aload_n c_167_73 rfl ?_
                                            refine n_getV (bi := 0) c_167_74 sc_112.n rfl rfl rfl (show 3 ≤ M68 112 0 ∧ M68 112 0 ≤ 3 by omega) ?_
                                            intro z108 ez108 f109
                                            obtain rfl : z108 = 3 := by omega
                                            refine n_imul c_167_77 rfl ?_
                                            refine n_aload_n c_167_78 rfl ?_
                                            refine n_iload c_167_79 rfl ?_
                                            refine n_iload_n c_167_81 rfl ?_
                                            refine n_iload c_167_82 rfl ?_
                                            have hcst : ((4 + (-1)) : Int) = 3 := by omega
                                            rw [hcst]
                                            refine n_v3I c_167_84 rfl sc_112.n rfl rfl rfl rfl (mdigK_2_3_1_3  hS68 (by omega)) ?_
                                            intro z110 M111 hP112
                                            obtain ⟨eM, f112⟩ := hP112
                                            subst eM
                                            obtain rfl : z110 = 0 := by omega
                                            refine n_iadd c_167_87 rfl ?_
                                            refine n_istore (L2 := [some (2, 112), some (0, 2), some (0, x2), some (0, x3), some (0, 1), some (0, ((((((((((((0 * 3) + 2) * 3) + 1) * 3) + 0) * 3) + 2) * 3) + 1) * 3) + 0)), some (0, 3), none]) c_167_88 rfl rfl ?_
                                            refine n_iinc (L2 := [some (2, 112), some (0, 2), some (0, x2), some (0, x3), some (0, 1), some (0, ((((((((((((0 * 3) + 2) * 3) + 1) * 3) + 0) * 3) + 2) * 3) + 1) * 3) + 0)), some (0, (3 + (-1))), none]) c_167_90 rfl rfl rfl ?_
                                            refine n_goto c_167_93 ?_
                                            refine n_iload c_167_66 rfl ?_
                                            refine n_if0_lt c_167_68 (by omega) ?_ ?_
                                            · intro h113
                                              exfalso; omega
                                            · intro h114
                                              refine n_iload c_167_71 rfl ?_
                                              refine n_aload_n c_167_73 rfl ?_
                                              refine n_getV (bi := 0) c_167_74 sc_112.n rfl rfl rfl (show 3 ≤ M68 112 0 ∧ M68 112 0 ≤ 3 by omega) ?_
                                              intro z115 ez115 f116
                                              obtain rfl : z115 = 3 := by omega
                                              refine n_imul c_167_77 rfl ?_
                                              refine n_aload_n c_167_78 rfl ?_
                                              refine n_iload c_167_79 rfl ?_
                                              refine n_iload_n c_167_81 rfl ?_
                                              refine n_iload c_167_82 rfl ?_
                                              have hcst : ((3 + (-1)) : Int) = 2 := by omega
                                              rw [hcst]
                                              refine n_v3I c_167_84 rfl sc_112.n rfl rfl rfl rfl (mdigK_2_2_1_3  hS68 (by omega)) ?_
                                              intro z117 M118 hP119
                                              obtain ⟨eM, f119⟩ := hP119
                                              subst eM
                                              obtain rfl : z117 = 2 := by omega
                                              refine n_iadd c_167_87 rfl ?_
                                              refine n_istore (L2 := [some (2, 112), some (0, 2), some (0, x2), some (0, x3), some (0, 1), some (0, ((((((((((((((0 * 3) + 2) * 3) + 1) * 3) + 0) * 3) + 2) * 3) + 1) * 3) + 0) * 3) + 2)), some (0, 2), none]) c_167_88 rfl rfl ?_
                                              refine n_iinc (L2 := [some (2, 112), some (0, 2), some (0, x2), some (0, x3), some (0, 1), some (0, ((((((((((((((0 * 3) + 2) * 3) + 1) * 3) + 0) * 3) + 2) * 3) + 1) * 3) + 0) * 3) + 2)), some (0, (2 + (-1))), none]) c_167_90 rfl rfl rfl ?_
                                              refine n_goto c_167_93 ?_
                                              refine n_iload c_167_66 rfl ?_
                                              refine n_if0_lt c_167_68 (by omega) ?_ ?_
                                              · intro h120
                                                exfalso; omega
                                              · intro h121
                                                refine n_iload c_167_71 rfl ?_
                                                refine n_aload_n c_167_73 rfl ?_
                                                refine n_getV (bi := 0) c_167_74 sc_112.n rfl rfl rfl (show 3 ≤ M68 112 0 ∧ M68 112 0 ≤ 3 by omega) ?_
                                                intro z122 ez122 f123
                                                obtain rfl : z122 = 3 := by omega
                                                refine n_imul c_167_77 rfl ?_
                                                refine n_aload_n c_167_78 rfl ?_
                                                refine n_iload c_167_79 rfl ?_
                                                refine n_iload_n c_167_81 rfl ?_
                                                refine n_iload c_167_82 rfl ?_
                                                have hcst : ((2 + (-1)) : Int) = 1 := by omega
                                                rw [hcst]
                                                refine n_v3I c_167_84 rfl sc_112.n rfl rfl rfl rfl (mdigK_2_1_1_3  hS68 (by omega)) ?_
                                                intro z124 M125 hP126
                                                obtain ⟨eM, f126⟩ := hP126
                                                subst eM
                                                obtain rfl : z124 = 1 := by omega
                                                refine n_iadd c_167_87 rfl ?_
                                                refine n_istore (L2 := [some (2, 112), some (0, 2), some (0, x2), some (0, x3), some (0, 1), some (0, ((((((((((((((((0 * 3) + 2) * 3) + 1) * 3) + 0) * 3) + 2) * 3) + 1) * 3) + 0) * 3) + 2) * 3) + 1)), some (0, 1), none]) c_167_88 rfl rfl ?_
                                                refine n_iinc (L2 := [some (2, 112), some (0, 2), some (0, x2), some (0, x3), some (0, 1), some (0, ((((((((((((((((0 * 3) + 2) * 3) + 1) * 3) + 0) * 3) + 2) * 3) + 1) * 3) + 0) * 3) + 2) * 3) + 1)), some (0, (1 + (-1))), none]) c_167_90 rfl rfl rfl ?_
                                                refine n_goto c_167_93 ?_
                                                refine n_iload c_167_66 rfl ?_
                                                refine n_if0_lt c_167_68 (by omega) ?_ ?_
                                                · intro h127
                                                  exfalso; omega
                                                · intro h128
                                                  refine n_iload c_167_71 rfl ?_
                                                  refine n_aload_n c_167_73 rfl ?_
                                                  refine n_getV (bi := 0) c_167_74 sc_112.n rfl rfl rfl (show 3 ≤ M68 112 0 ∧ M68 112 0 ≤ 3 by omega) ?_
                                                  intro z129 ez129 f130
                                                  obtain rfl : z129 = 3 := by omega
                                                  refine n_imul c_167_77 rfl ?_
                                                  refine n_aload_n c_167_78 rfl ?_
                                                  refine n_iload c_167_79 rfl ?_
                                                  refine n_iload_n c_167_81 rfl ?_
                                                  refine n_iload c_167_82 rfl ?_
                                                  have hcst : ((1 + (-1)) : Int) = 0 := by omega
                                                  rw [hcst]
                                                  refine n_v3I c_167_84 rfl sc_112.n rfl rfl rfl rfl (mdigK_2_0_1_3  hS68 (by omega)) ?_
                                                  intro z131 M132 hP133
                                                  obtain ⟨eM, f133⟩ := hP133
                                                  subst eM
                                                  obtain rfl : z131 = 0 := by omega
                                                  refine n_iadd c_167_87 rfl ?_
                                                  refine n_istore (L2 := [some (2, 112), some (0, 2), some (0, x2), some (0, x3), some (0, 1), some (0, ((((((((((((((((((0 * 3) + 2) * 3) + 1) * 3) + 0) * 3) + 2) * 3) + 1) * 3) + 0) * 3) + 2) * 3) + 1) * 3) + 0)), some (0, 0), none]) c_167_88 rfl rfl ?_
                                                  refine n_iinc (L2 := [some (2, 112), some (0, 2), some (0, x2), some (0, x3), some (0, 1), some (0, ((((((((((((((((((0 * 3) + 2) * 3) + 1) * 3) + 0) * 3) + 2) * 3) + 1) * 3) + 0) * 3) + 2) * 3) + 1) * 3) + 0)), some (0, (0 + (-1))), none]) c_167_90 rfl rfl rfl ?_
                                                  refine n_goto c_167_93 ?_
                                                  refine n_iload c_167_66 rfl ?_
                                                  refine n_if0_lt c_167_68 (by omega) ?_ ?_
                                                  · intro h134
                                                    refine n_aload_n c_167_96 rfl ?_
                                                    refine n_getR c_167_97 sc_112.n rfl rfl rfl r_112_17 ?_
                                                    refine n_iload c_167_100 rfl ?_
                                                    refine n_iconst c_167_102 ?_
                                                    refine n_iastoreM hS68 c_167_103 sc_125.n rfl (by omega) (m_125 (by omega) (by omega)) ?_
                                                    intro M135 eM135 hS135
                                                    have g135_0 : M135 112 0 = M68 112 0 := by rw [eM135]; exact nu_a (by omega)
                                                    have pr2 := PRj.st (p := 1) pr1 (by omega) (show mpj 3 9 (2 - 1 - 1) = ((((((((((((((((((0 * 3) + 2) * 3) + 1) * 3) + 0) * 3) + 2) * 3) + 1) * 3) + 0) * 3) + 2) * 3) + 1) * 3) + 0) from by decide +kernel) eM135
                                                    have fp2 : F5 2 Ms M135 := fun a i q1 q2 q3 q4 q5 => by rw [eM135, nu_a q3]; exact fp1 a i q1 q2 q3 q4 q5
                                                    refine n_iinc (L2 := [some (2, 112), some (0, 2), some (0, x2), some (0, x3), some (0, (1 + 1)), some (0, ((((((((((((((((((0 * 3) + 2) * 3) + 1) * 3) + 0) * 3) + 2) * 3) + 1) * 3) + 0) * 3) + 2) * 3) + 1) * 3) + 0)), some (0, (0 + (-1))), none]) c_167_104 rfl rfl rfl ?_
                                                    refine n_goto c_167_107 ?_
                                                    refine n_iload c_167_52 rfl ?_
                                                    refine n_iload_n c_167_54 rfl ?_
                                                    refine n_if2_ge c_167_55 (by omega) (by omega) ?_ ?_
                                                    · intro h136
                                                      refine n_iconst c_167_110 ?_
                                                      refine n_istore (L2 := [some (2, 112), some (0, 2), some (0, x2), some (0, x3), some (0, 0), some (0, ((((((((((((((((((0 * 3) + 2) * 3) + 1) * 3) + 0) * 3) + 2) * 3) + 1) * 3) + 0) * 3) + 2) * 3) + 1) * 3) + 0)), some (0, (0 + (-1))), none]) c_167_111 rfl rfl ?_
                                                      refine n_fg (le_s (le_s (le_s (le_s (le_s (le_n (le_n (le_n le_0)))))))) ?_
                                                      exact ih.2.1 _ _ _ M135 hS135 (by omega) (by omega) (by omega) (by omega) (by exact fp2) (by exact pr2.fin.ch (show Tm M135 = Tm M from (Tm_f5 fp2).trans (Tm_f5 v0).symm)) (by exact pr2.rd.ch (show Tm M135 = Tm M from (Tm_f5 fp2).trans (Tm_f5 v0).symm)) (by exact Or.inl (fun a x y z _ _ hx => by omega)) (by omega)
                                                    · intro h137
                                                      exfalso; omega
                                                  · intro h138
                                                    exfalso; omega
                            · intro h139
                              exfalso; omega
      · intro h140
        refine n_aload_n c_167_35 rfl ?_
        refine n_getR c_167_36 sc_112.n rfl rfl rfl r_112_17 ?_
        refine n_iload c_167_39 rfl ?_
        refine n_iconst c_167_41 ?_
        refine n_iastoreM hS c_167_42 sc_125.n rfl (by omega) (m_125 (by omega) (by omega)) ?_
        intro M141 eM141 hS141
        have g141_0 : M141 112 0 = M 112 0 := by rw [eM141]; exact nu_a (by omega)
        refine n_iinc (L2 := [some (2, 112), some (0, 2), some (0, x2), some (0, x3), some (0, (x4 + 1)), none, none, none]) c_167_43 rfl rfl rfl ?_
        refine n_goto c_167_46 ?_
        refine n_fg (le_s (le_s (le_s (le_s (le_s (le_n (le_n (le_n le_0)))))))) ?_
        exact ih.1 _ _ _ M141 hS141 (by omega) (by omega) (by omega) (by omega) (by exact fun a i q1 q2 q3 q4 q5 => by rw [eM141, nu_a q3]; exact v0 a i q1 q2 q3 q4 q5) (by exact fun c c0 c1 => by rw [eM141, nu_e]; split; (rfl); (exact v1 c c0 (by omega))) (by omega)
    · intro x2 x3 x4 M hS k2 k3 k4 hdm v0 v1 v2 v3 hnn
      refine n_iconst c_167_113 ?_
      refine n_istore (L2 := [some (2, 112), some (0, 2), some (0, x2), some (0, x3), some (0, x4), some (0, (-1)), none, none]) c_167_114 rfl rfl ?_
      refine n_iconst c_167_116 ?_
      refine n_istore (L2 := [some (2, 112), some (0, 2), some (0, x2), some (0, x3), some (0, x4), some (0, (-1)), some (0, 0), none]) c_167_117 rfl rfl ?_
      refine n_fg (le_s (le_s (le_s (le_s (le_s (le_s (le_s (le_n le_0)))))))) ?_
      exact ih.2.2.1 _ _ _ _ _ M hS (by omega) (by omega) (by omega) (by omega) (by omega) (by omega) (by exact v0) (by exact v1) (by exact v2) (by exact v3) (by exact fun _ c c0 c1 => by omega) (by omega) (by omega)
    · intro x2 x3 x4 x5 x6 M hS k2 k3 k4 k5 k6 hdm v0 v1 v2 v3 v4 v5 hnn
      refine n_iload c_167_119 rfl ?_
      refine n_iload_n c_167_121 rfl ?_
      refine n_if2_ge c_167_122 (by omega) (by omega) ?_ ?_
      · intro h1
        refine n_iload c_167_168 rfl ?_
        refine n_iconst c_167_170 ?_
        refine n_if2_ne c_167_171 (by omega) (by omega) ?_ ?_
        · intro h2
          refine n_iload c_167_190 rfl ?_
          refine n_sipush c_167_192 rfl ?_
          refine n_if2_ne c_167_195 (by omega) (by omega) ?_ ?_
          · intro h3
            refine n_aload_n c_167_207 rfl ?_
            refine n_getR c_167_208 sc_112.n rfl rfl rfl r_112_14 ?_
            refine n_sipush c_167_211 rfl ?_
            refine n_iload_n c_167_214 rfl ?_
            refine n_imul c_167_215 rfl ?_
            refine n_iload c_167_216 rfl ?_
            refine n_iadd c_167_218 rfl ?_
            refine n_iload c_167_219 rfl ?_
            refine n_iastoreM hS c_167_221 sc_122.n rfl (by omega) (m_122 (by omega) (by omega)) ?_
            intro M4 eM4 hS4
            have g4_0 : M4 112 0 = M 112 0 := by rw [eM4]; exact nu_a (by omega)
            have g4_1 : M4 125 x5 = M 125 x5 := by rw [eM4]; exact nu_a (by omega)
            refine n_aload_n c_167_222 rfl ?_
            refine n_getR c_167_223 sc_112.n rfl rfl rfl r_112_15 ?_
            refine n_sipush c_167_226 rfl ?_
            refine n_iload_n c_167_229 rfl ?_
            refine n_imul c_167_230 rfl ?_
            refine n_iload c_167_231 rfl ?_
            refine n_iadd c_167_233 rfl ?_
            refine n_aload_n c_167_234 rfl ?_
            refine n_getR c_167_235 sc_112.n rfl rfl rfl r_112_17 ?_
            refine n_iload c_167_238 rfl ?_
            refine n_ialoadV c_167_240 sc_125.n rfl rfl rfl (by omega) (t_125 hS4 (by omega)) ?_
            intro z5 ez5 f6
            refine n_iconst c_167_241 ?_
            refine n_isub c_167_242 rfl ?_
            refine n_iastoreM hS4 c_167_243 sc_123.n rfl (by omega) (m_123 (by omega) (by omega)) ?_
            intro M7 eM7 hS7
            have g7_0 : M7 112 0 = M4 112 0 := by rw [eM7]; exact nu_a (by omega)
            have g7_1 : M7 125 x5 = M4 125 x5 := by rw [eM7]; exact nu_a (by omega)
            refine n_iload c_167_244 rfl ?_
            refine n_istore (L2 := [some (2, 112), some (0, 2), some (0, x2), some (0, x3), some (0, x4), some (0, x5), some (0, x5), none]) c_167_246 rfl rfl ?_
            refine n_iconst c_167_248 ?_
            refine n_istore (L2 := [some (2, 112), some (0, 2), some (0, x2), some (0, x3), some (0, x4), some (0, x5), some (0, x5), some (0, 0)]) c_167_249 rfl rfl ?_
            refine n_fg (le_s (le_s (le_s (le_s (le_s (le_n (le_s (le_s le_0)))))))) ?_
            exact ih.2.2.2.1 _ _ _ _ _ M7 hS7 (by omega) (by omega) (by omega) (by omega) (by omega) (by omega) (by exact ⟨M, x5, v0, v1, v2, v3, NEW.ini (M1 := M4) (v := (z5 - 1)) eM4 eM7, by omega, by show x5 = x5 / 1; rw [Int.ediv_one]⟩) (by omega)
          · intro h8
            refine n_aload_n c_167_198 rfl ?_
            refine n_getR c_167_199 sc_112.n rfl rfl rfl r_112_16 ?_
            refine n_iload_n c_167_202 rfl ?_
            refine n_bipush c_167_203 rfl ?_
            refine n_iastoreM hS c_167_205 sc_124.n rfl (by omega) (m_124 (by omega) (by omega)) ?_
            intro M9 eM9 hS9
            have g9_0 : M9 112 0 = M 112 0 := by rw [eM9]; exact nu_a (by omega)
            have g9_1 : M9 125 x5 = M 125 x5 := by rw [eM9]; exact nu_a (by omega)
            exact n_rV c_167_206 rfl ⟨hS9, by have al := RF.many (R := 9) (C := 19683) (b := x5) hd (by rw [Tm_f5 v0]; exact hT) v1 (by have y9 := v2; rw [show x4 = (256 : Int) by omega] at y9; exact y9) (by omega) (by omega); rw [Tm_f5 v0] at al; have y2 : M9 124 2 = -8 := (by rw [eM9]; exact nu_s _ _ _ _); exact cMd.a al y2, by exact fun a i q1 q2 q3 q4 q5 => by rw [eM9, nu_e, if_neg q5]; exact v0 a i q1 q2 q3 q4 q5⟩
        · intro h10
          refine n_aload_n c_167_174 rfl ?_
          refine n_getR c_167_175 sc_112.n rfl rfl rfl r_112_16 ?_
          refine n_iload_n c_167_178 rfl ?_
          refine n_iload c_167_179 rfl ?_
          refine n_iastoreM hS c_167_181 sc_124.n rfl (by omega) (m_124 (by omega) (by omega)) ?_
          intro M11 eM11 hS11
          have g11_0 : M11 112 0 = M 112 0 := by rw [eM11]; exact nu_a (by omega)
          have g11_1 : M11 125 x5 = M 125 x5 := by rw [eM11]; exact nu_a (by omega)
          refine n_aload_n c_167_182 rfl ?_
          refine n_iload_n c_167_183 rfl ?_
          refine n_iload c_167_184 rfl ?_
          refine n_v2V c_167_186 rfl sc_112.n rfl rfl rfl rfl (morderedX_3 (n := 2) (m := x4) (Ms := M11) hS11 (by omega) (by omega) (by omega) (by rfl)) ?_
          intro  M12 hP13
          obtain ⟨hS12, f13p0⟩ := hP13
          have hS12c := hS12.2.2.2.1.1
          have hS12 := hS12.refl
          have hS12k0 := hS12c 112 0 (by unfold core; omega)
          exact n_rV c_167_189 rfl ⟨hS12, by have q6 : x6 = 19683 := (by omega); have q7 : x4 ≤ 256 := (by omega); rw [q6] at v4; have al := RF.all (R := 9) (C := 19683) (k := x4) hd (by rw [Tm_f5 v0]; exact hT) (by decide +kernel) (by omega) v1 v2 v3 (v4 (by omega)) (fun c c0 => (t_125 hS c0).1); rw [Tm_f5 v0] at al; have y := hS12c 124 2 (by unfold core; omega); have y2 : M11 124 2 = x4 := (by rw [eM11]; exact nu_s _ _ _ _); exact cMd.b al q7 (y.trans y2), by exact fun a i q1 q2 q3 q4 q5 => by rw [f13p0 a i q1 q2, eM11, nu_e, if_neg q5]; exact v0 a i q1 q2 q3 q4 q5⟩
      · intro h14
        refine n_aload_n c_167_125 rfl ?_
        refine n_getR c_167_126 sc_112.n rfl rfl rfl r_112_17 ?_
        refine n_iload c_167_129 rfl ?_
        refine n_ialoadV c_167_131 sc_125.n rfl rfl rfl (by omega) (t_125 hS (by omega)) ?_
        intro z15 ez15 f16
        refine n_if0_le c_167_132 (by omega) ?_ ?_
        · intro h17
          refine n_iinc (L2 := [some (2, 112), some (0, 2), some (0, x2), some (0, x3), some (0, x4), some (0, x5), some (0, (x6 + 1)), none]) c_167_162 rfl rfl rfl ?_
          refine n_goto c_167_165 ?_
          refine n_fg (le_s (le_s (le_s (le_s (le_s (le_s (le_s (le_n le_0)))))))) ?_
          exact ih.2.2.1 _ _ _ _ _ M hS (by omega) (by omega) (by omega) (by omega) (by omega) (by omega) (by exact v0) (by exact v1) (by exact v2) (by exact v3) (by exact fun q c c0 c1 => by by_cases u : c = x6; (rw [u]; omega); (exact v4 (by omega) c c0 (by omega))) (by omega) (by omega)
        · intro h18
          refine n_iload c_167_135 rfl ?_
          refine n_iconst c_167_137 ?_
          refine n_if2_eq c_167_138 (by omega) (by omega) ?_ ?_
          · intro h19
            refine n_iload c_167_158 rfl ?_
            refine n_istore (L2 := [some (2, 112), some (0, 2), some (0, x2), some (0, x3), some (0, x4), some (0, x6), some (0, x6), none]) c_167_160 rfl rfl ?_
            refine n_iinc (L2 := [some (2, 112), some (0, 2), some (0, x2), some (0, x3), some (0, x4), some (0, x6), some (0, (x6 + 1)), none]) c_167_162 rfl rfl rfl ?_
            refine n_goto c_167_165 ?_
            refine n_fg (le_s (le_s (le_s (le_s (le_s (le_s (le_s (le_n le_0)))))))) ?_
            exact ih.2.2.1 _ _ _ _ _ M hS (by omega) (by omega) (by omega) (by omega) (by omega) (by omega) (by exact v0) (by exact v1) (by exact v2) (by exact v3) (by exact fun q c c0 c1 => by by_cases u : c = x6; (rw [u]; omega); (exact v4 (by omega) c c0 (by omega))) (by omega) (by omega)
          · intro h20
            refine n_aload_n c_167_141 rfl ?_
            refine n_getR c_167_142 sc_112.n rfl rfl rfl r_112_17 ?_
            refine n_iload c_167_145 rfl ?_
            refine n_ialoadV c_167_147 sc_125.n rfl rfl rfl (by omega) (t_125 hS (by omega)) ?_
            intro z21 ez21 f22
            refine n_aload_n c_167_148 rfl ?_
            refine n_getR c_167_149 sc_112.n rfl rfl rfl r_112_17 ?_
            refine n_iload c_167_152 rfl ?_
            refine n_ialoadV c_167_154 sc_125.n rfl rfl rfl (by omega) (t_125 hS (by omega)) ?_
            intro z23 ez23 f24
            refine n_if2_ge c_167_155 (by omega) (by omega) ?_ ?_
            · intro h25
              refine n_iinc (L2 := [some (2, 112), some (0, 2), some (0, x2), some (0, x3), some (0, x4), some (0, x5), some (0, (x6 + 1)), none]) c_167_162 rfl rfl rfl ?_
              refine n_goto c_167_165 ?_
              refine n_fg (le_s (le_s (le_s (le_s (le_s (le_s (le_s (le_n le_0)))))))) ?_
              exact ih.2.2.1 _ _ _ _ _ M hS (by omega) (by omega) (by omega) (by omega) (by omega) (by omega) (by exact v0) (by exact v1) (by exact v2) (by exact v3) (by exact fun q c c0 c1 => by by_cases u : c = x6; (rw [u]; omega); (exact v4 (by omega) c c0 (by omega))) (by omega) (by omega)
            · intro h26
              refine n_iload c_167_158 rfl ?_
              refine n_istore (L2 := [some (2, 112), some (0, 2), some (0, x2), some (0, x3), some (0, x4), some (0, x6), some (0, x6), none]) c_167_160 rfl rfl ?_
              refine n_iinc (L2 := [some (2, 112), some (0, 2), some (0, x2), some (0, x3), some (0, x4), some (0, x6), some (0, (x6 + 1)), none]) c_167_162 rfl rfl rfl ?_
              refine n_goto c_167_165 ?_
              refine n_fg (le_s (le_s (le_s (le_s (le_s (le_s (le_s (le_n le_0)))))))) ?_
              exact ih.2.2.1 _ _ _ _ _ M hS (by omega) (by omega) (by omega) (by omega) (by omega) (by omega) (by exact v0) (by exact v1) (by exact v2) (by exact v3) (by exact fun q c c0 c1 => by by_cases u : c = x6; (rw [u]; omega); (exact v4 (by omega) c c0 (by omega))) (by omega) (by omega)
    · intro x2 x3 x4 x6 x7 M hS k2 k3 k4 k6 k7 hdm v0 hnn
      obtain ⟨Mm, bq, w0, w1, w2, w3, w4, w6, w7⟩ := v0
      refine n_iload c_167_251 rfl ?_
      refine n_iload_n c_167_253 rfl ?_
      refine n_if2_ge c_167_254 (by omega) (by omega) ?_ ?_
      · intro h1
        refine n_iload c_167_292 rfl ?_
        have x7e : x7 = ((9 : Nat) : Int) := by omega
        rw [x7e] at w4
        have hTm : ∀ a i : Int, 0 ≤ a → a < ac → 0 ≤ i → i < 3 * 3 * 3 → 0 ≤ Tm Mm a i ∧ Tm Mm a i < 3 := by rw [Tm_f5 w0]; exact hT
        have hCm : ∀ i : Int, 0 ≤ i → i < x4 → 0 ≤ cdr 2 Mm i ∧ cdr 2 Mm i < 19683 := fun i i0 i1 => Clo.r (R := 9) hd hTm (w2.1 i i0 i1).1
        obtain ⟨nd1, nd2, nd3, nd4, nd5⟩ := w4.dg (by omega) (by omega) w2 w1 (by omega) (by omega) hCm
        have f5n : F5 2 Ms M := fun a i q1 q2 q3 q4 q5 => (w4.2.2.2.2 a i q1 q2 q4).trans (w0 a i q1 q2 q3 q4 q5)
        refine n_iconst c_167_294 ?_
        refine n_iadd c_167_295 rfl ?_
        refine n_iload_n c_167_296 rfl ?_
        refine n_if2_ge c_167_297 (by omega) (by omega) ?_ ?_
        · intro h2
          exfalso; omega
        · intro h3
          refine n_aload_n c_167_300 rfl ?_
          refine n_iload_n c_167_301 rfl ?_
          refine n_iload_n c_167_302 rfl ?_
          refine n_iload c_167_303 rfl ?_
          have hcst : (x2 : Int) = 9 := by omega
          rw [hcst]
          refine n_v3V c_167_305 rfl sc_112.n rfl rfl rfl rfl (mjoinsX_2_3 (t := x4) (Ms := M) hS (by omega) (by omega) (by rfl) (by rw [f5n 112 4 (by omega) (by omega) (by omega) (by omega) (by omega)]; exact hac4) (by exact fun a a0 a1 => by have y := hwr a a0 a1; unfold WR at y ⊢; rw [Tm_f5 f5n, f5n 116 a (by omega) (by omega) (by omega) (by omega) (by omega)]; exact ⟨y.1, fun i i0 i1 => by rw [f5n 117 _ (by omega) (by omega) (by omega) (by omega) (by omega)]; exact y.2 i i0 i1⟩) (by rw [Tm_f5 f5n]; exact hT) (by exact fun i r i0 i1 r0 r1 => (nd2.1 i i0 (by omega)).2 r r0 (by omega)) (by exact fun i i0 i1 => (nd2.1 i i0 (by omega)).1.1) (by rcases w3 with u | u; (exact w4.pd nd1 nd4 u); (exfalso; omega))) ?_
          intro  M4 hP5
          obtain ⟨hS4, f5p0, f5p1⟩ := hP5
          have hS4c := hS4.2.2.2.1.1
          have hS4 := hS4.refl
          have hS4k0 := hS4c 112 0 (by unfold core; omega)
          obtain ⟨je1, je2, je3, je4⟩ := f5p0.re nd2 nd3 rfl
          refine n_iinc (L2 := [some (2, 112), some (0, 2), some (0, 9), some (0, x3), some (0, (x4 + 1)), none, some (0, x6), some (0, x7)]) c_167_308 rfl rfl rfl ?_
          refine n_iconst c_167_311 ?_
          refine n_istore (L2 := [some (2, 112), some (0, 2), some (0, 9), some (0, x3), some (0, (x4 + 1)), none, some (0, x6), some (0, 0)]) c_167_312 rfl rfl ?_
          refine n_fg (le_s (le_s (le_s (le_s (le_s (le_n (le_n (le_s le_0)))))))) ?_
          exact ih.2.2.2.2 _ _ _ _ M4 hS4 (by omega) (by omega) (by omega) (by omega) (by omega) (by exact fun a i q1 q2 q3 q4 q5 => (f5p0.1 a i q3).trans (f5n a i q1 q2 q3 q4 q5)) (by exact je4) (by exact je3) (by exact Or.inl (f5p1.fr je1 je2)) (by omega)
      · intro h6
        refine n_aload_n c_167_257 rfl ?_
        refine n_getR c_167_258 sc_112.n rfl rfl rfl r_112_18 ?_
        refine n_bipush c_167_261 rfl ?_
        refine n_iload c_167_263 rfl ?_
        refine n_imul c_167_265 rfl ?_
        refine n_iload c_167_266 rfl ?_
        refine n_iadd c_167_268 rfl ?_
        refine n_iload c_167_269 rfl ?_
        refine n_aload_n c_167_271 rfl ?_
        refine n_getV (bi := 0) c_167_272 sc_112.n rfl rfl rfl (show 3 ≤ M 112 0 ∧ M 112 0 ≤ 3 by omega) ?_
        intro z7 ez7 f8
        obtain rfl : z7 = 3 := by omega
        refine n_iremV c_167_275 (by omega) (by omega) ?_
        intro z9 ez9 f10
        refine n_iastoreM hS c_167_276 sc_126.n rfl (by omega) (m_126 (by omega) (by omega)) ?_
        intro M11 eM11 hS11
        have g11_0 : M11 112 0 = M 112 0 := by rw [eM11]; exact nu_a (by omega)
        refine n_iload c_167_277 rfl ?_
        refine n_aload_n c_167_279 rfl ?_
        refine n_getV (bi := 0) c_167_280 sc_112.n rfl rfl rfl (show 3 ≤ M11 112 0 ∧ M11 112 0 ≤ 3 by omega) ?_
        intro z12 ez12 f13
        obtain rfl : z12 = 3 := by omega
        refine n_idivV c_167_283 (by omega) (by omega) ?_
        intro z14 ez14 f15
        refine n_istore (L2 := [some (2, 112), some (0, 2), some (0, x2), some (0, x3), some (0, x4), none, some (0, z14), some (0, x7)]) c_167_284 rfl rfl ?_
        refine n_iinc (L2 := [some (2, 112), some (0, 2), some (0, x2), some (0, x3), some (0, x4), none, some (0, z14), some (0, (x7 + 1))]) c_167_286 rfl rfl rfl ?_
        refine n_goto c_167_289 ?_
        refine n_fg (le_s (le_s (le_s (le_s (le_s (le_n (le_s (le_s le_0)))))))) ?_
        exact ih.2.2.2.1 _ _ _ _ _ M11 hS11 (by omega) (by omega) (by omega) (by omega) (by omega) (by omega) (by exact ⟨Mm, bq, w0, w1, w2, w3, w4.st (M2 := M11) (j := ((9 * x4) + x7)) (v := z9) (by omega) (by omega) (by rw [ez9, w7]; rfl) eM11, w6, by rw [ez14, w7, show (x7 + 1).toNat = x7.toNat + 1 by omega]; show _ = bq / (3 * dpn 3 x7.toNat); rw [Int.mul_comm, ← Int.ediv_ediv_of_nonneg (by have y := dpn_pos hd x7.toNat; omega)]⟩) (by omega)
    · intro x2 x3 x4 x7 M hS k2 k3 k4 k7 hdm v0 v1 v2 v3 hnn
      refine n_iload c_167_314 rfl ?_
      refine n_iload c_167_316 rfl ?_
      refine n_if2_ge c_167_318 (by omega) (by omega) ?_ ?_
      · intro h1
        refine n_goto c_167_346 ?_
        refine n_fg (le_s (le_s (le_s (le_s (le_s (le_n (le_n (le_n le_0)))))))) ?_
        exact ih.2.1 _ _ _ M hS (by omega) (by omega) (by omega) (by omega) (by exact v0) (by exact v1) (by exact v2.fin (by omega)) (by exact v3) (by omega)
      · intro h2
        refine n_aload_n c_167_321 rfl ?_
        refine n_getR c_167_322 sc_112.n rfl rfl rfl r_112_17 ?_
        refine n_aload_n c_167_325 rfl ?_
        refine n_getR c_167_326 sc_112.n rfl rfl rfl r_112_14 ?_
        refine n_sipush c_167_329 rfl ?_
        refine n_iload_n c_167_332 rfl ?_
        refine n_imul c_167_333 rfl ?_
        refine n_iload c_167_334 rfl ?_
        refine n_iadd c_167_336 rfl ?_
        refine n_ialoadV c_167_337 sc_122.n rfl rfl rfl (by omega) (t_122 hS (by omega)) ?_
        intro z3 ez3 f4
        have zce : z3 = cdr 2 M x7 := by rw [ez3]; rfl
        refine n_iconst c_167_338 ?_
        refine n_iastoreM hS c_167_339 sc_125.n rfl (by omega) (m_125 (by omega) (by omega)) ?_
        intro M5 eM5 hS5
        have g5_0 : M5 112 0 = M 112 0 := by rw [eM5]; exact nu_a (by omega)
        refine n_iinc (L2 := [some (2, 112), some (0, 2), some (0, x2), some (0, x3), some (0, x4), none, none, some (0, (x7 + 1))]) c_167_340 rfl rfl rfl ?_
        refine n_goto c_167_343 ?_
        refine n_fg (le_s (le_s (le_s (le_s (le_s (le_n (le_n (le_s le_0)))))))) ?_
        exact ih.2.2.2.2 _ _ _ _ M5 hS5 (by omega) (by omega) (by omega) (by omega) (by omega) (by exact fun a i q1 q2 q3 q4 q5 => by rw [eM5, nu_a q3]; exact v0 a i q1 q2 q3 q4 q5) (by exact (v1.mk eM5 (by rw [zce]; exact (v2.1 x7 (by omega) (by omega)).1.1)).ch (Tm_mk eM5)) (by exact (v2.st (by omega) zce eM5).ch (Tm_mk eM5)) (by rcases v3 with u | u; (exact Or.inl (u.mk eM5)); (exact Or.inr u)) (by omega)
set_option maxHeartbeats 4000000 in
theorem mmakesX_2_3 {xs : List Int32} {e : Nat} {ac : Int} {M : nM} {Ms : nM} (hS : Sf 3 ac M M) (hdm : M 112 0 = 3) (hms : M = Ms) (hac4 : Ms 112 4 = ac) (hwr : ∀ a : Int, 0 ≤ a → a < ac → WR 3 a Ms) (hkr : Ms 124 2 ≠ -1 → cMd (NCl 3 9 2 ac (Tm Ms)) (Ms 124 2)) : nW xs (e + 2) 167 0 [some (2, 112), some (0, 2), none, none, none, none, none, none] [] M (nPV fun M1 => Sf 3 ac M1 M1 ∧ (cMd (NCl 3 9 2 ac (Tm Ms)) (M1 124 2)) ∧ (F5 2 Ms M1)) := by
  have hd : (3 : Int) = 2 ∨ (3 : Int) = 3 := by decide
  have hac := hS.2.2.2.2
  have hT := Tm_r hS
  rw [hms] at hT
  refine n_aload_n c_167_0 rfl ?_
  refine n_getR c_167_1 sc_112.n rfl rfl rfl r_112_16 ?_
  refine n_iload_n c_167_4 rfl ?_
  refine n_ialoadV c_167_5 sc_124.n rfl rfl rfl (by omega) (t_124 hS (by omega)) ?_
  intro z1 ez1 f2
  refine n_iconst c_167_6 ?_
  refine n_if2_eq c_167_7 (by omega) (by omega) ?_ ?_
  · intro h3
    refine n_aload_n c_167_11 rfl ?_
    refine n_iload_n c_167_12 rfl ?_
    refine n_v1I c_167_13 rfl sc_112.n rfl rfl rfl rfl (mrowsOf2_3  hS (by omega)) ?_
    intro z4 M5 hP6
    obtain ⟨eM, f6⟩ := hP6
    subst eM
    obtain rfl : z4 = 9 := by omega
    refine n_istore_n (L2 := [some (2, 112), some (0, 2), some (0, 9), none, none, none, none, none]) c_167_16 rfl rfl ?_
    refine n_aload_n c_167_17 rfl ?_
    refine n_getV (bi := 0) c_167_18 sc_112.n rfl rfl rfl (show 3 ≤ M 112 0 ∧ M 112 0 ≤ 3 by omega) ?_
    intro z7 ez7 f8
    obtain rfl : z7 = 3 := by omega
    refine n_iload_n c_167_21 rfl ?_
    refine n_s2I c_167_22 rfl rfl rfl rfl (mpower9_3  hS ) ?_
    intro z9 M10 hP11
    obtain ⟨eM, f11⟩ := hP11
    subst eM
    obtain rfl : z9 = 19683 := by omega
    refine n_istore_n (L2 := [some (2, 112), some (0, 2), some (0, 9), some (0, 19683), none, none, none, none]) c_167_25 rfl rfl ?_
    refine n_iconst c_167_26 ?_
    refine n_istore (L2 := [some (2, 112), some (0, 2), some (0, 9), some (0, 19683), some (0, 0), none, none, none]) c_167_27 rfl rfl ?_
    refine n_fg (le_s (le_s (le_s (le_s (le_s (le_n (le_n (le_n le_0)))))))) ?_
    exact (mmakesX_2_3_c hS hdm hms hac4 hwr hkr 10336160).1 _ _ _ M hS (by omega) (by omega) (by omega) (by omega) (by rw [hms]; exact fun _ _ _ _ _ _ _ => rfl) (by exact fun c c0 c1 => by omega) (by omega)
  · intro h12
    exact n_rV c_167_10 rfl ⟨hS, by have y : M 124 2 ≠ -1 := (by omega); rw [hms] at y ⊢; exact hkr y, by rw [hms]; exact fun _ _ _ _ _ _ _ => rfl⟩
