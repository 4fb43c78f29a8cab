/-! What the methods tell. -/
set_option maxHeartbeats 4000000 in
theorem sizeX_2_2 {xs : List Int32} {e : Nat} {ac : Int} {M : nM} {c gd : Int} {Ms : nM} (hS : Sf 2 ac M M) (hc : -2147483648 ≤ c ∧ c ≤ 2147483647) (hgd : M 112 0 = gd) (hms : M = Ms) (hpz : PZ M) (hwa : ∀ a : Int, 0 ≤ a → a < ac → WAct 2 (55 + 3 * a) Ms) (hkn : Ms 106 0 = 1 → KN (NCl 2 4 2 ac (Tm Ms)) (Ms 106 1) (Ms 106 2)) (hkl : Ms 106 0 = 1 → LOa 2 4 2 ac Ms 106 Ms) : nW xs (e + 6) 106 0 [some (2, 3), some (0, 2), some (0, c), none] [] M (nPI fun z M1 => Sf 2 ac M1 M1 ∧ (-2147483648 ≤ z ∧ z ≤ 2147483647) ∧ (M1 112 0 = gd) ∧ (MDs 2 4 2 ac 106 Ms M1) ∧ (M1 106 0 = 1 → LOa 2 4 2 ac Ms 106 M1)) := by
  have hd : (2 : Int) = 2 ∨ (2 : Int) = 3 := by decide
  have hac := hS.2.2.2.2
  refine n_aload_n c_106_0 rfl ?_
  refine n_getR c_106_1 sc_3.n rfl rfl rfl r_3_0 ?_
  refine n_iload_n c_106_4 rfl ?_
  refine n_v1I c_106_5 rfl sc_4.n rfl rfl rfl rfl (isMadeX2_2  hS ) ?_
  intro z1 M2 hP3
  obtain ⟨eM, f3⟩ := hP3
  subst eM
  obtain rfl : z1 = 1 := by omega
  refine n_if0_ne c_106_8 (by omega) ?_ ?_
  · intro h4
    refine n_aload_n c_106_13 rfl ?_
    refine n_iload_n c_106_14 rfl ?_
    refine n_v1A c_106_15 rfl sc_3.n rfl rfl rfl rfl (madeListX_2_2 (Ms := M) hS (by rfl) (by exact hpz) (by rw [hms]; exact hwa) (by rw [hms]; exact hkn) (by rw [hms]; exact hkl)) ?_
    intro z5 M6 hP7
    obtain ⟨hS6, f7, f7p0, f7p1, f7p2⟩ := hP7
    have g112 := f7p0.2.2 112 0 (by omega) (by omega) (by omega) (by omega) (by omega) (by omega)
    obtain rfl : z5 = 106 := f7
    refine n_astore_n (L2 := [some (2, 3), some (0, 2), some (0, c), some (2, 106)]) c_106_18 rfl rfl ?_
    refine n_aload_n c_106_19 rfl ?_
    refine n_getV (bi := 1) c_106_20 made106.c0.1.n rfl rfl rfl (t_made hS6 made106).2.1 ?_
    intro z8 ez8 f9
    refine n_if0_eq c_106_23 (by omega) ?_ ?_
    · intro h10
      refine n_iload_n c_106_29 rfl ?_
      refine n_if0_lt c_106_30 (by omega) ?_ ?_
      · intro h11
        refine n_iconst c_106_45 ?_
        exact n_rI c_106_46 rfl ⟨hS6, by omega, by omega, by have y := f7p0; rw [hms] at y; exact y, by have u := f7p2; rw [hms] at u; exact u⟩
      · intro h12
        refine n_iload_n c_106_33 rfl ?_
        refine n_aload_n c_106_34 rfl ?_
        refine n_getR c_106_35 sc_3.n rfl rfl rfl r_3_0 ?_
        refine n_iload_n c_106_38 rfl ?_
        refine n_v1I c_106_39 rfl sc_4.n rfl rfl rfl rfl (codesX2_2  hS6 ) ?_
        intro z13 M14 hP15
        obtain ⟨eM, f15⟩ := hP15
        subst eM
        obtain rfl : z13 = 16 := by omega
        refine n_if2_lt c_106_42 (by omega) (by omega) ?_ ?_
        · intro h16
          refine n_aload_n c_106_47 rfl ?_
          refine n_iload_n c_106_48 rfl ?_
          refine n_v1I c_106_49 rfl made106.c0.1.n rfl rfl rfl rfl (sizeOf_2_2 (c := c) hS6 (by omega)) ?_
          intro z17 M18 hP19
          obtain ⟨eM, f19⟩ := hP19
          subst eM
          exact n_rI c_106_52 rfl ⟨hS6, by omega, by omega, by have y := f7p0; rw [hms] at y; exact y, by have u := f7p2; rw [hms] at u; exact u⟩
        · intro h20
          refine n_iconst c_106_45 ?_
          exact n_rI c_106_46 rfl ⟨hS6, by omega, by omega, by have y := f7p0; rw [hms] at y; exact y, by have u := f7p2; rw [hms] at u; exact u⟩
    · intro h21
      refine n_bipush c_106_26 rfl ?_
      exact n_rI c_106_28 rfl ⟨hS6, by omega, by omega, by have y := f7p0; rw [hms] at y; exact y, by have u := f7p2; rw [hms] at u; exact u⟩
  · intro h22
    exfalso; omega

set_option maxHeartbeats 4000000 in
theorem addX_3_2 {xs : List Int32} {e : Nat} {ac : Int} {M : nM} {c s : Int} {Ms : nM} (hS : Sf 2 ac M M) (hc : 0 ≤ c ∧ c ≤ 255) (hs : 0 ≤ s ∧ s ≤ 1000000) (hK : MK 256 8 7 56 192 1 2 4 8 16 32 64 128 0 M) (hI : MI 2 8 3 ac Ms M) (hzc : M (M 15 9) c = 0) (hcl : Clo 2 8 3 ac (Tm Ms) c) : nW xs (e + 1) 56 0 [some (2, 15), some (0, c), some (0, s)] [] M (nPV fun M1 => Sf 2 ac M1 M1 ∧ MK 256 8 7 56 192 1 2 4 8 16 32 64 128 0 M1 ∧ (MI 2 8 3 ac Ms M1) ∧ (GR M M1) ∧ (AD c M M1) ∧ (FAm M M1) ∧ (ADz c s M M1)) := by
  have hd : (2 : Int) = 2 ∨ (2 : Int) = 3 := by decide
  have hac := hS.2.2.2.2
  refine n_aload_n c_56_0 rfl ?_
  refine n_getV (bi := 10) c_56_1 sc_15.n rfl rfl rfl (t_15_10 hS) ?_
  intro z1 ez1 f2
  refine n_sipush c_56_4 rfl ?_
  refine n_if2_le c_56_7 (by omega) (by omega) ?_ ?_
  · intro h3
    refine n_aload_n c_56_11 rfl ?_
    refine n_getR c_56_12 sc_15.n rfl rfl rfl r_15_1 ?_
    refine n_aload_n c_56_15 rfl ?_
    refine n_getV (bi := 10) c_56_16 sc_15.n rfl rfl rfl (t_15_10 hS) ?_
    intro z4 ez4 f5
    obtain rfl : z1 = z4 := by omega
    refine n_iload_n c_56_19 rfl ?_
    refine n_iastoreM hS c_56_20 sc_20.n rfl (by omega) (m_20 (by omega) (by omega)) ?_
    intro M6 eM6 hS6
    have hK6 := hK.u (by unfold Kok; omega) eM6
    have g6_0 : M6 15 10 = M 15 10 := by rw [eM6]; exact nu_a (by omega)
    have g6_1 : M6 20 z1 = c := by rw [eM6]; exact nu_s _ _ _ _
    refine n_aload_n c_56_21 rfl ?_
    refine n_getR c_56_22 sc_15.n rfl rfl rfl r_15_2 ?_
    refine n_aload_n c_56_25 rfl ?_
    refine n_getV (bi := 10) c_56_26 sc_15.n rfl rfl rfl (t_15_10 hS6) ?_
    intro z7 ez7 f8
    obtain rfl : z1 = z7 := by omega
    refine n_iload_n c_56_29 rfl ?_
    refine n_iastoreM hS6 c_56_30 sc_21.n rfl (by omega) (m_21 (by omega) (by omega)) ?_
    intro M9 eM9 hS9
    have hK9 := hK6.u (by unfold Kok; omega) eM9
    have g9_0 : M9 15 10 = M6 15 10 := by rw [eM9]; exact nu_a (by omega)
    have g9_1 : M9 20 z1 = M6 20 z1 := by rw [eM9]; exact nu_a (by omega)
    have g9_2 : M9 21 z1 = s := by rw [eM9]; exact nu_s _ _ _ _
    refine n_aload_n c_56_31 rfl ?_
    refine n_getR c_56_32 sc_15.n rfl rfl rfl r_15_3 ?_
    refine n_aload_n c_56_35 rfl ?_
    refine n_getV (bi := 10) c_56_36 sc_15.n rfl rfl rfl (t_15_10 hS9) ?_
    intro z10 ez10 f11
    obtain rfl : z1 = z10 := by omega
    refine n_aload_n c_56_39 rfl ?_
    refine n_getB c_56_40 hK9.b ?_
    refine n_iload_n c_56_43 rfl ?_
    refine n_iconst c_56_44 ?_
    refine n_v2I c_56_45 rfl sc_4.n rfl rfl rfl rfl (threeOfX0_2 (c := c) hS9 (by omega)) ?_
    intro z12 M13 hP14
    obtain ⟨eM, f14, f14p0⟩ := hP14
    subst eM
    refine n_iastoreM hS9 c_56_48 sc_22.n rfl (by omega) (m_22 (by omega) (by omega)) ?_
    intro M15 eM15 hS15
    have hK15 := hK9.u (by unfold Kok; omega) eM15
    have g15_0 : M15 15 10 = M9 15 10 := by rw [eM15]; exact nu_a (by omega)
    have g15_1 : M15 20 z1 = M9 20 z1 := by rw [eM15]; exact nu_a (by omega)
    have g15_2 : M15 21 z1 = M9 21 z1 := by rw [eM15]; exact nu_a (by omega)
    have g15_3 : M15 22 z1 = z12 := by rw [eM15]; exact nu_s _ _ _ _
    refine n_aload_n c_56_49 rfl ?_
    refine n_getR c_56_50 sc_15.n rfl rfl rfl r_15_4 ?_
    refine n_aload_n c_56_53 rfl ?_
    refine n_getV (bi := 10) c_56_54 sc_15.n rfl rfl rfl (t_15_10 hS15) ?_
    intro z16 ez16 f17
    obtain rfl : z1 = z16 := by omega
    refine n_aload_n c_56_57 rfl ?_
    refine n_getB c_56_58 hK15.b ?_
    refine n_iload_n c_56_61 rfl ?_
    refine n_iconst c_56_62 ?_
    refine n_v2I c_56_63 rfl sc_4.n rfl rfl rfl rfl (threeOfX3_2 (c := c) hS15 (by omega)) ?_
    intro z18 M19 hP20
    obtain ⟨eM, f20, f20p0⟩ := hP20
    subst eM
    refine n_iastoreM hS15 c_56_66 sc_23.n rfl (by omega) (m_23 (by omega) (by omega)) ?_
    intro M21 eM21 hS21
    have hK21 := hK15.u (by unfold Kok; omega) eM21
    have g21_0 : M21 15 10 = M15 15 10 := by rw [eM21]; exact nu_a (by omega)
    have g21_1 : M21 20 z1 = M15 20 z1 := by rw [eM21]; exact nu_a (by omega)
    have g21_2 : M21 21 z1 = M15 21 z1 := by rw [eM21]; exact nu_a (by omega)
    have g21_3 : M21 22 z1 = M15 22 z1 := by rw [eM21]; exact nu_a (by omega)
    have g21_4 : M21 23 z1 = z18 := by rw [eM21]; exact nu_s _ _ _ _
    refine n_aload_n c_56_67 rfl ?_
    refine n_getR c_56_68 sc_15.n rfl rfl rfl r_15_5 ?_
    refine n_aload_n c_56_71 rfl ?_
    refine n_getV (bi := 10) c_56_72 sc_15.n rfl rfl rfl (t_15_10 hS21) ?_
    intro z22 ez22 f23
    obtain rfl : z1 = z22 := by omega
    refine n_aload_n c_56_75 rfl ?_
    refine n_getB c_56_76 hK21.b ?_
    refine n_iload_n c_56_79 rfl ?_
    refine n_bipush c_56_80 rfl ?_
    refine n_v2I c_56_82 rfl sc_4.n rfl rfl rfl rfl (threeOfX6_2 (c := c) hS21 (by omega)) ?_
    intro z24 M25 hP26
    obtain ⟨eM, f26, f26p0⟩ := hP26
    subst eM
    refine n_iastoreM hS21 c_56_85 sc_24.n rfl (by omega) (m_24 (by omega) (by omega)) ?_
    intro M27 eM27 hS27
    have hK27 := hK21.u (by unfold Kok; omega) eM27
    have g27_0 : M27 15 10 = M21 15 10 := by rw [eM27]; exact nu_a (by omega)
    have g27_1 : M27 20 z1 = M21 20 z1 := by rw [eM27]; exact nu_a (by omega)
    have g27_2 : M27 21 z1 = M21 21 z1 := by rw [eM27]; exact nu_a (by omega)
    have g27_3 : M27 22 z1 = M21 22 z1 := by rw [eM27]; exact nu_a (by omega)
    have g27_4 : M27 23 z1 = M21 23 z1 := by rw [eM27]; exact nu_a (by omega)
    have g27_5 : M27 24 z1 = z24 := by rw [eM27]; exact nu_s _ _ _ _
    refine n_aload_n c_56_86 rfl ?_
    refine n_dup2 c_56_87 ?_
    refine n_getV (bi := 10) c_56_88 sc_15.n rfl rfl rfl (t_15_10 hS27) ?_
    intro z28 ez28 f29
    obtain rfl : z1 = z28 := by omega
    refine n_iconst c_56_91 ?_
    refine n_iadd c_56_92 rfl ?_
    refine n_putM (bi := 10) hS27 c_56_93 sc_15.n rfl rfl rfl rfl (m_15_10 (by omega)) ?_
    intro M30 eM30 hS30
    have hK30 := hK27.cnt (c := z1) (by omega) (by omega) (z := (z1 + 1)) (by omega) eM30
    have g30_0 : M30 20 z1 = M27 20 z1 := by rw [eM30]; exact nu_a (by omega)
    have g30_1 : M30 21 z1 = M27 21 z1 := by rw [eM30]; exact nu_a (by omega)
    have g30_2 : M30 22 z1 = M27 22 z1 := by rw [eM30]; exact nu_a (by omega)
    have g30_3 : M30 23 z1 = M27 23 z1 := by rw [eM30]; exact nu_a (by omega)
    have g30_4 : M30 24 z1 = M27 24 z1 := by rw [eM30]; exact nu_a (by omega)
    have g30_5 : M30 15 10 = (z1 + 1) := by rw [eM30]; exact nu_s _ _ _ _
    refine n_aload_n c_56_96 rfl ?_
    refine n_getP c_56_97 ?_
    intro p31 ep31
    refine n_iload_n c_56_100 rfl ?_
    refine n_aload_n c_56_101 rfl ?_
    refine n_getV (bi := 10) c_56_102 sc_15.n rfl rfl rfl (t_15_10 hS30) ?_
    intro z32 ez32 f33
    refine n_iastoreQ hS30 hK30 c_56_105 ep31 (by omega) (by omega) ?_
    intro M34 eM34 fM34 hS34 hK34
    have g34_0 := fM34 20 z1 (by omega) (by omega)
    have g34_1 := fM34 21 z1 (by omega) (by omega)
    have g34_2 := fM34 22 z1 (by omega) (by omega)
    have g34_3 := fM34 23 z1 (by omega) (by omega)
    have g34_4 := fM34 24 z1 (by omega) (by omega)
    have g34_5 := fM34 15 10 (by omega) (by omega)
    have hP := hS.p9
    have ad := MI.add (z := z32) (M3 := M15) (M4 := M21) (M5 := M27) hI ez1 (by omega) (by omega) hzc hcl (by omega) hP eM6 eM9 (by rw [eM15, f14p0]) (by rw [eM21, f20p0]) (by rw [eM27, f26p0]) eM30 eM34
    have ad3 : ADz c s M M34 := ADz.mk (d := 2) (z := z32) (M3 := M15) (M4 := M21) (M5 := M27) ez1 hP eM6 eM9 (by rw [eM15, f14p0]) (by rw [eM21, f20p0]) (by rw [eM27, f26p0]) eM30 eM34
    have ad2 : AD c M M34 := by refine Or.inr ⟨?_, ?_⟩; (have y := fM34 15 10 (by omega) (by omega); omega); (rw [fM34 20 _ (by omega) (by omega), eM30, nu_a (by omega), eM27, nu_a (by omega), eM21, nu_a (by omega), eM15, nu_a (by omega), eM9, nu_a (by omega), eM6, ← ez1, nu_s])
    exact n_rV c_56_106 rfl ⟨hS34, hK34, by exact ad.1, by exact ad.2.1, by exact ad2, by exact ad.2.2.2, by exact ad3⟩
  · intro h35
    exact n_rV c_56_10 rfl ⟨hS, hK, by exact hI, by exact GR.refl, by exact Or.inl (by omega), by exact FAm.refl, by exact Or.inl ⟨by omega, rfl⟩⟩

set_option maxHeartbeats 4000000 in
theorem fillMX25T_3_2_c {xs : List Int32} {e : Nat} {ac : Int} {M0 M : nM} {p i j g : Int} {Ms : nM} (hS : Sf 2 ac M0 M) (hp : ActAt p) (hpl : p < 55 + 3 * ac) (hi : 0 ≤ i ∧ i ≤ 7) (hj : 0 ≤ j ∧ j ≤ 7) (hK : MK 256 8 7 56 192 1 2 4 8 16 32 64 128 0 M) (hg : M 15 10 = g) (hms : M = Ms) : ∀ nn : Nat, (∀ (x5 x6 x7 x8 x9 x10 : Int) (M : nM), Sf 2 ac M0 M → (2 ≤ x5 ∧ x5 ≤ 2) → (0 ≤ x6 ∧ x6 ≤ 6) → (0 ≤ x7 ∧ x7 ≤ 6) → (0 ≤ x8 ∧ x8 ≤ 6) → (0 ≤ x9 ∧ x9 ≤ 8) → (0 ≤ x10 ∧ x10 ≤ 2) → (MK 256 8 7 56 192 1 2 4 8 16 32 64 128 0 M) → (M 15 10 = g) → (x9 = 4 * x10) → (x6 = (i / (2 * 2) * 2 + j / (2 * 2)) * 2) → (x7 = (i / 2 % 2 * 2 + j / 2 % 2) * 2) → (x8 = (i % 2 * 2 + j % 2) * 2) → (FCm 26 Ms M) → (∀ c : Int, 0 ≤ c → c < x9 → M 26 c = linw 2 (fun i => Ms (p + 1) i) 1 2 4 i j c) → (2 - x10) * 21 + 21 < (nn : Int) → nW xs e 45 86 [some (2, 25), none, some (2, (p + 1)), none, none, some (0, x5), some (0, x6), some (0, x7), some (0, x8), some (0, x9), some (0, x10), none, none, none, none] [] M (nPV fun M1 => Sf 2 ac M0 M1 ∧ (M1 15 10 = g) ∧ MK 256 8 7 56 192 1 2 4 8 16 32 64 128 0 M1 ∧ (FCm 26 Ms M1) ∧ (∀ c : Int, 0 ≤ c → c < 2 * 2 * 2 → M1 26 c = linw 2 (fun i => Ms (p + 1) i) 1 2 4 i j c))) ∧ (∀ (x5 x6 x7 x8 x9 x10 x11 x12 : Int) (M : nM), Sf 2 ac M0 M → (2 ≤ x5 ∧ x5 ≤ 2) → (0 ≤ x6 ∧ x6 ≤ 6) → (0 ≤ x7 ∧ x7 ≤ 6) → (0 ≤ x8 ∧ x8 ≤ 6) → (0 ≤ x9 ∧ x9 ≤ 8) → (0 ≤ x10 ∧ x10 ≤ 1) → (0 ≤ x11 ∧ x11 ≤ 1) → (0 ≤ x12 ∧ x12 ≤ 2) → (MK 256 8 7 56 192 1 2 4 8 16 32 64 128 0 M) → (M 15 10 = g) → (x9 = 4 * x10 + 2 * x12) → (x6 = (i / (2 * 2) * 2 + j / (2 * 2)) * 2) → (x7 = (i / 2 % 2 * 2 + j / 2 % 2) * 2) → (x8 = (i % 2 * 2 + j % 2) * 2) → (FCm 26 Ms M) → (∀ c : Int, 0 ≤ c → c < x9 → M 26 c = linw 2 (fun i => Ms (p + 1) i) 1 2 4 i j c) → (x11 = Ms (p + 1) (x6 + x10) * 1) → (2 - x10) * 21 + (2 - x12) * 5 + 5 < (nn : Int) → nW xs e 45 110 [some (2, 25), none, some (2, (p + 1)), none, none, some (0, x5), some (0, x6), some (0, x7), some (0, x8), some (0, x9), some (0, x10), some (0, x11), some (0, x12), none, none] [] M (nPV fun M1 => Sf 2 ac M0 M1 ∧ (M1 15 10 = g) ∧ MK 256 8 7 56 192 1 2 4 8 16 32 64 128 0 M1 ∧ (FCm 26 Ms M1) ∧ (∀ c : Int, 0 ≤ c → c < 2 * 2 * 2 → M1 26 c = linw 2 (fun i => Ms (p + 1) i) 1 2 4 i j c))) ∧ (∀ (x5 x6 x7 x8 x9 x10 x11 x12 x13 x14 : Int) (M : nM), Sf 2 ac M0 M → (2 ≤ x5 ∧ x5 ≤ 2) → (0 ≤ x6 ∧ x6 ≤ 6) → (0 ≤ x7 ∧ x7 ≤ 6) → (0 ≤ x8 ∧ x8 ≤ 6) → (0 ≤ x9 ∧ x9 ≤ 8) → (0 ≤ x10 ∧ x10 ≤ 1) → (0 ≤ x11 ∧ x11 ≤ 1) → (0 ≤ x12 ∧ x12 ≤ 1) → (0 ≤ x13 ∧ x13 ≤ 3) → (0 ≤ x14 ∧ x14 ≤ 2) → (MK 256 8 7 56 192 1 2 4 8 16 32 64 128 0 M) → (M 15 10 = g) → (x9 = 4 * x10 + 2 * x12 + x14) → (x6 = (i / (2 * 2) * 2 + j / (2 * 2)) * 2) → (x7 = (i / 2 % 2 * 2 + j / 2 % 2) * 2) → (x8 = (i % 2 * 2 + j % 2) * 2) → (FCm 26 Ms M) → (∀ c : Int, 0 ≤ c → c < x9 → M 26 c = linw 2 (fun i => Ms (p + 1) i) 1 2 4 i j c) → (x11 = Ms (p + 1) (x6 + x10) * 1) → (x13 = Ms (p + 1) (x6 + x10) * 1 + Ms (p + 1) (x7 + x12) * 2) → (2 - x10) * 21 + (2 - x12) * 5 + (2 - x14) * 1 + 1 < (nn : Int) → nW xs e 45 137 [some (2, 25), none, some (2, (p + 1)), none, none, some (0, x5), some (0, x6), some (0, x7), some (0, x8), some (0, x9), some (0, x10), some (0, x11), some (0, x12), some (0, x13), some (0, x14)] [] M (nPV fun M1 => Sf 2 ac M0 M1 ∧ (M1 15 10 = g) ∧ MK 256 8 7 56 192 1 2 4 8 16 32 64 128 0 M1 ∧ (FCm 26 Ms M1) ∧ (∀ c : Int, 0 ≤ c → c < 2 * 2 * 2 → M1 26 c = linw 2 (fun i => Ms (p + 1) i) 1 2 4 i j c))) := by
  have hd : (2 : Int) = 2 ∨ (2 : Int) = 3 := by decide
  have hac := hS.2.2.2.2
  have hpb := hp.1
  intro nn
  induction nn with
  | zero => refine ⟨?_, ?_, ?_⟩ <;> (intros; omega)
  | succ nn ih =>
    refine ⟨?_, ?_, ?_⟩
    · intro x5 x6 x7 x8 x9 x10 M hS k5 k6 k7 k8 k9 k10 hK hgg v0 v1 v2 v3 v4 v5 hnn
      refine n_iload c_45_86 rfl ?_
      refine n_iload c_45_88 rfl ?_
      refine n_if2_ge c_45_90 (by omega) (by omega) ?_ ?_
      · intro h1
        exact n_rV c_45_187 rfl ⟨hS, by omega, hK, by exact v4, by exact fun c h0 h1 => v5 c h0 (by omega)⟩
      · intro h2
        refine n_aload_n c_45_93 rfl ?_
        refine n_iload c_45_94 rfl ?_
        refine n_iload c_45_96 rfl ?_
        refine n_iadd c_45_98 rfl ?_
        refine n_ialoadV c_45_99 hp.c0.2.1.n rfl rfl rfl (by omega) (t_actrl hS hp hpl (Or.inl rfl) (by omega) (by omega)) ?_
        intro z3 ez3 f4
        refine n_aload_n c_45_100 rfl ?_
        refine n_getV (bi := 1) c_45_101 sc_25.n rfl rfl rfl hK.w25.1 ?_
        intro z5 ez5 f6
        obtain rfl : z5 = 1 := by omega
        refine n_imul c_45_104 rfl ?_
        refine n_istore (L2 := [some (2, 25), none, some (2, (p + 1)), none, none, some (0, x5), some (0, x6), some (0, x7), some (0, x8), some (0, x9), some (0, x10), some (0, (z3 * 1)), none, none, none]) c_45_105 rfl rfl ?_
        refine n_iconst c_45_107 ?_
        refine n_istore (L2 := [some (2, 25), none, some (2, (p + 1)), none, none, some (0, x5), some (0, x6), some (0, x7), some (0, x8), some (0, x9), some (0, x10), some (0, (z3 * 1)), some (0, 0), none, none]) c_45_108 rfl rfl ?_
        refine n_fg (le_s (le_n (le_s (le_n (le_n (le_s (le_s (le_s (le_s (le_s (le_s (le_s (le_s (le_n (le_n le_0))))))))))))))) ?_
        exact ih.2.1 _ _ _ _ _ _ _ _ M hS (by omega) (by omega) (by omega) (by omega) (by omega) (by omega) (by omega) (by omega) hK (by omega) (by omega) (by exact v1) (by exact v2) (by exact v3) (by exact v4) (by exact v5) (by have u1 := v4 (p + 1) (x6 + x10) (by omega); omega) (by omega)
    · intro x5 x6 x7 x8 x9 x10 x11 x12 M hS k5 k6 k7 k8 k9 k10 k11 k12 hK hgg v0 v1 v2 v3 v4 v5 v6 hnn
      refine n_iload c_45_110 rfl ?_
      refine n_iload c_45_112 rfl ?_
      refine n_if2_ge c_45_114 (by omega) (by omega) ?_ ?_
      · intro h1
        refine n_iinc (L2 := [some (2, 25), none, some (2, (p + 1)), none, none, some (0, x5), some (0, x6), some (0, x7), some (0, x8), some (0, x9), some (0, (x10 + 1)), some (0, x11), some (0, x12), none, none]) c_45_181 rfl rfl rfl ?_
        refine n_goto c_45_184 ?_
        refine n_fg (le_s (le_n (le_s (le_n (le_n (le_s (le_s (le_s (le_s (le_s (le_s (le_n (le_n (le_n (le_n le_0))))))))))))))) ?_
        exact ih.1 _ _ _ _ _ _ M hS (by omega) (by omega) (by omega) (by omega) (by omega) (by omega) hK (by omega) (by omega) (by exact v1) (by exact v2) (by exact v3) (by exact v4) (by exact v5) (by omega)
      · intro h2
        refine n_iload c_45_117 rfl ?_
        refine n_aload_n c_45_119 rfl ?_
        refine n_iload c_45_120 rfl ?_
        refine n_iload c_45_122 rfl ?_
        refine n_iadd c_45_124 rfl ?_
        refine n_ialoadV c_45_125 hp.c0.2.1.n rfl rfl rfl (by omega) (t_actrl hS hp hpl (Or.inl rfl) (by omega) (by omega)) ?_
        intro z3 ez3 f4
        refine n_aload_n c_45_126 rfl ?_
        refine n_getV (bi := 2) c_45_127 sc_25.n rfl rfl rfl hK.w25.2.1 ?_
        intro z5 ez5 f6
        obtain rfl : z5 = 2 := by omega
        refine n_imul c_45_130 rfl ?_
        refine n_iadd c_45_131 rfl ?_
        refine n_istore (L2 := [some (2, 25), none, some (2, (p + 1)), none, none, some (0, x5), some (0, x6), some (0, x7), some (0, x8), some (0, x9), some (0, x10), some (0, x11), some (0, x12), some (0, (x11 + (z3 * 2))), none]) c_45_132 rfl rfl ?_
        refine n_iconst c_45_134 ?_
        refine n_istore (L2 := [some (2, 25), none, some (2, (p + 1)), none, none, some (0, x5), some (0, x6), some (0, x7), some (0, x8), some (0, x9), some (0, x10), some (0, x11), some (0, x12), some (0, (x11 + (z3 * 2))), some (0, 0)]) c_45_135 rfl rfl ?_
        refine n_fg (le_s (le_n (le_s (le_n (le_n (le_s (le_s (le_s (le_s (le_s (le_s (le_s (le_s (le_s (le_s le_0))))))))))))))) ?_
        exact ih.2.2 _ _ _ _ _ _ _ _ _ _ M hS (by omega) (by omega) (by omega) (by omega) (by omega) (by omega) (by omega) (by omega) (by omega) (by omega) hK (by omega) (by omega) (by exact v1) (by exact v2) (by exact v3) (by exact v4) (by exact v5) (by exact v6) (by have u1 := v4 (p + 1) (x7 + x12) (by omega); omega) (by omega)
    · intro x5 x6 x7 x8 x9 x10 x11 x12 x13 x14 M hS k5 k6 k7 k8 k9 k10 k11 k12 k13 k14 hK hgg v0 v1 v2 v3 v4 v5 v6 v7 hnn
      have vf := v4
      refine n_iload c_45_137 rfl ?_
      refine n_iload c_45_139 rfl ?_
      refine n_if2_ge c_45_141 (by omega) (by omega) ?_ ?_
      · intro h1
        refine n_iinc (L2 := [some (2, 25), none, some (2, (p + 1)), none, none, some (0, x5), some (0, x6), some (0, x7), some (0, x8), some (0, x9), some (0, x10), some (0, x11), some (0, (x12 + 1)), some (0, x13), some (0, x14)]) c_45_175 rfl rfl rfl ?_
        refine n_goto c_45_178 ?_
        refine n_fg (le_s (le_n (le_s (le_n (le_n (le_s (le_s (le_s (le_s (le_s (le_s (le_s (le_s (le_n (le_n le_0))))))))))))))) ?_
        exact ih.2.1 _ _ _ _ _ _ _ _ M hS (by omega) (by omega) (by omega) (by omega) (by omega) (by omega) (by omega) (by omega) hK (by omega) (by omega) (by exact v1) (by exact v2) (by exact v3) (by exact v4) (by exact v5) (by exact v6) (by omega)
      · intro h2
        refine n_aload_n c_45_144 rfl ?_
        refine n_getR c_45_145 sc_25.n rfl rfl rfl r_25_0 ?_
        refine n_iload c_45_148 rfl ?_
        refine n_iload c_45_150 rfl ?_
        refine n_aload_n c_45_152 rfl ?_
        refine n_iload c_45_153 rfl ?_
        refine n_iload c_45_155 rfl ?_
        refine n_iadd c_45_157 rfl ?_
        refine n_ialoadV c_45_158 hp.c0.2.1.n rfl rfl rfl (by omega) (t_actrl hS hp hpl (Or.inl rfl) (by omega) (by omega)) ?_
        intro z3 ez3 f4
        refine n_aload_n c_45_159 rfl ?_
        refine n_getV (bi := 3) c_45_160 sc_25.n rfl rfl rfl hK.w25.2.2 ?_
        intro z5 ez5 f6
        obtain rfl : z5 = 4 := by omega
        refine n_imul c_45_163 rfl ?_
        refine n_iadd c_45_164 rfl ?_
        refine n_iastoreV hS c_45_165 sc_26.n rfl (by omega) (w_26 (by omega) (by omega)) ?_
        intro M7 eM7 hS7
        have hK7 := hK.u (by unfold Kok; omega) eM7
        have g7_0 : M7 15 10 = M 15 10 := by rw [eM7]; exact nu_a (by omega)
        refine n_iinc (L2 := [some (2, 25), none, some (2, (p + 1)), none, none, some (0, x5), some (0, x6), some (0, x7), some (0, x8), some (0, (x9 + 1)), some (0, x10), some (0, x11), some (0, x12), some (0, x13), some (0, x14)]) c_45_166 rfl rfl rfl ?_
        refine n_iinc (L2 := [some (2, 25), none, some (2, (p + 1)), none, none, some (0, x5), some (0, x6), some (0, x7), some (0, x8), some (0, (x9 + 1)), some (0, x10), some (0, x11), some (0, x12), some (0, x13), some (0, (x14 + 1))]) c_45_169 rfl rfl rfl ?_
        refine n_goto c_45_172 ?_
        refine n_fg (le_s (le_n (le_s (le_n (le_n (le_s (le_s (le_s (le_s (le_s (le_s (le_s (le_s (le_s (le_s le_0))))))))))))))) ?_
        exact ih.2.2 _ _ _ _ _ _ _ _ _ _ M7 hS7 (by omega) (by omega) (by omega) (by omega) (by omega) (by omega) (by omega) (by omega) (by omega) (by omega) hK7 (by omega) (by omega) (by exact v1) (by exact v2) (by exact v3) (by exact FCm.u v4 eM7) (by exact fun c h0 h1 => by rw [eM7, nu_e]; by_cases e : c = x9; (rw [if_pos ⟨rfl, e⟩, e]; show _ = Ms (p + 1) ((i / (2 * 2) * 2 + j / (2 * 2)) * 2 + x9 / (2 * 2)) * 1 + Ms (p + 1) ((i / 2 % 2 * 2 + j / 2 % 2) * 2 + x9 / 2 % 2) * 2 + Ms (p + 1) ((i % 2 * 2 + j % 2) * 2 + x9 % 2) * 4; rw [show x9 / (2 * 2) = x10 by omega, show x9 / 2 % 2 = x12 by omega, show x9 % 2 = x14 by omega, ← v1, ← v2, ← v3]; have u3 := vf (p + 1) (x8 + x14) (by omega); omega); (rw [if_neg (fun u => e u.2)]; exact v5 c h0 (by omega))) (by exact v6) (by exact v7) (by omega)
set_option maxHeartbeats 4000000 in
theorem fillMX25T_3_2 {xs : List Int32} {e : Nat} {ac : Int} {M0 M : nM} {p i j g : Int} {Ms : nM} (hS : Sf 2 ac M0 M) (hp : ActAt p) (hpl : p < 55 + 3 * ac) (hi : 0 ≤ i ∧ i ≤ 7) (hj : 0 ≤ j ∧ j ≤ 7) (hK : MK 256 8 7 56 192 1 2 4 8 16 32 64 128 0 M) (hg : M 15 10 = g) (hms : M = Ms) : nW xs e 45 0 [some (2, 25), some (2, 4), some (2, (p + 1)), some (0, i), some (0, j), none, none, none, none, none, none, none, none, none, none] [] M (nPV fun M1 => Sf 2 ac M0 M1 ∧ (M1 15 10 = g) ∧ MK 256 8 7 56 192 1 2 4 8 16 32 64 128 0 M1 ∧ (FCm 26 Ms M1) ∧ (∀ c : Int, 0 ≤ c → c < 2 * 2 * 2 → M1 26 c = linw 2 (fun i => Ms (p + 1) i) 1 2 4 i j c)) := by
  have hd : (2 : Int) = 2 ∨ (2 : Int) = 3 := by decide
  have hac := hS.2.2.2.2
  have hpb := hp.1
  refine n_aload_n c_45_0 rfl ?_
  refine n_getV (bi := 1) c_45_1 sc_25.n rfl rfl rfl hK.w25.1 ?_
  intro z1 ez1 f2
  obtain rfl : z1 = 1 := by omega
  refine n_if0_ne c_45_4 (by omega) ?_ ?_
  · intro h3
    refine n_aload_n c_45_8 rfl ?_
    refine n_getV (bi := 0) c_45_9 sc_4.n rfl rfl rfl (t_4_0 hS) ?_
    intro z4 ez4 f5
    obtain rfl : z4 = 2 := by omega
    refine n_istore (L2 := [some (2, 25), some (2, 4), some (2, (p + 1)), some (0, i), some (0, j), some (0, 2), none, none, none, none, none, none, none, none, none]) c_45_12 rfl rfl ?_
    refine n_aload_n c_45_14 rfl ?_
    refine n_getR c_45_15 sc_4.n rfl rfl rfl r_4_2 ?_
    refine n_iload_n c_45_18 rfl ?_
    refine n_ialoadV c_45_19 sc_5.n rfl rfl rfl (by omega) (t_5d hS hd (by omega) (by omega)) ?_
    intro z6 ez6 f7
    have q19 := t_5e hS (i := i) (by omega) (by omega)
    refine n_iload c_45_20 rfl ?_
    refine n_imul c_45_22 rfl ?_
    refine n_aload_n c_45_23 rfl ?_
    refine n_getR c_45_24 sc_4.n rfl rfl rfl r_4_2 ?_
    refine n_iload c_45_27 rfl ?_
    refine n_ialoadV c_45_29 sc_5.n rfl rfl rfl (by omega) (t_5d hS hd (by omega) (by omega)) ?_
    intro z8 ez8 f9
    have q29 := t_5e hS (i := j) (by omega) (by omega)
    refine n_iadd c_45_30 rfl ?_
    refine n_iload c_45_31 rfl ?_
    refine n_imul c_45_33 rfl ?_
    refine n_istore (L2 := [some (2, 25), some (2, 4), some (2, (p + 1)), some (0, i), some (0, j), some (0, 2), some (0, (((z6 * 2) + z8) * 2)), none, none, none, none, none, none, none, none]) c_45_34 rfl rfl ?_
    refine n_aload_n c_45_36 rfl ?_
    refine n_getR c_45_37 sc_4.n rfl rfl rfl r_4_3 ?_
    refine n_iload_n c_45_40 rfl ?_
    refine n_ialoadV c_45_41 sc_6.n rfl rfl rfl (by omega) (t_6d hS hd (by omega) (by omega)) ?_
    intro z10 ez10 f11
    have q41 := t_6e hS (i := i) (by omega) (by omega)
    refine n_iload c_45_42 rfl ?_
    refine n_imul c_45_44 rfl ?_
    refine n_aload_n c_45_45 rfl ?_
    refine n_getR c_45_46 sc_4.n rfl rfl rfl r_4_3 ?_
    refine n_iload c_45_49 rfl ?_
    refine n_ialoadV c_45_51 sc_6.n rfl rfl rfl (by omega) (t_6d hS hd (by omega) (by omega)) ?_
    intro z12 ez12 f13
    have q51 := t_6e hS (i := j) (by omega) (by omega)
    refine n_iadd c_45_52 rfl ?_
    refine n_iload c_45_53 rfl ?_
    refine n_imul c_45_55 rfl ?_
    refine n_istore (L2 := [some (2, 25), some (2, 4), some (2, (p + 1)), some (0, i), some (0, j), some (0, 2), some (0, (((z6 * 2) + z8) * 2)), some (0, (((z10 * 2) + z12) * 2)), none, none, none, none, none, none, none]) c_45_56 rfl rfl ?_
    refine n_aload_n c_45_58 rfl ?_
    refine n_getR c_45_59 sc_4.n rfl rfl rfl r_4_4 ?_
    refine n_iload_n c_45_62 rfl ?_
    refine n_ialoadV c_45_63 sc_7.n rfl rfl rfl (by omega) (t_7d hS hd (by omega) (by omega)) ?_
    intro z14 ez14 f15
    have q63 := t_7e hS (i := i) (by omega) (by omega)
    refine n_iload c_45_64 rfl ?_
    refine n_imul c_45_66 rfl ?_
    refine n_aload_n c_45_67 rfl ?_
    refine n_getR c_45_68 sc_4.n rfl rfl rfl r_4_4 ?_
    refine n_iload c_45_71 rfl ?_
    refine n_ialoadV c_45_73 sc_7.n rfl rfl rfl (by omega) (t_7d hS hd (by omega) (by omega)) ?_
    intro z16 ez16 f17
    have q73 := t_7e hS (i := j) (by omega) (by omega)
    refine n_iadd c_45_74 rfl ?_
    refine n_iload c_45_75 rfl ?_
    refine n_imul c_45_77 rfl ?_
    refine n_istore (L2 := [some (2, 25), some (2, 4), some (2, (p + 1)), some (0, i), some (0, j), some (0, 2), some (0, (((z6 * 2) + z8) * 2)), some (0, (((z10 * 2) + z12) * 2)), some (0, (((z14 * 2) + z16) * 2)), none, none, none, none, none, none]) c_45_78 rfl rfl ?_
    refine n_iconst c_45_80 ?_
    refine n_istore (L2 := [some (2, 25), some (2, 4), some (2, (p + 1)), some (0, i), some (0, j), some (0, 2), some (0, (((z6 * 2) + z8) * 2)), some (0, (((z10 * 2) + z12) * 2)), some (0, (((z14 * 2) + z16) * 2)), some (0, 0), none, none, none, none, none]) c_45_81 rfl rfl ?_
    refine n_iconst c_45_83 ?_
    refine n_istore (L2 := [some (2, 25), some (2, 4), some (2, (p + 1)), some (0, i), some (0, j), some (0, 2), some (0, (((z6 * 2) + z8) * 2)), some (0, (((z10 * 2) + z12) * 2)), some (0, (((z14 * 2) + z16) * 2)), some (0, 0), some (0, 0), none, none, none, none]) c_45_84 rfl rfl ?_
    refine n_fg (le_s (le_n (le_s (le_n (le_n (le_s (le_s (le_s (le_s (le_s (le_s (le_n (le_n (le_n (le_n le_0))))))))))))))) ?_
    exact (fillMX25T_3_2_c hS hp hpl hi hj hK hg hms 178).1 _ _ _ _ _ _ M hS (by omega) (by omega) (by omega) (by omega) (by omega) (by omega) hK (by omega) (by omega) (by omega) (by omega) (by omega) (by subst hms; exact fun _ _ _ => rfl) (by exact fun c h0 h1 => by omega) (by omega)
  · intro h18
    exfalso; omega

set_option maxHeartbeats 4000000 in
theorem fillMX27T_3_2_c {xs : List Int32} {e : Nat} {ac : Int} {M0 M : nM} {p i j g : Int} {Ms : nM} (hS : Sf 2 ac M0 M) (hp : ActAt p) (hpl : p < 55 + 3 * ac) (hi : 0 ≤ i ∧ i ≤ 7) (hj : 0 ≤ j ∧ j ≤ 7) (hK : MK 256 8 7 56 192 1 2 4 8 16 32 64 128 0 M) (hg : M 15 10 = g) (hms : M = Ms) : ∀ nn : Nat, (∀ (x5 x6 x7 x8 x9 x10 : Int) (M : nM), Sf 2 ac M0 M → (2 ≤ x5 ∧ x5 ≤ 2) → (0 ≤ x6 ∧ x6 ≤ 6) → (0 ≤ x7 ∧ x7 ≤ 6) → (0 ≤ x8 ∧ x8 ≤ 6) → (0 ≤ x9 ∧ x9 ≤ 8) → (0 ≤ x10 ∧ x10 ≤ 2) → (MK 256 8 7 56 192 1 2 4 8 16 32 64 128 0 M) → (M 15 10 = g) → (x9 = 4 * x10) → (x6 = (i / (2 * 2) * 2 + j / (2 * 2)) * 2) → (x7 = (i / 2 % 2 * 2 + j / 2 % 2) * 2) → (x8 = (i % 2 * 2 + j % 2) * 2) → (FCm 28 Ms M) → (∀ c : Int, 0 ≤ c → c < x9 → M 28 c = linw 2 (fun i => Ms (p + 1) i) 8 16 32 i j c) → (2 - x10) * 21 + 21 < (nn : Int) → nW xs e 45 86 [some (2, 27), none, some (2, (p + 1)), none, none, some (0, x5), some (0, x6), some (0, x7), some (0, x8), some (0, x9), some (0, x10), none, none, none, none] [] M (nPV fun M1 => Sf 2 ac M0 M1 ∧ (M1 15 10 = g) ∧ MK 256 8 7 56 192 1 2 4 8 16 32 64 128 0 M1 ∧ (FCm 28 Ms M1) ∧ (∀ c : Int, 0 ≤ c → c < 2 * 2 * 2 → M1 28 c = linw 2 (fun i => Ms (p + 1) i) 8 16 32 i j c))) ∧ (∀ (x5 x6 x7 x8 x9 x10 x11 x12 : Int) (M : nM), Sf 2 ac M0 M → (2 ≤ x5 ∧ x5 ≤ 2) → (0 ≤ x6 ∧ x6 ≤ 6) → (0 ≤ x7 ∧ x7 ≤ 6) → (0 ≤ x8 ∧ x8 ≤ 6) → (0 ≤ x9 ∧ x9 ≤ 8) → (0 ≤ x10 ∧ x10 ≤ 1) → (0 ≤ x11 ∧ x11 ≤ 8) → (0 ≤ x12 ∧ x12 ≤ 2) → (MK 256 8 7 56 192 1 2 4 8 16 32 64 128 0 M) → (M 15 10 = g) → (x9 = 4 * x10 + 2 * x12) → (x6 = (i / (2 * 2) * 2 + j / (2 * 2)) * 2) → (x7 = (i / 2 % 2 * 2 + j / 2 % 2) * 2) → (x8 = (i % 2 * 2 + j % 2) * 2) → (FCm 28 Ms M) → (∀ c : Int, 0 ≤ c → c < x9 → M 28 c = linw 2 (fun i => Ms (p + 1) i) 8 16 32 i j c) → (x11 = Ms (p + 1) (x6 + x10) * 8) → (2 - x10) * 21 + (2 - x12) * 5 + 5 < (nn : Int) → nW xs e 45 110 [some (2, 27), none, some (2, (p + 1)), none, none, some (0, x5), some (0, x6), some (0, x7), some (0, x8), some (0, x9), some (0, x10), some (0, x11), some (0, x12), none, none] [] M (nPV fun M1 => Sf 2 ac M0 M1 ∧ (M1 15 10 = g) ∧ MK 256 8 7 56 192 1 2 4 8 16 32 64 128 0 M1 ∧ (FCm 28 Ms M1) ∧ (∀ c : Int, 0 ≤ c → c < 2 * 2 * 2 → M1 28 c = linw 2 (fun i => Ms (p + 1) i) 8 16 32 i j c))) ∧ (∀ (x5 x6 x7 x8 x9 x10 x11 x12 x13 x14 : Int) (M : nM), Sf 2 ac M0 M → (2 ≤ x5 ∧ x5 ≤ 2) → (0 ≤ x6 ∧ x6 ≤ 6) → (0 ≤ x7 ∧ x7 ≤ 6) → (0 ≤ x8 ∧ x8 ≤ 6) → (0 ≤ x9 ∧ x9 ≤ 8) → (0 ≤ x10 ∧ x10 ≤ 1) → (0 ≤ x11 ∧ x11 ≤ 8) → (0 ≤ x12 ∧ x12 ≤ 1) → (0 ≤ x13 ∧ x13 ≤ 24) → (0 ≤ x14 ∧ x14 ≤ 2) → (MK 256 8 7 56 192 1 2 4 8 16 32 64 128 0 M) → (M 15 10 = g) → (x9 = 4 * x10 + 2 * x12 + x14) → (x6 = (i / (2 * 2) * 2 + j / (2 * 2)) * 2) → (x7 = (i / 2 % 2 * 2 + j / 2 % 2) * 2) → (x8 = (i % 2 * 2 + j % 2) * 2) → (FCm 28 Ms M) → (∀ c : Int, 0 ≤ c → c < x9 → M 28 c = linw 2 (fun i => Ms (p + 1) i) 8 16 32 i j c) → (x11 = Ms (p + 1) (x6 + x10) * 8) → (x13 = Ms (p + 1) (x6 + x10) * 8 + Ms (p + 1) (x7 + x12) * 16) → (2 - x10) * 21 + (2 - x12) * 5 + (2 - x14) * 1 + 1 < (nn : Int) → nW xs e 45 137 [some (2, 27), none, some (2, (p + 1)), none, none, some (0, x5), some (0, x6), some (0, x7), some (0, x8), some (0, x9), some (0, x10), some (0, x11), some (0, x12), some (0, x13), some (0, x14)] [] M (nPV fun M1 => Sf 2 ac M0 M1 ∧ (M1 15 10 = g) ∧ MK 256 8 7 56 192 1 2 4 8 16 32 64 128 0 M1 ∧ (FCm 28 Ms M1) ∧ (∀ c : Int, 0 ≤ c → c < 2 * 2 * 2 → M1 28 c = linw 2 (fun i => Ms (p + 1) i) 8 16 32 i j c))) := by
  have hd : (2 : Int) = 2 ∨ (2 : Int) = 3 := by decide
  have hac := hS.2.2.2.2
  have hpb := hp.1
  intro nn
  induction nn with
  | zero => refine ⟨?_, ?_, ?_⟩ <;> (intros; omega)
  | succ nn ih =>
    refine ⟨?_, ?_, ?_⟩
    · intro x5 x6 x7 x8 x9 x10 M hS k5 k6 k7 k8 k9 k10 hK hgg v0 v1 v2 v3 v4 v5 hnn
      refine n_iload c_45_86 rfl ?_
      refine n_iload c_45_88 rfl ?_
      refine n_if2_ge c_45_90 (by omega) (by omega) ?_ ?_
      · intro h1
        exact n_rV c_45_187 rfl ⟨hS, by omega, hK, by exact v4, by exact fun c h0 h1 => v5 c h0 (by omega)⟩
      · intro h2
        refine n_aload_n c_45_93 rfl ?_
        refine n_iload c_45_94 rfl ?_
        refine n_iload c_45_96 rfl ?_
        refine n_iadd c_45_98 rfl ?_
        refine n_ialoadV c_45_99 hp.c0.2.1.n rfl rfl rfl (by omega) (t_actrl hS hp hpl (Or.inl rfl) (by omega) (by omega)) ?_
        intro z3 ez3 f4
        refine n_aload_n c_45_100 rfl ?_
        refine n_getV (bi := 1) c_45_101 sc_27.n rfl rfl rfl hK.w27.1 ?_
        intro z5 ez5 f6
        obtain rfl : z5 = 8 := by omega
        refine n_imul c_45_104 rfl ?_
        refine n_istore (L2 := [some (2, 27), none, some (2, (p + 1)), none, none, some (0, x5), some (0, x6), some (0, x7), some (0, x8), some (0, x9), some (0, x10), some (0, (z3 * 8)), none, none, none]) c_45_105 rfl rfl ?_
        refine n_iconst c_45_107 ?_
        refine n_istore (L2 := [some (2, 27), none, some (2, (p + 1)), none, none, some (0, x5), some (0, x6), some (0, x7), some (0, x8), some (0, x9), some (0, x10), some (0, (z3 * 8)), some (0, 0), none, none]) c_45_108 rfl rfl ?_
        refine n_fg (le_s (le_n (le_s (le_n (le_n (le_s (le_s (le_s (le_s (le_s (le_s (le_s (le_s (le_n (le_n le_0))))))))))))))) ?_
        exact ih.2.1 _ _ _ _ _ _ _ _ M hS (by omega) (by omega) (by omega) (by omega) (by omega) (by omega) (by omega) (by omega) hK (by omega) (by omega) (by exact v1) (by exact v2) (by exact v3) (by exact v4) (by exact v5) (by have u1 := v4 (p + 1) (x6 + x10) (by omega); omega) (by omega)
    · intro x5 x6 x7 x8 x9 x10 x11 x12 M hS k5 k6 k7 k8 k9 k10 k11 k12 hK hgg v0 v1 v2 v3 v4 v5 v6 hnn
      refine n_iload c_45_110 rfl ?_
      refine n_iload c_45_112 rfl ?_
      refine n_if2_ge c_45_114 (by omega) (by omega) ?_ ?_
      · intro h1
        refine n_iinc (L2 := [some (2, 27), none, some (2, (p + 1)), none, none, some (0, x5), some (0, x6), some (0, x7), some (0, x8), some (0, x9), some (0, (x10 + 1)), some (0, x11), some (0, x12), none, none]) c_45_181 rfl rfl rfl ?_
        refine n_goto c_45_184 ?_
        refine n_fg (le_s (le_n (le_s (le_n (le_n (le_s (le_s (le_s (le_s (le_s (le_s (le_n (le_n (le_n (le_n le_0))))))))))))))) ?_
        exact ih.1 _ _ _ _ _ _ M hS (by omega) (by omega) (by omega) (by omega) (by omega) (by omega) hK (by omega) (by omega) (by exact v1) (by exact v2) (by exact v3) (by exact v4) (by exact v5) (by omega)
      · intro h2
        refine n_iload c_45_117 rfl ?_
        refine n_aload_n c_45_119 rfl ?_
        refine n_iload c_45_120 rfl ?_
        refine n_iload c_45_122 rfl ?_
        refine n_iadd c_45_124 rfl ?_
        refine n_ialoadV c_45_125 hp.c0.2.1.n rfl rfl rfl (by omega) (t_actrl hS hp hpl (Or.inl rfl) (by omega) (by omega)) ?_
        intro z3 ez3 f4
        refine n_aload_n c_45_126 rfl ?_
        refine n_getV (bi := 2) c_45_127 sc_27.n rfl rfl rfl hK.w27.2.1 ?_
        intro z5 ez5 f6
        obtain rfl : z5 = 16 := by omega
        refine n_imul c_45_130 rfl ?_
        refine n_iadd c_45_131 rfl ?_
        refine n_istore (L2 := [some (2, 27), none, some (2, (p + 1)), none, none, some (0, x5), some (0, x6), some (0, x7), some (0, x8), some (0, x9), some (0, x10), some (0, x11), some (0, x12), some (0, (x11 + (z3 * 16))), none]) c_45_132 rfl rfl ?_
        refine n_iconst c_45_134 ?_
        refine n_istore (L2 := [some (2, 27), none, some (2, (p + 1)), none, none, some (0, x5), some (0, x6), some (0, x7), some (0, x8), some (0, x9), some (0, x10), some (0, x11), some (0, x12), some (0, (x11 + (z3 * 16))), some (0, 0)]) c_45_135 rfl rfl ?_
        refine n_fg (le_s (le_n (le_s (le_n (le_n (le_s (le_s (le_s (le_s (le_s (le_s (le_s (le_s (le_s (le_s le_0))))))))))))))) ?_
        exact ih.2.2 _ _ _ _ _ _ _ _ _ _ M hS (by omega) (by omega) (by omega) (by omega) (by omega) (by omega) (by omega) (by omega) (by omega) (by omega) hK (by omega) (by omega) (by exact v1) (by exact v2) (by exact v3) (by exact v4) (by exact v5) (by exact v6) (by have u1 := v4 (p + 1) (x7 + x12) (by omega); omega) (by omega)
    · intro x5 x6 x7 x8 x9 x10 x11 x12 x13 x14 M hS k5 k6 k7 k8 k9 k10 k11 k12 k13 k14 hK hgg v0 v1 v2 v3 v4 v5 v6 v7 hnn
      have vf := v4
      refine n_iload c_45_137 rfl ?_
      refine n_iload c_45_139 rfl ?_
      refine n_if2_ge c_45_141 (by omega) (by omega) ?_ ?_
      · intro h1
        refine n_iinc (L2 := [some (2, 27), none, some (2, (p + 1)), none, none, some (0, x5), some (0, x6), some (0, x7), some (0, x8), some (0, x9), some (0, x10), some (0, x11), some (0, (x12 + 1)), some (0, x13), some (0, x14)]) c_45_175 rfl rfl rfl ?_
        refine n_goto c_45_178 ?_
        refine n_fg (le_s (le_n (le_s (le_n (le_n (le_s (le_s (le_s (le_s (le_s (le_s (le_s (le_s (le_n (le_n le_0))))))))))))))) ?_
        exact ih.2.1 _ _ _ _ _ _ _ _ M hS (by omega) (by omega) (by omega) (by omega) (by omega) (by omega) (by omega) (by omega) hK (by omega) (by omega) (by exact v1) (by exact v2) (by exact v3) (by exact v4) (by exact v5) (by exact v6) (by omega)
      · intro h2
        refine n_aload_n c_45_144 rfl ?_
        refine n_getR c_45_145 sc_27.n rfl rfl rfl r_27_0 ?_
        refine n_iload c_45_148 rfl ?_
        refine n_iload c_45_150 rfl ?_
        refine n_aload_n c_45_152 rfl ?_
        refine n_iload c_45_153 rfl ?_
        refine n_iload c_45_155 rfl ?_
        refine n_iadd c_45_157 rfl ?_
        refine n_ialoadV c_45_158 hp.c0.2.1.n rfl rfl rfl (by omega) (t_actrl hS hp hpl (Or.inl rfl) (by omega) (by omega)) ?_
        intro z3 ez3 f4
        refine n_aload_n c_45_159 rfl ?_
        refine n_getV (bi := 3) c_45_160 sc_27.n rfl rfl rfl hK.w27.2.2 ?_
        intro z5 ez5 f6
        obtain rfl : z5 = 32 := by omega
        refine n_imul c_45_163 rfl ?_
        refine n_iadd c_45_164 rfl ?_
        refine n_iastoreV hS c_45_165 sc_28.n rfl (by omega) (w_28 (by omega) (by omega)) ?_
        intro M7 eM7 hS7
        have hK7 := hK.u (by unfold Kok; omega) eM7
        have g7_0 : M7 15 10 = M 15 10 := by rw [eM7]; exact nu_a (by omega)
        refine n_iinc (L2 := [some (2, 27), none, some (2, (p + 1)), none, none, some (0, x5), some (0, x6), some (0, x7), some (0, x8), some (0, (x9 + 1)), some (0, x10), some (0, x11), some (0, x12), some (0, x13), some (0, x14)]) c_45_166 rfl rfl rfl ?_
        refine n_iinc (L2 := [some (2, 27), none, some (2, (p + 1)), none, none, some (0, x5), some (0, x6), some (0, x7), some (0, x8), some (0, (x9 + 1)), some (0, x10), some (0, x11), some (0, x12), some (0, x13), some (0, (x14 + 1))]) c_45_169 rfl rfl rfl ?_
        refine n_goto c_45_172 ?_
        refine n_fg (le_s (le_n (le_s (le_n (le_n (le_s (le_s (le_s (le_s (le_s (le_s (le_s (le_s (le_s (le_s le_0))))))))))))))) ?_
        exact ih.2.2 _ _ _ _ _ _ _ _ _ _ M7 hS7 (by omega) (by omega) (by omega) (by omega) (by omega) (by omega) (by omega) (by omega) (by omega) (by omega) hK7 (by omega) (by omega) (by exact v1) (by exact v2) (by exact v3) (by exact FCm.u v4 eM7) (by exact fun c h0 h1 => by rw [eM7, nu_e]; by_cases e : c = x9; (rw [if_pos ⟨rfl, e⟩, e]; show _ = Ms (p + 1) ((i / (2 * 2) * 2 + j / (2 * 2)) * 2 + x9 / (2 * 2)) * 8 + Ms (p + 1) ((i / 2 % 2 * 2 + j / 2 % 2) * 2 + x9 / 2 % 2) * 16 + Ms (p + 1) ((i % 2 * 2 + j % 2) * 2 + x9 % 2) * 32; rw [show x9 / (2 * 2) = x10 by omega, show x9 / 2 % 2 = x12 by omega, show x9 % 2 = x14 by omega, ← v1, ← v2, ← v3]; have u3 := vf (p + 1) (x8 + x14) (by omega); omega); (rw [if_neg (fun u => e u.2)]; exact v5 c h0 (by omega))) (by exact v6) (by exact v7) (by omega)
set_option maxHeartbeats 4000000 in
theorem fillMX27T_3_2 {xs : List Int32} {e : Nat} {ac : Int} {M0 M : nM} {p i j g : Int} {Ms : nM} (hS : Sf 2 ac M0 M) (hp : ActAt p) (hpl : p < 55 + 3 * ac) (hi : 0 ≤ i ∧ i ≤ 7) (hj : 0 ≤ j ∧ j ≤ 7) (hK : MK 256 8 7 56 192 1 2 4 8 16 32 64 128 0 M) (hg : M 15 10 = g) (hms : M = Ms) : nW xs e 45 0 [some (2, 27), some (2, 4), some (2, (p + 1)), some (0, i), some (0, j), none, none, none, none, none, none, none, none, none, none] [] M (nPV fun M1 => Sf 2 ac M0 M1 ∧ (M1 15 10 = g) ∧ MK 256 8 7 56 192 1 2 4 8 16 32 64 128 0 M1 ∧ (FCm 28 Ms M1) ∧ (∀ c : Int, 0 ≤ c → c < 2 * 2 * 2 → M1 28 c = linw 2 (fun i => Ms (p + 1) i) 8 16 32 i j c)) := by
  have hd : (2 : Int) = 2 ∨ (2 : Int) = 3 := by decide
  have hac := hS.2.2.2.2
  have hpb := hp.1
  refine n_aload_n c_45_0 rfl ?_
  refine n_getV (bi := 1) c_45_1 sc_27.n rfl rfl rfl hK.w27.1 ?_
  intro z1 ez1 f2
  obtain rfl : z1 = 8 := by omega
  refine n_if0_ne c_45_4 (by omega) ?_ ?_
  · intro h3
    refine n_aload_n c_45_8 rfl ?_
    refine n_getV (bi := 0) c_45_9 sc_4.n rfl rfl rfl (t_4_0 hS) ?_
    intro z4 ez4 f5
    obtain rfl : z4 = 2 := by omega
    refine n_istore (L2 := [some (2, 27), some (2, 4), some (2, (p + 1)), some (0, i), some (0, j), some (0, 2), none, none, none, none, none, none, none, none, none]) c_45_12 rfl rfl ?_
    refine n_aload_n c_45_14 rfl ?_
    refine n_getR c_45_15 sc_4.n rfl rfl rfl r_4_2 ?_
    refine n_iload_n c_45_18 rfl ?_
    refine n_ialoadV c_45_19 sc_5.n rfl rfl rfl (by omega) (t_5d hS hd (by omega) (by omega)) ?_
    intro z6 ez6 f7
    have q19 := t_5e hS (i := i) (by omega) (by omega)
    refine n_iload c_45_20 rfl ?_
    refine n_imul c_45_22 rfl ?_
    refine n_aload_n c_45_23 rfl ?_
    refine n_getR c_45_24 sc_4.n rfl rfl rfl r_4_2 ?_
    refine n_iload c_45_27 rfl ?_
    refine n_ialoadV c_45_29 sc_5.n rfl rfl rfl (by omega) (t_5d hS hd (by omega) (by omega)) ?_
    intro z8 ez8 f9
    have q29 := t_5e hS (i := j) (by omega) (by omega)
    refine n_iadd c_45_30 rfl ?_
    refine n_iload c_45_31 rfl ?_
    refine n_imul c_45_33 rfl ?_
    refine n_istore (L2 := [some (2, 27), some (2, 4), some (2, (p + 1)), some (0, i), some (0, j), some (0, 2), some (0, (((z6 * 2) + z8) * 2)), none, none, none, none, none, none, none, none]) c_45_34 rfl rfl ?_
    refine n_aload_n c_45_36 rfl ?_
    refine n_getR c_45_37 sc_4.n rfl rfl rfl r_4_3 ?_
    refine n_iload_n c_45_40 rfl ?_
    refine n_ialoadV c_45_41 sc_6.n rfl rfl rfl (by omega) (t_6d hS hd (by omega) (by omega)) ?_
    intro z10 ez10 f11
    have q41 := t_6e hS (i := i) (by omega) (by omega)
    refine n_iload c_45_42 rfl ?_
    refine n_imul c_45_44 rfl ?_
    refine n_aload_n c_45_45 rfl ?_
    refine n_getR c_45_46 sc_4.n rfl rfl rfl r_4_3 ?_
    refine n_iload c_45_49 rfl ?_
    refine n_ialoadV c_45_51 sc_6.n rfl rfl rfl (by omega) (t_6d hS hd (by omega) (by omega)) ?_
    intro z12 ez12 f13
    have q51 := t_6e hS (i := j) (by omega) (by omega)
    refine n_iadd c_45_52 rfl ?_
    refine n_iload c_45_53 rfl ?_
    refine n_imul c_45_55 rfl ?_
    refine n_istore (L2 := [some (2, 27), some (2, 4), some (2, (p + 1)), some (0, i), some (0, j), some (0, 2), some (0, (((z6 * 2) + z8) * 2)), some (0, (((z10 * 2) + z12) * 2)), none, none, none, none, none, none, none]) c_45_56 rfl rfl ?_
    refine n_aload_n c_45_58 rfl ?_
    refine n_getR c_45_59 sc_4.n rfl rfl rfl r_4_4 ?_
    refine n_iload_n c_45_62 rfl ?_
    refine n_ialoadV c_45_63 sc_7.n rfl rfl rfl (by omega) (t_7d hS hd (by omega) (by omega)) ?_
    intro z14 ez14 f15
    have q63 := t_7e hS (i := i) (by omega) (by omega)
    refine n_iload c_45_64 rfl ?_
    refine n_imul c_45_66 rfl ?_
    refine n_aload_n c_45_67 rfl ?_
    refine n_getR c_45_68 sc_4.n rfl rfl rfl r_4_4 ?_
    refine n_iload c_45_71 rfl ?_
    refine n_ialoadV c_45_73 sc_7.n rfl rfl rfl (by omega) (t_7d hS hd (by omega) (by omega)) ?_
    intro z16 ez16 f17
    have q73 := t_7e hS (i := j) (by omega) (by omega)
    refine n_iadd c_45_74 rfl ?_
    refine n_iload c_45_75 rfl ?_
    refine n_imul c_45_77 rfl ?_
    refine n_istore (L2 := [some (2, 27), some (2, 4), some (2, (p + 1)), some (0, i), some (0, j), some (0, 2), some (0, (((z6 * 2) + z8) * 2)), some (0, (((z10 * 2) + z12) * 2)), some (0, (((z14 * 2) + z16) * 2)), none, none, none, none, none, none]) c_45_78 rfl rfl ?_
    refine n_iconst c_45_80 ?_
    refine n_istore (L2 := [some (2, 27), some (2, 4), some (2, (p + 1)), some (0, i), some (0, j), some (0, 2), some (0, (((z6 * 2) + z8) * 2)), some (0, (((z10 * 2) + z12) * 2)), some (0, (((z14 * 2) + z16) * 2)), some (0, 0), none, none, none, none, none]) c_45_81 rfl rfl ?_
    refine n_iconst c_45_83 ?_
    refine n_istore (L2 := [some (2, 27), some (2, 4), some (2, (p + 1)), some (0, i), some (0, j), some (0, 2), some (0, (((z6 * 2) + z8) * 2)), some (0, (((z10 * 2) + z12) * 2)), some (0, (((z14 * 2) + z16) * 2)), some (0, 0), some (0, 0), none, none, none, none]) c_45_84 rfl rfl ?_
    refine n_fg (le_s (le_n (le_s (le_n (le_n (le_s (le_s (le_s (le_s (le_s (le_s (le_n (le_n (le_n (le_n le_0))))))))))))))) ?_
    exact (fillMX27T_3_2_c hS hp hpl hi hj hK hg hms 178).1 _ _ _ _ _ _ M hS (by omega) (by omega) (by omega) (by omega) (by omega) (by omega) hK (by omega) (by omega) (by omega) (by omega) (by omega) (by subst hms; exact fun _ _ _ => rfl) (by exact fun c h0 h1 => by omega) (by omega)
  · intro h18
    exfalso; omega

set_option maxHeartbeats 4000000 in
theorem fillMX29T_3_2_c {xs : List Int32} {e : Nat} {ac : Int} {M0 M : nM} {p i j g : Int} {Ms : nM} (hS : Sf 2 ac M0 M) (hp : ActAt p) (hpl : p < 55 + 3 * ac) (hi : 0 ≤ i ∧ i ≤ 7) (hj : 0 ≤ j ∧ j ≤ 7) (hK : MK 256 8 7 56 192 1 2 4 8 16 32 64 128 0 M) (hg : M 15 10 = g) (hms : M = Ms) : ∀ nn : Nat, (∀ (x5 x6 x7 x8 x9 x10 : Int) (M : nM), Sf 2 ac M0 M → (2 ≤ x5 ∧ x5 ≤ 2) → (0 ≤ x6 ∧ x6 ≤ 6) → (0 ≤ x7 ∧ x7 ≤ 6) → (0 ≤ x8 ∧ x8 ≤ 6) → (0 ≤ x9 ∧ x9 ≤ 8) → (0 ≤ x10 ∧ x10 ≤ 2) → (MK 256 8 7 56 192 1 2 4 8 16 32 64 128 0 M) → (M 15 10 = g) → (x9 = 4 * x10) → (x6 = (i / (2 * 2) * 2 + j / (2 * 2)) * 2) → (x7 = (i / 2 % 2 * 2 + j / 2 % 2) * 2) → (x8 = (i % 2 * 2 + j % 2) * 2) → (FCm 30 Ms M) → (∀ c : Int, 0 ≤ c → c < x9 → M 30 c = linw 2 (fun i => Ms (p + 1) i) 64 128 0 i j c) → (2 - x10) * 21 + 21 < (nn : Int) → nW xs e 45 86 [some (2, 29), none, some (2, (p + 1)), none, none, some (0, x5), some (0, x6), some (0, x7), some (0, x8), some (0, x9), some (0, x10), none, none, none, none] [] M (nPV fun M1 => Sf 2 ac M0 M1 ∧ (M1 15 10 = g) ∧ MK 256 8 7 56 192 1 2 4 8 16 32 64 128 0 M1 ∧ (FCm 30 Ms M1) ∧ (∀ c : Int, 0 ≤ c → c < 2 * 2 * 2 → M1 30 c = linw 2 (fun i => Ms (p + 1) i) 64 128 0 i j c))) ∧ (∀ (x5 x6 x7 x8 x9 x10 x11 x12 : Int) (M : nM), Sf 2 ac M0 M → (2 ≤ x5 ∧ x5 ≤ 2) → (0 ≤ x6 ∧ x6 ≤ 6) → (0 ≤ x7 ∧ x7 ≤ 6) → (0 ≤ x8 ∧ x8 ≤ 6) → (0 ≤ x9 ∧ x9 ≤ 8) → (0 ≤ x10 ∧ x10 ≤ 1) → (0 ≤ x11 ∧ x11 ≤ 64) → (0 ≤ x12 ∧ x12 ≤ 2) → (MK 256 8 7 56 192 1 2 4 8 16 32 64 128 0 M) → (M 15 10 = g) → (x9 = 4 * x10 + 2 * x12) → (x6 = (i / (2 * 2) * 2 + j / (2 * 2)) * 2) → (x7 = (i / 2 % 2 * 2 + j / 2 % 2) * 2) → (x8 = (i % 2 * 2 + j % 2) * 2) → (FCm 30 Ms M) → (∀ c : Int, 0 ≤ c → c < x9 → M 30 c = linw 2 (fun i => Ms (p + 1) i) 64 128 0 i j c) → (x11 = Ms (p + 1) (x6 + x10) * 64) → (2 - x10) * 21 + (2 - x12) * 5 + 5 < (nn : Int) → nW xs e 45 110 [some (2, 29), none, some (2, (p + 1)), none, none, some (0, x5), some (0, x6), some (0, x7), some (0, x8), some (0, x9), some (0, x10), some (0, x11), some (0, x12), none, none] [] M (nPV fun M1 => Sf 2 ac M0 M1 ∧ (M1 15 10 = g) ∧ MK 256 8 7 56 192 1 2 4 8 16 32 64 128 0 M1 ∧ (FCm 30 Ms M1) ∧ (∀ c : Int, 0 ≤ c → c < 2 * 2 * 2 → M1 30 c = linw 2 (fun i => Ms (p + 1) i) 64 128 0 i j c))) ∧ (∀ (x5 x6 x7 x8 x9 x10 x11 x12 x13 x14 : Int) (M : nM), Sf 2 ac M0 M → (2 ≤ x5 ∧ x5 ≤ 2) → (0 ≤ x6 ∧ x6 ≤ 6) → (0 ≤ x7 ∧ x7 ≤ 6) → (0 ≤ x8 ∧ x8 ≤ 6) → (0 ≤ x9 ∧ x9 ≤ 8) → (0 ≤ x10 ∧ x10 ≤ 1) → (0 ≤ x11 ∧ x11 ≤ 64) → (0 ≤ x12 ∧ x12 ≤ 1) → (0 ≤ x13 ∧ x13 ≤ 192) → (0 ≤ x14 ∧ x14 ≤ 2) → (MK 256 8 7 56 192 1 2 4 8 16 32 64 128 0 M) → (M 15 10 = g) → (x9 = 4 * x10 + 2 * x12 + x14) → (x6 = (i / (2 * 2) * 2 + j / (2 * 2)) * 2) → (x7 = (i / 2 % 2 * 2 + j / 2 % 2) * 2) → (x8 = (i % 2 * 2 + j % 2) * 2) → (FCm 30 Ms M) → (∀ c : Int, 0 ≤ c → c < x9 → M 30 c = linw 2 (fun i => Ms (p + 1) i) 64 128 0 i j c) → (x11 = Ms (p + 1) (x6 + x10) * 64) → (x13 = Ms (p + 1) (x6 + x10) * 64 + Ms (p + 1) (x7 + x12) * 128) → (2 - x10) * 21 + (2 - x12) * 5 + (2 - x14) * 1 + 1 < (nn : Int) → nW xs e 45 137 [some (2, 29), none, some (2, (p + 1)), none, none, some (0, x5), some (0, x6), some (0, x7), some (0, x8), some (0, x9), some (0, x10), some (0, x11), some (0, x12), some (0, x13), some (0, x14)] [] M (nPV fun M1 => Sf 2 ac M0 M1 ∧ (M1 15 10 = g) ∧ MK 256 8 7 56 192 1 2 4 8 16 32 64 128 0 M1 ∧ (FCm 30 Ms M1) ∧ (∀ c : Int, 0 ≤ c → c < 2 * 2 * 2 → M1 30 c = linw 2 (fun i => Ms (p + 1) i) 64 128 0 i j c))) := by
  have hd : (2 : Int) = 2 ∨ (2 : Int) = 3 := by decide
  have hac := hS.2.2.2.2
  have hpb := hp.1
  intro nn
  induction nn with
  | zero => refine ⟨?_, ?_, ?_⟩ <;> (intros; omega)
  | succ nn ih =>
    refine ⟨?_, ?_, ?_⟩
    · intro x5 x6 x7 x8 x9 x10 M hS k5 k6 k7 k8 k9 k10 hK hgg v0 v1 v2 v3 v4 v5 hnn
      refine n_iload c_45_86 rfl ?_
      refine n_iload c_45_88 rfl ?_
      refine n_if2_ge c_45_90 (by omega) (by omega) ?_ ?_
      · intro h1
        exact n_rV c_45_187 rfl ⟨hS, by omega, hK, by exact v4, by exact fun c h0 h1 => v5 c h0 (by omega)⟩
      · intro h2
        refine n_aload_n c_45_93 rfl ?_
        refine n_iload c_45_94 rfl ?_
        refine n_iload c_45_96 rfl ?_
        refine n_iadd c_45_98 rfl ?_
        refine n_ialoadV c_45_99 hp.c0.2.1.n rfl rfl rfl (by omega) (t_actrl hS hp hpl (Or.inl rfl) (by omega) (by omega)) ?_
        intro z3 ez3 f4
        refine n_aload_n c_45_100 rfl ?_
        refine n_getV (bi := 1) c_45_101 sc_29.n rfl rfl rfl hK.w29.1 ?_
        intro z5 ez5 f6
        obtain rfl : z5 = 64 := by omega
        refine n_imul c_45_104 rfl ?_
        refine n_istore (L2 := [some (2, 29), none, some (2, (p + 1)), none, none, some (0, x5), some (0, x6), some (0, x7), some (0, x8), some (0, x9), some (0, x10), some (0, (z3 * 64)), none, none, none]) c_45_105 rfl rfl ?_
        refine n_iconst c_45_107 ?_
        refine n_istore (L2 := [some (2, 29), none, some (2, (p + 1)), none, none, some (0, x5), some (0, x6), some (0, x7), some (0, x8), some (0, x9), some (0, x10), some (0, (z3 * 64)), some (0, 0), none, none]) c_45_108 rfl rfl ?_
        refine n_fg (le_s (le_n (le_s (le_n (le_n (le_s (le_s (le_s (le_s (le_s (le_s (le_s (le_s (le_n (le_n le_0))))))))))))))) ?_
        exact ih.2.1 _ _ _ _ _ _ _ _ M hS (by omega) (by omega) (by omega) (by omega) (by omega) (by omega) (by omega) (by omega) hK (by omega) (by omega) (by exact v1) (by exact v2) (by exact v3) (by exact v4) (by exact v5) (by have u1 := v4 (p + 1) (x6 + x10) (by omega); omega) (by omega)
    · intro x5 x6 x7 x8 x9 x10 x11 x12 M hS k5 k6 k7 k8 k9 k10 k11 k12 hK hgg v0 v1 v2 v3 v4 v5 v6 hnn
      refine n_iload c_45_110 rfl ?_
      refine n_iload c_45_112 rfl ?_
      refine n_if2_ge c_45_114 (by omega) (by omega) ?_ ?_
      · intro h1
        refine n_iinc (L2 := [some (2, 29), none, some (2, (p + 1)), none, none, some (0, x5), some (0, x6), some (0, x7), some (0, x8), some (0, x9), some (0, (x10 + 1)), some (0, x11), some (0, x12), none, none]) c_45_181 rfl rfl rfl ?_
        refine n_goto c_45_184 ?_
        refine n_fg (le_s (le_n (le_s (le_n (le_n (le_s (le_s (le_s (le_s (le_s (le_s (le_n (le_n (le_n (le_n le_0))))))))))))))) ?_
        exact ih.1 _ _ _ _ _ _ M hS (by omega) (by omega) (by omega) (by omega) (by omega) (by omega) hK (by omega) (by omega) (by exact v1) (by exact v2) (by exact v3) (by exact v4) (by exact v5) (by omega)
      · intro h2
        refine n_iload c_45_117 rfl ?_
        refine n_aload_n c_45_119 rfl ?_
        refine n_iload c_45_120 rfl ?_
        refine n_iload c_45_122 rfl ?_
        refine n_iadd c_45_124 rfl ?_
        refine n_ialoadV c_45_125 hp.c0.2.1.n rfl rfl rfl (by omega) (t_actrl hS hp hpl (Or.inl rfl) (by omega) (by omega)) ?_
        intro z3 ez3 f4
        refine n_aload_n c_45_126 rfl ?_
        refine n_getV (bi := 2) c_45_127 sc_29.n rfl rfl rfl hK.w29.2.1 ?_
        intro z5 ez5 f6
        obtain rfl : z5 = 128 := by omega
        refine n_imul c_45_130 rfl ?_
        refine n_iadd c_45_131 rfl ?_
        refine n_istore (L2 := [some (2, 29), none, some (2, (p + 1)), none, none, some (0, x5), some (0, x6), some (0, x7), some (0, x8), some (0, x9), some (0, x10), some (0, x11), some (0, x12), some (0, (x11 + (z3 * 128))), none]) c_45_132 rfl rfl ?_
        refine n_iconst c_45_134 ?_
        refine n_istore (L2 := [some (2, 29), none, some (2, (p + 1)), none, none, some (0, x5), some (0, x6), some (0, x7), some (0, x8), some (0, x9), some (0, x10), some (0, x11), some (0, x12), some (0, (x11 + (z3 * 128))), some (0, 0)]) c_45_135 rfl rfl ?_
        refine n_fg (le_s (le_n (le_s (le_n (le_n (le_s (le_s (le_s (le_s (le_s (le_s (le_s (le_s (le_s (le_s le_0))))))))))))))) ?_
        exact ih.2.2 _ _ _ _ _ _ _ _ _ _ M hS (by omega) (by omega) (by omega) (by omega) (by omega) (by omega) (by omega) (by omega) (by omega) (by omega) hK (by omega) (by omega) (by exact v1) (by exact v2) (by exact v3) (by exact v4) (by exact v5) (by exact v6) (by have u1 := v4 (p + 1) (x7 + x12) (by omega); omega) (by omega)
    · intro x5 x6 x7 x8 x9 x10 x11 x12 x13 x14 M hS k5 k6 k7 k8 k9 k10 k11 k12 k13 k14 hK hgg v0 v1 v2 v3 v4 v5 v6 v7 hnn
      have vf := v4
      refine n_iload c_45_137 rfl ?_
      refine n_iload c_45_139 rfl ?_
      refine n_if2_ge c_45_141 (by omega) (by omega) ?_ ?_
      · intro h1
        refine n_iinc (L2 := [some (2, 29), none, some (2, (p + 1)), none, none, some (0, x5), some (0, x6), some (0, x7), some (0, x8), some (0, x9), some (0, x10), some (0, x11), some (0, (x12 + 1)), some (0, x13), some (0, x14)]) c_45_175 rfl rfl rfl ?_
        refine n_goto c_45_178 ?_
        refine n_fg (le_s (le_n (le_s (le_n (le_n (le_s (le_s (le_s (le_s (le_s (le_s (le_s (le_s (le_n (le_n le_0))))))))))))))) ?_
        exact ih.2.1 _ _ _ _ _ _ _ _ M hS (by omega) (by omega) (by omega) (by omega) (by omega) (by omega) (by omega) (by omega) hK (by omega) (by omega) (by exact v1) (by exact v2) (by exact v3) (by exact v4) (by exact v5) (by exact v6) (by omega)
      · intro h2
        refine n_aload_n c_45_144 rfl ?_
        refine n_getR c_45_145 sc_29.n rfl rfl rfl r_29_0 ?_
        refine n_iload c_45_148 rfl ?_
        refine n_iload c_45_150 rfl ?_
        refine n_aload_n c_45_152 rfl ?_
        refine n_iload c_45_153 rfl ?_
        refine n_iload c_45_155 rfl ?_
        refine n_iadd c_45_157 rfl ?_
        refine n_ialoadV c_45_158 hp.c0.2.1.n rfl rfl rfl (by omega) (t_actrl hS hp hpl (Or.inl rfl) (by omega) (by omega)) ?_
        intro z3 ez3 f4
        refine n_aload_n c_45_159 rfl ?_
        refine n_getV (bi := 3) c_45_160 sc_29.n rfl rfl rfl hK.w29.2.2 ?_
        intro z5 ez5 f6
        obtain rfl : z5 = 0 := by omega
        refine n_imul c_45_163 rfl ?_
        refine n_iadd c_45_164 rfl ?_
        refine n_iastoreV hS c_45_165 sc_30.n rfl (by omega) (w_30 (by omega) (by omega)) ?_
        intro M7 eM7 hS7
        have hK7 := hK.u (by unfold Kok; omega) eM7
        have g7_0 : M7 15 10 = M 15 10 := by rw [eM7]; exact nu_a (by omega)
        refine n_iinc (L2 := [some (2, 29), none, some (2, (p + 1)), none, none, some (0, x5), some (0, x6), some (0, x7), some (0, x8), some (0, (x9 + 1)), some (0, x10), some (0, x11), some (0, x12), some (0, x13), some (0, x14)]) c_45_166 rfl rfl rfl ?_
        refine n_iinc (L2 := [some (2, 29), none, some (2, (p + 1)), none, none, some (0, x5), some (0, x6), some (0, x7), some (0, x8), some (0, (x9 + 1)), some (0, x10), some (0, x11), some (0, x12), some (0, x13), some (0, (x14 + 1))]) c_45_169 rfl rfl rfl ?_
        refine n_goto c_45_172 ?_
        refine n_fg (le_s (le_n (le_s (le_n (le_n (le_s (le_s (le_s (le_s (le_s (le_s (le_s (le_s (le_s (le_s le_0))))))))))))))) ?_
        exact ih.2.2 _ _ _ _ _ _ _ _ _ _ M7 hS7 (by omega) (by omega) (by omega) (by omega) (by omega) (by omega) (by omega) (by omega) (by omega) (by omega) hK7 (by omega) (by omega) (by exact v1) (by exact v2) (by exact v3) (by exact FCm.u v4 eM7) (by exact fun c h0 h1 => by rw [eM7, nu_e]; by_cases e : c = x9; (rw [if_pos ⟨rfl, e⟩, e]; show _ = Ms (p + 1) ((i / (2 * 2) * 2 + j / (2 * 2)) * 2 + x9 / (2 * 2)) * 64 + Ms (p + 1) ((i / 2 % 2 * 2 + j / 2 % 2) * 2 + x9 / 2 % 2) * 128 + Ms (p + 1) ((i % 2 * 2 + j % 2) * 2 + x9 % 2) * 0; rw [show x9 / (2 * 2) = x10 by omega, show x9 / 2 % 2 = x12 by omega, show x9 % 2 = x14 by omega, ← v1, ← v2, ← v3]; have u3 := vf (p + 1) (x8 + x14) (by omega); omega); (rw [if_neg (fun u => e u.2)]; exact v5 c h0 (by omega))) (by exact v6) (by exact v7) (by omega)
set_option maxHeartbeats 4000000 in
theorem fillMX29T_3_2 {xs : List Int32} {e : Nat} {ac : Int} {M0 M : nM} {p i j g : Int} {Ms : nM} (hS : Sf 2 ac M0 M) (hp : ActAt p) (hpl : p < 55 + 3 * ac) (hi : 0 ≤ i ∧ i ≤ 7) (hj : 0 ≤ j ∧ j ≤ 7) (hK : MK 256 8 7 56 192 1 2 4 8 16 32 64 128 0 M) (hg : M 15 10 = g) (hms : M = Ms) : nW xs e 45 0 [some (2, 29), some (2, 4), some (2, (p + 1)), some (0, i), some (0, j), none, none, none, none, none, none, none, none, none, none] [] M (nPV fun M1 => Sf 2 ac M0 M1 ∧ (M1 15 10 = g) ∧ MK 256 8 7 56 192 1 2 4 8 16 32 64 128 0 M1 ∧ (FCm 30 Ms M1) ∧ (∀ c : Int, 0 ≤ c → c < 2 * 2 * 2 → M1 30 c = linw 2 (fun i => Ms (p + 1) i) 64 128 0 i j c)) := by
  have hd : (2 : Int) = 2 ∨ (2 : Int) = 3 := by decide
  have hac := hS.2.2.2.2
  have hpb := hp.1
  refine n_aload_n c_45_0 rfl ?_
  refine n_getV (bi := 1) c_45_1 sc_29.n rfl rfl rfl hK.w29.1 ?_
  intro z1 ez1 f2
  obtain rfl : z1 = 64 := by omega
  refine n_if0_ne c_45_4 (by omega) ?_ ?_
  · intro h3
    refine n_aload_n c_45_8 rfl ?_
    refine n_getV (bi := 0) c_45_9 sc_4.n rfl rfl rfl (t_4_0 hS) ?_
    intro z4 ez4 f5
    obtain rfl : z4 = 2 := by omega
    refine n_istore (L2 := [some (2, 29), some (2, 4), some (2, (p + 1)), some (0, i), some (0, j), some (0, 2), none, none, none, none, none, none, none, none, none]) c_45_12 rfl rfl ?_
    refine n_aload_n c_45_14 rfl ?_
    refine n_getR c_45_15 sc_4.n rfl rfl rfl r_4_2 ?_
    refine n_iload_n c_45_18 rfl ?_
    refine n_ialoadV c_45_19 sc_5.n rfl rfl rfl (by omega) (t_5d hS hd (by omega) (by omega)) ?_
    intro z6 ez6 f7
    have q19 := t_5e hS (i := i) (by omega) (by omega)
    refine n_iload c_45_20 rfl ?_
    refine n_imul c_45_22 rfl ?_
    refine n_aload_n c_45_23 rfl ?_
    refine n_getR c_45_24 sc_4.n rfl rfl rfl r_4_2 ?_
    refine n_iload c_45_27 rfl ?_
    refine n_ialoadV c_45_29 sc_5.n rfl rfl rfl (by omega) (t_5d hS hd (by omega) (by omega)) ?_
    intro z8 ez8 f9
    have q29 := t_5e hS (i := j) (by omega) (by omega)
    refine n_iadd c_45_30 rfl ?_
    refine n_iload c_45_31 rfl ?_
    refine n_imul c_45_33 rfl ?_
    refine n_istore (L2 := [some (2, 29), some (2, 4), some (2, (p + 1)), some (0, i), some (0, j), some (0, 2), some (0, (((z6 * 2) + z8) * 2)), none, none, none, none, none, none, none, none]) c_45_34 rfl rfl ?_
    refine n_aload_n c_45_36 rfl ?_
    refine n_getR c_45_37 sc_4.n rfl rfl rfl r_4_3 ?_
    refine n_iload_n c_45_40 rfl ?_
    refine n_ialoadV c_45_41 sc_6.n rfl rfl rfl (by omega) (t_6d hS hd (by omega) (by omega)) ?_
    intro z10 ez10 f11
    have q41 := t_6e hS (i := i) (by omega) (by omega)
    refine n_iload c_45_42 rfl ?_
    refine n_imul c_45_44 rfl ?_
    refine n_aload_n c_45_45 rfl ?_
    refine n_getR c_45_46 sc_4.n rfl rfl rfl r_4_3 ?_
    refine n_iload c_45_49 rfl ?_
    refine n_ialoadV c_45_51 sc_6.n rfl rfl rfl (by omega) (t_6d hS hd (by omega) (by omega)) ?_
    intro z12 ez12 f13
    have q51 := t_6e hS (i := j) (by omega) (by omega)
    refine n_iadd c_45_52 rfl ?_
    refine n_iload c_45_53 rfl ?_
    refine n_imul c_45_55 rfl ?_
    refine n_istore (L2 := [some (2, 29), some (2, 4), some (2, (p + 1)), some (0, i), some (0, j), some (0, 2), some (0, (((z6 * 2) + z8) * 2)), some (0, (((z10 * 2) + z12) * 2)), none, none, none, none, none, none, none]) c_45_56 rfl rfl ?_
    refine n_aload_n c_45_58 rfl ?_
    refine n_getR c_45_59 sc_4.n rfl rfl rfl r_4_4 ?_
    refine n_iload_n c_45_62 rfl ?_
    refine n_ialoadV c_45_63 sc_7.n rfl rfl rfl (by omega) (t_7d hS hd (by omega) (by omega)) ?_
    intro z14 ez14 f15
    have q63 := t_7e hS (i := i) (by omega) (by omega)
    refine n_iload c_45_64 rfl ?_
    refine n_imul c_45_66 rfl ?_
    refine n_aload_n c_45_67 rfl ?_
    refine n_getR c_45_68 sc_4.n rfl rfl rfl r_4_4 ?_
    refine n_iload c_45_71 rfl ?_
    refine n_ialoadV c_45_73 sc_7.n rfl rfl rfl (by omega) (t_7d hS hd (by omega) (by omega)) ?_
    intro z16 ez16 f17
    have q73 := t_7e hS (i := j) (by omega) (by omega)
    refine n_iadd c_45_74 rfl ?_
    refine n_iload c_45_75 rfl ?_
    refine n_imul c_45_77 rfl ?_
    refine n_istore (L2 := [some (2, 29), some (2, 4), some (2, (p + 1)), some (0, i), some (0, j), some (0, 2), some (0, (((z6 * 2) + z8) * 2)), some (0, (((z10 * 2) + z12) * 2)), some (0, (((z14 * 2) + z16) * 2)), none, none, none, none, none, none]) c_45_78 rfl rfl ?_
    refine n_iconst c_45_80 ?_
    refine n_istore (L2 := [some (2, 29), some (2, 4), some (2, (p + 1)), some (0, i), some (0, j), some (0, 2), some (0, (((z6 * 2) + z8) * 2)), some (0, (((z10 * 2) + z12) * 2)), some (0, (((z14 * 2) + z16) * 2)), some (0, 0), none, none, none, none, none]) c_45_81 rfl rfl ?_
    refine n_iconst c_45_83 ?_
    refine n_istore (L2 := [some (2, 29), some (2, 4), some (2, (p + 1)), some (0, i), some (0, j), some (0, 2), some (0, (((z6 * 2) + z8) * 2)), some (0, (((z10 * 2) + z12) * 2)), some (0, (((z14 * 2) + z16) * 2)), some (0, 0), some (0, 0), none, none, none, none]) c_45_84 rfl rfl ?_
    refine n_fg (le_s (le_n (le_s (le_n (le_n (le_s (le_s (le_s (le_s (le_s (le_s (le_n (le_n (le_n (le_n le_0))))))))))))))) ?_
    exact (fillMX29T_3_2_c hS hp hpl hi hj hK hg hms 178).1 _ _ _ _ _ _ M hS (by omega) (by omega) (by omega) (by omega) (by omega) (by omega) hK (by omega) (by omega) (by omega) (by omega) (by omega) (by subst hms; exact fun _ _ _ => rfl) (by exact fun c h0 h1 => by omega) (by omega)
  · intro h18
    exfalso; omega

set_option maxHeartbeats 4000000 in
theorem fillMX25U_3_2_c {xs : List Int32} {e : Nat} {ac : Int} {M0 M : nM} {p i j g : Int} {Ms : nM} (hS : Sf 2 ac M0 M) (hp : ActAt p) (hpl : p < 55 + 3 * ac) (hi : 0 ≤ i ∧ i ≤ 7) (hj : 0 ≤ j ∧ j ≤ 7) (hK : MK 256 8 7 56 192 1 2 4 8 16 32 64 128 0 M) (hg : M 15 10 = g) (hms : M = Ms) : ∀ nn : Nat, (∀ (x5 x6 x7 x8 x9 x10 : Int) (M : nM), Sf 2 ac M0 M → (2 ≤ x5 ∧ x5 ≤ 2) → (0 ≤ x6 ∧ x6 ≤ 6) → (0 ≤ x7 ∧ x7 ≤ 6) → (0 ≤ x8 ∧ x8 ≤ 6) → (0 ≤ x9 ∧ x9 ≤ 8) → (0 ≤ x10 ∧ x10 ≤ 2) → (MK 256 8 7 56 192 1 2 4 8 16 32 64 128 0 M) → (M 15 10 = g) → (x9 = 4 * x10) → (x6 = (i / (2 * 2) * 2 + j / (2 * 2)) * 2) → (x7 = (i / 2 % 2 * 2 + j / 2 % 2) * 2) → (x8 = (i % 2 * 2 + j % 2) * 2) → (FCm 26 Ms M) → (∀ c : Int, 0 ≤ c → c < x9 → M 26 c = linw 2 (fun i => Ms (p + 2) i) 1 2 4 i j c) → (2 - x10) * 21 + 21 < (nn : Int) → nW xs e 45 86 [some (2, 25), none, some (2, (p + 2)), none, none, some (0, x5), some (0, x6), some (0, x7), some (0, x8), some (0, x9), some (0, x10), none, none, none, none] [] M (nPV fun M1 => Sf 2 ac M0 M1 ∧ (M1 15 10 = g) ∧ MK 256 8 7 56 192 1 2 4 8 16 32 64 128 0 M1 ∧ (FCm 26 Ms M1) ∧ (∀ c : Int, 0 ≤ c → c < 2 * 2 * 2 → M1 26 c = linw 2 (fun i => Ms (p + 2) i) 1 2 4 i j c))) ∧ (∀ (x5 x6 x7 x8 x9 x10 x11 x12 : Int) (M : nM), Sf 2 ac M0 M → (2 ≤ x5 ∧ x5 ≤ 2) → (0 ≤ x6 ∧ x6 ≤ 6) → (0 ≤ x7 ∧ x7 ≤ 6) → (0 ≤ x8 ∧ x8 ≤ 6) → (0 ≤ x9 ∧ x9 ≤ 8) → (0 ≤ x10 ∧ x10 ≤ 1) → (0 ≤ x11 ∧ x11 ≤ 1) → (0 ≤ x12 ∧ x12 ≤ 2) → (MK 256 8 7 56 192 1 2 4 8 16 32 64 128 0 M) → (M 15 10 = g) → (x9 = 4 * x10 + 2 * x12) → (x6 = (i / (2 * 2) * 2 + j / (2 * 2)) * 2) → (x7 = (i / 2 % 2 * 2 + j / 2 % 2) * 2) → (x8 = (i % 2 * 2 + j % 2) * 2) → (FCm 26 Ms M) → (∀ c : Int, 0 ≤ c → c < x9 → M 26 c = linw 2 (fun i => Ms (p + 2) i) 1 2 4 i j c) → (x11 = Ms (p + 2) (x6 + x10) * 1) → (2 - x10) * 21 + (2 - x12) * 5 + 5 < (nn : Int) → nW xs e 45 110 [some (2, 25), none, some (2, (p + 2)), none, none, some (0, x5), some (0, x6), some (0, x7), some (0, x8), some (0, x9), some (0, x10), some (0, x11), some (0, x12), none, none] [] M (nPV fun M1 => Sf 2 ac M0 M1 ∧ (M1 15 10 = g) ∧ MK 256 8 7 56 192 1 2 4 8 16 32 64 128 0 M1 ∧ (FCm 26 Ms M1) ∧ (∀ c : Int, 0 ≤ c → c < 2 * 2 * 2 → M1 26 c = linw 2 (fun i => Ms (p + 2) i) 1 2 4 i j c))) ∧ (∀ (x5 x6 x7 x8 x9 x10 x11 x12 x13 x14 : Int) (M : nM), Sf 2 ac M0 M → (2 ≤ x5 ∧ x5 ≤ 2) → (0 ≤ x6 ∧ x6 ≤ 6) → (0 ≤ x7 ∧ x7 ≤ 6) → (0 ≤ x8 ∧ x8 ≤ 6) → (0 ≤ x9 ∧ x9 ≤ 8) → (0 ≤ x10 ∧ x10 ≤ 1) → (0 ≤ x11 ∧ x11 ≤ 1) → (0 ≤ x12 ∧ x12 ≤ 1) → (0 ≤ x13 ∧ x13 ≤ 3) → (0 ≤ x14 ∧ x14 ≤ 2) → (MK 256 8 7 56 192 1 2 4 8 16 32 64 128 0 M) → (M 15 10 = g) → (x9 = 4 * x10 + 2 * x12 + x14) → (x6 = (i / (2 * 2) * 2 + j / (2 * 2)) * 2) → (x7 = (i / 2 % 2 * 2 + j / 2 % 2) * 2) → (x8 = (i % 2 * 2 + j % 2) * 2) → (FCm 26 Ms M) → (∀ c : Int, 0 ≤ c → c < x9 → M 26 c = linw 2 (fun i => Ms (p + 2) i) 1 2 4 i j c) → (x11 = Ms (p + 2) (x6 + x10) * 1) → (x13 = Ms (p + 2) (x6 + x10) * 1 + Ms (p + 2) (x7 + x12) * 2) → (2 - x10) * 21 + (2 - x12) * 5 + (2 - x14) * 1 + 1 < (nn : Int) → nW xs e 45 137 [some (2, 25), none, some (2, (p + 2)), none, none, some (0, x5), some (0, x6), some (0, x7), some (0, x8), some (0, x9), some (0, x10), some (0, x11), some (0, x12), some (0, x13), some (0, x14)] [] M (nPV fun M1 => Sf 2 ac M0 M1 ∧ (M1 15 10 = g) ∧ MK 256 8 7 56 192 1 2 4 8 16 32 64 128 0 M1 ∧ (FCm 26 Ms M1) ∧ (∀ c : Int, 0 ≤ c → c < 2 * 2 * 2 → M1 26 c = linw 2 (fun i => Ms (p + 2) i) 1 2 4 i j c))) := by
  have hd : (2 : Int) = 2 ∨ (2 : Int) = 3 := by decide
  have hac := hS.2.2.2.2
  have hpb := hp.1
  intro nn
  induction nn with
  | zero => refine ⟨?_, ?_, ?_⟩ <;> (intros; omega)
  | succ nn ih =>
    refine ⟨?_, ?_, ?_⟩
    · intro x5 x6 x7 x8 x9 x10 M hS k5 k6 k7 k8 k9 k10 hK hgg v0 v1 v2 v3 v4 v5 hnn
      refine n_iload c_45_86 rfl ?_
      refine n_iload c_45_88 rfl ?_
      refine n_if2_ge c_45_90 (by omega) (by omega) ?_ ?_
      · intro h1
        exact n_rV c_45_187 rfl ⟨hS, by omega, hK, by exact v4, by exact fun c h0 h1 => v5 c h0 (by omega)⟩
      · intro h2
        refine n_aload_n c_45_93 rfl ?_
        refine n_iload c_45_94 rfl ?_
        refine n_iload c_45_96 rfl ?_
        refine n_iadd c_45_98 rfl ?_
        refine n_ialoadV c_45_99 hp.c0.2.2.n rfl rfl rfl (by omega) (t_actrl hS hp hpl (Or.inr rfl) (by omega) (by omega)) ?_
        intro z3 ez3 f4
        refine n_aload_n c_45_100 rfl ?_
        refine n_getV (bi := 1) c_45_101 sc_25.n rfl rfl rfl hK.w25.1 ?_
        intro z5 ez5 f6
        obtain rfl : z5 = 1 := by omega
        refine n_imul c_45_104 rfl ?_
        refine n_istore (L2 := [some (2, 25), none, some (2, (p + 2)), none, none, some (0, x5), some (0, x6), some (0, x7), some (0, x8), some (0, x9), some (0, x10), some (0, (z3 * 1)), none, none, none]) c_45_105 rfl rfl ?_
        refine n_iconst c_45_107 ?_
        refine n_istore (L2 := [some (2, 25), none, some (2, (p + 2)), none, none, some (0, x5), some (0, x6), some (0, x7), some (0, x8), some (0, x9), some (0, x10), some (0, (z3 * 1)), some (0, 0), none, none]) c_45_108 rfl rfl ?_
        refine n_fg (le_s (le_n (le_s (le_n (le_n (le_s (le_s (le_s (le_s (le_s (le_s (le_s (le_s (le_n (le_n le_0))))))))))))))) ?_
        exact ih.2.1 _ _ _ _ _ _ _ _ M hS (by omega) (by omega) (by omega) (by omega) (by omega) (by omega) (by omega) (by omega) hK (by omega) (by omega) (by exact v1) (by exact v2) (by exact v3) (by exact v4) (by exact v5) (by have u1 := v4 (p + 2) (x6 + x10) (by omega); omega) (by omega)
    · intro x5 x6 x7 x8 x9 x10 x11 x12 M hS k5 k6 k7 k8 k9 k10 k11 k12 hK hgg v0 v1 v2 v3 v4 v5 v6 hnn
      refine n_iload c_45_110 rfl ?_
      refine n_iload c_45_112 rfl ?_
      refine n_if2_ge c_45_114 (by omega) (by omega) ?_ ?_
      · intro h1
        refine n_iinc (L2 := [some (2, 25), none, some (2, (p + 2)), none, none, some (0, x5), some (0, x6), some (0, x7), some (0, x8), some (0, x9), some (0, (x10 + 1)), some (0, x11), some (0, x12), none, none]) c_45_181 rfl rfl rfl ?_
        refine n_goto c_45_184 ?_
        refine n_fg (le_s (le_n (le_s (le_n (le_n (le_s (le_s (le_s (le_s (le_s (le_s (le_n (le_n (le_n (le_n le_0))))))))))))))) ?_
        exact ih.1 _ _ _ _ _ _ M hS (by omega) (by omega) (by omega) (by omega) (by omega) (by omega) hK (by omega) (by omega) (by exact v1) (by exact v2) (by exact v3) (by exact v4) (by exact v5) (by omega)
      · intro h2
        refine n_iload c_45_117 rfl ?_
        refine n_aload_n c_45_119 rfl ?_
        refine n_iload c_45_120 rfl ?_
        refine n_iload c_45_122 rfl ?_
        refine n_iadd c_45_124 rfl ?_
        refine n_ialoadV c_45_125 hp.c0.2.2.n rfl rfl rfl (by omega) (t_actrl hS hp hpl (Or.inr rfl) (by omega) (by omega)) ?_
        intro z3 ez3 f4
        refine n_aload_n c_45_126 rfl ?_
        refine n_getV (bi := 2) c_45_127 sc_25.n rfl rfl rfl hK.w25.2.1 ?_
        intro z5 ez5 f6
        obtain rfl : z5 = 2 := by omega
        refine n_imul c_45_130 rfl ?_
        refine n_iadd c_45_131 rfl ?_
        refine n_istore (L2 := [some (2, 25), none, some (2, (p + 2)), none, none, some (0, x5), some (0, x6), some (0, x7), some (0, x8), some (0, x9), some (0, x10), some (0, x11), some (0, x12), some (0, (x11 + (z3 * 2))), none]) c_45_132 rfl rfl ?_
        refine n_iconst c_45_134 ?_
        refine n_istore (L2 := [some (2, 25), none, some (2, (p + 2)), none, none, some (0, x5), some (0, x6), some (0, x7), some (0, x8), some (0, x9), some (0, x10), some (0, x11), some (0, x12), some (0, (x11 + (z3 * 2))), some (0, 0)]) c_45_135 rfl rfl ?_
        refine n_fg (le_s (le_n (le_s (le_n (le_n (le_s (le_s (le_s (le_s (le_s (le_s (le_s (le_s (le_s (le_s le_0))))))))))))))) ?_
        exact ih.2.2 _ _ _ _ _ _ _ _ _ _ M hS (by omega) (by omega) (by omega) (by omega) (by omega) (by omega) (by omega) (by omega) (by omega) (by omega) hK (by omega) (by omega) (by exact v1) (by exact v2) (by exact v3) (by exact v4) (by exact v5) (by exact v6) (by have u1 := v4 (p + 2) (x7 + x12) (by omega); omega) (by omega)
    · intro x5 x6 x7 x8 x9 x10 x11 x12 x13 x14 M hS k5 k6 k7 k8 k9 k10 k11 k12 k13 k14 hK hgg v0 v1 v2 v3 v4 v5 v6 v7 hnn
      have vf := v4
      refine n_iload c_45_137 rfl ?_
      refine n_iload c_45_139 rfl ?_
      refine n_if2_ge c_45_141 (by omega) (by omega) ?_ ?_
      · intro h1
        refine n_iinc (L2 := [some (2, 25), none, some (2, (p + 2)), none, none, some (0, x5), some (0, x6), some (0, x7), some (0, x8), some (0, x9), some (0, x10), some (0, x11), some (0, (x12 + 1)), some (0, x13), some (0, x14)]) c_45_175 rfl rfl rfl ?_
        refine n_goto c_45_178 ?_
        refine n_fg (le_s (le_n (le_s (le_n (le_n (le_s (le_s (le_s (le_s (le_s (le_s (le_s (le_s (le_n (le_n le_0))))))))))))))) ?_
        exact ih.2.1 _ _ _ _ _ _ _ _ M hS (by omega) (by omega) (by omega) (by omega) (by omega) (by omega) (by omega) (by omega) hK (by omega) (by omega) (by exact v1) (by exact v2) (by exact v3) (by exact v4) (by exact v5) (by exact v6) (by omega)
      · intro h2
        refine n_aload_n c_45_144 rfl ?_
        refine n_getR c_45_145 sc_25.n rfl rfl rfl r_25_0 ?_
        refine n_iload c_45_148 rfl ?_
        refine n_iload c_45_150 rfl ?_
        refine n_aload_n c_45_152 rfl ?_
        refine n_iload c_45_153 rfl ?_
        refine n_iload c_45_155 rfl ?_
        refine n_iadd c_45_157 rfl ?_
        refine n_ialoadV c_45_158 hp.c0.2.2.n rfl rfl rfl (by omega) (t_actrl hS hp hpl (Or.inr rfl) (by omega) (by omega)) ?_
        intro z3 ez3 f4
        refine n_aload_n c_45_159 rfl ?_
        refine n_getV (bi := 3) c_45_160 sc_25.n rfl rfl rfl hK.w25.2.2 ?_
        intro z5 ez5 f6
        obtain rfl : z5 = 4 := by omega
        refine n_imul c_45_163 rfl ?_
        refine n_iadd c_45_164 rfl ?_
        refine n_iastoreV hS c_45_165 sc_26.n rfl (by omega) (w_26 (by omega) (by omega)) ?_
        intro M7 eM7 hS7
        have hK7 := hK.u (by unfold Kok; omega) eM7
        have g7_0 : M7 15 10 = M 15 10 := by rw [eM7]; exact nu_a (by omega)
        refine n_iinc (L2 := [some (2, 25), none, some (2, (p + 2)), none, none, some (0, x5), some (0, x6), some (0, x7), some (0, x8), some (0, (x9 + 1)), some (0, x10), some (0, x11), some (0, x12), some (0, x13), some (0, x14)]) c_45_166 rfl rfl rfl ?_
        refine n_iinc (L2 := [some (2, 25), none, some (2, (p + 2)), none, none, some (0, x5), some (0, x6), some (0, x7), some (0, x8), some (0, (x9 + 1)), some (0, x10), some (0, x11), some (0, x12), some (0, x13), some (0, (x14 + 1))]) c_45_169 rfl rfl rfl ?_
        refine n_goto c_45_172 ?_
        refine n_fg (le_s (le_n (le_s (le_n (le_n (le_s (le_s (le_s (le_s (le_s (le_s (le_s (le_s (le_s (le_s le_0))))))))))))))) ?_
        exact ih.2.2 _ _ _ _ _ _ _ _ _ _ M7 hS7 (by omega) (by omega) (by omega) (by omega) (by omega) (by omega) (by omega) (by omega) (by omega) (by omega) hK7 (by omega) (by omega) (by exact v1) (by exact v2) (by exact v3) (by exact FCm.u v4 eM7) (by exact fun c h0 h1 => by rw [eM7, nu_e]; by_cases e : c = x9; (rw [if_pos ⟨rfl, e⟩, e]; show _ = Ms (p + 2) ((i / (2 * 2) * 2 + j / (2 * 2)) * 2 + x9 / (2 * 2)) * 1 + Ms (p + 2) ((i / 2 % 2 * 2 + j / 2 % 2) * 2 + x9 / 2 % 2) * 2 + Ms (p + 2) ((i % 2 * 2 + j % 2) * 2 + x9 % 2) * 4; rw [show x9 / (2 * 2) = x10 by omega, show x9 / 2 % 2 = x12 by omega, show x9 % 2 = x14 by omega, ← v1, ← v2, ← v3]; have u3 := vf (p + 2) (x8 + x14) (by omega); omega); (rw [if_neg (fun u => e u.2)]; exact v5 c h0 (by omega))) (by exact v6) (by exact v7) (by omega)
set_option maxHeartbeats 4000000 in
theorem fillMX25U_3_2 {xs : List Int32} {e : Nat} {ac : Int} {M0 M : nM} {p i j g : Int} {Ms : nM} (hS : Sf 2 ac M0 M) (hp : ActAt p) (hpl : p < 55 + 3 * ac) (hi : 0 ≤ i ∧ i ≤ 7) (hj : 0 ≤ j ∧ j ≤ 7) (hK : MK 256 8 7 56 192 1 2 4 8 16 32 64 128 0 M) (hg : M 15 10 = g) (hms : M = Ms) : nW xs e 45 0 [some (2, 25), some (2, 4), some (2, (p + 2)), some (0, i), some (0, j), none, none, none, none, none, none, none, none, none, none] [] M (nPV fun M1 => Sf 2 ac M0 M1 ∧ (M1 15 10 = g) ∧ MK 256 8 7 56 192 1 2 4 8 16 32 64 128 0 M1 ∧ (FCm 26 Ms M1) ∧ (∀ c : Int, 0 ≤ c → c < 2 * 2 * 2 → M1 26 c = linw 2 (fun i => Ms (p + 2) i) 1 2 4 i j c)) := by
  have hd : (2 : Int) = 2 ∨ (2 : Int) = 3 := by decide
  have hac := hS.2.2.2.2
  have hpb := hp.1
  refine n_aload_n c_45_0 rfl ?_
  refine n_getV (bi := 1) c_45_1 sc_25.n rfl rfl rfl hK.w25.1 ?_
  intro z1 ez1 f2
  obtain rfl : z1 = 1 := by omega
  refine n_if0_ne c_45_4 (by omega) ?_ ?_
  · intro h3
    refine n_aload_n c_45_8 rfl ?_
    refine n_getV (bi := 0) c_45_9 sc_4.n rfl rfl rfl (t_4_0 hS) ?_
    intro z4 ez4 f5
    obtain rfl : z4 = 2 := by omega
    refine n_istore (L2 := [some (2, 25), some (2, 4), some (2, (p + 2)), some (0, i), some (0, j), some (0, 2), none, none, none, none, none, none, none, none, none]) c_45_12 rfl rfl ?_
    refine n_aload_n c_45_14 rfl ?_
    refine n_getR c_45_15 sc_4.n rfl rfl rfl r_4_2 ?_
    refine n_iload_n c_45_18 rfl ?_
    refine n_ialoadV c_45_19 sc_5.n rfl rfl rfl (by omega) (t_5d hS hd (by omega) (by omega)) ?_
    intro z6 ez6 f7
    have q19 := t_5e hS (i := i) (by omega) (by omega)
    refine n_iload c_45_20 rfl ?_
    refine n_imul c_45_22 rfl ?_
    refine n_aload_n c_45_23 rfl ?_
    refine n_getR c_45_24 sc_4.n rfl rfl rfl r_4_2 ?_
    refine n_iload c_45_27 rfl ?_
    refine n_ialoadV c_45_29 sc_5.n rfl rfl rfl (by omega) (t_5d hS hd (by omega) (by omega)) ?_
    intro z8 ez8 f9
    have q29 := t_5e hS (i := j) (by omega) (by omega)
    refine n_iadd c_45_30 rfl ?_
    refine n_iload c_45_31 rfl ?_
    refine n_imul c_45_33 rfl ?_
    refine n_istore (L2 := [some (2, 25), some (2, 4), some (2, (p + 2)), some (0, i), some (0, j), some (0, 2), some (0, (((z6 * 2) + z8) * 2)), none, none, none, none, none, none, none, none]) c_45_34 rfl rfl ?_
    refine n_aload_n c_45_36 rfl ?_
    refine n_getR c_45_37 sc_4.n rfl rfl rfl r_4_3 ?_
    refine n_iload_n c_45_40 rfl ?_
    refine n_ialoadV c_45_41 sc_6.n rfl rfl rfl (by omega) (t_6d hS hd (by omega) (by omega)) ?_
    intro z10 ez10 f11
    have q41 := t_6e hS (i := i) (by omega) (by omega)
    refine n_iload c_45_42 rfl ?_
    refine n_imul c_45_44 rfl ?_
    refine n_aload_n c_45_45 rfl ?_
    refine n_getR c_45_46 sc_4.n rfl rfl rfl r_4_3 ?_
    refine n_iload c_45_49 rfl ?_
    refine n_ialoadV c_45_51 sc_6.n rfl rfl rfl (by omega) (t_6d hS hd (by omega) (by omega)) ?_
    intro z12 ez12 f13
    have q51 := t_6e hS (i := j) (by omega) (by omega)
    refine n_iadd c_45_52 rfl ?_
    refine n_iload c_45_53 rfl ?_
    refine n_imul c_45_55 rfl ?_
    refine n_istore (L2 := [some (2, 25), some (2, 4), some (2, (p + 2)), some (0, i), some (0, j), some (0, 2), some (0, (((z6 * 2) + z8) * 2)), some (0, (((z10 * 2) + z12) * 2)), none, none, none, none, none, none, none]) c_45_56 rfl rfl ?_
    refine n_aload_n c_45_58 rfl ?_
    refine n_getR c_45_59 sc_4.n rfl rfl rfl r_4_4 ?_
    refine n_iload_n c_45_62 rfl ?_
    refine n_ialoadV c_45_63 sc_7.n rfl rfl rfl (by omega) (t_7d hS hd (by omega) (by omega)) ?_
    intro z14 ez14 f15
    have q63 := t_7e hS (i := i) (by omega) (by omega)
    refine n_iload c_45_64 rfl ?_
    refine n_imul c_45_66 rfl ?_
    refine n_aload_n c_45_67 rfl ?_
    refine n_getR c_45_68 sc_4.n rfl rfl rfl r_4_4 ?_
    refine n_iload c_45_71 rfl ?_
    refine n_ialoadV c_45_73 sc_7.n rfl rfl rfl (by omega) (t_7d hS hd (by omega) (by omega)) ?_
    intro z16 ez16 f17
    have q73 := t_7e hS (i := j) (by omega) (by omega)
    refine n_iadd c_45_74 rfl ?_
    refine n_iload c_45_75 rfl ?_
    refine n_imul c_45_77 rfl ?_
    refine n_istore (L2 := [some (2, 25), some (2, 4), some (2, (p + 2)), some (0, i), some (0, j), some (0, 2), some (0, (((z6 * 2) + z8) * 2)), some (0, (((z10 * 2) + z12) * 2)), some (0, (((z14 * 2) + z16) * 2)), none, none, none, none, none, none]) c_45_78 rfl rfl ?_
    refine n_iconst c_45_80 ?_
    refine n_istore (L2 := [some (2, 25), some (2, 4), some (2, (p + 2)), some (0, i), some (0, j), some (0, 2), some (0, (((z6 * 2) + z8) * 2)), some (0, (((z10 * 2) + z12) * 2)), some (0, (((z14 * 2) + z16) * 2)), some (0, 0), none, none, none, none, none]) c_45_81 rfl rfl ?_
    refine n_iconst c_45_83 ?_
    refine n_istore (L2 := [some (2, 25), some (2, 4), some (2, (p + 2)), some (0, i), some (0, j), some (0, 2), some (0, (((z6 * 2) + z8) * 2)), some (0, (((z10 * 2) + z12) * 2)), some (0, (((z14 * 2) + z16) * 2)), some (0, 0), some (0, 0), none, none, none, none]) c_45_84 rfl rfl ?_
    refine n_fg (le_s (le_n (le_s (le_n (le_n (le_s (le_s (le_s (le_s (le_s (le_s (le_n (le_n (le_n (le_n le_0))))))))))))))) ?_
    exact (fillMX25U_3_2_c hS hp hpl hi hj hK hg hms 178).1 _ _ _ _ _ _ M hS (by omega) (by omega) (by omega) (by omega) (by omega) (by omega) hK (by omega) (by omega) (by omega) (by omega) (by omega) (by subst hms; exact fun _ _ _ => rfl) (by exact fun c h0 h1 => by omega) (by omega)
  · intro h18
    exfalso; omega

set_option maxHeartbeats 4000000 in
theorem fillMX27U_3_2_c {xs : List Int32} {e : Nat} {ac : Int} {M0 M : nM} {p i j g : Int} {Ms : nM} (hS : Sf 2 ac M0 M) (hp : ActAt p) (hpl : p < 55 + 3 * ac) (hi : 0 ≤ i ∧ i ≤ 7) (hj : 0 ≤ j ∧ j ≤ 7) (hK : MK 256 8 7 56 192 1 2 4 8 16 32 64 128 0 M) (hg : M 15 10 = g) (hms : M = Ms) : ∀ nn : Nat, (∀ (x5 x6 x7 x8 x9 x10 : Int) (M : nM), Sf 2 ac M0 M → (2 ≤ x5 ∧ x5 ≤ 2) → (0 ≤ x6 ∧ x6 ≤ 6) → (0 ≤ x7 ∧ x7 ≤ 6) → (0 ≤ x8 ∧ x8 ≤ 6) → (0 ≤ x9 ∧ x9 ≤ 8) → (0 ≤ x10 ∧ x10 ≤ 2) → (MK 256 8 7 56 192 1 2 4 8 16 32 64 128 0 M) → (M 15 10 = g) → (x9 = 4 * x10) → (x6 = (i / (2 * 2) * 2 + j / (2 * 2)) * 2) → (x7 = (i / 2 % 2 * 2 + j / 2 % 2) * 2) → (x8 = (i % 2 * 2 + j % 2) * 2) → (FCm 28 Ms M) → (∀ c : Int, 0 ≤ c → c < x9 → M 28 c = linw 2 (fun i => Ms (p + 2) i) 8 16 32 i j c) → (2 - x10) * 21 + 21 < (nn : Int) → nW xs e 45 86 [some (2, 27), none, some (2, (p + 2)), none, none, some (0, x5), some (0, x6), some (0, x7), some (0, x8), some (0, x9), some (0, x10), none, none, none, none] [] M (nPV fun M1 => Sf 2 ac M0 M1 ∧ (M1 15 10 = g) ∧ MK 256 8 7 56 192 1 2 4 8 16 32 64 128 0 M1 ∧ (FCm 28 Ms M1) ∧ (∀ c : Int, 0 ≤ c → c < 2 * 2 * 2 → M1 28 c = linw 2 (fun i => Ms (p + 2) i) 8 16 32 i j c))) ∧ (∀ (x5 x6 x7 x8 x9 x10 x11 x12 : Int) (M : nM), Sf 2 ac M0 M → (2 ≤ x5 ∧ x5 ≤ 2) → (0 ≤ x6 ∧ x6 ≤ 6) → (0 ≤ x7 ∧ x7 ≤ 6) → (0 ≤ x8 ∧ x8 ≤ 6) → (0 ≤ x9 ∧ x9 ≤ 8) → (0 ≤ x10 ∧ x10 ≤ 1) → (0 ≤ x11 ∧ x11 ≤ 8) → (0 ≤ x12 ∧ x12 ≤ 2) → (MK 256 8 7 56 192 1 2 4 8 16 32 64 128 0 M) → (M 15 10 = g) → (x9 = 4 * x10 + 2 * x12) → (x6 = (i / (2 * 2) * 2 + j / (2 * 2)) * 2) → (x7 = (i / 2 % 2 * 2 + j / 2 % 2) * 2) → (x8 = (i % 2 * 2 + j % 2) * 2) → (FCm 28 Ms M) → (∀ c : Int, 0 ≤ c → c < x9 → M 28 c = linw 2 (fun i => Ms (p + 2) i) 8 16 32 i j c) → (x11 = Ms (p + 2) (x6 + x10) * 8) → (2 - x10) * 21 + (2 - x12) * 5 + 5 < (nn : Int) → nW xs e 45 110 [some (2, 27), none, some (2, (p + 2)), none, none, some (0, x5), some (0, x6), some (0, x7), some (0, x8), some (0, x9), some (0, x10), some (0, x11), some (0, x12), none, none] [] M (nPV fun M1 => Sf 2 ac M0 M1 ∧ (M1 15 10 = g) ∧ MK 256 8 7 56 192 1 2 4 8 16 32 64 128 0 M1 ∧ (FCm 28 Ms M1) ∧ (∀ c : Int, 0 ≤ c → c < 2 * 2 * 2 → M1 28 c = linw 2 (fun i => Ms (p + 2) i) 8 16 32 i j c))) ∧ (∀ (x5 x6 x7 x8 x9 x10 x11 x12 x13 x14 : Int) (M : nM), Sf 2 ac M0 M → (2 ≤ x5 ∧ x5 ≤ 2) → (0 ≤ x6 ∧ x6 ≤ 6) → (0 ≤ x7 ∧ x7 ≤ 6) → (0 ≤ x8 ∧ x8 ≤ 6) → (0 ≤ x9 ∧ x9 ≤ 8) → (0 ≤ x10 ∧ x10 ≤ 1) → (0 ≤ x11 ∧ x11 ≤ 8) → (0 ≤ x12 ∧ x12 ≤ 1) → (0 ≤ x13 ∧ x13 ≤ 24) → (0 ≤ x14 ∧ x14 ≤ 2) → (MK 256 8 7 56 192 1 2 4 8 16 32 64 128 0 M) → (M 15 10 = g) → (x9 = 4 * x10 + 2 * x12 + x14) → (x6 = (i / (2 * 2) * 2 + j / (2 * 2)) * 2) → (x7 = (i / 2 % 2 * 2 + j / 2 % 2) * 2) → (x8 = (i % 2 * 2 + j % 2) * 2) → (FCm 28 Ms M) → (∀ c : Int, 0 ≤ c → c < x9 → M 28 c = linw 2 (fun i => Ms (p + 2) i) 8 16 32 i j c) → (x11 = Ms (p + 2) (x6 + x10) * 8) → (x13 = Ms (p + 2) (x6 + x10) * 8 + Ms (p + 2) (x7 + x12) * 16) → (2 - x10) * 21 + (2 - x12) * 5 + (2 - x14) * 1 + 1 < (nn : Int) → nW xs e 45 137 [some (2, 27), none, some (2, (p + 2)), none, none, some (0, x5), some (0, x6), some (0, x7), some (0, x8), some (0, x9), some (0, x10), some (0, x11), some (0, x12), some (0, x13), some (0, x14)] [] M (nPV fun M1 => Sf 2 ac M0 M1 ∧ (M1 15 10 = g) ∧ MK 256 8 7 56 192 1 2 4 8 16 32 64 128 0 M1 ∧ (FCm 28 Ms M1) ∧ (∀ c : Int, 0 ≤ c → c < 2 * 2 * 2 → M1 28 c = linw 2 (fun i => Ms (p + 2) i) 8 16 32 i j c))) := by
  have hd : (2 : Int) = 2 ∨ (2 : Int) = 3 := by decide
  have hac := hS.2.2.2.2
  have hpb := hp.1
  intro nn
  induction nn with
  | zero => refine ⟨?_, ?_, ?_⟩ <;> (intros; omega)
  | succ nn ih =>
    refine ⟨?_, ?_, ?_⟩
    · intro x5 x6 x7 x8 x9 x10 M hS k5 k6 k7 k8 k9 k10 hK hgg v0 v1 v2 v3 v4 v5 hnn
      refine n_iload c_45_86 rfl ?_
      refine n_iload c_45_88 rfl ?_
      refine n_if2_ge c_45_90 (by omega) (by omega) ?_ ?_
      · intro h1
        exact n_rV c_45_187 rfl ⟨hS, by omega, hK, by exact v4, by exact fun c h0 h1 => v5 c h0 (by omega)⟩
      · intro h2
        refine n_aload_n c_45_93 rfl ?_
        refine n_iload c_45_94 rfl ?_
        refine n_iload c_45_96 rfl ?_
        refine n_iadd c_45_98 rfl ?_
        refine n_ialoadV c_45_99 hp.c0.2.2.n rfl rfl rfl (by omega) (t_actrl hS hp hpl (Or.inr rfl) (by omega) (by omega)) ?_
        intro z3 ez3 f4
        refine n_aload_n c_45_100 rfl ?_
        refine n_getV (bi := 1) c_45_101 sc_27.n rfl rfl rfl hK.w27.1 ?_
        intro z5 ez5 f6
        obtain rfl : z5 = 8 := by omega
        refine n_imul c_45_104 rfl ?_
        refine n_istore (L2 := [some (2, 27), none, some (2, (p + 2)), none, none, some (0, x5), some (0, x6), some (0, x7), some (0, x8), some (0, x9), some (0, x10), some (0, (z3 * 8)), none, none, none]) c_45_105 rfl rfl ?_
        refine n_iconst c_45_107 ?_
        refine n_istore (L2 := [some (2, 27), none, some (2, (p + 2)), none, none, some (0, x5), some (0, x6), some (0, x7), some (0, x8), some (0, x9), some (0, x10), some (0, (z3 * 8)), some (0, 0), none, none]) c_45_108 rfl rfl ?_
        refine n_fg (le_s (le_n (le_s (le_n (le_n (le_s (le_s (le_s (le_s (le_s (le_s (le_s (le_s (le_n (le_n le_0))))))))))))))) ?_
        exact ih.2.1 _ _ _ _ _ _ _ _ M hS (by omega) (by omega) (by omega) (by omega) (by omega) (by omega) (by omega) (by omega) hK (by omega) (by omega) (by exact v1) (by exact v2) (by exact v3) (by exact v4) (by exact v5) (by have u1 := v4 (p + 2) (x6 + x10) (by omega); omega) (by omega)
    · intro x5 x6 x7 x8 x9 x10 x11 x12 M hS k5 k6 k7 k8 k9 k10 k11 k12 hK hgg v0 v1 v2 v3 v4 v5 v6 hnn
      refine n_iload c_45_110 rfl ?_
      refine n_iload c_45_112 rfl ?_
      refine n_if2_ge c_45_114 (by omega) (by omega) ?_ ?_
      · intro h1
        refine n_iinc (L2 := [some (2, 27), none, some (2, (p + 2)), none, none, some (0, x5), some (0, x6), some (0, x7), some (0, x8), some (0, x9), some (0, (x10 + 1)), some (0, x11), some (0, x12), none, none]) c_45_181 rfl rfl rfl ?_
        refine n_goto c_45_184 ?_
        refine n_fg (le_s (le_n (le_s (le_n (le_n (le_s (le_s (le_s (le_s (le_s (le_s (le_n (le_n (le_n (le_n le_0))))))))))))))) ?_
        exact ih.1 _ _ _ _ _ _ M hS (by omega) (by omega) (by omega) (by omega) (by omega) (by omega) hK (by omega) (by omega) (by exact v1) (by exact v2) (by exact v3) (by exact v4) (by exact v5) (by omega)
      · intro h2
        refine n_iload c_45_117 rfl ?_
        refine n_aload_n c_45_119 rfl ?_
        refine n_iload c_45_120 rfl ?_
        refine n_iload c_45_122 rfl ?_
        refine n_iadd c_45_124 rfl ?_
        refine n_ialoadV c_45_125 hp.c0.2.2.n rfl rfl rfl (by omega) (t_actrl hS hp hpl (Or.inr rfl) (by omega) (by omega)) ?_
        intro z3 ez3 f4
        refine n_aload_n c_45_126 rfl ?_
        refine n_getV (bi := 2) c_45_127 sc_27.n rfl rfl rfl hK.w27.2.1 ?_
        intro z5 ez5 f6
        obtain rfl : z5 = 16 := by omega
        refine n_imul c_45_130 rfl ?_
        refine n_iadd c_45_131 rfl ?_
        refine n_istore (L2 := [some (2, 27), none, some (2, (p + 2)), none, none, some (0, x5), some (0, x6), some (0, x7), some (0, x8), some (0, x9), some (0, x10), some (0, x11), some (0, x12), some (0, (x11 + (z3 * 16))), none]) c_45_132 rfl rfl ?_
        refine n_iconst c_45_134 ?_
        refine n_istore (L2 := [some (2, 27), none, some (2, (p + 2)), none, none, some (0, x5), some (0, x6), some (0, x7), some (0, x8), some (0, x9), some (0, x10), some (0, x11), some (0, x12), some (0, (x11 + (z3 * 16))), some (0, 0)]) c_45_135 rfl rfl ?_
        refine n_fg (le_s (le_n (le_s (le_n (le_n (le_s (le_s (le_s (le_s (le_s (le_s (le_s (le_s (le_s (le_s le_0))))))))))))))) ?_
        exact ih.2.2 _ _ _ _ _ _ _ _ _ _ M hS (by omega) (by omega) (by omega) (by omega) (by omega) (by omega) (by omega) (by omega) (by omega) (by omega) hK (by omega) (by omega) (by exact v1) (by exact v2) (by exact v3) (by exact v4) (by exact v5) (by exact v6) (by have u1 := v4 (p + 2) (x7 + x12) (by omega); omega) (by omega)
    · intro x5 x6 x7 x8 x9 x10 x11 x12 x13 x14 M hS k5 k6 k7 k8 k9 k10 k11 k12 k13 k14 hK hgg v0 v1 v2 v3 v4 v5 v6 v7 hnn
      have vf := v4
      refine n_iload c_45_137 rfl ?_
      refine n_iload c_45_139 rfl ?_
      refine n_if2_ge c_45_141 (by omega) (by omega) ?_ ?_
      · intro h1
        refine n_iinc (L2 := [some (2, 27), none, some (2, (p + 2)), none, none, some (0, x5), some (0, x6), some (0, x7), some (0, x8), some (0, x9), some (0, x10), some (0, x11), some (0, (x12 + 1)), some (0, x13), some (0, x14)]) c_45_175 rfl rfl rfl ?_
        refine n_goto c_45_178 ?_
        refine n_fg (le_s (le_n (le_s (le_n (le_n (le_s (le_s (le_s (le_s (le_s (le_s (le_s (le_s (le_n (le_n le_0))))))))))))))) ?_
        exact ih.2.1 _ _ _ _ _ _ _ _ M hS (by omega) (by omega) (by omega) (by omega) (by omega) (by omega) (by omega) (by omega) hK (by omega) (by omega) (by exact v1) (by exact v2) (by exact v3) (by exact v4) (by exact v5) (by exact v6) (by omega)
      · intro h2
        refine n_aload_n c_45_144 rfl ?_
        refine n_getR c_45_145 sc_27.n rfl rfl rfl r_27_0 ?_
        refine n_iload c_45_148 rfl ?_
        refine n_iload c_45_150 rfl ?_
        refine n_aload_n c_45_152 rfl ?_
        refine n_iload c_45_153 rfl ?_
        refine n_iload c_45_155 rfl ?_
        refine n_iadd c_45_157 rfl ?_
        refine n_ialoadV c_45_158 hp.c0.2.2.n rfl rfl rfl (by omega) (t_actrl hS hp hpl (Or.inr rfl) (by omega) (by omega)) ?_
        intro z3 ez3 f4
        refine n_aload_n c_45_159 rfl ?_
        refine n_getV (bi := 3) c_45_160 sc_27.n rfl rfl rfl hK.w27.2.2 ?_
        intro z5 ez5 f6
        obtain rfl : z5 = 32 := by omega
        refine n_imul c_45_163 rfl ?_
        refine n_iadd c_45_164 rfl ?_
        refine n_iastoreV hS c_45_165 sc_28.n rfl (by omega) (w_28 (by omega) (by omega)) ?_
        intro M7 eM7 hS7
        have hK7 := hK.u (by unfold Kok; omega) eM7
        have g7_0 : M7 15 10 = M 15 10 := by rw [eM7]; exact nu_a (by omega)
        refine n_iinc (L2 := [some (2, 27), none, some (2, (p + 2)), none, none, some (0, x5), some (0, x6), some (0, x7), some (0, x8), some (0, (x9 + 1)), some (0, x10), some (0, x11), some (0, x12), some (0, x13), some (0, x14)]) c_45_166 rfl rfl rfl ?_
        refine n_iinc (L2 := [some (2, 27), none, some (2, (p + 2)), none, none, some (0, x5), some (0, x6), some (0, x7), some (0, x8), some (0, (x9 + 1)), some (0, x10), some (0, x11), some (0, x12), some (0, x13), some (0, (x14 + 1))]) c_45_169 rfl rfl rfl ?_
        refine n_goto c_45_172 ?_
        refine n_fg (le_s (le_n (le_s (le_n (le_n (le_s (le_s (le_s (le_s (le_s (le_s (le_s (le_s (le_s (le_s le_0))))))))))))))) ?_
        exact ih.2.2 _ _ _ _ _ _ _ _ _ _ M7 hS7 (by omega) (by omega) (by omega) (by omega) (by omega) (by omega) (by omega) (by omega) (by omega) (by omega) hK7 (by omega) (by omega) (by exact v1) (by exact v2) (by exact v3) (by exact FCm.u v4 eM7) (by exact fun c h0 h1 => by rw [eM7, nu_e]; by_cases e : c = x9; (rw [if_pos ⟨rfl, e⟩, e]; show _ = Ms (p + 2) ((i / (2 * 2) * 2 + j / (2 * 2)) * 2 + x9 / (2 * 2)) * 8 + Ms (p + 2) ((i / 2 % 2 * 2 + j / 2 % 2) * 2 + x9 / 2 % 2) * 16 + Ms (p + 2) ((i % 2 * 2 + j % 2) * 2 + x9 % 2) * 32; rw [show x9 / (2 * 2) = x10 by omega, show x9 / 2 % 2 = x12 by omega, show x9 % 2 = x14 by omega, ← v1, ← v2, ← v3]; have u3 := vf (p + 2) (x8 + x14) (by omega); omega); (rw [if_neg (fun u => e u.2)]; exact v5 c h0 (by omega))) (by exact v6) (by exact v7) (by omega)
set_option maxHeartbeats 4000000 in
theorem fillMX27U_3_2 {xs : List Int32} {e : Nat} {ac : Int} {M0 M : nM} {p i j g : Int} {Ms : nM} (hS : Sf 2 ac M0 M) (hp : ActAt p) (hpl : p < 55 + 3 * ac) (hi : 0 ≤ i ∧ i ≤ 7) (hj : 0 ≤ j ∧ j ≤ 7) (hK : MK 256 8 7 56 192 1 2 4 8 16 32 64 128 0 M) (hg : M 15 10 = g) (hms : M = Ms) : nW xs e 45 0 [some (2, 27), some (2, 4), some (2, (p + 2)), some (0, i), some (0, j), none, none, none, none, none, none, none, none, none, none] [] M (nPV fun M1 => Sf 2 ac M0 M1 ∧ (M1 15 10 = g) ∧ MK 256 8 7 56 192 1 2 4 8 16 32 64 128 0 M1 ∧ (FCm 28 Ms M1) ∧ (∀ c : Int, 0 ≤ c → c < 2 * 2 * 2 → M1 28 c = linw 2 (fun i => Ms (p + 2) i) 8 16 32 i j c)) := by
  have hd : (2 : Int) = 2 ∨ (2 : Int) = 3 := by decide
  have hac := hS.2.2.2.2
  have hpb := hp.1
  refine n_aload_n c_45_0 rfl ?_
  refine n_getV (bi := 1) c_45_1 sc_27.n rfl rfl rfl hK.w27.1 ?_
  intro z1 ez1 f2
  obtain rfl : z1 = 8 := by omega
  refine n_if0_ne c_45_4 (by omega) ?_ ?_
  · intro h3
    refine n_aload_n c_45_8 rfl ?_
    refine n_getV (bi := 0) c_45_9 sc_4.n rfl rfl rfl (t_4_0 hS) ?_
    intro z4 ez4 f5
    obtain rfl : z4 = 2 := by omega
    refine n_istore (L2 := [some (2, 27), some (2, 4), some (2, (p + 2)), some (0, i), some (0, j), some (0, 2), none, none, none, none, none, none, none, none, none]) c_45_12 rfl rfl ?_
    refine n_aload_n c_45_14 rfl ?_
    refine n_getR c_45_15 sc_4.n rfl rfl rfl r_4_2 ?_
    refine n_iload_n c_45_18 rfl ?_
    refine n_ialoadV c_45_19 sc_5.n rfl rfl rfl (by omega) (t_5d hS hd (by omega) (by omega)) ?_
    intro z6 ez6 f7
    have q19 := t_5e hS (i := i) (by omega) (by omega)
    refine n_iload c_45_20 rfl ?_
    refine n_imul c_45_22 rfl ?_
    refine n_aload_n c_45_23 rfl ?_
    refine n_getR c_45_24 sc_4.n rfl rfl rfl r_4_2 ?_
    refine n_iload c_45_27 rfl ?_
    refine n_ialoadV c_45_29 sc_5.n rfl rfl rfl (by omega) (t_5d hS hd (by omega) (by omega)) ?_
    intro z8 ez8 f9
    have q29 := t_5e hS (i := j) (by omega) (by omega)
    refine n_iadd c_45_30 rfl ?_
    refine n_iload c_45_31 rfl ?_
    refine n_imul c_45_33 rfl ?_
    refine n_istore (L2 := [some (2, 27), some (2, 4), some (2, (p + 2)), some (0, i), some (0, j), some (0, 2), some (0, (((z6 * 2) + z8) * 2)), none, none, none, none, none, none, none, none]) c_45_34 rfl rfl ?_
    refine n_aload_n c_45_36 rfl ?_
    refine n_getR c_45_37 sc_4.n rfl rfl rfl r_4_3 ?_
    refine n_iload_n c_45_40 rfl ?_
    refine n_ialoadV c_45_41 sc_6.n rfl rfl rfl (by omega) (t_6d hS hd (by omega) (by omega)) ?_
    intro z10 ez10 f11
    have q41 := t_6e hS (i := i) (by omega) (by omega)
    refine n_iload c_45_42 rfl ?_
    refine n_imul c_45_44 rfl ?_
    refine n_aload_n c_45_45 rfl ?_
    refine n_getR c_45_46 sc_4.n rfl rfl rfl r_4_3 ?_
    refine n_iload c_45_49 rfl ?_
    refine n_ialoadV c_45_51 sc_6.n rfl rfl rfl (by omega) (t_6d hS hd (by omega) (by omega)) ?_
    intro z12 ez12 f13
    have q51 := t_6e hS (i := j) (by omega) (by omega)
    refine n_iadd c_45_52 rfl ?_
    refine n_iload c_45_53 rfl ?_
    refine n_imul c_45_55 rfl ?_
    refine n_istore (L2 := [some (2, 27), some (2, 4), some (2, (p + 2)), some (0, i), some (0, j), some (0, 2), some (0, (((z6 * 2) + z8) * 2)), some (0, (((z10 * 2) + z12) * 2)), none, none, none, none, none, none, none]) c_45_56 rfl rfl ?_
    refine n_aload_n c_45_58 rfl ?_
    refine n_getR c_45_59 sc_4.n rfl rfl rfl r_4_4 ?_
    refine n_iload_n c_45_62 rfl ?_
    refine n_ialoadV c_45_63 sc_7.n rfl rfl rfl (by omega) (t_7d hS hd (by omega) (by omega)) ?_
    intro z14 ez14 f15
    have q63 := t_7e hS (i := i) (by omega) (by omega)
    refine n_iload c_45_64 rfl ?_
    refine n_imul c_45_66 rfl ?_
    refine n_aload_n c_45_67 rfl ?_
    refine n_getR c_45_68 sc_4.n rfl rfl rfl r_4_4 ?_
    refine n_iload c_45_71 rfl ?_
    refine n_ialoadV c_45_73 sc_7.n rfl rfl rfl (by omega) (t_7d hS hd (by omega) (by omega)) ?_
    intro z16 ez16 f17
    have q73 := t_7e hS (i := j) (by omega) (by omega)
    refine n_iadd c_45_74 rfl ?_
    refine n_iload c_45_75 rfl ?_
    refine n_imul c_45_77 rfl ?_
    refine n_istore (L2 := [some (2, 27), some (2, 4), some (2, (p + 2)), some (0, i), some (0, j), some (0, 2), some (0, (((z6 * 2) + z8) * 2)), some (0, (((z10 * 2) + z12) * 2)), some (0, (((z14 * 2) + z16) * 2)), none, none, none, none, none, none]) c_45_78 rfl rfl ?_
    refine n_iconst c_45_80 ?_
    refine n_istore (L2 := [some (2, 27), some (2, 4), some (2, (p + 2)), some (0, i), some (0, j), some (0, 2), some (0, (((z6 * 2) + z8) * 2)), some (0, (((z10 * 2) + z12) * 2)), some (0, (((z14 * 2) + z16) * 2)), some (0, 0), none, none, none, none, none]) c_45_81 rfl rfl ?_
    refine n_iconst c_45_83 ?_
    refine n_istore (L2 := [some (2, 27), some (2, 4), some (2, (p + 2)), some (0, i), some (0, j), some (0, 2), some (0, (((z6 * 2) + z8) * 2)), some (0, (((z10 * 2) + z12) * 2)), some (0, (((z14 * 2) + z16) * 2)), some (0, 0), some (0, 0), none, none, none, none]) c_45_84 rfl rfl ?_
    refine n_fg (le_s (le_n (le_s (le_n (le_n (le_s (le_s (le_s (le_s (le_s (le_s (le_n (le_n (le_n (le_n le_0))))))))))))))) ?_
    exact (fillMX27U_3_2_c hS hp hpl hi hj hK hg hms 178).1 _ _ _ _ _ _ M hS (by omega) (by omega) (by omega) (by omega) (by omega) (by omega) hK (by omega) (by omega) (by omega) (by omega) (by omega) (by subst hms; exact fun _ _ _ => rfl) (by exact fun c h0 h1 => by omega) (by omega)
  · intro h18
    exfalso; omega

set_option maxHeartbeats 4000000 in
theorem fillMX29U_3_2_c {xs : List Int32} {e : Nat} {ac : Int} {M0 M : nM} {p i j g : Int} {Ms : nM} (hS : Sf 2 ac M0 M) (hp : ActAt p) (hpl : p < 55 + 3 * ac) (hi : 0 ≤ i ∧ i ≤ 7) (hj : 0 ≤ j ∧ j ≤ 7) (hK : MK 256 8 7 56 192 1 2 4 8 16 32 64 128 0 M) (hg : M 15 10 = g) (hms : M = Ms) : ∀ nn : Nat, (∀ (x5 x6 x7 x8 x9 x10 : Int) (M : nM), Sf 2 ac M0 M → (2 ≤ x5 ∧ x5 ≤ 2) → (0 ≤ x6 ∧ x6 ≤ 6) → (0 ≤ x7 ∧ x7 ≤ 6) → (0 ≤ x8 ∧ x8 ≤ 6) → (0 ≤ x9 ∧ x9 ≤ 8) → (0 ≤ x10 ∧ x10 ≤ 2) → (MK 256 8 7 56 192 1 2 4 8 16 32 64 128 0 M) → (M 15 10 = g) → (x9 = 4 * x10) → (x6 = (i / (2 * 2) * 2 + j / (2 * 2)) * 2) → (x7 = (i / 2 % 2 * 2 + j / 2 % 2) * 2) → (x8 = (i % 2 * 2 + j % 2) * 2) → (FCm 30 Ms M) → (∀ c : Int, 0 ≤ c → c < x9 → M 30 c = linw 2 (fun i => Ms (p + 2) i) 64 128 0 i j c) → (2 - x10) * 21 + 21 < (nn : Int) → nW xs e 45 86 [some (2, 29), none, some (2, (p + 2)), none, none, some (0, x5), some (0, x6), some (0, x7), some (0, x8), some (0, x9), some (0, x10), none, none, none, none] [] M (nPV fun M1 => Sf 2 ac M0 M1 ∧ (M1 15 10 = g) ∧ MK 256 8 7 56 192 1 2 4 8 16 32 64 128 0 M1 ∧ (FCm 30 Ms M1) ∧ (∀ c : Int, 0 ≤ c → c < 2 * 2 * 2 → M1 30 c = linw 2 (fun i => Ms (p + 2) i) 64 128 0 i j c))) ∧ (∀ (x5 x6 x7 x8 x9 x10 x11 x12 : Int) (M : nM), Sf 2 ac M0 M → (2 ≤ x5 ∧ x5 ≤ 2) → (0 ≤ x6 ∧ x6 ≤ 6) → (0 ≤ x7 ∧ x7 ≤ 6) → (0 ≤ x8 ∧ x8 ≤ 6) → (0 ≤ x9 ∧ x9 ≤ 8) → (0 ≤ x10 ∧ x10 ≤ 1) → (0 ≤ x11 ∧ x11 ≤ 64) → (0 ≤ x12 ∧ x12 ≤ 2) → (MK 256 8 7 56 192 1 2 4 8 16 32 64 128 0 M) → (M 15 10 = g) → (x9 = 4 * x10 + 2 * x12) → (x6 = (i / (2 * 2) * 2 + j / (2 * 2)) * 2) → (x7 = (i / 2 % 2 * 2 + j / 2 % 2) * 2) → (x8 = (i % 2 * 2 + j % 2) * 2) → (FCm 30 Ms M) → (∀ c : Int, 0 ≤ c → c < x9 → M 30 c = linw 2 (fun i => Ms (p + 2) i) 64 128 0 i j c) → (x11 = Ms (p + 2) (x6 + x10) * 64) → (2 - x10) * 21 + (2 - x12) * 5 + 5 < (nn : Int) → nW xs e 45 110 [some (2, 29), none, some (2, (p + 2)), none, none, some (0, x5), some (0, x6), some (0, x7), some (0, x8), some (0, x9), some (0, x10), some (0, x11), some (0, x12), none, none] [] M (nPV fun M1 => Sf 2 ac M0 M1 ∧ (M1 15 10 = g) ∧ MK 256 8 7 56 192 1 2 4 8 16 32 64 128 0 M1 ∧ (FCm 30 Ms M1) ∧ (∀ c : Int, 0 ≤ c → c < 2 * 2 * 2 → M1 30 c = linw 2 (fun i => Ms (p + 2) i) 64 128 0 i j c))) ∧ (∀ (x5 x6 x7 x8 x9 x10 x11 x12 x13 x14 : Int) (M : nM), Sf 2 ac M0 M → (2 ≤ x5 ∧ x5 ≤ 2) → (0 ≤ x6 ∧ x6 ≤ 6) → (0 ≤ x7 ∧ x7 ≤ 6) → (0 ≤ x8 ∧ x8 ≤ 6) → (0 ≤ x9 ∧ x9 ≤ 8) → (0 ≤ x10 ∧ x10 ≤ 1) → (0 ≤ x11 ∧ x11 ≤ 64) → (0 ≤ x12 ∧ x12 ≤ 1) → (0 ≤ x13 ∧ x13 ≤ 192) → (0 ≤ x14 ∧ x14 ≤ 2) → (MK 256 8 7 56 192 1 2 4 8 16 32 64 128 0 M) → (M 15 10 = g) → (x9 = 4 * x10 + 2 * x12 + x14) → (x6 = (i / (2 * 2) * 2 + j / (2 * 2)) * 2) → (x7 = (i / 2 % 2 * 2 + j / 2 % 2) * 2) → (x8 = (i % 2 * 2 + j % 2) * 2) → (FCm 30 Ms M) → (∀ c : Int, 0 ≤ c → c < x9 → M 30 c = linw 2 (fun i => Ms (p + 2) i) 64 128 0 i j c) → (x11 = Ms (p + 2) (x6 + x10) * 64) → (x13 = Ms (p + 2) (x6 + x10) * 64 + Ms (p + 2) (x7 + x12) * 128) → (2 - x10) * 21 + (2 - x12) * 5 + (2 - x14) * 1 + 1 < (nn : Int) → nW xs e 45 137 [some (2, 29), none, some (2, (p + 2)), none, none, some (0, x5), some (0, x6), some (0, x7), some (0, x8), some (0, x9), some (0, x10), some (0, x11), some (0, x12), some (0, x13), some (0, x14)] [] M (nPV fun M1 => Sf 2 ac M0 M1 ∧ (M1 15 10 = g) ∧ MK 256 8 7 56 192 1 2 4 8 16 32 64 128 0 M1 ∧ (FCm 30 Ms M1) ∧ (∀ c : Int, 0 ≤ c → c < 2 * 2 * 2 → M1 30 c = linw 2 (fun i => Ms (p + 2) i) 64 128 0 i j c))) := by
  have hd : (2 : Int) = 2 ∨ (2 : Int) = 3 := by decide
  have hac := hS.2.2.2.2
  have hpb := hp.1
  intro nn
  induction nn with
  | zero => refine ⟨?_, ?_, ?_⟩ <;> (intros; omega)
  | succ nn ih =>
    refine ⟨?_, ?_, ?_⟩
    · intro x5 x6 x7 x8 x9 x10 M hS k5 k6 k7 k8 k9 k10 hK hgg v0 v1 v2 v3 v4 v5 hnn
      refine n_iload c_45_86 rfl ?_
      refine n_iload c_45_88 rfl ?_
      refine n_if2_ge c_45_90 (by omega) (by omega) ?_ ?_
      · intro h1
        exact n_rV c_45_187 rfl ⟨hS, by omega, hK, by exact v4, by exact fun c h0 h1 => v5 c h0 (by omega)⟩
      · intro h2
        refine n_aload_n c_45_93 rfl ?_
        refine n_iload c_45_94 rfl ?_
        refine n_iload c_45_96 rfl ?_
        refine n_iadd c_45_98 rfl ?_
        refine n_ialoadV c_45_99 hp.c0.2.2.n rfl rfl rfl (by omega) (t_actrl hS hp hpl (Or.inr rfl) (by omega) (by omega)) ?_
        intro z3 ez3 f4
        refine n_aload_n c_45_100 rfl ?_
        refine n_getV (bi := 1) c_45_101 sc_29.n rfl rfl rfl hK.w29.1 ?_
        intro z5 ez5 f6
        obtain rfl : z5 = 64 := by omega
        refine n_imul c_45_104 rfl ?_
        refine n_istore (L2 := [some (2, 29), none, some (2, (p + 2)), none, none, some (0, x5), some (0, x6), some (0, x7), some (0, x8), some (0, x9), some (0, x10), some (0, (z3 * 64)), none, none, none]) c_45_105 rfl rfl ?_
        refine n_iconst c_45_107 ?_
        refine n_istore (L2 := [some (2, 29), none, some (2, (p + 2)), none, none, some (0, x5), some (0, x6), some (0, x7), some (0, x8), some (0, x9), some (0, x10), some (0, (z3 * 64)), some (0, 0), none, none]) c_45_108 rfl rfl ?_
        refine n_fg (le_s (le_n (le_s (le_n (le_n (le_s (le_s (le_s (le_s (le_s (le_s (le_s (le_s (le_n (le_n le_0))))))))))))))) ?_
        exact ih.2.1 _ _ _ _ _ _ _ _ M hS (by omega) (by omega) (by omega) (by omega) (by omega) (by omega) (by omega) (by omega) hK (by omega) (by omega) (by exact v1) (by exact v2) (by exact v3) (by exact v4) (by exact v5) (by have u1 := v4 (p + 2) (x6 + x10) (by omega); omega) (by omega)
    · intro x5 x6 x7 x8 x9 x10 x11 x12 M hS k5 k6 k7 k8 k9 k10 k11 k12 hK hgg v0 v1 v2 v3 v4 v5 v6 hnn
      refine n_iload c_45_110 rfl ?_
      refine n_iload c_45_112 rfl ?_
      refine n_if2_ge c_45_114 (by omega) (by omega) ?_ ?_
      · intro h1
        refine n_iinc (L2 := [some (2, 29), none, some (2, (p + 2)), none, none, some (0, x5), some (0, x6), some (0, x7), some (0, x8), some (0, x9), some (0, (x10 + 1)), some (0, x11), some (0, x12), none, none]) c_45_181 rfl rfl rfl ?_
        refine n_goto c_45_184 ?_
        refine n_fg (le_s (le_n (le_s (le_n (le_n (le_s (le_s (le_s (le_s (le_s (le_s (le_n (le_n (le_n (le_n le_0))))))))))))))) ?_
        exact ih.1 _ _ _ _ _ _ M hS (by omega) (by omega) (by omega) (by omega) (by omega) (by omega) hK (by omega) (by omega) (by exact v1) (by exact v2) (by exact v3) (by exact v4) (by exact v5) (by omega)
      · intro h2
        refine n_iload c_45_117 rfl ?_
        refine n_aload_n c_45_119 rfl ?_
        refine n_iload c_45_120 rfl ?_
        refine n_iload c_45_122 rfl ?_
        refine n_iadd c_45_124 rfl ?_
        refine n_ialoadV c_45_125 hp.c0.2.2.n rfl rfl rfl (by omega) (t_actrl hS hp hpl (Or.inr rfl) (by omega) (by omega)) ?_
        intro z3 ez3 f4
        refine n_aload_n c_45_126 rfl ?_
        refine n_getV (bi := 2) c_45_127 sc_29.n rfl rfl rfl hK.w29.2.1 ?_
        intro z5 ez5 f6
        obtain rfl : z5 = 128 := by omega
        refine n_imul c_45_130 rfl ?_
        refine n_iadd c_45_131 rfl ?_
        refine n_istore (L2 := [some (2, 29), none, some (2, (p + 2)), none, none, some (0, x5), some (0, x6), some (0, x7), some (0, x8), some (0, x9), some (0, x10), some (0, x11), some (0, x12), some (0, (x11 + (z3 * 128))), none]) c_45_132 rfl rfl ?_
        refine n_iconst c_45_134 ?_
        refine n_istore (L2 := [some (2, 29), none, some (2, (p + 2)), none, none, some (0, x5), some (0, x6), some (0, x7), some (0, x8), some (0, x9), some (0, x10), some (0, x11), some (0, x12), some (0, (x11 + (z3 * 128))), some (0, 0)]) c_45_135 rfl rfl ?_
        refine n_fg (le_s (le_n (le_s (le_n (le_n (le_s (le_s (le_s (le_s (le_s (le_s (le_s (le_s (le_s (le_s le_0))))))))))))))) ?_
        exact ih.2.2 _ _ _ _ _ _ _ _ _ _ M hS (by omega) (by omega) (by omega) (by omega) (by omega) (by omega) (by omega) (by omega) (by omega) (by omega) hK (by omega) (by omega) (by exact v1) (by exact v2) (by exact v3) (by exact v4) (by exact v5) (by exact v6) (by have u1 := v4 (p + 2) (x7 + x12) (by omega); omega) (by omega)
    · intro x5 x6 x7 x8 x9 x10 x11 x12 x13 x14 M hS k5 k6 k7 k8 k9 k10 k11 k12 k13 k14 hK hgg v0 v1 v2 v3 v4 v5 v6 v7 hnn
      have vf := v4
      refine n_iload c_45_137 rfl ?_
      refine n_iload c_45_139 rfl ?_
      refine n_if2_ge c_45_141 (by omega) (by omega) ?_ ?_
      · intro h1
        refine n_iinc (L2 := [some (2, 29), none, some (2, (p + 2)), none, none, some (0, x5), some (0, x6), some (0, x7), some (0, x8), some (0, x9), some (0, x10), some (0, x11), some (0, (x12 + 1)), some (0, x13), some (0, x14)]) c_45_175 rfl rfl rfl ?_
        refine n_goto c_45_178 ?_
        refine n_fg (le_s (le_n (le_s (le_n (le_n (le_s (le_s (le_s (le_s (le_s (le_s (le_s (le_s (le_n (le_n le_0))))))))))))))) ?_
        exact ih.2.1 _ _ _ _ _ _ _ _ M hS (by omega) (by omega) (by omega) (by omega) (by omega) (by omega) (by omega) (by omega) hK (by omega) (by omega) (by exact v1) (by exact v2) (by exact v3) (by exact v4) (by exact v5) (by exact v6) (by omega)
      · intro h2
        refine n_aload_n c_45_144 rfl ?_
        refine n_getR c_45_145 sc_29.n rfl rfl rfl r_29_0 ?_
        refine n_iload c_45_148 rfl ?_
        refine n_iload c_45_150 rfl ?_
        refine n_aload_n c_45_152 rfl ?_
        refine n_iload c_45_153 rfl ?_
        refine n_iload c_45_155 rfl ?_
        refine n_iadd c_45_157 rfl ?_
        refine n_ialoadV c_45_158 hp.c0.2.2.n rfl rfl rfl (by omega) (t_actrl hS hp hpl (Or.inr rfl) (by omega) (by omega)) ?_
        intro z3 ez3 f4
        refine n_aload_n c_45_159 rfl ?_
        refine n_getV (bi := 3) c_45_160 sc_29.n rfl rfl rfl hK.w29.2.2 ?_
        intro z5 ez5 f6
        obtain rfl : z5 = 0 := by omega
        refine n_imul c_45_163 rfl ?_
        refine n_iadd c_45_164 rfl ?_
        refine n_iastoreV hS c_45_165 sc_30.n rfl (by omega) (w_30 (by omega) (by omega)) ?_
        intro M7 eM7 hS7
        have hK7 := hK.u (by unfold Kok; omega) eM7
        have g7_0 : M7 15 10 = M 15 10 := by rw [eM7]; exact nu_a (by omega)
        refine n_iinc (L2 := [some (2, 29), none, some (2, (p + 2)), none, none, some (0, x5), some (0, x6), some (0, x7), some (0, x8), some (0, (x9 + 1)), some (0, x10), some (0, x11), some (0, x12), some (0, x13), some (0, x14)]) c_45_166 rfl rfl rfl ?_
        refine n_iinc (L2 := [some (2, 29), none, some (2, (p + 2)), none, none, some (0, x5), some (0, x6), some (0, x7), some (0, x8), some (0, (x9 + 1)), some (0, x10), some (0, x11), some (0, x12), some (0, x13), some (0, (x14 + 1))]) c_45_169 rfl rfl rfl ?_
        refine n_goto c_45_172 ?_
        refine n_fg (le_s (le_n (le_s (le_n (le_n (le_s (le_s (le_s (le_s (le_s (le_s (le_s (le_s (le_s (le_s le_0))))))))))))))) ?_
        exact ih.2.2 _ _ _ _ _ _ _ _ _ _ M7 hS7 (by omega) (by omega) (by omega) (by omega) (by omega) (by omega) (by omega) (by omega) (by omega) (by omega) hK7 (by omega) (by omega) (by exact v1) (by exact v2) (by exact v3) (by exact FCm.u v4 eM7) (by exact fun c h0 h1 => by rw [eM7, nu_e]; by_cases e : c = x9; (rw [if_pos ⟨rfl, e⟩, e]; show _ = Ms (p + 2) ((i / (2 * 2) * 2 + j / (2 * 2)) * 2 + x9 / (2 * 2)) * 64 + Ms (p + 2) ((i / 2 % 2 * 2 + j / 2 % 2) * 2 + x9 / 2 % 2) * 128 + Ms (p + 2) ((i % 2 * 2 + j % 2) * 2 + x9 % 2) * 0; rw [show x9 / (2 * 2) = x10 by omega, show x9 / 2 % 2 = x12 by omega, show x9 % 2 = x14 by omega, ← v1, ← v2, ← v3]; have u3 := vf (p + 2) (x8 + x14) (by omega); omega); (rw [if_neg (fun u => e u.2)]; exact v5 c h0 (by omega))) (by exact v6) (by exact v7) (by omega)
set_option maxHeartbeats 4000000 in
theorem fillMX29U_3_2 {xs : List Int32} {e : Nat} {ac : Int} {M0 M : nM} {p i j g : Int} {Ms : nM} (hS : Sf 2 ac M0 M) (hp : ActAt p) (hpl : p < 55 + 3 * ac) (hi : 0 ≤ i ∧ i ≤ 7) (hj : 0 ≤ j ∧ j ≤ 7) (hK : MK 256 8 7 56 192 1 2 4 8 16 32 64 128 0 M) (hg : M 15 10 = g) (hms : M = Ms) : nW xs e 45 0 [some (2, 29), some (2, 4), some (2, (p + 2)), some (0, i), some (0, j), none, none, none, none, none, none, none, none, none, none] [] M (nPV fun M1 => Sf 2 ac M0 M1 ∧ (M1 15 10 = g) ∧ MK 256 8 7 56 192 1 2 4 8 16 32 64 128 0 M1 ∧ (FCm 30 Ms M1) ∧ (∀ c : Int, 0 ≤ c → c < 2 * 2 * 2 → M1 30 c = linw 2 (fun i => Ms (p + 2) i) 64 128 0 i j c)) := by
  have hd : (2 : Int) = 2 ∨ (2 : Int) = 3 := by decide
  have hac := hS.2.2.2.2
  have hpb := hp.1
  refine n_aload_n c_45_0 rfl ?_
  refine n_getV (bi := 1) c_45_1 sc_29.n rfl rfl rfl hK.w29.1 ?_
  intro z1 ez1 f2
  obtain rfl : z1 = 64 := by omega
  refine n_if0_ne c_45_4 (by omega) ?_ ?_
  · intro h3
    refine n_aload_n c_45_8 rfl ?_
    refine n_getV (bi := 0) c_45_9 sc_4.n rfl rfl rfl (t_4_0 hS) ?_
    intro z4 ez4 f5
    obtain rfl : z4 = 2 := by omega
    refine n_istore (L2 := [some (2, 29), some (2, 4), some (2, (p + 2)), some (0, i), some (0, j), some (0, 2), none, none, none, none, none, none, none, none, none]) c_45_12 rfl rfl ?_
    refine n_aload_n c_45_14 rfl ?_
    refine n_getR c_45_15 sc_4.n rfl rfl rfl r_4_2 ?_
    refine n_iload_n c_45_18 rfl ?_
    refine n_ialoadV c_45_19 sc_5.n rfl rfl rfl (by omega) (t_5d hS hd (by omega) (by omega)) ?_
    intro z6 ez6 f7
    have q19 := t_5e hS (i := i) (by omega) (by omega)
    refine n_iload c_45_20 rfl ?_
    refine n_imul c_45_22 rfl ?_
    refine n_aload_n c_45_23 rfl ?_
    refine n_getR c_45_24 sc_4.n rfl rfl rfl r_4_2 ?_
    refine n_iload c_45_27 rfl ?_
    refine n_ialoadV c_45_29 sc_5.n rfl rfl rfl (by omega) (t_5d hS hd (by omega) (by omega)) ?_
    intro z8 ez8 f9
    have q29 := t_5e hS (i := j) (by omega) (by omega)
    refine n_iadd c_45_30 rfl ?_
    refine n_iload c_45_31 rfl ?_
    refine n_imul c_45_33 rfl ?_
    refine n_istore (L2 := [some (2, 29), some (2, 4), some (2, (p + 2)), some (0, i), some (0, j), some (0, 2), some (0, (((z6 * 2) + z8) * 2)), none, none, none, none, none, none, none, none]) c_45_34 rfl rfl ?_
    refine n_aload_n c_45_36 rfl ?_
    refine n_getR c_45_37 sc_4.n rfl rfl rfl r_4_3 ?_
    refine n_iload_n c_45_40 rfl ?_
    refine n_ialoadV c_45_41 sc_6.n rfl rfl rfl (by omega) (t_6d hS hd (by omega) (by omega)) ?_
    intro z10 ez10 f11
    have q41 := t_6e hS (i := i) (by omega) (by omega)
    refine n_iload c_45_42 rfl ?_
    refine n_imul c_45_44 rfl ?_
    refine n_aload_n c_45_45 rfl ?_
    refine n_getR c_45_46 sc_4.n rfl rfl rfl r_4_3 ?_
    refine n_iload c_45_49 rfl ?_
    refine n_ialoadV c_45_51 sc_6.n rfl rfl rfl (by omega) (t_6d hS hd (by omega) (by omega)) ?_
    intro z12 ez12 f13
    have q51 := t_6e hS (i := j) (by omega) (by omega)
    refine n_iadd c_45_52 rfl ?_
    refine n_iload c_45_53 rfl ?_
    refine n_imul c_45_55 rfl ?_
    refine n_istore (L2 := [some (2, 29), some (2, 4), some (2, (p + 2)), some (0, i), some (0, j), some (0, 2), some (0, (((z6 * 2) + z8) * 2)), some (0, (((z10 * 2) + z12) * 2)), none, none, none, none, none, none, none]) c_45_56 rfl rfl ?_
    refine n_aload_n c_45_58 rfl ?_
    refine n_getR c_45_59 sc_4.n rfl rfl rfl r_4_4 ?_
    refine n_iload_n c_45_62 rfl ?_
    refine n_ialoadV c_45_63 sc_7.n rfl rfl rfl (by omega) (t_7d hS hd (by omega) (by omega)) ?_
    intro z14 ez14 f15
    have q63 := t_7e hS (i := i) (by omega) (by omega)
    refine n_iload c_45_64 rfl ?_
    refine n_imul c_45_66 rfl ?_
    refine n_aload_n c_45_67 rfl ?_
    refine n_getR c_45_68 sc_4.n rfl rfl rfl r_4_4 ?_
    refine n_iload c_45_71 rfl ?_
    refine n_ialoadV c_45_73 sc_7.n rfl rfl rfl (by omega) (t_7d hS hd (by omega) (by omega)) ?_
    intro z16 ez16 f17
    have q73 := t_7e hS (i := j) (by omega) (by omega)
    refine n_iadd c_45_74 rfl ?_
    refine n_iload c_45_75 rfl ?_
    refine n_imul c_45_77 rfl ?_
    refine n_istore (L2 := [some (2, 29), some (2, 4), some (2, (p + 2)), some (0, i), some (0, j), some (0, 2), some (0, (((z6 * 2) + z8) * 2)), some (0, (((z10 * 2) + z12) * 2)), some (0, (((z14 * 2) + z16) * 2)), none, none, none, none, none, none]) c_45_78 rfl rfl ?_
    refine n_iconst c_45_80 ?_
    refine n_istore (L2 := [some (2, 29), some (2, 4), some (2, (p + 2)), some (0, i), some (0, j), some (0, 2), some (0, (((z6 * 2) + z8) * 2)), some (0, (((z10 * 2) + z12) * 2)), some (0, (((z14 * 2) + z16) * 2)), some (0, 0), none, none, none, none, none]) c_45_81 rfl rfl ?_
    refine n_iconst c_45_83 ?_
    refine n_istore (L2 := [some (2, 29), some (2, 4), some (2, (p + 2)), some (0, i), some (0, j), some (0, 2), some (0, (((z6 * 2) + z8) * 2)), some (0, (((z10 * 2) + z12) * 2)), some (0, (((z14 * 2) + z16) * 2)), some (0, 0), some (0, 0), none, none, none, none]) c_45_84 rfl rfl ?_
    refine n_fg (le_s (le_n (le_s (le_n (le_n (le_s (le_s (le_s (le_s (le_s (le_s (le_n (le_n (le_n (le_n le_0))))))))))))))) ?_
    exact (fillMX29U_3_2_c hS hp hpl hi hj hK hg hms 178).1 _ _ _ _ _ _ M hS (by omega) (by omega) (by omega) (by omega) (by omega) (by omega) hK (by omega) (by omega) (by omega) (by omega) (by omega) (by subst hms; exact fun _ _ _ => rfl) (by exact fun c h0 h1 => by omega) (by omega)
  · intro h18
    exfalso; omega

set_option maxHeartbeats 4000000 in
theorem sweepXT_3_2_c {xs : List Int32} {e : Nat} {ac : Int} {M : nM} {p x y f t s : Int} {Ms : nM} {Mt : nM} {L : Int} (hS : Sf 2 ac M M) (hp : ActAt p) (hpl : p < 55 + 3 * ac) (hx : 0 ≤ x ∧ x ≤ 256) (hy : 0 ≤ y ∧ y ≤ 256) (hf : 0 ≤ f ∧ f ≤ 256) (ht : -1 ≤ t ∧ t ≤ 256) (hs : 1 ≤ s ∧ s ≤ 2000001) (hK : MK 256 8 7 56 192 1 2 4 8 16 32 64 128 0 M) (hmt : M = Mt) (hIt : MI 2 8 3 ac Ms Mt) (hfm : FM Ms Mt) (hxg : x < Mt 15 10) (hyg : y < Mt 15 10) (htg : t < Mt 15 10) (hcl : ∀ X Y Z : Int, Clo 2 8 3 ac (Tm Ms) X → Clo 2 8 3 ac (Tm Ms) Y → Clo 2 8 3 ac (Tm Ms) Z → Clo 2 8 3 ac (Tm Ms) (mcm 2 8 (fun i => Ms (p + 1) i) X Y Z)) (hVS : VS 2 8 3 ac Ms Mt) (hCE : CEI 2 8 3 ac Ms Mt) (hLz : ∀ z : Int, f ≤ z → z ≤ t → Mt 21 z ≤ L ∧ L < s + Mt 21 z) (hso : ∀ z q : Int, f ≤ z → z ≤ q → q ≤ t → Mt 21 z ≤ Mt 21 q) (hvl : ∀ z : Int, f ≤ z → z ≤ t → VAL 2 8 3 ac (Tm Ms) (Pm Ms) (mcm 2 8 (fun i => Ms (p + 1) i) (Mt 20 x) (Mt 20 y) (Mt 20 z)) (kap (s + Mt 21 z))) : ∀ nn : Nat, (∀ (x7 : Int) (M : nM), Sf 2 ac M M → (0 ≤ t ∧ t ≤ 256) → (0 ≤ x7 ∧ x7 ≤ 257) → (MK 256 8 7 56 192 1 2 4 8 16 32 64 128 0 M) → (MI 2 8 3 ac Ms M) → (GR Mt M) → (LN 2 (fun i => Ms (p + 1) i) 1 2 4 8 16 32 64 128 0 (Mt 20 x) (Mt 20 y) M) → (FBm Mt M) → (SWD 2 8 (fun i => Ms (p + 1) i) Mt M (fun a b c => a = x ∧ b = y ∧ f ≤ c ∧ c < x7)) → (VS 2 8 3 ac Ms M) → (SL L Mt M) → (SWS 2 8 (fun i => Ms (p + 1) i) x y f x7 s Mt M) → (f ≤ x7) → (257 - x7) * 1 + 1 < (nn : Int) → nW xs (e + 2) 55 111 [some (2, 15), none, none, none, none, some (0, t), some (0, s), some (0, x7), none, none, none] [] M (nPV fun M1 => Sf 2 ac M1 M1 ∧ MK 256 8 7 56 192 1 2 4 8 16 32 64 128 0 M1 ∧ (MI 2 8 3 ac Ms M1) ∧ (GR Mt M1) ∧ (SWD 2 8 (fun i => Ms (p + 1) i) Mt M1 (fun a b c => a = x ∧ b = y ∧ f ≤ c ∧ c ≤ t)) ∧ (FBm Mt M1) ∧ (VS 2 8 3 ac Ms M1) ∧ (SL L Mt M1) ∧ (SWS 2 8 (fun i => Ms (p + 1) i) x y f (t + 1) s Mt M1))) := by
  have hd : (2 : Int) = 2 ∨ (2 : Int) = 3 := by decide
  have hac := hS.2.2.2.2
  have hI : MI 2 8 3 ac Ms M := by rw [hmt]; exact hIt
  have hm10 : M 15 10 = Mt 15 10 := by rw [hmt]
  have hpb := hp.1
  have hpc := hp.2.1
  have hVSm : VS 2 8 3 ac Ms M := by rw [hmt]; exact hVS
  intro nn
  induction nn with
  | zero => intros; omega
  | succ nn ih =>
    intro x7 M hS k5 k7 hK v0 v1 v2 v3 v4 v5 v6 v7 v8 hnn
    have hgr := v1.1
    refine n_iload c_55_111 rfl ?_
    refine n_iload c_55_113 rfl ?_
    refine n_if2_gt c_55_115 (by omega) (by omega) ?_ ?_
    · intro h1
      exact n_rV c_55_248 rfl ⟨hS, hK, by exact v0, by exact v1, by exact v4.im (fun a b c u => ⟨u.1, u.2.1, u.2.2.1, by have u4 := u.2.2.2; omega⟩), by exact v3, by exact v5, by exact v6, by exact fun z z0 z1 => v7 z z0 (by omega)⟩
    · intro h2
      refine n_iload c_55_118 rfl ?_
      refine n_aload_n c_55_120 rfl ?_
      refine n_getR c_55_121 sc_15.n rfl rfl rfl r_15_2 ?_
      refine n_iload c_55_124 rfl ?_
      refine n_ialoadV c_55_126 sc_21.n rfl rfl rfl (by omega) (v0.s (by omega) (by omega)) ?_
      intro z3 ez3 f4
      refine n_iadd c_55_127 rfl ?_
      refine n_istore (L2 := [some (2, 15), none, none, none, none, some (0, t), some (0, s), some (0, x7), some (0, (s + z3)), none, none]) c_55_128 rfl rfl ?_
      have tz : z3 = Mt 21 x7 := by rw [ez3]; exact (v6.1 x7 (by omega) (by omega)).2.1 (hLz x7 (by omega) (by omega)).1
      have tl := (hLz x7 (by omega) (by omega)).2
      have tv := hvl x7 (by omega) (by omega)
      refine n_iload c_55_130 rfl ?_
      refine n_aload_n c_55_132 rfl ?_
      refine n_getV (bi := 11) c_55_133 sc_15.n rfl rfl rfl (t_15_11 hS) ?_
      intro z5 ez5 f6
      refine n_if2_lt c_55_136 (by omega) (by omega) ?_ ?_
      · intro h7
        refine n_aload_n c_55_140 rfl ?_
        refine n_getR c_55_141 sc_15.n rfl rfl rfl r_15_6 ?_
        refine n_getR c_55_144 sc_25.n rfl rfl rfl r_25_0 ?_
        refine n_aload_n c_55_147 rfl ?_
        refine n_getR c_55_148 sc_15.n rfl rfl rfl r_15_3 ?_
        refine n_iload c_55_151 rfl ?_
        refine n_ialoadV c_55_153 sc_22.n rfl rfl rfl (by omega) (hK.r22 hS (by omega) (by omega)) ?_
        intro z8 ez8 f9
        refine n_ialoadV c_55_154 sc_26.n rfl rfl rfl (by omega) (hK.l26 (by omega) (by omega)) ?_
        intro z10 ez10 f11
        refine n_aload_n c_55_155 rfl ?_
        refine n_getR c_55_156 sc_15.n rfl rfl rfl r_15_7 ?_
        refine n_getR c_55_159 sc_27.n rfl rfl rfl r_27_0 ?_
        refine n_aload_n c_55_162 rfl ?_
        refine n_getR c_55_163 sc_15.n rfl rfl rfl r_15_4 ?_
        refine n_iload c_55_166 rfl ?_
        refine n_ialoadV c_55_168 sc_23.n rfl rfl rfl (by omega) (hK.r23 hS (by omega) (by omega)) ?_
        intro z12 ez12 f13
        refine n_ialoadV c_55_169 sc_28.n rfl rfl rfl (by omega) (hK.l28 (by omega) (by omega)) ?_
        intro z14 ez14 f15
        refine n_iadd c_55_170 rfl ?_
        refine n_aload_n c_55_171 rfl ?_
        refine n_getR c_55_172 sc_15.n rfl rfl rfl r_15_8 ?_
        refine n_getR c_55_175 sc_29.n rfl rfl rfl r_29_0 ?_
        refine n_aload_n c_55_178 rfl ?_
        refine n_getR c_55_179 sc_15.n rfl rfl rfl r_15_5 ?_
        refine n_iload c_55_182 rfl ?_
        refine n_ialoadV c_55_184 sc_24.n rfl rfl rfl (by omega) (hK.r24 hS (by omega) (by omega)) ?_
        intro z16 ez16 f17
        refine n_ialoadV c_55_185 sc_30.n rfl rfl rfl (by omega) (hK.l30 (by omega) (by omega)) ?_
        intro z18 ez18 f19
        refine n_iadd c_55_186 rfl ?_
        have cd : ((z10 + z14) + z18) = mcm 2 8 (fun i => Ms (p + 1) i) (Mt 20 x) (Mt 20 y) (Mt 20 x7) := by
          obtain ⟨-, ⟨a1, a2, a3⟩, -⟩ := v0.1 x7 (by omega) (by omega)
          rw [ez10, ez8, a1, ez14, ez12, a2, ez18, ez16, a3, v2.code (R := 8) hd (by omega) (by decide +kernel) (M 20 x7), v1.2 x7 (by omega) (by omega)]
        refine n_istore (L2 := [some (2, 15), none, none, none, none, some (0, t), some (0, s), some (0, x7), some (0, (s + z3)), some (0, ((z10 + z14) + z18)), none]) c_55_187 rfl rfl ?_
        refine n_aload_n c_55_189 rfl ?_
        refine n_getP c_55_190 ?_
        intro p20 ep20
        refine n_iload c_55_193 rfl ?_
        refine n_ialoadQ hS hK c_55_195 ep20 (by omega) ?_
        intro z21 ez21 hz21
        refine n_iconst c_55_196 ?_
        refine n_isub c_55_197 rfl ?_
        refine n_istore (L2 := [some (2, 15), none, none, none, none, some (0, t), some (0, s), some (0, x7), some (0, (s + z3)), some (0, ((z10 + z14) + z18)), some (0, (z21 - 1))]) c_55_198 rfl rfl ?_
        refine n_iload c_55_200 rfl ?_
        refine n_if0_ge c_55_202 (by omega) ?_ ?_
        · intro h22
          refine n_iload c_55_221 rfl ?_
          have pl := v0.2 ((z10 + z14) + z18) (by omega) (by rw [← ez21]; omega)
          rw [← ez21] at pl
          have hs0 : HAS M ((z10 + z14) + z18) := (v0.has (by omega)).mpr (by rw [← ez21]; omega)
          rw [cd] at hs0
          have pm : M 21 (z21 - 1) ≤ 1000000 := (v0.s (by omega) (by omega)).2
          refine n_aload_n c_55_223 rfl ?_
          refine n_getR c_55_224 sc_15.n rfl rfl rfl r_15_2 ?_
          refine n_iload c_55_227 rfl ?_
          refine n_ialoadV c_55_229 sc_21.n rfl rfl rfl (by omega) (v0.s (by omega) (by omega)) ?_
          intro z23 ez23 f24
          refine n_if2_ge c_55_230 (by omega) (by omega) ?_ ?_
          · intro h25
            refine n_iinc (L2 := [some (2, 15), none, none, none, none, some (0, t), some (0, s), some (0, (x7 + 1)), some (0, (s + z3)), some (0, ((z10 + z14) + z18)), some (0, (z21 - 1))]) c_55_242 rfl rfl rfl ?_
            refine n_goto c_55_245 ?_
            refine n_fg (le_s (le_n (le_n (le_n (le_n (le_s (le_s (le_s (le_n (le_n (le_n le_0))))))))))) ?_
            exact ih _ M hS (by omega) (by omega) hK (by exact v0) (by exact v1) (by exact v2) (by exact v3) (by exact v4.st GR.refl (Or.inr hs0)) (by exact v5) (by exact v6) (by exact v7.st (L := L) GR.refl SL.refl (Or.inr ⟨z21 - 1, by omega, by omega, by rw [pl.2.2, cd], kap_ge (by omega) pm⟩)) (by omega) (by omega)
          · intro h26
            refine n_aload_n c_55_233 rfl ?_
            refine n_getR c_55_234 sc_15.n rfl rfl rfl r_15_2 ?_
            refine n_iload c_55_237 rfl ?_
            refine n_iload c_55_239 rfl ?_
            refine n_iastoreM hS c_55_241 sc_21.n rfl (by omega) (m_21 (by omega) (by omega)) ?_
            intro M27 eM27 hS27
            have hK27 := hK.u (by unfold Kok; omega) eM27
            have g27_0 : M27 15 10 = M 15 10 := by rw [eM27]; exact nu_a (by omega)
            have g27_1 : M27 15 11 = M 15 11 := by rw [eM27]; exact nu_a (by omega)
            obtain ⟨sz1, sz2, sz3⟩ := v0.siz (by omega) hS.p9 eM27
            have kt : kap (s + Mt 21 x7) = (s + z3) := by unfold kap; rw [if_pos (by omega)]; omega
            have sz4 : SL L M M27 := SL.siz (by omega) (by omega) (by rw [← kt]; exact kap_mo (by omega)) (by omega) eM27
            have sz5 : VS 2 8 3 ac Ms M27 := v5.siz (by rw [pl.2.2, cd, ← kt]; exact tv) eM27
            have sz6 : HSs M27 (mcm 2 8 (fun i => Ms (p + 1) i) (Mt 20 x) (Mt 20 y) (Mt 20 x7)) (kap (s + Mt 21 x7)) := ⟨z21 - 1, by omega, by rw [eM27, nu_a (by omega)]; omega, by rw [eM27, nu_a (by omega), pl.2.2, cd], by rw [eM27, nu_s, kt]; exact Int.le_refl _⟩
            refine n_iinc (L2 := [some (2, 15), none, none, none, none, some (0, t), some (0, s), some (0, (x7 + 1)), some (0, (s + z3)), some (0, ((z10 + z14) + z18)), some (0, (z21 - 1))]) c_55_242 rfl rfl rfl ?_
            refine n_goto c_55_245 ?_
            refine n_fg (le_s (le_n (le_n (le_n (le_n (le_s (le_s (le_s (le_n (le_n (le_n le_0))))))))))) ?_
            exact ih _ M27 hS27 (by omega) (by omega) hK27 (by exact sz1) (by exact v1.tr sz2) (by exact v2.of sz3) (by exact v3.tr sz3.fb) (by exact v4.st sz2 (Or.inr (hs0.gr sz2))) (by exact sz5) (by exact v6.tr sz4 v1) (by exact v7.st sz2 sz4 (Or.inr sz6)) (by omega) (by omega)
        · intro h28
          refine n_aload_n c_55_205 rfl ?_
          refine n_iload c_55_206 rfl ?_
          refine n_iload c_55_208 rfl ?_
          refine n_ldc (n := 1000000) c_55_210 rfl ?_
          refine n_s2I c_55_212 rfl rfl rfl rfl (imin_2 (x := (s + z3)) (y := 1000000) hS (by omega) (by omega)) ?_
          intro z29 M30 hP31
          obtain ⟨eM, f31, f31p0⟩ := hP31
          subst eM
          have kz : z29 = kap (s + Mt 21 x7) := by have y := f31p0; unfold kap; split <;> omega
          refine n_v2V c_55_215 rfl sc_15.n rfl rfl rfl rfl (addX_3_2 (c := ((z10 + z14) + z18)) (s := z29) (Ms := Ms) hS (by omega) (by omega) hK (by exact v0) (by rw [← ez21]; omega) (by rw [cd]; exact hcl _ _ _ (by rw [← v1.2 x (by omega) (by omega)]; exact (v0.1 x (by omega) (by omega)).1) (by rw [← v1.2 y (by omega) (by omega)]; exact (v0.1 y (by omega) (by omega)).1) (by rw [← v1.2 x7 (by omega) (by omega)]; exact (v0.1 x7 (by omega) (by omega)).1))) ?_
          intro  M32 hP33
          obtain ⟨hS32, f33K, f33p0, f33p1, f33p2, f33p3, f33p4⟩ := hP33
          refine n_goto c_55_218 ?_
          refine n_iinc (L2 := [some (2, 15), none, none, none, none, some (0, t), some (0, s), some (0, (x7 + 1)), some (0, (s + z3)), some (0, ((z10 + z14) + z18)), some (0, (z21 - 1))]) c_55_242 rfl rfl rfl ?_
          refine n_goto c_55_245 ?_
          refine n_fg (le_s (le_n (le_n (le_n (le_n (le_s (le_s (le_s (le_n (le_n (le_n le_0))))))))))) ?_
          exact ih _ M32 hS32 (by omega) (by omega) f33K (by exact f33p0) (by exact v1.tr f33p1) (by exact v2.of f33p3) (by exact v3.tr f33p3.fb) (by exact v4.st f33p1 (by rw [← cd]; exact f33p2.has (by omega) f33p1)) (by exact f33p4.vs v5 (by rw [cd, kz]; exact tv)) (by exact v6.tr (f33p4.sl (by rw [kz]; exact kap_mo (by omega))) v1) (by exact v7.st (L := L) f33p1 (f33p4.sl (by rw [kz]; exact kap_mo (by omega))) (by have y := f33p4.hs (by omega); rw [cd, kz] at y; exact y)) (by omega) (by omega)
      · intro h34
        exact n_rV c_55_139 rfl ⟨hS, hK, by exact v0, by exact v1, by exact fun q => by exfalso; have y := v3.2.2; omega, by exact v3, by exact v5, by exact v6, by exact SWS.ce v7 (hCE.gr v1 v6 v3.2.2) v5 (by have y := v3.2.2; omega) (by have y3 := (hVS x7 (by omega) (by omega)).r; omega) (fun q q0 q1 => hso x7 q (by omega) q0 (by omega)) (fun q q0 q1 => (hvl q (by omega) (by omega)).clo)⟩
set_option maxHeartbeats 4000000 in
theorem sweepXT_3_2 {xs : List Int32} {e : Nat} {ac : Int} {M : nM} {p x y f t s : Int} {Ms : nM} {Mt : nM} {L : Int} (hS : Sf 2 ac M M) (hp : ActAt p) (hpl : p < 55 + 3 * ac) (hx : 0 ≤ x ∧ x ≤ 256) (hy : 0 ≤ y ∧ y ≤ 256) (hf : 0 ≤ f ∧ f ≤ 256) (ht : -1 ≤ t ∧ t ≤ 256) (hs : 1 ≤ s ∧ s ≤ 2000001) (hK : MK 256 8 7 56 192 1 2 4 8 16 32 64 128 0 M) (hmt : M = Mt) (hIt : MI 2 8 3 ac Ms Mt) (hfm : FM Ms Mt) (hxg : x < Mt 15 10) (hyg : y < Mt 15 10) (htg : t < Mt 15 10) (hcl : ∀ X Y Z : Int, Clo 2 8 3 ac (Tm Ms) X → Clo 2 8 3 ac (Tm Ms) Y → Clo 2 8 3 ac (Tm Ms) Z → Clo 2 8 3 ac (Tm Ms) (mcm 2 8 (fun i => Ms (p + 1) i) X Y Z)) (hVS : VS 2 8 3 ac Ms Mt) (hCE : CEI 2 8 3 ac Ms Mt) (hLz : ∀ z : Int, f ≤ z → z ≤ t → Mt 21 z ≤ L ∧ L < s + Mt 21 z) (hso : ∀ z q : Int, f ≤ z → z ≤ q → q ≤ t → Mt 21 z ≤ Mt 21 q) (hvl : ∀ z : Int, f ≤ z → z ≤ t → VAL 2 8 3 ac (Tm Ms) (Pm Ms) (mcm 2 8 (fun i => Ms (p + 1) i) (Mt 20 x) (Mt 20 y) (Mt 20 z)) (kap (s + Mt 21 z))) : nW xs (e + 2) 55 0 [some (2, 15), some (2, (p + 1)), some (0, x), some (0, y), some (0, f), some (0, t), some (0, s), none, none, none, none] [] M (nPV fun M1 => Sf 2 ac M1 M1 ∧ MK 256 8 7 56 192 1 2 4 8 16 32 64 128 0 M1 ∧ (MI 2 8 3 ac Ms M1) ∧ (GR Mt M1) ∧ (SWD 2 8 (fun i => Ms (p + 1) i) Mt M1 (fun a b c => a = x ∧ b = y ∧ f ≤ c ∧ c ≤ t)) ∧ (FBm Mt M1) ∧ (VS 2 8 3 ac Ms M1) ∧ (SL L Mt M1) ∧ (SWS 2 8 (fun i => Ms (p + 1) i) x y f (t + 1) s Mt M1)) := by
  have hd : (2 : Int) = 2 ∨ (2 : Int) = 3 := by decide
  have hac := hS.2.2.2.2
  have hI : MI 2 8 3 ac Ms M := by rw [hmt]; exact hIt
  have hm10 : M 15 10 = Mt 15 10 := by rw [hmt]
  have hpb := hp.1
  have hpc := hp.2.1
  have hVSm : VS 2 8 3 ac Ms M := by rw [hmt]; exact hVS
  refine n_iload c_55_0 rfl ?_
  refine n_iload c_55_2 rfl ?_
  refine n_if2_gt c_55_4 (by omega) (by omega) ?_ ?_
  · intro h1
    exact n_rV c_55_34 rfl ⟨hS, hK, by exact hI, by rw [hmt]; exact GR.refl, by exact fun q => by first | exact Or.inr (fun a b c u => by have u3 := u.2.2; omega) | exact Or.inl (by omega) | (exfalso; have y : M 15 11 = Mt 15 11 := (by rw [hmt]); omega), by rw [hmt]; exact FBm.refl, by exact hVSm, by rw [hmt]; exact SL.refl, by first | exact (fun z z0 z1 => by omega) | exact (fun z z0 z1 => Or.inl (by omega)) | (have y : M 15 11 = Mt 15 11 := (by rw [hmt]); have y2 : M 21 f = Mt 21 f := (by rw [hmt]); exact SWS.ce (n := 3) (ac := ac) (Ms := Ms) (z := f) (fun z z0 z1 => by omega) (by rw [hmt]; exact hCE) hVSm (by omega) (by have y3 := (hVS f (by omega) (by omega)).r; omega) (fun q q0 q1 => hso f q (by omega) q0 (by omega)) (fun q q0 q1 => (hvl q (by omega) (by omega)).clo))⟩
  · intro h2
    refine n_aload_n c_55_7 rfl ?_
    refine n_getV (bi := 10) c_55_8 sc_15.n rfl rfl rfl (t_15_10 hS) ?_
    intro z3 ez3 f4
    refine n_sipush c_55_11 rfl ?_
    refine n_if2_gt c_55_14 (by omega) (by omega) ?_ ?_
    · intro h5
      exact n_rV c_55_34 rfl ⟨hS, hK, by exact hI, by rw [hmt]; exact GR.refl, by exact fun q => by first | exact Or.inr (fun a b c u => by have u3 := u.2.2; omega) | exact Or.inl (by omega) | (exfalso; have y : M 15 11 = Mt 15 11 := (by rw [hmt]); omega), by rw [hmt]; exact FBm.refl, by exact hVSm, by rw [hmt]; exact SL.refl, by first | exact (fun z z0 z1 => by omega) | exact (fun z z0 z1 => Or.inl (by omega)) | (have y : M 15 11 = Mt 15 11 := (by rw [hmt]); have y2 : M 21 f = Mt 21 f := (by rw [hmt]); exact SWS.ce (n := 3) (ac := ac) (Ms := Ms) (z := f) (fun z z0 z1 => by omega) (by rw [hmt]; exact hCE) hVSm (by omega) (by have y3 := (hVS f (by omega) (by omega)).r; omega) (fun q q0 q1 => hso f q (by omega) q0 (by omega)) (fun q q0 q1 => (hvl q (by omega) (by omega)).clo))⟩
    · intro h6
      refine n_iload c_55_17 rfl ?_
      refine n_aload_n c_55_19 rfl ?_
      refine n_getR c_55_20 sc_15.n rfl rfl rfl r_15_2 ?_
      refine n_iload c_55_23 rfl ?_
      refine n_ialoadV c_55_25 sc_21.n rfl rfl rfl (by omega) (hI.s (by omega) (by omega)) ?_
      intro z7 ez7 f8
      refine n_iadd c_55_26 rfl ?_
      refine n_aload_n c_55_27 rfl ?_
      refine n_getV (bi := 11) c_55_28 sc_15.n rfl rfl rfl (t_15_11 hS) ?_
      intro z9 ez9 f10
      refine n_if2_lt c_55_31 (by omega) (by omega) ?_ ?_
      · intro h11
        refine n_aload_n c_55_35 rfl ?_
        refine n_getR c_55_36 sc_15.n rfl rfl rfl r_15_6 ?_
        refine n_aload_n c_55_39 rfl ?_
        refine n_getB c_55_40 hK.b ?_
        refine n_aload_n c_55_43 rfl ?_
        refine n_aload_n c_55_44 rfl ?_
        refine n_getR c_55_45 sc_15.n rfl rfl rfl r_15_3 ?_
        refine n_iload_n c_55_48 rfl ?_
        refine n_ialoadV c_55_49 sc_22.n rfl rfl rfl (by omega) (hK.r22 hS (by omega) (by omega)) ?_
        intro z12 ez12 f13
        refine n_aload_n c_55_50 rfl ?_
        refine n_getR c_55_51 sc_15.n rfl rfl rfl r_15_3 ?_
        refine n_iload_n c_55_54 rfl ?_
        refine n_ialoadV c_55_55 sc_22.n rfl rfl rfl (by omega) (hK.r22 hS (by omega) (by omega)) ?_
        intro z14 ez14 f15
        refine n_v4V c_55_56 rfl sc_25.n rfl rfl rfl rfl (fillMX25T_3_2 (p := p) (i := z12) (j := z14) (g := (M 15 10)) (Ms := M) hS hp hpl (by omega) (by omega) hK rfl (by rfl)) ?_
        intro  M16 hP17
        obtain ⟨hS16, f17g0, f17K, f17p0, f17p1⟩ := hP17
        have hS16c := hS16.2.2.2.1.1
        have hS16 := hS16.refl
        refine n_aload_n c_55_59 rfl ?_
        refine n_getR c_55_60 sc_15.n rfl rfl rfl r_15_7 ?_
        refine n_aload_n c_55_63 rfl ?_
        refine n_getB c_55_64 f17K.b ?_
        refine n_aload_n c_55_67 rfl ?_
        refine n_aload_n c_55_68 rfl ?_
        refine n_getR c_55_69 sc_15.n rfl rfl rfl r_15_4 ?_
        refine n_iload_n c_55_72 rfl ?_
        refine n_ialoadV c_55_73 sc_23.n rfl rfl rfl (by omega) (f17K.r23 hS16 (by omega) (by omega)) ?_
        intro z18 ez18 f19
        refine n_aload_n c_55_74 rfl ?_
        refine n_getR c_55_75 sc_15.n rfl rfl rfl r_15_4 ?_
        refine n_iload_n c_55_78 rfl ?_
        refine n_ialoadV c_55_79 sc_23.n rfl rfl rfl (by omega) (f17K.r23 hS16 (by omega) (by omega)) ?_
        intro z20 ez20 f21
        refine n_v4V c_55_80 rfl sc_27.n rfl rfl rfl rfl (fillMX27T_3_2 (p := p) (i := z18) (j := z20) (g := (M16 15 10)) (Ms := M16) hS16 hp hpl (by omega) (by omega) f17K rfl (by rfl)) ?_
        intro  M22 hP23
        obtain ⟨hS22, f23g0, f23K, f23p0, f23p1⟩ := hP23
        have hS22c := hS22.2.2.2.1.1
        have hS22 := hS22.refl
        refine n_aload_n c_55_83 rfl ?_
        refine n_getR c_55_84 sc_15.n rfl rfl rfl r_15_8 ?_
        refine n_aload_n c_55_87 rfl ?_
        refine n_getB c_55_88 f23K.b ?_
        refine n_aload_n c_55_91 rfl ?_
        refine n_aload_n c_55_92 rfl ?_
        refine n_getR c_55_93 sc_15.n rfl rfl rfl r_15_5 ?_
        refine n_iload_n c_55_96 rfl ?_
        refine n_ialoadV c_55_97 sc_24.n rfl rfl rfl (by omega) (f23K.r24 hS22 (by omega) (by omega)) ?_
        intro z24 ez24 f25
        refine n_aload_n c_55_98 rfl ?_
        refine n_getR c_55_99 sc_15.n rfl rfl rfl r_15_5 ?_
        refine n_iload_n c_55_102 rfl ?_
        refine n_ialoadV c_55_103 sc_24.n rfl rfl rfl (by omega) (f23K.r24 hS22 (by omega) (by omega)) ?_
        intro z26 ez26 f27
        refine n_v4V c_55_104 rfl sc_29.n rfl rfl rfl rfl (fillMX29T_3_2 (p := p) (i := z24) (j := z26) (g := (M22 15 10)) (Ms := M22) hS22 hp hpl (by omega) (by omega) f23K rfl (by rfl)) ?_
        intro  M28 hP29
        obtain ⟨hS28, f29g0, f29K, f29p0, f29p1⟩ := hP29
        have hS28c := hS28.2.2.2.1.1
        have hS28 := hS28.refl
        have hP := hS.p9
        have vsc : VS 2 8 3 ac Ms M28 := VS.of hVSm (by rw [f29p0 15 10 (by omega), f23p0 15 10 (by omega), f17p0 15 10 (by omega)]) (fun a i q => by rw [f29p0 a i (by omega), f23p0 a i (by omega), f17p0 a i (by omega)])
        have slc : SL L M M28 := SL.of (by rw [f29p0 15 10 (by omega), f23p0 15 10 (by omega), f17p0 15 10 (by omega)]) (fun i => by rw [f29p0 21 i (by omega), f23p0 21 i (by omega), f17p0 21 i (by omega)])
        obtain ⟨ln, hIc, grc, fbc⟩ := LN.mk (q := p + 1) (x := x) (y := y) hd hI hP (by omega) (by omega) (by omega) (by rw [hmt]; exact hfm) f17p0 f17p1 ez12 ez14 f23p0 f23p1 ez18 ez20 f29p0 f29p1 ez24 ez26
        refine n_iload c_55_107 rfl ?_
        refine n_istore (L2 := [some (2, 15), some (2, (p + 1)), some (0, x), some (0, y), some (0, f), some (0, t), some (0, s), some (0, f), none, none, none]) c_55_109 rfl rfl ?_
        refine n_fg (le_s (le_n (le_n (le_n (le_n (le_s (le_s (le_s (le_n (le_n (le_n le_0))))))))))) ?_
        exact (sweepXT_3_2_c hS hp hpl hx hy hf ht hs hK hmt hIt hfm hxg hyg htg hcl hVS hCE hLz hso hvl 528) _ M28 hS28 (by omega) (by omega) f29K (by exact hIc) (by rw [← hmt]; exact grc) (by rw [← hmt]; exact ln) (by rw [← hmt]; exact fbc) (by exact fun _ => Or.inr (fun a b c q => by have q3 := q.2.2; omega)) (by exact vsc) (by rw [← hmt]; exact slc) (by exact fun z z0 z1 => by omega) (by omega) (by omega)
      · intro h30
        exact n_rV c_55_34 rfl ⟨hS, hK, by exact hI, by rw [hmt]; exact GR.refl, by exact fun q => by first | exact Or.inr (fun a b c u => by have u3 := u.2.2; omega) | exact Or.inl (by omega) | (exfalso; have y : M 15 11 = Mt 15 11 := (by rw [hmt]); omega), by rw [hmt]; exact FBm.refl, by exact hVSm, by rw [hmt]; exact SL.refl, by first | exact (fun z z0 z1 => by omega) | exact (fun z z0 z1 => Or.inl (by omega)) | (have y : M 15 11 = Mt 15 11 := (by rw [hmt]); have y2 : M 21 f = Mt 21 f := (by rw [hmt]); exact SWS.ce (n := 3) (ac := ac) (Ms := Ms) (z := f) (fun z z0 z1 => by omega) (by rw [hmt]; exact hCE) hVSm (by omega) (by have y3 := (hVS f (by omega) (by omega)).r; omega) (fun q q0 q1 => hso f q (by omega) q0 (by omega)) (fun q q0 q1 => (hvl q (by omega) (by omega)).clo))⟩

set_option maxHeartbeats 4000000 in
theorem sweepXU_3_2_c {xs : List Int32} {e : Nat} {ac : Int} {M : nM} {p x y f t s : Int} {Ms : nM} {Mt : nM} {L : Int} (hS : Sf 2 ac M M) (hp : ActAt p) (hpl : p < 55 + 3 * ac) (hx : 0 ≤ x ∧ x ≤ 256) (hy : 0 ≤ y ∧ y ≤ 256) (hf : 0 ≤ f ∧ f ≤ 256) (ht : -1 ≤ t ∧ t ≤ 256) (hs : 1 ≤ s ∧ s ≤ 2000001) (hK : MK 256 8 7 56 192 1 2 4 8 16 32 64 128 0 M) (hmt : M = Mt) (hIt : MI 2 8 3 ac Ms Mt) (hfm : FM Ms Mt) (hxg : x < Mt 15 10) (hyg : y < Mt 15 10) (htg : t < Mt 15 10) (hcl : ∀ X Y Z : Int, Clo 2 8 3 ac (Tm Ms) X → Clo 2 8 3 ac (Tm Ms) Y → Clo 2 8 3 ac (Tm Ms) Z → Clo 2 8 3 ac (Tm Ms) (mcm 2 8 (fun i => Ms (p + 2) i) X Y Z)) (hVS : VS 2 8 3 ac Ms Mt) (hCE : CEI 2 8 3 ac Ms Mt) (hLz : ∀ z : Int, f ≤ z → z ≤ t → Mt 21 z ≤ L ∧ L < s + Mt 21 z) (hso : ∀ z q : Int, f ≤ z → z ≤ q → q ≤ t → Mt 21 z ≤ Mt 21 q) (hvl : ∀ z : Int, f ≤ z → z ≤ t → VAL 2 8 3 ac (Tm Ms) (Pm Ms) (mcm 2 8 (fun i => Ms (p + 2) i) (Mt 20 x) (Mt 20 y) (Mt 20 z)) (kap (s + Mt 21 z))) : ∀ nn : Nat, (∀ (x7 : Int) (M : nM), Sf 2 ac M M → (0 ≤ t ∧ t ≤ 256) → (0 ≤ x7 ∧ x7 ≤ 257) → (MK 256 8 7 56 192 1 2 4 8 16 32 64 128 0 M) → (MI 2 8 3 ac Ms M) → (GR Mt M) → (LN 2 (fun i => Ms (p + 2) i) 1 2 4 8 16 32 64 128 0 (Mt 20 x) (Mt 20 y) M) → (FBm Mt M) → (SWD 2 8 (fun i => Ms (p + 2) i) Mt M (fun a b c => a = x ∧ b = y ∧ f ≤ c ∧ c < x7)) → (VS 2 8 3 ac Ms M) → (SL L Mt M) → (SWS 2 8 (fun i => Ms (p + 2) i) x y f x7 s Mt M) → (f ≤ x7) → (257 - x7) * 1 + 1 < (nn : Int) → nW xs (e + 2) 55 111 [some (2, 15), none, none, none, none, some (0, t), some (0, s), some (0, x7), none, none, none] [] M (nPV fun M1 => Sf 2 ac M1 M1 ∧ MK 256 8 7 56 192 1 2 4 8 16 32 64 128 0 M1 ∧ (MI 2 8 3 ac Ms M1) ∧ (GR Mt M1) ∧ (SWD 2 8 (fun i => Ms (p + 2) i) Mt M1 (fun a b c => a = x ∧ b = y ∧ f ≤ c ∧ c ≤ t)) ∧ (FBm Mt M1) ∧ (VS 2 8 3 ac Ms M1) ∧ (SL L Mt M1) ∧ (SWS 2 8 (fun i => Ms (p + 2) i) x y f (t + 1) s Mt M1))) := by
  have hd : (2 : Int) = 2 ∨ (2 : Int) = 3 := by decide
  have hac := hS.2.2.2.2
  have hI : MI 2 8 3 ac Ms M := by rw [hmt]; exact hIt
  have hm10 : M 15 10 = Mt 15 10 := by rw [hmt]
  have hpb := hp.1
  have hpc := hp.2.1
  have hVSm : VS 2 8 3 ac Ms M := by rw [hmt]; exact hVS
  intro nn
  induction nn with
  | zero => intros; omega
  | succ nn ih =>
    intro x7 M hS k5 k7 hK v0 v1 v2 v3 v4 v5 v6 v7 v8 hnn
    have hgr := v1.1
    refine n_iload c_55_111 rfl ?_
    refine n_iload c_55_113 rfl ?_
    refine n_if2_gt c_55_115 (by omega) (by omega) ?_ ?_
    · intro h1
      exact n_rV c_55_248 rfl ⟨hS, hK, by exact v0, by exact v1, by exact v4.im (fun a b c u => ⟨u.1, u.2.1, u.2.2.1, by have u4 := u.2.2.2; omega⟩), by exact v3, by exact v5, by exact v6, by exact fun z z0 z1 => v7 z z0 (by omega)⟩
    · intro h2
      refine n_iload c_55_118 rfl ?_
      refine n_aload_n c_55_120 rfl ?_
      refine n_getR c_55_121 sc_15.n rfl rfl rfl r_15_2 ?_
      refine n_iload c_55_124 rfl ?_
      refine n_ialoadV c_55_126 sc_21.n rfl rfl rfl (by omega) (v0.s (by omega) (by omega)) ?_
      intro z3 ez3 f4
      refine n_iadd c_55_127 rfl ?_
      refine n_istore (L2 := [some (2, 15), none, none, none, none, some (0, t), some (0, s), some (0, x7), some (0, (s + z3)), none, none]) c_55_128 rfl rfl ?_
      have tz : z3 = Mt 21 x7 := by rw [ez3]; exact (v6.1 x7 (by omega) (by omega)).2.1 (hLz x7 (by omega) (by omega)).1
      have tl := (hLz x7 (by omega) (by omega)).2
      have tv := hvl x7 (by omega) (by omega)
      refine n_iload c_55_130 rfl ?_
      refine n_aload_n c_55_132 rfl ?_
      refine n_getV (bi := 11) c_55_133 sc_15.n rfl rfl rfl (t_15_11 hS) ?_
      intro z5 ez5 f6
      refine n_if2_lt c_55_136 (by omega) (by omega) ?_ ?_
      · intro h7
        refine n_aload_n c_55_140 rfl ?_
        refine n_getR c_55_141 sc_15.n rfl rfl rfl r_15_6 ?_
        refine n_getR c_55_144 sc_25.n rfl rfl rfl r_25_0 ?_
        refine n_aload_n c_55_147 rfl ?_
        refine n_getR c_55_148 sc_15.n rfl rfl rfl r_15_3 ?_
        refine n_iload c_55_151 rfl ?_
        refine n_ialoadV c_55_153 sc_22.n rfl rfl rfl (by omega) (hK.r22 hS (by omega) (by omega)) ?_
        intro z8 ez8 f9
        refine n_ialoadV c_55_154 sc_26.n rfl rfl rfl (by omega) (hK.l26 (by omega) (by omega)) ?_
        intro z10 ez10 f11
        refine n_aload_n c_55_155 rfl ?_
        refine n_getR c_55_156 sc_15.n rfl rfl rfl r_15_7 ?_
        refine n_getR c_55_159 sc_27.n rfl rfl rfl r_27_0 ?_
        refine n_aload_n c_55_162 rfl ?_
        refine n_getR c_55_163 sc_15.n rfl rfl rfl r_15_4 ?_
        refine n_iload c_55_166 rfl ?_
        refine n_ialoadV c_55_168 sc_23.n rfl rfl rfl (by omega) (hK.r23 hS (by omega) (by omega)) ?_
        intro z12 ez12 f13
        refine n_ialoadV c_55_169 sc_28.n rfl rfl rfl (by omega) (hK.l28 (by omega) (by omega)) ?_
        intro z14 ez14 f15
        refine n_iadd c_55_170 rfl ?_
        refine n_aload_n c_55_171 rfl ?_
        refine n_getR c_55_172 sc_15.n rfl rfl rfl r_15_8 ?_
        refine n_getR c_55_175 sc_29.n rfl rfl rfl r_29_0 ?_
        refine n_aload_n c_55_178 rfl ?_
        refine n_getR c_55_179 sc_15.n rfl rfl rfl r_15_5 ?_
        refine n_iload c_55_182 rfl ?_
        refine n_ialoadV c_55_184 sc_24.n rfl rfl rfl (by omega) (hK.r24 hS (by omega) (by omega)) ?_
        intro z16 ez16 f17
        refine n_ialoadV c_55_185 sc_30.n rfl rfl rfl (by omega) (hK.l30 (by omega) (by omega)) ?_
        intro z18 ez18 f19
        refine n_iadd c_55_186 rfl ?_
        have cd : ((z10 + z14) + z18) = mcm 2 8 (fun i => Ms (p + 2) i) (Mt 20 x) (Mt 20 y) (Mt 20 x7) := by
          obtain ⟨-, ⟨a1, a2, a3⟩, -⟩ := v0.1 x7 (by omega) (by omega)
          rw [ez10, ez8, a1, ez14, ez12, a2, ez18, ez16, a3, v2.code (R := 8) hd (by omega) (by decide +kernel) (M 20 x7), v1.2 x7 (by omega) (by omega)]
        refine n_istore (L2 := [some (2, 15), none, none, none, none, some (0, t), some (0, s), some (0, x7), some (0, (s + z3)), some (0, ((z10 + z14) + z18)), none]) c_55_187 rfl rfl ?_
        refine n_aload_n c_55_189 rfl ?_
        refine n_getP c_55_190 ?_
        intro p20 ep20
        refine n_iload c_55_193 rfl ?_
        refine n_ialoadQ hS hK c_55_195 ep20 (by omega) ?_
        intro z21 ez21 hz21
        refine n_iconst c_55_196 ?_
        refine n_isub c_55_197 rfl ?_
        refine n_istore (L2 := [some (2, 15), none, none, none, none, some (0, t), some (0, s), some (0, x7), some (0, (s + z3)), some (0, ((z10 + z14) + z18)), some (0, (z21 - 1))]) c_55_198 rfl rfl ?_
        refine n_iload c_55_200 rfl ?_
        refine n_if0_ge c_55_202 (by omega) ?_ ?_
        · intro h22
          refine n_iload c_55_221 rfl ?_
          have pl := v0.2 ((z10 + z14) + z18) (by omega) (by rw [← ez21]; omega)
          rw [← ez21] at pl
          have hs0 : HAS M ((z10 + z14) + z18) := (v0.has (by omega)).mpr (by rw [← ez21]; omega)
          rw [cd] at hs0
          have pm : M 21 (z21 - 1) ≤ 1000000 := (v0.s (by omega) (by omega)).2
          refine n_aload_n c_55_223 rfl ?_
          refine n_getR c_55_224 sc_15.n rfl rfl rfl r_15_2 ?_
          refine n_iload c_55_227 rfl ?_
          refine n_ialoadV c_55_229 sc_21.n rfl rfl rfl (by omega) (v0.s (by omega) (by omega)) ?_
          intro z23 ez23 f24
          refine n_if2_ge c_55_230 (by omega) (by omega) ?_ ?_
          · intro h25
            refine n_iinc (L2 := [some (2, 15), none, none, none, none, some (0, t), some (0, s), some (0, (x7 + 1)), some (0, (s + z3)), some (0, ((z10 + z14) + z18)), some (0, (z21 - 1))]) c_55_242 rfl rfl rfl ?_
            refine n_goto c_55_245 ?_
            refine n_fg (le_s (le_n (le_n (le_n (le_n (le_s (le_s (le_s (le_n (le_n (le_n le_0))))))))))) ?_
            exact ih _ M hS (by omega) (by omega) hK (by exact v0) (by exact v1) (by exact v2) (by exact v3) (by exact v4.st GR.refl (Or.inr hs0)) (by exact v5) (by exact v6) (by exact v7.st (L := L) GR.refl SL.refl (Or.inr ⟨z21 - 1, by omega, by omega, by rw [pl.2.2, cd], kap_ge (by omega) pm⟩)) (by omega) (by omega)
          · intro h26
            refine n_aload_n c_55_233 rfl ?_
            refine n_getR c_55_234 sc_15.n rfl rfl rfl r_15_2 ?_
            refine n_iload c_55_237 rfl ?_
            refine n_iload c_55_239 rfl ?_
            refine n_iastoreM hS c_55_241 sc_21.n rfl (by omega) (m_21 (by omega) (by omega)) ?_
            intro M27 eM27 hS27
            have hK27 := hK.u (by unfold Kok; omega) eM27
            have g27_0 : M27 15 10 = M 15 10 := by rw [eM27]; exact nu_a (by omega)
            have g27_1 : M27 15 11 = M 15 11 := by rw [eM27]; exact nu_a (by omega)
            obtain ⟨sz1, sz2, sz3⟩ := v0.siz (by omega) hS.p9 eM27
            have kt : kap (s + Mt 21 x7) = (s + z3) := by unfold kap; rw [if_pos (by omega)]; omega
            have sz4 : SL L M M27 := SL.siz (by omega) (by omega) (by rw [← kt]; exact kap_mo (by omega)) (by omega) eM27
            have sz5 : VS 2 8 3 ac Ms M27 := v5.siz (by rw [pl.2.2, cd, ← kt]; exact tv) eM27
            have sz6 : HSs M27 (mcm 2 8 (fun i => Ms (p + 2) i) (Mt 20 x) (Mt 20 y) (Mt 20 x7)) (kap (s + Mt 21 x7)) := ⟨z21 - 1, by omega, by rw [eM27, nu_a (by omega)]; omega, by rw [eM27, nu_a (by omega), pl.2.2, cd], by rw [eM27, nu_s, kt]; exact Int.le_refl _⟩
            refine n_iinc (L2 := [some (2, 15), none, none, none, none, some (0, t), some (0, s), some (0, (x7 + 1)), some (0, (s + z3)), some (0, ((z10 + z14) + z18)), some (0, (z21 - 1))]) c_55_242 rfl rfl rfl ?_
            refine n_goto c_55_245 ?_
            refine n_fg (le_s (le_n (le_n (le_n (le_n (le_s (le_s (le_s (le_n (le_n (le_n le_0))))))))))) ?_
            exact ih _ M27 hS27 (by omega) (by omega) hK27 (by exact sz1) (by exact v1.tr sz2) (by exact v2.of sz3) (by exact v3.tr sz3.fb) (by exact v4.st sz2 (Or.inr (hs0.gr sz2))) (by exact sz5) (by exact v6.tr sz4 v1) (by exact v7.st sz2 sz4 (Or.inr sz6)) (by omega) (by omega)
        · intro h28
          refine n_aload_n c_55_205 rfl ?_
          refine n_iload c_55_206 rfl ?_
          refine n_iload c_55_208 rfl ?_
          refine n_ldc (n := 1000000) c_55_210 rfl ?_
          refine n_s2I c_55_212 rfl rfl rfl rfl (imin_2 (x := (s + z3)) (y := 1000000) hS (by omega) (by omega)) ?_
          intro z29 M30 hP31
          obtain ⟨eM, f31, f31p0⟩ := hP31
          subst eM
          have kz : z29 = kap (s + Mt 21 x7) := by have y := f31p0; unfold kap; split <;> omega
          refine n_v2V c_55_215 rfl sc_15.n rfl rfl rfl rfl (addX_3_2 (c := ((z10 + z14) + z18)) (s := z29) (Ms := Ms) hS (by omega) (by omega) hK (by exact v0) (by rw [← ez21]; omega) (by rw [cd]; exact hcl _ _ _ (by rw [← v1.2 x (by omega) (by omega)]; exact (v0.1 x (by omega) (by omega)).1) (by rw [← v1.2 y (by omega) (by omega)]; exact (v0.1 y (by omega) (by omega)).1) (by rw [← v1.2 x7 (by omega) (by omega)]; exact (v0.1 x7 (by omega) (by omega)).1))) ?_
          intro  M32 hP33
          obtain ⟨hS32, f33K, f33p0, f33p1, f33p2, f33p3, f33p4⟩ := hP33
          refine n_goto c_55_218 ?_
          refine n_iinc (L2 := [some (2, 15), none, none, none, none, some (0, t), some (0, s), some (0, (x7 + 1)), some (0, (s + z3)), some (0, ((z10 + z14) + z18)), some (0, (z21 - 1))]) c_55_242 rfl rfl rfl ?_
          refine n_goto c_55_245 ?_
          refine n_fg (le_s (le_n (le_n (le_n (le_n (le_s (le_s (le_s (le_n (le_n (le_n le_0))))))))))) ?_
          exact ih _ M32 hS32 (by omega) (by omega) f33K (by exact f33p0) (by exact v1.tr f33p1) (by exact v2.of f33p3) (by exact v3.tr f33p3.fb) (by exact v4.st f33p1 (by rw [← cd]; exact f33p2.has (by omega) f33p1)) (by exact f33p4.vs v5 (by rw [cd, kz]; exact tv)) (by exact v6.tr (f33p4.sl (by rw [kz]; exact kap_mo (by omega))) v1) (by exact v7.st (L := L) f33p1 (f33p4.sl (by rw [kz]; exact kap_mo (by omega))) (by have y := f33p4.hs (by omega); rw [cd, kz] at y; exact y)) (by omega) (by omega)
      · intro h34
        exact n_rV c_55_139 rfl ⟨hS, hK, by exact v0, by exact v1, by exact fun q => by exfalso; have y := v3.2.2; omega, by exact v3, by exact v5, by exact v6, by exact SWS.ce v7 (hCE.gr v1 v6 v3.2.2) v5 (by have y := v3.2.2; omega) (by have y3 := (hVS x7 (by omega) (by omega)).r; omega) (fun q q0 q1 => hso x7 q (by omega) q0 (by omega)) (fun q q0 q1 => (hvl q (by omega) (by omega)).clo)⟩
set_option maxHeartbeats 4000000 in
theorem sweepXU_3_2 {xs : List Int32} {e : Nat} {ac : Int} {M : nM} {p x y f t s : Int} {Ms : nM} {Mt : nM} {L : Int} (hS : Sf 2 ac M M) (hp : ActAt p) (hpl : p < 55 + 3 * ac) (hx : 0 ≤ x ∧ x ≤ 256) (hy : 0 ≤ y ∧ y ≤ 256) (hf : 0 ≤ f ∧ f ≤ 256) (ht : -1 ≤ t ∧ t ≤ 256) (hs : 1 ≤ s ∧ s ≤ 2000001) (hK : MK 256 8 7 56 192 1 2 4 8 16 32 64 128 0 M) (hmt : M = Mt) (hIt : MI 2 8 3 ac Ms Mt) (hfm : FM Ms Mt) (hxg : x < Mt 15 10) (hyg : y < Mt 15 10) (htg : t < Mt 15 10) (hcl : ∀ X Y Z : Int, Clo 2 8 3 ac (Tm Ms) X → Clo 2 8 3 ac (Tm Ms) Y → Clo 2 8 3 ac (Tm Ms) Z → Clo 2 8 3 ac (Tm Ms) (mcm 2 8 (fun i => Ms (p + 2) i) X Y Z)) (hVS : VS 2 8 3 ac Ms Mt) (hCE : CEI 2 8 3 ac Ms Mt) (hLz : ∀ z : Int, f ≤ z → z ≤ t → Mt 21 z ≤ L ∧ L < s + Mt 21 z) (hso : ∀ z q : Int, f ≤ z → z ≤ q → q ≤ t → Mt 21 z ≤ Mt 21 q) (hvl : ∀ z : Int, f ≤ z → z ≤ t → VAL 2 8 3 ac (Tm Ms) (Pm Ms) (mcm 2 8 (fun i => Ms (p + 2) i) (Mt 20 x) (Mt 20 y) (Mt 20 z)) (kap (s + Mt 21 z))) : nW xs (e + 2) 55 0 [some (2, 15), some (2, (p + 2)), some (0, x), some (0, y), some (0, f), some (0, t), some (0, s), none, none, none, none] [] M (nPV fun M1 => Sf 2 ac M1 M1 ∧ MK 256 8 7 56 192 1 2 4 8 16 32 64 128 0 M1 ∧ (MI 2 8 3 ac Ms M1) ∧ (GR Mt M1) ∧ (SWD 2 8 (fun i => Ms (p + 2) i) Mt M1 (fun a b c => a = x ∧ b = y ∧ f ≤ c ∧ c ≤ t)) ∧ (FBm Mt M1) ∧ (VS 2 8 3 ac Ms M1) ∧ (SL L Mt M1) ∧ (SWS 2 8 (fun i => Ms (p + 2) i) x y f (t + 1) s Mt M1)) := by
  have hd : (2 : Int) = 2 ∨ (2 : Int) = 3 := by decide
  have hac := hS.2.2.2.2
  have hI : MI 2 8 3 ac Ms M := by rw [hmt]; exact hIt
  have hm10 : M 15 10 = Mt 15 10 := by rw [hmt]
  have hpb := hp.1
  have hpc := hp.2.1
  have hVSm : VS 2 8 3 ac Ms M := by rw [hmt]; exact hVS
  refine n_iload c_55_0 rfl ?_
  refine n_iload c_55_2 rfl ?_
  refine n_if2_gt c_55_4 (by omega) (by omega) ?_ ?_
  · intro h1
    exact n_rV c_55_34 rfl ⟨hS, hK, by exact hI, by rw [hmt]; exact GR.refl, by exact fun q => by first | exact Or.inr (fun a b c u => by have u3 := u.2.2; omega) | exact Or.inl (by omega) | (exfalso; have y : M 15 11 = Mt 15 11 := (by rw [hmt]); omega), by rw [hmt]; exact FBm.refl, by exact hVSm, by rw [hmt]; exact SL.refl, by first | exact (fun z z0 z1 => by omega) | exact (fun z z0 z1 => Or.inl (by omega)) | (have y : M 15 11 = Mt 15 11 := (by rw [hmt]); have y2 : M 21 f = Mt 21 f := (by rw [hmt]); exact SWS.ce (n := 3) (ac := ac) (Ms := Ms) (z := f) (fun z z0 z1 => by omega) (by rw [hmt]; exact hCE) hVSm (by omega) (by have y3 := (hVS f (by omega) (by omega)).r; omega) (fun q q0 q1 => hso f q (by omega) q0 (by omega)) (fun q q0 q1 => (hvl q (by omega) (by omega)).clo))⟩
  · intro h2
    refine n_aload_n c_55_7 rfl ?_
    refine n_getV (bi := 10) c_55_8 sc_15.n rfl rfl rfl (t_15_10 hS) ?_
    intro z3 ez3 f4
    refine n_sipush c_55_11 rfl ?_
    refine n_if2_gt c_55_14 (by omega) (by omega) ?_ ?_
    · intro h5
      exact n_rV c_55_34 rfl ⟨hS, hK, by exact hI, by rw [hmt]; exact GR.refl, by exact fun q => by first | exact Or.inr (fun a b c u => by have u3 := u.2.2; omega) | exact Or.inl (by omega) | (exfalso; have y : M 15 11 = Mt 15 11 := (by rw [hmt]); omega), by rw [hmt]; exact FBm.refl, by exact hVSm, by rw [hmt]; exact SL.refl, by first | exact (fun z z0 z1 => by omega) | exact (fun z z0 z1 => Or.inl (by omega)) | (have y : M 15 11 = Mt 15 11 := (by rw [hmt]); have y2 : M 21 f = Mt 21 f := (by rw [hmt]); exact SWS.ce (n := 3) (ac := ac) (Ms := Ms) (z := f) (fun z z0 z1 => by omega) (by rw [hmt]; exact hCE) hVSm (by omega) (by have y3 := (hVS f (by omega) (by omega)).r; omega) (fun q q0 q1 => hso f q (by omega) q0 (by omega)) (fun q q0 q1 => (hvl q (by omega) (by omega)).clo))⟩
    · intro h6
      refine n_iload c_55_17 rfl ?_
      refine n_aload_n c_55_19 rfl ?_
      refine n_getR c_55_20 sc_15.n rfl rfl rfl r_15_2 ?_
      refine n_iload c_55_23 rfl ?_
      refine n_ialoadV c_55_25 sc_21.n rfl rfl rfl (by omega) (hI.s (by omega) (by omega)) ?_
      intro z7 ez7 f8
      refine n_iadd c_55_26 rfl ?_
      refine n_aload_n c_55_27 rfl ?_
      refine n_getV (bi := 11) c_55_28 sc_15.n rfl rfl rfl (t_15_11 hS) ?_
      intro z9 ez9 f10
      refine n_if2_lt c_55_31 (by omega) (by omega) ?_ ?_
      · intro h11
        refine n_aload_n c_55_35 rfl ?_
        refine n_getR c_55_36 sc_15.n rfl rfl rfl r_15_6 ?_
        refine n_aload_n c_55_39 rfl ?_
        refine n_getB c_55_40 hK.b ?_
        refine n_aload_n c_55_43 rfl ?_
        refine n_aload_n c_55_44 rfl ?_
        refine n_getR c_55_45 sc_15.n rfl rfl rfl r_15_3 ?_
        refine n_iload_n c_55_48 rfl ?_
        refine n_ialoadV c_55_49 sc_22.n rfl rfl rfl (by omega) (hK.r22 hS (by omega) (by omega)) ?_
        intro z12 ez12 f13
        refine n_aload_n c_55_50 rfl ?_
        refine n_getR c_55_51 sc_15.n rfl rfl rfl r_15_3 ?_
        refine n_iload_n c_55_54 rfl ?_
        refine n_ialoadV c_55_55 sc_22.n rfl rfl rfl (by omega) (hK.r22 hS (by omega) (by omega)) ?_
        intro z14 ez14 f15
        refine n_v4V c_55_56 rfl sc_25.n rfl rfl rfl rfl (fillMX25U_3_2 (p := p) (i := z12) (j := z14) (g := (M 15 10)) (Ms := M) hS hp hpl (by omega) (by omega) hK rfl (by rfl)) ?_
        intro  M16 hP17
        obtain ⟨hS16, f17g0, f17K, f17p0, f17p1⟩ := hP17
        have hS16c := hS16.2.2.2.1.1
        have hS16 := hS16.refl
        refine n_aload_n c_55_59 rfl ?_
        refine n_getR c_55_60 sc_15.n rfl rfl rfl r_15_7 ?_
        refine n_aload_n c_55_63 rfl ?_
        refine n_getB c_55_64 f17K.b ?_
        refine n_aload_n c_55_67 rfl ?_
        refine n_aload_n c_55_68 rfl ?_
        refine n_getR c_55_69 sc_15.n rfl rfl rfl r_15_4 ?_
        refine n_iload_n c_55_72 rfl ?_
        refine n_ialoadV c_55_73 sc_23.n rfl rfl rfl (by omega) (f17K.r23 hS16 (by omega) (by omega)) ?_
        intro z18 ez18 f19
        refine n_aload_n c_55_74 rfl ?_
        refine n_getR c_55_75 sc_15.n rfl rfl rfl r_15_4 ?_
        refine n_iload_n c_55_78 rfl ?_
        refine n_ialoadV c_55_79 sc_23.n rfl rfl rfl (by omega) (f17K.r23 hS16 (by omega) (by omega)) ?_
        intro z20 ez20 f21
        refine n_v4V c_55_80 rfl sc_27.n rfl rfl rfl rfl (fillMX27U_3_2 (p := p) (i := z18) (j := z20) (g := (M16 15 10)) (Ms := M16) hS16 hp hpl (by omega) (by omega) f17K rfl (by rfl)) ?_
        intro  M22 hP23
        obtain ⟨hS22, f23g0, f23K, f23p0, f23p1⟩ := hP23
        have hS22c := hS22.2.2.2.1.1
        have hS22 := hS22.refl
        refine n_aload_n c_55_83 rfl ?_
        refine n_getR c_55_84 sc_15.n rfl rfl rfl r_15_8 ?_
        refine n_aload_n c_55_87 rfl ?_
        refine n_getB c_55_88 f23K.b ?_
        refine n_aload_n c_55_91 rfl ?_
        refine n_aload_n c_55_92 rfl ?_
        refine n_getR c_55_93 sc_15.n rfl rfl rfl r_15_5 ?_
        refine n_iload_n c_55_96 rfl ?_
        refine n_ialoadV c_55_97 sc_24.n rfl rfl rfl (by omega) (f23K.r24 hS22 (by omega) (by omega)) ?_
        intro z24 ez24 f25
        refine n_aload_n c_55_98 rfl ?_
        refine n_getR c_55_99 sc_15.n rfl rfl rfl r_15_5 ?_
        refine n_iload_n c_55_102 rfl ?_
        refine n_ialoadV c_55_103 sc_24.n rfl rfl rfl (by omega) (f23K.r24 hS22 (by omega) (by omega)) ?_
        intro z26 ez26 f27
        refine n_v4V c_55_104 rfl sc_29.n rfl rfl rfl rfl (fillMX29U_3_2 (p := p) (i := z24) (j := z26) (g := (M22 15 10)) (Ms := M22) hS22 hp hpl (by omega) (by omega) f23K rfl (by rfl)) ?_
        intro  M28 hP29
        obtain ⟨hS28, f29g0, f29K, f29p0, f29p1⟩ := hP29
        have hS28c := hS28.2.2.2.1.1
        have hS28 := hS28.refl
        have hP := hS.p9
        have vsc : VS 2 8 3 ac Ms M28 := VS.of hVSm (by rw [f29p0 15 10 (by omega), f23p0 15 10 (by omega), f17p0 15 10 (by omega)]) (fun a i q => by rw [f29p0 a i (by omega), f23p0 a i (by omega), f17p0 a i (by omega)])
        have slc : SL L M M28 := SL.of (by rw [f29p0 15 10 (by omega), f23p0 15 10 (by omega), f17p0 15 10 (by omega)]) (fun i => by rw [f29p0 21 i (by omega), f23p0 21 i (by omega), f17p0 21 i (by omega)])
        obtain ⟨ln, hIc, grc, fbc⟩ := LN.mk (q := p + 2) (x := x) (y := y) hd hI hP (by omega) (by omega) (by omega) (by rw [hmt]; exact hfm) f17p0 f17p1 ez12 ez14 f23p0 f23p1 ez18 ez20 f29p0 f29p1 ez24 ez26
        refine n_iload c_55_107 rfl ?_
        refine n_istore (L2 := [some (2, 15), some (2, (p + 2)), some (0, x), some (0, y), some (0, f), some (0, t), some (0, s), some (0, f), none, none, none]) c_55_109 rfl rfl ?_
        refine n_fg (le_s (le_n (le_n (le_n (le_n (le_s (le_s (le_s (le_n (le_n (le_n le_0))))))))))) ?_
        exact (sweepXU_3_2_c hS hp hpl hx hy hf ht hs hK hmt hIt hfm hxg hyg htg hcl hVS hCE hLz hso hvl 528) _ M28 hS28 (by omega) (by omega) f29K (by exact hIc) (by rw [← hmt]; exact grc) (by rw [← hmt]; exact ln) (by rw [← hmt]; exact fbc) (by exact fun _ => Or.inr (fun a b c q => by have q3 := q.2.2; omega)) (by exact vsc) (by rw [← hmt]; exact slc) (by exact fun z z0 z1 => by omega) (by omega) (by omega)
      · intro h30
        exact n_rV c_55_34 rfl ⟨hS, hK, by exact hI, by rw [hmt]; exact GR.refl, by exact fun q => by first | exact Or.inr (fun a b c u => by have u3 := u.2.2; omega) | exact Or.inl (by omega) | (exfalso; have y : M 15 11 = Mt 15 11 := (by rw [hmt]); omega), by rw [hmt]; exact FBm.refl, by exact hVSm, by rw [hmt]; exact SL.refl, by first | exact (fun z z0 z1 => by omega) | exact (fun z z0 z1 => Or.inl (by omega)) | (have y : M 15 11 = Mt 15 11 := (by rw [hmt]); have y2 : M 21 f = Mt 21 f := (by rw [hmt]); exact SWS.ce (n := 3) (ac := ac) (Ms := Ms) (z := f) (fun z z0 z1 => by omega) (by rw [hmt]; exact hCE) hVSm (by omega) (by have y3 := (hVS f (by omega) (by omega)).r; omega) (fun q q0 q1 => hso f q (by omega) q0 (by omega)) (fun q q0 q1 => (hvl q (by omega) (by omega)).clo))⟩
