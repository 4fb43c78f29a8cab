/-! What the methods tell. -/
set_option maxHeartbeats 4000000 in
theorem lawY1_3 {xs : List Int32} {e : Nat} {ac : Int} {M : nM} {s gd : Int} (hS : Sf 3 ac M M) (hs : -2147483648 ≤ s ∧ s ≤ 2147483647) (hgd : M 112 0 = gd) : nW xs (e + 2) 98 0 [some (2, 3), some (0, 1), some (0, s), none] [] M (nPI fun z M1 => Sf 3 ac M1 M1 ∧ (-2147483648 ≤ z ∧ z ≤ 2147483647) ∧ (M1 112 0 = gd) ∧ (cLaw 3 1 s z M M1) ∧ (cLawR 3 z M1)) := by
  have hd : (3 : Int) = 2 ∨ (3 : Int) = 3 := by decide
  have hac := hS.2.2.2.2
  refine n_aload_n c_98_0 rfl (n_getR c_98_1 sc_3.n rfl rfl rfl r_3_1 (n_iload_n c_98_4 rfl (n_v1I c_98_5 rfl sc_8.n rfl rfl rfl rfl (isSlotF_3 (s := s) hS (by omega)) ?_)))
  intro z1 M2 hP3
  obtain ⟨eM, f3, f3p0⟩ := hP3
  subst eM
  refine n_if0_eq c_98_8 (by omega) ?_ ?_
  · intro h4
    refine n_bipush c_98_19 rfl ?_
    exact n_rI c_98_21 rfl ⟨hS, by omega, by omega, by exact Or.inl ⟨by omega, rfl, fun _ _ _ => rfl⟩, by exact fun u => by omega⟩
  · intro h5
    refine n_aload_n c_98_11 rfl (n_iload_n c_98_12 rfl (n_v1I c_98_13 rfl sc_3.n rfl rfl rfl rfl (isPlaceCountF_3 (k := 1) hS (by omega)) ?_))
    intro z6 M7 hP8
    obtain ⟨eM, f8, f8p0⟩ := hP8
    subst eM
    refine n_if0_ne c_98_16 (by omega) ?_ ?_
    · intro h9
      refine n_aload_n c_98_22 rfl (n_getV (bi := 15) c_98_23 sc_3.n rfl rfl rfl (t_3_15 hS) ?_)
      intro z10 ez10 f11
      refine n_bipush c_98_26 rfl ?_
      refine n_if2_lt c_98_28 (by omega) (by omega) ?_ ?_
      · intro h12
        refine n_aload_n c_98_34 rfl (n_getR c_98_35 sc_3.n rfl rfl rfl r_3_1 (n_iload_n c_98_38 rfl (n_v1I c_98_39 rfl sc_8.n rfl rfl rfl rfl (hasRowF_3 (s := s) hS (by omega)) ?_)))
        intro z13 M14 hP15
        obtain ⟨eM, f15, f15p0⟩ := hP15
        subst eM
        refine n_if0_ne c_98_42 (by omega) ?_ ?_
        · intro h16
          refine n_aload_n c_98_48 rfl (n_iload_n c_98_49 rfl (n_iload_n c_98_50 rfl (n_v2I c_98_51 rfl sc_3.n rfl rfl rfl rfl (readLawX1_3 (s := s) hS (by omega)) ?_)))
          intro z17 M18 hP19
          obtain ⟨eM, f19, f19p0⟩ := hP19
          subst eM
          refine n_istore_n (L2 := [some (2, 3), some (0, 1), some (0, s), some (0, z17)]) c_98_54 rfl rfl (n_iload_n c_98_55 rfl ?_)
          refine n_if0_ge c_98_56 (by omega) ?_ ?_
          · intro h20
            refine n_aload_n c_98_61 rfl (n_getR c_98_62 sc_3.n rfl rfl rfl r_3_3 (n_aload_n c_98_65 rfl (n_getV (bi := 15) c_98_66 sc_3.n rfl rfl rfl (t_3_15 hS) ?_)))
            intro z21 ez21 f22
            refine n_aaload c_98_69 sc_13.n rfl rfl rfl (by omega) (r_laws _) ?_
            have q23 : LawAt (79 + 2 * z21) := by unfold LawAt; omega
            refine n_iload_n c_98_70 rfl (n_iload_n c_98_71 rfl (n_aload_n c_98_72 rfl (n_getR c_98_73 sc_3.n rfl rfl rfl r_3_0 (n_v3V c_98_76 rfl q23.c0.1.n rfl rfl rfl rfl (takeLY1_3 (q := (79 + 2 * z21)) (s := z17) (g := (M 3 15)) (gd := (M 112 0)) (Ms := M) hS q23 (by omega) rfl rfl (by rfl)) ?_))))
            intro  M24 hP25
            obtain ⟨hS24, f25g0, f25g1, f25p0, f25p1, f25p2⟩ := hP25
            refine n_aload_n c_98_79 rfl (n_dup2 c_98_80 (n_getV (bi := 15) c_98_81 sc_3.n rfl rfl rfl (t_3_15 hS24) ?_))
            intro z26 ez26 f27
            refine n_dup_x102 c_98_84 (n_iconst c_98_85 (n_iadd c_98_86 rfl (n_putM (bi := 15) hS24 c_98_87 sc_3.n rfl rfl rfl rfl (m_3_15 (by omega)) ?_)))
            intro M28 eM28 hS28
            have g28_0 : M28 112 0 = M24 112 0 := by rw [eM28]; exact nu_a (by omega)
            have g28_1 : M28 3 15 = (z26 + 1) := by rw [eM28]; exact nu_s _ _ _ _
            exact n_rI c_98_90 rfl ⟨hS28, by omega, by omega, by exact cLaw_ok (n := z21) (by omega) (by omega) (by omega) (by omega) (by omega) (by omega) (by rcases f19p0 with q | q; exact absurd q.neg (by omega); exact q) (fun a i hc u => f25p2 a i u) f25p0.1 f25p0.2 eM28 (by omega) (by omega) (by omega), by exact fun _ => by have y : LawOk 3 (79 + 2 * z21) M24 := (⟨by rw [f25p0.1]; decide, by rw [f25p0.1, f25p0.2]; exact f25p1⟩); have y2 := y.of (M2 := M28) (fun a i u1 u2 => by rw [eM28, nu_a (by omega)]); have ez : z26 = z21 := (by omega); rw [ez]; exact y2⟩
          · intro h29
            refine n_iload_n c_98_59 rfl ?_
            exact n_rI c_98_60 rfl ⟨hS, by omega, by omega, by exact Or.inr (Or.inr (Or.inr (Or.inl ⟨by omega, by omega, by omega, by omega, by omega, by omega, (by rcases f19p0 with q | q; exact q; have := q.2.2; omega), fun _ _ _ => rfl⟩))), by exact fun u => by rcases f19p0 with q | q; (have := q.neg; omega); (have := q.2.2; omega)⟩
        · intro h30
          refine n_bipush c_98_45 rfl ?_
          exact n_rI c_98_47 rfl ⟨hS, by omega, by omega, by exact Or.inr (Or.inr (Or.inl ⟨by omega, by omega, by omega, by omega, by omega, by omega, rfl, fun _ _ _ => rfl⟩)), by exact fun u => by omega⟩
      · intro h31
        refine n_bipush c_98_31 rfl ?_
        exact n_rI c_98_33 rfl ⟨hS, by omega, by omega, by exact Or.inr (Or.inl ⟨by omega, by omega, by omega, by omega, by omega, rfl, fun _ _ _ => rfl⟩), by exact fun u => by omega⟩
    · intro h32
      refine n_bipush c_98_19 rfl ?_
      exact n_rI c_98_21 rfl ⟨hS, by omega, by omega, by exact Or.inl ⟨by omega, rfl, fun _ _ _ => rfl⟩, by exact fun u => by omega⟩

set_option maxHeartbeats 4000000 in
theorem lawY2_3 {xs : List Int32} {e : Nat} {ac : Int} {M : nM} {s gd : Int} (hS : Sf 3 ac M M) (hs : -2147483648 ≤ s ∧ s ≤ 2147483647) (hgd : M 112 0 = gd) : nW xs (e + 2) 98 0 [some (2, 3), some (0, 2), some (0, s), none] [] M (nPI fun z M1 => Sf 3 ac M1 M1 ∧ (-2147483648 ≤ z ∧ z ≤ 2147483647) ∧ (M1 112 0 = gd) ∧ (cLaw 3 2 s z M M1) ∧ (cLawR 3 z M1)) := by
  have hd : (3 : Int) = 2 ∨ (3 : Int) = 3 := by decide
  have hac := hS.2.2.2.2
  refine n_aload_n c_98_0 rfl (n_getR c_98_1 sc_3.n rfl rfl rfl r_3_1 (n_iload_n c_98_4 rfl (n_v1I c_98_5 rfl sc_8.n rfl rfl rfl rfl (isSlotF_3 (s := s) hS (by omega)) ?_)))
  intro z1 M2 hP3
  obtain ⟨eM, f3, f3p0⟩ := hP3
  subst eM
  refine n_if0_eq c_98_8 (by omega) ?_ ?_
  · intro h4
    refine n_bipush c_98_19 rfl ?_
    exact n_rI c_98_21 rfl ⟨hS, by omega, by omega, by exact Or.inl ⟨by omega, rfl, fun _ _ _ => rfl⟩, by exact fun u => by omega⟩
  · intro h5
    refine n_aload_n c_98_11 rfl (n_iload_n c_98_12 rfl (n_v1I c_98_13 rfl sc_3.n rfl rfl rfl rfl (isPlaceCountF_3 (k := 2) hS (by omega)) ?_))
    intro z6 M7 hP8
    obtain ⟨eM, f8, f8p0⟩ := hP8
    subst eM
    refine n_if0_ne c_98_16 (by omega) ?_ ?_
    · intro h9
      refine n_aload_n c_98_22 rfl (n_getV (bi := 15) c_98_23 sc_3.n rfl rfl rfl (t_3_15 hS) ?_)
      intro z10 ez10 f11
      refine n_bipush c_98_26 rfl ?_
      refine n_if2_lt c_98_28 (by omega) (by omega) ?_ ?_
      · intro h12
        refine n_aload_n c_98_34 rfl (n_getR c_98_35 sc_3.n rfl rfl rfl r_3_1 (n_iload_n c_98_38 rfl (n_v1I c_98_39 rfl sc_8.n rfl rfl rfl rfl (hasRowF_3 (s := s) hS (by omega)) ?_)))
        intro z13 M14 hP15
        obtain ⟨eM, f15, f15p0⟩ := hP15
        subst eM
        refine n_if0_ne c_98_42 (by omega) ?_ ?_
        · intro h16
          refine n_aload_n c_98_48 rfl (n_iload_n c_98_49 rfl (n_iload_n c_98_50 rfl (n_v2I c_98_51 rfl sc_3.n rfl rfl rfl rfl (readLawX2_3 (s := s) hS (by omega)) ?_)))
          intro z17 M18 hP19
          obtain ⟨eM, f19, f19p0⟩ := hP19
          subst eM
          refine n_istore_n (L2 := [some (2, 3), some (0, 2), some (0, s), some (0, z17)]) c_98_54 rfl rfl (n_iload_n c_98_55 rfl ?_)
          refine n_if0_ge c_98_56 (by omega) ?_ ?_
          · intro h20
            refine n_aload_n c_98_61 rfl (n_getR c_98_62 sc_3.n rfl rfl rfl r_3_3 (n_aload_n c_98_65 rfl (n_getV (bi := 15) c_98_66 sc_3.n rfl rfl rfl (t_3_15 hS) ?_)))
            intro z21 ez21 f22
            refine n_aaload c_98_69 sc_13.n rfl rfl rfl (by omega) (r_laws _) ?_
            have q23 : LawAt (79 + 2 * z21) := by unfold LawAt; omega
            refine n_iload_n c_98_70 rfl (n_iload_n c_98_71 rfl (n_aload_n c_98_72 rfl (n_getR c_98_73 sc_3.n rfl rfl rfl r_3_0 (n_v3V c_98_76 rfl q23.c0.1.n rfl rfl rfl rfl (takeLY2_3 (q := (79 + 2 * z21)) (s := z17) (g := (M 3 15)) (gd := (M 112 0)) (Ms := M) hS q23 (by omega) rfl rfl (by rfl)) ?_))))
            intro  M24 hP25
            obtain ⟨hS24, f25g0, f25g1, f25p0, f25p1, f25p2⟩ := hP25
            refine n_aload_n c_98_79 rfl (n_dup2 c_98_80 (n_getV (bi := 15) c_98_81 sc_3.n rfl rfl rfl (t_3_15 hS24) ?_))
            intro z26 ez26 f27
            refine n_dup_x102 c_98_84 (n_iconst c_98_85 (n_iadd c_98_86 rfl (n_putM (bi := 15) hS24 c_98_87 sc_3.n rfl rfl rfl rfl (m_3_15 (by omega)) ?_)))
            intro M28 eM28 hS28
            have g28_0 : M28 112 0 = M24 112 0 := by rw [eM28]; exact nu_a (by omega)
            have g28_1 : M28 3 15 = (z26 + 1) := by rw [eM28]; exact nu_s _ _ _ _
            exact n_rI c_98_90 rfl ⟨hS28, by omega, by omega, by exact cLaw_ok (n := z21) (by omega) (by omega) (by omega) (by omega) (by omega) (by omega) (by rcases f19p0 with q | q; exact absurd q.neg (by omega); exact q) (fun a i hc u => f25p2 a i u) f25p0.1 f25p0.2 eM28 (by omega) (by omega) (by omega), by exact fun _ => by have y : LawOk 3 (79 + 2 * z21) M24 := (⟨by rw [f25p0.1]; decide, by rw [f25p0.1, f25p0.2]; exact f25p1⟩); have y2 := y.of (M2 := M28) (fun a i u1 u2 => by rw [eM28, nu_a (by omega)]); have ez : z26 = z21 := (by omega); rw [ez]; exact y2⟩
          · intro h29
            refine n_iload_n c_98_59 rfl ?_
            exact n_rI c_98_60 rfl ⟨hS, by omega, by omega, by exact Or.inr (Or.inr (Or.inr (Or.inl ⟨by omega, by omega, by omega, by omega, by omega, by omega, (by rcases f19p0 with q | q; exact q; have := q.2.2; omega), fun _ _ _ => rfl⟩))), by exact fun u => by rcases f19p0 with q | q; (have := q.neg; omega); (have := q.2.2; omega)⟩
        · intro h30
          refine n_bipush c_98_45 rfl ?_
          exact n_rI c_98_47 rfl ⟨hS, by omega, by omega, by exact Or.inr (Or.inr (Or.inl ⟨by omega, by omega, by omega, by omega, by omega, by omega, rfl, fun _ _ _ => rfl⟩)), by exact fun u => by omega⟩
      · intro h31
        refine n_bipush c_98_31 rfl ?_
        exact n_rI c_98_33 rfl ⟨hS, by omega, by omega, by exact Or.inr (Or.inl ⟨by omega, by omega, by omega, by omega, by omega, rfl, fun _ _ _ => rfl⟩), by exact fun u => by omega⟩
    · intro h32
      refine n_bipush c_98_19 rfl ?_
      exact n_rI c_98_21 rfl ⟨hS, by omega, by omega, by exact Or.inl ⟨by omega, rfl, fun _ _ _ => rfl⟩, by exact fun u => by omega⟩

set_option maxHeartbeats 4000000 in
theorem lawY3_3 {xs : List Int32} {e : Nat} {ac : Int} {M : nM} {s gd : Int} (hS : Sf 3 ac M M) (hs : -2147483648 ≤ s ∧ s ≤ 2147483647) (hgd : M 112 0 = gd) : nW xs (e + 2) 98 0 [some (2, 3), some (0, 3), some (0, s), none] [] M (nPI fun z M1 => Sf 3 ac M1 M1 ∧ (-2147483648 ≤ z ∧ z ≤ 2147483647) ∧ (M1 112 0 = gd) ∧ (cLaw 3 3 s z M M1) ∧ (cLawR 3 z M1)) := by
  have hd : (3 : Int) = 2 ∨ (3 : Int) = 3 := by decide
  have hac := hS.2.2.2.2
  refine n_aload_n c_98_0 rfl (n_getR c_98_1 sc_3.n rfl rfl rfl r_3_1 (n_iload_n c_98_4 rfl (n_v1I c_98_5 rfl sc_8.n rfl rfl rfl rfl (isSlotF_3 (s := s) hS (by omega)) ?_)))
  intro z1 M2 hP3
  obtain ⟨eM, f3, f3p0⟩ := hP3
  subst eM
  refine n_if0_eq c_98_8 (by omega) ?_ ?_
  · intro h4
    refine n_bipush c_98_19 rfl ?_
    exact n_rI c_98_21 rfl ⟨hS, by omega, by omega, by exact Or.inl ⟨by omega, rfl, fun _ _ _ => rfl⟩, by exact fun u => by omega⟩
  · intro h5
    refine n_aload_n c_98_11 rfl (n_iload_n c_98_12 rfl (n_v1I c_98_13 rfl sc_3.n rfl rfl rfl rfl (isPlaceCountF_3 (k := 3) hS (by omega)) ?_))
    intro z6 M7 hP8
    obtain ⟨eM, f8, f8p0⟩ := hP8
    subst eM
    refine n_if0_ne c_98_16 (by omega) ?_ ?_
    · intro h9
      refine n_aload_n c_98_22 rfl (n_getV (bi := 15) c_98_23 sc_3.n rfl rfl rfl (t_3_15 hS) ?_)
      intro z10 ez10 f11
      refine n_bipush c_98_26 rfl ?_
      refine n_if2_lt c_98_28 (by omega) (by omega) ?_ ?_
      · intro h12
        refine n_aload_n c_98_34 rfl (n_getR c_98_35 sc_3.n rfl rfl rfl r_3_1 (n_iload_n c_98_38 rfl (n_v1I c_98_39 rfl sc_8.n rfl rfl rfl rfl (hasRowF_3 (s := s) hS (by omega)) ?_)))
        intro z13 M14 hP15
        obtain ⟨eM, f15, f15p0⟩ := hP15
        subst eM
        refine n_if0_ne c_98_42 (by omega) ?_ ?_
        · intro h16
          refine n_aload_n c_98_48 rfl (n_iload_n c_98_49 rfl (n_iload_n c_98_50 rfl (n_v2I c_98_51 rfl sc_3.n rfl rfl rfl rfl (readLawX3_3 (s := s) hS (by omega)) ?_)))
          intro z17 M18 hP19
          obtain ⟨eM, f19, f19p0⟩ := hP19
          subst eM
          refine n_istore_n (L2 := [some (2, 3), some (0, 3), some (0, s), some (0, z17)]) c_98_54 rfl rfl (n_iload_n c_98_55 rfl ?_)
          refine n_if0_ge c_98_56 (by omega) ?_ ?_
          · intro h20
            refine n_aload_n c_98_61 rfl (n_getR c_98_62 sc_3.n rfl rfl rfl r_3_3 (n_aload_n c_98_65 rfl (n_getV (bi := 15) c_98_66 sc_3.n rfl rfl rfl (t_3_15 hS) ?_)))
            intro z21 ez21 f22
            refine n_aaload c_98_69 sc_13.n rfl rfl rfl (by omega) (r_laws _) ?_
            have q23 : LawAt (79 + 2 * z21) := by unfold LawAt; omega
            refine n_iload_n c_98_70 rfl (n_iload_n c_98_71 rfl (n_aload_n c_98_72 rfl (n_getR c_98_73 sc_3.n rfl rfl rfl r_3_0 (n_v3V c_98_76 rfl q23.c0.1.n rfl rfl rfl rfl (takeLY3_3 (q := (79 + 2 * z21)) (s := z17) (g := (M 3 15)) (gd := (M 112 0)) (Ms := M) hS q23 (by omega) rfl rfl (by rfl)) ?_))))
            intro  M24 hP25
            obtain ⟨hS24, f25g0, f25g1, f25p0, f25p1, f25p2⟩ := hP25
            refine n_aload_n c_98_79 rfl (n_dup2 c_98_80 (n_getV (bi := 15) c_98_81 sc_3.n rfl rfl rfl (t_3_15 hS24) ?_))
            intro z26 ez26 f27
            refine n_dup_x102 c_98_84 (n_iconst c_98_85 (n_iadd c_98_86 rfl (n_putM (bi := 15) hS24 c_98_87 sc_3.n rfl rfl rfl rfl (m_3_15 (by omega)) ?_)))
            intro M28 eM28 hS28
            have g28_0 : M28 112 0 = M24 112 0 := by rw [eM28]; exact nu_a (by omega)
            have g28_1 : M28 3 15 = (z26 + 1) := by rw [eM28]; exact nu_s _ _ _ _
            exact n_rI c_98_90 rfl ⟨hS28, by omega, by omega, by exact cLaw_ok (n := z21) (by omega) (by omega) (by omega) (by omega) (by omega) (by omega) (by rcases f19p0 with q | q; exact absurd q.neg (by omega); exact q) (fun a i hc u => f25p2 a i u) f25p0.1 f25p0.2 eM28 (by omega) (by omega) (by omega), by exact fun _ => by have y : LawOk 3 (79 + 2 * z21) M24 := (⟨by rw [f25p0.1]; decide, by rw [f25p0.1, f25p0.2]; exact f25p1⟩); have y2 := y.of (M2 := M28) (fun a i u1 u2 => by rw [eM28, nu_a (by omega)]); have ez : z26 = z21 := (by omega); rw [ez]; exact y2⟩
          · intro h29
            refine n_iload_n c_98_59 rfl ?_
            exact n_rI c_98_60 rfl ⟨hS, by omega, by omega, by exact Or.inr (Or.inr (Or.inr (Or.inl ⟨by omega, by omega, by omega, by omega, by omega, by omega, (by rcases f19p0 with q | q; exact q; have := q.2.2; omega), fun _ _ _ => rfl⟩))), by exact fun u => by rcases f19p0 with q | q; (have := q.neg; omega); (have := q.2.2; omega)⟩
        · intro h30
          refine n_bipush c_98_45 rfl ?_
          exact n_rI c_98_47 rfl ⟨hS, by omega, by omega, by exact Or.inr (Or.inr (Or.inl ⟨by omega, by omega, by omega, by omega, by omega, by omega, rfl, fun _ _ _ => rfl⟩)), by exact fun u => by omega⟩
      · intro h31
        refine n_bipush c_98_31 rfl ?_
        exact n_rI c_98_33 rfl ⟨hS, by omega, by omega, by exact Or.inr (Or.inl ⟨by omega, by omega, by omega, by omega, by omega, rfl, fun _ _ _ => rfl⟩), by exact fun u => by omega⟩
    · intro h32
      refine n_bipush c_98_19 rfl ?_
      exact n_rI c_98_21 rfl ⟨hS, by omega, by omega, by exact Or.inl ⟨by omega, rfl, fun _ _ _ => rfl⟩, by exact fun u => by omega⟩

set_option maxHeartbeats 4000000 in
theorem lawYA_3 {xs : List Int32} {e : Nat} {ac : Int} {M : nM} {k s gd : Int} (hS : Sf 3 ac M M) (hk : -2147483648 ≤ k ∧ k ≤ 2147483647) (hs : -2147483648 ≤ s ∧ s ≤ 2147483647) (hgd : M 112 0 = gd) : nW xs (e + 2) 98 0 [some (2, 3), some (0, k), some (0, s), none] [] M (nPI fun z M1 => Sf 3 ac M1 M1 ∧ (-2147483648 ≤ z ∧ z ≤ 2147483647) ∧ (M1 112 0 = gd) ∧ (cLaw 3 k s z M M1) ∧ (cLawR 3 z M1)) := by
  rcases (show (-2147483648 ≤ k ∧ k ≤ 0) ∨ k = 1 ∨ k = 2 ∨ k = 3 ∨ (4 ≤ k ∧ k ≤ 2147483647) by omega) with hx | rfl | rfl | rfl | hx
  · exact n_post (lawXL_3 hS (by omega) (by omega)) (fun w M1 h => by obtain ⟨z, rfl, rfl, h2⟩ := h; exact ⟨z, rfl, hS, by omega, hgd, Or.inl ⟨by omega, by omega, fun _ _ _ => rfl⟩, fun u => by omega⟩)
  · exact lawY1_3 hS (by omega) hgd
  · exact lawY2_3 hS (by omega) hgd
  · exact lawY3_3 hS (by omega) hgd
  · exact n_post (lawXH_3 hS (by omega) (by omega)) (fun w M1 h => by obtain ⟨z, rfl, rfl, h2⟩ := h; exact ⟨z, rfl, hS, by omega, hgd, Or.inl ⟨by omega, by omega, fun _ _ _ => rfl⟩, fun u => by omega⟩)
