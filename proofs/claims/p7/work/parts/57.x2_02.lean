/-! What the methods do to the core. -/
set_option maxHeartbeats 4000000 in
theorem takeLX3_2_c {xs : List Int32} {e : Nat} {ac : Int} {M : nM} {q s g gd : Int} {Ms : nM} (hS : Sf 2 ac M M) (hq : LawAt q) (hs : -2147483648 ≤ s ∧ s ≤ 2147483647) (hg : M 3 15 = g) (hgd : M 112 0 = gd) (hms : M = Ms) : ∀ nn : Nat, (∀ (x4 x5 : Int) (M : nM), Sf 2 ac M M → (8 ≤ x4 ∧ x4 ≤ 8) → (0 ≤ x5 ∧ x5 ≤ 8) → (M 3 15 = g) → (M 112 0 = gd) → (M q 0 = 3) → (M q 1 = s) → (FL q Ms M) → (8 - x5) * 1 + 1 < (nn : Int) → nW xs (e + 1) 36 30 [some (2, q), some (0, 3), some (0, s), some (2, 4), some (0, x4), some (0, x5)] [] M (nPV fun M1 => Sf 2 ac M1 M1 ∧ (M1 3 15 = g) ∧ (M1 112 0 = gd) ∧ (FL q Ms M1) ∧ (M1 q 0 = 3) ∧ (M1 q 1 = s))) := by
  have hd : (2 : Int) = 2 ∨ (2 : Int) = 3 := by decide
  have hac := hS.2.2.2.2
  intro nn
  induction nn with
  | zero => intros; omega
  | succ nn ih =>
    intro x4 x5 M hS k4 k5 hgg hggd v0 v1 v2 hnn
    refine n_iload c_36_30 rfl ?_
    refine n_iload c_36_32 rfl ?_
    refine n_if2_ge c_36_34 (by omega) (by omega) ?_ ?_
    · intro h1
      exact n_rV c_36_63 rfl ⟨hS, by omega, by omega, by exact v2, by exact v0, by exact v1⟩
    · intro h2
      refine n_iload_n c_36_37 rfl ?_
      refine n_iload c_36_38 rfl ?_
      refine n_i_ishr c_36_40 rfl ?_
      have f3 := n_shr_r s x5
      generalize (n_shr s x5) = z4 at f3 ⊢
      refine n_iconst c_36_41 ?_
      refine n_i_iand c_36_42 rfl ?_
      have f5 := n_and_y (x := z4) (y := 1) (by omega)
      generalize (n_and z4 1) = z6 at f5 ⊢
      refine n_if0_eq c_36_43 (by omega) ?_ ?_
      · intro h7
        refine n_iinc (L2 := [some (2, q), some (0, 3), some (0, s), some (2, 4), some (0, x4), some (0, (x5 + 1))]) c_36_57 rfl rfl rfl ?_
        refine n_goto c_36_60 ?_
        refine n_fg (le_s (le_s (le_s (le_s (le_s (le_s le_0)))))) ?_
        exact ih _ _ M hS (by omega) (by omega) (by omega) (by omega) (by exact v0) (by exact v1) (by exact v2) (by omega)
      · intro h8
        refine n_aload_n c_36_46 rfl ?_
        refine n_aload_n c_36_47 rfl ?_
        refine n_iload c_36_48 rfl ?_
        refine n_iload_n c_36_50 rfl ?_
        refine n_v2I c_36_51 rfl sc_4.n rfl rfl rfl rfl (widen3_2 (n := x5) hS (by omega)) ?_
        intro z9 M10 hP11
        obtain ⟨eM, f11⟩ := hP11
        subst eM
        refine n_v1V c_36_54 rfl hq.c0.1.n rfl rfl rfl rfl (addWideX_2 (q := q) (r := z9) (g := (M 3 15)) (gd := (M 112 0)) hS hq (by omega) rfl rfl) ?_
        intro  M12 hP13
        obtain ⟨hS12, f13g0, f13g1, f13p0, f13p1, f13p2⟩ := hP13
        refine n_iinc (L2 := [some (2, q), some (0, 3), some (0, s), some (2, 4), some (0, x4), some (0, (x5 + 1))]) c_36_57 rfl rfl rfl ?_
        refine n_goto c_36_60 ?_
        refine n_fg (le_s (le_s (le_s (le_s (le_s (le_s le_0)))))) ?_
        exact ih _ _ M12 hS12 (by omega) (by omega) (by omega) (by omega) (by rw [f13p1]; exact v0) (by rw [f13p2]; exact v1) (by exact fun a i hc w => (f13p0 a i hc w).trans (v2 a i hc w)) (by omega)
set_option maxHeartbeats 4000000 in
theorem takeLX3_2 {xs : List Int32} {e : Nat} {ac : Int} {M : nM} {q s g gd : Int} {Ms : nM} (hS : Sf 2 ac M M) (hq : LawAt q) (hs : -2147483648 ≤ s ∧ s ≤ 2147483647) (hg : M 3 15 = g) (hgd : M 112 0 = gd) (hms : M = Ms) : nW xs (e + 1) 36 0 [some (2, q), some (0, 3), some (0, s), some (2, 4), none, none] [] M (nPV fun M1 => Sf 2 ac M1 M1 ∧ (M1 3 15 = g) ∧ (M1 112 0 = gd) ∧ (FL q Ms M1) ∧ (M1 q 0 = 3) ∧ (M1 q 1 = s)) := by
  have hd : (2 : Int) = 2 ∨ (2 : Int) = 3 := by decide
  have hac := hS.2.2.2.2
  refine n_aload_n c_36_0 rfl ?_
  refine n_iload_n c_36_1 rfl ?_
  refine n_putM (bi := 0) hS c_36_2 hq.c0.1.n rfl rfl rfl rfl (m_law hq (by omega) (by omega)) ?_
  intro M1 eM1 hS1
  have g1_0 : M1 3 15 = M 3 15 := by rw [eM1]; exact nu_a (by unfold LawAt at *; omega)
  have g1_1 : M1 112 0 = M 112 0 := by rw [eM1]; exact nu_a (by unfold LawAt at *; omega)
  have g1_2 : M1 q 0 = 3 := by rw [eM1]; exact nu_s _ _ _ _
  refine n_aload_n c_36_5 rfl ?_
  refine n_iload_n c_36_6 rfl ?_
  refine n_putM (bi := 1) hS1 c_36_7 hq.c0.1.n rfl rfl rfl rfl (m_law hq (by omega) (by omega)) ?_
  intro M2 eM2 hS2
  have g2_0 : M2 3 15 = M1 3 15 := by rw [eM2]; exact nu_a (by unfold LawAt at *; omega)
  have g2_1 : M2 112 0 = M1 112 0 := by rw [eM2]; exact nu_a (by unfold LawAt at *; omega)
  have g2_2 : M2 q 0 = M1 q 0 := by rw [eM2]; exact nu_i (by omega)
  have g2_3 : M2 q 1 = s := by rw [eM2]; exact nu_s _ _ _ _
  refine n_aload_n c_36_10 rfl ?_
  refine n_iconst c_36_11 ?_
  refine n_putM (bi := 2) hS2 c_36_12 hq.c0.1.n rfl rfl rfl rfl (m_law hq (by omega) (by omega)) ?_
  intro M3 eM3 hS3
  have g3_0 : M3 3 15 = M2 3 15 := by rw [eM3]; exact nu_a (by unfold LawAt at *; omega)
  have g3_1 : M3 112 0 = M2 112 0 := by rw [eM3]; exact nu_a (by unfold LawAt at *; omega)
  have g3_2 : M3 q 0 = M2 q 0 := by rw [eM3]; exact nu_i (by omega)
  have g3_3 : M3 q 1 = M2 q 1 := by rw [eM3]; exact nu_i (by omega)
  have g3_4 : M3 q 2 = 0 := by rw [eM3]; exact nu_s _ _ _ _
  refine n_aload_n c_36_15 rfl ?_
  refine n_iconst c_36_16 ?_
  refine n_putM (bi := 3) hS3 c_36_17 hq.c0.1.n rfl rfl rfl rfl (m_law hq (by omega) (by omega)) ?_
  intro M4 eM4 hS4
  have g4_0 : M4 3 15 = M3 3 15 := by rw [eM4]; exact nu_a (by unfold LawAt at *; omega)
  have g4_1 : M4 112 0 = M3 112 0 := by rw [eM4]; exact nu_a (by unfold LawAt at *; omega)
  have g4_2 : M4 q 0 = M3 q 0 := by rw [eM4]; exact nu_i (by omega)
  have g4_3 : M4 q 1 = M3 q 1 := by rw [eM4]; exact nu_i (by omega)
  have g4_4 : M4 q 2 = M3 q 2 := by rw [eM4]; exact nu_i (by omega)
  have g4_5 : M4 q 3 = 0 := by rw [eM4]; exact nu_s _ _ _ _
  refine n_aload_n c_36_20 rfl ?_
  refine n_iload_n c_36_21 rfl ?_
  refine n_v1I c_36_22 rfl sc_4.n rfl rfl rfl rfl (power3_2  hS4 ) ?_
  intro z5 M6 hP7
  obtain ⟨eM, f7⟩ := hP7
  subst eM
  obtain rfl : z5 = 8 := by omega
  refine n_istore (L2 := [some (2, q), some (0, 3), some (0, s), some (2, 4), some (0, 8), none]) c_36_25 rfl rfl ?_
  refine n_iconst c_36_27 ?_
  refine n_istore (L2 := [some (2, q), some (0, 3), some (0, s), some (2, 4), some (0, 8), some (0, 0)]) c_36_28 rfl rfl ?_
  refine n_fg (le_s (le_s (le_s (le_s (le_s (le_s le_0)))))) ?_
  exact (takeLX3_2_c hS hq hs hg hgd hms 30) _ _ M4 hS4 (by omega) (by omega) (by omega) (by omega) (by omega) (by omega) (by subst hms; exact (FL.u (FL.u (FL.u (FL.u (fun _ _ _ _ => rfl) eM1 (by omega)) eM2 (by omega)) eM3 (by omega)) eM4 (by omega))) (by omega)

set_option maxHeartbeats 4000000 in
theorem readLawX3_2_c {xs : List Int32} {e : Nat} {ac : Int} {M0 M : nM} {s : Int} (hS : Sf 2 ac M0 M) (hs : 0 ≤ s ∧ s ≤ 7) : ∀ nn : Nat, (∀ (x3 x4 x5 x6 : Int), (0 ≤ x3 ∧ x3 ≤ 27) → (0 ≤ x4 ∧ x4 ≤ 134217727) → (1 ≤ x5 ∧ x5 ≤ 82) → (0 ≤ x6 ∧ x6 ≤ 27) → (x4 = lset 2 3 (fun i => M 9 (40 * s + i)) x6.toNat) → (x5 = 1 + 3 * x6) → (RO 2 (M 11 s) (fun i => M 9 (40 * s + i)) x5) → (x3 = M 9 (40 * s + 0)) → (x6 ≤ x3) → (0 < M 11 s) → (27 - x6) * 1 + 1 < (nn : Int) → nW xs (e + 1) 128 27 [some (2, 3), some (0, 3), some (0, s), some (0, x3), some (0, x4), some (0, x5), some (0, x6), none, none, none] [] M (nPI fun z M1 => M = M1 ∧ (-6 ≤ z ∧ z ≤ 134217727) ∧ (rLawF 2 3 (M 11 s) (fun i => M 9 (40 * s + i)) z ∨ (rLawS 2 3 (M 11 s) (fun i => M 9 (40 * s + i)) ∧ z = lset 2 3 (fun i => M 9 (40 * s + i)) (M 9 (40 * s + 0)).toNat ∧ 0 ≤ z)))) := by
  have hd : (2 : Int) = 2 ∨ (2 : Int) = 3 := by decide
  have hac := hS.2.2.2.2
  intro nn
  induction nn with
  | zero => intros; omega
  | succ nn ih =>
    intro x3 x4 x5 x6 k3 k4 k5 k6 v0 v1 v2 v3 v4 v5 hnn
    refine n_iload c_128_27 rfl ?_
    refine n_iload_n c_128_29 rfl ?_
    refine n_if2_ge c_128_30 (by omega) (by omega) ?_ ?_
    · intro h1
      refine n_iload c_128_113 rfl ?_
      exact n_rI c_128_115 rfl ⟨rfl, by omega, by exact Or.inr ⟨⟨by omega, by show 0 ≤ M 9 (40 * s + 0); omega, by show M 9 (40 * s + 0) ≤ 27; omega, by have q : 1 + 3 * M 9 (40 * s + 0) = x5 := (by omega); show RO 2 (M 11 s) (fun i => M 9 (40 * s + i)) (1 + 3 * M 9 (40 * s + 0)); rw [q]; exact v2⟩, by rw [show M 9 (40 * s + 0) = x6 by omega]; exact v0, by omega⟩⟩
    · intro h2
      refine n_iconst c_128_33 ?_
      refine n_istore (L2 := [some (2, 3), some (0, 3), some (0, s), some (0, x3), some (0, x4), some (0, x5), some (0, x6), some (0, 0), none, none]) c_128_34 rfl rfl ?_
      refine n_iconst c_128_36 ?_
      refine n_istore (L2 := [some (2, 3), some (0, 3), some (0, s), some (0, x3), some (0, x4), some (0, x5), some (0, x6), some (0, 0), some (0, 0), none]) c_128_37 rfl rfl ?_
      refine n_iload c_128_39 rfl ?_
      refine n_iload_n c_128_41 rfl ?_
      refine n_if2_ge c_128_42 (by omega) (by omega) ?_ ?_
      · intro h3
        exfalso; omega
      · intro h4
        refine n_aload_n c_128_45 rfl ?_
        refine n_getR c_128_46 sc_3.n rfl rfl rfl r_3_1 ?_
        refine n_iload_n c_128_49 rfl ?_
        refine n_iload c_128_50 rfl ?_
        refine n_aload_n c_128_52 rfl ?_
        refine n_getR c_128_53 sc_3.n rfl rfl rfl r_3_0 ?_
        refine n_getV (bi := 0) c_128_56 sc_4.n rfl rfl rfl (t_4_0 hS) ?_
        intro z5 ez5 f6
        obtain rfl : z5 = 2 := by omega
        refine n_iconst c_128_59 ?_
        refine n_isub c_128_60 rfl ?_
        have hcst : ((2 - 1) : Int) = 1 := by omega
        rw [hcst]
        refine n_v3I c_128_61 rfl sc_8.n rfl rfl rfl rfl (readX1_2 (s := s) (i := x5) hS (by omega) (by omega)) ?_
        intro z7 M8 hP9
        obtain ⟨eM, f9, f9p0⟩ := hP9
        subst eM
        refine n_istore (L2 := [some (2, 3), some (0, 3), some (0, s), some (0, x3), some (0, x4), some (0, x5), some (0, x6), some (0, 0), some (0, 0), some (0, z7)]) c_128_64 rfl rfl ?_
        refine n_iload c_128_66 rfl ?_
        refine n_if0_ge c_128_68 (by omega) ?_ ?_
        · intro h10
          refine n_iload c_128_74 rfl ?_
          have ro11 := RO.ext v2 (x := x5) ⟨by omega, by show 0 ≤ M 9 (40 * s + x5); omega, by show M 9 (40 * s + x5) ≤ 2 - 1; omega⟩ rfl
          refine n_aload_n c_128_76 rfl ?_
          refine n_getR c_128_77 sc_3.n rfl rfl rfl r_3_0 ?_
          refine n_getV (bi := 0) c_128_80 sc_4.n rfl rfl rfl (t_4_0 hS) ?_
          intro z12 ez12 f13
          obtain rfl : z12 = 2 := by omega
          refine n_imul c_128_83 rfl ?_
          refine n_iload c_128_84 rfl ?_
          refine n_iadd c_128_86 rfl ?_
          refine n_istore (L2 := [some (2, 3), some (0, 3), some (0, s), some (0, x3), some (0, x4), some (0, x5), some (0, x6), some (0, ((0 * 2) + z7)), some (0, 0), some (0, z7)]) c_128_87 rfl rfl ?_
          refine n_iinc (L2 := [some (2, 3), some (0, 3), some (0, s), some (0, x3), some (0, x4), some (0, (x5 + 1)), some (0, x6), some (0, ((0 * 2) + z7)), some (0, 0), some (0, z7)]) c_128_89 rfl rfl rfl ?_
          refine n_iinc (L2 := [some (2, 3), some (0, 3), some (0, s), some (0, x3), some (0, x4), some (0, (x5 + 1)), some (0, x6), some (0, ((0 * 2) + z7)), some (0, (0 + 1)), some (0, z7)]) c_128_92 rfl rfl rfl ?_
          refine n_goto c_128_95 ?_
          refine n_iload c_128_39 rfl ?_
          refine n_iload_n c_128_41 rfl ?_
          refine n_if2_ge c_128_42 (by omega) (by omega) ?_ ?_
          · intro h14
            exfalso; omega
          · intro h15
            refine n_aload_n c_128_45 rfl ?_
            refine n_getR c_128_46 sc_3.n rfl rfl rfl r_3_1 ?_
            refine n_iload_n c_128_49 rfl ?_
            refine n_iload c_128_50 rfl ?_
            refine n_aload_n c_128_52 rfl ?_
            refine n_getR c_128_53 sc_3.n rfl rfl rfl r_3_0 ?_
            refine n_getV (bi := 0) c_128_56 sc_4.n rfl rfl rfl (t_4_0 hS) ?_
            intro z16 ez16 f17
            obtain rfl : z16 = 2 := by omega
            refine n_iconst c_128_59 ?_
            refine n_isub c_128_60 rfl ?_
            have hcst : ((2 - 1) : Int) = 1 := by omega
            rw [hcst]
            refine n_v3I c_128_61 rfl sc_8.n rfl rfl rfl rfl (readX1_2 (s := s) (i := (x5 + 1)) hS (by omega) (by omega)) ?_
            intro z18 M19 hP20
            obtain ⟨eM, f20, f20p0⟩ := hP20
            subst eM
            refine n_istore (L2 := [some (2, 3), some (0, 3), some (0, s), some (0, x3), some (0, x4), some (0, (x5 + 1)), some (0, x6), some (0, ((0 * 2) + z7)), some (0, (0 + 1)), some (0, z18)]) c_128_64 rfl rfl ?_
            refine n_iload c_128_66 rfl ?_
            refine n_if0_ge c_128_68 (by omega) ?_ ?_
            · intro h21
              refine n_iload c_128_74 rfl ?_
              have ro22 := RO.ext ro11 (x := (x5 + 1)) ⟨by omega, by show 0 ≤ M 9 (40 * s + (x5 + 1)); omega, by show M 9 (40 * s + (x5 + 1)) ≤ 2 - 1; omega⟩ rfl
              refine n_aload_n c_128_76 rfl ?_
              refine n_getR c_128_77 sc_3.n rfl rfl rfl r_3_0 ?_
              refine n_getV (bi := 0) c_128_80 sc_4.n rfl rfl rfl (t_4_0 hS) ?_
              intro z23 ez23 f24
              obtain rfl : z23 = 2 := by omega
              refine n_imul c_128_83 rfl ?_
              refine n_iload c_128_84 rfl ?_
              refine n_iadd c_128_86 rfl ?_
              refine n_istore (L2 := [some (2, 3), some (0, 3), some (0, s), some (0, x3), some (0, x4), some (0, (x5 + 1)), some (0, x6), some (0, ((((0 * 2) + z7) * 2) + z18)), some (0, (0 + 1)), some (0, z18)]) c_128_87 rfl rfl ?_
              refine n_iinc (L2 := [some (2, 3), some (0, 3), some (0, s), some (0, x3), some (0, x4), some (0, ((x5 + 1) + 1)), some (0, x6), some (0, ((((0 * 2) + z7) * 2) + z18)), some (0, (0 + 1)), some (0, z18)]) c_128_89 rfl rfl rfl ?_
              refine n_iinc (L2 := [some (2, 3), some (0, 3), some (0, s), some (0, x3), some (0, x4), some (0, ((x5 + 1) + 1)), some (0, x6), some (0, ((((0 * 2) + z7) * 2) + z18)), some (0, ((0 + 1) + 1)), some (0, z18)]) c_128_92 rfl rfl rfl ?_
              refine n_goto c_128_95 ?_
              refine n_iload c_128_39 rfl ?_
              refine n_iload_n c_128_41 rfl ?_
              refine n_if2_ge c_128_42 (by omega) (by omega) ?_ ?_
              · intro h25
                exfalso; omega
              · intro h26
                refine n_aload_n c_128_45 rfl ?_
                refine n_getR c_128_46 sc_3.n rfl rfl rfl r_3_1 ?_
                refine n_iload_n c_128_49 rfl ?_
                refine n_iload c_128_50 rfl ?_
                refine n_aload_n c_128_52 rfl ?_
                refine n_getR c_128_53 sc_3.n rfl rfl rfl r_3_0 ?_
                refine n_getV (bi := 0) c_128_56 sc_4.n rfl rfl rfl (t_4_0 hS) ?_
                intro z27 ez27 f28
                obtain rfl : z27 = 2 := by omega
                refine n_iconst c_128_59 ?_
                refine n_isub c_128_60 rfl ?_
                have hcst : ((2 - 1) : Int) = 1 := by omega
                rw [hcst]
                refine n_v3I c_128_61 rfl sc_8.n rfl rfl rfl rfl (readX1_2 (s := s) (i := ((x5 + 1) + 1)) hS (by omega) (by omega)) ?_
                intro z29 M30 hP31
                obtain ⟨eM, f31, f31p0⟩ := hP31
                subst eM
                refine n_istore (L2 := [some (2, 3), some (0, 3), some (0, s), some (0, x3), some (0, x4), some (0, ((x5 + 1) + 1)), some (0, x6), some (0, ((((0 * 2) + z7) * 2) + z18)), some (0, ((0 + 1) + 1)), some (0, z29)]) c_128_64 rfl rfl ?_
                refine n_iload c_128_66 rfl ?_
                refine n_if0_ge c_128_68 (by omega) ?_ ?_
                · intro h32
                  refine n_iload c_128_74 rfl ?_
                  have ro33 := RO.ext ro22 (x := ((x5 + 1) + 1)) ⟨by omega, by show 0 ≤ M 9 (40 * s + ((x5 + 1) + 1)); omega, by show M 9 (40 * s + ((x5 + 1) + 1)) ≤ 2 - 1; omega⟩ rfl
                  refine n_aload_n c_128_76 rfl ?_
                  refine n_getR c_128_77 sc_3.n rfl rfl rfl r_3_0 ?_
                  refine n_getV (bi := 0) c_128_80 sc_4.n rfl rfl rfl (t_4_0 hS) ?_
                  intro z34 ez34 f35
                  obtain rfl : z34 = 2 := by omega
                  refine n_imul c_128_83 rfl ?_
                  refine n_iload c_128_84 rfl ?_
                  refine n_iadd c_128_86 rfl ?_
                  refine n_istore (L2 := [some (2, 3), some (0, 3), some (0, s), some (0, x3), some (0, x4), some (0, ((x5 + 1) + 1)), some (0, x6), some (0, ((((((0 * 2) + z7) * 2) + z18) * 2) + z29)), some (0, ((0 + 1) + 1)), some (0, z29)]) c_128_87 rfl rfl ?_
                  refine n_iinc (L2 := [some (2, 3), some (0, 3), some (0, s), some (0, x3), some (0, x4), some (0, (((x5 + 1) + 1) + 1)), some (0, x6), some (0, ((((((0 * 2) + z7) * 2) + z18) * 2) + z29)), some (0, ((0 + 1) + 1)), some (0, z29)]) c_128_89 rfl rfl rfl ?_
                  refine n_iinc (L2 := [some (2, 3), some (0, 3), some (0, s), some (0, x3), some (0, x4), some (0, (((x5 + 1) + 1) + 1)), some (0, x6), some (0, ((((((0 * 2) + z7) * 2) + z18) * 2) + z29)), some (0, (((0 + 1) + 1) + 1)), some (0, z29)]) c_128_92 rfl rfl rfl ?_
                  refine n_goto c_128_95 ?_
                  refine n_iload c_128_39 rfl ?_
                  refine n_iload_n c_128_41 rfl ?_
                  refine n_if2_ge c_128_42 (by omega) (by omega) ?_ ?_
                  · intro h36
                    refine n_iload c_128_98 rfl ?_
                    refine n_iconst c_128_100 ?_
                    refine n_iload c_128_101 rfl ?_
                    refine n_i_ishl c_128_103 rfl ?_
                    refine n_i_ior c_128_104 rfl ?_
                    have hor := (n_or_bit27 (s := x4) (r := ((((((0 * 2) + z7) * 2) + z18) * 2) + z29)) (by omega) (by omega)).1
                    have hls := lset_go (d := 2) (k := 3) (f := (fun i => M 9 (40 * s + i))) (num := ((((((0 * 2) + z7) * 2) + z18) * 2) + z29)) v0 v1 (by omega) (by show _ = (M 9 (40 * s + x5) * 2 + M 9 (40 * s + (x5 + 1))) * 2 + M 9 (40 * s + (x5 + 1 + 1)); omega)
                    refine n_istore (L2 := [some (2, 3), some (0, 3), some (0, s), some (0, x3), some (0, (n_or x4 (n_shl 1 ((((((0 * 2) + z7) * 2) + z18) * 2) + z29)))), some (0, (((x5 + 1) + 1) + 1)), some (0, x6), some (0, ((((((0 * 2) + z7) * 2) + z18) * 2) + z29)), some (0, (((0 + 1) + 1) + 1)), some (0, z29)]) c_128_105 rfl rfl ?_
                    refine n_iinc (L2 := [some (2, 3), some (0, 3), some (0, s), some (0, x3), some (0, (n_or x4 (n_shl 1 ((((((0 * 2) + z7) * 2) + z18) * 2) + z29)))), some (0, (((x5 + 1) + 1) + 1)), some (0, (x6 + 1)), some (0, ((((((0 * 2) + z7) * 2) + z18) * 2) + z29)), some (0, (((0 + 1) + 1) + 1)), some (0, z29)]) c_128_107 rfl rfl rfl ?_
                    refine n_goto c_128_110 ?_
                    refine n_fg (le_s (le_s (le_s (le_s (le_s (le_s (le_s (le_n (le_n (le_n le_0)))))))))) ?_
                    exact ih _ _ _ _ (by omega) (by omega) (by omega) (by omega) (by exact hls) (by omega) (by exact ro33) (by omega) (by omega) (by omega) (by omega)
                  · intro h37
                    exfalso; omega
                · intro h38
                  refine n_iload c_128_71 rfl ?_
                  exact n_rI c_128_73 rfl ⟨rfl, by omega, by exact Or.inl (Or.inr (Or.inr ⟨by omega, by show 0 ≤ M 9 (40 * s + 0); omega, by show M 9 (40 * s + 0) ≤ 27; omega, ((x5 + 1) + 1), by omega, by show ((x5 + 1) + 1) < 1 + 3 * M 9 (40 * s + 0); omega, ro22, by show (M 11 s ≤ ((x5 + 1) + 1) ∧ _ = -6) ∨ (((x5 + 1) + 1) < M 11 s ∧ (M 9 (40 * s + ((x5 + 1) + 1)) < 0 ∨ 2 - 1 < M 9 (40 * s + ((x5 + 1) + 1))) ∧ _ = -4); omega⟩))⟩
            · intro h39
              refine n_iload c_128_71 rfl ?_
              exact n_rI c_128_73 rfl ⟨rfl, by omega, by exact Or.inl (Or.inr (Or.inr ⟨by omega, by show 0 ≤ M 9 (40 * s + 0); omega, by show M 9 (40 * s + 0) ≤ 27; omega, (x5 + 1), by omega, by show (x5 + 1) < 1 + 3 * M 9 (40 * s + 0); omega, ro11, by show (M 11 s ≤ (x5 + 1) ∧ _ = -6) ∨ ((x5 + 1) < M 11 s ∧ (M 9 (40 * s + (x5 + 1)) < 0 ∨ 2 - 1 < M 9 (40 * s + (x5 + 1))) ∧ _ = -4); omega⟩))⟩
        · intro h40
          refine n_iload c_128_71 rfl ?_
          exact n_rI c_128_73 rfl ⟨rfl, by omega, by exact Or.inl (Or.inr (Or.inr ⟨by omega, by show 0 ≤ M 9 (40 * s + 0); omega, by show M 9 (40 * s + 0) ≤ 27; omega, x5, by omega, by show x5 < 1 + 3 * M 9 (40 * s + 0); omega, v2, by show (M 11 s ≤ x5 ∧ _ = -6) ∨ (x5 < M 11 s ∧ (M 9 (40 * s + x5) < 0 ∨ 2 - 1 < M 9 (40 * s + x5)) ∧ _ = -4); omega⟩))⟩
set_option maxHeartbeats 4000000 in
theorem readLawX3_2 {xs : List Int32} {e : Nat} {ac : Int} {M0 M : nM} {s : Int} (hS : Sf 2 ac M0 M) (hs : 0 ≤ s ∧ s ≤ 7) : nW xs (e + 1) 128 0 [some (2, 3), some (0, 3), some (0, s), none, none, none, none, none, none, none] [] M (nPI fun z M1 => M = M1 ∧ (-6 ≤ z ∧ z ≤ 134217727) ∧ (rLawF 2 3 (M 11 s) (fun i => M 9 (40 * s + i)) z ∨ (rLawS 2 3 (M 11 s) (fun i => M 9 (40 * s + i)) ∧ z = lset 2 3 (fun i => M 9 (40 * s + i)) (M 9 (40 * s + 0)).toNat ∧ 0 ≤ z))) := by
  have hd : (2 : Int) = 2 ∨ (2 : Int) = 3 := by decide
  have hac := hS.2.2.2.2
  refine n_aload_n c_128_0 rfl ?_
  refine n_getR c_128_1 sc_3.n rfl rfl rfl r_3_1 ?_
  refine n_iload_n c_128_4 rfl ?_
  refine n_iconst c_128_5 ?_
  refine n_bipush c_128_6 rfl ?_
  refine n_v3I c_128_8 rfl sc_8.n rfl rfl rfl rfl (readX27_2 (s := s) (i := 0) hS (by omega) (by omega)) ?_
  intro z1 M2 hP3
  obtain ⟨eM, f3, f3p0⟩ := hP3
  subst eM
  refine n_istore_n (L2 := [some (2, 3), some (0, 3), some (0, s), some (0, z1), none, none, none, none, none, none]) c_128_11 rfl rfl ?_
  refine n_iload_n c_128_12 rfl ?_
  refine n_if0_ge c_128_13 (by omega) ?_ ?_
  · intro h4
    refine n_iconst c_128_18 ?_
    refine n_istore (L2 := [some (2, 3), some (0, 3), some (0, s), some (0, z1), some (0, 0), none, none, none, none, none]) c_128_19 rfl rfl ?_
    refine n_iconst c_128_21 ?_
    refine n_istore (L2 := [some (2, 3), some (0, 3), some (0, s), some (0, z1), some (0, 0), some (0, 1), none, none, none, none]) c_128_22 rfl rfl ?_
    refine n_iconst c_128_24 ?_
    refine n_istore (L2 := [some (2, 3), some (0, 3), some (0, s), some (0, z1), some (0, 0), some (0, 1), some (0, 0), none, none, none]) c_128_25 rfl rfl ?_
    refine n_fg (le_s (le_s (le_s (le_s (le_s (le_s (le_s (le_n (le_n (le_n le_0)))))))))) ?_
    exact (readLawX3_2_c hS hs 68) _ _ _ _ (by omega) (by omega) (by omega) (by omega) (by rfl) (by omega) (by exact fun i h0 h1 => by omega) (by omega) (by omega) (by omega) (by omega)
  · intro h5
    refine n_iload_n c_128_16 rfl ?_
    exact n_rI c_128_17 rfl ⟨rfl, by omega, by rcases f3p0 with q | q | q <;> first | exact Or.inl (Or.inl ⟨by omega, by omega⟩) | exact Or.inl (Or.inr (Or.inl ⟨by omega, by show M 9 (40 * s + 0) < 0 ∨ 27 < M 9 (40 * s + 0); omega, by omega⟩)) | omega⟩

set_option maxHeartbeats 4000000 in
theorem lawX3_2 {xs : List Int32} {e : Nat} {ac : Int} {M : nM} {s gd : Int} (hS : Sf 2 ac M M) (hs : -2147483648 ≤ s ∧ s ≤ 2147483647) (hgd : M 112 0 = gd) : nW xs (e + 2) 98 0 [some (2, 3), some (0, 3), some (0, s), none] [] M (nPI fun z M1 => Sf 2 ac M1 M1 ∧ (-2147483648 ≤ z ∧ z ≤ 2147483647) ∧ (M1 112 0 = gd) ∧ (cLaw 2 3 s z M M1)) := by
  have hd : (2 : Int) = 2 ∨ (2 : Int) = 3 := by decide
  have hac := hS.2.2.2.2
  refine n_aload_n c_98_0 rfl ?_
  refine n_getR c_98_1 sc_3.n rfl rfl rfl r_3_1 ?_
  refine n_iload_n c_98_4 rfl ?_
  refine n_v1I c_98_5 rfl sc_8.n rfl rfl rfl rfl (isSlotF_2 (s := s) hS (by omega)) ?_
  intro z1 M2 hP3
  obtain ⟨eM, f3, f3p0⟩ := hP3
  subst eM
  refine n_if0_eq c_98_8 (by omega) ?_ ?_
  · intro h4
    refine n_bipush c_98_19 rfl ?_
    exact n_rI c_98_21 rfl ⟨hS, by omega, by omega, by exact Or.inl ⟨by omega, rfl, fun _ _ _ => rfl⟩⟩
  · intro h5
    refine n_aload_n c_98_11 rfl ?_
    refine n_iload_n c_98_12 rfl ?_
    refine n_v1I c_98_13 rfl sc_3.n rfl rfl rfl rfl (isPlaceCountF_2 (k := 3) hS (by omega)) ?_
    intro z6 M7 hP8
    obtain ⟨eM, f8, f8p0⟩ := hP8
    subst eM
    refine n_if0_ne c_98_16 (by omega) ?_ ?_
    · intro h9
      refine n_aload_n c_98_22 rfl ?_
      refine n_getV (bi := 15) c_98_23 sc_3.n rfl rfl rfl (t_3_15 hS) ?_
      intro z10 ez10 f11
      refine n_bipush c_98_26 rfl ?_
      refine n_if2_lt c_98_28 (by omega) (by omega) ?_ ?_
      · intro h12
        refine n_aload_n c_98_34 rfl ?_
        refine n_getR c_98_35 sc_3.n rfl rfl rfl r_3_1 ?_
        refine n_iload_n c_98_38 rfl ?_
        refine n_v1I c_98_39 rfl sc_8.n rfl rfl rfl rfl (hasRowF_2 (s := s) hS (by omega)) ?_
        intro z13 M14 hP15
        obtain ⟨eM, f15, f15p0⟩ := hP15
        subst eM
        refine n_if0_ne c_98_42 (by omega) ?_ ?_
        · intro h16
          refine n_aload_n c_98_48 rfl ?_
          refine n_iload_n c_98_49 rfl ?_
          refine n_iload_n c_98_50 rfl ?_
          refine n_v2I c_98_51 rfl sc_3.n rfl rfl rfl rfl (readLawX3_2 (s := s) hS (by omega)) ?_
          intro z17 M18 hP19
          obtain ⟨eM, f19, f19p0⟩ := hP19
          subst eM
          refine n_istore_n (L2 := [some (2, 3), some (0, 3), some (0, s), some (0, z17)]) c_98_54 rfl rfl ?_
          refine n_iload_n c_98_55 rfl ?_
          refine n_if0_ge c_98_56 (by omega) ?_ ?_
          · intro h20
            refine n_aload_n c_98_61 rfl ?_
            refine n_getR c_98_62 sc_3.n rfl rfl rfl r_3_3 ?_
            refine n_aload_n c_98_65 rfl ?_
            refine n_getV (bi := 15) c_98_66 sc_3.n rfl rfl rfl (t_3_15 hS) ?_
            intro z21 ez21 f22
            refine n_aaload c_98_69 sc_13.n rfl rfl rfl (by omega) (r_laws _) ?_
            have q23 : LawAt (79 + 2 * z21) := by unfold LawAt; omega
            refine n_iload_n c_98_70 rfl ?_
            refine n_iload_n c_98_71 rfl ?_
            refine n_aload_n c_98_72 rfl ?_
            refine n_getR c_98_73 sc_3.n rfl rfl rfl r_3_0 ?_
            refine n_v3V c_98_76 rfl q23.c0.1.n rfl rfl rfl rfl (takeLX3_2 (q := (79 + 2 * z21)) (s := z17) (g := (M 3 15)) (gd := (M 112 0)) (Ms := M) hS q23 (by omega) rfl rfl (by rfl)) ?_
            intro  M24 hP25
            obtain ⟨hS24, f25g0, f25g1, f25p0, f25p1, f25p2⟩ := hP25
            refine n_aload_n c_98_79 rfl ?_
            refine n_dup2 c_98_80 ?_
            refine n_getV (bi := 15) c_98_81 sc_3.n rfl rfl rfl (t_3_15 hS24) ?_
            intro z26 ez26 f27
            refine n_dup_x102 c_98_84 ?_
            refine n_iconst c_98_85 ?_
            refine n_iadd c_98_86 rfl ?_
            refine n_putM (bi := 15) hS24 c_98_87 sc_3.n rfl rfl rfl rfl (m_3_15 (by omega)) ?_
            intro M28 eM28 hS28
            have g28_0 : M28 112 0 = M24 112 0 := by rw [eM28]; exact nu_a (by omega)
            have g28_1 : M28 3 15 = (z26 + 1) := by rw [eM28]; exact nu_s _ _ _ _
            exact n_rI c_98_90 rfl ⟨hS28, by omega, by omega, by exact cLaw_ok (n := z21) (by omega) (by omega) (by omega) (by omega) (by omega) (by omega) (by rcases f19p0 with q | q; exact absurd q.neg (by omega); exact q) f25p0 f25p1 f25p2 eM28 (by omega) (by omega) (by omega)⟩
          · intro h29
            refine n_iload_n c_98_59 rfl ?_
            exact n_rI c_98_60 rfl ⟨hS, by omega, by omega, by exact Or.inr (Or.inr (Or.inr (Or.inl ⟨by omega, by omega, by omega, by omega, by omega, by omega, (by rcases f19p0 with q | q; exact q; have := q.2.2; omega), fun _ _ _ => rfl⟩)))⟩
        · intro h30
          refine n_bipush c_98_45 rfl ?_
          exact n_rI c_98_47 rfl ⟨hS, by omega, by omega, by exact Or.inr (Or.inr (Or.inl ⟨by omega, by omega, by omega, by omega, by omega, by omega, rfl, fun _ _ _ => rfl⟩))⟩
      · intro h31
        refine n_bipush c_98_31 rfl ?_
        exact n_rI c_98_33 rfl ⟨hS, by omega, by omega, by exact Or.inr (Or.inl ⟨by omega, by omega, by omega, by omega, by omega, rfl, fun _ _ _ => rfl⟩)⟩
    · intro h32
      refine n_bipush c_98_19 rfl ?_
      exact n_rI c_98_21 rfl ⟨hS, by omega, by omega, by exact Or.inl ⟨by omega, rfl, fun _ _ _ => rfl⟩⟩

set_option maxHeartbeats 4000000 in
theorem mlawX1_2_c {xs : List Int32} {e : Nat} {ac : Int} {M : nM} {s gd : Int} {Ms : nM} (hS : Sf 2 ac M M) (hdm : M 112 0 = 2) (hs : -2147483648 ≤ s ∧ s ≤ 2147483647) (hgd : M 112 0 = gd) (hms : M = Ms) : ∀ nn : Nat, (∀ (x3 x4 x6 x8 x9 : Int) (M : nM), Sf 2 ac M M → (0 ≤ s ∧ s ≤ 7) → (1 ≤ x3 ∧ x3 ≤ 40) → (0 ≤ x4 ∧ x4 ≤ 27) → (0 ≤ x6 ∧ x6 ≤ 134217727) → (1 ≤ x8 ∧ x8 ≤ 82) → (0 ≤ x9 ∧ x9 ≤ 27) → (M 112 0 = 2) → (M 112 0 = gd) → (x6 = lset 2 1 (fun i => Ms 115 (40 * s + i)) x9.toNat) → (x8 = 1 + 1 * x9) → (RO 2 (Ms 113 s - 1) (fun i => Ms 115 (40 * s + i)) x8) → (x4 = Ms 115 (40 * s + 0)) → (x9 ≤ x4) → (x3 = Ms 113 s - 1) → (M = Ms) → (Ms 112 7 ≤ 11) → (27 - x9) * 1 + 1 < (nn : Int) → nW xs (e + 1) 149 99 [some (2, 112), some (0, 1), some (0, s), some (0, x3), some (1, x4), none, some (1, x6), none, some (0, x8), some (0, x9), none, none] [] M (nPI fun z M1 => Sf 2 ac M1 M1 ∧ (-2147483648 ≤ z ∧ z ≤ 2147483647) ∧ (M1 112 0 = gd) ∧ (mLaw 2 1 s z Ms M1))) := by
  have hd : (2 : Int) = 2 ∨ (2 : Int) = 3 := by decide
  have hac := hS.2.2.2.2
  intro nn
  induction nn with
  | zero => intros; omega
  | succ nn ih =>
    intro x3 x4 x6 x8 x9 M hS k2 k3 k4 k6 k8 k9 hdm hggd v0 v1 v2 v3 v4 v5 v6 v7 hnn
    have q15 : ∀ i : Int, M 115 i = Ms 115 i := fun i => by rw [v6]
    have q13 : M 113 s = Ms 113 s := by rw [v6]
    have q127 : M 112 7 = Ms 112 7 := by rw [v6]
    refine n_iload c_149_99 rfl ?_
    refine n_i2l c_149_101 (by omega) ?_
    refine n_lload c_149_102 rfl ?_
    refine n_lcmp c_149_104 ?_
    refine n_lif_ge c_149_105 (by omega) (by omega) ?_ ?_
    · intro h1
      refine n_aload_n c_149_198 rfl ?_
      refine n_getR c_149_199 sc_112.n rfl rfl rfl r_112_8 ?_
      refine n_aload_n c_149_202 rfl ?_
      refine n_getV (bi := 7) c_149_203 sc_112.n rfl rfl rfl (t_112_7 hS) ?_
      intro z2 ez2 f3
      refine n_iload_n c_149_206 rfl ?_
      refine n_iastoreG c_149_207 sc_118.n rfl (by omega) (hS.w118 (by omega) (by omega)) ?_
      intro M4 eM4 hS4
      have g4_0 : M4 112 0 = M 112 0 := by rw [eM4]; exact nu_a (by omega)
      have g4_1 : M4 112 7 = M 112 7 := by rw [eM4]; exact nu_a (by omega)
      have g4_2 : M4 118 z2 = 1 := by rw [eM4]; exact nu_s _ _ _ _
      refine n_aload_n c_149_208 rfl ?_
      refine n_getR c_149_209 sc_112.n rfl rfl rfl r_112_9 ?_
      refine n_aload_n c_149_212 rfl ?_
      refine n_getV (bi := 7) c_149_213 sc_112.n rfl rfl rfl (t_112_7 hS4) ?_
      intro z5 ez5 f6
      refine n_lload c_149_216 rfl ?_
      refine n_lastoreM hS4 c_149_218 sc_119.n rfl (by omega) (m_119 (by omega) (by omega)) ?_
      intro M7 eM7 hS7
      have g7_0 : M7 112 0 = M4 112 0 := by rw [eM7]; exact nu_a (by omega)
      have g7_1 : M7 112 7 = M4 112 7 := by rw [eM7]; exact nu_a (by omega)
      have g7_2 : M7 118 z2 = M4 118 z2 := by rw [eM7]; exact nu_a (by omega)
      refine n_aload_n c_149_219 rfl ?_
      refine n_dup2 c_149_220 ?_
      refine n_getV (bi := 7) c_149_221 sc_112.n rfl rfl rfl (t_112_7 hS7) ?_
      intro z8 ez8 f9
      refine n_iconst c_149_224 ?_
      refine n_iadd c_149_225 rfl ?_
      refine n_putG (P := fun M2 => Sf 2 ac M2 M2) (bi := 7) c_149_226 sc_112.n rfl rfl rfl rfl (hS7.w112_7 (by omega) (by omega)) ?_
      intro M10 eM10 hS10
      have g10_0 : M10 112 0 = M7 112 0 := by rw [eM10]; exact nu_i (by omega)
      have g10_1 : M10 118 z2 = M7 118 z2 := by rw [eM10]; exact nu_a (by omega)
      have g10_2 : M10 112 7 = (z8 + 1) := by rw [eM10]; exact nu_s _ _ _ _
      refine n_aload_n c_149_229 rfl ?_
      refine n_getV (bi := 7) c_149_230 sc_112.n rfl rfl rfl (t_112_7 hS10) ?_
      intro z11 ez11 f12
      refine n_iconst c_149_233 ?_
      refine n_isub c_149_234 rfl ?_
      exact n_rI c_149_235 rfl ⟨hS10, by omega, by omega, by exact mLaw_ok (n := z2) (n2 := z5) (v := x6) (by omega) (by omega) (by omega) (by omega) (by omega) (by omega) ⟨by omega, by show 0 ≤ Ms 115 (40 * s + 0); omega, by show Ms 115 (40 * s + 0) ≤ 27; omega, by have q : 1 + 1 * Ms 115 (40 * s + 0) = x8 := (by omega); show RO 2 (Ms 113 s - 1) (fun i => Ms 115 (40 * s + i)) (1 + 1 * Ms 115 (40 * s + 0)); rw [q]; exact v2⟩ (by rw [show Ms 115 (40 * s + 0) = x9 by omega]; exact v0) (by rw [← v6]; exact eM4) eM7 eM10 (by omega) (by omega) (by omega) (by omega)⟩
    · intro h13
      refine n_iconst c_149_108 ?_
      refine n_istore (L2 := [some (2, 112), some (0, 1), some (0, s), some (0, x3), some (1, x4), none, some (1, x6), none, some (0, x8), some (0, x9), some (0, 0), none]) c_149_109 rfl rfl ?_
      refine n_iconst c_149_111 ?_
      refine n_istore (L2 := [some (2, 112), some (0, 1), some (0, s), some (0, x3), some (1, x4), none, some (1, x6), none, some (0, x8), some (0, x9), some (0, 0), some (0, 0)]) c_149_112 rfl rfl ?_
      refine n_iload c_149_114 rfl ?_
      refine n_iload_n c_149_116 rfl ?_
      refine n_if2_ge c_149_117 (by omega) (by omega) ?_ ?_
      · intro h14
        exfalso; omega
      · intro h15
        refine n_iload c_149_120 rfl ?_
        refine n_iload_n c_149_122 rfl ?_
        refine n_if2_lt c_149_123 (by omega) (by omega) ?_ ?_
        · intro h16
          refine n_aload_n c_149_129 rfl ?_
          refine n_aload_n c_149_130 rfl ?_
          refine n_getR c_149_131 sc_112.n rfl rfl rfl r_112_3 ?_
          refine n_bipush c_149_134 rfl ?_
          refine n_iload_n c_149_136 rfl ?_
          refine n_imul c_149_137 rfl ?_
          refine n_iload c_149_138 rfl ?_
          refine n_iadd c_149_140 rfl ?_
          refine n_laloadV c_149_141 sc_115.n rfl rfl rfl (by omega) (t_115 hS (by omega)) ?_
          intro z17 ez17 f18
          have r1 := q15 (40 * s + x8)
          refine n_v1I c_149_142 rfl sc_112.n rfl rfl rfl rfl (misThingF_2 (v := z17) hS (by omega) (by omega)) ?_
          intro z19 M20 hP21
          obtain ⟨eM, f21, f21p0⟩ := hP21
          subst eM
          refine n_if0_ne c_149_145 (by omega) ?_ ?_
          · intro h22
            refine n_iload c_149_151 rfl ?_
            have ro23 := RO.ext v2 (x := x8) ⟨by omega, by show 0 ≤ Ms 115 (40 * s + x8); omega, by show Ms 115 (40 * s + x8) ≤ 2 - 1; omega⟩ rfl
            refine n_aload_n c_149_153 rfl ?_
            refine n_getV (bi := 0) c_149_154 sc_112.n rfl rfl rfl (show 2 ≤ M 112 0 ∧ M 112 0 ≤ 2 by omega) ?_
            intro z24 ez24 f25
            obtain rfl : z24 = 2 := by omega
            refine n_imul c_149_157 rfl ?_
            refine n_aload_n c_149_158 rfl ?_
            refine n_getR c_149_159 sc_112.n rfl rfl rfl r_112_3 ?_
            refine n_bipush c_149_162 rfl ?_
            refine n_iload_n c_149_164 rfl ?_
            refine n_imul c_149_165 rfl ?_
            refine n_iload c_149_166 rfl ?_
            refine n_iadd c_149_168 rfl ?_
            refine n_laloadV c_149_169 sc_115.n rfl rfl rfl (by omega) (t_115 hS (by omega)) ?_
            intro z26 ez26 f27
            refine n_l2i c_149_170 ?_
            refine n_iadd c_149_171 rfl ?_
            refine n_istore (L2 := [some (2, 112), some (0, 1), some (0, s), some (0, x3), some (1, x4), none, some (1, x6), none, some (0, x8), some (0, x9), some (0, ((0 * 2) + z26)), some (0, 0)]) c_149_172 rfl rfl ?_
            refine n_iinc (L2 := [some (2, 112), some (0, 1), some (0, s), some (0, x3), some (1, x4), none, some (1, x6), none, some (0, (x8 + 1)), some (0, x9), some (0, ((0 * 2) + z26)), some (0, 0)]) c_149_174 rfl rfl rfl ?_
            refine n_iinc (L2 := [some (2, 112), some (0, 1), some (0, s), some (0, x3), some (1, x4), none, some (1, x6), none, some (0, (x8 + 1)), some (0, x9), some (0, ((0 * 2) + z26)), some (0, (0 + 1))]) c_149_177 rfl rfl rfl ?_
            refine n_goto c_149_180 ?_
            refine n_iload c_149_114 rfl ?_
            refine n_iload_n c_149_116 rfl ?_
            refine n_if2_ge c_149_117 (by omega) (by omega) ?_ ?_
            · intro h28
              refine n_lload c_149_183 rfl ?_
              refine n_lconst (n := 1) c_149_185 rfl ?_
              refine n_iload c_149_186 rfl ?_
              refine n_i_lshl c_149_188 rfl ?_
              refine n_i_lor c_149_189 rfl ?_
              have hor := n_lor_bit27 (s := x6) (r := ((0 * 2) + z26)) (by omega) (by omega)
              have hls := lset_goL (d := 2) (k := 1) (f := (fun i => Ms 115 (40 * s + i))) (num := ((0 * 2) + z26)) v0 v1 (by omega) (by omega) (by omega) (by show _ = Ms 115 (40 * s + x8); omega)
              refine n_lstore (L2 := [some (2, 112), some (0, 1), some (0, s), some (0, x3), some (1, x4), none, some (1, (n_lor x6 (n_lshl 1 ((0 * 2) + z26)))), none, some (0, (x8 + 1)), some (0, x9), some (0, ((0 * 2) + z26)), some (0, (0 + 1))]) c_149_190 rfl rfl ?_
              refine n_iinc (L2 := [some (2, 112), some (0, 1), some (0, s), some (0, x3), some (1, x4), none, some (1, (n_lor x6 (n_lshl 1 ((0 * 2) + z26)))), none, some (0, (x8 + 1)), some (0, (x9 + 1)), some (0, ((0 * 2) + z26)), some (0, (0 + 1))]) c_149_192 rfl rfl rfl ?_
              refine n_goto c_149_195 ?_
              refine n_fg (le_s (le_s (le_s (le_s (le_s (le_n (le_s (le_n (le_s (le_s (le_n (le_n le_0)))))))))))) ?_
              exact ih _ _ _ _ _ M hS (by omega) (by omega) (by omega) (by omega) (by omega) (by omega) (by omega) (by omega) (by exact hls) (by omega) (by exact ro23) (by exact v3) (by omega) (by exact v5) (by exact v6) (by exact v7) (by omega)
            · intro h29
              exfalso; omega
          · intro h30
            refine n_bipush c_149_148 rfl ?_
            exact n_rI c_149_150 rfl ⟨hS, by omega, by omega, by exact Or.inr (Or.inr (Or.inr (Or.inl ⟨by omega, by omega, by omega, by omega, by omega, by omega, Or.inr (Or.inr ⟨by omega, by show 0 ≤ Ms 115 (40 * s + 0); omega, by show Ms 115 (40 * s + 0) ≤ 27; omega, x8, by omega, by show x8 < 1 + 1 * Ms 115 (40 * s + 0); omega, v2, by show (Ms 113 s - 1 ≤ x8 ∧ _ = -6) ∨ (x8 < Ms 113 s - 1 ∧ (Ms 115 (40 * s + x8) < 0 ∨ 2 - 1 < Ms 115 (40 * s + x8)) ∧ _ = -4); omega⟩), fun a i _ => by rw [v6]⟩)))⟩
        · intro h31
          refine n_bipush c_149_126 rfl ?_
          exact n_rI c_149_128 rfl ⟨hS, by omega, by omega, by exact Or.inr (Or.inr (Or.inr (Or.inl ⟨by omega, by omega, by omega, by omega, by omega, by omega, Or.inr (Or.inr ⟨by omega, by show 0 ≤ Ms 115 (40 * s + 0); omega, by show Ms 115 (40 * s + 0) ≤ 27; omega, x8, by omega, by show x8 < 1 + 1 * Ms 115 (40 * s + 0); omega, v2, by show (Ms 113 s - 1 ≤ x8 ∧ _ = -6) ∨ (x8 < Ms 113 s - 1 ∧ (Ms 115 (40 * s + x8) < 0 ∨ 2 - 1 < Ms 115 (40 * s + x8)) ∧ _ = -4); omega⟩), fun a i _ => by rw [v6]⟩)))⟩
set_option maxHeartbeats 4000000 in
theorem mlawX1_2 {xs : List Int32} {e : Nat} {ac : Int} {M : nM} {s gd : Int} {Ms : nM} (hS : Sf 2 ac M M) (hdm : M 112 0 = 2) (hs : -2147483648 ≤ s ∧ s ≤ 2147483647) (hgd : M 112 0 = gd) (hms : M = Ms) : nW xs (e + 1) 149 0 [some (2, 112), some (0, 1), some (0, s), none, none, none, none, none, none, none, none, none] [] M (nPI fun z M1 => Sf 2 ac M1 M1 ∧ (-2147483648 ≤ z ∧ z ≤ 2147483647) ∧ (M1 112 0 = gd) ∧ (mLaw 2 1 s z Ms M1)) := by
  have hd : (2 : Int) = 2 ∨ (2 : Int) = 3 := by decide
  have hac := hS.2.2.2.2
  refine n_iload_n c_149_0 rfl ?_
  refine n_s1I c_149_1 rfl rfl rfl rfl (misSlotF_2 (s := s) hS (by omega)) ?_
  intro z1 M2 hP3
  obtain ⟨eM, f3, f3p0⟩ := hP3
  subst eM
  refine n_if0_eq c_149_4 (by omega) ?_ ?_
  · intro h4
    refine n_bipush c_149_17 rfl ?_
    exact n_rI c_149_19 rfl ⟨hS, by omega, by omega, by subst hms; exact Or.inl ⟨by omega, rfl, fun _ _ _ => rfl⟩⟩
  · intro h5
    refine n_iload_n c_149_7 rfl ?_
    refine n_iconst c_149_8 ?_
    refine n_if2_lt c_149_9 (by omega) (by omega) ?_ ?_
    · intro h6
      exfalso; omega
    · intro h7
      refine n_iload_n c_149_12 rfl ?_
      refine n_iconst c_149_13 ?_
      refine n_if2_le c_149_14 (by omega) (by omega) ?_ ?_
      · intro h8
        refine n_aload_n c_149_20 rfl ?_
        refine n_getV (bi := 7) c_149_21 sc_112.n rfl rfl rfl (t_112_7 hS) ?_
        intro z9 ez9 f10
        refine n_bipush c_149_24 rfl ?_
        refine n_if2_ne c_149_26 (by omega) (by omega) ?_ ?_
        · intro h11
          refine n_aload_n c_149_32 rfl ?_
          refine n_getR c_149_33 sc_112.n rfl rfl rfl r_112_1 ?_
          refine n_iload_n c_149_36 rfl ?_
          refine n_ialoadV c_149_37 sc_113.n rfl rfl rfl (by omega) (t_113 hS (by omega)) ?_
          intro z12 ez12 f13
          refine n_if0_ne c_149_38 (by omega) ?_ ?_
          · intro h14
            refine n_aload_n c_149_44 rfl ?_
            refine n_getR c_149_45 sc_112.n rfl rfl rfl r_112_1 ?_
            refine n_iload_n c_149_48 rfl ?_
            refine n_ialoadV c_149_49 sc_113.n rfl rfl rfl (by omega) (t_113 hS (by omega)) ?_
            intro z15 ez15 f16
            refine n_iconst c_149_50 ?_
            refine n_isub c_149_51 rfl ?_
            refine n_istore_n (L2 := [some (2, 112), some (0, 1), some (0, s), some (0, (z15 - 1)), none, none, none, none, none, none, none, none]) c_149_52 rfl rfl ?_
            refine n_iload_n c_149_53 rfl ?_
            refine n_if0_ne c_149_54 (by omega) ?_ ?_
            · intro h17
              refine n_aload_n c_149_60 rfl ?_
              refine n_getR c_149_61 sc_112.n rfl rfl rfl r_112_3 ?_
              refine n_bipush c_149_64 rfl ?_
              refine n_iload_n c_149_66 rfl ?_
              refine n_imul c_149_67 rfl ?_
              refine n_laloadV c_149_68 sc_115.n rfl rfl rfl (by omega) (t_115 hS (by omega)) ?_
              intro z18 ez18 f19
              refine n_lstore (L2 := [some (2, 112), some (0, 1), some (0, s), some (0, (z15 - 1)), some (1, z18), none, none, none, none, none, none, none]) c_149_69 rfl rfl ?_
              refine n_lload c_149_71 rfl ?_
              refine n_lconst (n := 0) c_149_73 rfl ?_
              refine n_lcmp c_149_74 ?_
              refine n_lif_lt c_149_75 (by omega) (by omega) ?_ ?_
              · intro h20
                refine n_bipush c_149_87 rfl ?_
                exact n_rI c_149_89 rfl ⟨hS, by omega, by omega, by subst hms; exact Or.inr (Or.inr (Or.inr (Or.inl ⟨by omega, by omega, by omega, by omega, by omega, by omega, Or.inr (Or.inl ⟨by omega, by show M 115 (40 * s + 0) < 0 ∨ 27 < M 115 (40 * s + 0); rw [show (40 * s + 0 : Int) = 40 * s by omega]; omega, by omega⟩), fun _ _ _ => rfl⟩)))⟩
              · intro h21
                refine n_lload c_149_78 rfl ?_
                refine n_ldc2 (n := 27) c_149_80 rfl ?_
                refine n_lcmp c_149_83 ?_
                refine n_lif_le c_149_84 (by omega) (by omega) ?_ ?_
                · intro h22
                  refine n_lconst (n := 0) c_149_90 rfl ?_
                  refine n_lstore (L2 := [some (2, 112), some (0, 1), some (0, s), some (0, (z15 - 1)), some (1, z18), none, some (1, 0), none, none, none, none, none]) c_149_91 rfl rfl ?_
                  refine n_iconst c_149_93 ?_
                  refine n_istore (L2 := [some (2, 112), some (0, 1), some (0, s), some (0, (z15 - 1)), some (1, z18), none, some (1, 0), none, some (0, 1), none, none, none]) c_149_94 rfl rfl ?_
                  refine n_iconst c_149_96 ?_
                  refine n_istore (L2 := [some (2, 112), some (0, 1), some (0, s), some (0, (z15 - 1)), some (1, z18), none, some (1, 0), none, some (0, 1), some (0, 0), none, none]) c_149_97 rfl rfl ?_
                  refine n_fg (le_s (le_s (le_s (le_s (le_s (le_n (le_s (le_n (le_s (le_s (le_n (le_n le_0)))))))))))) ?_
                  exact (mlawX1_2_c hS hdm hs hgd hms 68) _ _ _ _ _ M hS (by omega) (by omega) (by omega) (by omega) (by omega) (by omega) (by omega) (by omega) (by rfl) (by omega) (by exact fun i h0 h1 => by omega) (by subst hms; rw [show (40 * s + 0 : Int) = 40 * s by omega]; omega) (by omega) (by subst hms; omega) (by exact hms) (by subst hms; omega) (by omega)
                · intro h23
                  refine n_bipush c_149_87 rfl ?_
                  exact n_rI c_149_89 rfl ⟨hS, by omega, by omega, by subst hms; exact Or.inr (Or.inr (Or.inr (Or.inl ⟨by omega, by omega, by omega, by omega, by omega, by omega, Or.inr (Or.inl ⟨by omega, by show M 115 (40 * s + 0) < 0 ∨ 27 < M 115 (40 * s + 0); rw [show (40 * s + 0 : Int) = 40 * s by omega]; omega, by omega⟩), fun _ _ _ => rfl⟩)))⟩
            · intro h24
              refine n_bipush c_149_57 rfl ?_
              exact n_rI c_149_59 rfl ⟨hS, by omega, by omega, by subst hms; exact Or.inr (Or.inr (Or.inr (Or.inl ⟨by omega, by omega, by omega, by omega, by omega, by omega, Or.inl ⟨by omega, by omega⟩, fun _ _ _ => rfl⟩)))⟩
          · intro h25
            refine n_bipush c_149_41 rfl ?_
            exact n_rI c_149_43 rfl ⟨hS, by omega, by omega, by subst hms; exact Or.inr (Or.inr (Or.inl ⟨by omega, by omega, by omega, by omega, by omega, by omega, rfl, fun _ _ _ => rfl⟩))⟩
        · intro h26
          refine n_bipush c_149_29 rfl ?_
          exact n_rI c_149_31 rfl ⟨hS, by omega, by omega, by subst hms; exact Or.inr (Or.inl ⟨by omega, by omega, by omega, by omega, by omega, rfl, fun _ _ _ => rfl⟩)⟩
      · intro h27
        exfalso; omega

set_option maxHeartbeats 4000000 in
theorem mlawX2_2_c {xs : List Int32} {e : Nat} {ac : Int} {M : nM} {s gd : Int} {Ms : nM} (hS : Sf 2 ac M M) (hdm : M 112 0 = 2) (hs : -2147483648 ≤ s ∧ s ≤ 2147483647) (hgd : M 112 0 = gd) (hms : M = Ms) : ∀ nn : Nat, (∀ (x3 x4 x6 x8 x9 : Int) (M : nM), Sf 2 ac M M → (0 ≤ s ∧ s ≤ 7) → (1 ≤ x3 ∧ x3 ≤ 40) → (0 ≤ x4 ∧ x4 ≤ 27) → (0 ≤ x6 ∧ x6 ≤ 134217727) → (1 ≤ x8 ∧ x8 ≤ 82) → (0 ≤ x9 ∧ x9 ≤ 27) → (M 112 0 = 2) → (M 112 0 = gd) → (x6 = lset 2 2 (fun i => Ms 115 (40 * s + i)) x9.toNat) → (x8 = 1 + 2 * x9) → (RO 2 (Ms 113 s - 1) (fun i => Ms 115 (40 * s + i)) x8) → (x4 = Ms 115 (40 * s + 0)) → (x9 ≤ x4) → (x3 = Ms 113 s - 1) → (M = Ms) → (Ms 112 7 ≤ 11) → (27 - x9) * 1 + 1 < (nn : Int) → nW xs (e + 1) 149 99 [some (2, 112), some (0, 2), some (0, s), some (0, x3), some (1, x4), none, some (1, x6), none, some (0, x8), some (0, x9), none, none] [] M (nPI fun z M1 => Sf 2 ac M1 M1 ∧ (-2147483648 ≤ z ∧ z ≤ 2147483647) ∧ (M1 112 0 = gd) ∧ (mLaw 2 2 s z Ms M1))) := by
  have hd : (2 : Int) = 2 ∨ (2 : Int) = 3 := by decide
  have hac := hS.2.2.2.2
  intro nn
  induction nn with
  | zero => intros; omega
  | succ nn ih =>
    intro x3 x4 x6 x8 x9 M hS k2 k3 k4 k6 k8 k9 hdm hggd v0 v1 v2 v3 v4 v5 v6 v7 hnn
    have q15 : ∀ i : Int, M 115 i = Ms 115 i := fun i => by rw [v6]
    have q13 : M 113 s = Ms 113 s := by rw [v6]
    have q127 : M 112 7 = Ms 112 7 := by rw [v6]
    refine n_iload c_149_99 rfl ?_
    refine n_i2l c_149_101 (by omega) ?_
    refine n_lload c_149_102 rfl ?_
    refine n_lcmp c_149_104 ?_
    refine n_lif_ge c_149_105 (by omega) (by omega) ?_ ?_
    · intro h1
      refine n_aload_n c_149_198 rfl ?_
      refine n_getR c_149_199 sc_112.n rfl rfl rfl r_112_8 ?_
      refine n_aload_n c_149_202 rfl ?_
      refine n_getV (bi := 7) c_149_203 sc_112.n rfl rfl rfl (t_112_7 hS) ?_
      intro z2 ez2 f3
      refine n_iload_n c_149_206 rfl ?_
      refine n_iastoreG c_149_207 sc_118.n rfl (by omega) (hS.w118 (by omega) (by omega)) ?_
      intro M4 eM4 hS4
      have g4_0 : M4 112 0 = M 112 0 := by rw [eM4]; exact nu_a (by omega)
      have g4_1 : M4 112 7 = M 112 7 := by rw [eM4]; exact nu_a (by omega)
      have g4_2 : M4 118 z2 = 2 := by rw [eM4]; exact nu_s _ _ _ _
      refine n_aload_n c_149_208 rfl ?_
      refine n_getR c_149_209 sc_112.n rfl rfl rfl r_112_9 ?_
      refine n_aload_n c_149_212 rfl ?_
      refine n_getV (bi := 7) c_149_213 sc_112.n rfl rfl rfl (t_112_7 hS4) ?_
      intro z5 ez5 f6
      refine n_lload c_149_216 rfl ?_
      refine n_lastoreM hS4 c_149_218 sc_119.n rfl (by omega) (m_119 (by omega) (by omega)) ?_
      intro M7 eM7 hS7
      have g7_0 : M7 112 0 = M4 112 0 := by rw [eM7]; exact nu_a (by omega)
      have g7_1 : M7 112 7 = M4 112 7 := by rw [eM7]; exact nu_a (by omega)
      have g7_2 : M7 118 z2 = M4 118 z2 := by rw [eM7]; exact nu_a (by omega)
      refine n_aload_n c_149_219 rfl ?_
      refine n_dup2 c_149_220 ?_
      refine n_getV (bi := 7) c_149_221 sc_112.n rfl rfl rfl (t_112_7 hS7) ?_
      intro z8 ez8 f9
      refine n_iconst c_149_224 ?_
      refine n_iadd c_149_225 rfl ?_
      refine n_putG (P := fun M2 => Sf 2 ac M2 M2) (bi := 7) c_149_226 sc_112.n rfl rfl rfl rfl (hS7.w112_7 (by omega) (by omega)) ?_
      intro M10 eM10 hS10
      have g10_0 : M10 112 0 = M7 112 0 := by rw [eM10]; exact nu_i (by omega)
      have g10_1 : M10 118 z2 = M7 118 z2 := by rw [eM10]; exact nu_a (by omega)
      have g10_2 : M10 112 7 = (z8 + 1) := by rw [eM10]; exact nu_s _ _ _ _
      refine n_aload_n c_149_229 rfl ?_
      refine n_getV (bi := 7) c_149_230 sc_112.n rfl rfl rfl (t_112_7 hS10) ?_
      intro z11 ez11 f12
      refine n_iconst c_149_233 ?_
      refine n_isub c_149_234 rfl ?_
      exact n_rI c_149_235 rfl ⟨hS10, by omega, by omega, by exact mLaw_ok (n := z2) (n2 := z5) (v := x6) (by omega) (by omega) (by omega) (by omega) (by omega) (by omega) ⟨by omega, by show 0 ≤ Ms 115 (40 * s + 0); omega, by show Ms 115 (40 * s + 0) ≤ 27; omega, by have q : 1 + 2 * Ms 115 (40 * s + 0) = x8 := (by omega); show RO 2 (Ms 113 s - 1) (fun i => Ms 115 (40 * s + i)) (1 + 2 * Ms 115 (40 * s + 0)); rw [q]; exact v2⟩ (by rw [show Ms 115 (40 * s + 0) = x9 by omega]; exact v0) (by rw [← v6]; exact eM4) eM7 eM10 (by omega) (by omega) (by omega) (by omega)⟩
    · intro h13
      refine n_iconst c_149_108 ?_
      refine n_istore (L2 := [some (2, 112), some (0, 2), some (0, s), some (0, x3), some (1, x4), none, some (1, x6), none, some (0, x8), some (0, x9), some (0, 0), none]) c_149_109 rfl rfl ?_
      refine n_iconst c_149_111 ?_
      refine n_istore (L2 := [some (2, 112), some (0, 2), some (0, s), some (0, x3), some (1, x4), none, some (1, x6), none, some (0, x8), some (0, x9), some (0, 0), some (0, 0)]) c_149_112 rfl rfl ?_
      refine n_iload c_149_114 rfl ?_
      refine n_iload_n c_149_116 rfl ?_
      refine n_if2_ge c_149_117 (by omega) (by omega) ?_ ?_
      · intro h14
        exfalso; omega
      · intro h15
        refine n_iload c_149_120 rfl ?_
        refine n_iload_n c_149_122 rfl ?_
        refine n_if2_lt c_149_123 (by omega) (by omega) ?_ ?_
        · intro h16
          refine n_aload_n c_149_129 rfl ?_
          refine n_aload_n c_149_130 rfl ?_
          refine n_getR c_149_131 sc_112.n rfl rfl rfl r_112_3 ?_
          refine n_bipush c_149_134 rfl ?_
          refine n_iload_n c_149_136 rfl ?_
          refine n_imul c_149_137 rfl ?_
          refine n_iload c_149_138 rfl ?_
          refine n_iadd c_149_140 rfl ?_
          refine n_laloadV c_149_141 sc_115.n rfl rfl rfl (by omega) (t_115 hS (by omega)) ?_
          intro z17 ez17 f18
          have r1 := q15 (40 * s + x8)
          refine n_v1I c_149_142 rfl sc_112.n rfl rfl rfl rfl (misThingF_2 (v := z17) hS (by omega) (by omega)) ?_
          intro z19 M20 hP21
          obtain ⟨eM, f21, f21p0⟩ := hP21
          subst eM
          refine n_if0_ne c_149_145 (by omega) ?_ ?_
          · intro h22
            refine n_iload c_149_151 rfl ?_
            have ro23 := RO.ext v2 (x := x8) ⟨by omega, by show 0 ≤ Ms 115 (40 * s + x8); omega, by show Ms 115 (40 * s + x8) ≤ 2 - 1; omega⟩ rfl
            refine n_aload_n c_149_153 rfl ?_
            refine n_getV (bi := 0) c_149_154 sc_112.n rfl rfl rfl (show 2 ≤ M 112 0 ∧ M 112 0 ≤ 2 by omega) ?_
            intro z24 ez24 f25
            obtain rfl : z24 = 2 := by omega
            refine n_imul c_149_157 rfl ?_
            refine n_aload_n c_149_158 rfl ?_
            refine n_getR c_149_159 sc_112.n rfl rfl rfl r_112_3 ?_
            refine n_bipush c_149_162 rfl ?_
            refine n_iload_n c_149_164 rfl ?_
            refine n_imul c_149_165 rfl ?_
            refine n_iload c_149_166 rfl ?_
            refine n_iadd c_149_168 rfl ?_
            refine n_laloadV c_149_169 sc_115.n rfl rfl rfl (by omega) (t_115 hS (by omega)) ?_
            intro z26 ez26 f27
            refine n_l2i c_149_170 ?_
            refine n_iadd c_149_171 rfl ?_
            refine n_istore (L2 := [some (2, 112), some (0, 2), some (0, s), some (0, x3), some (1, x4), none, some (1, x6), none, some (0, x8), some (0, x9), some (0, ((0 * 2) + z26)), some (0, 0)]) c_149_172 rfl rfl ?_
            refine n_iinc (L2 := [some (2, 112), some (0, 2), some (0, s), some (0, x3), some (1, x4), none, some (1, x6), none, some (0, (x8 + 1)), some (0, x9), some (0, ((0 * 2) + z26)), some (0, 0)]) c_149_174 rfl rfl rfl ?_
            refine n_iinc (L2 := [some (2, 112), some (0, 2), some (0, s), some (0, x3), some (1, x4), none, some (1, x6), none, some (0, (x8 + 1)), some (0, x9), some (0, ((0 * 2) + z26)), some (0, (0 + 1))]) c_149_177 rfl rfl rfl ?_
            refine n_goto c_149_180 ?_
            refine n_iload c_149_114 rfl ?_
            refine n_iload_n c_149_116 rfl ?_
            refine n_if2_ge c_149_117 (by omega) (by omega) ?_ ?_
            · intro h28
              exfalso; omega
            · intro h29
              refine n_iload c_149_120 rfl ?_
              refine n_iload_n c_149_122 rfl ?_
              refine n_if2_lt c_149_123 (by omega) (by omega) ?_ ?_
              · intro h30
                refine n_aload_n c_149_129 rfl ?_
                refine n_aload_n c_149_130 rfl ?_
                refine n_getR c_149_131 sc_112.n rfl rfl rfl r_112_3 ?_
                refine n_bipush c_149_134 rfl ?_
                refine n_iload_n c_149_136 rfl ?_
                refine n_imul c_149_137 rfl ?_
                refine n_iload c_149_138 rfl ?_
                refine n_iadd c_149_140 rfl ?_
                refine n_laloadV c_149_141 sc_115.n rfl rfl rfl (by omega) (t_115 hS (by omega)) ?_
                intro z31 ez31 f32
                have r1 := q15 (40 * s + (x8 + 1))
                refine n_v1I c_149_142 rfl sc_112.n rfl rfl rfl rfl (misThingF_2 (v := z31) hS (by omega) (by omega)) ?_
                intro z33 M34 hP35
                obtain ⟨eM, f35, f35p0⟩ := hP35
                subst eM
                refine n_if0_ne c_149_145 (by omega) ?_ ?_
                · intro h36
                  refine n_iload c_149_151 rfl ?_
                  have ro37 := RO.ext ro23 (x := (x8 + 1)) ⟨by omega, by show 0 ≤ Ms 115 (40 * s + (x8 + 1)); omega, by show Ms 115 (40 * s + (x8 + 1)) ≤ 2 - 1; omega⟩ rfl
                  refine n_aload_n c_149_153 rfl ?_
                  refine n_getV (bi := 0) c_149_154 sc_112.n rfl rfl rfl (show 2 ≤ M 112 0 ∧ M 112 0 ≤ 2 by omega) ?_
                  intro z38 ez38 f39
                  obtain rfl : z38 = 2 := by omega
                  refine n_imul c_149_157 rfl ?_
                  refine n_aload_n c_149_158 rfl ?_
                  refine n_getR c_149_159 sc_112.n rfl rfl rfl r_112_3 ?_
                  refine n_bipush c_149_162 rfl ?_
                  refine n_iload_n c_149_164 rfl ?_
                  refine n_imul c_149_165 rfl ?_
                  refine n_iload c_149_166 rfl ?_
                  refine n_iadd c_149_168 rfl ?_
                  refine n_laloadV c_149_169 sc_115.n rfl rfl rfl (by omega) (t_115 hS (by omega)) ?_
                  intro z40 ez40 f41
                  refine n_l2i c_149_170 ?_
                  refine n_iadd c_149_171 rfl ?_
                  refine n_istore (L2 := [some (2, 112), some (0, 2), some (0, s), some (0, x3), some (1, x4), none, some (1, x6), none, some (0, (x8 + 1)), some (0, x9), some (0, ((((0 * 2) + z26) * 2) + z40)), some (0, (0 + 1))]) c_149_172 rfl rfl ?_
                  refine n_iinc (L2 := [some (2, 112), some (0, 2), some (0, s), some (0, x3), some (1, x4), none, some (1, x6), none, some (0, ((x8 + 1) + 1)), some (0, x9), some (0, ((((0 * 2) + z26) * 2) + z40)), some (0, (0 + 1))]) c_149_174 rfl rfl rfl ?_
                  refine n_iinc (L2 := [some (2, 112), some (0, 2), some (0, s), some (0, x3), some (1, x4), none, some (1, x6), none, some (0, ((x8 + 1) + 1)), some (0, x9), some (0, ((((0 * 2) + z26) * 2) + z40)), some (0, ((0 + 1) + 1))]) c_149_177 rfl rfl rfl ?_
                  refine n_goto c_149_180 ?_
                  refine n_iload c_149_114 rfl ?_
                  refine n_iload_n c_149_116 rfl ?_
                  refine n_if2_ge c_149_117 (by omega) (by omega) ?_ ?_
                  · intro h42
                    refine n_lload c_149_183 rfl ?_
                    refine n_lconst (n := 1) c_149_185 rfl ?_
                    refine n_iload c_149_186 rfl ?_
                    refine n_i_lshl c_149_188 rfl ?_
                    refine n_i_lor c_149_189 rfl ?_
                    have hor := n_lor_bit27 (s := x6) (r := ((((0 * 2) + z26) * 2) + z40)) (by omega) (by omega)
                    have hls := lset_goL (d := 2) (k := 2) (f := (fun i => Ms 115 (40 * s + i))) (num := ((((0 * 2) + z26) * 2) + z40)) v0 v1 (by omega) (by omega) (by omega) (by show _ = Ms 115 (40 * s + x8) * 2 + Ms 115 (40 * s + (x8 + 1)); omega)
                    refine n_lstore (L2 := [some (2, 112), some (0, 2), some (0, s), some (0, x3), some (1, x4), none, some (1, (n_lor x6 (n_lshl 1 ((((0 * 2) + z26) * 2) + z40)))), none, some (0, ((x8 + 1) + 1)), some (0, x9), some (0, ((((0 * 2) + z26) * 2) + z40)), some (0, ((0 + 1) + 1))]) c_149_190 rfl rfl ?_
                    refine n_iinc (L2 := [some (2, 112), some (0, 2), some (0, s), some (0, x3), some (1, x4), none, some (1, (n_lor x6 (n_lshl 1 ((((0 * 2) + z26) * 2) + z40)))), none, some (0, ((x8 + 1) + 1)), some (0, (x9 + 1)), some (0, ((((0 * 2) + z26) * 2) + z40)), some (0, ((0 + 1) + 1))]) c_149_192 rfl rfl rfl ?_
                    refine n_goto c_149_195 ?_
                    refine n_fg (le_s (le_s (le_s (le_s (le_s (le_n (le_s (le_n (le_s (le_s (le_n (le_n le_0)))))))))))) ?_
                    exact ih _ _ _ _ _ M hS (by omega) (by omega) (by omega) (by omega) (by omega) (by omega) (by omega) (by omega) (by exact hls) (by omega) (by exact ro37) (by exact v3) (by omega) (by exact v5) (by exact v6) (by exact v7) (by omega)
                  · intro h43
                    exfalso; omega
                · intro h44
                  refine n_bipush c_149_148 rfl ?_
                  exact n_rI c_149_150 rfl ⟨hS, by omega, by omega, by exact Or.inr (Or.inr (Or.inr (Or.inl ⟨by omega, by omega, by omega, by omega, by omega, by omega, Or.inr (Or.inr ⟨by omega, by show 0 ≤ Ms 115 (40 * s + 0); omega, by show Ms 115 (40 * s + 0) ≤ 27; omega, (x8 + 1), by omega, by show (x8 + 1) < 1 + 2 * Ms 115 (40 * s + 0); omega, ro23, by show (Ms 113 s - 1 ≤ (x8 + 1) ∧ _ = -6) ∨ ((x8 + 1) < Ms 113 s - 1 ∧ (Ms 115 (40 * s + (x8 + 1)) < 0 ∨ 2 - 1 < Ms 115 (40 * s + (x8 + 1))) ∧ _ = -4); omega⟩), fun a i _ => by rw [v6]⟩)))⟩
              · intro h45
                refine n_bipush c_149_126 rfl ?_
                exact n_rI c_149_128 rfl ⟨hS, by omega, by omega, by exact Or.inr (Or.inr (Or.inr (Or.inl ⟨by omega, by omega, by omega, by omega, by omega, by omega, Or.inr (Or.inr ⟨by omega, by show 0 ≤ Ms 115 (40 * s + 0); omega, by show Ms 115 (40 * s + 0) ≤ 27; omega, (x8 + 1), by omega, by show (x8 + 1) < 1 + 2 * Ms 115 (40 * s + 0); omega, ro23, by show (Ms 113 s - 1 ≤ (x8 + 1) ∧ _ = -6) ∨ ((x8 + 1) < Ms 113 s - 1 ∧ (Ms 115 (40 * s + (x8 + 1)) < 0 ∨ 2 - 1 < Ms 115 (40 * s + (x8 + 1))) ∧ _ = -4); omega⟩), fun a i _ => by rw [v6]⟩)))⟩
          · intro h46
            refine n_bipush c_149_148 rfl ?_
            exact n_rI c_149_150 rfl ⟨hS, by omega, by omega, by exact Or.inr (Or.inr (Or.inr (Or.inl ⟨by omega, by omega, by omega, by omega, by omega, by omega, Or.inr (Or.inr ⟨by omega, by show 0 ≤ Ms 115 (40 * s + 0); omega, by show Ms 115 (40 * s + 0) ≤ 27; omega, x8, by omega, by show x8 < 1 + 2 * Ms 115 (40 * s + 0); omega, v2, by show (Ms 113 s - 1 ≤ x8 ∧ _ = -6) ∨ (x8 < Ms 113 s - 1 ∧ (Ms 115 (40 * s + x8) < 0 ∨ 2 - 1 < Ms 115 (40 * s + x8)) ∧ _ = -4); omega⟩), fun a i _ => by rw [v6]⟩)))⟩
        · intro h47
          refine n_bipush c_149_126 rfl ?_
          exact n_rI c_149_128 rfl ⟨hS, by omega, by omega, by exact Or.inr (Or.inr (Or.inr (Or.inl ⟨by omega, by omega, by omega, by omega, by omega, by omega, Or.inr (Or.inr ⟨by omega, by show 0 ≤ Ms 115 (40 * s + 0); omega, by show Ms 115 (40 * s + 0) ≤ 27; omega, x8, by omega, by show x8 < 1 + 2 * Ms 115 (40 * s + 0); omega, v2, by show (Ms 113 s - 1 ≤ x8 ∧ _ = -6) ∨ (x8 < Ms 113 s - 1 ∧ (Ms 115 (40 * s + x8) < 0 ∨ 2 - 1 < Ms 115 (40 * s + x8)) ∧ _ = -4); omega⟩), fun a i _ => by rw [v6]⟩)))⟩
set_option maxHeartbeats 4000000 in
theorem mlawX2_2 {xs : List Int32} {e : Nat} {ac : Int} {M : nM} {s gd : Int} {Ms : nM} (hS : Sf 2 ac M M) (hdm : M 112 0 = 2) (hs : -2147483648 ≤ s ∧ s ≤ 2147483647) (hgd : M 112 0 = gd) (hms : M = Ms) : nW xs (e + 1) 149 0 [some (2, 112), some (0, 2), some (0, s), none, none, none, none, none, none, none, none, none] [] M (nPI fun z M1 => Sf 2 ac M1 M1 ∧ (-2147483648 ≤ z ∧ z ≤ 2147483647) ∧ (M1 112 0 = gd) ∧ (mLaw 2 2 s z Ms M1)) := by
  have hd : (2 : Int) = 2 ∨ (2 : Int) = 3 := by decide
  have hac := hS.2.2.2.2
  refine n_iload_n c_149_0 rfl ?_
  refine n_s1I c_149_1 rfl rfl rfl rfl (misSlotF_2 (s := s) hS (by omega)) ?_
  intro z1 M2 hP3
  obtain ⟨eM, f3, f3p0⟩ := hP3
  subst eM
  refine n_if0_eq c_149_4 (by omega) ?_ ?_
  · intro h4
    refine n_bipush c_149_17 rfl ?_
    exact n_rI c_149_19 rfl ⟨hS, by omega, by omega, by subst hms; exact Or.inl ⟨by omega, rfl, fun _ _ _ => rfl⟩⟩
  · intro h5
    refine n_iload_n c_149_7 rfl ?_
    refine n_iconst c_149_8 ?_
    refine n_if2_lt c_149_9 (by omega) (by omega) ?_ ?_
    · intro h6
      exfalso; omega
    · intro h7
      refine n_iload_n c_149_12 rfl ?_
      refine n_iconst c_149_13 ?_
      refine n_if2_le c_149_14 (by omega) (by omega) ?_ ?_
      · intro h8
        refine n_aload_n c_149_20 rfl ?_
        refine n_getV (bi := 7) c_149_21 sc_112.n rfl rfl rfl (t_112_7 hS) ?_
        intro z9 ez9 f10
        refine n_bipush c_149_24 rfl ?_
        refine n_if2_ne c_149_26 (by omega) (by omega) ?_ ?_
        · intro h11
          refine n_aload_n c_149_32 rfl ?_
          refine n_getR c_149_33 sc_112.n rfl rfl rfl r_112_1 ?_
          refine n_iload_n c_149_36 rfl ?_
          refine n_ialoadV c_149_37 sc_113.n rfl rfl rfl (by omega) (t_113 hS (by omega)) ?_
          intro z12 ez12 f13
          refine n_if0_ne c_149_38 (by omega) ?_ ?_
          · intro h14
            refine n_aload_n c_149_44 rfl ?_
            refine n_getR c_149_45 sc_112.n rfl rfl rfl r_112_1 ?_
            refine n_iload_n c_149_48 rfl ?_
            refine n_ialoadV c_149_49 sc_113.n rfl rfl rfl (by omega) (t_113 hS (by omega)) ?_
            intro z15 ez15 f16
            refine n_iconst c_149_50 ?_
            refine n_isub c_149_51 rfl ?_
            refine n_istore_n (L2 := [some (2, 112), some (0, 2), some (0, s), some (0, (z15 - 1)), none, none, none, none, none, none, none, none]) c_149_52 rfl rfl ?_
            refine n_iload_n c_149_53 rfl ?_
            refine n_if0_ne c_149_54 (by omega) ?_ ?_
            · intro h17
              refine n_aload_n c_149_60 rfl ?_
              refine n_getR c_149_61 sc_112.n rfl rfl rfl r_112_3 ?_
              refine n_bipush c_149_64 rfl ?_
              refine n_iload_n c_149_66 rfl ?_
              refine n_imul c_149_67 rfl ?_
              refine n_laloadV c_149_68 sc_115.n rfl rfl rfl (by omega) (t_115 hS (by omega)) ?_
              intro z18 ez18 f19
              refine n_lstore (L2 := [some (2, 112), some (0, 2), some (0, s), some (0, (z15 - 1)), some (1, z18), none, none, none, none, none, none, none]) c_149_69 rfl rfl ?_
              refine n_lload c_149_71 rfl ?_
              refine n_lconst (n := 0) c_149_73 rfl ?_
              refine n_lcmp c_149_74 ?_
              refine n_lif_lt c_149_75 (by omega) (by omega) ?_ ?_
              · intro h20
                refine n_bipush c_149_87 rfl ?_
                exact n_rI c_149_89 rfl ⟨hS, by omega, by omega, by subst hms; exact Or.inr (Or.inr (Or.inr (Or.inl ⟨by omega, by omega, by omega, by omega, by omega, by omega, Or.inr (Or.inl ⟨by omega, by show M 115 (40 * s + 0) < 0 ∨ 27 < M 115 (40 * s + 0); rw [show (40 * s + 0 : Int) = 40 * s by omega]; omega, by omega⟩), fun _ _ _ => rfl⟩)))⟩
              · intro h21
                refine n_lload c_149_78 rfl ?_
                refine n_ldc2 (n := 27) c_149_80 rfl ?_
                refine n_lcmp c_149_83 ?_
                refine n_lif_le c_149_84 (by omega) (by omega) ?_ ?_
                · intro h22
                  refine n_lconst (n := 0) c_149_90 rfl ?_
                  refine n_lstore (L2 := [some (2, 112), some (0, 2), some (0, s), some (0, (z15 - 1)), some (1, z18), none, some (1, 0), none, none, none, none, none]) c_149_91 rfl rfl ?_
                  refine n_iconst c_149_93 ?_
                  refine n_istore (L2 := [some (2, 112), some (0, 2), some (0, s), some (0, (z15 - 1)), some (1, z18), none, some (1, 0), none, some (0, 1), none, none, none]) c_149_94 rfl rfl ?_
                  refine n_iconst c_149_96 ?_
                  refine n_istore (L2 := [some (2, 112), some (0, 2), some (0, s), some (0, (z15 - 1)), some (1, z18), none, some (1, 0), none, some (0, 1), some (0, 0), none, none]) c_149_97 rfl rfl ?_
                  refine n_fg (le_s (le_s (le_s (le_s (le_s (le_n (le_s (le_n (le_s (le_s (le_n (le_n le_0)))))))))))) ?_
                  exact (mlawX2_2_c hS hdm hs hgd hms 68) _ _ _ _ _ M hS (by omega) (by omega) (by omega) (by omega) (by omega) (by omega) (by omega) (by omega) (by rfl) (by omega) (by exact fun i h0 h1 => by omega) (by subst hms; rw [show (40 * s + 0 : Int) = 40 * s by omega]; omega) (by omega) (by subst hms; omega) (by exact hms) (by subst hms; omega) (by omega)
                · intro h23
                  refine n_bipush c_149_87 rfl ?_
                  exact n_rI c_149_89 rfl ⟨hS, by omega, by omega, by subst hms; exact Or.inr (Or.inr (Or.inr (Or.inl ⟨by omega, by omega, by omega, by omega, by omega, by omega, Or.inr (Or.inl ⟨by omega, by show M 115 (40 * s + 0) < 0 ∨ 27 < M 115 (40 * s + 0); rw [show (40 * s + 0 : Int) = 40 * s by omega]; omega, by omega⟩), fun _ _ _ => rfl⟩)))⟩
            · intro h24
              refine n_bipush c_149_57 rfl ?_
              exact n_rI c_149_59 rfl ⟨hS, by omega, by omega, by subst hms; exact Or.inr (Or.inr (Or.inr (Or.inl ⟨by omega, by omega, by omega, by omega, by omega, by omega, Or.inl ⟨by omega, by omega⟩, fun _ _ _ => rfl⟩)))⟩
          · intro h25
            refine n_bipush c_149_41 rfl ?_
            exact n_rI c_149_43 rfl ⟨hS, by omega, by omega, by subst hms; exact Or.inr (Or.inr (Or.inl ⟨by omega, by omega, by omega, by omega, by omega, by omega, rfl, fun _ _ _ => rfl⟩))⟩
        · intro h26
          refine n_bipush c_149_29 rfl ?_
          exact n_rI c_149_31 rfl ⟨hS, by omega, by omega, by subst hms; exact Or.inr (Or.inl ⟨by omega, by omega, by omega, by omega, by omega, rfl, fun _ _ _ => rfl⟩)⟩
      · intro h27
        exfalso; omega

set_option maxHeartbeats 4000000 in
theorem mlawX3_2_c {xs : List Int32} {e : Nat} {ac : Int} {M : nM} {s gd : Int} {Ms : nM} (hS : Sf 2 ac M M) (hdm : M 112 0 = 2) (hs : -2147483648 ≤ s ∧ s ≤ 2147483647) (hgd : M 112 0 = gd) (hms : M = Ms) : ∀ nn : Nat, (∀ (x3 x4 x6 x8 x9 : Int) (M : nM), Sf 2 ac M M → (0 ≤ s ∧ s ≤ 7) → (1 ≤ x3 ∧ x3 ≤ 40) → (0 ≤ x4 ∧ x4 ≤ 27) → (0 ≤ x6 ∧ x6 ≤ 134217727) → (1 ≤ x8 ∧ x8 ≤ 82) → (0 ≤ x9 ∧ x9 ≤ 27) → (M 112 0 = 2) → (M 112 0 = gd) → (x6 = lset 2 3 (fun i => Ms 115 (40 * s + i)) x9.toNat) → (x8 = 1 + 3 * x9) → (RO 2 (Ms 113 s - 1) (fun i => Ms 115 (40 * s + i)) x8) → (x4 = Ms 115 (40 * s + 0)) → (x9 ≤ x4) → (x3 = Ms 113 s - 1) → (M = Ms) → (Ms 112 7 ≤ 11) → (27 - x9) * 1 + 1 < (nn : Int) → nW xs (e + 1) 149 99 [some (2, 112), some (0, 3), some (0, s), some (0, x3), some (1, x4), none, some (1, x6), none, some (0, x8), some (0, x9), none, none] [] M (nPI fun z M1 => Sf 2 ac M1 M1 ∧ (-2147483648 ≤ z ∧ z ≤ 2147483647) ∧ (M1 112 0 = gd) ∧ (mLaw 2 3 s z Ms M1))) := by
  have hd : (2 : Int) = 2 ∨ (2 : Int) = 3 := by decide
  have hac := hS.2.2.2.2
  intro nn
  induction nn with
  | zero => intros; omega
  | succ nn ih =>
    intro x3 x4 x6 x8 x9 M hS k2 k3 k4 k6 k8 k9 hdm hggd v0 v1 v2 v3 v4 v5 v6 v7 hnn
    have q15 : ∀ i : Int, M 115 i = Ms 115 i := fun i => by rw [v6]
    have q13 : M 113 s = Ms 113 s := by rw [v6]
    have q127 : M 112 7 = Ms 112 7 := by rw [v6]
    refine n_iload c_149_99 rfl ?_
    refine n_i2l c_149_101 (by omega) ?_
    refine n_lload c_149_102 rfl ?_
    refine n_lcmp c_149_104 ?_
    refine n_lif_ge c_149_105 (by omega) (by omega) ?_ ?_
    · intro h1
      refine n_aload_n c_149_198 rfl ?_
      refine n_getR c_149_199 sc_112.n rfl rfl rfl r_112_8 ?_
      refine n_aload_n c_149_202 rfl ?_
      refine n_getV (bi := 7) c_149_203 sc_112.n rfl rfl rfl (t_112_7 hS) ?_
      intro z2 ez2 f3
      refine n_iload_n c_149_206 rfl ?_
      refine n_iastoreG c_149_207 sc_118.n rfl (by omega) (hS.w118 (by omega) (by omega)) ?_
      intro M4 eM4 hS4
      have g4_0 : M4 112 0 = M 112 0 := by rw [eM4]; exact nu_a (by omega)
      have g4_1 : M4 112 7 = M 112 7 := by rw [eM4]; exact nu_a (by omega)
      have g4_2 : M4 118 z2 = 3 := by rw [eM4]; exact nu_s _ _ _ _
      refine n_aload_n c_149_208 rfl ?_
      refine n_getR c_149_209 sc_112.n rfl rfl rfl r_112_9 ?_
      refine n_aload_n c_149_212 rfl ?_
      refine n_getV (bi := 7) c_149_213 sc_112.n rfl rfl rfl (t_112_7 hS4) ?_
      intro z5 ez5 f6
      refine n_lload c_149_216 rfl ?_
      refine n_lastoreM hS4 c_149_218 sc_119.n rfl (by omega) (m_119 (by omega) (by omega)) ?_
      intro M7 eM7 hS7
      have g7_0 : M7 112 0 = M4 112 0 := by rw [eM7]; exact nu_a (by omega)
      have g7_1 : M7 112 7 = M4 112 7 := by rw [eM7]; exact nu_a (by omega)
      have g7_2 : M7 118 z2 = M4 118 z2 := by rw [eM7]; exact nu_a (by omega)
      refine n_aload_n c_149_219 rfl ?_
      refine n_dup2 c_149_220 ?_
      refine n_getV (bi := 7) c_149_221 sc_112.n rfl rfl rfl (t_112_7 hS7) ?_
      intro z8 ez8 f9
      refine n_iconst c_149_224 ?_
      refine n_iadd c_149_225 rfl ?_
      refine n_putG (P := fun M2 => Sf 2 ac M2 M2) (bi := 7) c_149_226 sc_112.n rfl rfl rfl rfl (hS7.w112_7 (by omega) (by omega)) ?_
      intro M10 eM10 hS10
      have g10_0 : M10 112 0 = M7 112 0 := by rw [eM10]; exact nu_i (by omega)
      have g10_1 : M10 118 z2 = M7 118 z2 := by rw [eM10]; exact nu_a (by omega)
      have g10_2 : M10 112 7 = (z8 + 1) := by rw [eM10]; exact nu_s _ _ _ _
      refine n_aload_n c_149_229 rfl ?_
      refine n_getV (bi := 7) c_149_230 sc_112.n rfl rfl rfl (t_112_7 hS10) ?_
      intro z11 ez11 f12
      refine n_iconst c_149_233 ?_
      refine n_isub c_149_234 rfl ?_
      exact n_rI c_149_235 rfl ⟨hS10, by omega, by omega, by exact mLaw_ok (n := z2) (n2 := z5) (v := x6) (by omega) (by omega) (by omega) (by omega) (by omega) (by omega) ⟨by omega, by show 0 ≤ Ms 115 (40 * s + 0); omega, by show Ms 115 (40 * s + 0) ≤ 27; omega, by have q : 1 + 3 * Ms 115 (40 * s + 0) = x8 := (by omega); show RO 2 (Ms 113 s - 1) (fun i => Ms 115 (40 * s + i)) (1 + 3 * Ms 115 (40 * s + 0)); rw [q]; exact v2⟩ (by rw [show Ms 115 (40 * s + 0) = x9 by omega]; exact v0) (by rw [← v6]; exact eM4) eM7 eM10 (by omega) (by omega) (by omega) (by omega)⟩
    · intro h13
      refine n_iconst c_149_108 ?_
      refine n_istore (L2 := [some (2, 112), some (0, 3), some (0, s), some (0, x3), some (1, x4), none, some (1, x6), none, some (0, x8), some (0, x9), some (0, 0), none]) c_149_109 rfl rfl ?_
      refine n_iconst c_149_111 ?_
      refine n_istore (L2 := [some (2, 112), some (0, 3), some (0, s), some (0, x3), some (1, x4), none, some (1, x6), none, some (0, x8), some (0, x9), some (0, 0), some (0, 0)]) c_149_112 rfl rfl ?_
      refine n_iload c_149_114 rfl ?_
      refine n_iload_n c_149_116 rfl ?_
      refine n_if2_ge c_149_117 (by omega) (by omega) ?_ ?_
      · intro h14
        exfalso; omega
      · intro h15
        refine n_iload c_149_120 rfl ?_
        refine n_iload_n c_149_122 rfl ?_
        refine n_if2_lt c_149_123 (by omega) (by omega) ?_ ?_
        · intro h16
          refine n_aload_n c_149_129 rfl ?_
          refine n_aload_n c_149_130 rfl ?_
          refine n_getR c_149_131 sc_112.n rfl rfl rfl r_112_3 ?_
          refine n_bipush c_149_134 rfl ?_
          refine n_iload_n c_149_136 rfl ?_
          refine n_imul c_149_137 rfl ?_
          refine n_iload c_149_138 rfl ?_
          refine n_iadd c_149_140 rfl ?_
          refine n_laloadV c_149_141 sc_115.n rfl rfl rfl (by omega) (t_115 hS (by omega)) ?_
          intro z17 ez17 f18
          have r1 := q15 (40 * s + x8)
          refine n_v1I c_149_142 rfl sc_112.n rfl rfl rfl rfl (misThingF_2 (v := z17) hS (by omega) (by omega)) ?_
          intro z19 M20 hP21
          obtain ⟨eM, f21, f21p0⟩ := hP21
          subst eM
          refine n_if0_ne c_149_145 (by omega) ?_ ?_
          · intro h22
            refine n_iload c_149_151 rfl ?_
            have ro23 := RO.ext v2 (x := x8) ⟨by omega, by show 0 ≤ Ms 115 (40 * s + x8); omega, by show Ms 115 (40 * s + x8) ≤ 2 - 1; omega⟩ rfl
            refine n_aload_n c_149_153 rfl ?_
            refine n_getV (bi := 0) c_149_154 sc_112.n rfl rfl rfl (show 2 ≤ M 112 0 ∧ M 112 0 ≤ 2 by omega) ?_
            intro z24 ez24 f25
            obtain rfl : z24 = 2 := by omega
            refine n_imul c_149_157 rfl ?_
            refine n_aload_n c_149_158 rfl ?_
            refine n_getR c_149_159 sc_112.n rfl rfl rfl r_112_3 ?_
            refine n_bipush c_149_162 rfl ?_
            refine n_iload_n c_149_164 rfl ?_
            refine n_imul c_149_165 rfl ?_
            refine n_iload c_149_166 rfl ?_
            refine n_iadd c_149_168 rfl ?_
            refine n_laloadV c_149_169 sc_115.n rfl rfl rfl (by omega) (t_115 hS (by omega)) ?_
            intro z26 ez26 f27
            refine n_l2i c_149_170 ?_
            refine n_iadd c_149_171 rfl ?_
            refine n_istore (L2 := [some (2, 112), some (0, 3), some (0, s), some (0, x3), some (1, x4), none, some (1, x6), none, some (0, x8), some (0, x9), some (0, ((0 * 2) + z26)), some (0, 0)]) c_149_172 rfl rfl ?_
            refine n_iinc (L2 := [some (2, 112), some (0, 3), some (0, s), some (0, x3), some (1, x4), none, some (1, x6), none, some (0, (x8 + 1)), some (0, x9), some (0, ((0 * 2) + z26)), some (0, 0)]) c_149_174 rfl rfl rfl ?_
            refine n_iinc (L2 := [some (2, 112), some (0, 3), some (0, s), some (0, x3), some (1, x4), none, some (1, x6), none, some (0, (x8 + 1)), some (0, x9), some (0, ((0 * 2) + z26)), some (0, (0 + 1))]) c_149_177 rfl rfl rfl ?_
            refine n_goto c_149_180 ?_
            refine n_iload c_149_114 rfl ?_
            refine n_iload_n c_149_116 rfl ?_
            refine n_if2_ge c_149_117 (by omega) (by omega) ?_ ?_
            · intro h28
              exfalso; omega
            · intro h29
              refine n_iload c_149_120 rfl ?_
              refine n_iload_n c_149_122 rfl ?_
              refine n_if2_lt c_149_123 (by omega) (by omega) ?_ ?_
              · intro h30
                refine n_aload_n c_149_129 rfl ?_
                refine n_aload_n c_149_130 rfl ?_
                refine n_getR c_149_131 sc_112.n rfl rfl rfl r_112_3 ?_
                refine n_bipush c_149_134 rfl ?_
                refine n_iload_n c_149_136 rfl ?_
                refine n_imul c_149_137 rfl ?_
                refine n_iload c_149_138 rfl ?_
                refine n_iadd c_149_140 rfl ?_
                refine n_laloadV c_149_141 sc_115.n rfl rfl rfl (by omega) (t_115 hS (by omega)) ?_
                intro z31 ez31 f32
                have r1 := q15 (40 * s + (x8 + 1))
                refine n_v1I c_149_142 rfl sc_112.n rfl rfl rfl rfl (misThingF_2 (v := z31) hS (by omega) (by omega)) ?_
                intro z33 M34 hP35
                obtain ⟨eM, f35, f35p0⟩ := hP35
                subst eM
                refine n_if0_ne c_149_145 (by omega) ?_ ?_
                · intro h36
                  refine n_iload c_149_151 rfl ?_
                  have ro37 := RO.ext ro23 (x := (x8 + 1)) ⟨by omega, by show 0 ≤ Ms 115 (40 * s + (x8 + 1)); omega, by show Ms 115 (40 * s + (x8 + 1)) ≤ 2 - 1; omega⟩ rfl
                  refine n_aload_n c_149_153 rfl ?_
                  refine n_getV (bi := 0) c_149_154 sc_112.n rfl rfl rfl (show 2 ≤ M 112 0 ∧ M 112 0 ≤ 2 by omega) ?_
                  intro z38 ez38 f39
                  obtain rfl : z38 = 2 := by omega
                  refine n_imul c_149_157 rfl ?_
                  refine n_aload_n c_149_158 rfl ?_
                  refine n_getR c_149_159 sc_112.n rfl rfl rfl r_112_3 ?_
                  refine n_bipush c_149_162 rfl ?_
                  refine n_iload_n c_149_164 rfl ?_
                  refine n_imul c_149_165 rfl ?_
                  refine n_iload c_149_166 rfl ?_
                  refine n_iadd c_149_168 rfl ?_
                  refine n_laloadV c_149_169 sc_115.n rfl rfl rfl (by omega) (t_115 hS (by omega)) ?_
                  intro z40 ez40 f41
                  refine n_l2i c_149_170 ?_
                  refine n_iadd c_149_171 rfl ?_
                  refine n_istore (L2 := [some (2, 112), some (0, 3), some (0, s), some (0, x3), some (1, x4), none, some (1, x6), none, some (0, (x8 + 1)), some (0, x9), some (0, ((((0 * 2) + z26) * 2) + z40)), some (0, (0 + 1))]) c_149_172 rfl rfl ?_
                  refine n_iinc (L2 := [some (2, 112), some (0, 3), some (0, s), some (0, x3), some (1, x4), none, some (1, x6), none, some (0, ((x8 + 1) + 1)), some (0, x9), some (0, ((((0 * 2) + z26) * 2) + z40)), some (0, (0 + 1))]) c_149_174 rfl rfl rfl ?_
                  refine n_iinc (L2 := [some (2, 112), some (0, 3), some (0, s), some (0, x3), some (1, x4), none, some (1, x6), none, some (0, ((x8 + 1) + 1)), some (0, x9), some (0, ((((0 * 2) + z26) * 2) + z40)), some (0, ((0 + 1) + 1))]) c_149_177 rfl rfl rfl ?_
                  refine n_goto c_149_180 ?_
                  refine n_iload c_149_114 rfl ?_
                  refine n_iload_n c_149_116 rfl ?_
                  refine n_if2_ge c_149_117 (by omega) (by omega) ?_ ?_
                  · intro h42
                    exfalso; omega
                  · intro h43
                    refine n_iload c_149_120 rfl ?_
                    refine n_iload_n c_149_122 rfl ?_
                    refine n_if2_lt c_149_123 (by omega) (by omega) ?_ ?_
                    · intro h44
                      refine n_aload_n c_149_129 rfl ?_
                      refine n_aload_n c_149_130 rfl ?_
                      refine n_getR c_149_131 sc_112.n rfl rfl rfl r_112_3 ?_
                      refine n_bipush c_149_134 rfl ?_
                      refine n_iload_n c_149_136 rfl ?_
                      refine n_imul c_149_137 rfl ?_
                      refine n_iload c_149_138 rfl ?_
                      refine n_iadd c_149_140 rfl ?_
                      refine n_laloadV c_149_141 sc_115.n rfl rfl rfl (by omega) (t_115 hS (by omega)) ?_
                      intro z45 ez45 f46
                      have r1 := q15 (40 * s + ((x8 + 1) + 1))
                      refine n_v1I c_149_142 rfl sc_112.n rfl rfl rfl rfl (misThingF_2 (v := z45) hS (by omega) (by omega)) ?_
                      intro z47 M48 hP49
                      obtain ⟨eM, f49, f49p0⟩ := hP49
                      subst eM
                      refine n_if0_ne c_149_145 (by omega) ?_ ?_
                      · intro h50
                        refine n_iload c_149_151 rfl ?_
                        have ro51 := RO.ext ro37 (x := ((x8 + 1) + 1)) ⟨by omega, by show 0 ≤ Ms 115 (40 * s + ((x8 + 1) + 1)); omega, by show Ms 115 (40 * s + ((x8 + 1) + 1)) ≤ 2 - 1; omega⟩ rfl
                        refine n_aload_n c_149_153 rfl ?_
                        refine n_getV (bi := 0) c_149_154 sc_112.n rfl rfl rfl (show 2 ≤ M 112 0 ∧ M 112 0 ≤ 2 by omega) ?_
                        intro z52 ez52 f53
                        obtain rfl : z52 = 2 := by omega
                        refine n_imul c_149_157 rfl ?_
                        refine n_aload_n c_149_158 rfl ?_
                        refine n_getR c_149_159 sc_112.n rfl rfl rfl r_112_3 ?_
                        refine n_bipush c_149_162 rfl ?_
                        refine n_iload_n c_149_164 rfl ?_
                        refine n_imul c_149_165 rfl ?_
                        refine n_iload c_149_166 rfl ?_
                        refine n_iadd c_149_168 rfl ?_
                        refine n_laloadV c_149_169 sc_115.n rfl rfl rfl (by omega) (t_115 hS (by omega)) ?_
                        intro z54 ez54 f55
                        refine n_l2i c_149_170 ?_
                        refine n_iadd c_149_171 rfl ?_
                        refine n_istore (L2 := [some (2, 112), some (0, 3), some (0, s), some (0, x3), some (1, x4), none, some (1, x6), none, some (0, ((x8 + 1) + 1)), some (0, x9), some (0, ((((((0 * 2) + z26) * 2) + z40) * 2) + z54)), some (0, ((0 + 1) + 1))]) c_149_172 rfl rfl ?_
                        refine n_iinc (L2 := [some (2, 112), some (0, 3), some (0, s), some (0, x3), some (1, x4), none, some (1, x6), none, some (0, (((x8 + 1) + 1) + 1)), some (0, x9), some (0, ((((((0 * 2) + z26) * 2) + z40) * 2) + z54)), some (0, ((0 + 1) + 1))]) c_149_174 rfl rfl rfl ?_
                        refine n_iinc (L2 := [some (2, 112), some (0, 3), some (0, s), some (0, x3), some (1, x4), none, some (1, x6), none, some (0, (((x8 + 1) + 1) + 1)), some (0, x9), some (0, ((((((0 * 2) + z26) * 2) + z40) * 2) + z54)), some (0, (((0 + 1) + 1) + 1))]) c_149_177 rfl rfl rfl ?_
                        refine n_goto c_149_180 ?_
                        refine n_iload c_149_114 rfl ?_
                        refine n_iload_n c_149_116 rfl ?_
                        refine n_if2_ge c_149_117 (by omega) (by omega) ?_ ?_
                        · intro h56
                          refine n_lload c_149_183 rfl ?_
                          refine n_lconst (n := 1) c_149_185 rfl ?_
                          refine n_iload c_149_186 rfl ?_
                          refine n_i_lshl c_149_188 rfl ?_
                          refine n_i_lor c_149_189 rfl ?_
                          have hor := n_lor_bit27 (s := x6) (r := ((((((0 * 2) + z26) * 2) + z40) * 2) + z54)) (by omega) (by omega)
                          have hls := lset_goL (d := 2) (k := 3) (f := (fun i => Ms 115 (40 * s + i))) (num := ((((((0 * 2) + z26) * 2) + z40) * 2) + z54)) v0 v1 (by omega) (by omega) (by omega) (by show _ = (Ms 115 (40 * s + x8) * 2 + Ms 115 (40 * s + (x8 + 1))) * 2 + Ms 115 (40 * s + (x8 + 1 + 1)); omega)
                          refine n_lstore (L2 := [some (2, 112), some (0, 3), some (0, s), some (0, x3), some (1, x4), none, some (1, (n_lor x6 (n_lshl 1 ((((((0 * 2) + z26) * 2) + z40) * 2) + z54)))), none, some (0, (((x8 + 1) + 1) + 1)), some (0, x9), some (0, ((((((0 * 2) + z26) * 2) + z40) * 2) + z54)), some (0, (((0 + 1) + 1) + 1))]) c_149_190 rfl rfl ?_
                          refine n_iinc (L2 := [some (2, 112), some (0, 3), some (0, s), some (0, x3), some (1, x4), none, some (1, (n_lor x6 (n_lshl 1 ((((((0 * 2) + z26) * 2) + z40) * 2) + z54)))), none, some (0, (((x8 + 1) + 1) + 1)), some (0, (x9 + 1)), some (0, ((((((0 * 2) + z26) * 2) + z40) * 2) + z54)), some (0, (((0 + 1) + 1) + 1))]) c_149_192 rfl rfl rfl ?_
                          refine n_goto c_149_195 ?_
                          refine n_fg (le_s (le_s (le_s (le_s (le_s (le_n (le_s (le_n (le_s (le_s (le_n (le_n le_0)))))))))))) ?_
                          exact ih _ _ _ _ _ M hS (by omega) (by omega) (by omega) (by omega) (by omega) (by omega) (by omega) (by omega) (by exact hls) (by omega) (by exact ro51) (by exact v3) (by omega) (by exact v5) (by exact v6) (by exact v7) (by omega)
                        · intro h57
                          exfalso; omega
                      · intro h58
                        refine n_bipush c_149_148 rfl ?_
                        exact n_rI c_149_150 rfl ⟨hS, by omega, by omega, by exact Or.inr (Or.inr (Or.inr (Or.inl ⟨by omega, by omega, by omega, by omega, by omega, by omega, Or.inr (Or.inr ⟨by omega, by show 0 ≤ Ms 115 (40 * s + 0); omega, by show Ms 115 (40 * s + 0) ≤ 27; omega, ((x8 + 1) + 1), by omega, by show ((x8 + 1) + 1) < 1 + 3 * Ms 115 (40 * s + 0); omega, ro37, by show (Ms 113 s - 1 ≤ ((x8 + 1) + 1) ∧ _ = -6) ∨ (((x8 + 1) + 1) < Ms 113 s - 1 ∧ (Ms 115 (40 * s + ((x8 + 1) + 1)) < 0 ∨ 2 - 1 < Ms 115 (40 * s + ((x8 + 1) + 1))) ∧ _ = -4); omega⟩), fun a i _ => by rw [v6]⟩)))⟩
                    · intro h59
                      refine n_bipush c_149_126 rfl ?_
                      exact n_rI c_149_128 rfl ⟨hS, by omega, by omega, by exact Or.inr (Or.inr (Or.inr (Or.inl ⟨by omega, by omega, by omega, by omega, by omega, by omega, Or.inr (Or.inr ⟨by omega, by show 0 ≤ Ms 115 (40 * s + 0); omega, by show Ms 115 (40 * s + 0) ≤ 27; omega, ((x8 + 1) + 1), by omega, by show ((x8 + 1) + 1) < 1 + 3 * Ms 115 (40 * s + 0); omega, ro37, by show (Ms 113 s - 1 ≤ ((x8 + 1) + 1) ∧ _ = -6) ∨ (((x8 + 1) + 1) < Ms 113 s - 1 ∧ (Ms 115 (40 * s + ((x8 + 1) + 1)) < 0 ∨ 2 - 1 < Ms 115 (40 * s + ((x8 + 1) + 1))) ∧ _ = -4); omega⟩), fun a i _ => by rw [v6]⟩)))⟩
                · intro h60
                  refine n_bipush c_149_148 rfl ?_
                  exact n_rI c_149_150 rfl ⟨hS, by omega, by omega, by exact Or.inr (Or.inr (Or.inr (Or.inl ⟨by omega, by omega, by omega, by omega, by omega, by omega, Or.inr (Or.inr ⟨by omega, by show 0 ≤ Ms 115 (40 * s + 0); omega, by show Ms 115 (40 * s + 0) ≤ 27; omega, (x8 + 1), by omega, by show (x8 + 1) < 1 + 3 * Ms 115 (40 * s + 0); omega, ro23, by show (Ms 113 s - 1 ≤ (x8 + 1) ∧ _ = -6) ∨ ((x8 + 1) < Ms 113 s - 1 ∧ (Ms 115 (40 * s + (x8 + 1)) < 0 ∨ 2 - 1 < Ms 115 (40 * s + (x8 + 1))) ∧ _ = -4); omega⟩), fun a i _ => by rw [v6]⟩)))⟩
              · intro h61
                refine n_bipush c_149_126 rfl ?_
                exact n_rI c_149_128 rfl ⟨hS, by omega, by omega, by exact Or.inr (Or.inr (Or.inr (Or.inl ⟨by omega, by omega, by omega, by omega, by omega, by omega, Or.inr (Or.inr ⟨by omega, by show 0 ≤ Ms 115 (40 * s + 0); omega, by show Ms 115 (40 * s + 0) ≤ 27; omega, (x8 + 1), by omega, by show (x8 + 1) < 1 + 3 * Ms 115 (40 * s + 0); omega, ro23, by show (Ms 113 s - 1 ≤ (x8 + 1) ∧ _ = -6) ∨ ((x8 + 1) < Ms 113 s - 1 ∧ (Ms 115 (40 * s + (x8 + 1)) < 0 ∨ 2 - 1 < Ms 115 (40 * s + (x8 + 1))) ∧ _ = -4); omega⟩), fun a i _ => by rw [v6]⟩)))⟩
          · intro h62
            refine n_bipush c_149_148 rfl ?_
            exact n_rI c_149_150 rfl ⟨hS, by omega, by omega, by exact Or.inr (Or.inr (Or.inr (Or.inl ⟨by omega, by omega, by omega, by omega, by omega, by omega, Or.inr (Or.inr ⟨by omega, by show 0 ≤ Ms 115 (40 * s + 0); omega, by show Ms 115 (40 * s + 0) ≤ 27; omega, x8, by omega, by show x8 < 1 + 3 * Ms 115 (40 * s + 0); omega, v2, by show (Ms 113 s - 1 ≤ x8 ∧ _ = -6) ∨ (x8 < Ms 113 s - 1 ∧ (Ms 115 (40 * s + x8) < 0 ∨ 2 - 1 < Ms 115 (40 * s + x8)) ∧ _ = -4); omega⟩), fun a i _ => by rw [v6]⟩)))⟩
        · intro h63
          refine n_bipush c_149_126 rfl ?_
          exact n_rI c_149_128 rfl ⟨hS, by omega, by omega, by exact Or.inr (Or.inr (Or.inr (Or.inl ⟨by omega, by omega, by omega, by omega, by omega, by omega, Or.inr (Or.inr ⟨by omega, by show 0 ≤ Ms 115 (40 * s + 0); omega, by show Ms 115 (40 * s + 0) ≤ 27; omega, x8, by omega, by show x8 < 1 + 3 * Ms 115 (40 * s + 0); omega, v2, by show (Ms 113 s - 1 ≤ x8 ∧ _ = -6) ∨ (x8 < Ms 113 s - 1 ∧ (Ms 115 (40 * s + x8) < 0 ∨ 2 - 1 < Ms 115 (40 * s + x8)) ∧ _ = -4); omega⟩), fun a i _ => by rw [v6]⟩)))⟩
set_option maxHeartbeats 4000000 in
theorem mlawX3_2 {xs : List Int32} {e : Nat} {ac : Int} {M : nM} {s gd : Int} {Ms : nM} (hS : Sf 2 ac M M) (hdm : M 112 0 = 2) (hs : -2147483648 ≤ s ∧ s ≤ 2147483647) (hgd : M 112 0 = gd) (hms : M = Ms) : nW xs (e + 1) 149 0 [some (2, 112), some (0, 3), some (0, s), none, none, none, none, none, none, none, none, none] [] M (nPI fun z M1 => Sf 2 ac M1 M1 ∧ (-2147483648 ≤ z ∧ z ≤ 2147483647) ∧ (M1 112 0 = gd) ∧ (mLaw 2 3 s z Ms M1)) := by
  have hd : (2 : Int) = 2 ∨ (2 : Int) = 3 := by decide
  have hac := hS.2.2.2.2
  refine n_iload_n c_149_0 rfl ?_
  refine n_s1I c_149_1 rfl rfl rfl rfl (misSlotF_2 (s := s) hS (by omega)) ?_
  intro z1 M2 hP3
  obtain ⟨eM, f3, f3p0⟩ := hP3
  subst eM
  refine n_if0_eq c_149_4 (by omega) ?_ ?_
  · intro h4
    refine n_bipush c_149_17 rfl ?_
    exact n_rI c_149_19 rfl ⟨hS, by omega, by omega, by subst hms; exact Or.inl ⟨by omega, rfl, fun _ _ _ => rfl⟩⟩
  · intro h5
    refine n_iload_n c_149_7 rfl ?_
    refine n_iconst c_149_8 ?_
    refine n_if2_lt c_149_9 (by omega) (by omega) ?_ ?_
    · intro h6
      exfalso; omega
    · intro h7
      refine n_iload_n c_149_12 rfl ?_
      refine n_iconst c_149_13 ?_
      refine n_if2_le c_149_14 (by omega) (by omega) ?_ ?_
      · intro h8
        refine n_aload_n c_149_20 rfl ?_
        refine n_getV (bi := 7) c_149_21 sc_112.n rfl rfl rfl (t_112_7 hS) ?_
        intro z9 ez9 f10
        refine n_bipush c_149_24 rfl ?_
        refine n_if2_ne c_149_26 (by omega) (by omega) ?_ ?_
        · intro h11
          refine n_aload_n c_149_32 rfl ?_
          refine n_getR c_149_33 sc_112.n rfl rfl rfl r_112_1 ?_
          refine n_iload_n c_149_36 rfl ?_
          refine n_ialoadV c_149_37 sc_113.n rfl rfl rfl (by omega) (t_113 hS (by omega)) ?_
          intro z12 ez12 f13
          refine n_if0_ne c_149_38 (by omega) ?_ ?_
          · intro h14
            refine n_aload_n c_149_44 rfl ?_
            refine n_getR c_149_45 sc_112.n rfl rfl rfl r_112_1 ?_
            refine n_iload_n c_149_48 rfl ?_
            refine n_ialoadV c_149_49 sc_113.n rfl rfl rfl (by omega) (t_113 hS (by omega)) ?_
            intro z15 ez15 f16
            refine n_iconst c_149_50 ?_
            refine n_isub c_149_51 rfl ?_
            refine n_istore_n (L2 := [some (2, 112), some (0, 3), some (0, s), some (0, (z15 - 1)), none, none, none, none, none, none, none, none]) c_149_52 rfl rfl ?_
            refine n_iload_n c_149_53 rfl ?_
            refine n_if0_ne c_149_54 (by omega) ?_ ?_
            · intro h17
              refine n_aload_n c_149_60 rfl ?_
              refine n_getR c_149_61 sc_112.n rfl rfl rfl r_112_3 ?_
              refine n_bipush c_149_64 rfl ?_
              refine n_iload_n c_149_66 rfl ?_
              refine n_imul c_149_67 rfl ?_
              refine n_laloadV c_149_68 sc_115.n rfl rfl rfl (by omega) (t_115 hS (by omega)) ?_
              intro z18 ez18 f19
              refine n_lstore (L2 := [some (2, 112), some (0, 3), some (0, s), some (0, (z15 - 1)), some (1, z18), none, none, none, none, none, none, none]) c_149_69 rfl rfl ?_
              refine n_lload c_149_71 rfl ?_
              refine n_lconst (n := 0) c_149_73 rfl ?_
              refine n_lcmp c_149_74 ?_
              refine n_lif_lt c_149_75 (by omega) (by omega) ?_ ?_
              · intro h20
                refine n_bipush c_149_87 rfl ?_
                exact n_rI c_149_89 rfl ⟨hS, by omega, by omega, by subst hms; exact Or.inr (Or.inr (Or.inr (Or.inl ⟨by omega, by omega, by omega, by omega, by omega, by omega, Or.inr (Or.inl ⟨by omega, by show M 115 (40 * s + 0) < 0 ∨ 27 < M 115 (40 * s + 0); rw [show (40 * s + 0 : Int) = 40 * s by omega]; omega, by omega⟩), fun _ _ _ => rfl⟩)))⟩
              · intro h21
                refine n_lload c_149_78 rfl ?_
                refine n_ldc2 (n := 27) c_149_80 rfl ?_
                refine n_lcmp c_149_83 ?_
                refine n_lif_le c_149_84 (by omega) (by omega) ?_ ?_
                · intro h22
                  refine n_lconst (n := 0) c_149_90 rfl ?_
                  refine n_lstore (L2 := [some (2, 112), some (0, 3), some (0, s), some (0, (z15 - 1)), some (1, z18), none, some (1, 0), none, none, none, none, none]) c_149_91 rfl rfl ?_
                  refine n_iconst c_149_93 ?_
                  refine n_istore (L2 := [some (2, 112), some (0, 3), some (0, s), some (0, (z15 - 1)), some (1, z18), none, some (1, 0), none, some (0, 1), none, none, none]) c_149_94 rfl rfl ?_
                  refine n_iconst c_149_96 ?_
                  refine n_istore (L2 := [some (2, 112), some (0, 3), some (0, s), some (0, (z15 - 1)), some (1, z18), none, some (1, 0), none, some (0, 1), some (0, 0), none, none]) c_149_97 rfl rfl ?_
                  refine n_fg (le_s (le_s (le_s (le_s (le_s (le_n (le_s (le_n (le_s (le_s (le_n (le_n le_0)))))))))))) ?_
                  exact (mlawX3_2_c hS hdm hs hgd hms 68) _ _ _ _ _ M hS (by omega) (by omega) (by omega) (by omega) (by omega) (by omega) (by omega) (by omega) (by rfl) (by omega) (by exact fun i h0 h1 => by omega) (by subst hms; rw [show (40 * s + 0 : Int) = 40 * s by omega]; omega) (by omega) (by subst hms; omega) (by exact hms) (by subst hms; omega) (by omega)
                · intro h23
                  refine n_bipush c_149_87 rfl ?_
                  exact n_rI c_149_89 rfl ⟨hS, by omega, by omega, by subst hms; exact Or.inr (Or.inr (Or.inr (Or.inl ⟨by omega, by omega, by omega, by omega, by omega, by omega, Or.inr (Or.inl ⟨by omega, by show M 115 (40 * s + 0) < 0 ∨ 27 < M 115 (40 * s + 0); rw [show (40 * s + 0 : Int) = 40 * s by omega]; omega, by omega⟩), fun _ _ _ => rfl⟩)))⟩
            · intro h24
              refine n_bipush c_149_57 rfl ?_
              exact n_rI c_149_59 rfl ⟨hS, by omega, by omega, by subst hms; exact Or.inr (Or.inr (Or.inr (Or.inl ⟨by omega, by omega, by omega, by omega, by omega, by omega, Or.inl ⟨by omega, by omega⟩, fun _ _ _ => rfl⟩)))⟩
          · intro h25
            refine n_bipush c_149_41 rfl ?_
            exact n_rI c_149_43 rfl ⟨hS, by omega, by omega, by subst hms; exact Or.inr (Or.inr (Or.inl ⟨by omega, by omega, by omega, by omega, by omega, by omega, rfl, fun _ _ _ => rfl⟩))⟩
        · intro h26
          refine n_bipush c_149_29 rfl ?_
          exact n_rI c_149_31 rfl ⟨hS, by omega, by omega, by subst hms; exact Or.inr (Or.inl ⟨by omega, by omega, by omega, by omega, by omega, rfl, fun _ _ _ => rfl⟩)⟩
      · intro h27
        exfalso; omega

set_option maxHeartbeats 4000000 in
theorem rstartX_2 {xs : List Int32} {e : Nat} {ac : Int} {M : nM} {u gd : Int} (hS : Sf 2 ac M M) (hu : 1 ≤ u ∧ u ≤ 8) (hgd : M 112 0 = gd) : nW xs e 74 0 [some (2, 32), some (0, u)] [] M (nPV fun M1 => Sf 2 ac M1 M1 ∧ (M1 112 0 = gd) ∧ (M1 32 0 = u ∧ M1 32 1 = 0 ∧ ∀ a i : Int, ¬ (a = 32 ∧ (i = 0 ∨ i = 1)) → M1 a i = M a i)) := by
  have hd : (2 : Int) = 2 ∨ (2 : Int) = 3 := by decide
  have hac := hS.2.2.2.2
  refine n_aload_n c_74_0 rfl ?_
  refine n_iload_n c_74_1 rfl ?_
  refine n_putM (bi := 0) hS c_74_2 sc_32.n rfl rfl rfl rfl (m_32_0 (by omega)) ?_
  intro M1 eM1 hS1
  have g1_0 : M1 112 0 = M 112 0 := by rw [eM1]; exact nu_a (by omega)
  have g1_1 : M1 32 0 = u := by rw [eM1]; exact nu_s _ _ _ _
  refine n_aload_n c_74_5 rfl ?_
  refine n_iconst c_74_6 ?_
  refine n_putM (bi := 1) hS1 c_74_7 sc_32.n rfl rfl rfl rfl (m_32_1 (by omega)) ?_
  intro M2 eM2 hS2
  have g2_0 : M2 112 0 = M1 112 0 := by rw [eM2]; exact nu_a (by omega)
  have g2_1 : M2 32 0 = M1 32 0 := by rw [eM2]; exact nu_i (by omega)
  have g2_2 : M2 32 1 = 0 := by rw [eM2]; exact nu_s _ _ _ _
  exact n_rV c_74_10 rfl ⟨hS2, by omega, by exact ⟨by rw [eM2, nu_i (by omega), eM1, nu_s], by rw [eM2, nu_s], fun a i q => by rw [eM2, nu_e, if_neg (by omega), eM1, nu_e, if_neg (by omega)]⟩⟩

set_option maxHeartbeats 4000000 in
theorem riddleX_2 {xs : List Int32} {e : Nat} {ac : Int} {M : nM} {u gd : Int} (hS : Sf 2 ac M M) (hu : -2147483648 ≤ u ∧ u ≤ 2147483647) (hgd : M 112 0 = gd) : nW xs (e + 1) 115 0 [some (2, 3), some (0, u)] [] M (nPI fun z M1 => Sf 2 ac M1 M1 ∧ (0 ≤ z ∧ z ≤ 1) ∧ (M1 112 0 = gd) ∧ (cRid u z M M1)) := by
  have hd : (2 : Int) = 2 ∨ (2 : Int) = 3 := by decide
  have hac := hS.2.2.2.2
  refine n_iload_n c_115_0 rfl ?_
  refine n_iconst c_115_1 ?_
  refine n_if2_lt c_115_2 (by omega) (by omega) ?_ ?_
  · intro h1
    refine n_iconst c_115_11 ?_
    exact n_rZ c_115_12 rfl (by omega) ⟨hS, by omega, by omega, by exact Or.inl ⟨by omega, rfl, fun _ _ _ => rfl⟩⟩
  · intro h2
    refine n_iload_n c_115_5 rfl ?_
    refine n_bipush c_115_6 rfl ?_
    refine n_if2_le c_115_8 (by omega) (by omega) ?_ ?_
    · intro h3
      refine n_aload_n c_115_13 rfl ?_
      refine n_getR c_115_14 sc_3.n rfl rfl rfl r_3_6 ?_
      refine n_iload_n c_115_17 rfl ?_
      refine n_v1V c_115_18 rfl sc_32.n rfl rfl rfl rfl (rstartX_2 (u := u) (gd := (M 112 0)) hS (by omega) rfl) ?_
      intro  M4 hP5
      obtain ⟨hS4, f5g0, f5p0⟩ := hP5
      refine n_aload_n c_115_21 rfl ?_
      refine n_iconst c_115_22 ?_
      refine n_putZM (bi := 18) hS4 c_115_23 sc_3.n rfl rfl rfl (by omega) rfl (m_3_18 (by omega)) ?_
      intro M6 eM6 hS6
      have g6_0 : M6 112 0 = M4 112 0 := by rw [eM6]; exact nu_a (by omega)
      have g6_1 : M6 3 18 = 0 := by rw [eM6]; exact nu_s _ _ _ _
      refine n_iconst c_115_26 ?_
      exact n_rZ c_115_27 rfl (by omega) ⟨hS6, by omega, by omega, by exact Or.inr ⟨by omega, by omega, rfl, by rw [eM6, nu_a (by omega)]; exact f5p0.1, by rw [eM6, nu_a (by omega)]; exact f5p0.2.1, fun a i hc q => by rw [eM6, nu_e, if_neg (by unfold core at hc; omega)]; exact f5p0.2.2 a i q⟩⟩
    · intro h7
      refine n_iconst c_115_11 ?_
      exact n_rZ c_115_12 rfl (by omega) ⟨hS, by omega, by omega, by exact Or.inl ⟨by omega, rfl, fun _ _ _ => rfl⟩⟩

set_option maxHeartbeats 4000000 in
theorem mriddleX_2 {xs : List Int32} {e : Nat} {ac : Int} {M : nM} {u gd : Int} (hS : Sf 2 ac M M) (hdm : M 112 0 = 2) (hu : -2147483648 ≤ u ∧ u ≤ 2147483647) (hgd : M 112 0 = gd) : nW xs e 187 0 [some (2, 112), some (0, u)] [] M (nPI fun z M1 => Sf 2 ac M1 M1 ∧ (0 ≤ z ∧ z ≤ 1) ∧ (M1 112 0 = gd) ∧ (mRid u z M M1)) := by
  have hd : (2 : Int) = 2 ∨ (2 : Int) = 3 := by decide
  have hac := hS.2.2.2.2
  refine n_iload_n c_187_0 rfl ?_
  refine n_iconst c_187_1 ?_
  refine n_if2_lt c_187_2 (by omega) (by omega) ?_ ?_
  · intro h1
    refine n_iconst c_187_11 ?_
    exact n_rZ c_187_12 rfl (by omega) ⟨hS, by omega, by omega, by exact Or.inl ⟨by omega, rfl, fun _ _ _ => rfl⟩⟩
  · intro h2
    refine n_iload_n c_187_5 rfl ?_
    refine n_bipush c_187_6 rfl ?_
    refine n_if2_le c_187_8 (by omega) (by omega) ?_ ?_
    · intro h3
      refine n_aload_n c_187_13 rfl ?_
      refine n_iload_n c_187_14 rfl ?_
      refine n_putG (P := Sq 2 ac) (bi := 10) c_187_15 sc_112.n rfl rfl rfl rfl (hS.sq.u (by omega) (show (1 : Int) ≤ u ∧ u ≤ (8 : Int) by omega)) ?_
      intro M4 eM4 hQ4
      have g4_0 : M4 112 0 = M 112 0 := by rw [eM4]; exact nu_i (by omega)
      have g4_1 : M4 112 10 = u := by rw [eM4]; exact nu_s _ _ _ _
      refine n_aload_n c_187_18 rfl ?_
      refine n_iconst c_187_19 ?_
      refine n_putG (P := Sq 2 ac) (bi := 11) c_187_20 sc_112.n rfl rfl rfl rfl (hQ4.u (by omega) (show (0 : Int) ≤ 0 ∧ 0 ≤ (30 : Int) by omega)) ?_
      intro M5 eM5 hQ5
      have g5_0 : M5 112 0 = M4 112 0 := by rw [eM5]; exact nu_i (by omega)
      have g5_1 : M5 112 10 = M4 112 10 := by rw [eM5]; exact nu_i (by omega)
      have g5_2 : M5 112 11 = 0 := by rw [eM5]; exact nu_s _ _ _ _
      have hS5 := hQ5.sf (AK.none (by omega))
      refine n_iconst c_187_23 ?_
      exact n_rZ c_187_24 rfl (by omega) ⟨hS5, by omega, by omega, by exact Or.inr ⟨by omega, by omega, rfl, by rw [eM5, nu_i (by omega), eM4, nu_s], by rw [eM5, nu_s], fun a i hc q => by rw [eM5, nu_e, if_neg (by omega), eM4, nu_e, if_neg (by omega)]⟩⟩
    · intro h6
      refine n_iconst c_187_11 ?_
      exact n_rZ c_187_12 rfl (by omega) ⟨hS, by omega, by omega, by exact Or.inl ⟨by omega, rfl, fun _ _ _ => rfl⟩⟩

set_option maxHeartbeats 4000000 in
theorem rstartWX_2 {xs : List Int32} {e : Nat} {ac : Int} {M : nM} (hS : Sw 2 ac M)  : nW xs e 74 0 [some (2, 32), some (0, 1)] [] M (nPV fun M1 => Sw 2 ac M1 ∧ (∀ a i : Int, a ≠ 32 → M1 a i = M a i) ∧ (M1 32 0 = 1 ∧ M1 32 1 = 0)) := by
  have hd : (2 : Int) = 2 ∨ (2 : Int) = 3 := by decide
  have hac := hS.2.2.2.2
  refine n_aload_n c_74_0 rfl ?_
  refine n_iload_n c_74_1 rfl ?_
  refine n_putW (bi := 0) hS c_74_2 sc_32.n rfl rfl rfl rfl (fun h => h.m (m_32_0 (by omega))) ?_
  intro M1 eM1 hS1
  have g1_0 : M1 32 0 = 1 := by rw [eM1]; exact nu_s _ _ _ _
  refine n_aload_n c_74_5 rfl ?_
  refine n_iconst c_74_6 ?_
  refine n_putW (bi := 1) hS1 c_74_7 sc_32.n rfl rfl rfl rfl (fun h => h.m (m_32_1 (by omega))) ?_
  intro M2 eM2 hS2
  have g2_0 : M2 32 0 = M1 32 0 := by rw [eM2]; exact nu_i (by omega)
  have g2_1 : M2 32 1 = 0 := by rw [eM2]; exact nu_s _ _ _ _
  exact n_rV c_74_10 rfl ⟨hS2, by exact fun a i ha => by rw [eM2, nu_a ha, eM1, nu_a ha], by exact ⟨by rw [eM2, nu_i (by omega), eM1, nu_s], by rw [eM2, nu_s]⟩⟩

set_option maxHeartbeats 4000000 in
theorem startOverX2_2 {xs : List Int32} {e : Nat} {ac : Int} {M : nM} (hSf : Sf 2 ac M M)  : nW xs (e + 2) 122 0 [some (2, 3), some (0, 2)] [] M (nPV fun M1 => Sf 2 0 M1 M1 ∧ (M1 112 0 = M 112 0) ∧ (cFre M M1)) := by
  have hS := hSf.sw
  have hd : (2 : Int) = 2 ∨ (2 : Int) = 3 := by decide
  have hac := hS.2.2.2.2
  refine n_aload_n c_122_0 rfl ?_
  refine n_getR c_122_1 sc_3.n rfl rfl rfl r_3_0 ?_
  refine n_iload_n c_122_4 rfl ?_
  refine n_v1V c_122_5 rfl sc_4.n rfl rfl rfl rfl (baseSet2_2 (Ms := M) hS (by exact hSf.b3 hd) (by rfl)) ?_
  intro  M1 hP2
  obtain ⟨hS1, f2p0⟩ := hP2
  refine n_aload_n c_122_8 rfl ?_
  refine n_getR c_122_9 sc_3.n rfl rfl rfl r_3_12 ?_
  refine n_iload_n c_122_12 rfl ?_
  refine n_iload_n c_122_13 rfl ?_
  refine n_imul c_122_14 rfl ?_
  refine n_iload_n c_122_15 rfl ?_
  refine n_iconst c_122_16 ?_
  have hcst : ((2 * 2) : Int) = 4 := by omega
  rw [hcst]
  refine n_v3V c_122_17 rfl sc_52.n rfl rfl rfl rfl (weighW2_2 (Ms := M1) hS1 (by exact fun _ _ _ _ => rfl) (by exact fun _ => rfl)) ?_
  intro  M3 hP4
  obtain ⟨hS3, f4p0, f4p1, f4p2⟩ := hP4
  refine n_aload_n c_122_20 rfl ?_
  refine n_iconst c_122_21 ?_
  refine n_putW (bi := 14) hS3 c_122_22 sc_3.n rfl rfl rfl rfl (fun h => h.s (by unfold sp; omega)) ?_
  intro M5 eM5 hS5
  have g5_0 : M5 3 14 = 0 := by rw [eM5]; exact nu_s _ _ _ _
  refine n_aload_n c_122_25 rfl ?_
  refine n_iconst c_122_26 ?_
  refine n_putW (bi := 15) hS5 c_122_27 sc_3.n rfl rfl rfl rfl (fun h => h.m (m_3_15 (by omega))) ?_
  intro M6 eM6 hS6
  have g6_0 : M6 3 14 = M5 3 14 := by rw [eM6]; exact nu_i (by omega)
  have g6_1 : M6 3 15 = 0 := by rw [eM6]; exact nu_s _ _ _ _
  refine n_aload_n c_122_30 rfl ?_
  refine n_v0V c_122_31 rfl sc_3.n rfl rfl rfl rfl (forgetW_2 (Ms := M6) hS6 (by exact fun _ _ _ => rfl)) ?_
  intro  M7 hP8
  obtain ⟨hS7, f8p0⟩ := hP8
  refine n_aload_n c_122_34 rfl ?_
  refine n_iconst c_122_35 ?_
  refine n_putW (bi := 17) hS7 c_122_36 sc_3.n rfl rfl rfl rfl (fun h => h.m (m_3_17 (by omega))) ?_
  intro M9 eM9 hS9
  have g9_0 : M9 3 17 = 0 := by rw [eM9]; exact nu_s _ _ _ _
  refine n_aload_n c_122_39 rfl ?_
  refine n_getR c_122_40 sc_3.n rfl rfl rfl r_3_6 ?_
  refine n_iconst c_122_43 ?_
  refine n_v1V c_122_44 rfl sc_32.n rfl rfl rfl rfl (rstartWX_2  hS9 ) ?_
  intro  M10 hP11
  obtain ⟨hS10, f11p0, f11p1⟩ := hP11
  refine n_aload_n c_122_47 rfl ?_
  refine n_iconst c_122_48 ?_
  refine n_putZW (bi := 18) hS10 c_122_49 sc_3.n rfl rfl rfl (by omega) rfl (fun h => h.m (m_3_18 (by omega))) ?_
  intro M12 eM12 hS12
  have g12_0 : M12 3 18 = 0 := by rw [eM12]; exact nu_s _ _ _ _
  refine n_jk (v := 2 * 2 * 2) ?_
  intro My fy jy
  have A : ∀ a i : Int, a ≠ 3 → a ≠ 32 → (a < 103 ∨ 111 < a) → M12 a i = M3 a i := fun a i h1 h2 h3 => by rw [eM12, nu_a h1, f11p0 a i h2, eM9, nu_a h1, f8p0 a i h3, eM6, nu_a h1, eM5, nu_a h1]
  have B := f2p0.fr (M2 := My) (fun a i h1 h2 h3 => by rw [fy a i h3, A a i (by omega) (by omega) (by omega), f4p0 a i (by omega) (by omega)])
  have C52 : ∀ i : Int, My 52 i = M3 52 i := fun i => by rw [fy 52 i (by omega), A 52 i (by omega) (by omega) (by omega)]
  have C3 : My 3 14 = 0 := by rw [fy 3 14 (by omega), eM12, nu_i (by omega), f11p0 3 14 (by omega), eM9, nu_i (by omega), f8p0 3 14 (by omega), eM6, nu_i (by omega), eM5, nu_s]
  have C112 : My 112 0 = M 112 0 := by rw [fy 112 0 (by omega), A 112 0 (by omega) (by omega) (by omega), f4p0 112 0 (by omega) (by omega), f2p0.2.2.2.2 112 0 (by omega)]
  have C5 : ∀ i : Int, 0 ≤ i → i ≠ 1 → i ≠ 2 → My 52 i = 1 := fun i h0 h1 h2 => by
    rw [C52 i]
    by_cases h3 : i = 3
    · rw [h3]; exact f4p1.2.2
    · rw [f4p2 i h1 h2 h3, f2p0.2.2.2.2 52 i (by omega)]
      have t := hSf.1 52 i h0
      have u : tb 2 ac 52 i = if i = 1 then (2 * 2, 2 * 2) else if i = 2 then (2, 2) else (1, 1) := rfl
      rw [u, if_neg h1, if_neg h2] at t
      have t1 : (1 : Int) ≤ M 52 i := t.1
      have t2 : M 52 i ≤ (1 : Int) := t.2
      omega
  have D : Sf 2 0 My My := Sf.fromW (hS12.of (fun a i q => fy a i (fun w => q (by unfold sp; omega)))) hd B jy (by rw [C52]; have := f4p1.1; omega) (by rw [C52]; exact f4p1.2.1) C5 C3
  have C315 : My 3 15 = 0 := by rw [fy 3 15 (by omega), eM12, nu_i (by omega), f11p0 3 15 (by omega), eM9, nu_i (by omega), f8p0 3 15 (by omega), eM6, nu_s]
  have C320 : My 32 0 = 1 := by rw [fy 32 0 (by omega), eM12, nu_a (by omega)]; exact f11p1.1
  have C321 : My 32 1 = 0 := by rw [fy 32 1 (by omega), eM12, nu_a (by omega)]; exact f11p1.2
  have CF : ∀ a i : Int, (8 ≤ a ∧ a ≤ 11) ∨ 112 ≤ a → My a i = M a i := fun a i q => by rw [fy a i (by omega), A a i (by omega) (by omega) (by omega), f4p0 a i (by omega) (by omega), f2p0.2.2.2.2 a i (by omega)]
  exact n_rV c_122_52 rfl ⟨D, C112, C315, C320, C321, CF⟩

set_option maxHeartbeats 4000000 in
theorem freshX2_2_c {xs : List Int32} {e : Nat} {ac : Int} {M : nM} (hS : Sf 2 ac M M)  : ∀ nn : Nat, (∀ (M : nM), Sf 2 ac M M → 1 < (nn : Int) → nW xs (e + 3) 93 12 [some (2, 3), some (0, 2)] [] M (nPI fun z M1 => Sf 2 0 M1 M1 ∧ (1 ≤ z ∧ z ≤ 1) ∧ (M1 112 0 = M 112 0) ∧ (cFre M M1))) := by
  have hd : (2 : Int) = 2 ∨ (2 : Int) = 3 := by decide
  have hac := hS.2.2.2.2
  intro nn
  induction nn with
  | zero => intros; omega
  | succ nn ih =>
    intro M hS hnn
    refine n_aload_n c_93_12 rfl ?_
    refine n_iload_n c_93_13 rfl ?_
    refine n_v1V c_93_14 rfl sc_3.n rfl rfl rfl rfl (startOverX2_2  hS ) ?_
    intro  M1 hP2
    obtain ⟨hS1, f2p0, f2p1⟩ := hP2
    refine n_iconst c_93_17 ?_
    exact n_rZ c_93_18 rfl (by omega) ⟨hS1, by omega, by omega, by exact f2p1⟩
set_option maxHeartbeats 4000000 in
theorem freshX2_2 {xs : List Int32} {e : Nat} {ac : Int} {M : nM} (hS : Sf 2 ac M M)  : nW xs (e + 3) 93 0 [some (2, 3), some (0, 2)] [] M (nPI fun z M1 => Sf 2 0 M1 M1 ∧ (1 ≤ z ∧ z ≤ 1) ∧ (M1 112 0 = M 112 0) ∧ (cFre M M1)) := by
  have hd : (2 : Int) = 2 ∨ (2 : Int) = 3 := by decide
  have hac := hS.2.2.2.2
  refine n_iload_n c_93_0 rfl ?_
  refine n_iconst c_93_1 ?_
  refine n_if2_eq c_93_2 (by omega) (by omega) ?_ ?_
  · intro h1
    refine n_fg (le_s (le_s le_0)) ?_
    exact (freshX2_2_c hS  12)  M hS  (by omega)
  · intro h2
    exfalso; omega

set_option maxHeartbeats 4000000 in
theorem startOverX3_2 {xs : List Int32} {e : Nat} {ac : Int} {M : nM} (hSf : Sf 2 ac M M)  : nW xs (e + 2) 122 0 [some (2, 3), some (0, 3)] [] M (nPV fun M1 => Sf 3 0 M1 M1 ∧ (M1 112 0 = M 112 0) ∧ (cFre M M1)) := by
  have hS := hSf.sw
  have hd : (2 : Int) = 2 ∨ (2 : Int) = 3 := by decide
  have hac := hS.2.2.2.2
  refine n_aload_n c_122_0 rfl ?_
  refine n_getR c_122_1 sc_3.n rfl rfl rfl r_3_0 ?_
  refine n_iload_n c_122_4 rfl ?_
  refine n_v1V c_122_5 rfl sc_4.n rfl rfl rfl rfl (baseSet3_2 (Ms := M) hS (by exact hSf.b3 hd) (by rfl)) ?_
  intro  M1 hP2
  obtain ⟨hS1, f2p0⟩ := hP2
  refine n_aload_n c_122_8 rfl ?_
  refine n_getR c_122_9 sc_3.n rfl rfl rfl r_3_12 ?_
  refine n_iload_n c_122_12 rfl ?_
  refine n_iload_n c_122_13 rfl ?_
  refine n_imul c_122_14 rfl ?_
  refine n_iload_n c_122_15 rfl ?_
  refine n_iconst c_122_16 ?_
  have hcst : ((3 * 3) : Int) = 9 := by omega
  rw [hcst]
  refine n_v3V c_122_17 rfl sc_52.n rfl rfl rfl rfl (weighW3_2 (Ms := M1) hS1 (by exact fun _ _ _ _ => rfl) (by exact fun _ => rfl)) ?_
  intro  M3 hP4
  obtain ⟨hS3, f4p0, f4p1, f4p2⟩ := hP4
  refine n_aload_n c_122_20 rfl ?_
  refine n_iconst c_122_21 ?_
  refine n_putW (bi := 14) hS3 c_122_22 sc_3.n rfl rfl rfl rfl (fun h => h.s (by unfold sp; omega)) ?_
  intro M5 eM5 hS5
  have g5_0 : M5 3 14 = 0 := by rw [eM5]; exact nu_s _ _ _ _
  refine n_aload_n c_122_25 rfl ?_
  refine n_iconst c_122_26 ?_
  refine n_putW (bi := 15) hS5 c_122_27 sc_3.n rfl rfl rfl rfl (fun h => h.m (m_3_15 (by omega))) ?_
  intro M6 eM6 hS6
  have g6_0 : M6 3 14 = M5 3 14 := by rw [eM6]; exact nu_i (by omega)
  have g6_1 : M6 3 15 = 0 := by rw [eM6]; exact nu_s _ _ _ _
  refine n_aload_n c_122_30 rfl ?_
  refine n_v0V c_122_31 rfl sc_3.n rfl rfl rfl rfl (forgetW_2 (Ms := M6) hS6 (by exact fun _ _ _ => rfl)) ?_
  intro  M7 hP8
  obtain ⟨hS7, f8p0⟩ := hP8
  refine n_aload_n c_122_34 rfl ?_
  refine n_iconst c_122_35 ?_
  refine n_putW (bi := 17) hS7 c_122_36 sc_3.n rfl rfl rfl rfl (fun h => h.m (m_3_17 (by omega))) ?_
  intro M9 eM9 hS9
  have g9_0 : M9 3 17 = 0 := by rw [eM9]; exact nu_s _ _ _ _
  refine n_aload_n c_122_39 rfl ?_
  refine n_getR c_122_40 sc_3.n rfl rfl rfl r_3_6 ?_
  refine n_iconst c_122_43 ?_
  refine n_v1V c_122_44 rfl sc_32.n rfl rfl rfl rfl (rstartWX_2  hS9 ) ?_
  intro  M10 hP11
  obtain ⟨hS10, f11p0, f11p1⟩ := hP11
  refine n_aload_n c_122_47 rfl ?_
  refine n_iconst c_122_48 ?_
  refine n_putZW (bi := 18) hS10 c_122_49 sc_3.n rfl rfl rfl (by omega) rfl (fun h => h.m (m_3_18 (by omega))) ?_
  intro M12 eM12 hS12
  have g12_0 : M12 3 18 = 0 := by rw [eM12]; exact nu_s _ _ _ _
  refine n_jk (v := 3 * 3 * 3) ?_
  intro My fy jy
  have A : ∀ a i : Int, a ≠ 3 → a ≠ 32 → (a < 103 ∨ 111 < a) → M12 a i = M3 a i := fun a i h1 h2 h3 => by rw [eM12, nu_a h1, f11p0 a i h2, eM9, nu_a h1, f8p0 a i h3, eM6, nu_a h1, eM5, nu_a h1]
  have B := f2p0.fr (M2 := My) (fun a i h1 h2 h3 => by rw [fy a i h3, A a i (by omega) (by omega) (by omega), f4p0 a i (by omega) (by omega)])
  have C52 : ∀ i : Int, My 52 i = M3 52 i := fun i => by rw [fy 52 i (by omega), A 52 i (by omega) (by omega) (by omega)]
  have C3 : My 3 14 = 0 := by rw [fy 3 14 (by omega), eM12, nu_i (by omega), f11p0 3 14 (by omega), eM9, nu_i (by omega), f8p0 3 14 (by omega), eM6, nu_i (by omega), eM5, nu_s]
  have C112 : My 112 0 = M 112 0 := by rw [fy 112 0 (by omega), A 112 0 (by omega) (by omega) (by omega), f4p0 112 0 (by omega) (by omega), f2p0.2.2.2.2 112 0 (by omega)]
  have C5 : ∀ i : Int, 0 ≤ i → i ≠ 1 → i ≠ 2 → My 52 i = 1 := fun i h0 h1 h2 => by
    rw [C52 i]
    by_cases h3 : i = 3
    · rw [h3]; exact f4p1.2.2
    · rw [f4p2 i h1 h2 h3, f2p0.2.2.2.2 52 i (by omega)]
      have t := hSf.1 52 i h0
      have u : tb 2 ac 52 i = if i = 1 then (2 * 2, 2 * 2) else if i = 2 then (2, 2) else (1, 1) := rfl
      rw [u, if_neg h1, if_neg h2] at t
      have t1 : (1 : Int) ≤ M 52 i := t.1
      have t2 : M 52 i ≤ (1 : Int) := t.2
      omega
  have D : Sf 3 0 My My := Sf.fromW (hS12.of (fun a i q => fy a i (fun w => q (by unfold sp; omega)))) hd B jy (by rw [C52]; have := f4p1.1; omega) (by rw [C52]; exact f4p1.2.1) C5 C3
  have C315 : My 3 15 = 0 := by rw [fy 3 15 (by omega), eM12, nu_i (by omega), f11p0 3 15 (by omega), eM9, nu_i (by omega), f8p0 3 15 (by omega), eM6, nu_s]
  have C320 : My 32 0 = 1 := by rw [fy 32 0 (by omega), eM12, nu_a (by omega)]; exact f11p1.1
  have C321 : My 32 1 = 0 := by rw [fy 32 1 (by omega), eM12, nu_a (by omega)]; exact f11p1.2
  have CF : ∀ a i : Int, (8 ≤ a ∧ a ≤ 11) ∨ 112 ≤ a → My a i = M a i := fun a i q => by rw [fy a i (by omega), A a i (by omega) (by omega) (by omega), f4p0 a i (by omega) (by omega), f2p0.2.2.2.2 a i (by omega)]
  exact n_rV c_122_52 rfl ⟨D, C112, C315, C320, C321, CF⟩
