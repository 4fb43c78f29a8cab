/-! What the methods tell. -/
set_option maxHeartbeats 4000000 in
theorem beginX_1_3 {xs : List Int32} {e : Nat} {ac : Int} {M : nM} {Ms : nM} (hS : Sf 3 ac M M) (hB : M 15 0 = 4) (hpz : PZ M) (hfm : FM Ms M) : nW xs (e + 3) 50 0 [some (2, 15), some (0, 1), none] [] M (nPV fun M1 => Sf 3 ac M1 M1 ∧ MK 27 27 26 0 0 1 3 9 0 0 0 0 0 0 M1 ∧ (MI 3 3 1 ac Ms M1) ∧ (∀ j : Int, 0 ≤ j → j < 1 → HAS M1 (mpj 3 3 j)) ∧ (FM Ms M1) ∧ (VS 3 3 1 ac Ms M1) ∧ (∀ j : Int, 0 ≤ j → j < 1 → HSs M1 (mpj 3 3 j) 0)) := by
  have hd : (3 : Int) = 2 ∨ (3 : Int) = 3 := by decide
  have hac := hS.2.2.2.2
  refine n_aload_n c_50_0 rfl ?_
  refine n_getB c_50_1 hB ?_
  refine n_iload_n c_50_4 rfl ?_
  refine n_v1I c_50_5 rfl sc_4.n rfl rfl rfl rfl (power1_3  hS ) ?_
  intro z1 M2 hP3
  obtain ⟨eM, f3⟩ := hP3
  subst eM
  obtain rfl : z1 = 3 := by omega
  refine n_istore_n (L2 := [some (2, 15), some (0, 1), some (0, 3)]) c_50_8 rfl rfl ?_
  refine n_aload_n c_50_9 rfl ?_
  refine n_getP c_50_10 ?_
  intro p4 ep4
  refine n_alenP hS c_50_13 ep4 ?_
  intro z5 hz5
  refine n_aload_n c_50_14 rfl ?_
  refine n_getB c_50_15 hB ?_
  refine n_iload_n c_50_18 rfl ?_
  refine n_v1I c_50_19 rfl sc_4.n rfl rfl rfl rfl (codes1_3  hS ) ?_
  intro z6 M7 hP8
  obtain ⟨eM, f8⟩ := hP8
  subst eM
  obtain rfl : z6 = 27 := by omega
  refine n_if2_ge c_50_22 (by omega) (by omega) ?_ ?_
  · intro h9
    refine n_aload_n c_50_34 rfl ?_
    refine n_aload_n c_50_35 rfl ?_
    refine n_getR c_50_36 sc_15.n rfl rfl rfl r_15_6 ?_
    refine n_iconst c_50_39 ?_
    refine n_iload_n c_50_40 rfl ?_
    refine n_v3V c_50_41 rfl sc_15.n rfl rfl rfl rfl (weighFrom25_1_3 (Ms := M) hS (by exact hB)) ?_
    intro  M10 hP11
    obtain ⟨hS10, f11p0, f11p1⟩ := hP11
    have hS10c := hS10.2.2.2.1.1
    have hS10 := hS10.refl
    have hBM10 := (f11p0 15 0 (by omega) (by omega)).trans hB
    have hPM10 := f11p0 15 9 (by omega) (by omega)
    refine n_aload_n c_50_44 rfl ?_
    refine n_aload_n c_50_45 rfl ?_
    refine n_getR c_50_46 sc_15.n rfl rfl rfl r_15_7 ?_
    refine n_iconst c_50_49 ?_
    refine n_iload_n c_50_50 rfl ?_
    refine n_v3V c_50_51 rfl sc_15.n rfl rfl rfl rfl (weighFrom27_1_3 (Ms := M10) hS10 (by exact hBM10)) ?_
    intro  M12 hP13
    obtain ⟨hS12, f13p0, f13p1⟩ := hP13
    have hS12c := hS12.2.2.2.1.1
    have hS12 := hS12.refl
    have hBM12 := (f13p0 15 0 (by omega) (by omega)).trans hBM10
    have hPM12 := f13p0 15 9 (by omega) (by omega)
    have f11p1M12 := f11p1.of (fun i => f13p0 25 i (by omega) (by omega)) (fun i => f13p0 26 i (by omega) (by omega))
    refine n_aload_n c_50_54 rfl ?_
    refine n_aload_n c_50_55 rfl ?_
    refine n_getR c_50_56 sc_15.n rfl rfl rfl r_15_8 ?_
    refine n_bipush c_50_59 rfl ?_
    refine n_iload_n c_50_61 rfl ?_
    refine n_v3V c_50_62 rfl sc_15.n rfl rfl rfl rfl (weighFrom29_1_3 (Ms := M12) hS12 (by exact hBM12)) ?_
    intro  M14 hP15
    obtain ⟨hS14, f15p0, f15p1⟩ := hP15
    have hS14c := hS14.2.2.2.1.1
    have hS14 := hS14.refl
    have hBM14 := (f15p0 15 0 (by omega) (by omega)).trans hBM12
    have hPM14 := f15p0 15 9 (by omega) (by omega)
    have f11p1M12M14 := f11p1M12.of (fun i => f15p0 25 i (by omega) (by omega)) (fun i => f15p0 26 i (by omega) (by omega))
    have f13p1M14 := f13p1.of (fun i => f15p0 27 i (by omega) (by omega)) (fun i => f15p0 28 i (by omega) (by omega))
    refine n_aload_n c_50_65 rfl ?_
    refine n_iconst c_50_66 ?_
    refine n_putM (bi := 10) hS14 c_50_67 sc_15.n rfl rfl rfl rfl (m_15_10 (by omega)) ?_
    intro M16 eM16 hS16
    have g16_0 : M16 15 10 = 0 := by rw [eM16]; exact nu_s _ _ _ _
    have qa : M16 15 0 = M14 15 0 := by rw [eM16]; exact nu_i (by omega)
    have qb : M16 15 9 = M14 15 9 := by rw [eM16]; exact nu_i (by omega)
    have hKb : MK 27 27 26 0 0 1 3 9 0 0 0 0 0 0 M16 := MK.mk0 (qa.trans hBM14) (by omega) (by omega) (by omega) (by omega) (f11p1M12M14.of (fun i => by rw [eM16]; exact nu_a (by omega)) (fun i => by rw [eM16]; exact nu_a (by omega))) (f13p1M14.of (fun i => by rw [eM16]; exact nu_a (by omega)) (fun i => by rw [eM16]; exact nu_a (by omega))) (f15p1.of (fun i => by rw [eM16]; exact nu_a (by omega)) (fun i => by rw [eM16]; exact nu_a (by omega)))
    have fw : ∀ a i : Int, (a < 25 ∨ 30 < a) → ¬ (a = 15 ∧ i = 10) → M16 a i = M a i := fun a i h1 h2 => by rw [eM16, nu_e, if_neg h2, f15p0 a i (by omega) (by omega), f13p0 a i (by omega) (by omega), f11p0 a i (by omega) (by omega)]
    have pzb : PZ M := hpz
    have fmb : FM Ms M := hfm
    have pz0 : PZ M16 := fun c c0 => by rw [fw 15 9 (by omega) (by omega), fw _ c (by have y := hS16.p9; rw [fw 15 9 (by omega) (by omega)] at y; omega) (by have y := hS16.p9; rw [fw 15 9 (by omega) (by omega)] at y; omega)]; exact pzb c c0
    have fm0 : FM Ms M16 := fun a i p1 p2 p3 => (fw a i (by omega) (by omega)).trans (fmb a i p1 p2 p3)
    have c10 : M16 15 10 = 0 := by rw [eM16]; exact nu_s _ _ _ _
    have mi0 : MI 3 3 1 ac Ms M16 := MI.ini pz0 (by omega)
    have vs0 : VS 3 3 1 ac Ms M16 := fun i i0 i1 => by omega
    refine n_aload_n c_50_70 rfl ?_
    refine n_aload_n c_50_71 rfl ?_
    refine n_aload_n c_50_72 rfl ?_
    refine n_getB c_50_73 hKb.b ?_
    refine n_getR c_50_76 sc_4.n rfl rfl rfl r_4_4 ?_
    refine n_iload_n c_50_79 rfl ?_
    refine n_v2I c_50_80 rfl sc_15.n rfl rfl rfl rfl (codeOfX7_1_3  hS16 (by exact hKb.b)) ?_
    intro z17 M18 hP19
    obtain ⟨eM, f19⟩ := hP19
    subst eM
    obtain rfl : z17 = 21 := by omega
    refine n_iconst c_50_83 ?_
    refine n_v2V c_50_84 rfl sc_15.n rfl rfl rfl rfl (addX_1_3 (c := 21) (s := 0) (Ms := Ms) hS16 (by omega) (by omega) hKb (by exact mi0) (by exact pz0 _ (by omega)) (by exact Clo.pj (j := 0) (by decide +kernel) (by omega) (by omega))) ?_
    intro  M20 hP21
    obtain ⟨hS20, f21K, f21p0, f21p1, f21p2, f21p3, f21p4⟩ := hP21
    have fm1 : FM Ms M20 := fm0.tr f21p3.fb.1
    have n0 : M20 15 10 = 1 := by have y := f21p2; unfold AD at y; omega
    have v0x : M20 20 0 = 21 := by have y := f21p2; unfold AD at y; have y2 : M16 15 10 = 0 := (by omega); rw [y2] at y; exact (y.resolve_left (by omega)).2
    have vs1 := f21p4.vs vs0 (VAL.pj (j := 0) (by decide +kernel) (by omega) (by omega))
    have az0 := f21p4.resolve_left (fun u => by have u1 := u.1; omega)
    have w0x : M20 21 0 = 0 := by have y := az0.2.2.1; rw [show M16 15 10 = 0 by omega] at y; exact y
    refine n_iload_n c_50_87 rfl ?_
    refine n_iconst c_50_88 ?_
    refine n_if2_le c_50_89 (by omega) (by omega) ?_ ?_
    · intro h22
      refine n_iload_n c_50_109 rfl ?_
      refine n_iconst c_50_110 ?_
      refine n_if2_le c_50_111 (by omega) (by omega) ?_ ?_
      · intro h23
        exact n_rV c_50_131 rfl ⟨hS20, f21K, by exact f21p0, by exact fun j j0 j1 => by (rw [show j = 0 by omega]; exact ⟨0, by omega, by omega, by rw [v0x]; decide +kernel⟩), by exact fm1, by exact vs1, by exact fun j j0 j1 => by (rw [show j = 0 by omega]; exact ⟨0, by omega, by omega, by rw [v0x]; decide +kernel, by omega⟩)⟩
      · intro h24
        exfalso; omega
    · intro h25
      exfalso; omega
  · intro h26
    exfalso; omega

set_option maxHeartbeats 4000000 in
theorem makeX_1_3_c {xs : List Int32} {e : Nat} {ac : Int} {M : nM} {c m : Int} {Ms : nM} (hS : Sf 3 ac M M) (hc : 0 ≤ c ∧ c ≤ 8) (hm : -2147483648 ≤ m ∧ m ≤ 2147483647) (hca : c = ac) (hms : M = Ms) (hpz : PZ M) (hwa : ∀ a : Int, 0 ≤ a → a < ac → WAct 3 (55 + 3 * a) Ms) (hmo : NCl 3 3 1 ac (Tm Ms) ≤ m) : ∀ nn : Nat, (∀ (x7 : Int) (M : nM), Sf 3 ac M M → (0 ≤ x7 ∧ x7 ≤ 257) → (MK 27 27 26 0 0 1 3 9 0 0 0 0 0 0 M) → (MI 3 3 1 ac Ms M) → (FM Ms M) → (∀ j : Int, 0 ≤ j → j < 1 → HAS M (mpj 3 3 j)) → (PD 3 3 ac x7 Ms M ∨ m ≤ M 15 10 ∨ 256 < M 15 10) → (x7 ≤ M 15 10) → (VS 3 3 1 ac Ms M) → (I2 x7 M) → (PDz 3 3 ac x7 Ms M) → (∀ j : Int, 0 ≤ j → j < 1 → HSs M (mpj 3 3 j) 0) → (257 - x7) * 11 + 11 < (nn : Int) → nW xs (e + 4) 49 13 [some (2, 15), none, none, some (2, 12), some (0, c), some (0, m), some (2, 103), some (0, x7), none] [] M (nPV fun M1 => Sf 3 ac M1 M1 ∧ MK 27 27 26 0 0 1 3 9 0 0 0 0 0 0 M1 ∧ (M1 103 0 = 1) ∧ (KN (NCl 3 3 1 ac (Tm Ms)) (M1 103 1) (M1 103 2)) ∧ (PZ M1) ∧ (FMQ 103 Ms M1) ∧ (M1 103 1 = 0 → LO 3 3 1 ac Ms 103 (M1 103 2) M1) ∧ (M1 103 1 = 1 → M1 103 2 = 0))) ∧ (∀ (x7 x8 : Int) (M : nM), Sf 3 ac M M → (0 ≤ x7 ∧ x7 ≤ 256) → (0 ≤ x8 ∧ x8 ≤ 8) → (MK 27 27 26 0 0 1 3 9 0 0 0 0 0 0 M) → (MI 3 3 1 ac Ms M) → (FM Ms M) → (∀ j : Int, 0 ≤ j → j < 1 → HAS M (mpj 3 3 j)) → (x7 < M 15 10) → ((M 15 11 = 3000002 ∧ PD 3 3 ac x7 Ms M ∧ (256 < M 15 10 ∨ PDa 3 3 x7 x8 Ms M)) ∨ m ≤ M 15 10) → (VS 3 3 1 ac Ms M) → (I2 (x7 + 1) M) → (PDz 3 3 ac x7 Ms M) → (∀ j : Int, 0 ≤ j → j < 1 → HSs M (mpj 3 3 j) 0) → (CEI 3 3 1 ac Ms M) → (PZa 3 3 x7 x8 Ms M) → (257 - x7) * 11 + (8 - x8) * 1 + 1 < (nn : Int) → nW xs (e + 4) 49 65 [some (2, 15), none, none, some (2, 12), some (0, c), some (0, m), some (2, 103), some (0, x7), some (0, x8)] [] M (nPV fun M1 => Sf 3 ac M1 M1 ∧ MK 27 27 26 0 0 1 3 9 0 0 0 0 0 0 M1 ∧ (M1 103 0 = 1) ∧ (KN (NCl 3 3 1 ac (Tm Ms)) (M1 103 1) (M1 103 2)) ∧ (PZ M1) ∧ (FMQ 103 Ms M1) ∧ (M1 103 1 = 0 → LO 3 3 1 ac Ms 103 (M1 103 2) M1) ∧ (M1 103 1 = 1 → M1 103 2 = 0))) := by
  have hd : (3 : Int) = 2 ∨ (3 : Int) = 3 := by decide
  have hac := hS.2.2.2.2
  have hT := Tm_r hS
  rw [hms] at hT
  intro nn
  induction nn with
  | zero => refine ⟨?_, ?_⟩ <;> (intros; omega)
  | succ nn ih =>
    refine ⟨?_, ?_⟩
    · intro x7 M hS k7 hK v0 v1 v2 v3 v4 v5 v6 v7 v8 hnn
      refine n_iload c_49_13 rfl ?_
      refine n_aload_n c_49_15 rfl ?_
      refine n_getV (bi := 10) c_49_16 sc_15.n rfl rfl rfl (t_15_10 hS) ?_
      intro z1 ez1 f2
      refine n_if2_ge c_49_19 (by omega) (by omega) ?_ ?_
      · intro h3
        refine n_aload_n c_49_110 rfl ?_
        refine n_aload c_49_111 rfl ?_
        refine n_v1V c_49_113 rfl sc_15.n rfl rfl rfl rfl (endX_1_3 (Ms := Ms) (Mt := M) hS hK (by rfl) (by exact v0) (by exact v5) (by exact CLp.mk v8 v7 (by omega))) ?_
        intro  M4 hP5
        obtain ⟨hS4, f5K, f5p0, f5p1, f5p2, f5p3, f5p4⟩ := hP5
        exact n_rV c_49_116 rfl ⟨hS4, f5K, by exact f5p0, by exact v0.kn hd hT (by omega) v2 hmo v3 (by omega) f5p1, by exact f5p2, by exact fun a i p1 p2 p3 p4 p5 p6 => (f5p3 a i p1 p2 p3 p4 p5 p6).trans (v1 a i p1 p2 p3), by exact f5p4, by have y := f5p1; unfold KQ at y; omega⟩
      · intro h6
        refine n_aload_n c_49_22 rfl ?_
        refine n_getV (bi := 10) c_49_23 sc_15.n rfl rfl rfl (t_15_10 hS) ?_
        intro z7 ez7 f8
        refine n_sipush c_49_26 rfl ?_
        refine n_if2_gt c_49_29 (by omega) (by omega) ?_ ?_
        · intro h9
          refine n_aload_n c_49_110 rfl ?_
          refine n_aload c_49_111 rfl ?_
          refine n_v1V c_49_113 rfl sc_15.n rfl rfl rfl rfl (endX_1_3 (Ms := Ms) (Mt := M) hS hK (by rfl) (by exact v0) (by exact v5) (by exact CLp.mk v8 v7 (by omega))) ?_
          intro  M10 hP11
          obtain ⟨hS10, f11K, f11p0, f11p1, f11p2, f11p3, f11p4⟩ := hP11
          exact n_rV c_49_116 rfl ⟨hS10, f11K, by exact f11p0, by exact v0.kn hd hT (by omega) v2 hmo v3 (by omega) f11p1, by exact f11p2, by exact fun a i p1 p2 p3 p4 p5 p6 => (f11p3 a i p1 p2 p3 p4 p5 p6).trans (v1 a i p1 p2 p3), by exact f11p4, by have y := f11p1; unfold KQ at y; omega⟩
        · intro h12
          refine n_aload_n c_49_32 rfl ?_
          refine n_iload c_49_33 rfl ?_
          refine n_v1V c_49_35 rfl sc_15.n rfl rfl rfl rfl (bringX_1_3 (e0 := x7) (Ms := Ms) (Mt := M) hS (by omega) hK (by rfl) (by exact v0) (by omega)) ?_
          intro  M13 hP14
          obtain ⟨hS13, f14K, f14p0, f14p1, f14p2, f14p3, f14p4, f14p5, f14p6⟩ := hP14
          obtain ⟨yb, yb0, yb1, swb⟩ := f14p5
          refine n_aload_n c_49_38 rfl ?_
          refine n_aload_n c_49_39 rfl ?_
          refine n_getV (bi := 10) c_49_40 sc_15.n rfl rfl rfl (t_15_10 hS13) ?_
          intro z15 ez15 f16
          refine n_iload c_49_43 rfl ?_
          refine n_if2_ne c_49_45 (by omega) (by omega) ?_ ?_
          · intro h17
            refine n_ldc (n := 3000002) c_49_57 rfl ?_
            refine n_putM (bi := 11) hS13 c_49_59 sc_15.n rfl rfl rfl rfl (m_15_11 (by omega)) ?_
            intro M18 eM18 hS18
            have hK18 := f14K.u (by unfold Kok; omega) eM18
            have g18_0 : M18 15 11 = 3000002 := by rw [eM18]; exact nu_s _ _ _ _
            refine n_iconst c_49_62 ?_
            refine n_istore (L2 := [some (2, 15), none, none, some (2, 12), some (0, c), some (0, m), some (2, 103), some (0, x7), some (0, 0)]) c_49_63 rfl rfl ?_
            refine n_fg (le_s (le_n (le_n (le_s (le_s (le_s (le_s (le_s (le_s le_0))))))))) ?_
            exact ih.2 _ _ M18 hS18 (by omega) (by omega) hK18 (by exact f14p0.of hS13.p9 (by rw [eM18, nu_i (by omega)]) (by rw [eM18, nu_i (by omega)]) (fun a i q => by rw [eM18]; exact nu_a (by omega))) (by exact fun a i p1 p2 p3 => by rw [eM18, nu_a (by omega)]; exact (f14p4.fb.1 a i p1 p2 p3).trans (v1 a i p1 p2 p3)) (by exact fun j j0 j1 => ((f14p1 _).mpr (v2 j j0 j1)).of (show M18 15 10 = M13 15 10 by rw [eM18]; exact nu_i (by omega)) (show ∀ i : Int, M18 20 i = M13 20 i from fun i => by rw [eM18]; exact nu_a (by omega))) (by have y := (show M18 15 10 = M13 15 10 by rw [eM18]; exact nu_i (by omega)); omega) (by have y := (show M18 15 10 = M13 15 10 by rw [eM18]; exact nu_i (by omega)); rcases v3 with u | u | u; (exact Or.inl ⟨by rw [eM18]; exact nu_s _ _ _ _, PD.kp u (fun c => ⟨fun q => (f14p1 c).mp (q.of y.symm (fun i => ((show ∀ i : Int, M18 20 i = M13 20 i from fun i => by rw [eM18]; exact nu_a (by omega)) i).symm)), fun q => ((f14p1 c).mpr q).of y (show ∀ i : Int, M18 20 i = M13 20 i from fun i => by rw [eM18]; exact nu_a (by omega))⟩) (fun i hi => by rw [(show ∀ i : Int, M18 20 i = M13 20 i from fun i => by rw [eM18]; exact nu_a (by omega)) i]; exact f14p3 i hi), Or.inr (fun a x y z ha => by omega)⟩); (exact Or.inr (by omega)); (exfalso; omega)) (by exact (swb.vs f14p2 (by omega) (by omega) v5).e (E15.mk eM18 (by omega))) (by exact (v6.br swb (by omega) f14p2 (fun j j0 j1 => f14p6 j j0 j1)).e (E15.mk eM18 (by omega))) (by exact (v7.br swb (by omega) (by omega) f14p2).e (E15.mk eM18 (by omega))) (by exact fun j j0 j1 => ((swb.hs f14p2 (by omega) (by omega) _ _).mpr (v8 j j0 j1)).e (E15.mk eM18 (by omega))) (by exact Or.inl (by rw [eM18]; exact nu_s _ _ _ _)) (by exact fun a x y z ha => by omega) (by omega)
          · intro h19
            refine n_aload_n c_49_48 rfl ?_
            refine n_iload c_49_49 rfl ?_
            refine n_v1I c_49_51 rfl sc_15.n rfl rfl rfl rfl (largestX_1_3 (f := x7) hS13 (by omega)) ?_
            intro z20 M21 hP22
            obtain ⟨eM, f22, f22p0⟩ := hP22
            subst eM
            refine n_goto c_49_54 ?_
            refine n_putM (bi := 11) hS13 c_49_59 sc_15.n rfl rfl rfl rfl (m_15_11 (by omega)) ?_
            intro M23 eM23 hS23
            have hK23 := f14K.u (by unfold Kok; omega) eM23
            have g23_0 : M23 15 10 = M13 15 10 := by rw [eM23]; exact nu_i (by omega)
            have g23_1 : M23 15 11 = z20 := by rw [eM23]; exact nu_s _ _ _ _
            refine n_iconst c_49_62 ?_
            refine n_istore (L2 := [some (2, 15), none, none, some (2, 12), some (0, c), some (0, m), some (2, 103), some (0, x7), some (0, 0)]) c_49_63 rfl rfl ?_
            refine n_fg (le_s (le_n (le_n (le_s (le_s (le_s (le_s (le_s (le_s le_0))))))))) ?_
            exact ih.2 _ _ M23 hS23 (by omega) (by omega) hK23 (by exact f14p0.of hS13.p9 (by rw [eM23, nu_i (by omega)]) (by rw [eM23, nu_i (by omega)]) (fun a i q => by rw [eM23]; exact nu_a (by omega))) (by exact fun a i p1 p2 p3 => by rw [eM23, nu_a (by omega)]; exact (f14p4.fb.1 a i p1 p2 p3).trans (v1 a i p1 p2 p3)) (by exact fun j j0 j1 => ((f14p1 _).mpr (v2 j j0 j1)).of (show M23 15 10 = M13 15 10 by rw [eM23]; exact nu_i (by omega)) (show ∀ i : Int, M23 20 i = M13 20 i from fun i => by rw [eM23]; exact nu_a (by omega))) (by have y := (show M23 15 10 = M13 15 10 by rw [eM23]; exact nu_i (by omega)); omega) (by have y := (show M23 15 10 = M13 15 10 by rw [eM23]; exact nu_i (by omega)); exact Or.inr (by omega)) (by exact (swb.vs f14p2 (by omega) (by omega) v5).e (E15.mk eM23 (by omega))) (by exact (v6.br swb (by omega) f14p2 (fun j j0 j1 => f14p6 j j0 j1)).e (E15.mk eM23 (by omega))) (by exact (v7.br swb (by omega) (by omega) f14p2).e (E15.mk eM23 (by omega))) (by exact fun j j0 j1 => ((swb.hs f14p2 (by omega) (by omega) _ _).mpr (v8 j j0 j1)).e (E15.mk eM23 (by omega))) (by exact CEI.mk (e := x7) f14p0 hd hT hmo (by omega) (by omega) (v6.br swb (by omega) f14p2 (fun j j0 j1 => f14p6 j j0 j1)) f22p0 eM23) (by exact fun a x y z ha => by omega) (by omega)
    · intro x7 x8 M hS k7 k8 hK v0 v1 v2 v3 v4 v5 v6 v7 v8 v9 v10 hnn
      refine n_iload c_49_65 rfl ?_
      refine n_iload c_49_67 rfl ?_
      refine n_if2_ge c_49_69 (by omega) (by omega) ?_ ?_
      · intro h1
        refine n_iinc (L2 := [some (2, 15), none, none, some (2, 12), some (0, c), some (0, m), some (2, 103), some (0, (x7 + 1)), some (0, x8)]) c_49_104 rfl rfl rfl ?_
        refine n_goto c_49_107 ?_
        refine n_fg (le_s (le_n (le_n (le_s (le_s (le_s (le_s (le_s (le_n le_0))))))))) ?_
        exact ih.1 _ M hS (by omega) hK (by exact v0) (by exact v1) (by exact v2) (by rcases v4 with ⟨u1, u2, u3⟩ | u; (rcases u3 with u3 | u3; (exact Or.inr (Or.inr u3)); (first | exact Or.inl (PDa.pd u3 (by omega)) | (exfalso; omega))); (exact Or.inr (Or.inl u))) (by omega) (by exact v5) (by exact v6) (by first | exact PZa.nx v10 (by omega) | exact PDz.ce v7 hd v0 (by omega) v9 v5 (by omega) (fun a a0 a1 => by have y := hwa a a0 a1; rw [pm_e (by omega), ← tm_e (by omega)]; exact ⟨y.1.1, y.2.1⟩)) (by exact v8) (by omega)
      · intro h2
        refine n_aload_n c_49_72 rfl ?_
        refine n_getR c_49_73 sc_15.n rfl rfl rfl r_15_2 ?_
        refine n_iload c_49_76 rfl ?_
        refine n_ialoadV c_49_78 sc_21.n rfl rfl rfl (by omega) (v0.s (by omega) (by omega)) ?_
        intro z3 ez3 f4
        refine n_iconst c_49_79 ?_
        refine n_iadd c_49_80 rfl ?_
        refine n_aload_n c_49_81 rfl ?_
        refine n_getV (bi := 11) c_49_82 sc_15.n rfl rfl rfl (t_15_11 hS) ?_
        intro z5 ez5 f6
        refine n_if2_ge c_49_85 (by omega) (by omega) ?_ ?_
        · intro h7
          refine n_iinc (L2 := [some (2, 15), none, none, some (2, 12), some (0, c), some (0, m), some (2, 103), some (0, (x7 + 1)), some (0, x8)]) c_49_104 rfl rfl rfl ?_
          refine n_goto c_49_107 ?_
          refine n_fg (le_s (le_n (le_n (le_s (le_s (le_s (le_s (le_s (le_n le_0))))))))) ?_
          exact ih.1 _ M hS (by omega) hK (by exact v0) (by exact v1) (by exact v2) (by rcases v4 with ⟨u1, u2, u3⟩ | u; (rcases u3 with u3 | u3; (exact Or.inr (Or.inr u3)); (first | exact Or.inl (PDa.pd u3 (by omega)) | (exfalso; omega))); (exact Or.inr (Or.inl u))) (by omega) (by exact v5) (by exact v6) (by first | exact PZa.nx v10 (by omega) | exact PDz.ce v7 hd v0 (by omega) v9 v5 (by omega) (fun a a0 a1 => by have y := hwa a a0 a1; rw [pm_e (by omega), ← tm_e (by omega)]; exact ⟨y.1.1, y.2.1⟩)) (by exact v8) (by omega)
        · intro h8
          refine n_aload_n c_49_88 rfl ?_
          refine n_aload_n c_49_89 rfl ?_
          refine n_iload c_49_90 rfl ?_
          refine n_aaload c_49_92 sc_12.n rfl rfl rfl (by omega) (r_acts _) ?_
          have q9 : ActAt (55 + 3 * x8) := by unfold ActAt; omega
          have q9l : (55 + 3 * x8) < 55 + 3 * ac := by omega
          refine n_iload c_49_93 rfl ?_
          refine n_v2V c_49_95 rfl sc_15.n rfl rfl rfl rfl (putOnX_1_3 (p := (55 + 3 * x8)) (e0 := x7) (Ms := Ms) (Mt := M) hS q9 q9l (by omega) hK (by rfl) (by exact v0) (by exact v1) (by omega) (by exact hwa x8 (by omega) (by omega)) (by exact fun X Y Z hX hY hZ => by rw [tm_e (by omega)]; exact Clo.app (by omega) (by omega) hX hY hZ) (by exact v5) (by exact v9) (by exact fun i j i0 ij j1 => v6 i j i0 (by omega) ij (by omega)) (by exact fun x y z sx sy sz hx hy hz => by have y2 := VAL.app (a := x8) (by omega) (by omega) hx hy hz; rw [← tm_e (by omega), pm_e (by omega)] at y2; exact y2)) ?_
          intro  M10 hP11
          obtain ⟨hS10, f11K, f11p0, f11p1, f11p2, f11p3, f11p4, f11p5, f11p6⟩ := hP11
          refine n_iinc (L2 := [some (2, 15), none, none, some (2, 12), some (0, c), some (0, m), some (2, 103), some (0, x7), some (0, (x8 + 1))]) c_49_98 rfl rfl rfl ?_
          refine n_goto c_49_101 ?_
          refine n_fg (le_s (le_n (le_n (le_s (le_s (le_s (le_s (le_s (le_s le_0))))))))) ?_
          exact ih.2 _ _ M10 hS10 (by omega) (by omega) f11K (by exact f11p0) (by exact v1.tr f11p3.1) (by exact fun j j0 j1 => (v2 j j0 j1).gr f11p1) (by have y := f11p1.1; omega) (by rcases v4 with ⟨u1, u2, u3⟩ | u; (exact Or.inl ⟨f11p3.2.2.trans u1, u2.gr (by omega) f11p1, PDa.st u3 u2 (by omega) (by omega) u1 f11p1 (by have y := f11p2; rw [tm_e (by omega)] at y; exact y)⟩); (exact Or.inr (Int.le_trans u f11p1.1))) (by exact f11p4) (by exact v6.sl f11p5 f11p1 (by omega) (v5 _ (by omega) (by omega)).r.2) (by exact v7.sl v6 f11p5 f11p1 (by omega)) (by exact fun j j0 j1 => (v8 j j0 j1).gr f11p1 f11p5) (by exact v9.gr f11p1 f11p5 f11p3.2.2) (by exact PZa.st v10 v7 v6 (by omega) f11p5 f11p1 (by omega) (by have y := f11p6; rw [tm_e (by omega), ← pm_e (M := Ms) (a := x8) (by omega)] at y; exact y)) (by omega)
set_option maxHeartbeats 4000000 in
theorem makeX_1_3 {xs : List Int32} {e : Nat} {ac : Int} {M : nM} {c m : Int} {Ms : nM} (hS : Sf 3 ac M M) (hc : 0 ≤ c ∧ c ≤ 8) (hm : -2147483648 ≤ m ∧ m ≤ 2147483647) (hca : c = ac) (hms : M = Ms) (hpz : PZ M) (hwa : ∀ a : Int, 0 ≤ a → a < ac → WAct 3 (55 + 3 * a) Ms) (hmo : NCl 3 3 1 ac (Tm Ms) ≤ m) : nW xs (e + 4) 49 0 [some (2, 15), some (0, 1), some (2, 4), some (2, 12), some (0, c), some (0, m), some (2, 103), none, none] [] M (nPV fun M1 => Sf 3 ac M1 M1 ∧ MK 27 27 26 0 0 1 3 9 0 0 0 0 0 0 M1 ∧ (M1 103 0 = 1) ∧ (KN (NCl 3 3 1 ac (Tm Ms)) (M1 103 1) (M1 103 2)) ∧ (PZ M1) ∧ (FMQ 103 Ms M1) ∧ (M1 103 1 = 0 → LO 3 3 1 ac Ms 103 (M1 103 2) M1) ∧ (M1 103 1 = 1 → M1 103 2 = 0)) := by
  have hd : (3 : Int) = 2 ∨ (3 : Int) = 3 := by decide
  have hac := hS.2.2.2.2
  have hT := Tm_r hS
  rw [hms] at hT
  refine n_aload_n c_49_0 rfl ?_
  refine n_aload_n c_49_1 rfl ?_
  refine n_putB hS c_49_2 ?_
  intro M1 eM1 hS1
  have hS1 := hS1.refl
  have hB1 : M1 15 0 = 4 := by rw [eM1]; exact nu_s _ _ _ _
  refine n_aload_n c_49_5 rfl ?_
  refine n_iload_n c_49_6 rfl ?_
  refine n_v1V c_49_7 rfl sc_15.n rfl rfl rfl rfl (beginX_1_3 (Ms := Ms) hS1 (by exact hB1) (by exact PZ.of hpz hS.p9 (by rw [eM1]; exact nu_i (by omega)) (fun a i q => by rw [eM1]; exact nu_a (by omega))) (by exact fun a i p1 p2 p3 => by rw [eM1, nu_a (by omega), hms])) ?_
  intro  M2 hP3
  obtain ⟨hS2, f3K, f3p0, f3p1, f3p2, f3p3, f3p4⟩ := hP3
  refine n_iconst c_49_10 ?_
  refine n_istore (L2 := [some (2, 15), some (0, 1), some (2, 4), some (2, 12), some (0, c), some (0, m), some (2, 103), some (0, 0), none]) c_49_11 rfl rfl ?_
  refine n_fg (le_s (le_n (le_n (le_s (le_s (le_s (le_s (le_s (le_n le_0))))))))) ?_
  exact (makeX_1_3_c hS hc hm hca hms hpz hwa hmo 5708).1 _ M2 hS2 (by omega) f3K (by exact f3p0) (by exact f3p2) (by exact f3p1) (by exact Or.inl (fun a x y z _ _ hx => by omega)) (by have y := t_15_10 hS2; omega) (by exact f3p3) (by exact fun i j i0 i1 => by omega) (by exact fun a x y z _ _ hx => by omega) (by exact f3p4) (by omega)

set_option maxHeartbeats 4000000 in
theorem mostX_1_3_c {xs : List Int32} {e : Nat} {ac : Int} {M0 M : nM} (hS : Sf 3 ac M0 M) (hwa : ∀ a : Int, 0 ≤ a → a < ac → WAct 3 (55 + 3 * a) M) : ∀ nn : Nat, (∀ (x2 x3 x4 : Int), (3 ≤ x2 ∧ x2 ≤ 3) → (0 ≤ x3 ∧ x3 ≤ 19683) → (0 ≤ x4 ∧ x4 ≤ 3) → (MM 3 1 ac M x4 x3) → (0 ≤ x3 ∧ x3 ≤ dpn 3 x4.toNat) → (3 - x4) * 1 + 1 < (nn : Int) → nW xs (e + 4) 131 14 [some (2, 3), some (0, 1), some (0, x2), some (0, x3), some (0, x4)] [] M (nPI fun z M1 => M = M1 ∧ (-2147483648 ≤ z ∧ z ≤ 2147483647) ∧ (NCl 3 3 1 ac (Tm M) ≤ z))) := by
  have hd : (3 : Int) = 2 ∨ (3 : Int) = 3 := by decide
  have hac := hS.2.2.2.2
  intro nn
  induction nn with
  | zero => intros; omega
  | succ nn ih =>
    intro x2 x3 x4 k2 k3 k4 v0 v1 hnn
    refine n_iload c_131_14 rfl ?_
    refine n_iload_n c_131_16 rfl ?_
    refine n_if2_ge c_131_17 (by omega) (by omega) ?_ ?_
    · intro h1
      refine n_iload_n c_131_46 rfl ?_
      exact n_rI c_131_47 rfl ⟨rfl, by omega, by have e4 : x4 = ((3 : Nat) : Int) := (by omega); rw [e4] at v0; exact MM.fin hd hS v0⟩
    · intro h2
      refine n_iload_n c_131_20 rfl ?_
      refine n_aload_n c_131_21 rfl ?_
      refine n_aload_n c_131_22 rfl ?_
      refine n_getR c_131_23 sc_3.n rfl rfl rfl r_3_0 ?_
      refine n_iload c_131_26 rfl ?_
      refine n_iload_n c_131_28 rfl ?_
      refine n_v2I c_131_29 rfl sc_4.n rfl rfl rfl rfl (thingsOfX_3 (r := x4) (p := 1) hS (by omega) (by omega)) ?_
      intro z3 M4 hP5
      obtain ⟨eM, f5, f5p0⟩ := hP5
      subst eM
      have thb := th_b (d := 3) (n := 1) (r := x4) (by decide) (by omega) (by omega)
      rw [← f5p0] at thb
      have thc : z3 ≤ 7 := thb.2
      refine n_v1I c_131_32 rfl sc_3.n rfl rfl rfl rfl (leastHeapX_3 (m := z3) hS (by omega)) ?_
      intro z6 M7 hP8
      obtain ⟨eM, f8, f8p0, f8p1, f8p2⟩ := hP8
      subst eM
      refine n_s1I c_131_35 rfl rfl rfl rfl (ibitsX_3 (x := z6) hS (by omega)) ?_
      intro z9 M10 hP11
      obtain ⟨eM, f11, f11p0⟩ := hP11
      subst eM
      refine n_imul c_131_38 rfl ?_
      refine n_wrap ?_
      have f12 := n_wr_r (x3 * z9)
      generalize gz13 : n_wr (x3 * z9) = z13 at f12 ⊢
      have dpb := dpn_b3 x4.toNat (by omega)
      have dpc : 3 * dpn 3 x4.toNat ≤ 19683 := dpn_b3 (x4.toNat + 1) (by omega)
      obtain ⟨w1, w2, w3, w4⟩ := wr_3 (x := x3) (y := z9) v1 dpb (by omega)
      rw [gz13] at w1
      refine n_istore_n (L2 := [some (2, 3), some (0, 1), some (0, x2), some (0, z13), some (0, x4)]) c_131_39 rfl rfl ?_
      refine n_iinc (L2 := [some (2, 3), some (0, 1), some (0, x2), some (0, z13), some (0, (x4 + 1))]) c_131_40 rfl rfl rfl ?_
      refine n_goto c_131_43 ?_
      refine n_fg (le_s (le_s (le_s (le_s (le_s le_0))))) ?_
      exact ih _ _ _ (by omega) (by omega) (by omega) (by rw [w1]; exact MM.st hd v0 (by omega) (GH.mk (m := z3) hd hS (by omega) (by omega) hwa f5p0 (by omega) f8p0 (by show z6 ≤ (7 : Int); omega) f8p2) f11p0) (by rw [show (x4 + 1).toNat = x4.toNat + 1 by omega]; show 0 ≤ z13 ∧ z13 ≤ 3 * dpn 3 x4.toNat; omega) (by omega)
set_option maxHeartbeats 4000000 in
theorem mostX_1_3 {xs : List Int32} {e : Nat} {ac : Int} {M0 M : nM} (hS : Sf 3 ac M0 M) (hwa : ∀ a : Int, 0 ≤ a → a < ac → WAct 3 (55 + 3 * a) M) : nW xs (e + 4) 131 0 [some (2, 3), some (0, 1), none, none, none] [] M (nPI fun z M1 => M = M1 ∧ (-2147483648 ≤ z ∧ z ≤ 2147483647) ∧ (NCl 3 3 1 ac (Tm M) ≤ z)) := by
  have hd : (3 : Int) = 2 ∨ (3 : Int) = 3 := by decide
  have hac := hS.2.2.2.2
  refine n_aload_n c_131_0 rfl ?_
  refine n_getR c_131_1 sc_3.n rfl rfl rfl r_3_0 ?_
  refine n_iload_n c_131_4 rfl ?_
  refine n_v1I c_131_5 rfl sc_4.n rfl rfl rfl rfl (power1_3  hS ) ?_
  intro z1 M2 hP3
  obtain ⟨eM, f3⟩ := hP3
  subst eM
  obtain rfl : z1 = 3 := by omega
  refine n_istore_n (L2 := [some (2, 3), some (0, 1), some (0, 3), none, none]) c_131_8 rfl rfl ?_
  refine n_iconst c_131_9 ?_
  refine n_istore_n (L2 := [some (2, 3), some (0, 1), some (0, 3), some (0, 1), none]) c_131_10 rfl rfl ?_
  refine n_iconst c_131_11 ?_
  refine n_istore (L2 := [some (2, 3), some (0, 1), some (0, 3), some (0, 1), some (0, 0)]) c_131_12 rfl rfl ?_
  refine n_fg (le_s (le_s (le_s (le_s (le_s le_0))))) ?_
  exact (mostX_1_3_c hS hwa 20) _ _ _ (by omega) (by omega) (by omega) (by exact MM.ini) (by exact ⟨by omega, by show (1 : Int) ≤ 1; omega⟩) (by omega)

set_option maxHeartbeats 4000000 in
theorem madeListX_1_3 {xs : List Int32} {e : Nat} {ac : Int} {M : nM} {Ms : nM} (hS : Sf 3 ac M M) (hms : M = Ms) (hpz : PZ M) (hwa : ∀ a : Int, 0 ≤ a → a < ac → WAct 3 (55 + 3 * a) Ms) (hkn : Ms 103 0 = 1 → KN (NCl 3 3 1 ac (Tm Ms)) (Ms 103 1) (Ms 103 2)) (hkl : Ms 103 0 = 1 → LOa 3 3 1 ac Ms 103 Ms) : nW xs (e + 5) 130 0 [some (2, 3), some (0, 1), none] [] M (nPA fun z M1 => Sf 3 ac M1 M1 ∧ z = 103 ∧ (MDs 3 3 1 ac 103 Ms M1) ∧ (M1 103 0 = 1) ∧ (M1 103 0 = 1 → LOa 3 3 1 ac Ms 103 M1)) := by
  have hd : (3 : Int) = 2 ∨ (3 : Int) = 3 := by decide
  have hac := hS.2.2.2.2
  refine n_aload_n c_130_0 rfl ?_
  refine n_getR c_130_1 sc_3.n rfl rfl rfl r_3_4 ?_
  refine n_iload_n c_130_4 rfl ?_
  refine n_iconst c_130_5 ?_
  refine n_isub c_130_6 rfl ?_
  refine n_aaload c_130_7 sc_14.n rfl rfl rfl (by omega) (r_made _) ?_
  refine n_stk (show ((103 + 3 * (1 - 1)) : Int) = 103 from rfl) ?_
  refine n_astore_n (L2 := [some (2, 3), some (0, 1), some (2, 103)]) c_130_8 rfl rfl ?_
  refine n_aload_n c_130_9 rfl ?_
  refine n_getV (bi := 0) c_130_10 made103.c0.1.n rfl rfl rfl (t_made hS made103).1 ?_
  intro z1 ez1 f2
  refine n_if0_ne c_130_13 (by omega) ?_ ?_
  · intro h3
    refine n_aload_n c_130_42 rfl ?_
    exact n_rA c_130_43 rfl ⟨hS, rfl, by exact ⟨fun q => by rw [hms] at q ⊢; exact hkn q, hpz, fun _ _ _ _ _ _ _ _ => by rw [hms]⟩, by omega, by rw [hms]; exact hkl⟩
  · intro h4
    refine n_aload_n c_130_16 rfl ?_
    refine n_getR c_130_17 sc_3.n rfl rfl rfl r_3_5 ?_
    refine n_iload_n c_130_20 rfl ?_
    refine n_aload_n c_130_21 rfl ?_
    refine n_getR c_130_22 sc_3.n rfl rfl rfl r_3_0 ?_
    refine n_aload_n c_130_25 rfl ?_
    refine n_getR c_130_26 sc_3.n rfl rfl rfl r_3_2 ?_
    refine n_aload_n c_130_29 rfl ?_
    refine n_getV (bi := 14) c_130_30 sc_3.n rfl rfl rfl (t_3_14x hS) ?_
    intro z5 ez5 f6
    have f6a := t_ac hS
    refine n_aload_n c_130_33 rfl ?_
    refine n_iload_n c_130_34 rfl ?_
    refine n_v1I c_130_35 rfl sc_3.n rfl rfl rfl rfl (mostX_1_3  hS (by rw [hms]; exact hwa)) ?_
    intro z7 M8 hP9
    obtain ⟨eM, f9, f9p0⟩ := hP9
    subst eM
    refine n_aload_n c_130_38 rfl ?_
    refine n_v6V c_130_39 rfl sc_15.n rfl rfl rfl rfl (makeX_1_3 (c := z5) (m := z7) (Ms := M) hS (by omega) (by omega) (by omega) (by rfl) (by exact hpz) (by rw [hms]; exact hwa) (by exact f9p0)) ?_
    intro  M10 hP11
    obtain ⟨hS10, f11K, f11p0, f11p1, f11p2, f11p3, f11p4, f11p5⟩ := hP11
    refine n_aload_n c_130_42 rfl ?_
    exact n_rA c_130_43 rfl ⟨hS10, rfl, by have y := f11p1; rw [hms] at y; exact ⟨fun _ => y, f11p2, by have u := f11p3; rw [hms] at u; exact u⟩, by exact f11p0, by have u := f11p4; have u2 := f11p5; rw [hms] at u; exact fun _ => ⟨u, u2⟩⟩

set_option maxHeartbeats 4000000 in
theorem isMadeX1_3 {xs : List Int32} {e : Nat} {ac : Int} {M0 M : nM} (hS : Sf 3 ac M0 M)  : nW xs e 13 0 [some (2, 4), some (0, 1)] [] M (nPI fun z M1 => M = M1 ∧ (1 ≤ z ∧ z ≤ 1)) := by
  have hd : (3 : Int) = 2 ∨ (3 : Int) = 3 := by decide
  have hac := hS.2.2.2.2
  refine n_iload_n c_13_0 rfl ?_
  refine n_iconst c_13_1 ?_
  refine n_if2_lt c_13_2 (by omega) (by omega) ?_ ?_
  · intro h1
    exfalso; omega
  · intro h2
    refine n_iload_n c_13_5 rfl ?_
    refine n_aload_n c_13_6 rfl ?_
    refine n_getV (bi := 0) c_13_7 sc_4.n rfl rfl rfl (t_4_0 hS) ?_
    intro z3 ez3 f4
    obtain rfl : z3 = 3 := by omega
    refine n_iconst c_13_10 ?_
    refine n_if2_ne c_13_11 (by omega) (by omega) ?_ ?_
    · intro h5
      refine n_iconst c_13_18 ?_
      refine n_if2_gt c_13_19 (by omega) (by omega) ?_ ?_
      · intro h6
        exfalso; omega
      · intro h7
        refine n_iconst c_13_22 ?_
        refine n_goto c_13_23 ?_
        exact n_rZ c_13_27 rfl (by omega) ⟨rfl, by omega⟩
    · intro h8
      exfalso; omega

set_option maxHeartbeats 4000000 in
theorem codesX1_3 {xs : List Int32} {e : Nat} {ac : Int} {M0 M : nM} (hS : Sf 3 ac M0 M)  : nW xs (e + 1) 14 0 [some (2, 4), some (0, 1)] [] M (nPI fun z M1 => M = M1 ∧ (27 ≤ z ∧ z ≤ 27)) := by
  have hd : (3 : Int) = 2 ∨ (3 : Int) = 3 := by decide
  have hac := hS.2.2.2.2
  refine n_aload_n c_14_0 rfl ?_
  refine n_aload_n c_14_1 rfl ?_
  refine n_iload_n c_14_2 rfl ?_
  refine n_v1I c_14_3 rfl sc_4.n rfl rfl rfl rfl (power1_3  hS ) ?_
  intro z1 M2 hP3
  obtain ⟨eM, f3⟩ := hP3
  subst eM
  obtain rfl : z1 = 3 := by omega
  refine n_v1I c_14_6 rfl sc_4.n rfl rfl rfl rfl (power3_3  hS ) ?_
  intro z4 M5 hP6
  obtain ⟨eM, f6⟩ := hP6
  subst eM
  obtain rfl : z4 = 27 := by omega
  exact n_rI c_14_9 rfl ⟨rfl, by omega⟩

set_option maxHeartbeats 4000000 in
theorem madeX_1_3 {xs : List Int32} {e : Nat} {ac : Int} {M : nM} {gd : Int} {Ms : nM} (hS : Sf 3 ac M M) (hgd : M 112 0 = gd) (hms : M = Ms) (hpz : PZ M) (hwa : ∀ a : Int, 0 ≤ a → a < ac → WAct 3 (55 + 3 * a) Ms) (hkn : Ms 103 0 = 1 → KN (NCl 3 3 1 ac (Tm Ms)) (Ms 103 1) (Ms 103 2)) (hkl : Ms 103 0 = 1 → LOa 3 3 1 ac Ms 103 Ms) : nW xs (e + 6) 104 0 [some (2, 3), some (0, 1), none] [] M (nPI fun z M1 => Sf 3 ac M1 M1 ∧ (-2147483648 ≤ z ∧ z ≤ 2147483647) ∧ (M1 112 0 = gd) ∧ (MDs 3 3 1 ac 103 Ms M1) ∧ (cMd (NCl 3 3 1 ac (Tm Ms)) z) ∧ (M1 103 0 = 1 → LOa 3 3 1 ac Ms 103 M1)) := by
  have hd : (3 : Int) = 2 ∨ (3 : Int) = 3 := by decide
  have hac := hS.2.2.2.2
  refine n_aload_n c_104_0 rfl ?_
  refine n_getR c_104_1 sc_3.n rfl rfl rfl r_3_0 ?_
  refine n_iload_n c_104_4 rfl ?_
  refine n_v1I c_104_5 rfl sc_4.n rfl rfl rfl rfl (isMadeX1_3  hS ) ?_
  intro z1 M2 hP3
  obtain ⟨eM, f3⟩ := hP3
  subst eM
  obtain rfl : z1 = 1 := by omega
  refine n_if0_ne c_104_8 (by omega) ?_ ?_
  · intro h4
    refine n_aload_n c_104_13 rfl ?_
    refine n_iload_n c_104_14 rfl ?_
    refine n_v1A c_104_15 rfl sc_3.n rfl rfl rfl rfl (madeListX_1_3 (Ms := M) hS (by rfl) (by exact hpz) (by rw [hms]; exact hwa) (by rw [hms]; exact hkn) (by rw [hms]; exact hkl)) ?_
    intro z5 M6 hP7
    obtain ⟨hS6, f7, f7p0, f7p1, f7p2⟩ := hP7
    have g112 := f7p0.2.2 112 0 (by omega) (by omega) (by omega) (by omega) (by omega) (by omega)
    obtain rfl : z5 = 103 := f7
    refine n_astore_n (L2 := [some (2, 3), some (0, 1), some (2, 103)]) c_104_18 rfl rfl ?_
    refine n_aload_n c_104_19 rfl ?_
    refine n_getV (bi := 1) c_104_20 made103.c0.1.n rfl rfl rfl (t_made hS6 made103).2.1 ?_
    intro z8 ez8 f9
    refine n_if0_eq c_104_23 (by omega) ?_ ?_
    · intro h10
      refine n_aload_n c_104_31 rfl ?_
      refine n_getV (bi := 2) c_104_32 made103.c0.1.n rfl rfl rfl (t_made hS6 made103).2.2 ?_
      intro z11 ez11 f12
      exact n_rI c_104_35 rfl ⟨hS6, by omega, by omega, by have y := f7p0; rw [hms] at y; exact y, by have y := f7p0.1 f7p1; rw [hms] at y; unfold KN at y; unfold cMd; omega, by have u := f7p2; rw [hms] at u; exact u⟩
    · intro h13
      refine n_bipush c_104_26 rfl ?_
      refine n_goto c_104_28 ?_
      exact n_rI c_104_35 rfl ⟨hS6, by omega, by omega, by have y := f7p0; rw [hms] at y; exact y, by have y := f7p0.1 f7p1; rw [hms] at y; unfold KN at y; unfold cMd; omega, by have u := f7p2; rw [hms] at u; exact u⟩
  · intro h14
    exfalso; omega

set_option maxHeartbeats 4000000 in
theorem madeOfX_1_3 {xs : List Int32} {e : Nat} {ac : Int} {M : nM} {i w gd : Int} {Ms : nM} (hS : Sf 3 ac M M) (hi : -2147483648 ≤ i ∧ i ≤ 2147483647) (hw : -2147483648 ≤ w ∧ w ≤ 2147483647) (hgd : M 112 0 = gd) (hms : M = Ms) (hpz : PZ M) (hwa : ∀ a : Int, 0 ≤ a → a < ac → WAct 3 (55 + 3 * a) Ms) (hkn : Ms 103 0 = 1 → KN (NCl 3 3 1 ac (Tm Ms)) (Ms 103 1) (Ms 103 2)) (hkl : Ms 103 0 = 1 → LOa 3 3 1 ac Ms 103 Ms) : nW xs (e + 6) 105 0 [some (2, 3), some (0, 1), some (0, i), some (0, w), none] [] M (nPI fun z M1 => Sf 3 ac M1 M1 ∧ (-2147483648 ≤ z ∧ z ≤ 2147483647) ∧ (M1 112 0 = gd) ∧ (MDs 3 3 1 ac 103 Ms M1) ∧ (M1 103 0 = 1 → LOa 3 3 1 ac Ms 103 M1) ∧ (cMO 103 i w z M1) ∧ ((w = 0 ∨ w = 1) → M1 103 0 = 1)) := by
  have hd : (3 : Int) = 2 ∨ (3 : Int) = 3 := by decide
  have hac := hS.2.2.2.2
  refine n_aload_n c_105_0 rfl ?_
  refine n_getR c_105_1 sc_3.n rfl rfl rfl r_3_0 ?_
  refine n_iload_n c_105_4 rfl ?_
  refine n_v1I c_105_5 rfl sc_4.n rfl rfl rfl rfl (isMadeX1_3  hS ) ?_
  intro z1 M2 hP3
  obtain ⟨eM, f3⟩ := hP3
  subst eM
  obtain rfl : z1 = 1 := by omega
  refine n_if0_eq c_105_8 (by omega) ?_ ?_
  · intro h4
    exfalso; omega
  · intro h5
    refine n_iload_n c_105_11 rfl ?_
    refine n_if0_eq c_105_12 (by omega) ?_ ?_
    · intro h6
      refine n_aload_n c_105_22 rfl ?_
      refine n_iload_n c_105_23 rfl ?_
      refine n_v1A c_105_24 rfl sc_3.n rfl rfl rfl rfl (madeListX_1_3 (Ms := M) hS (by rfl) (by exact hpz) (by rw [hms]; exact hwa) (by rw [hms]; exact hkn) (by rw [hms]; exact hkl)) ?_
      intro z7 M8 hP9
      obtain ⟨hS8, f9, f9p0, f9p1, f9p2⟩ := hP9
      have g112 := f9p0.2.2 112 0 (by omega) (by omega) (by omega) (by omega) (by omega) (by omega)
      obtain rfl : z7 = 103 := f9
      refine n_astore (L2 := [some (2, 3), some (0, 1), some (0, i), some (0, w), some (2, 103)]) c_105_27 rfl rfl ?_
      refine n_iload_n c_105_29 rfl ?_
      refine n_if0_lt c_105_30 (by omega) ?_ ?_
      · intro h10
        refine n_iconst c_105_42 ?_
        exact n_rI c_105_43 rfl ⟨hS8, by omega, by omega, by have y := f9p0; rw [hms] at y; exact y, by have u := f9p2; rw [hms] at u; exact u, by unfold cMO; omega, by exact fun _ => f9p1⟩
      · intro h11
        refine n_iload_n c_105_33 rfl ?_
        refine n_aload c_105_34 rfl ?_
        refine n_getV (bi := 2) c_105_36 made103.c0.1.n rfl rfl rfl (t_made hS8 made103).2.2 ?_
        intro z12 ez12 f13
        refine n_if2_lt c_105_39 (by omega) (by omega) ?_ ?_
        · intro h14
          refine n_iload_n c_105_44 rfl ?_
          refine n_if0_ne c_105_45 (by omega) ?_ ?_
          · intro h15
            exfalso; omega
          · intro h16
            refine n_aload c_105_48 rfl ?_
            refine n_getR c_105_50 made103.c0.1.n rfl rfl rfl made103.r.1 ?_
            refine n_iload_n c_105_53 rfl ?_
            refine n_ialoadV c_105_54 made103.c0.2.1.n rfl rfl rfl (by omega) (t_mader hS8 made103 (Or.inl rfl) (by omega)) ?_
            intro z17 ez17 f18
            refine n_goto c_105_55 ?_
            exact n_rI c_105_65 rfl ⟨hS8, by omega, by omega, by have y := f9p0; rw [hms] at y; exact y, by have u := f9p2; rw [hms] at u; exact u, by unfold cMO; omega, by exact fun _ => f9p1⟩
        · intro h19
          refine n_iconst c_105_42 ?_
          exact n_rI c_105_43 rfl ⟨hS8, by omega, by omega, by have y := f9p0; rw [hms] at y; exact y, by have u := f9p2; rw [hms] at u; exact u, by unfold cMO; omega, by exact fun _ => f9p1⟩
    · intro h20
      refine n_iload_n c_105_15 rfl ?_
      refine n_iconst c_105_16 ?_
      refine n_if2_eq c_105_17 (by omega) (by omega) ?_ ?_
      · intro h21
        refine n_aload_n c_105_22 rfl ?_
        refine n_iload_n c_105_23 rfl ?_
        refine n_v1A c_105_24 rfl sc_3.n rfl rfl rfl rfl (madeListX_1_3 (Ms := M) hS (by rfl) (by exact hpz) (by rw [hms]; exact hwa) (by rw [hms]; exact hkn) (by rw [hms]; exact hkl)) ?_
        intro z22 M23 hP24
        obtain ⟨hS23, f24, f24p0, f24p1, f24p2⟩ := hP24
        have g112 := f24p0.2.2 112 0 (by omega) (by omega) (by omega) (by omega) (by omega) (by omega)
        obtain rfl : z22 = 103 := f24
        refine n_astore (L2 := [some (2, 3), some (0, 1), some (0, i), some (0, w), some (2, 103)]) c_105_27 rfl rfl ?_
        refine n_iload_n c_105_29 rfl ?_
        refine n_if0_lt c_105_30 (by omega) ?_ ?_
        · intro h25
          refine n_iconst c_105_42 ?_
          exact n_rI c_105_43 rfl ⟨hS23, by omega, by omega, by have y := f24p0; rw [hms] at y; exact y, by have u := f24p2; rw [hms] at u; exact u, by unfold cMO; omega, by exact fun _ => f24p1⟩
        · intro h26
          refine n_iload_n c_105_33 rfl ?_
          refine n_aload c_105_34 rfl ?_
          refine n_getV (bi := 2) c_105_36 made103.c0.1.n rfl rfl rfl (t_made hS23 made103).2.2 ?_
          intro z27 ez27 f28
          refine n_if2_lt c_105_39 (by omega) (by omega) ?_ ?_
          · intro h29
            refine n_iload_n c_105_44 rfl ?_
            refine n_if0_ne c_105_45 (by omega) ?_ ?_
            · intro h30
              refine n_aload c_105_58 rfl ?_
              refine n_getR c_105_60 made103.c0.1.n rfl rfl rfl made103.r.2 ?_
              refine n_iload_n c_105_63 rfl ?_
              refine n_ialoadV c_105_64 made103.c0.2.2.n rfl rfl rfl (by omega) (t_mader hS23 made103 (Or.inr rfl) (by omega)) ?_
              intro z31 ez31 f32
              exact n_rI c_105_65 rfl ⟨hS23, by omega, by omega, by have y := f24p0; rw [hms] at y; exact y, by have u := f24p2; rw [hms] at u; exact u, by unfold cMO; omega, by exact fun _ => f24p1⟩
            · intro h33
              exfalso; omega
          · intro h34
            refine n_iconst c_105_42 ?_
            exact n_rI c_105_43 rfl ⟨hS23, by omega, by omega, by have y := f24p0; rw [hms] at y; exact y, by have u := f24p2; rw [hms] at u; exact u, by unfold cMO; omega, by exact fun _ => f24p1⟩
      · intro h35
        refine n_iconst c_105_20 ?_
        exact n_rI c_105_21 rfl ⟨hS, by omega, by omega, by exact ⟨fun q => by rw [hms] at q ⊢; exact hkn q, hpz, fun _ _ _ _ _ _ _ _ => by rw [hms]⟩, by rw [hms]; exact hkl, by unfold cMO; omega, by exact fun q => by omega⟩

set_option maxHeartbeats 4000000 in
theorem sizeX_1_3 {xs : List Int32} {e : Nat} {ac : Int} {M : nM} {c gd : Int} {Ms : nM} (hS : Sf 3 ac M M) (hc : -2147483648 ≤ c ∧ c ≤ 2147483647) (hgd : M 112 0 = gd) (hms : M = Ms) (hpz : PZ M) (hwa : ∀ a : Int, 0 ≤ a → a < ac → WAct 3 (55 + 3 * a) Ms) (hkn : Ms 103 0 = 1 → KN (NCl 3 3 1 ac (Tm Ms)) (Ms 103 1) (Ms 103 2)) (hkl : Ms 103 0 = 1 → LOa 3 3 1 ac Ms 103 Ms) : nW xs (e + 6) 106 0 [some (2, 3), some (0, 1), some (0, c), none] [] M (nPI fun z M1 => Sf 3 ac M1 M1 ∧ (-2147483648 ≤ z ∧ z ≤ 2147483647) ∧ (M1 112 0 = gd) ∧ (MDs 3 3 1 ac 103 Ms M1) ∧ (M1 103 0 = 1 → LOa 3 3 1 ac Ms 103 M1)) := by
  have hd : (3 : Int) = 2 ∨ (3 : Int) = 3 := by decide
  have hac := hS.2.2.2.2
  refine n_aload_n c_106_0 rfl ?_
  refine n_getR c_106_1 sc_3.n rfl rfl rfl r_3_0 ?_
  refine n_iload_n c_106_4 rfl ?_
  refine n_v1I c_106_5 rfl sc_4.n rfl rfl rfl rfl (isMadeX1_3  hS ) ?_
  intro z1 M2 hP3
  obtain ⟨eM, f3⟩ := hP3
  subst eM
  obtain rfl : z1 = 1 := by omega
  refine n_if0_ne c_106_8 (by omega) ?_ ?_
  · intro h4
    refine n_aload_n c_106_13 rfl ?_
    refine n_iload_n c_106_14 rfl ?_
    refine n_v1A c_106_15 rfl sc_3.n rfl rfl rfl rfl (madeListX_1_3 (Ms := M) hS (by rfl) (by exact hpz) (by rw [hms]; exact hwa) (by rw [hms]; exact hkn) (by rw [hms]; exact hkl)) ?_
    intro z5 M6 hP7
    obtain ⟨hS6, f7, f7p0, f7p1, f7p2⟩ := hP7
    have g112 := f7p0.2.2 112 0 (by omega) (by omega) (by omega) (by omega) (by omega) (by omega)
    obtain rfl : z5 = 103 := f7
    refine n_astore_n (L2 := [some (2, 3), some (0, 1), some (0, c), some (2, 103)]) c_106_18 rfl rfl ?_
    refine n_aload_n c_106_19 rfl ?_
    refine n_getV (bi := 1) c_106_20 made103.c0.1.n rfl rfl rfl (t_made hS6 made103).2.1 ?_
    intro z8 ez8 f9
    refine n_if0_eq c_106_23 (by omega) ?_ ?_
    · intro h10
      refine n_iload_n c_106_29 rfl ?_
      refine n_if0_lt c_106_30 (by omega) ?_ ?_
      · intro h11
        refine n_iconst c_106_45 ?_
        exact n_rI c_106_46 rfl ⟨hS6, by omega, by omega, by have y := f7p0; rw [hms] at y; exact y, by have u := f7p2; rw [hms] at u; exact u⟩
      · intro h12
        refine n_iload_n c_106_33 rfl ?_
        refine n_aload_n c_106_34 rfl ?_
        refine n_getR c_106_35 sc_3.n rfl rfl rfl r_3_0 ?_
        refine n_iload_n c_106_38 rfl ?_
        refine n_v1I c_106_39 rfl sc_4.n rfl rfl rfl rfl (codesX1_3  hS6 ) ?_
        intro z13 M14 hP15
        obtain ⟨eM, f15⟩ := hP15
        subst eM
        obtain rfl : z13 = 27 := by omega
        refine n_if2_lt c_106_42 (by omega) (by omega) ?_ ?_
        · intro h16
          refine n_aload_n c_106_47 rfl ?_
          refine n_iload_n c_106_48 rfl ?_
          refine n_v1I c_106_49 rfl made103.c0.1.n rfl rfl rfl rfl (sizeOf_1_3 (c := c) hS6 (by omega)) ?_
          intro z17 M18 hP19
          obtain ⟨eM, f19⟩ := hP19
          subst eM
          exact n_rI c_106_52 rfl ⟨hS6, by omega, by omega, by have y := f7p0; rw [hms] at y; exact y, by have u := f7p2; rw [hms] at u; exact u⟩
        · intro h20
          refine n_iconst c_106_45 ?_
          exact n_rI c_106_46 rfl ⟨hS6, by omega, by omega, by have y := f7p0; rw [hms] at y; exact y, by have u := f7p2; rw [hms] at u; exact u⟩
    · intro h21
      refine n_bipush c_106_26 rfl ?_
      exact n_rI c_106_28 rfl ⟨hS6, by omega, by omega, by have y := f7p0; rw [hms] at y; exact y, by have u := f7p2; rw [hms] at u; exact u⟩
  · intro h22
    exfalso; omega

set_option maxHeartbeats 4000000 in
theorem addX_2_3 {xs : List Int32} {e : Nat} {ac : Int} {M : nM} {c s : Int} {Ms : nM} (hS : Sf 3 ac M M) (hc : 0 ≤ c ∧ c ≤ 19682) (hs : 0 ≤ s ∧ s ≤ 1000000) (hK : MK 19683 27 26 702 18954 1 3 9 27 81 243 729 2187 6561 M) (hI : MI 3 9 2 ac Ms M) (hzc : M (M 15 9) c = 0) (hcl : Clo 3 9 2 ac (Tm Ms) c) : nW xs (e + 1) 56 0 [some (2, 15), some (0, c), some (0, s)] [] M (nPV fun M1 => Sf 3 ac M1 M1 ∧ MK 19683 27 26 702 18954 1 3 9 27 81 243 729 2187 6561 M1 ∧ (MI 3 9 2 ac Ms M1) ∧ (GR M M1) ∧ (AD c M M1) ∧ (FAm M M1) ∧ (ADz c s M M1)) := by
  have hd : (3 : Int) = 2 ∨ (3 : Int) = 3 := by decide
  have hac := hS.2.2.2.2
  refine n_aload_n c_56_0 rfl ?_
  refine n_getV (bi := 10) c_56_1 sc_15.n rfl rfl rfl (t_15_10 hS) ?_
  intro z1 ez1 f2
  refine n_sipush c_56_4 rfl ?_
  refine n_if2_le c_56_7 (by omega) (by omega) ?_ ?_
  · intro h3
    refine n_aload_n c_56_11 rfl ?_
    refine n_getR c_56_12 sc_15.n rfl rfl rfl r_15_1 ?_
    refine n_aload_n c_56_15 rfl ?_
    refine n_getV (bi := 10) c_56_16 sc_15.n rfl rfl rfl (t_15_10 hS) ?_
    intro z4 ez4 f5
    obtain rfl : z1 = z4 := by omega
    refine n_iload_n c_56_19 rfl ?_
    refine n_iastoreM hS c_56_20 sc_20.n rfl (by omega) (m_20 (by omega) (by omega)) ?_
    intro M6 eM6 hS6
    have hK6 := hK.u (by unfold Kok; omega) eM6
    have g6_0 : M6 15 10 = M 15 10 := by rw [eM6]; exact nu_a (by omega)
    have g6_1 : M6 20 z1 = c := by rw [eM6]; exact nu_s _ _ _ _
    refine n_aload_n c_56_21 rfl ?_
    refine n_getR c_56_22 sc_15.n rfl rfl rfl r_15_2 ?_
    refine n_aload_n c_56_25 rfl ?_
    refine n_getV (bi := 10) c_56_26 sc_15.n rfl rfl rfl (t_15_10 hS6) ?_
    intro z7 ez7 f8
    obtain rfl : z1 = z7 := by omega
    refine n_iload_n c_56_29 rfl ?_
    refine n_iastoreM hS6 c_56_30 sc_21.n rfl (by omega) (m_21 (by omega) (by omega)) ?_
    intro M9 eM9 hS9
    have hK9 := hK6.u (by unfold Kok; omega) eM9
    have g9_0 : M9 15 10 = M6 15 10 := by rw [eM9]; exact nu_a (by omega)
    have g9_1 : M9 20 z1 = M6 20 z1 := by rw [eM9]; exact nu_a (by omega)
    have g9_2 : M9 21 z1 = s := by rw [eM9]; exact nu_s _ _ _ _
    refine n_aload_n c_56_31 rfl ?_
    refine n_getR c_56_32 sc_15.n rfl rfl rfl r_15_3 ?_
    refine n_aload_n c_56_35 rfl ?_
    refine n_getV (bi := 10) c_56_36 sc_15.n rfl rfl rfl (t_15_10 hS9) ?_
    intro z10 ez10 f11
    obtain rfl : z1 = z10 := by omega
    refine n_aload_n c_56_39 rfl ?_
    refine n_getB c_56_40 hK9.b ?_
    refine n_iload_n c_56_43 rfl ?_
    refine n_iconst c_56_44 ?_
    refine n_v2I c_56_45 rfl sc_4.n rfl rfl rfl rfl (threeOfX0_3 (c := c) hS9 (by omega)) ?_
    intro z12 M13 hP14
    obtain ⟨eM, f14, f14p0⟩ := hP14
    subst eM
    refine n_iastoreM hS9 c_56_48 sc_22.n rfl (by omega) (m_22 (by omega) (by omega)) ?_
    intro M15 eM15 hS15
    have hK15 := hK9.u (by unfold Kok; omega) eM15
    have g15_0 : M15 15 10 = M9 15 10 := by rw [eM15]; exact nu_a (by omega)
    have g15_1 : M15 20 z1 = M9 20 z1 := by rw [eM15]; exact nu_a (by omega)
    have g15_2 : M15 21 z1 = M9 21 z1 := by rw [eM15]; exact nu_a (by omega)
    have g15_3 : M15 22 z1 = z12 := by rw [eM15]; exact nu_s _ _ _ _
    refine n_aload_n c_56_49 rfl ?_
    refine n_getR c_56_50 sc_15.n rfl rfl rfl r_15_4 ?_
    refine n_aload_n c_56_53 rfl ?_
    refine n_getV (bi := 10) c_56_54 sc_15.n rfl rfl rfl (t_15_10 hS15) ?_
    intro z16 ez16 f17
    obtain rfl : z1 = z16 := by omega
    refine n_aload_n c_56_57 rfl ?_
    refine n_getB c_56_58 hK15.b ?_
    refine n_iload_n c_56_61 rfl ?_
    refine n_iconst c_56_62 ?_
    refine n_v2I c_56_63 rfl sc_4.n rfl rfl rfl rfl (threeOfX3_3 (c := c) hS15 (by omega)) ?_
    intro z18 M19 hP20
    obtain ⟨eM, f20, f20p0⟩ := hP20
    subst eM
    refine n_iastoreM hS15 c_56_66 sc_23.n rfl (by omega) (m_23 (by omega) (by omega)) ?_
    intro M21 eM21 hS21
    have hK21 := hK15.u (by unfold Kok; omega) eM21
    have g21_0 : M21 15 10 = M15 15 10 := by rw [eM21]; exact nu_a (by omega)
    have g21_1 : M21 20 z1 = M15 20 z1 := by rw [eM21]; exact nu_a (by omega)
    have g21_2 : M21 21 z1 = M15 21 z1 := by rw [eM21]; exact nu_a (by omega)
    have g21_3 : M21 22 z1 = M15 22 z1 := by rw [eM21]; exact nu_a (by omega)
    have g21_4 : M21 23 z1 = z18 := by rw [eM21]; exact nu_s _ _ _ _
    refine n_aload_n c_56_67 rfl ?_
    refine n_getR c_56_68 sc_15.n rfl rfl rfl r_15_5 ?_
    refine n_aload_n c_56_71 rfl ?_
    refine n_getV (bi := 10) c_56_72 sc_15.n rfl rfl rfl (t_15_10 hS21) ?_
    intro z22 ez22 f23
    obtain rfl : z1 = z22 := by omega
    refine n_aload_n c_56_75 rfl ?_
    refine n_getB c_56_76 hK21.b ?_
    refine n_iload_n c_56_79 rfl ?_
    refine n_bipush c_56_80 rfl ?_
    refine n_v2I c_56_82 rfl sc_4.n rfl rfl rfl rfl (threeOfX6_3 (c := c) hS21 (by omega)) ?_
    intro z24 M25 hP26
    obtain ⟨eM, f26, f26p0⟩ := hP26
    subst eM
    refine n_iastoreM hS21 c_56_85 sc_24.n rfl (by omega) (m_24 (by omega) (by omega)) ?_
    intro M27 eM27 hS27
    have hK27 := hK21.u (by unfold Kok; omega) eM27
    have g27_0 : M27 15 10 = M21 15 10 := by rw [eM27]; exact nu_a (by omega)
    have g27_1 : M27 20 z1 = M21 20 z1 := by rw [eM27]; exact nu_a (by omega)
    have g27_2 : M27 21 z1 = M21 21 z1 := by rw [eM27]; exact nu_a (by omega)
    have g27_3 : M27 22 z1 = M21 22 z1 := by rw [eM27]; exact nu_a (by omega)
    have g27_4 : M27 23 z1 = M21 23 z1 := by rw [eM27]; exact nu_a (by omega)
    have g27_5 : M27 24 z1 = z24 := by rw [eM27]; exact nu_s _ _ _ _
    refine n_aload_n c_56_86 rfl ?_
    refine n_dup2 c_56_87 ?_
    refine n_getV (bi := 10) c_56_88 sc_15.n rfl rfl rfl (t_15_10 hS27) ?_
    intro z28 ez28 f29
    obtain rfl : z1 = z28 := by omega
    refine n_iconst c_56_91 ?_
    refine n_iadd c_56_92 rfl ?_
    refine n_putM (bi := 10) hS27 c_56_93 sc_15.n rfl rfl rfl rfl (m_15_10 (by omega)) ?_
    intro M30 eM30 hS30
    have hK30 := hK27.cnt (c := z1) (by omega) (by omega) (z := (z1 + 1)) (by omega) eM30
    have g30_0 : M30 20 z1 = M27 20 z1 := by rw [eM30]; exact nu_a (by omega)
    have g30_1 : M30 21 z1 = M27 21 z1 := by rw [eM30]; exact nu_a (by omega)
    have g30_2 : M30 22 z1 = M27 22 z1 := by rw [eM30]; exact nu_a (by omega)
    have g30_3 : M30 23 z1 = M27 23 z1 := by rw [eM30]; exact nu_a (by omega)
    have g30_4 : M30 24 z1 = M27 24 z1 := by rw [eM30]; exact nu_a (by omega)
    have g30_5 : M30 15 10 = (z1 + 1) := by rw [eM30]; exact nu_s _ _ _ _
    refine n_aload_n c_56_96 rfl ?_
    refine n_getP c_56_97 ?_
    intro p31 ep31
    refine n_iload_n c_56_100 rfl ?_
    refine n_aload_n c_56_101 rfl ?_
    refine n_getV (bi := 10) c_56_102 sc_15.n rfl rfl rfl (t_15_10 hS30) ?_
    intro z32 ez32 f33
    refine n_iastoreQ hS30 hK30 c_56_105 ep31 (by omega) (by omega) ?_
    intro M34 eM34 fM34 hS34 hK34
    have g34_0 := fM34 20 z1 (by omega) (by omega)
    have g34_1 := fM34 21 z1 (by omega) (by omega)
    have g34_2 := fM34 22 z1 (by omega) (by omega)
    have g34_3 := fM34 23 z1 (by omega) (by omega)
    have g34_4 := fM34 24 z1 (by omega) (by omega)
    have g34_5 := fM34 15 10 (by omega) (by omega)
    have hP := hS.p9
    have ad := MI.add (z := z32) (M3 := M15) (M4 := M21) (M5 := M27) hI ez1 (by omega) (by omega) hzc hcl (by omega) hP eM6 eM9 (by rw [eM15, f14p0]) (by rw [eM21, f20p0]) (by rw [eM27, f26p0]) eM30 eM34
    have ad3 : ADz c s M M34 := ADz.mk (d := 3) (z := z32) (M3 := M15) (M4 := M21) (M5 := M27) ez1 hP eM6 eM9 (by rw [eM15, f14p0]) (by rw [eM21, f20p0]) (by rw [eM27, f26p0]) eM30 eM34
    have ad2 : AD c M M34 := by refine Or.inr ⟨?_, ?_⟩; (have y := fM34 15 10 (by omega) (by omega); omega); (rw [fM34 20 _ (by omega) (by omega), eM30, nu_a (by omega), eM27, nu_a (by omega), eM21, nu_a (by omega), eM15, nu_a (by omega), eM9, nu_a (by omega), eM6, ← ez1, nu_s])
    exact n_rV c_56_106 rfl ⟨hS34, hK34, by exact ad.1, by exact ad.2.1, by exact ad2, by exact ad.2.2.2, by exact ad3⟩
  · intro h35
    exact n_rV c_56_10 rfl ⟨hS, hK, by exact hI, by exact GR.refl, by exact Or.inl (by omega), by exact FAm.refl, by exact Or.inl ⟨by omega, rfl⟩⟩

set_option maxHeartbeats 4000000 in
theorem fillMX25T_2_3_c {xs : List Int32} {e : Nat} {ac : Int} {M0 M : nM} {p i j g : Int} {Ms : nM} (hS : Sf 3 ac M0 M) (hp : ActAt p) (hpl : p < 55 + 3 * ac) (hi : 0 ≤ i ∧ i ≤ 26) (hj : 0 ≤ j ∧ j ≤ 26) (hK : MK 19683 27 26 702 18954 1 3 9 27 81 243 729 2187 6561 M) (hg : M 15 10 = g) (hms : M = Ms) : ∀ nn : Nat, (∀ (x5 x6 x7 x8 x9 x10 : Int) (M : nM), Sf 3 ac M0 M → (3 ≤ x5 ∧ x5 ≤ 3) → (0 ≤ x6 ∧ x6 ≤ 24) → (0 ≤ x7 ∧ x7 ≤ 24) → (0 ≤ x8 ∧ x8 ≤ 24) → (0 ≤ x9 ∧ x9 ≤ 27) → (0 ≤ x10 ∧ x10 ≤ 3) → (MK 19683 27 26 702 18954 1 3 9 27 81 243 729 2187 6561 M) → (M 15 10 = g) → (x9 = 9 * x10) → (x6 = (i / (3 * 3) * 3 + j / (3 * 3)) * 3) → (x7 = (i / 3 % 3 * 3 + j / 3 % 3) * 3) → (x8 = (i % 3 * 3 + j % 3) * 3) → (FCm 26 Ms M) → (∀ c : Int, 0 ≤ c → c < x9 → M 26 c = linw 3 (fun i => Ms (p + 1) i) 1 3 9 i j c) → (3 - x10) * 31 + 31 < (nn : Int) → nW xs e 45 86 [some (2, 25), none, some (2, (p + 1)), none, none, some (0, x5), some (0, x6), some (0, x7), some (0, x8), some (0, x9), some (0, x10), none, none, none, none] [] M (nPV fun M1 => Sf 3 ac M0 M1 ∧ (M1 15 10 = g) ∧ MK 19683 27 26 702 18954 1 3 9 27 81 243 729 2187 6561 M1 ∧ (FCm 26 Ms M1) ∧ (∀ c : Int, 0 ≤ c → c < 3 * 3 * 3 → M1 26 c = linw 3 (fun i => Ms (p + 1) i) 1 3 9 i j c))) ∧ (∀ (x5 x6 x7 x8 x9 x10 x11 x12 : Int) (M : nM), Sf 3 ac M0 M → (3 ≤ x5 ∧ x5 ≤ 3) → (0 ≤ x6 ∧ x6 ≤ 24) → (0 ≤ x7 ∧ x7 ≤ 24) → (0 ≤ x8 ∧ x8 ≤ 24) → (0 ≤ x9 ∧ x9 ≤ 27) → (0 ≤ x10 ∧ x10 ≤ 2) → (0 ≤ x11 ∧ x11 ≤ 2) → (0 ≤ x12 ∧ x12 ≤ 3) → (MK 19683 27 26 702 18954 1 3 9 27 81 243 729 2187 6561 M) → (M 15 10 = g) → (x9 = 9 * x10 + 3 * x12) → (x6 = (i / (3 * 3) * 3 + j / (3 * 3)) * 3) → (x7 = (i / 3 % 3 * 3 + j / 3 % 3) * 3) → (x8 = (i % 3 * 3 + j % 3) * 3) → (FCm 26 Ms M) → (∀ c : Int, 0 ≤ c → c < x9 → M 26 c = linw 3 (fun i => Ms (p + 1) i) 1 3 9 i j c) → (x11 = Ms (p + 1) (x6 + x10) * 1) → (3 - x10) * 31 + (3 - x12) * 6 + 6 < (nn : Int) → nW xs e 45 110 [some (2, 25), none, some (2, (p + 1)), none, none, some (0, x5), some (0, x6), some (0, x7), some (0, x8), some (0, x9), some (0, x10), some (0, x11), some (0, x12), none, none] [] M (nPV fun M1 => Sf 3 ac M0 M1 ∧ (M1 15 10 = g) ∧ MK 19683 27 26 702 18954 1 3 9 27 81 243 729 2187 6561 M1 ∧ (FCm 26 Ms M1) ∧ (∀ c : Int, 0 ≤ c → c < 3 * 3 * 3 → M1 26 c = linw 3 (fun i => Ms (p + 1) i) 1 3 9 i j c))) ∧ (∀ (x5 x6 x7 x8 x9 x10 x11 x12 x13 x14 : Int) (M : nM), Sf 3 ac M0 M → (3 ≤ x5 ∧ x5 ≤ 3) → (0 ≤ x6 ∧ x6 ≤ 24) → (0 ≤ x7 ∧ x7 ≤ 24) → (0 ≤ x8 ∧ x8 ≤ 24) → (0 ≤ x9 ∧ x9 ≤ 27) → (0 ≤ x10 ∧ x10 ≤ 2) → (0 ≤ x11 ∧ x11 ≤ 2) → (0 ≤ x12 ∧ x12 ≤ 2) → (0 ≤ x13 ∧ x13 ≤ 8) → (0 ≤ x14 ∧ x14 ≤ 3) → (MK 19683 27 26 702 18954 1 3 9 27 81 243 729 2187 6561 M) → (M 15 10 = g) → (x9 = 9 * x10 + 3 * x12 + x14) → (x6 = (i / (3 * 3) * 3 + j / (3 * 3)) * 3) → (x7 = (i / 3 % 3 * 3 + j / 3 % 3) * 3) → (x8 = (i % 3 * 3 + j % 3) * 3) → (FCm 26 Ms M) → (∀ c : Int, 0 ≤ c → c < x9 → M 26 c = linw 3 (fun i => Ms (p + 1) i) 1 3 9 i j c) → (x11 = Ms (p + 1) (x6 + x10) * 1) → (x13 = Ms (p + 1) (x6 + x10) * 1 + Ms (p + 1) (x7 + x12) * 3) → (3 - x10) * 31 + (3 - x12) * 6 + (3 - x14) * 1 + 1 < (nn : Int) → nW xs e 45 137 [some (2, 25), none, some (2, (p + 1)), none, none, some (0, x5), some (0, x6), some (0, x7), some (0, x8), some (0, x9), some (0, x10), some (0, x11), some (0, x12), some (0, x13), some (0, x14)] [] M (nPV fun M1 => Sf 3 ac M0 M1 ∧ (M1 15 10 = g) ∧ MK 19683 27 26 702 18954 1 3 9 27 81 243 729 2187 6561 M1 ∧ (FCm 26 Ms M1) ∧ (∀ c : Int, 0 ≤ c → c < 3 * 3 * 3 → M1 26 c = linw 3 (fun i => Ms (p + 1) i) 1 3 9 i j c))) := by
  have hd : (3 : Int) = 2 ∨ (3 : Int) = 3 := by decide
  have hac := hS.2.2.2.2
  have hpb := hp.1
  intro nn
  induction nn with
  | zero => refine ⟨?_, ?_, ?_⟩ <;> (intros; omega)
  | succ nn ih =>
    refine ⟨?_, ?_, ?_⟩
    · intro x5 x6 x7 x8 x9 x10 M hS k5 k6 k7 k8 k9 k10 hK hgg v0 v1 v2 v3 v4 v5 hnn
      refine n_iload c_45_86 rfl ?_
      refine n_iload c_45_88 rfl ?_
      refine n_if2_ge c_45_90 (by omega) (by omega) ?_ ?_
      · intro h1
        exact n_rV c_45_187 rfl ⟨hS, by omega, hK, by exact v4, by exact fun c h0 h1 => v5 c h0 (by omega)⟩
      · intro h2
        refine n_aload_n c_45_93 rfl ?_
        refine n_iload c_45_94 rfl ?_
        refine n_iload c_45_96 rfl ?_
        refine n_iadd c_45_98 rfl ?_
        refine n_ialoadV c_45_99 hp.c0.2.1.n rfl rfl rfl (by omega) (t_actrl hS hp hpl (Or.inl rfl) (by omega) (by omega)) ?_
        intro z3 ez3 f4
        refine n_aload_n c_45_100 rfl ?_
        refine n_getV (bi := 1) c_45_101 sc_25.n rfl rfl rfl hK.w25.1 ?_
        intro z5 ez5 f6
        obtain rfl : z5 = 1 := by omega
        refine n_imul c_45_104 rfl ?_
        refine n_istore (L2 := [some (2, 25), none, some (2, (p + 1)), none, none, some (0, x5), some (0, x6), some (0, x7), some (0, x8), some (0, x9), some (0, x10), some (0, (z3 * 1)), none, none, none]) c_45_105 rfl rfl ?_
        refine n_iconst c_45_107 ?_
        refine n_istore (L2 := [some (2, 25), none, some (2, (p + 1)), none, none, some (0, x5), some (0, x6), some (0, x7), some (0, x8), some (0, x9), some (0, x10), some (0, (z3 * 1)), some (0, 0), none, none]) c_45_108 rfl rfl ?_
        refine n_fg (le_s (le_n (le_s (le_n (le_n (le_s (le_s (le_s (le_s (le_s (le_s (le_s (le_s (le_n (le_n le_0))))))))))))))) ?_
        exact ih.2.1 _ _ _ _ _ _ _ _ M hS (by omega) (by omega) (by omega) (by omega) (by omega) (by omega) (by omega) (by omega) hK (by omega) (by omega) (by exact v1) (by exact v2) (by exact v3) (by exact v4) (by exact v5) (by have u1 := v4 (p + 1) (x6 + x10) (by omega); omega) (by omega)
    · intro x5 x6 x7 x8 x9 x10 x11 x12 M hS k5 k6 k7 k8 k9 k10 k11 k12 hK hgg v0 v1 v2 v3 v4 v5 v6 hnn
      refine n_iload c_45_110 rfl ?_
      refine n_iload c_45_112 rfl ?_
      refine n_if2_ge c_45_114 (by omega) (by omega) ?_ ?_
      · intro h1
        refine n_iinc (L2 := [some (2, 25), none, some (2, (p + 1)), none, none, some (0, x5), some (0, x6), some (0, x7), some (0, x8), some (0, x9), some (0, (x10 + 1)), some (0, x11), some (0, x12), none, none]) c_45_181 rfl rfl rfl ?_
        refine n_goto c_45_184 ?_
        refine n_fg (le_s (le_n (le_s (le_n (le_n (le_s (le_s (le_s (le_s (le_s (le_s (le_n (le_n (le_n (le_n le_0))))))))))))))) ?_
        exact ih.1 _ _ _ _ _ _ M hS (by omega) (by omega) (by omega) (by omega) (by omega) (by omega) hK (by omega) (by omega) (by exact v1) (by exact v2) (by exact v3) (by exact v4) (by exact v5) (by omega)
      · intro h2
        refine n_iload c_45_117 rfl ?_
        refine n_aload_n c_45_119 rfl ?_
        refine n_iload c_45_120 rfl ?_
        refine n_iload c_45_122 rfl ?_
        refine n_iadd c_45_124 rfl ?_
        refine n_ialoadV c_45_125 hp.c0.2.1.n rfl rfl rfl (by omega) (t_actrl hS hp hpl (Or.inl rfl) (by omega) (by omega)) ?_
        intro z3 ez3 f4
        refine n_aload_n c_45_126 rfl ?_
        refine n_getV (bi := 2) c_45_127 sc_25.n rfl rfl rfl hK.w25.2.1 ?_
        intro z5 ez5 f6
        obtain rfl : z5 = 3 := by omega
        refine n_imul c_45_130 rfl ?_
        refine n_iadd c_45_131 rfl ?_
        refine n_istore (L2 := [some (2, 25), none, some (2, (p + 1)), none, none, some (0, x5), some (0, x6), some (0, x7), some (0, x8), some (0, x9), some (0, x10), some (0, x11), some (0, x12), some (0, (x11 + (z3 * 3))), none]) c_45_132 rfl rfl ?_
        refine n_iconst c_45_134 ?_
        refine n_istore (L2 := [some (2, 25), none, some (2, (p + 1)), none, none, some (0, x5), some (0, x6), some (0, x7), some (0, x8), some (0, x9), some (0, x10), some (0, x11), some (0, x12), some (0, (x11 + (z3 * 3))), some (0, 0)]) c_45_135 rfl rfl ?_
        refine n_fg (le_s (le_n (le_s (le_n (le_n (le_s (le_s (le_s (le_s (le_s (le_s (le_s (le_s (le_s (le_s le_0))))))))))))))) ?_
        exact ih.2.2 _ _ _ _ _ _ _ _ _ _ M hS (by omega) (by omega) (by omega) (by omega) (by omega) (by omega) (by omega) (by omega) (by omega) (by omega) hK (by omega) (by omega) (by exact v1) (by exact v2) (by exact v3) (by exact v4) (by exact v5) (by exact v6) (by have u1 := v4 (p + 1) (x7 + x12) (by omega); omega) (by omega)
    · intro x5 x6 x7 x8 x9 x10 x11 x12 x13 x14 M hS k5 k6 k7 k8 k9 k10 k11 k12 k13 k14 hK hgg v0 v1 v2 v3 v4 v5 v6 v7 hnn
      have vf := v4
      refine n_iload c_45_137 rfl ?_
      refine n_iload c_45_139 rfl ?_
      refine n_if2_ge c_45_141 (by omega) (by omega) ?_ ?_
      · intro h1
        refine n_iinc (L2 := [some (2, 25), none, some (2, (p + 1)), none, none, some (0, x5), some (0, x6), some (0, x7), some (0, x8), some (0, x9), some (0, x10), some (0, x11), some (0, (x12 + 1)), some (0, x13), some (0, x14)]) c_45_175 rfl rfl rfl ?_
        refine n_goto c_45_178 ?_
        refine n_fg (le_s (le_n (le_s (le_n (le_n (le_s (le_s (le_s (le_s (le_s (le_s (le_s (le_s (le_n (le_n le_0))))))))))))))) ?_
        exact ih.2.1 _ _ _ _ _ _ _ _ M hS (by omega) (by omega) (by omega) (by omega) (by omega) (by omega) (by omega) (by omega) hK (by omega) (by omega) (by exact v1) (by exact v2) (by exact v3) (by exact v4) (by exact v5) (by exact v6) (by omega)
      · intro h2
        refine n_aload_n c_45_144 rfl ?_
        refine n_getR c_45_145 sc_25.n rfl rfl rfl r_25_0 ?_
        refine n_iload c_45_148 rfl ?_
        refine n_iload c_45_150 rfl ?_
        refine n_aload_n c_45_152 rfl ?_
        refine n_iload c_45_153 rfl ?_
        refine n_iload c_45_155 rfl ?_
        refine n_iadd c_45_157 rfl ?_
        refine n_ialoadV c_45_158 hp.c0.2.1.n rfl rfl rfl (by omega) (t_actrl hS hp hpl (Or.inl rfl) (by omega) (by omega)) ?_
        intro z3 ez3 f4
        refine n_aload_n c_45_159 rfl ?_
        refine n_getV (bi := 3) c_45_160 sc_25.n rfl rfl rfl hK.w25.2.2 ?_
        intro z5 ez5 f6
        obtain rfl : z5 = 9 := by omega
        refine n_imul c_45_163 rfl ?_
        refine n_iadd c_45_164 rfl ?_
        refine n_iastoreV hS c_45_165 sc_26.n rfl (by omega) (w_26 (by omega) (by omega)) ?_
        intro M7 eM7 hS7
        have hK7 := hK.u (by unfold Kok; omega) eM7
        have g7_0 : M7 15 10 = M 15 10 := by rw [eM7]; exact nu_a (by omega)
        refine n_iinc (L2 := [some (2, 25), none, some (2, (p + 1)), none, none, some (0, x5), some (0, x6), some (0, x7), some (0, x8), some (0, (x9 + 1)), some (0, x10), some (0, x11), some (0, x12), some (0, x13), some (0, x14)]) c_45_166 rfl rfl rfl ?_
        refine n_iinc (L2 := [some (2, 25), none, some (2, (p + 1)), none, none, some (0, x5), some (0, x6), some (0, x7), some (0, x8), some (0, (x9 + 1)), some (0, x10), some (0, x11), some (0, x12), some (0, x13), some (0, (x14 + 1))]) c_45_169 rfl rfl rfl ?_
        refine n_goto c_45_172 ?_
        refine n_fg (le_s (le_n (le_s (le_n (le_n (le_s (le_s (le_s (le_s (le_s (le_s (le_s (le_s (le_s (le_s le_0))))))))))))))) ?_
        exact ih.2.2 _ _ _ _ _ _ _ _ _ _ M7 hS7 (by omega) (by omega) (by omega) (by omega) (by omega) (by omega) (by omega) (by omega) (by omega) (by omega) hK7 (by omega) (by omega) (by exact v1) (by exact v2) (by exact v3) (by exact FCm.u v4 eM7) (by exact fun c h0 h1 => by rw [eM7, nu_e]; by_cases e : c = x9; (rw [if_pos ⟨rfl, e⟩, e]; show _ = Ms (p + 1) ((i / (3 * 3) * 3 + j / (3 * 3)) * 3 + x9 / (3 * 3)) * 1 + Ms (p + 1) ((i / 3 % 3 * 3 + j / 3 % 3) * 3 + x9 / 3 % 3) * 3 + Ms (p + 1) ((i % 3 * 3 + j % 3) * 3 + x9 % 3) * 9; rw [show x9 / (3 * 3) = x10 by omega, show x9 / 3 % 3 = x12 by omega, show x9 % 3 = x14 by omega, ← v1, ← v2, ← v3]; have u3 := vf (p + 1) (x8 + x14) (by omega); omega); (rw [if_neg (fun u => e u.2)]; exact v5 c h0 (by omega))) (by exact v6) (by exact v7) (by omega)
set_option maxHeartbeats 4000000 in
theorem fillMX25T_2_3 {xs : List Int32} {e : Nat} {ac : Int} {M0 M : nM} {p i j g : Int} {Ms : nM} (hS : Sf 3 ac M0 M) (hp : ActAt p) (hpl : p < 55 + 3 * ac) (hi : 0 ≤ i ∧ i ≤ 26) (hj : 0 ≤ j ∧ j ≤ 26) (hK : MK 19683 27 26 702 18954 1 3 9 27 81 243 729 2187 6561 M) (hg : M 15 10 = g) (hms : M = Ms) : nW xs e 45 0 [some (2, 25), some (2, 4), some (2, (p + 1)), some (0, i), some (0, j), none, none, none, none, none, none, none, none, none, none] [] M (nPV fun M1 => Sf 3 ac M0 M1 ∧ (M1 15 10 = g) ∧ MK 19683 27 26 702 18954 1 3 9 27 81 243 729 2187 6561 M1 ∧ (FCm 26 Ms M1) ∧ (∀ c : Int, 0 ≤ c → c < 3 * 3 * 3 → M1 26 c = linw 3 (fun i => Ms (p + 1) i) 1 3 9 i j c)) := by
  have hd : (3 : Int) = 2 ∨ (3 : Int) = 3 := by decide
  have hac := hS.2.2.2.2
  have hpb := hp.1
  refine n_aload_n c_45_0 rfl ?_
  refine n_getV (bi := 1) c_45_1 sc_25.n rfl rfl rfl hK.w25.1 ?_
  intro z1 ez1 f2
  obtain rfl : z1 = 1 := by omega
  refine n_if0_ne c_45_4 (by omega) ?_ ?_
  · intro h3
    refine n_aload_n c_45_8 rfl ?_
    refine n_getV (bi := 0) c_45_9 sc_4.n rfl rfl rfl (t_4_0 hS) ?_
    intro z4 ez4 f5
    obtain rfl : z4 = 3 := by omega
    refine n_istore (L2 := [some (2, 25), some (2, 4), some (2, (p + 1)), some (0, i), some (0, j), some (0, 3), none, none, none, none, none, none, none, none, none]) c_45_12 rfl rfl ?_
    refine n_aload_n c_45_14 rfl ?_
    refine n_getR c_45_15 sc_4.n rfl rfl rfl r_4_2 ?_
    refine n_iload_n c_45_18 rfl ?_
    refine n_ialoadV c_45_19 sc_5.n rfl rfl rfl (by omega) (t_5d hS hd (by omega) (by omega)) ?_
    intro z6 ez6 f7
    have q19 := t_5e hS (i := i) (by omega) (by omega)
    refine n_iload c_45_20 rfl ?_
    refine n_imul c_45_22 rfl ?_
    refine n_aload_n c_45_23 rfl ?_
    refine n_getR c_45_24 sc_4.n rfl rfl rfl r_4_2 ?_
    refine n_iload c_45_27 rfl ?_
    refine n_ialoadV c_45_29 sc_5.n rfl rfl rfl (by omega) (t_5d hS hd (by omega) (by omega)) ?_
    intro z8 ez8 f9
    have q29 := t_5e hS (i := j) (by omega) (by omega)
    refine n_iadd c_45_30 rfl ?_
    refine n_iload c_45_31 rfl ?_
    refine n_imul c_45_33 rfl ?_
    refine n_istore (L2 := [some (2, 25), some (2, 4), some (2, (p + 1)), some (0, i), some (0, j), some (0, 3), some (0, (((z6 * 3) + z8) * 3)), none, none, none, none, none, none, none, none]) c_45_34 rfl rfl ?_
    refine n_aload_n c_45_36 rfl ?_
    refine n_getR c_45_37 sc_4.n rfl rfl rfl r_4_3 ?_
    refine n_iload_n c_45_40 rfl ?_
    refine n_ialoadV c_45_41 sc_6.n rfl rfl rfl (by omega) (t_6d hS hd (by omega) (by omega)) ?_
    intro z10 ez10 f11
    have q41 := t_6e hS (i := i) (by omega) (by omega)
    refine n_iload c_45_42 rfl ?_
    refine n_imul c_45_44 rfl ?_
    refine n_aload_n c_45_45 rfl ?_
    refine n_getR c_45_46 sc_4.n rfl rfl rfl r_4_3 ?_
    refine n_iload c_45_49 rfl ?_
    refine n_ialoadV c_45_51 sc_6.n rfl rfl rfl (by omega) (t_6d hS hd (by omega) (by omega)) ?_
    intro z12 ez12 f13
    have q51 := t_6e hS (i := j) (by omega) (by omega)
    refine n_iadd c_45_52 rfl ?_
    refine n_iload c_45_53 rfl ?_
    refine n_imul c_45_55 rfl ?_
    refine n_istore (L2 := [some (2, 25), some (2, 4), some (2, (p + 1)), some (0, i), some (0, j), some (0, 3), some (0, (((z6 * 3) + z8) * 3)), some (0, (((z10 * 3) + z12) * 3)), none, none, none, none, none, none, none]) c_45_56 rfl rfl ?_
    refine n_aload_n c_45_58 rfl ?_
    refine n_getR c_45_59 sc_4.n rfl rfl rfl r_4_4 ?_
    refine n_iload_n c_45_62 rfl ?_
    refine n_ialoadV c_45_63 sc_7.n rfl rfl rfl (by omega) (t_7d hS hd (by omega) (by omega)) ?_
    intro z14 ez14 f15
    have q63 := t_7e hS (i := i) (by omega) (by omega)
    refine n_iload c_45_64 rfl ?_
    refine n_imul c_45_66 rfl ?_
    refine n_aload_n c_45_67 rfl ?_
    refine n_getR c_45_68 sc_4.n rfl rfl rfl r_4_4 ?_
    refine n_iload c_45_71 rfl ?_
    refine n_ialoadV c_45_73 sc_7.n rfl rfl rfl (by omega) (t_7d hS hd (by omega) (by omega)) ?_
    intro z16 ez16 f17
    have q73 := t_7e hS (i := j) (by omega) (by omega)
    refine n_iadd c_45_74 rfl ?_
    refine n_iload c_45_75 rfl ?_
    refine n_imul c_45_77 rfl ?_
    refine n_istore (L2 := [some (2, 25), some (2, 4), some (2, (p + 1)), some (0, i), some (0, j), some (0, 3), some (0, (((z6 * 3) + z8) * 3)), some (0, (((z10 * 3) + z12) * 3)), some (0, (((z14 * 3) + z16) * 3)), none, none, none, none, none, none]) c_45_78 rfl rfl ?_
    refine n_iconst c_45_80 ?_
    refine n_istore (L2 := [some (2, 25), some (2, 4), some (2, (p + 1)), some (0, i), some (0, j), some (0, 3), some (0, (((z6 * 3) + z8) * 3)), some (0, (((z10 * 3) + z12) * 3)), some (0, (((z14 * 3) + z16) * 3)), some (0, 0), none, none, none, none, none]) c_45_81 rfl rfl ?_
    refine n_iconst c_45_83 ?_
    refine n_istore (L2 := [some (2, 25), some (2, 4), some (2, (p + 1)), some (0, i), some (0, j), some (0, 3), some (0, (((z6 * 3) + z8) * 3)), some (0, (((z10 * 3) + z12) * 3)), some (0, (((z14 * 3) + z16) * 3)), some (0, 0), some (0, 0), none, none, none, none]) c_45_84 rfl rfl ?_
    refine n_fg (le_s (le_n (le_s (le_n (le_n (le_s (le_s (le_s (le_s (le_s (le_s (le_n (le_n (le_n (le_n le_0))))))))))))))) ?_
    exact (fillMX25T_2_3_c hS hp hpl hi hj hK hg hms 320).1 _ _ _ _ _ _ M hS (by omega) (by omega) (by omega) (by omega) (by omega) (by omega) hK (by omega) (by omega) (by omega) (by omega) (by omega) (by subst hms; exact fun _ _ _ => rfl) (by exact fun c h0 h1 => by omega) (by omega)
  · intro h18
    exfalso; omega

set_option maxHeartbeats 4000000 in
theorem fillMX27T_2_3_c {xs : List Int32} {e : Nat} {ac : Int} {M0 M : nM} {p i j g : Int} {Ms : nM} (hS : Sf 3 ac M0 M) (hp : ActAt p) (hpl : p < 55 + 3 * ac) (hi : 0 ≤ i ∧ i ≤ 26) (hj : 0 ≤ j ∧ j ≤ 26) (hK : MK 19683 27 26 702 18954 1 3 9 27 81 243 729 2187 6561 M) (hg : M 15 10 = g) (hms : M = Ms) : ∀ nn : Nat, (∀ (x5 x6 x7 x8 x9 x10 : Int) (M : nM), Sf 3 ac M0 M → (3 ≤ x5 ∧ x5 ≤ 3) → (0 ≤ x6 ∧ x6 ≤ 24) → (0 ≤ x7 ∧ x7 ≤ 24) → (0 ≤ x8 ∧ x8 ≤ 24) → (0 ≤ x9 ∧ x9 ≤ 27) → (0 ≤ x10 ∧ x10 ≤ 3) → (MK 19683 27 26 702 18954 1 3 9 27 81 243 729 2187 6561 M) → (M 15 10 = g) → (x9 = 9 * x10) → (x6 = (i / (3 * 3) * 3 + j / (3 * 3)) * 3) → (x7 = (i / 3 % 3 * 3 + j / 3 % 3) * 3) → (x8 = (i % 3 * 3 + j % 3) * 3) → (FCm 28 Ms M) → (∀ c : Int, 0 ≤ c → c < x9 → M 28 c = linw 3 (fun i => Ms (p + 1) i) 27 81 243 i j c) → (3 - x10) * 31 + 31 < (nn : Int) → nW xs e 45 86 [some (2, 27), none, some (2, (p + 1)), none, none, some (0, x5), some (0, x6), some (0, x7), some (0, x8), some (0, x9), some (0, x10), none, none, none, none] [] M (nPV fun M1 => Sf 3 ac M0 M1 ∧ (M1 15 10 = g) ∧ MK 19683 27 26 702 18954 1 3 9 27 81 243 729 2187 6561 M1 ∧ (FCm 28 Ms M1) ∧ (∀ c : Int, 0 ≤ c → c < 3 * 3 * 3 → M1 28 c = linw 3 (fun i => Ms (p + 1) i) 27 81 243 i j c))) ∧ (∀ (x5 x6 x7 x8 x9 x10 x11 x12 : Int) (M : nM), Sf 3 ac M0 M → (3 ≤ x5 ∧ x5 ≤ 3) → (0 ≤ x6 ∧ x6 ≤ 24) → (0 ≤ x7 ∧ x7 ≤ 24) → (0 ≤ x8 ∧ x8 ≤ 24) → (0 ≤ x9 ∧ x9 ≤ 27) → (0 ≤ x10 ∧ x10 ≤ 2) → (0 ≤ x11 ∧ x11 ≤ 54) → (0 ≤ x12 ∧ x12 ≤ 3) → (MK 19683 27 26 702 18954 1 3 9 27 81 243 729 2187 6561 M) → (M 15 10 = g) → (x9 = 9 * x10 + 3 * x12) → (x6 = (i / (3 * 3) * 3 + j / (3 * 3)) * 3) → (x7 = (i / 3 % 3 * 3 + j / 3 % 3) * 3) → (x8 = (i % 3 * 3 + j % 3) * 3) → (FCm 28 Ms M) → (∀ c : Int, 0 ≤ c → c < x9 → M 28 c = linw 3 (fun i => Ms (p + 1) i) 27 81 243 i j c) → (x11 = Ms (p + 1) (x6 + x10) * 27) → (3 - x10) * 31 + (3 - x12) * 6 + 6 < (nn : Int) → nW xs e 45 110 [some (2, 27), none, some (2, (p + 1)), none, none, some (0, x5), some (0, x6), some (0, x7), some (0, x8), some (0, x9), some (0, x10), some (0, x11), some (0, x12), none, none] [] M (nPV fun M1 => Sf 3 ac M0 M1 ∧ (M1 15 10 = g) ∧ MK 19683 27 26 702 18954 1 3 9 27 81 243 729 2187 6561 M1 ∧ (FCm 28 Ms M1) ∧ (∀ c : Int, 0 ≤ c → c < 3 * 3 * 3 → M1 28 c = linw 3 (fun i => Ms (p + 1) i) 27 81 243 i j c))) ∧ (∀ (x5 x6 x7 x8 x9 x10 x11 x12 x13 x14 : Int) (M : nM), Sf 3 ac M0 M → (3 ≤ x5 ∧ x5 ≤ 3) → (0 ≤ x6 ∧ x6 ≤ 24) → (0 ≤ x7 ∧ x7 ≤ 24) → (0 ≤ x8 ∧ x8 ≤ 24) → (0 ≤ x9 ∧ x9 ≤ 27) → (0 ≤ x10 ∧ x10 ≤ 2) → (0 ≤ x11 ∧ x11 ≤ 54) → (0 ≤ x12 ∧ x12 ≤ 2) → (0 ≤ x13 ∧ x13 ≤ 216) → (0 ≤ x14 ∧ x14 ≤ 3) → (MK 19683 27 26 702 18954 1 3 9 27 81 243 729 2187 6561 M) → (M 15 10 = g) → (x9 = 9 * x10 + 3 * x12 + x14) → (x6 = (i / (3 * 3) * 3 + j / (3 * 3)) * 3) → (x7 = (i / 3 % 3 * 3 + j / 3 % 3) * 3) → (x8 = (i % 3 * 3 + j % 3) * 3) → (FCm 28 Ms M) → (∀ c : Int, 0 ≤ c → c < x9 → M 28 c = linw 3 (fun i => Ms (p + 1) i) 27 81 243 i j c) → (x11 = Ms (p + 1) (x6 + x10) * 27) → (x13 = Ms (p + 1) (x6 + x10) * 27 + Ms (p + 1) (x7 + x12) * 81) → (3 - x10) * 31 + (3 - x12) * 6 + (3 - x14) * 1 + 1 < (nn : Int) → nW xs e 45 137 [some (2, 27), none, some (2, (p + 1)), none, none, some (0, x5), some (0, x6), some (0, x7), some (0, x8), some (0, x9), some (0, x10), some (0, x11), some (0, x12), some (0, x13), some (0, x14)] [] M (nPV fun M1 => Sf 3 ac M0 M1 ∧ (M1 15 10 = g) ∧ MK 19683 27 26 702 18954 1 3 9 27 81 243 729 2187 6561 M1 ∧ (FCm 28 Ms M1) ∧ (∀ c : Int, 0 ≤ c → c < 3 * 3 * 3 → M1 28 c = linw 3 (fun i => Ms (p + 1) i) 27 81 243 i j c))) := by
  have hd : (3 : Int) = 2 ∨ (3 : Int) = 3 := by decide
  have hac := hS.2.2.2.2
  have hpb := hp.1
  intro nn
  induction nn with
  | zero => refine ⟨?_, ?_, ?_⟩ <;> (intros; omega)
  | succ nn ih =>
    refine ⟨?_, ?_, ?_⟩
    · intro x5 x6 x7 x8 x9 x10 M hS k5 k6 k7 k8 k9 k10 hK hgg v0 v1 v2 v3 v4 v5 hnn
      refine n_iload c_45_86 rfl ?_
      refine n_iload c_45_88 rfl ?_
      refine n_if2_ge c_45_90 (by omega) (by omega) ?_ ?_
      · intro h1
        exact n_rV c_45_187 rfl ⟨hS, by omega, hK, by exact v4, by exact fun c h0 h1 => v5 c h0 (by omega)⟩
      · intro h2
        refine n_aload_n c_45_93 rfl ?_
        refine n_iload c_45_94 rfl ?_
        refine n_iload c_45_96 rfl ?_
        refine n_iadd c_45_98 rfl ?_
        refine n_ialoadV c_45_99 hp.c0.2.1.n rfl rfl rfl (by omega) (t_actrl hS hp hpl (Or.inl rfl) (by omega) (by omega)) ?_
        intro z3 ez3 f4
        refine n_aload_n c_45_100 rfl ?_
        refine n_getV (bi := 1) c_45_101 sc_27.n rfl rfl rfl hK.w27.1 ?_
        intro z5 ez5 f6
        obtain rfl : z5 = 27 := by omega
        refine n_imul c_45_104 rfl ?_
        refine n_istore (L2 := [some (2, 27), none, some (2, (p + 1)), none, none, some (0, x5), some (0, x6), some (0, x7), some (0, x8), some (0, x9), some (0, x10), some (0, (z3 * 27)), none, none, none]) c_45_105 rfl rfl ?_
        refine n_iconst c_45_107 ?_
        refine n_istore (L2 := [some (2, 27), none, some (2, (p + 1)), none, none, some (0, x5), some (0, x6), some (0, x7), some (0, x8), some (0, x9), some (0, x10), some (0, (z3 * 27)), some (0, 0), none, none]) c_45_108 rfl rfl ?_
        refine n_fg (le_s (le_n (le_s (le_n (le_n (le_s (le_s (le_s (le_s (le_s (le_s (le_s (le_s (le_n (le_n le_0))))))))))))))) ?_
        exact ih.2.1 _ _ _ _ _ _ _ _ M hS (by omega) (by omega) (by omega) (by omega) (by omega) (by omega) (by omega) (by omega) hK (by omega) (by omega) (by exact v1) (by exact v2) (by exact v3) (by exact v4) (by exact v5) (by have u1 := v4 (p + 1) (x6 + x10) (by omega); omega) (by omega)
    · intro x5 x6 x7 x8 x9 x10 x11 x12 M hS k5 k6 k7 k8 k9 k10 k11 k12 hK hgg v0 v1 v2 v3 v4 v5 v6 hnn
      refine n_iload c_45_110 rfl ?_
      refine n_iload c_45_112 rfl ?_
      refine n_if2_ge c_45_114 (by omega) (by omega) ?_ ?_
      · intro h1
        refine n_iinc (L2 := [some (2, 27), none, some (2, (p + 1)), none, none, some (0, x5), some (0, x6), some (0, x7), some (0, x8), some (0, x9), some (0, (x10 + 1)), some (0, x11), some (0, x12), none, none]) c_45_181 rfl rfl rfl ?_
        refine n_goto c_45_184 ?_
        refine n_fg (le_s (le_n (le_s (le_n (le_n (le_s (le_s (le_s (le_s (le_s (le_s (le_n (le_n (le_n (le_n le_0))))))))))))))) ?_
        exact ih.1 _ _ _ _ _ _ M hS (by omega) (by omega) (by omega) (by omega) (by omega) (by omega) hK (by omega) (by omega) (by exact v1) (by exact v2) (by exact v3) (by exact v4) (by exact v5) (by omega)
      · intro h2
        refine n_iload c_45_117 rfl ?_
        refine n_aload_n c_45_119 rfl ?_
        refine n_iload c_45_120 rfl ?_
        refine n_iload c_45_122 rfl ?_
        refine n_iadd c_45_124 rfl ?_
        refine n_ialoadV c_45_125 hp.c0.2.1.n rfl rfl rfl (by omega) (t_actrl hS hp hpl (Or.inl rfl) (by omega) (by omega)) ?_
        intro z3 ez3 f4
        refine n_aload_n c_45_126 rfl ?_
        refine n_getV (bi := 2) c_45_127 sc_27.n rfl rfl rfl hK.w27.2.1 ?_
        intro z5 ez5 f6
        obtain rfl : z5 = 81 := by omega
        refine n_imul c_45_130 rfl ?_
        refine n_iadd c_45_131 rfl ?_
        refine n_istore (L2 := [some (2, 27), none, some (2, (p + 1)), none, none, some (0, x5), some (0, x6), some (0, x7), some (0, x8), some (0, x9), some (0, x10), some (0, x11), some (0, x12), some (0, (x11 + (z3 * 81))), none]) c_45_132 rfl rfl ?_
        refine n_iconst c_45_134 ?_
        refine n_istore (L2 := [some (2, 27), none, some (2, (p + 1)), none, none, some (0, x5), some (0, x6), some (0, x7), some (0, x8), some (0, x9), some (0, x10), some (0, x11), some (0, x12), some (0, (x11 + (z3 * 81))), some (0, 0)]) c_45_135 rfl rfl ?_
        refine n_fg (le_s (le_n (le_s (le_n (le_n (le_s (le_s (le_s (le_s (le_s (le_s (le_s (le_s (le_s (le_s le_0))))))))))))))) ?_
        exact ih.2.2 _ _ _ _ _ _ _ _ _ _ M hS (by omega) (by omega) (by omega) (by omega) (by omega) (by omega) (by omega) (by omega) (by omega) (by omega) hK (by omega) (by omega) (by exact v1) (by exact v2) (by exact v3) (by exact v4) (by exact v5) (by exact v6) (by have u1 := v4 (p + 1) (x7 + x12) (by omega); omega) (by omega)
    · intro x5 x6 x7 x8 x9 x10 x11 x12 x13 x14 M hS k5 k6 k7 k8 k9 k10 k11 k12 k13 k14 hK hgg v0 v1 v2 v3 v4 v5 v6 v7 hnn
      have vf := v4
      refine n_iload c_45_137 rfl ?_
      refine n_iload c_45_139 rfl ?_
      refine n_if2_ge c_45_141 (by omega) (by omega) ?_ ?_
      · intro h1
        refine n_iinc (L2 := [some (2, 27), none, some (2, (p + 1)), none, none, some (0, x5), some (0, x6), some (0, x7), some (0, x8), some (0, x9), some (0, x10), some (0, x11), some (0, (x12 + 1)), some (0, x13), some (0, x14)]) c_45_175 rfl rfl rfl ?_
        refine n_goto c_45_178 ?_
        refine n_fg (le_s (le_n (le_s (le_n (le_n (le_s (le_s (le_s (le_s (le_s (le_s (le_s (le_s (le_n (le_n le_0))))))))))))))) ?_
        exact ih.2.1 _ _ _ _ _ _ _ _ M hS (by omega) (by omega) (by omega) (by omega) (by omega) (by omega) (by omega) (by omega) hK (by omega) (by omega) (by exact v1) (by exact v2) (by exact v3) (by exact v4) (by exact v5) (by exact v6) (by omega)
      · intro h2
        refine n_aload_n c_45_144 rfl ?_
        refine n_getR c_45_145 sc_27.n rfl rfl rfl r_27_0 ?_
        refine n_iload c_45_148 rfl ?_
        refine n_iload c_45_150 rfl ?_
        refine n_aload_n c_45_152 rfl ?_
        refine n_iload c_45_153 rfl ?_
        refine n_iload c_45_155 rfl ?_
        refine n_iadd c_45_157 rfl ?_
        refine n_ialoadV c_45_158 hp.c0.2.1.n rfl rfl rfl (by omega) (t_actrl hS hp hpl (Or.inl rfl) (by omega) (by omega)) ?_
        intro z3 ez3 f4
        refine n_aload_n c_45_159 rfl ?_
        refine n_getV (bi := 3) c_45_160 sc_27.n rfl rfl rfl hK.w27.2.2 ?_
        intro z5 ez5 f6
        obtain rfl : z5 = 243 := by omega
        refine n_imul c_45_163 rfl ?_
        refine n_iadd c_45_164 rfl ?_
        refine n_iastoreV hS c_45_165 sc_28.n rfl (by omega) (w_28 (by omega) (by omega)) ?_
        intro M7 eM7 hS7
        have hK7 := hK.u (by unfold Kok; omega) eM7
        have g7_0 : M7 15 10 = M 15 10 := by rw [eM7]; exact nu_a (by omega)
        refine n_iinc (L2 := [some (2, 27), none, some (2, (p + 1)), none, none, some (0, x5), some (0, x6), some (0, x7), some (0, x8), some (0, (x9 + 1)), some (0, x10), some (0, x11), some (0, x12), some (0, x13), some (0, x14)]) c_45_166 rfl rfl rfl ?_
        refine n_iinc (L2 := [some (2, 27), none, some (2, (p + 1)), none, none, some (0, x5), some (0, x6), some (0, x7), some (0, x8), some (0, (x9 + 1)), some (0, x10), some (0, x11), some (0, x12), some (0, x13), some (0, (x14 + 1))]) c_45_169 rfl rfl rfl ?_
        refine n_goto c_45_172 ?_
        refine n_fg (le_s (le_n (le_s (le_n (le_n (le_s (le_s (le_s (le_s (le_s (le_s (le_s (le_s (le_s (le_s le_0))))))))))))))) ?_
        exact ih.2.2 _ _ _ _ _ _ _ _ _ _ M7 hS7 (by omega) (by omega) (by omega) (by omega) (by omega) (by omega) (by omega) (by omega) (by omega) (by omega) hK7 (by omega) (by omega) (by exact v1) (by exact v2) (by exact v3) (by exact FCm.u v4 eM7) (by exact fun c h0 h1 => by rw [eM7, nu_e]; by_cases e : c = x9; (rw [if_pos ⟨rfl, e⟩, e]; show _ = Ms (p + 1) ((i / (3 * 3) * 3 + j / (3 * 3)) * 3 + x9 / (3 * 3)) * 27 + Ms (p + 1) ((i / 3 % 3 * 3 + j / 3 % 3) * 3 + x9 / 3 % 3) * 81 + Ms (p + 1) ((i % 3 * 3 + j % 3) * 3 + x9 % 3) * 243; rw [show x9 / (3 * 3) = x10 by omega, show x9 / 3 % 3 = x12 by omega, show x9 % 3 = x14 by omega, ← v1, ← v2, ← v3]; have u3 := vf (p + 1) (x8 + x14) (by omega); omega); (rw [if_neg (fun u => e u.2)]; exact v5 c h0 (by omega))) (by exact v6) (by exact v7) (by omega)
set_option maxHeartbeats 4000000 in
theorem fillMX27T_2_3 {xs : List Int32} {e : Nat} {ac : Int} {M0 M : nM} {p i j g : Int} {Ms : nM} (hS : Sf 3 ac M0 M) (hp : ActAt p) (hpl : p < 55 + 3 * ac) (hi : 0 ≤ i ∧ i ≤ 26) (hj : 0 ≤ j ∧ j ≤ 26) (hK : MK 19683 27 26 702 18954 1 3 9 27 81 243 729 2187 6561 M) (hg : M 15 10 = g) (hms : M = Ms) : nW xs e 45 0 [some (2, 27), some (2, 4), some (2, (p + 1)), some (0, i), some (0, j), none, none, none, none, none, none, none, none, none, none] [] M (nPV fun M1 => Sf 3 ac M0 M1 ∧ (M1 15 10 = g) ∧ MK 19683 27 26 702 18954 1 3 9 27 81 243 729 2187 6561 M1 ∧ (FCm 28 Ms M1) ∧ (∀ c : Int, 0 ≤ c → c < 3 * 3 * 3 → M1 28 c = linw 3 (fun i => Ms (p + 1) i) 27 81 243 i j c)) := by
  have hd : (3 : Int) = 2 ∨ (3 : Int) = 3 := by decide
  have hac := hS.2.2.2.2
  have hpb := hp.1
  refine n_aload_n c_45_0 rfl ?_
  refine n_getV (bi := 1) c_45_1 sc_27.n rfl rfl rfl hK.w27.1 ?_
  intro z1 ez1 f2
  obtain rfl : z1 = 27 := by omega
  refine n_if0_ne c_45_4 (by omega) ?_ ?_
  · intro h3
    refine n_aload_n c_45_8 rfl ?_
    refine n_getV (bi := 0) c_45_9 sc_4.n rfl rfl rfl (t_4_0 hS) ?_
    intro z4 ez4 f5
    obtain rfl : z4 = 3 := by omega
    refine n_istore (L2 := [some (2, 27), some (2, 4), some (2, (p + 1)), some (0, i), some (0, j), some (0, 3), none, none, none, none, none, none, none, none, none]) c_45_12 rfl rfl ?_
    refine n_aload_n c_45_14 rfl ?_
    refine n_getR c_45_15 sc_4.n rfl rfl rfl r_4_2 ?_
    refine n_iload_n c_45_18 rfl ?_
    refine n_ialoadV c_45_19 sc_5.n rfl rfl rfl (by omega) (t_5d hS hd (by omega) (by omega)) ?_
    intro z6 ez6 f7
    have q19 := t_5e hS (i := i) (by omega) (by omega)
    refine n_iload c_45_20 rfl ?_
    refine n_imul c_45_22 rfl ?_
    refine n_aload_n c_45_23 rfl ?_
    refine n_getR c_45_24 sc_4.n rfl rfl rfl r_4_2 ?_
    refine n_iload c_45_27 rfl ?_
    refine n_ialoadV c_45_29 sc_5.n rfl rfl rfl (by omega) (t_5d hS hd (by omega) (by omega)) ?_
    intro z8 ez8 f9
    have q29 := t_5e hS (i := j) (by omega) (by omega)
    refine n_iadd c_45_30 rfl ?_
    refine n_iload c_45_31 rfl ?_
    refine n_imul c_45_33 rfl ?_
    refine n_istore (L2 := [some (2, 27), some (2, 4), some (2, (p + 1)), some (0, i), some (0, j), some (0, 3), some (0, (((z6 * 3) + z8) * 3)), none, none, none, none, none, none, none, none]) c_45_34 rfl rfl ?_
    refine n_aload_n c_45_36 rfl ?_
    refine n_getR c_45_37 sc_4.n rfl rfl rfl r_4_3 ?_
    refine n_iload_n c_45_40 rfl ?_
    refine n_ialoadV c_45_41 sc_6.n rfl rfl rfl (by omega) (t_6d hS hd (by omega) (by omega)) ?_
    intro z10 ez10 f11
    have q41 := t_6e hS (i := i) (by omega) (by omega)
    refine n_iload c_45_42 rfl ?_
    refine n_imul c_45_44 rfl ?_
    refine n_aload_n c_45_45 rfl ?_
    refine n_getR c_45_46 sc_4.n rfl rfl rfl r_4_3 ?_
    refine n_iload c_45_49 rfl ?_
    refine n_ialoadV c_45_51 sc_6.n rfl rfl rfl (by omega) (t_6d hS hd (by omega) (by omega)) ?_
    intro z12 ez12 f13
    have q51 := t_6e hS (i := j) (by omega) (by omega)
    refine n_iadd c_45_52 rfl ?_
    refine n_iload c_45_53 rfl ?_
    refine n_imul c_45_55 rfl ?_
    refine n_istore (L2 := [some (2, 27), some (2, 4), some (2, (p + 1)), some (0, i), some (0, j), some (0, 3), some (0, (((z6 * 3) + z8) * 3)), some (0, (((z10 * 3) + z12) * 3)), none, none, none, none, none, none, none]) c_45_56 rfl rfl ?_
    refine n_aload_n c_45_58 rfl ?_
    refine n_getR c_45_59 sc_4.n rfl rfl rfl r_4_4 ?_
    refine n_iload_n c_45_62 rfl ?_
    refine n_ialoadV c_45_63 sc_7.n rfl rfl rfl (by omega) (t_7d hS hd (by omega) (by omega)) ?_
    intro z14 ez14 f15
    have q63 := t_7e hS (i := i) (by omega) (by omega)
    refine n_iload c_45_64 rfl ?_
    refine n_imul c_45_66 rfl ?_
    refine n_aload_n c_45_67 rfl ?_
    refine n_getR c_45_68 sc_4.n rfl rfl rfl r_4_4 ?_
    refine n_iload c_45_71 rfl ?_
    refine n_ialoadV c_45_73 sc_7.n rfl rfl rfl (by omega) (t_7d hS hd (by omega) (by omega)) ?_
    intro z16 ez16 f17
    have q73 := t_7e hS (i := j) (by omega) (by omega)
    refine n_iadd c_45_74 rfl ?_
    refine n_iload c_45_75 rfl ?_
    refine n_imul c_45_77 rfl ?_
    refine n_istore (L2 := [some (2, 27), some (2, 4), some (2, (p + 1)), some (0, i), some (0, j), some (0, 3), some (0, (((z6 * 3) + z8) * 3)), some (0, (((z10 * 3) + z12) * 3)), some (0, (((z14 * 3) + z16) * 3)), none, none, none, none, none, none]) c_45_78 rfl rfl ?_
    refine n_iconst c_45_80 ?_
    refine n_istore (L2 := [some (2, 27), some (2, 4), some (2, (p + 1)), some (0, i), some (0, j), some (0, 3), some (0, (((z6 * 3) + z8) * 3)), some (0, (((z10 * 3) + z12) * 3)), some (0, (((z14 * 3) + z16) * 3)), some (0, 0), none, none, none, none, none]) c_45_81 rfl rfl ?_
    refine n_iconst c_45_83 ?_
    refine n_istore (L2 := [some (2, 27), some (2, 4), some (2, (p + 1)), some (0, i), some (0, j), some (0, 3), some (0, (((z6 * 3) + z8) * 3)), some (0, (((z10 * 3) + z12) * 3)), some (0, (((z14 * 3) + z16) * 3)), some (0, 0), some (0, 0), none, none, none, none]) c_45_84 rfl rfl ?_
    refine n_fg (le_s (le_n (le_s (le_n (le_n (le_s (le_s (le_s (le_s (le_s (le_s (le_n (le_n (le_n (le_n le_0))))))))))))))) ?_
    exact (fillMX27T_2_3_c hS hp hpl hi hj hK hg hms 320).1 _ _ _ _ _ _ M hS (by omega) (by omega) (by omega) (by omega) (by omega) (by omega) hK (by omega) (by omega) (by omega) (by omega) (by omega) (by subst hms; exact fun _ _ _ => rfl) (by exact fun c h0 h1 => by omega) (by omega)
  · intro h18
    exfalso; omega

set_option maxHeartbeats 4000000 in
theorem fillMX29T_2_3_c {xs : List Int32} {e : Nat} {ac : Int} {M0 M : nM} {p i j g : Int} {Ms : nM} (hS : Sf 3 ac M0 M) (hp : ActAt p) (hpl : p < 55 + 3 * ac) (hi : 0 ≤ i ∧ i ≤ 26) (hj : 0 ≤ j ∧ j ≤ 26) (hK : MK 19683 27 26 702 18954 1 3 9 27 81 243 729 2187 6561 M) (hg : M 15 10 = g) (hms : M = Ms) : ∀ nn : Nat, (∀ (x5 x6 x7 x8 x9 x10 : Int) (M : nM), Sf 3 ac M0 M → (3 ≤ x5 ∧ x5 ≤ 3) → (0 ≤ x6 ∧ x6 ≤ 24) → (0 ≤ x7 ∧ x7 ≤ 24) → (0 ≤ x8 ∧ x8 ≤ 24) → (0 ≤ x9 ∧ x9 ≤ 27) → (0 ≤ x10 ∧ x10 ≤ 3) → (MK 19683 27 26 702 18954 1 3 9 27 81 243 729 2187 6561 M) → (M 15 10 = g) → (x9 = 9 * x10) → (x6 = (i / (3 * 3) * 3 + j / (3 * 3)) * 3) → (x7 = (i / 3 % 3 * 3 + j / 3 % 3) * 3) → (x8 = (i % 3 * 3 + j % 3) * 3) → (FCm 30 Ms M) → (∀ c : Int, 0 ≤ c → c < x9 → M 30 c = linw 3 (fun i => Ms (p + 1) i) 729 2187 6561 i j c) → (3 - x10) * 31 + 31 < (nn : Int) → nW xs e 45 86 [some (2, 29), none, some (2, (p + 1)), none, none, some (0, x5), some (0, x6), some (0, x7), some (0, x8), some (0, x9), some (0, x10), none, none, none, none] [] M (nPV fun M1 => Sf 3 ac M0 M1 ∧ (M1 15 10 = g) ∧ MK 19683 27 26 702 18954 1 3 9 27 81 243 729 2187 6561 M1 ∧ (FCm 30 Ms M1) ∧ (∀ c : Int, 0 ≤ c → c < 3 * 3 * 3 → M1 30 c = linw 3 (fun i => Ms (p + 1) i) 729 2187 6561 i j c))) ∧ (∀ (x5 x6 x7 x8 x9 x10 x11 x12 : Int) (M : nM), Sf 3 ac M0 M → (3 ≤ x5 ∧ x5 ≤ 3) → (0 ≤ x6 ∧ x6 ≤ 24) → (0 ≤ x7 ∧ x7 ≤ 24) → (0 ≤ x8 ∧ x8 ≤ 24) → (0 ≤ x9 ∧ x9 ≤ 27) → (0 ≤ x10 ∧ x10 ≤ 2) → (0 ≤ x11 ∧ x11 ≤ 1458) → (0 ≤ x12 ∧ x12 ≤ 3) → (MK 19683 27 26 702 18954 1 3 9 27 81 243 729 2187 6561 M) → (M 15 10 = g) → (x9 = 9 * x10 + 3 * x12) → (x6 = (i / (3 * 3) * 3 + j / (3 * 3)) * 3) → (x7 = (i / 3 % 3 * 3 + j / 3 % 3) * 3) → (x8 = (i % 3 * 3 + j % 3) * 3) → (FCm 30 Ms M) → (∀ c : Int, 0 ≤ c → c < x9 → M 30 c = linw 3 (fun i => Ms (p + 1) i) 729 2187 6561 i j c) → (x11 = Ms (p + 1) (x6 + x10) * 729) → (3 - x10) * 31 + (3 - x12) * 6 + 6 < (nn : Int) → nW xs e 45 110 [some (2, 29), none, some (2, (p + 1)), none, none, some (0, x5), some (0, x6), some (0, x7), some (0, x8), some (0, x9), some (0, x10), some (0, x11), some (0, x12), none, none] [] M (nPV fun M1 => Sf 3 ac M0 M1 ∧ (M1 15 10 = g) ∧ MK 19683 27 26 702 18954 1 3 9 27 81 243 729 2187 6561 M1 ∧ (FCm 30 Ms M1) ∧ (∀ c : Int, 0 ≤ c → c < 3 * 3 * 3 → M1 30 c = linw 3 (fun i => Ms (p + 1) i) 729 2187 6561 i j c))) ∧ (∀ (x5 x6 x7 x8 x9 x10 x11 x12 x13 x14 : Int) (M : nM), Sf 3 ac M0 M → (3 ≤ x5 ∧ x5 ≤ 3) → (0 ≤ x6 ∧ x6 ≤ 24) → (0 ≤ x7 ∧ x7 ≤ 24) → (0 ≤ x8 ∧ x8 ≤ 24) → (0 ≤ x9 ∧ x9 ≤ 27) → (0 ≤ x10 ∧ x10 ≤ 2) → (0 ≤ x11 ∧ x11 ≤ 1458) → (0 ≤ x12 ∧ x12 ≤ 2) → (0 ≤ x13 ∧ x13 ≤ 5832) → (0 ≤ x14 ∧ x14 ≤ 3) → (MK 19683 27 26 702 18954 1 3 9 27 81 243 729 2187 6561 M) → (M 15 10 = g) → (x9 = 9 * x10 + 3 * x12 + x14) → (x6 = (i / (3 * 3) * 3 + j / (3 * 3)) * 3) → (x7 = (i / 3 % 3 * 3 + j / 3 % 3) * 3) → (x8 = (i % 3 * 3 + j % 3) * 3) → (FCm 30 Ms M) → (∀ c : Int, 0 ≤ c → c < x9 → M 30 c = linw 3 (fun i => Ms (p + 1) i) 729 2187 6561 i j c) → (x11 = Ms (p + 1) (x6 + x10) * 729) → (x13 = Ms (p + 1) (x6 + x10) * 729 + Ms (p + 1) (x7 + x12) * 2187) → (3 - x10) * 31 + (3 - x12) * 6 + (3 - x14) * 1 + 1 < (nn : Int) → nW xs e 45 137 [some (2, 29), none, some (2, (p + 1)), none, none, some (0, x5), some (0, x6), some (0, x7), some (0, x8), some (0, x9), some (0, x10), some (0, x11), some (0, x12), some (0, x13), some (0, x14)] [] M (nPV fun M1 => Sf 3 ac M0 M1 ∧ (M1 15 10 = g) ∧ MK 19683 27 26 702 18954 1 3 9 27 81 243 729 2187 6561 M1 ∧ (FCm 30 Ms M1) ∧ (∀ c : Int, 0 ≤ c → c < 3 * 3 * 3 → M1 30 c = linw 3 (fun i => Ms (p + 1) i) 729 2187 6561 i j c))) := by
  have hd : (3 : Int) = 2 ∨ (3 : Int) = 3 := by decide
  have hac := hS.2.2.2.2
  have hpb := hp.1
  intro nn
  induction nn with
  | zero => refine ⟨?_, ?_, ?_⟩ <;> (intros; omega)
  | succ nn ih =>
    refine ⟨?_, ?_, ?_⟩
    · intro x5 x6 x7 x8 x9 x10 M hS k5 k6 k7 k8 k9 k10 hK hgg v0 v1 v2 v3 v4 v5 hnn
      refine n_iload c_45_86 rfl ?_
      refine n_iload c_45_88 rfl ?_
      refine n_if2_ge c_45_90 (by omega) (by omega) ?_ ?_
      · intro h1
        exact n_rV c_45_187 rfl ⟨hS, by omega, hK, by exact v4, by exact fun c h0 h1 => v5 c h0 (by omega)⟩
      · intro h2
        refine n_aload_n c_45_93 rfl ?_
        refine n_iload c_45_94 rfl ?_
        refine n_iload c_45_96 rfl ?_
        refine n_iadd c_45_98 rfl ?_
        refine n_ialoadV c_45_99 hp.c0.2.1.n rfl rfl rfl (by omega) (t_actrl hS hp hpl (Or.inl rfl) (by omega) (by omega)) ?_
        intro z3 ez3 f4
        refine n_aload_n c_45_100 rfl ?_
        refine n_getV (bi := 1) c_45_101 sc_29.n rfl rfl rfl hK.w29.1 ?_
        intro z5 ez5 f6
        obtain rfl : z5 = 729 := by omega
        refine n_imul c_45_104 rfl ?_
        refine n_istore (L2 := [some (2, 29), none, some (2, (p + 1)), none, none, some (0, x5), some (0, x6), some (0, x7), some (0, x8), some (0, x9), some (0, x10), some (0, (z3 * 729)), none, none, none]) c_45_105 rfl rfl ?_
        refine n_iconst c_45_107 ?_
        refine n_istore (L2 := [some (2, 29), none, some (2, (p + 1)), none, none, some (0, x5), some (0, x6), some (0, x7), some (0, x8), some (0, x9), some (0, x10), some (0, (z3 * 729)), some (0, 0), none, none]) c_45_108 rfl rfl ?_
        refine n_fg (le_s (le_n (le_s (le_n (le_n (le_s (le_s (le_s (le_s (le_s (le_s (le_s (le_s (le_n (le_n le_0))))))))))))))) ?_
        exact ih.2.1 _ _ _ _ _ _ _ _ M hS (by omega) (by omega) (by omega) (by omega) (by omega) (by omega) (by omega) (by omega) hK (by omega) (by omega) (by exact v1) (by exact v2) (by exact v3) (by exact v4) (by exact v5) (by have u1 := v4 (p + 1) (x6 + x10) (by omega); omega) (by omega)
    · intro x5 x6 x7 x8 x9 x10 x11 x12 M hS k5 k6 k7 k8 k9 k10 k11 k12 hK hgg v0 v1 v2 v3 v4 v5 v6 hnn
      refine n_iload c_45_110 rfl ?_
      refine n_iload c_45_112 rfl ?_
      refine n_if2_ge c_45_114 (by omega) (by omega) ?_ ?_
      · intro h1
        refine n_iinc (L2 := [some (2, 29), none, some (2, (p + 1)), none, none, some (0, x5), some (0, x6), some (0, x7), some (0, x8), some (0, x9), some (0, (x10 + 1)), some (0, x11), some (0, x12), none, none]) c_45_181 rfl rfl rfl ?_
        refine n_goto c_45_184 ?_
        refine n_fg (le_s (le_n (le_s (le_n (le_n (le_s (le_s (le_s (le_s (le_s (le_s (le_n (le_n (le_n (le_n le_0))))))))))))))) ?_
        exact ih.1 _ _ _ _ _ _ M hS (by omega) (by omega) (by omega) (by omega) (by omega) (by omega) hK (by omega) (by omega) (by exact v1) (by exact v2) (by exact v3) (by exact v4) (by exact v5) (by omega)
      · intro h2
        refine n_iload c_45_117 rfl ?_
        refine n_aload_n c_45_119 rfl ?_
        refine n_iload c_45_120 rfl ?_
        refine n_iload c_45_122 rfl ?_
        refine n_iadd c_45_124 rfl ?_
        refine n_ialoadV c_45_125 hp.c0.2.1.n rfl rfl rfl (by omega) (t_actrl hS hp hpl (Or.inl rfl) (by omega) (by omega)) ?_
        intro z3 ez3 f4
        refine n_aload_n c_45_126 rfl ?_
        refine n_getV (bi := 2) c_45_127 sc_29.n rfl rfl rfl hK.w29.2.1 ?_
        intro z5 ez5 f6
        obtain rfl : z5 = 2187 := by omega
        refine n_imul c_45_130 rfl ?_
        refine n_iadd c_45_131 rfl ?_
        refine n_istore (L2 := [some (2, 29), none, some (2, (p + 1)), none, none, some (0, x5), some (0, x6), some (0, x7), some (0, x8), some (0, x9), some (0, x10), some (0, x11), some (0, x12), some (0, (x11 + (z3 * 2187))), none]) c_45_132 rfl rfl ?_
        refine n_iconst c_45_134 ?_
        refine n_istore (L2 := [some (2, 29), none, some (2, (p + 1)), none, none, some (0, x5), some (0, x6), some (0, x7), some (0, x8), some (0, x9), some (0, x10), some (0, x11), some (0, x12), some (0, (x11 + (z3 * 2187))), some (0, 0)]) c_45_135 rfl rfl ?_
        refine n_fg (le_s (le_n (le_s (le_n (le_n (le_s (le_s (le_s (le_s (le_s (le_s (le_s (le_s (le_s (le_s le_0))))))))))))))) ?_
        exact ih.2.2 _ _ _ _ _ _ _ _ _ _ M hS (by omega) (by omega) (by omega) (by omega) (by omega) (by omega) (by omega) (by omega) (by omega) (by omega) hK (by omega) (by omega) (by exact v1) (by exact v2) (by exact v3) (by exact v4) (by exact v5) (by exact v6) (by have u1 := v4 (p + 1) (x7 + x12) (by omega); omega) (by omega)
    · intro x5 x6 x7 x8 x9 x10 x11 x12 x13 x14 M hS k5 k6 k7 k8 k9 k10 k11 k12 k13 k14 hK hgg v0 v1 v2 v3 v4 v5 v6 v7 hnn
      have vf := v4
      refine n_iload c_45_137 rfl ?_
      refine n_iload c_45_139 rfl ?_
      refine n_if2_ge c_45_141 (by omega) (by omega) ?_ ?_
      · intro h1
        refine n_iinc (L2 := [some (2, 29), none, some (2, (p + 1)), none, none, some (0, x5), some (0, x6), some (0, x7), some (0, x8), some (0, x9), some (0, x10), some (0, x11), some (0, (x12 + 1)), some (0, x13), some (0, x14)]) c_45_175 rfl rfl rfl ?_
        refine n_goto c_45_178 ?_
        refine n_fg (le_s (le_n (le_s (le_n (le_n (le_s (le_s (le_s (le_s (le_s (le_s (le_s (le_s (le_n (le_n le_0))))))))))))))) ?_
        exact ih.2.1 _ _ _ _ _ _ _ _ M hS (by omega) (by omega) (by omega) (by omega) (by omega) (by omega) (by omega) (by omega) hK (by omega) (by omega) (by exact v1) (by exact v2) (by exact v3) (by exact v4) (by exact v5) (by exact v6) (by omega)
      · intro h2
        refine n_aload_n c_45_144 rfl ?_
        refine n_getR c_45_145 sc_29.n rfl rfl rfl r_29_0 ?_
        refine n_iload c_45_148 rfl ?_
        refine n_iload c_45_150 rfl ?_
        refine n_aload_n c_45_152 rfl ?_
        refine n_iload c_45_153 rfl ?_
        refine n_iload c_45_155 rfl ?_
        refine n_iadd c_45_157 rfl ?_
        refine n_ialoadV c_45_158 hp.c0.2.1.n rfl rfl rfl (by omega) (t_actrl hS hp hpl (Or.inl rfl) (by omega) (by omega)) ?_
        intro z3 ez3 f4
        refine n_aload_n c_45_159 rfl ?_
        refine n_getV (bi := 3) c_45_160 sc_29.n rfl rfl rfl hK.w29.2.2 ?_
        intro z5 ez5 f6
        obtain rfl : z5 = 6561 := by omega
        refine n_imul c_45_163 rfl ?_
        refine n_iadd c_45_164 rfl ?_
        refine n_iastoreV hS c_45_165 sc_30.n rfl (by omega) (w_30 (by omega) (by omega)) ?_
        intro M7 eM7 hS7
        have hK7 := hK.u (by unfold Kok; omega) eM7
        have g7_0 : M7 15 10 = M 15 10 := by rw [eM7]; exact nu_a (by omega)
        refine n_iinc (L2 := [some (2, 29), none, some (2, (p + 1)), none, none, some (0, x5), some (0, x6), some (0, x7), some (0, x8), some (0, (x9 + 1)), some (0, x10), some (0, x11), some (0, x12), some (0, x13), some (0, x14)]) c_45_166 rfl rfl rfl ?_
        refine n_iinc (L2 := [some (2, 29), none, some (2, (p + 1)), none, none, some (0, x5), some (0, x6), some (0, x7), some (0, x8), some (0, (x9 + 1)), some (0, x10), some (0, x11), some (0, x12), some (0, x13), some (0, (x14 + 1))]) c_45_169 rfl rfl rfl ?_
        refine n_goto c_45_172 ?_
        refine n_fg (le_s (le_n (le_s (le_n (le_n (le_s (le_s (le_s (le_s (le_s (le_s (le_s (le_s (le_s (le_s le_0))))))))))))))) ?_
        exact ih.2.2 _ _ _ _ _ _ _ _ _ _ M7 hS7 (by omega) (by omega) (by omega) (by omega) (by omega) (by omega) (by omega) (by omega) (by omega) (by omega) hK7 (by omega) (by omega) (by exact v1) (by exact v2) (by exact v3) (by exact FCm.u v4 eM7) (by exact fun c h0 h1 => by rw [eM7, nu_e]; by_cases e : c = x9; (rw [if_pos ⟨rfl, e⟩, e]; show _ = Ms (p + 1) ((i / (3 * 3) * 3 + j / (3 * 3)) * 3 + x9 / (3 * 3)) * 729 + Ms (p + 1) ((i / 3 % 3 * 3 + j / 3 % 3) * 3 + x9 / 3 % 3) * 2187 + Ms (p + 1) ((i % 3 * 3 + j % 3) * 3 + x9 % 3) * 6561; rw [show x9 / (3 * 3) = x10 by omega, show x9 / 3 % 3 = x12 by omega, show x9 % 3 = x14 by omega, ← v1, ← v2, ← v3]; have u3 := vf (p + 1) (x8 + x14) (by omega); omega); (rw [if_neg (fun u => e u.2)]; exact v5 c h0 (by omega))) (by exact v6) (by exact v7) (by omega)
set_option maxHeartbeats 4000000 in
theorem fillMX29T_2_3 {xs : List Int32} {e : Nat} {ac : Int} {M0 M : nM} {p i j g : Int} {Ms : nM} (hS : Sf 3 ac M0 M) (hp : ActAt p) (hpl : p < 55 + 3 * ac) (hi : 0 ≤ i ∧ i ≤ 26) (hj : 0 ≤ j ∧ j ≤ 26) (hK : MK 19683 27 26 702 18954 1 3 9 27 81 243 729 2187 6561 M) (hg : M 15 10 = g) (hms : M = Ms) : nW xs e 45 0 [some (2, 29), some (2, 4), some (2, (p + 1)), some (0, i), some (0, j), none, none, none, none, none, none, none, none, none, none] [] M (nPV fun M1 => Sf 3 ac M0 M1 ∧ (M1 15 10 = g) ∧ MK 19683 27 26 702 18954 1 3 9 27 81 243 729 2187 6561 M1 ∧ (FCm 30 Ms M1) ∧ (∀ c : Int, 0 ≤ c → c < 3 * 3 * 3 → M1 30 c = linw 3 (fun i => Ms (p + 1) i) 729 2187 6561 i j c)) := by
  have hd : (3 : Int) = 2 ∨ (3 : Int) = 3 := by decide
  have hac := hS.2.2.2.2
  have hpb := hp.1
  refine n_aload_n c_45_0 rfl ?_
  refine n_getV (bi := 1) c_45_1 sc_29.n rfl rfl rfl hK.w29.1 ?_
  intro z1 ez1 f2
  obtain rfl : z1 = 729 := by omega
  refine n_if0_ne c_45_4 (by omega) ?_ ?_
  · intro h3
    refine n_aload_n c_45_8 rfl ?_
    refine n_getV (bi := 0) c_45_9 sc_4.n rfl rfl rfl (t_4_0 hS) ?_
    intro z4 ez4 f5
    obtain rfl : z4 = 3 := by omega
    refine n_istore (L2 := [some (2, 29), some (2, 4), some (2, (p + 1)), some (0, i), some (0, j), some (0, 3), none, none, none, none, none, none, none, none, none]) c_45_12 rfl rfl ?_
    refine n_aload_n c_45_14 rfl ?_
    refine n_getR c_45_15 sc_4.n rfl rfl rfl r_4_2 ?_
    refine n_iload_n c_45_18 rfl ?_
    refine n_ialoadV c_45_19 sc_5.n rfl rfl rfl (by omega) (t_5d hS hd (by omega) (by omega)) ?_
    intro z6 ez6 f7
    have q19 := t_5e hS (i := i) (by omega) (by omega)
    refine n_iload c_45_20 rfl ?_
    refine n_imul c_45_22 rfl ?_
    refine n_aload_n c_45_23 rfl ?_
    refine n_getR c_45_24 sc_4.n rfl rfl rfl r_4_2 ?_
    refine n_iload c_45_27 rfl ?_
    refine n_ialoadV c_45_29 sc_5.n rfl rfl rfl (by omega) (t_5d hS hd (by omega) (by omega)) ?_
    intro z8 ez8 f9
    have q29 := t_5e hS (i := j) (by omega) (by omega)
    refine n_iadd c_45_30 rfl ?_
    refine n_iload c_45_31 rfl ?_
    refine n_imul c_45_33 rfl ?_
    refine n_istore (L2 := [some (2, 29), some (2, 4), some (2, (p + 1)), some (0, i), some (0, j), some (0, 3), some (0, (((z6 * 3) + z8) * 3)), none, none, none, none, none, none, none, none]) c_45_34 rfl rfl ?_
    refine n_aload_n c_45_36 rfl ?_
    refine n_getR c_45_37 sc_4.n rfl rfl rfl r_4_3 ?_
    refine n_iload_n c_45_40 rfl ?_
    refine n_ialoadV c_45_41 sc_6.n rfl rfl rfl (by omega) (t_6d hS hd (by omega) (by omega)) ?_
    intro z10 ez10 f11
    have q41 := t_6e hS (i := i) (by omega) (by omega)
    refine n_iload c_45_42 rfl ?_
    refine n_imul c_45_44 rfl ?_
    refine n_aload_n c_45_45 rfl ?_
    refine n_getR c_45_46 sc_4.n rfl rfl rfl r_4_3 ?_
    refine n_iload c_45_49 rfl ?_
    refine n_ialoadV c_45_51 sc_6.n rfl rfl rfl (by omega) (t_6d hS hd (by omega) (by omega)) ?_
    intro z12 ez12 f13
    have q51 := t_6e hS (i := j) (by omega) (by omega)
    refine n_iadd c_45_52 rfl ?_
    refine n_iload c_45_53 rfl ?_
    refine n_imul c_45_55 rfl ?_
    refine n_istore (L2 := [some (2, 29), some (2, 4), some (2, (p + 1)), some (0, i), some (0, j), some (0, 3), some (0, (((z6 * 3) + z8) * 3)), some (0, (((z10 * 3) + z12) * 3)), none, none, none, none, none, none, none]) c_45_56 rfl rfl ?_
    refine n_aload_n c_45_58 rfl ?_
    refine n_getR c_45_59 sc_4.n rfl rfl rfl r_4_4 ?_
    refine n_iload_n c_45_62 rfl ?_
    refine n_ialoadV c_45_63 sc_7.n rfl rfl rfl (by omega) (t_7d hS hd (by omega) (by omega)) ?_
    intro z14 ez14 f15
    have q63 := t_7e hS (i := i) (by omega) (by omega)
    refine n_iload c_45_64 rfl ?_
    refine n_imul c_45_66 rfl ?_
    refine n_aload_n c_45_67 rfl ?_
    refine n_getR c_45_68 sc_4.n rfl rfl rfl r_4_4 ?_
    refine n_iload c_45_71 rfl ?_
    refine n_ialoadV c_45_73 sc_7.n rfl rfl rfl (by omega) (t_7d hS hd (by omega) (by omega)) ?_
    intro z16 ez16 f17
    have q73 := t_7e hS (i := j) (by omega) (by omega)
    refine n_iadd c_45_74 rfl ?_
    refine n_iload c_45_75 rfl ?_
    refine n_imul c_45_77 rfl ?_
    refine n_istore (L2 := [some (2, 29), some (2, 4), some (2, (p + 1)), some (0, i), some (0, j), some (0, 3), some (0, (((z6 * 3) + z8) * 3)), some (0, (((z10 * 3) + z12) * 3)), some (0, (((z14 * 3) + z16) * 3)), none, none, none, none, none, none]) c_45_78 rfl rfl ?_
    refine n_iconst c_45_80 ?_
    refine n_istore (L2 := [some (2, 29), some (2, 4), some (2, (p + 1)), some (0, i), some (0, j), some (0, 3), some (0, (((z6 * 3) + z8) * 3)), some (0, (((z10 * 3) + z12) * 3)), some (0, (((z14 * 3) + z16) * 3)), some (0, 0), none, none, none, none, none]) c_45_81 rfl rfl ?_
    refine n_iconst c_45_83 ?_
    refine n_istore (L2 := [some (2, 29), some (2, 4), some (2, (p + 1)), some (0, i), some (0, j), some (0, 3), some (0, (((z6 * 3) + z8) * 3)), some (0, (((z10 * 3) + z12) * 3)), some (0, (((z14 * 3) + z16) * 3)), some (0, 0), some (0, 0), none, none, none, none]) c_45_84 rfl rfl ?_
    refine n_fg (le_s (le_n (le_s (le_n (le_n (le_s (le_s (le_s (le_s (le_s (le_s (le_n (le_n (le_n (le_n le_0))))))))))))))) ?_
    exact (fillMX29T_2_3_c hS hp hpl hi hj hK hg hms 320).1 _ _ _ _ _ _ M hS (by omega) (by omega) (by omega) (by omega) (by omega) (by omega) hK (by omega) (by omega) (by omega) (by omega) (by omega) (by subst hms; exact fun _ _ _ => rfl) (by exact fun c h0 h1 => by omega) (by omega)
  · intro h18
    exfalso; omega

set_option maxHeartbeats 4000000 in
theorem fillMX25U_2_3_c {xs : List Int32} {e : Nat} {ac : Int} {M0 M : nM} {p i j g : Int} {Ms : nM} (hS : Sf 3 ac M0 M) (hp : ActAt p) (hpl : p < 55 + 3 * ac) (hi : 0 ≤ i ∧ i ≤ 26) (hj : 0 ≤ j ∧ j ≤ 26) (hK : MK 19683 27 26 702 18954 1 3 9 27 81 243 729 2187 6561 M) (hg : M 15 10 = g) (hms : M = Ms) : ∀ nn : Nat, (∀ (x5 x6 x7 x8 x9 x10 : Int) (M : nM), Sf 3 ac M0 M → (3 ≤ x5 ∧ x5 ≤ 3) → (0 ≤ x6 ∧ x6 ≤ 24) → (0 ≤ x7 ∧ x7 ≤ 24) → (0 ≤ x8 ∧ x8 ≤ 24) → (0 ≤ x9 ∧ x9 ≤ 27) → (0 ≤ x10 ∧ x10 ≤ 3) → (MK 19683 27 26 702 18954 1 3 9 27 81 243 729 2187 6561 M) → (M 15 10 = g) → (x9 = 9 * x10) → (x6 = (i / (3 * 3) * 3 + j / (3 * 3)) * 3) → (x7 = (i / 3 % 3 * 3 + j / 3 % 3) * 3) → (x8 = (i % 3 * 3 + j % 3) * 3) → (FCm 26 Ms M) → (∀ c : Int, 0 ≤ c → c < x9 → M 26 c = linw 3 (fun i => Ms (p + 2) i) 1 3 9 i j c) → (3 - x10) * 31 + 31 < (nn : Int) → nW xs e 45 86 [some (2, 25), none, some (2, (p + 2)), none, none, some (0, x5), some (0, x6), some (0, x7), some (0, x8), some (0, x9), some (0, x10), none, none, none, none] [] M (nPV fun M1 => Sf 3 ac M0 M1 ∧ (M1 15 10 = g) ∧ MK 19683 27 26 702 18954 1 3 9 27 81 243 729 2187 6561 M1 ∧ (FCm 26 Ms M1) ∧ (∀ c : Int, 0 ≤ c → c < 3 * 3 * 3 → M1 26 c = linw 3 (fun i => Ms (p + 2) i) 1 3 9 i j c))) ∧ (∀ (x5 x6 x7 x8 x9 x10 x11 x12 : Int) (M : nM), Sf 3 ac M0 M → (3 ≤ x5 ∧ x5 ≤ 3) → (0 ≤ x6 ∧ x6 ≤ 24) → (0 ≤ x7 ∧ x7 ≤ 24) → (0 ≤ x8 ∧ x8 ≤ 24) → (0 ≤ x9 ∧ x9 ≤ 27) → (0 ≤ x10 ∧ x10 ≤ 2) → (0 ≤ x11 ∧ x11 ≤ 2) → (0 ≤ x12 ∧ x12 ≤ 3) → (MK 19683 27 26 702 18954 1 3 9 27 81 243 729 2187 6561 M) → (M 15 10 = g) → (x9 = 9 * x10 + 3 * x12) → (x6 = (i / (3 * 3) * 3 + j / (3 * 3)) * 3) → (x7 = (i / 3 % 3 * 3 + j / 3 % 3) * 3) → (x8 = (i % 3 * 3 + j % 3) * 3) → (FCm 26 Ms M) → (∀ c : Int, 0 ≤ c → c < x9 → M 26 c = linw 3 (fun i => Ms (p + 2) i) 1 3 9 i j c) → (x11 = Ms (p + 2) (x6 + x10) * 1) → (3 - x10) * 31 + (3 - x12) * 6 + 6 < (nn : Int) → nW xs e 45 110 [some (2, 25), none, some (2, (p + 2)), none, none, some (0, x5), some (0, x6), some (0, x7), some (0, x8), some (0, x9), some (0, x10), some (0, x11), some (0, x12), none, none] [] M (nPV fun M1 => Sf 3 ac M0 M1 ∧ (M1 15 10 = g) ∧ MK 19683 27 26 702 18954 1 3 9 27 81 243 729 2187 6561 M1 ∧ (FCm 26 Ms M1) ∧ (∀ c : Int, 0 ≤ c → c < 3 * 3 * 3 → M1 26 c = linw 3 (fun i => Ms (p + 2) i) 1 3 9 i j c))) ∧ (∀ (x5 x6 x7 x8 x9 x10 x11 x12 x13 x14 : Int) (M : nM), Sf 3 ac M0 M → (3 ≤ x5 ∧ x5 ≤ 3) → (0 ≤ x6 ∧ x6 ≤ 24) → (0 ≤ x7 ∧ x7 ≤ 24) → (0 ≤ x8 ∧ x8 ≤ 24) → (0 ≤ x9 ∧ x9 ≤ 27) → (0 ≤ x10 ∧ x10 ≤ 2) → (0 ≤ x11 ∧ x11 ≤ 2) → (0 ≤ x12 ∧ x12 ≤ 2) → (0 ≤ x13 ∧ x13 ≤ 8) → (0 ≤ x14 ∧ x14 ≤ 3) → (MK 19683 27 26 702 18954 1 3 9 27 81 243 729 2187 6561 M) → (M 15 10 = g) → (x9 = 9 * x10 + 3 * x12 + x14) → (x6 = (i / (3 * 3) * 3 + j / (3 * 3)) * 3) → (x7 = (i / 3 % 3 * 3 + j / 3 % 3) * 3) → (x8 = (i % 3 * 3 + j % 3) * 3) → (FCm 26 Ms M) → (∀ c : Int, 0 ≤ c → c < x9 → M 26 c = linw 3 (fun i => Ms (p + 2) i) 1 3 9 i j c) → (x11 = Ms (p + 2) (x6 + x10) * 1) → (x13 = Ms (p + 2) (x6 + x10) * 1 + Ms (p + 2) (x7 + x12) * 3) → (3 - x10) * 31 + (3 - x12) * 6 + (3 - x14) * 1 + 1 < (nn : Int) → nW xs e 45 137 [some (2, 25), none, some (2, (p + 2)), none, none, some (0, x5), some (0, x6), some (0, x7), some (0, x8), some (0, x9), some (0, x10), some (0, x11), some (0, x12), some (0, x13), some (0, x14)] [] M (nPV fun M1 => Sf 3 ac M0 M1 ∧ (M1 15 10 = g) ∧ MK 19683 27 26 702 18954 1 3 9 27 81 243 729 2187 6561 M1 ∧ (FCm 26 Ms M1) ∧ (∀ c : Int, 0 ≤ c → c < 3 * 3 * 3 → M1 26 c = linw 3 (fun i => Ms (p + 2) i) 1 3 9 i j c))) := by
  have hd : (3 : Int) = 2 ∨ (3 : Int) = 3 := by decide
  have hac := hS.2.2.2.2
  have hpb := hp.1
  intro nn
  induction nn with
  | zero => refine ⟨?_, ?_, ?_⟩ <;> (intros; omega)
  | succ nn ih =>
    refine ⟨?_, ?_, ?_⟩
    · intro x5 x6 x7 x8 x9 x10 M hS k5 k6 k7 k8 k9 k10 hK hgg v0 v1 v2 v3 v4 v5 hnn
      refine n_iload c_45_86 rfl ?_
      refine n_iload c_45_88 rfl ?_
      refine n_if2_ge c_45_90 (by omega) (by omega) ?_ ?_
      · intro h1
        exact n_rV c_45_187 rfl ⟨hS, by omega, hK, by exact v4, by exact fun c h0 h1 => v5 c h0 (by omega)⟩
      · intro h2
        refine n_aload_n c_45_93 rfl ?_
        refine n_iload c_45_94 rfl ?_
        refine n_iload c_45_96 rfl ?_
        refine n_iadd c_45_98 rfl ?_
        refine n_ialoadV c_45_99 hp.c0.2.2.n rfl rfl rfl (by omega) (t_actrl hS hp hpl (Or.inr rfl) (by omega) (by omega)) ?_
        intro z3 ez3 f4
        refine n_aload_n c_45_100 rfl ?_
        refine n_getV (bi := 1) c_45_101 sc_25.n rfl rfl rfl hK.w25.1 ?_
        intro z5 ez5 f6
        obtain rfl : z5 = 1 := by omega
        refine n_imul c_45_104 rfl ?_
        refine n_istore (L2 := [some (2, 25), none, some (2, (p + 2)), none, none, some (0, x5), some (0, x6), some (0, x7), some (0, x8), some (0, x9), some (0, x10), some (0, (z3 * 1)), none, none, none]) c_45_105 rfl rfl ?_
        refine n_iconst c_45_107 ?_
        refine n_istore (L2 := [some (2, 25), none, some (2, (p + 2)), none, none, some (0, x5), some (0, x6), some (0, x7), some (0, x8), some (0, x9), some (0, x10), some (0, (z3 * 1)), some (0, 0), none, none]) c_45_108 rfl rfl ?_
        refine n_fg (le_s (le_n (le_s (le_n (le_n (le_s (le_s (le_s (le_s (le_s (le_s (le_s (le_s (le_n (le_n le_0))))))))))))))) ?_
        exact ih.2.1 _ _ _ _ _ _ _ _ M hS (by omega) (by omega) (by omega) (by omega) (by omega) (by omega) (by omega) (by omega) hK (by omega) (by omega) (by exact v1) (by exact v2) (by exact v3) (by exact v4) (by exact v5) (by have u1 := v4 (p + 2) (x6 + x10) (by omega); omega) (by omega)
    · intro x5 x6 x7 x8 x9 x10 x11 x12 M hS k5 k6 k7 k8 k9 k10 k11 k12 hK hgg v0 v1 v2 v3 v4 v5 v6 hnn
      refine n_iload c_45_110 rfl ?_
      refine n_iload c_45_112 rfl ?_
      refine n_if2_ge c_45_114 (by omega) (by omega) ?_ ?_
      · intro h1
        refine n_iinc (L2 := [some (2, 25), none, some (2, (p + 2)), none, none, some (0, x5), some (0, x6), some (0, x7), some (0, x8), some (0, x9), some (0, (x10 + 1)), some (0, x11), some (0, x12), none, none]) c_45_181 rfl rfl rfl ?_
        refine n_goto c_45_184 ?_
        refine n_fg (le_s (le_n (le_s (le_n (le_n (le_s (le_s (le_s (le_s (le_s (le_s (le_n (le_n (le_n (le_n le_0))))))))))))))) ?_
        exact ih.1 _ _ _ _ _ _ M hS (by omega) (by omega) (by omega) (by omega) (by omega) (by omega) hK (by omega) (by omega) (by exact v1) (by exact v2) (by exact v3) (by exact v4) (by exact v5) (by omega)
      · intro h2
        refine n_iload c_45_117 rfl ?_
        refine n_aload_n c_45_119 rfl ?_
        refine n_iload c_45_120 rfl ?_
        refine n_iload c_45_122 rfl ?_
        refine n_iadd c_45_124 rfl ?_
        refine n_ialoadV c_45_125 hp.c0.2.2.n rfl rfl rfl (by omega) (t_actrl hS hp hpl (Or.inr rfl) (by omega) (by omega)) ?_
        intro z3 ez3 f4
        refine n_aload_n c_45_126 rfl ?_
        refine n_getV (bi := 2) c_45_127 sc_25.n rfl rfl rfl hK.w25.2.1 ?_
        intro z5 ez5 f6
        obtain rfl : z5 = 3 := by omega
        refine n_imul c_45_130 rfl ?_
        refine n_iadd c_45_131 rfl ?_
        refine n_istore (L2 := [some (2, 25), none, some (2, (p + 2)), none, none, some (0, x5), some (0, x6), some (0, x7), some (0, x8), some (0, x9), some (0, x10), some (0, x11), some (0, x12), some (0, (x11 + (z3 * 3))), none]) c_45_132 rfl rfl ?_
        refine n_iconst c_45_134 ?_
        refine n_istore (L2 := [some (2, 25), none, some (2, (p + 2)), none, none, some (0, x5), some (0, x6), some (0, x7), some (0, x8), some (0, x9), some (0, x10), some (0, x11), some (0, x12), some (0, (x11 + (z3 * 3))), some (0, 0)]) c_45_135 rfl rfl ?_
        refine n_fg (le_s (le_n (le_s (le_n (le_n (le_s (le_s (le_s (le_s (le_s (le_s (le_s (le_s (le_s (le_s le_0))))))))))))))) ?_
        exact ih.2.2 _ _ _ _ _ _ _ _ _ _ M hS (by omega) (by omega) (by omega) (by omega) (by omega) (by omega) (by omega) (by omega) (by omega) (by omega) hK (by omega) (by omega) (by exact v1) (by exact v2) (by exact v3) (by exact v4) (by exact v5) (by exact v6) (by have u1 := v4 (p + 2) (x7 + x12) (by omega); omega) (by omega)
    · intro x5 x6 x7 x8 x9 x10 x11 x12 x13 x14 M hS k5 k6 k7 k8 k9 k10 k11 k12 k13 k14 hK hgg v0 v1 v2 v3 v4 v5 v6 v7 hnn
      have vf := v4
      refine n_iload c_45_137 rfl ?_
      refine n_iload c_45_139 rfl ?_
      refine n_if2_ge c_45_141 (by omega) (by omega) ?_ ?_
      · intro h1
        refine n_iinc (L2 := [some (2, 25), none, some (2, (p + 2)), none, none, some (0, x5), some (0, x6), some (0, x7), some (0, x8), some (0, x9), some (0, x10), some (0, x11), some (0, (x12 + 1)), some (0, x13), some (0, x14)]) c_45_175 rfl rfl rfl ?_
        refine n_goto c_45_178 ?_
        refine n_fg (le_s (le_n (le_s (le_n (le_n (le_s (le_s (le_s (le_s (le_s (le_s (le_s (le_s (le_n (le_n le_0))))))))))))))) ?_
        exact ih.2.1 _ _ _ _ _ _ _ _ M hS (by omega) (by omega) (by omega) (by omega) (by omega) (by omega) (by omega) (by omega) hK (by omega) (by omega) (by exact v1) (by exact v2) (by exact v3) (by exact v4) (by exact v5) (by exact v6) (by omega)
      · intro h2
        refine n_aload_n c_45_144 rfl ?_
        refine n_getR c_45_145 sc_25.n rfl rfl rfl r_25_0 ?_
        refine n_iload c_45_148 rfl ?_
        refine n_iload c_45_150 rfl ?_
        refine n_aload_n c_45_152 rfl ?_
        refine n_iload c_45_153 rfl ?_
        refine n_iload c_45_155 rfl ?_
        refine n_iadd c_45_157 rfl ?_
        refine n_ialoadV c_45_158 hp.c0.2.2.n rfl rfl rfl (by omega) (t_actrl hS hp hpl (Or.inr rfl) (by omega) (by omega)) ?_
        intro z3 ez3 f4
        refine n_aload_n c_45_159 rfl ?_
        refine n_getV (bi := 3) c_45_160 sc_25.n rfl rfl rfl hK.w25.2.2 ?_
        intro z5 ez5 f6
        obtain rfl : z5 = 9 := by omega
        refine n_imul c_45_163 rfl ?_
        refine n_iadd c_45_164 rfl ?_
        refine n_iastoreV hS c_45_165 sc_26.n rfl (by omega) (w_26 (by omega) (by omega)) ?_
        intro M7 eM7 hS7
        have hK7 := hK.u (by unfold Kok; omega) eM7
        have g7_0 : M7 15 10 = M 15 10 := by rw [eM7]; exact nu_a (by omega)
        refine n_iinc (L2 := [some (2, 25), none, some (2, (p + 2)), none, none, some (0, x5), some (0, x6), some (0, x7), some (0, x8), some (0, (x9 + 1)), some (0, x10), some (0, x11), some (0, x12), some (0, x13), some (0, x14)]) c_45_166 rfl rfl rfl ?_
        refine n_iinc (L2 := [some (2, 25), none, some (2, (p + 2)), none, none, some (0, x5), some (0, x6), some (0, x7), some (0, x8), some (0, (x9 + 1)), some (0, x10), some (0, x11), some (0, x12), some (0, x13), some (0, (x14 + 1))]) c_45_169 rfl rfl rfl ?_
        refine n_goto c_45_172 ?_
        refine n_fg (le_s (le_n (le_s (le_n (le_n (le_s (le_s (le_s (le_s (le_s (le_s (le_s (le_s (le_s (le_s le_0))))))))))))))) ?_
        exact ih.2.2 _ _ _ _ _ _ _ _ _ _ M7 hS7 (by omega) (by omega) (by omega) (by omega) (by omega) (by omega) (by omega) (by omega) (by omega) (by omega) hK7 (by omega) (by omega) (by exact v1) (by exact v2) (by exact v3) (by exact FCm.u v4 eM7) (by exact fun c h0 h1 => by rw [eM7, nu_e]; by_cases e : c = x9; (rw [if_pos ⟨rfl, e⟩, e]; show _ = Ms (p + 2) ((i / (3 * 3) * 3 + j / (3 * 3)) * 3 + x9 / (3 * 3)) * 1 + Ms (p + 2) ((i / 3 % 3 * 3 + j / 3 % 3) * 3 + x9 / 3 % 3) * 3 + Ms (p + 2) ((i % 3 * 3 + j % 3) * 3 + x9 % 3) * 9; rw [show x9 / (3 * 3) = x10 by omega, show x9 / 3 % 3 = x12 by omega, show x9 % 3 = x14 by omega, ← v1, ← v2, ← v3]; have u3 := vf (p + 2) (x8 + x14) (by omega); omega); (rw [if_neg (fun u => e u.2)]; exact v5 c h0 (by omega))) (by exact v6) (by exact v7) (by omega)
set_option maxHeartbeats 4000000 in
theorem fillMX25U_2_3 {xs : List Int32} {e : Nat} {ac : Int} {M0 M : nM} {p i j g : Int} {Ms : nM} (hS : Sf 3 ac M0 M) (hp : ActAt p) (hpl : p < 55 + 3 * ac) (hi : 0 ≤ i ∧ i ≤ 26) (hj : 0 ≤ j ∧ j ≤ 26) (hK : MK 19683 27 26 702 18954 1 3 9 27 81 243 729 2187 6561 M) (hg : M 15 10 = g) (hms : M = Ms) : nW xs e 45 0 [some (2, 25), some (2, 4), some (2, (p + 2)), some (0, i), some (0, j), none, none, none, none, none, none, none, none, none, none] [] M (nPV fun M1 => Sf 3 ac M0 M1 ∧ (M1 15 10 = g) ∧ MK 19683 27 26 702 18954 1 3 9 27 81 243 729 2187 6561 M1 ∧ (FCm 26 Ms M1) ∧ (∀ c : Int, 0 ≤ c → c < 3 * 3 * 3 → M1 26 c = linw 3 (fun i => Ms (p + 2) i) 1 3 9 i j c)) := by
  have hd : (3 : Int) = 2 ∨ (3 : Int) = 3 := by decide
  have hac := hS.2.2.2.2
  have hpb := hp.1
  refine n_aload_n c_45_0 rfl ?_
  refine n_getV (bi := 1) c_45_1 sc_25.n rfl rfl rfl hK.w25.1 ?_
  intro z1 ez1 f2
  obtain rfl : z1 = 1 := by omega
  refine n_if0_ne c_45_4 (by omega) ?_ ?_
  · intro h3
    refine n_aload_n c_45_8 rfl ?_
    refine n_getV (bi := 0) c_45_9 sc_4.n rfl rfl rfl (t_4_0 hS) ?_
    intro z4 ez4 f5
    obtain rfl : z4 = 3 := by omega
    refine n_istore (L2 := [some (2, 25), some (2, 4), some (2, (p + 2)), some (0, i), some (0, j), some (0, 3), none, none, none, none, none, none, none, none, none]) c_45_12 rfl rfl ?_
    refine n_aload_n c_45_14 rfl ?_
    refine n_getR c_45_15 sc_4.n rfl rfl rfl r_4_2 ?_
    refine n_iload_n c_45_18 rfl ?_
    refine n_ialoadV c_45_19 sc_5.n rfl rfl rfl (by omega) (t_5d hS hd (by omega) (by omega)) ?_
    intro z6 ez6 f7
    have q19 := t_5e hS (i := i) (by omega) (by omega)
    refine n_iload c_45_20 rfl ?_
    refine n_imul c_45_22 rfl ?_
    refine n_aload_n c_45_23 rfl ?_
    refine n_getR c_45_24 sc_4.n rfl rfl rfl r_4_2 ?_
    refine n_iload c_45_27 rfl ?_
    refine n_ialoadV c_45_29 sc_5.n rfl rfl rfl (by omega) (t_5d hS hd (by omega) (by omega)) ?_
    intro z8 ez8 f9
    have q29 := t_5e hS (i := j) (by omega) (by omega)
    refine n_iadd c_45_30 rfl ?_
    refine n_iload c_45_31 rfl ?_
    refine n_imul c_45_33 rfl ?_
    refine n_istore (L2 := [some (2, 25), some (2, 4), some (2, (p + 2)), some (0, i), some (0, j), some (0, 3), some (0, (((z6 * 3) + z8) * 3)), none, none, none, none, none, none, none, none]) c_45_34 rfl rfl ?_
    refine n_aload_n c_45_36 rfl ?_
    refine n_getR c_45_37 sc_4.n rfl rfl rfl r_4_3 ?_
    refine n_iload_n c_45_40 rfl ?_
    refine n_ialoadV c_45_41 sc_6.n rfl rfl rfl (by omega) (t_6d hS hd (by omega) (by omega)) ?_
    intro z10 ez10 f11
    have q41 := t_6e hS (i := i) (by omega) (by omega)
    refine n_iload c_45_42 rfl ?_
    refine n_imul c_45_44 rfl ?_
    refine n_aload_n c_45_45 rfl ?_
    refine n_getR c_45_46 sc_4.n rfl rfl rfl r_4_3 ?_
    refine n_iload c_45_49 rfl ?_
    refine n_ialoadV c_45_51 sc_6.n rfl rfl rfl (by omega) (t_6d hS hd (by omega) (by omega)) ?_
    intro z12 ez12 f13
    have q51 := t_6e hS (i := j) (by omega) (by omega)
    refine n_iadd c_45_52 rfl ?_
    refine n_iload c_45_53 rfl ?_
    refine n_imul c_45_55 rfl ?_
    refine n_istore (L2 := [some (2, 25), some (2, 4), some (2, (p + 2)), some (0, i), some (0, j), some (0, 3), some (0, (((z6 * 3) + z8) * 3)), some (0, (((z10 * 3) + z12) * 3)), none, none, none, none, none, none, none]) c_45_56 rfl rfl ?_
    refine n_aload_n c_45_58 rfl ?_
    refine n_getR c_45_59 sc_4.n rfl rfl rfl r_4_4 ?_
    refine n_iload_n c_45_62 rfl ?_
    refine n_ialoadV c_45_63 sc_7.n rfl rfl rfl (by omega) (t_7d hS hd (by omega) (by omega)) ?_
    intro z14 ez14 f15
    have q63 := t_7e hS (i := i) (by omega) (by omega)
    refine n_iload c_45_64 rfl ?_
    refine n_imul c_45_66 rfl ?_
    refine n_aload_n c_45_67 rfl ?_
    refine n_getR c_45_68 sc_4.n rfl rfl rfl r_4_4 ?_
    refine n_iload c_45_71 rfl ?_
    refine n_ialoadV c_45_73 sc_7.n rfl rfl rfl (by omega) (t_7d hS hd (by omega) (by omega)) ?_
    intro z16 ez16 f17
    have q73 := t_7e hS (i := j) (by omega) (by omega)
    refine n_iadd c_45_74 rfl ?_
    refine n_iload c_45_75 rfl ?_
    refine n_imul c_45_77 rfl ?_
    refine n_istore (L2 := [some (2, 25), some (2, 4), some (2, (p + 2)), some (0, i), some (0, j), some (0, 3), some (0, (((z6 * 3) + z8) * 3)), some (0, (((z10 * 3) + z12) * 3)), some (0, (((z14 * 3) + z16) * 3)), none, none, none, none, none, none]) c_45_78 rfl rfl ?_
    refine n_iconst c_45_80 ?_
    refine n_istore (L2 := [some (2, 25), some (2, 4), some (2, (p + 2)), some (0, i), some (0, j), some (0, 3), some (0, (((z6 * 3) + z8) * 3)), some (0, (((z10 * 3) + z12) * 3)), some (0, (((z14 * 3) + z16) * 3)), some (0, 0), none, none, none, none, none]) c_45_81 rfl rfl ?_
    refine n_iconst c_45_83 ?_
    refine n_istore (L2 := [some (2, 25), some (2, 4), some (2, (p + 2)), some (0, i), some (0, j), some (0, 3), some (0, (((z6 * 3) + z8) * 3)), some (0, (((z10 * 3) + z12) * 3)), some (0, (((z14 * 3) + z16) * 3)), some (0, 0), some (0, 0), none, none, none, none]) c_45_84 rfl rfl ?_
    refine n_fg (le_s (le_n (le_s (le_n (le_n (le_s (le_s (le_s (le_s (le_s (le_s (le_n (le_n (le_n (le_n le_0))))))))))))))) ?_
    exact (fillMX25U_2_3_c hS hp hpl hi hj hK hg hms 320).1 _ _ _ _ _ _ M hS (by omega) (by omega) (by omega) (by omega) (by omega) (by omega) hK (by omega) (by omega) (by omega) (by omega) (by omega) (by subst hms; exact fun _ _ _ => rfl) (by exact fun c h0 h1 => by omega) (by omega)
  · intro h18
    exfalso; omega

set_option maxHeartbeats 4000000 in
theorem fillMX27U_2_3_c {xs : List Int32} {e : Nat} {ac : Int} {M0 M : nM} {p i j g : Int} {Ms : nM} (hS : Sf 3 ac M0 M) (hp : ActAt p) (hpl : p < 55 + 3 * ac) (hi : 0 ≤ i ∧ i ≤ 26) (hj : 0 ≤ j ∧ j ≤ 26) (hK : MK 19683 27 26 702 18954 1 3 9 27 81 243 729 2187 6561 M) (hg : M 15 10 = g) (hms : M = Ms) : ∀ nn : Nat, (∀ (x5 x6 x7 x8 x9 x10 : Int) (M : nM), Sf 3 ac M0 M → (3 ≤ x5 ∧ x5 ≤ 3) → (0 ≤ x6 ∧ x6 ≤ 24) → (0 ≤ x7 ∧ x7 ≤ 24) → (0 ≤ x8 ∧ x8 ≤ 24) → (0 ≤ x9 ∧ x9 ≤ 27) → (0 ≤ x10 ∧ x10 ≤ 3) → (MK 19683 27 26 702 18954 1 3 9 27 81 243 729 2187 6561 M) → (M 15 10 = g) → (x9 = 9 * x10) → (x6 = (i / (3 * 3) * 3 + j / (3 * 3)) * 3) → (x7 = (i / 3 % 3 * 3 + j / 3 % 3) * 3) → (x8 = (i % 3 * 3 + j % 3) * 3) → (FCm 28 Ms M) → (∀ c : Int, 0 ≤ c → c < x9 → M 28 c = linw 3 (fun i => Ms (p + 2) i) 27 81 243 i j c) → (3 - x10) * 31 + 31 < (nn : Int) → nW xs e 45 86 [some (2, 27), none, some (2, (p + 2)), none, none, some (0, x5), some (0, x6), some (0, x7), some (0, x8), some (0, x9), some (0, x10), none, none, none, none] [] M (nPV fun M1 => Sf 3 ac M0 M1 ∧ (M1 15 10 = g) ∧ MK 19683 27 26 702 18954 1 3 9 27 81 243 729 2187 6561 M1 ∧ (FCm 28 Ms M1) ∧ (∀ c : Int, 0 ≤ c → c < 3 * 3 * 3 → M1 28 c = linw 3 (fun i => Ms (p + 2) i) 27 81 243 i j c))) ∧ (∀ (x5 x6 x7 x8 x9 x10 x11 x12 : Int) (M : nM), Sf 3 ac M0 M → (3 ≤ x5 ∧ x5 ≤ 3) → (0 ≤ x6 ∧ x6 ≤ 24) → (0 ≤ x7 ∧ x7 ≤ 24) → (0 ≤ x8 ∧ x8 ≤ 24) → (0 ≤ x9 ∧ x9 ≤ 27) → (0 ≤ x10 ∧ x10 ≤ 2) → (0 ≤ x11 ∧ x11 ≤ 54) → (0 ≤ x12 ∧ x12 ≤ 3) → (MK 19683 27 26 702 18954 1 3 9 27 81 243 729 2187 6561 M) → (M 15 10 = g) → (x9 = 9 * x10 + 3 * x12) → (x6 = (i / (3 * 3) * 3 + j / (3 * 3)) * 3) → (x7 = (i / 3 % 3 * 3 + j / 3 % 3) * 3) → (x8 = (i % 3 * 3 + j % 3) * 3) → (FCm 28 Ms M) → (∀ c : Int, 0 ≤ c → c < x9 → M 28 c = linw 3 (fun i => Ms (p + 2) i) 27 81 243 i j c) → (x11 = Ms (p + 2) (x6 + x10) * 27) → (3 - x10) * 31 + (3 - x12) * 6 + 6 < (nn : Int) → nW xs e 45 110 [some (2, 27), none, some (2, (p + 2)), none, none, some (0, x5), some (0, x6), some (0, x7), some (0, x8), some (0, x9), some (0, x10), some (0, x11), some (0, x12), none, none] [] M (nPV fun M1 => Sf 3 ac M0 M1 ∧ (M1 15 10 = g) ∧ MK 19683 27 26 702 18954 1 3 9 27 81 243 729 2187 6561 M1 ∧ (FCm 28 Ms M1) ∧ (∀ c : Int, 0 ≤ c → c < 3 * 3 * 3 → M1 28 c = linw 3 (fun i => Ms (p + 2) i) 27 81 243 i j c))) ∧ (∀ (x5 x6 x7 x8 x9 x10 x11 x12 x13 x14 : Int) (M : nM), Sf 3 ac M0 M → (3 ≤ x5 ∧ x5 ≤ 3) → (0 ≤ x6 ∧ x6 ≤ 24) → (0 ≤ x7 ∧ x7 ≤ 24) → (0 ≤ x8 ∧ x8 ≤ 24) → (0 ≤ x9 ∧ x9 ≤ 27) → (0 ≤ x10 ∧ x10 ≤ 2) → (0 ≤ x11 ∧ x11 ≤ 54) → (0 ≤ x12 ∧ x12 ≤ 2) → (0 ≤ x13 ∧ x13 ≤ 216) → (0 ≤ x14 ∧ x14 ≤ 3) → (MK 19683 27 26 702 18954 1 3 9 27 81 243 729 2187 6561 M) → (M 15 10 = g) → (x9 = 9 * x10 + 3 * x12 + x14) → (x6 = (i / (3 * 3) * 3 + j / (3 * 3)) * 3) → (x7 = (i / 3 % 3 * 3 + j / 3 % 3) * 3) → (x8 = (i % 3 * 3 + j % 3) * 3) → (FCm 28 Ms M) → (∀ c : Int, 0 ≤ c → c < x9 → M 28 c = linw 3 (fun i => Ms (p + 2) i) 27 81 243 i j c) → (x11 = Ms (p + 2) (x6 + x10) * 27) → (x13 = Ms (p + 2) (x6 + x10) * 27 + Ms (p + 2) (x7 + x12) * 81) → (3 - x10) * 31 + (3 - x12) * 6 + (3 - x14) * 1 + 1 < (nn : Int) → nW xs e 45 137 [some (2, 27), none, some (2, (p + 2)), none, none, some (0, x5), some (0, x6), some (0, x7), some (0, x8), some (0, x9), some (0, x10), some (0, x11), some (0, x12), some (0, x13), some (0, x14)] [] M (nPV fun M1 => Sf 3 ac M0 M1 ∧ (M1 15 10 = g) ∧ MK 19683 27 26 702 18954 1 3 9 27 81 243 729 2187 6561 M1 ∧ (FCm 28 Ms M1) ∧ (∀ c : Int, 0 ≤ c → c < 3 * 3 * 3 → M1 28 c = linw 3 (fun i => Ms (p + 2) i) 27 81 243 i j c))) := by
  have hd : (3 : Int) = 2 ∨ (3 : Int) = 3 := by decide
  have hac := hS.2.2.2.2
  have hpb := hp.1
  intro nn
  induction nn with
  | zero => refine ⟨?_, ?_, ?_⟩ <;> (intros; omega)
  | succ nn ih =>
    refine ⟨?_, ?_, ?_⟩
    · intro x5 x6 x7 x8 x9 x10 M hS k5 k6 k7 k8 k9 k10 hK hgg v0 v1 v2 v3 v4 v5 hnn
      refine n_iload c_45_86 rfl ?_
      refine n_iload c_45_88 rfl ?_
      refine n_if2_ge c_45_90 (by omega) (by omega) ?_ ?_
      · intro h1
        exact n_rV c_45_187 rfl ⟨hS, by omega, hK, by exact v4, by exact fun c h0 h1 => v5 c h0 (by omega)⟩
      · intro h2
        refine n_aload_n c_45_93 rfl ?_
        refine n_iload c_45_94 rfl ?_
        refine n_iload c_45_96 rfl ?_
        refine n_iadd c_45_98 rfl ?_
        refine n_ialoadV c_45_99 hp.c0.2.2.n rfl rfl rfl (by omega) (t_actrl hS hp hpl (Or.inr rfl) (by omega) (by omega)) ?_
        intro z3 ez3 f4
        refine n_aload_n c_45_100 rfl ?_
        refine n_getV (bi := 1) c_45_101 sc_27.n rfl rfl rfl hK.w27.1 ?_
        intro z5 ez5 f6
        obtain rfl : z5 = 27 := by omega
        refine n_imul c_45_104 rfl ?_
        refine n_istore (L2 := [some (2, 27), none, some (2, (p + 2)), none, none, some (0, x5), some (0, x6), some (0, x7), some (0, x8), some (0, x9), some (0, x10), some (0, (z3 * 27)), none, none, none]) c_45_105 rfl rfl ?_
        refine n_iconst c_45_107 ?_
        refine n_istore (L2 := [some (2, 27), none, some (2, (p + 2)), none, none, some (0, x5), some (0, x6), some (0, x7), some (0, x8), some (0, x9), some (0, x10), some (0, (z3 * 27)), some (0, 0), none, none]) c_45_108 rfl rfl ?_
        refine n_fg (le_s (le_n (le_s (le_n (le_n (le_s (le_s (le_s (le_s (le_s (le_s (le_s (le_s (le_n (le_n le_0))))))))))))))) ?_
        exact ih.2.1 _ _ _ _ _ _ _ _ M hS (by omega) (by omega) (by omega) (by omega) (by omega) (by omega) (by omega) (by omega) hK (by omega) (by omega) (by exact v1) (by exact v2) (by exact v3) (by exact v4) (by exact v5) (by have u1 := v4 (p + 2) (x6 + x10) (by omega); omega) (by omega)
    · intro x5 x6 x7 x8 x9 x10 x11 x12 M hS k5 k6 k7 k8 k9 k10 k11 k12 hK hgg v0 v1 v2 v3 v4 v5 v6 hnn
      refine n_iload c_45_110 rfl ?_
      refine n_iload c_45_112 rfl ?_
      refine n_if2_ge c_45_114 (by omega) (by omega) ?_ ?_
      · intro h1
        refine n_iinc (L2 := [some (2, 27), none, some (2, (p + 2)), none, none, some (0, x5), some (0, x6), some (0, x7), some (0, x8), some (0, x9), some (0, (x10 + 1)), some (0, x11), some (0, x12), none, none]) c_45_181 rfl rfl rfl ?_
        refine n_goto c_45_184 ?_
        refine n_fg (le_s (le_n (le_s (le_n (le_n (le_s (le_s (le_s (le_s (le_s (le_s (le_n (le_n (le_n (le_n le_0))))))))))))))) ?_
        exact ih.1 _ _ _ _ _ _ M hS (by omega) (by omega) (by omega) (by omega) (by omega) (by omega) hK (by omega) (by omega) (by exact v1) (by exact v2) (by exact v3) (by exact v4) (by exact v5) (by omega)
      · intro h2
        refine n_iload c_45_117 rfl ?_
        refine n_aload_n c_45_119 rfl ?_
        refine n_iload c_45_120 rfl ?_
        refine n_iload c_45_122 rfl ?_
        refine n_iadd c_45_124 rfl ?_
        refine n_ialoadV c_45_125 hp.c0.2.2.n rfl rfl rfl (by omega) (t_actrl hS hp hpl (Or.inr rfl) (by omega) (by omega)) ?_
        intro z3 ez3 f4
        refine n_aload_n c_45_126 rfl ?_
        refine n_getV (bi := 2) c_45_127 sc_27.n rfl rfl rfl hK.w27.2.1 ?_
        intro z5 ez5 f6
        obtain rfl : z5 = 81 := by omega
        refine n_imul c_45_130 rfl ?_
        refine n_iadd c_45_131 rfl ?_
        refine n_istore (L2 := [some (2, 27), none, some (2, (p + 2)), none, none, some (0, x5), some (0, x6), some (0, x7), some (0, x8), some (0, x9), some (0, x10), some (0, x11), some (0, x12), some (0, (x11 + (z3 * 81))), none]) c_45_132 rfl rfl ?_
        refine n_iconst c_45_134 ?_
        refine n_istore (L2 := [some (2, 27), none, some (2, (p + 2)), none, none, some (0, x5), some (0, x6), some (0, x7), some (0, x8), some (0, x9), some (0, x10), some (0, x11), some (0, x12), some (0, (x11 + (z3 * 81))), some (0, 0)]) c_45_135 rfl rfl ?_
        refine n_fg (le_s (le_n (le_s (le_n (le_n (le_s (le_s (le_s (le_s (le_s (le_s (le_s (le_s (le_s (le_s le_0))))))))))))))) ?_
        exact ih.2.2 _ _ _ _ _ _ _ _ _ _ M hS (by omega) (by omega) (by omega) (by omega) (by omega) (by omega) (by omega) (by omega) (by omega) (by omega) hK (by omega) (by omega) (by exact v1) (by exact v2) (by exact v3) (by exact v4) (by exact v5) (by exact v6) (by have u1 := v4 (p + 2) (x7 + x12) (by omega); omega) (by omega)
    · intro x5 x6 x7 x8 x9 x10 x11 x12 x13 x14 M hS k5 k6 k7 k8 k9 k10 k11 k12 k13 k14 hK hgg v0 v1 v2 v3 v4 v5 v6 v7 hnn
      have vf := v4
      refine n_iload c_45_137 rfl ?_
      refine n_iload c_45_139 rfl ?_
      refine n_if2_ge c_45_141 (by omega) (by omega) ?_ ?_
      · intro h1
        refine n_iinc (L2 := [some (2, 27), none, some (2, (p + 2)), none, none, some (0, x5), some (0, x6), some (0, x7), some (0, x8), some (0, x9), some (0, x10), some (0, x11), some (0, (x12 + 1)), some (0, x13), some (0, x14)]) c_45_175 rfl rfl rfl ?_
        refine n_goto c_45_178 ?_
        refine n_fg (le_s (le_n (le_s (le_n (le_n (le_s (le_s (le_s (le_s (le_s (le_s (le_s (le_s (le_n (le_n le_0))))))))))))))) ?_
        exact ih.2.1 _ _ _ _ _ _ _ _ M hS (by omega) (by omega) (by omega) (by omega) (by omega) (by omega) (by omega) (by omega) hK (by omega) (by omega) (by exact v1) (by exact v2) (by exact v3) (by exact v4) (by exact v5) (by exact v6) (by omega)
      · intro h2
        refine n_aload_n c_45_144 rfl ?_
        refine n_getR c_45_145 sc_27.n rfl rfl rfl r_27_0 ?_
        refine n_iload c_45_148 rfl ?_
        refine n_iload c_45_150 rfl ?_
        refine n_aload_n c_45_152 rfl ?_
        refine n_iload c_45_153 rfl ?_
        refine n_iload c_45_155 rfl ?_
        refine n_iadd c_45_157 rfl ?_
        refine n_ialoadV c_45_158 hp.c0.2.2.n rfl rfl rfl (by omega) (t_actrl hS hp hpl (Or.inr rfl) (by omega) (by omega)) ?_
        intro z3 ez3 f4
        refine n_aload_n c_45_159 rfl ?_
        refine n_getV (bi := 3) c_45_160 sc_27.n rfl rfl rfl hK.w27.2.2 ?_
        intro z5 ez5 f6
        obtain rfl : z5 = 243 := by omega
        refine n_imul c_45_163 rfl ?_
        refine n_iadd c_45_164 rfl ?_
        refine n_iastoreV hS c_45_165 sc_28.n rfl (by omega) (w_28 (by omega) (by omega)) ?_
        intro M7 eM7 hS7
        have hK7 := hK.u (by unfold Kok; omega) eM7
        have g7_0 : M7 15 10 = M 15 10 := by rw [eM7]; exact nu_a (by omega)
        refine n_iinc (L2 := [some (2, 27), none, some (2, (p + 2)), none, none, some (0, x5), some (0, x6), some (0, x7), some (0, x8), some (0, (x9 + 1)), some (0, x10), some (0, x11), some (0, x12), some (0, x13), some (0, x14)]) c_45_166 rfl rfl rfl ?_
        refine n_iinc (L2 := [some (2, 27), none, some (2, (p + 2)), none, none, some (0, x5), some (0, x6), some (0, x7), some (0, x8), some (0, (x9 + 1)), some (0, x10), some (0, x11), some (0, x12), some (0, x13), some (0, (x14 + 1))]) c_45_169 rfl rfl rfl ?_
        refine n_goto c_45_172 ?_
        refine n_fg (le_s (le_n (le_s (le_n (le_n (le_s (le_s (le_s (le_s (le_s (le_s (le_s (le_s (le_s (le_s le_0))))))))))))))) ?_
        exact ih.2.2 _ _ _ _ _ _ _ _ _ _ M7 hS7 (by omega) (by omega) (by omega) (by omega) (by omega) (by omega) (by omega) (by omega) (by omega) (by omega) hK7 (by omega) (by omega) (by exact v1) (by exact v2) (by exact v3) (by exact FCm.u v4 eM7) (by exact fun c h0 h1 => by rw [eM7, nu_e]; by_cases e : c = x9; (rw [if_pos ⟨rfl, e⟩, e]; show _ = Ms (p + 2) ((i / (3 * 3) * 3 + j / (3 * 3)) * 3 + x9 / (3 * 3)) * 27 + Ms (p + 2) ((i / 3 % 3 * 3 + j / 3 % 3) * 3 + x9 / 3 % 3) * 81 + Ms (p + 2) ((i % 3 * 3 + j % 3) * 3 + x9 % 3) * 243; rw [show x9 / (3 * 3) = x10 by omega, show x9 / 3 % 3 = x12 by omega, show x9 % 3 = x14 by omega, ← v1, ← v2, ← v3]; have u3 := vf (p + 2) (x8 + x14) (by omega); omega); (rw [if_neg (fun u => e u.2)]; exact v5 c h0 (by omega))) (by exact v6) (by exact v7) (by omega)
set_option maxHeartbeats 4000000 in
theorem fillMX27U_2_3 {xs : List Int32} {e : Nat} {ac : Int} {M0 M : nM} {p i j g : Int} {Ms : nM} (hS : Sf 3 ac M0 M) (hp : ActAt p) (hpl : p < 55 + 3 * ac) (hi : 0 ≤ i ∧ i ≤ 26) (hj : 0 ≤ j ∧ j ≤ 26) (hK : MK 19683 27 26 702 18954 1 3 9 27 81 243 729 2187 6561 M) (hg : M 15 10 = g) (hms : M = Ms) : nW xs e 45 0 [some (2, 27), some (2, 4), some (2, (p + 2)), some (0, i), some (0, j), none, none, none, none, none, none, none, none, none, none] [] M (nPV fun M1 => Sf 3 ac M0 M1 ∧ (M1 15 10 = g) ∧ MK 19683 27 26 702 18954 1 3 9 27 81 243 729 2187 6561 M1 ∧ (FCm 28 Ms M1) ∧ (∀ c : Int, 0 ≤ c → c < 3 * 3 * 3 → M1 28 c = linw 3 (fun i => Ms (p + 2) i) 27 81 243 i j c)) := by
  have hd : (3 : Int) = 2 ∨ (3 : Int) = 3 := by decide
  have hac := hS.2.2.2.2
  have hpb := hp.1
  refine n_aload_n c_45_0 rfl ?_
  refine n_getV (bi := 1) c_45_1 sc_27.n rfl rfl rfl hK.w27.1 ?_
  intro z1 ez1 f2
  obtain rfl : z1 = 27 := by omega
  refine n_if0_ne c_45_4 (by omega) ?_ ?_
  · intro h3
    refine n_aload_n c_45_8 rfl ?_
    refine n_getV (bi := 0) c_45_9 sc_4.n rfl rfl rfl (t_4_0 hS) ?_
    intro z4 ez4 f5
    obtain rfl : z4 = 3 := by omega
    refine n_istore (L2 := [some (2, 27), some (2, 4), some (2, (p + 2)), some (0, i), some (0, j), some (0, 3), none, none, none, none, none, none, none, none, none]) c_45_12 rfl rfl ?_
    refine n_aload_n c_45_14 rfl ?_
    refine n_getR c_45_15 sc_4.n rfl rfl rfl r_4_2 ?_
    refine n_iload_n c_45_18 rfl ?_
    refine n_ialoadV c_45_19 sc_5.n rfl rfl rfl (by omega) (t_5d hS hd (by omega) (by omega)) ?_
    intro z6 ez6 f7
    have q19 := t_5e hS (i := i) (by omega) (by omega)
    refine n_iload c_45_20 rfl ?_
    refine n_imul c_45_22 rfl ?_
    refine n_aload_n c_45_23 rfl ?_
    refine n_getR c_45_24 sc_4.n rfl rfl rfl r_4_2 ?_
    refine n_iload c_45_27 rfl ?_
    refine n_ialoadV c_45_29 sc_5.n rfl rfl rfl (by omega) (t_5d hS hd (by omega) (by omega)) ?_
    intro z8 ez8 f9
    have q29 := t_5e hS (i := j) (by omega) (by omega)
    refine n_iadd c_45_30 rfl ?_
    refine n_iload c_45_31 rfl ?_
    refine n_imul c_45_33 rfl ?_
    refine n_istore (L2 := [some (2, 27), some (2, 4), some (2, (p + 2)), some (0, i), some (0, j), some (0, 3), some (0, (((z6 * 3) + z8) * 3)), none, none, none, none, none, none, none, none]) c_45_34 rfl rfl ?_
    refine n_aload_n c_45_36 rfl ?_
    refine n_getR c_45_37 sc_4.n rfl rfl rfl r_4_3 ?_
    refine n_iload_n c_45_40 rfl ?_
    refine n_ialoadV c_45_41 sc_6.n rfl rfl rfl (by omega) (t_6d hS hd (by omega) (by omega)) ?_
    intro z10 ez10 f11
    have q41 := t_6e hS (i := i) (by omega) (by omega)
    refine n_iload c_45_42 rfl ?_
    refine n_imul c_45_44 rfl ?_
    refine n_aload_n c_45_45 rfl ?_
    refine n_getR c_45_46 sc_4.n rfl rfl rfl r_4_3 ?_
    refine n_iload c_45_49 rfl ?_
    refine n_ialoadV c_45_51 sc_6.n rfl rfl rfl (by omega) (t_6d hS hd (by omega) (by omega)) ?_
    intro z12 ez12 f13
    have q51 := t_6e hS (i := j) (by omega) (by omega)
    refine n_iadd c_45_52 rfl ?_
    refine n_iload c_45_53 rfl ?_
    refine n_imul c_45_55 rfl ?_
    refine n_istore (L2 := [some (2, 27), some (2, 4), some (2, (p + 2)), some (0, i), some (0, j), some (0, 3), some (0, (((z6 * 3) + z8) * 3)), some (0, (((z10 * 3) + z12) * 3)), none, none, none, none, none, none, none]) c_45_56 rfl rfl ?_
    refine n_aload_n c_45_58 rfl ?_
    refine n_getR c_45_59 sc_4.n rfl rfl rfl r_4_4 ?_
    refine n_iload_n c_45_62 rfl ?_
    refine n_ialoadV c_45_63 sc_7.n rfl rfl rfl (by omega) (t_7d hS hd (by omega) (by omega)) ?_
    intro z14 ez14 f15
    have q63 := t_7e hS (i := i) (by omega) (by omega)
    refine n_iload c_45_64 rfl ?_
    refine n_imul c_45_66 rfl ?_
    refine n_aload_n c_45_67 rfl ?_
    refine n_getR c_45_68 sc_4.n rfl rfl rfl r_4_4 ?_
    refine n_iload c_45_71 rfl ?_
    refine n_ialoadV c_45_73 sc_7.n rfl rfl rfl (by omega) (t_7d hS hd (by omega) (by omega)) ?_
    intro z16 ez16 f17
    have q73 := t_7e hS (i := j) (by omega) (by omega)
    refine n_iadd c_45_74 rfl ?_
    refine n_iload c_45_75 rfl ?_
    refine n_imul c_45_77 rfl ?_
    refine n_istore (L2 := [some (2, 27), some (2, 4), some (2, (p + 2)), some (0, i), some (0, j), some (0, 3), some (0, (((z6 * 3) + z8) * 3)), some (0, (((z10 * 3) + z12) * 3)), some (0, (((z14 * 3) + z16) * 3)), none, none, none, none, none, none]) c_45_78 rfl rfl ?_
    refine n_iconst c_45_80 ?_
    refine n_istore (L2 := [some (2, 27), some (2, 4), some (2, (p + 2)), some (0, i), some (0, j), some (0, 3), some (0, (((z6 * 3) + z8) * 3)), some (0, (((z10 * 3) + z12) * 3)), some (0, (((z14 * 3) + z16) * 3)), some (0, 0), none, none, none, none, none]) c_45_81 rfl rfl ?_
    refine n_iconst c_45_83 ?_
    refine n_istore (L2 := [some (2, 27), some (2, 4), some (2, (p + 2)), some (0, i), some (0, j), some (0, 3), some (0, (((z6 * 3) + z8) * 3)), some (0, (((z10 * 3) + z12) * 3)), some (0, (((z14 * 3) + z16) * 3)), some (0, 0), some (0, 0), none, none, none, none]) c_45_84 rfl rfl ?_
    refine n_fg (le_s (le_n (le_s (le_n (le_n (le_s (le_s (le_s (le_s (le_s (le_s (le_n (le_n (le_n (le_n le_0))))))))))))))) ?_
    exact (fillMX27U_2_3_c hS hp hpl hi hj hK hg hms 320).1 _ _ _ _ _ _ M hS (by omega) (by omega) (by omega) (by omega) (by omega) (by omega) hK (by omega) (by omega) (by omega) (by omega) (by omega) (by subst hms; exact fun _ _ _ => rfl) (by exact fun c h0 h1 => by omega) (by omega)
  · intro h18
    exfalso; omega
