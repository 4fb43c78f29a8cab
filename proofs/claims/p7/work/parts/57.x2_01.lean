/-! What the methods do to the core. -/
set_option maxHeartbeats 4000000 in
theorem actX3_2_c {xs : List Int32} {e : Nat} {ac : Int} {M : nM} {s gd : Int} {Ms : nM} (hS : Sf 2 ac M M) (hs : -2147483648 ≤ s ∧ s ≤ 2147483647) (hgd : M 112 0 = gd) (hms : M = Ms) : ∀ nn : Nat, (∀ (x3 x4 : Int) (M : nM), Sf 2 ac M M → (0 ≤ s ∧ s ≤ 7) → (8 ≤ x3 ∧ x3 ≤ 8) → (0 ≤ x4 ∧ x4 ≤ 8) → (M 112 0 = gd) → (TP 2 (Ms 11 s) (fun i => Ms 9 (40 * s + i)) x4 M) → (Eqc Ms M) → (¬ tooMany 3 (Ms 3 14) (fun a => Ms (55 + 3 * a) 0)) → (0 ≤ Ms 11 s) → (Ms 3 14 ≤ 7) → (M 3 14 = Ms 3 14) → (8 - x4) * 1 + 1 < (nn : Int) → nW xs (e + 2) 97 73 [some (2, 3), some (0, 3), some (0, s), some (0, x3), some (0, x4), none] [] M (nPI fun z M1 => (∃ ac2, Sf 2 ac2 M1 M1) ∧ (-2147483648 ≤ z ∧ z ≤ 2147483647) ∧ (M1 112 0 = gd) ∧ (cAct 2 3 8 s z Ms M1))) := by
  have hd : (2 : Int) = 2 ∨ (2 : Int) = 3 := by decide
  have hac := hS.2.2.2.2
  intro nn
  induction nn with
  | zero => intros; omega
  | succ nn ih =>
    intro x3 x4 M hS k2 k3 k4 hggd v0 v1 v2 v3 v4 v5 hnn
    refine n_iload c_97_73 rfl ?_
    refine n_iload_n c_97_75 rfl ?_
    refine n_if2_ge c_97_76 (by omega) (by omega) ?_ ?_
    · intro h1
      refine n_aload_n c_97_130 rfl ?_
      refine n_getR c_97_131 sc_3.n rfl rfl rfl r_3_2 ?_
      refine n_aload_n c_97_134 rfl ?_
      refine n_getV (bi := 14) c_97_135 sc_3.n rfl rfl rfl (t_3_14x hS) ?_
      intro z2 ez2 f3
      have f3a := t_ac hS
      refine n_aaload c_97_138 sc_12.n rfl rfl rfl (by omega) (r_acts _) ?_
      have q4 : ActAt (55 + 3 * z2) := by unfold ActAt; omega
      have q4l : (55 + 3 * z2) = 55 + 3 * ac := by omega
      refine n_iload_n c_97_139 rfl ?_
      refine n_aload_n c_97_140 rfl ?_
      refine n_getR c_97_141 sc_3.n rfl rfl rfl r_3_13 ?_
      refine n_aload_n c_97_144 rfl ?_
      refine n_getR c_97_145 sc_3.n rfl rfl rfl r_3_0 ?_
      refine n_v3V c_97_148 rfl q4.c0.1.n rfl rfl rfl rfl (takeX3_2 (p := (55 + 3 * z2)) (gd := (M 112 0)) (Ms := M) hS q4 q4l rfl (by rfl)) ?_
      intro  M5 hP6
      obtain ⟨hS5, f6g0, f6p0, f6p1⟩ := hP6
      refine n_aload_n c_97_151 rfl ?_
      refine n_v0V c_97_152 rfl sc_3.n rfl rfl rfl rfl (forgetMade_2  hS5 ) ?_
      intro  M7 hP8
      have hS7 := hP8
      have hS7c := hS7.2.2.2.1.1
      have hS7 := hS7.refl
      have hS7k0 := hS7c 112 0 (by unfold core; omega)
      refine n_aload_n c_97_155 rfl ?_
      refine n_dup2 c_97_156 ?_
      refine n_getV (bi := 14) c_97_157 sc_3.n rfl rfl rfl (t_3_14x hS7) ?_
      intro z9 ez9 f10
      have f10a := t_ac hS7
      refine n_dup_x102 c_97_160 ?_
      refine n_iconst c_97_161 ?_
      refine n_iadd c_97_162 rfl ?_
      refine n_jka (p := (55 + 3 * z2)) (v := 8) q4 ?_
      intro My fy jy
      have hSy := Sf.jka hS7 q4 (by omega) fy jy (by omega)
      have hNz : NAct 2 3 8 (55 + 3 * z2) (fun i => Ms 9 (40 * s + i)) My := NAct.of (by decide) (by omega) f6p0 (fun a i w1 w2 w3 => by rw [fy a i w3, hS7c a i (by unfold core; omega)]) (fun i h0 h1 => ((v0 i h0 (by omega)).1).symm)
      have hFz : ∀ a i : Int, core a i → ¬ (55 + 3 * Ms 3 14 ≤ a ∧ a ≤ 55 + 3 * Ms 3 14 + 2) → My a i = Ms a i := fun a i hc w => by rw [fy a i (by omega), hS7c a i hc, f6p1 a i hc (by omega), v1 a i hc]
      have hNA : NA 2 3 8 (55 + 3 * z2) My := NA_of (by decide) (by omega) hNz jy (fun i h0 h1 => (v0 i h0 (by omega)).2)
      have hey : My 112 0 = M7 112 0 := fy 112 0 (by omega)
      have hUp := Sf.actUp hSy (by omega) (by omega) (by omega) (by omega) (by omega) hNA
      have hUe : ((z9 + 1) : Int) = ac + 1 := by omega
      refine n_putG (P := fun M2 => Sf 2 (ac + 1) M2 M2) (bi := 14) c_97_163 sc_3.n rfl rfl rfl rfl (by rw [hUe]; exact hUp) ?_
      intro M11 eM11 hS11
      have hgz : M11 112 0 = My 112 0 := by rw [eM11]; exact nu_a (by omega)
      have hbz : (55 + 3 * z2) = 55 + 3 * Ms 3 14 := by omega
      rw [hbz] at hNz
      exact n_rI c_97_166 rfl ⟨⟨_, hS11⟩, by omega, by omega, by exact Or.inr (Or.inr (Or.inr (Or.inr ⟨by omega, by omega, by omega, by omega, v2, by omega, fun i h0 h1 => (v0 i h0 (by omega)).2, by omega, by rw [eM11, nu_s]; omega, NAct.of (by decide) (by omega) hNz (fun a i w1 w2 _ => by rw [eM11, nu_a (by omega)]) (fun _ _ _ => rfl), fun a i hc w1 w2 => by rw [eM11, nu_e, if_neg w1]; exact hFz a i hc w2⟩)))⟩
    · intro h12
      refine n_iload c_97_79 rfl ?_
      refine n_bipush c_97_81 rfl ?_
      refine n_if2_ge c_97_83 (by omega) (by omega) ?_ ?_
      · intro h13
        exfalso; omega
      · intro h14
        refine n_aload_n c_97_86 rfl ?_
        refine n_getR c_97_87 sc_3.n rfl rfl rfl r_3_1 ?_
        refine n_iload_n c_97_90 rfl ?_
        refine n_iload c_97_91 rfl ?_
        refine n_aload_n c_97_93 rfl ?_
        refine n_getR c_97_94 sc_3.n rfl rfl rfl r_3_0 ?_
        refine n_getV (bi := 0) c_97_97 sc_4.n rfl rfl rfl (t_4_0 hS) ?_
        intro z15 ez15 f16
        obtain rfl : z15 = 2 := by omega
        refine n_iconst c_97_100 ?_
        refine n_isub c_97_101 rfl ?_
        have hcst : ((2 - 1) : Int) = 1 := by omega
        rw [hcst]
        refine n_v3I c_97_102 rfl sc_8.n rfl rfl rfl rfl (readX1_2 (s := s) (i := x4) hS (by omega) (by omega)) ?_
        intro z17 M18 hP19
        obtain ⟨eM, f19, f19p0⟩ := hP19
        subst eM
        have q11 := v1 11 s (by unfold core; omega)
        have q9 := v1 9 (40 * s + x4) (by unfold core; omega)
        refine n_istore (L2 := [some (2, 3), some (0, 3), some (0, s), some (0, x3), some (0, x4), some (0, z17)]) c_97_105 rfl rfl ?_
        refine n_iload c_97_107 rfl ?_
        refine n_if0_ge c_97_109 (by omega) ?_ ?_
        · intro h20
          refine n_aload_n c_97_115 rfl ?_
          refine n_getR c_97_116 sc_3.n rfl rfl rfl r_3_13 ?_
          refine n_iload c_97_119 rfl ?_
          refine n_iload c_97_121 rfl ?_
          refine n_iastoreM hS c_97_123 sc_54.n rfl (by omega) (m_54 (by omega) (by omega)) ?_
          intro M21 eM21 hS21
          have g21_0 : M21 112 0 = M 112 0 := by rw [eM21]; exact nu_a (by omega)
          have g21_1 : M21 3 14 = M 3 14 := by rw [eM21]; exact nu_a (by omega)
          refine n_iinc (L2 := [some (2, 3), some (0, 3), some (0, s), some (0, x3), some (0, (x4 + 1)), some (0, z17)]) c_97_124 rfl rfl rfl ?_
          refine n_goto c_97_127 ?_
          refine n_fg (le_s (le_s (le_s (le_s (le_s (le_n le_0)))))) ?_
          exact ih _ _ M21 hS21 (by omega) (by omega) (by omega) (by omega) (by exact TP.step v0 eM21 (by show _ = Ms 9 (40 * s + x4); omega) ⟨by omega, by show 0 ≤ Ms 9 (40 * s + x4); omega, by show Ms 9 (40 * s + x4) ≤ 2 - 1; omega⟩) (by exact Eqc.u54 v1 eM21) (by exact v2) (by exact v3) (by exact v4) (by rw [eM21, nu_a (by omega)]; exact v5) (by omega)
        · intro h22
          refine n_iload c_97_112 rfl ?_
          exact n_rI c_97_114 rfl ⟨⟨_, hS⟩, by omega, by omega, by exact Or.inr (Or.inr (Or.inr (Or.inl ⟨by omega, by omega, by omega, by omega, v2, by omega, ⟨x4, by omega, by omega, fun i h0 h1 => (v0 i h0 h1).2, by show (Ms 11 s ≤ x4 ∧ _ = -6) ∨ (x4 < Ms 11 s ∧ (Ms 9 (40 * s + x4) < 0 ∨ 2 - 1 < Ms 9 (40 * s + x4)) ∧ _ = -4); omega⟩, v1⟩)))⟩
set_option maxHeartbeats 4000000 in
theorem actX3_2 {xs : List Int32} {e : Nat} {ac : Int} {M : nM} {s gd : Int} {Ms : nM} (hS : Sf 2 ac M M) (hs : -2147483648 ≤ s ∧ s ≤ 2147483647) (hgd : M 112 0 = gd) (hms : M = Ms) : nW xs (e + 2) 97 0 [some (2, 3), some (0, 3), some (0, s), none, none, none] [] M (nPI fun z M1 => (∃ ac2, Sf 2 ac2 M1 M1) ∧ (-2147483648 ≤ z ∧ z ≤ 2147483647) ∧ (M1 112 0 = gd) ∧ (cAct 2 3 8 s z Ms M1)) := by
  have hd : (2 : Int) = 2 ∨ (2 : Int) = 3 := by decide
  have hac := hS.2.2.2.2
  refine n_aload_n c_97_0 rfl ?_
  refine n_getR c_97_1 sc_3.n rfl rfl rfl r_3_1 ?_
  refine n_iload_n c_97_4 rfl ?_
  refine n_v1I c_97_5 rfl sc_8.n rfl rfl rfl rfl (isSlotF_2 (s := s) hS (by omega)) ?_
  intro z1 M2 hP3
  obtain ⟨eM, f3, f3p0⟩ := hP3
  subst eM
  refine n_if0_eq c_97_8 (by omega) ?_ ?_
  · intro h4
    refine n_bipush c_97_19 rfl ?_
    exact n_rI c_97_21 rfl ⟨⟨_, hS⟩, by omega, by omega, by subst hms; exact Or.inl ⟨by omega, rfl, fun _ _ _ => rfl⟩⟩
  · intro h5
    refine n_aload_n c_97_11 rfl ?_
    refine n_iload_n c_97_12 rfl ?_
    refine n_v1I c_97_13 rfl sc_3.n rfl rfl rfl rfl (isPlaceCountF_2 (k := 3) hS (by omega)) ?_
    intro z6 M7 hP8
    obtain ⟨eM, f8, f8p0⟩ := hP8
    subst eM
    refine n_if0_ne c_97_16 (by omega) ?_ ?_
    · intro h9
      refine n_aload_n c_97_22 rfl ?_
      refine n_getV (bi := 14) c_97_23 sc_3.n rfl rfl rfl (t_3_14x hS) ?_
      intro z10 ez10 f11
      have f11a := t_ac hS
      refine n_bipush c_97_26 rfl ?_
      refine n_if2_ge c_97_28 (by omega) (by omega) ?_ ?_
      · intro h12
        refine n_bipush c_97_44 rfl ?_
        exact n_rI c_97_46 rfl ⟨⟨_, hS⟩, by omega, by omega, by subst hms; exact Or.inr (Or.inl ⟨by omega, by omega, by omega, by omega, by first | exact Or.inl (by omega) | exact Or.inr ⟨rfl, by omega⟩, rfl, fun _ _ _ => rfl⟩)⟩
      · intro h13
        refine n_iload_n c_97_31 rfl ?_
        refine n_iconst c_97_32 ?_
        refine n_if2_ne c_97_33 (by omega) (by omega) ?_ ?_
        · intro h14
          exfalso; omega
        · intro h15
          refine n_aload_n c_97_36 rfl ?_
          refine n_v0I c_97_37 rfl sc_3.n rfl rfl rfl rfl (actsOfThreeX_2  hS ) ?_
          intro z16 M17 hP18
          obtain ⟨eM, f18, f18p0⟩ := hP18
          subst eM
          refine n_iconst c_97_40 ?_
          refine n_if2_lt c_97_41 (by omega) (by omega) ?_ ?_
          · intro h19
            refine n_aload_n c_97_47 rfl ?_
            refine n_getR c_97_48 sc_3.n rfl rfl rfl r_3_1 ?_
            refine n_iload_n c_97_51 rfl ?_
            refine n_v1I c_97_52 rfl sc_8.n rfl rfl rfl rfl (hasRowF_2 (s := s) hS (by omega)) ?_
            intro z20 M21 hP22
            obtain ⟨eM, f22, f22p0⟩ := hP22
            subst eM
            refine n_if0_ne c_97_55 (by omega) ?_ ?_
            · intro h23
              refine n_aload_n c_97_61 rfl ?_
              refine n_getR c_97_62 sc_3.n rfl rfl rfl r_3_0 ?_
              refine n_iload_n c_97_65 rfl ?_
              refine n_v1I c_97_66 rfl sc_4.n rfl rfl rfl rfl (power3_2  hS ) ?_
              intro z24 M25 hP26
              obtain ⟨eM, f26⟩ := hP26
              subst eM
              obtain rfl : z24 = 8 := by omega
              refine n_istore_n (L2 := [some (2, 3), some (0, 3), some (0, s), some (0, 8), none, none]) c_97_69 rfl rfl ?_
              refine n_iconst c_97_70 ?_
              refine n_istore (L2 := [some (2, 3), some (0, 3), some (0, s), some (0, 8), some (0, 0), none]) c_97_71 rfl rfl ?_
              refine n_fg (le_s (le_s (le_s (le_s (le_s (le_n le_0)))))) ?_
              exact (actX3_2_c hS hs hgd hms 30) _ _ M hS (by omega) (by omega) (by omega) (by omega) (by exact fun j h0 h1 => by omega) (by subst hms; exact fun _ _ _ => rfl) (by subst hms; exact fun q => by rcases q with q | ⟨q1, q2⟩ <;> omega) (by subst hms; omega) (by subst hms; omega) (by subst hms; rfl) (by omega)
            · intro h27
              refine n_bipush c_97_58 rfl ?_
              exact n_rI c_97_60 rfl ⟨⟨_, hS⟩, by omega, by omega, by subst hms; exact Or.inr (Or.inr (Or.inl ⟨by omega, by omega, by omega, by omega, fun q => by rcases q with q | ⟨q1, q2⟩ <;> omega, by omega, rfl, fun _ _ _ => rfl⟩))⟩
          · intro h28
            refine n_bipush c_97_44 rfl ?_
            exact n_rI c_97_46 rfl ⟨⟨_, hS⟩, by omega, by omega, by subst hms; exact Or.inr (Or.inl ⟨by omega, by omega, by omega, by omega, by first | exact Or.inl (by omega) | exact Or.inr ⟨rfl, by omega⟩, rfl, fun _ _ _ => rfl⟩)⟩
    · intro h29
      refine n_bipush c_97_19 rfl ?_
      exact n_rI c_97_21 rfl ⟨⟨_, hS⟩, by omega, by omega, by subst hms; exact Or.inl ⟨by omega, rfl, fun _ _ _ => rfl⟩⟩

set_option maxHeartbeats 4000000 in
theorem misThingF_2 {xs : List Int32} {e : Nat} {ac : Int} {M0 M : nM} {v : Int} (hS : Sf 2 ac M0 M) (hdm : M0 112 0 = 2) (hv : -9223372036854775808 ≤ v ∧ v ≤ 9223372036854775807) : nW xs e 147 0 [some (2, 112), some (1, v), none] [] M (nPI fun z M1 => M = M1 ∧ (0 ≤ z ∧ z ≤ 1) ∧ ((z = 1 ∧ 0 ≤ v ∧ v ≤ 1) ∨ (z = 0 ∧ (v < 0 ∨ 1 < v)))) := by
  have hd : (2 : Int) = 2 ∨ (2 : Int) = 3 := by decide
  have hac := hS.2.2.2.2
  refine n_lload_n c_147_0 rfl ?_
  refine n_lconst (n := 0) c_147_1 rfl ?_
  refine n_lcmp c_147_2 ?_
  refine n_lif_lt c_147_3 (by omega) (by omega) ?_ ?_
  · intro h1
    refine n_iconst c_147_20 ?_
    exact n_rZ c_147_21 rfl (by omega) ⟨rfl, by omega, by omega⟩
  · intro h2
    refine n_lload_n c_147_6 rfl ?_
    refine n_aload_n c_147_7 rfl ?_
    refine n_getV (bi := 0) c_147_8 sc_112.n rfl rfl rfl (t_dm hS hdm) ?_
    intro z3 ez3 f4
    obtain rfl : z3 = 2 := by omega
    refine n_i2l c_147_11 (by omega) ?_
    refine n_lcmp c_147_12 ?_
    refine n_lif_ge c_147_13 (by omega) (by omega) ?_ ?_
    · intro h5
      refine n_iconst c_147_20 ?_
      exact n_rZ c_147_21 rfl (by omega) ⟨rfl, by omega, by omega⟩
    · intro h6
      refine n_iconst c_147_16 ?_
      refine n_goto c_147_17 ?_
      exact n_rZ c_147_21 rfl (by omega) ⟨rfl, by omega, by omega⟩

set_option maxHeartbeats 4000000 in
theorem mactX1_2_c {xs : List Int32} {e : Nat} {ac : Int} {M : nM} {s gd : Int} {Ms : nM} (hS : Sf 2 ac M M) (hdm : M 112 0 = 2) (hs : -2147483648 ≤ s ∧ s ≤ 2147483647) (hgd : M 112 0 = gd) (hms : M = Ms) : ∀ nn : Nat, (∀ (x3 x4 : Int) (M : nM), Sf 2 ac M M → (0 ≤ s ∧ s ≤ 7) → (0 ≤ x3 ∧ x3 ≤ 8) → (0 ≤ x4 ∧ x4 ≤ 8) → (M 112 0 = 2) → (M 112 0 = gd) → (x3 = c3 (fun a => M 116 a) x4.toNat) → (M = Ms) → (x4 ≤ M 112 4) → (0 ≤ s ∧ s ≤ 7) → (x3 ≤ x4) → (8 - x4) * 1 + 5 < (nn : Int) → nW xs (e + 1) 148 25 [some (2, 112), some (0, 1), some (0, s), some (0, x3), some (0, x4), none] [] M (nPI fun z M1 => Sf 2 ac M1 M1 ∧ (-2147483648 ≤ z ∧ z ≤ 2147483647) ∧ (M1 112 0 = gd) ∧ (mAct 2 1 2 s z Ms M1))) ∧ (∀ (x4 x5 : Int) (M : nM), Sf 2 ac M M → (0 ≤ s ∧ s ≤ 7) → (2 ≤ x4 ∧ x4 ≤ 2) → (0 ≤ x5 ∧ x5 ≤ 2) → (M 112 0 = 2) → (M 112 0 = gd) → (TQ 2 (Ms 113 s - 1) (fun i => Ms 115 (40 * s + i)) (Ms 112 4) x5 M) → (FA (Ms 112 4) Ms M) → (¬ (Ms 112 4 = 8 ∨ ((1 : Int) = 3 ∧ c3 (fun a => Ms 116 a) (Ms 112 4).toNat = 2))) → (Ms 113 s ≠ 0) → (Ms 112 4 ≤ 7) → (M 112 4 = Ms 112 4) → (2 - x5) * 1 + 1 < (nn : Int) → nW xs (e + 1) 148 106 [some (2, 112), some (0, 1), some (0, s), none, some (0, x4), some (0, x5)] [] M (nPI fun z M1 => Sf 2 ac M1 M1 ∧ (-2147483648 ≤ z ∧ z ≤ 2147483647) ∧ (M1 112 0 = gd) ∧ (mAct 2 1 2 s z Ms M1))) := by
  have hd : (2 : Int) = 2 ∨ (2 : Int) = 3 := by decide
  have hac := hS.2.2.2.2
  intro nn
  induction nn with
  | zero => refine ⟨?_, ?_⟩ <;> (intros; omega)
  | succ nn ih =>
    refine ⟨?_, ?_⟩
    · intro x3 x4 M hS k2 k3 k4 hdm hggd v0 v1 v2 v3 v4 hnn
      refine n_iload c_148_25 rfl ?_
      refine n_aload_n c_148_27 rfl ?_
      refine n_getV (bi := 4) c_148_28 sc_112.n rfl rfl rfl (t_112_4 hS) ?_
      intro z1 ez1 f2
      refine n_if2_ge c_148_31 (by omega) (by omega) ?_ ?_
      · intro h3
        refine n_aload_n c_148_59 rfl ?_
        refine n_getV (bi := 4) c_148_60 sc_112.n rfl rfl rfl (t_112_4 hS) ?_
        intro z4 ez4 f5
        have q4 : x4 = M 112 4 := by omega
        rw [q4] at v0
        refine n_bipush c_148_63 rfl ?_
        refine n_if2_eq c_148_65 (by omega) (by omega) ?_ ?_
        · intro h6
          refine n_bipush c_148_78 rfl ?_
          exact n_rI c_148_80 rfl ⟨hS, by omega, by omega, by subst v1; exact Or.inr (Or.inl ⟨by omega, by omega, by omega, by omega, by first | exact Or.inl (by omega) | exact Or.inr ⟨rfl, by omega⟩, rfl, fun _ _ _ => rfl⟩)⟩
        · intro h7
          refine n_iload_n c_148_68 rfl ?_
          refine n_iconst c_148_69 ?_
          refine n_if2_ne c_148_70 (by omega) (by omega) ?_ ?_
          · intro h8
            refine n_aload_n c_148_81 rfl ?_
            refine n_getR c_148_82 sc_112.n rfl rfl rfl r_112_1 ?_
            refine n_iload_n c_148_85 rfl ?_
            refine n_ialoadV c_148_86 sc_113.n rfl rfl rfl (by omega) (t_113 hS (by omega)) ?_
            intro z9 ez9 f10
            refine n_if0_ne c_148_87 (by omega) ?_ ?_
            · intro h11
              refine n_aload_n c_148_93 rfl ?_
              refine n_getV (bi := 0) c_148_94 sc_112.n rfl rfl rfl (show 2 ≤ M 112 0 ∧ M 112 0 ≤ 2 by omega) ?_
              intro z12 ez12 f13
              obtain rfl : z12 = 2 := by omega
              refine n_iload_n c_148_97 rfl ?_
              refine n_s2I c_148_98 rfl rfl rfl rfl (mpower1_2  hS ) ?_
              intro z14 M15 hP16
              obtain ⟨eM, f16⟩ := hP16
              subst eM
              obtain rfl : z14 = 2 := by omega
              refine n_istore (L2 := [some (2, 112), some (0, 1), some (0, s), some (0, x3), some (0, 2), none]) c_148_101 rfl rfl ?_
              refine n_iconst c_148_103 ?_
              refine n_istore (L2 := [some (2, 112), some (0, 1), some (0, s), some (0, x3), some (0, 2), some (0, 0)]) c_148_104 rfl rfl ?_
              refine n_fg (le_s (le_s (le_s (le_n (le_s (le_s le_0)))))) ?_
              exact ih.2 _ _ M hS (by omega) (by omega) (by omega) (by omega) (by omega) (by exact fun j h0 h1 => by omega) (by subst v1; exact fun _ _ _ _ => rfl) (by subst v1; exact fun q => by rcases q with q | ⟨q1, q2⟩ <;> omega) (by subst v1; omega) (by subst v1; omega) (by subst v1; rfl) (by omega)
            · intro h17
              refine n_bipush c_148_90 rfl ?_
              exact n_rI c_148_92 rfl ⟨hS, by omega, by omega, by subst v1; exact Or.inr (Or.inr (Or.inl ⟨by omega, by omega, by omega, by omega, fun q => by rcases q with q | ⟨q1, q2⟩ <;> omega, by omega, rfl, fun _ _ _ => rfl⟩))⟩
          · intro h18
            exfalso; omega
      · intro h19
        refine n_iload_n c_148_34 rfl ?_
        refine n_aload_n c_148_35 rfl ?_
        refine n_getR c_148_36 sc_112.n rfl rfl rfl r_112_5 ?_
        refine n_iload c_148_39 rfl ?_
        refine n_ialoadV c_148_41 sc_116.n rfl rfl rfl (by omega) (t_116 hS (by omega)) ?_
        intro z20 ez20 f21
        refine n_iconst c_148_42 ?_
        refine n_if2_ne c_148_43 (by omega) (by omega) ?_ ?_
        · intro h22
          refine n_iconst c_148_50 ?_
          refine n_iadd c_148_51 rfl ?_
          refine n_istore_n (L2 := [some (2, 112), some (0, 1), some (0, s), some (0, (x3 + 0)), some (0, x4), none]) c_148_52 rfl rfl ?_
          refine n_iinc (L2 := [some (2, 112), some (0, 1), some (0, s), some (0, (x3 + 0)), some (0, (x4 + 1)), none]) c_148_53 rfl rfl rfl ?_
          refine n_goto c_148_56 ?_
          refine n_fg (le_s (le_s (le_s (le_s (le_s (le_n le_0)))))) ?_
          exact ih.1 _ _ M hS (by omega) (by omega) (by omega) (by omega) (by omega) (by rw [c3_step (by omega)]; show _ = _ + (if M 116 x4 = 3 then 1 else 0); split <;> omega) (by exact v1) (by have := t_112_4 hS; omega) (by omega) (by omega) (by omega)
        · intro h23
          refine n_iconst c_148_46 ?_
          refine n_goto c_148_47 ?_
          refine n_iadd c_148_51 rfl ?_
          refine n_istore_n (L2 := [some (2, 112), some (0, 1), some (0, s), some (0, (x3 + 1)), some (0, x4), none]) c_148_52 rfl rfl ?_
          refine n_iinc (L2 := [some (2, 112), some (0, 1), some (0, s), some (0, (x3 + 1)), some (0, (x4 + 1)), none]) c_148_53 rfl rfl rfl ?_
          refine n_goto c_148_56 ?_
          refine n_fg (le_s (le_s (le_s (le_s (le_s (le_n le_0)))))) ?_
          exact ih.1 _ _ M hS (by omega) (by omega) (by omega) (by omega) (by omega) (by rw [c3_step (by omega)]; show _ = _ + (if M 116 x4 = 3 then 1 else 0); split <;> omega) (by exact v1) (by have := t_112_4 hS; omega) (by omega) (by omega) (by omega)
    · intro x4 x5 M hS k2 k4 k5 hdm hggd v0 v1 v2 v3 v4 v5 hnn
      refine n_iload c_148_106 rfl ?_
      refine n_iload c_148_108 rfl ?_
      refine n_if2_ge c_148_110 (by omega) (by omega) ?_ ?_
      · intro h1
        refine n_aload_n c_148_185 rfl ?_
        refine n_getR c_148_186 sc_112.n rfl rfl rfl r_112_5 ?_
        refine n_aload_n c_148_189 rfl ?_
        refine n_getV (bi := 4) c_148_190 sc_112.n rfl rfl rfl (t_112_4 hS) ?_
        intro z2 ez2 f3
        refine n_iload_n c_148_193 rfl ?_
        refine n_iastoreM hS c_148_194 sc_116.n rfl (by omega) (m_116 (by omega) (by omega)) ?_
        intro M4 eM4 hS4
        have g4_0 : M4 112 0 = M 112 0 := by rw [eM4]; exact nu_a (by omega)
        have g4_1 : M4 112 4 = M 112 4 := by rw [eM4]; exact nu_a (by omega)
        refine n_aload_n c_148_195 rfl ?_
        refine n_dup2 c_148_196 ?_
        refine n_getV (bi := 4) c_148_197 sc_112.n rfl rfl rfl (t_112_4 hS4) ?_
        intro z5 ez5 f6
        refine n_iconst c_148_200 ?_
        refine n_iadd c_148_201 rfl ?_
        refine n_putM (bi := 4) hS4 c_148_202 sc_112.n rfl rfl rfl rfl (m_112_4 (by omega)) ?_
        intro M7 eM7 hS7
        have g7_0 : M7 112 0 = M4 112 0 := by rw [eM7]; exact nu_i (by omega)
        have g7_1 : M7 112 4 = (z5 + 1) := by rw [eM7]; exact nu_s _ _ _ _
        refine n_aload_n c_148_205 rfl ?_
        refine n_v0V c_148_206 rfl sc_112.n rfl rfl rfl rfl (changed_2  hS7 (by omega)) ?_
        intro  M8 hP9
        have hS8 := hP9
        have hS8c := hS8.2.2.2.1.1
        have hS8 := hS8.refl
        have hS8k0 := hS8c 112 0 (by unfold core; omega)
        have hS8k1 := hS8c 112 4 (by unfold core; omega)
        refine n_aload_n c_148_209 rfl ?_
        refine n_getV (bi := 4) c_148_210 sc_112.n rfl rfl rfl (t_112_4 hS8) ?_
        intro z10 ez10 f11
        refine n_iconst c_148_213 ?_
        refine n_isub c_148_214 rfl ?_
        exact n_rI c_148_215 rfl ⟨hS8, by omega, by omega, by exact Or.inr (Or.inr (Or.inr (Or.inr ⟨by omega, by omega, by omega, by omega, v2, by omega, fun i h0 h1 => (v0 i h0 (by omega)).2, by omega, by omega, by rw [hS8c 116 _ (by unfold core; omega), eM7, nu_a (by omega), eM4, nu_e, if_pos (by omega)], fun i h0 h1 => by rw [hS8c 117 _ (by unfold core; omega), eM7, nu_a (by omega), eM4, nu_a (by omega)]; exact (v0 i h0 (by omega)).1, fun a i hc w1 w2 w3 => by rw [hS8c a i hc, eM7, nu_e, if_neg w1, eM4, nu_e, if_neg (by omega)]; exact v1 a i hc w3⟩)))⟩
      · intro h12
        refine n_iload c_148_113 rfl ?_
        refine n_aload_n c_148_115 rfl ?_
        refine n_getR c_148_116 sc_112.n rfl rfl rfl r_112_1 ?_
        refine n_iload_n c_148_119 rfl ?_
        refine n_ialoadV c_148_120 sc_113.n rfl rfl rfl (by omega) (t_113 hS (by omega)) ?_
        intro z13 ez13 f14
        have q13 := v1 113 s (by unfold core; omega) (by omega)
        have q15 := v1 115 (40 * s + x5) (by unfold core; omega) (by omega)
        refine n_iconst c_148_121 ?_
        refine n_isub c_148_122 rfl ?_
        refine n_if2_lt c_148_123 (by omega) (by omega) ?_ ?_
        · intro h15
          refine n_aload_n c_148_129 rfl ?_
          refine n_aload_n c_148_130 rfl ?_
          refine n_getR c_148_131 sc_112.n rfl rfl rfl r_112_3 ?_
          refine n_bipush c_148_134 rfl ?_
          refine n_iload_n c_148_136 rfl ?_
          refine n_imul c_148_137 rfl ?_
          refine n_iload c_148_138 rfl ?_
          refine n_iadd c_148_140 rfl ?_
          refine n_laloadV c_148_141 sc_115.n rfl rfl rfl (by omega) (t_115 hS (by omega)) ?_
          intro z16 ez16 f17
          refine n_v1I c_148_142 rfl sc_112.n rfl rfl rfl rfl (misThingF_2 (v := z16) hS (by omega) (by omega)) ?_
          intro z18 M19 hP20
          obtain ⟨eM, f20, f20p0⟩ := hP20
          subst eM
          refine n_if0_ne c_148_145 (by omega) ?_ ?_
          · intro h21
            refine n_aload_n c_148_151 rfl ?_
            refine n_getR c_148_152 sc_112.n rfl rfl rfl r_112_6 ?_
            refine n_bipush c_148_155 rfl ?_
            refine n_aload_n c_148_157 rfl ?_
            refine n_getV (bi := 4) c_148_158 sc_112.n rfl rfl rfl (t_112_4 hS) ?_
            intro z22 ez22 f23
            refine n_imul c_148_161 rfl ?_
            refine n_iload c_148_162 rfl ?_
            refine n_iadd c_148_164 rfl ?_
            refine n_aload_n c_148_165 rfl ?_
            refine n_getR c_148_166 sc_112.n rfl rfl rfl r_112_3 ?_
            refine n_bipush c_148_169 rfl ?_
            refine n_iload_n c_148_171 rfl ?_
            refine n_imul c_148_172 rfl ?_
            refine n_iload c_148_173 rfl ?_
            refine n_iadd c_148_175 rfl ?_
            refine n_laloadV c_148_176 sc_115.n rfl rfl rfl (by omega) (t_115 hS (by omega)) ?_
            intro z24 ez24 f25
            refine n_l2i c_148_177 ?_
            refine n_iastoreM hS c_148_178 sc_117.n rfl (by omega) (m_117 (by omega) (by omega)) ?_
            intro M26 eM26 hS26
            have g26_0 : M26 112 0 = M 112 0 := by rw [eM26]; exact nu_a (by omega)
            have g26_1 : M26 112 4 = M 112 4 := by rw [eM26]; exact nu_a (by omega)
            have g26_2 : M26 115 ((40 * s) + x5) = M 115 ((40 * s) + x5) := by rw [eM26]; exact nu_a (by omega)
            refine n_iinc (L2 := [some (2, 112), some (0, 1), some (0, s), none, some (0, x4), some (0, (x5 + 1))]) c_148_179 rfl rfl rfl ?_
            refine n_goto c_148_182 ?_
            refine n_fg (le_s (le_s (le_s (le_n (le_s (le_s le_0)))))) ?_
            exact ih.2 _ _ M26 hS26 (by omega) (by omega) (by omega) (by omega) (by omega) (by exact TQ.step v0 eM26 (by omega) (by show _ = Ms 115 (40 * s + x5); omega) ⟨by omega, by show 0 ≤ Ms 115 (40 * s + x5); omega, by show Ms 115 (40 * s + x5) ≤ 2 - 1; omega⟩) (by exact FA.u v1 eM26 (by omega)) (by exact v2) (by exact v3) (by exact v4) (by rw [eM26, nu_a (by omega)]; exact v5) (by omega)
          · intro h27
            refine n_bipush c_148_148 rfl ?_
            exact n_rI c_148_150 rfl ⟨hS, by omega, by omega, by exact Or.inr (Or.inr (Or.inr (Or.inl ⟨by omega, by omega, by omega, by omega, v2, by omega, ⟨x5, by omega, by omega, fun i h0 h1 => (v0 i h0 h1).2, by show (Ms 113 s - 1 ≤ x5 ∧ _ = -6) ∨ (x5 < Ms 113 s - 1 ∧ (Ms 115 (40 * s + x5) < 0 ∨ 2 - 1 < Ms 115 (40 * s + x5)) ∧ _ = -4); omega⟩, v1⟩)))⟩
        · intro h28
          refine n_bipush c_148_126 rfl ?_
          exact n_rI c_148_128 rfl ⟨hS, by omega, by omega, by exact Or.inr (Or.inr (Or.inr (Or.inl ⟨by omega, by omega, by omega, by omega, v2, by omega, ⟨x5, by omega, by omega, fun i h0 h1 => (v0 i h0 h1).2, by show (Ms 113 s - 1 ≤ x5 ∧ _ = -6) ∨ (x5 < Ms 113 s - 1 ∧ (Ms 115 (40 * s + x5) < 0 ∨ 2 - 1 < Ms 115 (40 * s + x5)) ∧ _ = -4); omega⟩, v1⟩)))⟩
set_option maxHeartbeats 4000000 in
theorem mactX1_2 {xs : List Int32} {e : Nat} {ac : Int} {M : nM} {s gd : Int} {Ms : nM} (hS : Sf 2 ac M M) (hdm : M 112 0 = 2) (hs : -2147483648 ≤ s ∧ s ≤ 2147483647) (hgd : M 112 0 = gd) (hms : M = Ms) : nW xs (e + 1) 148 0 [some (2, 112), some (0, 1), some (0, s), none, none, none] [] M (nPI fun z M1 => Sf 2 ac M1 M1 ∧ (-2147483648 ≤ z ∧ z ≤ 2147483647) ∧ (M1 112 0 = gd) ∧ (mAct 2 1 2 s z Ms M1)) := by
  have hd : (2 : Int) = 2 ∨ (2 : Int) = 3 := by decide
  have hac := hS.2.2.2.2
  refine n_iload_n c_148_0 rfl ?_
  refine n_s1I c_148_1 rfl rfl rfl rfl (misSlotF_2 (s := s) hS (by omega)) ?_
  intro z1 M2 hP3
  obtain ⟨eM, f3, f3p0⟩ := hP3
  subst eM
  refine n_if0_eq c_148_4 (by omega) ?_ ?_
  · intro h4
    refine n_bipush c_148_17 rfl ?_
    exact n_rI c_148_19 rfl ⟨hS, by omega, by omega, by subst hms; exact Or.inl ⟨by omega, rfl, fun _ _ _ => rfl⟩⟩
  · intro h5
    refine n_iload_n c_148_7 rfl ?_
    refine n_iconst c_148_8 ?_
    refine n_if2_lt c_148_9 (by omega) (by omega) ?_ ?_
    · intro h6
      exfalso; omega
    · intro h7
      refine n_iload_n c_148_12 rfl ?_
      refine n_iconst c_148_13 ?_
      refine n_if2_le c_148_14 (by omega) (by omega) ?_ ?_
      · intro h8
        refine n_iconst c_148_20 ?_
        refine n_istore_n (L2 := [some (2, 112), some (0, 1), some (0, s), some (0, 0), none, none]) c_148_21 rfl rfl ?_
        refine n_iconst c_148_22 ?_
        refine n_istore (L2 := [some (2, 112), some (0, 1), some (0, s), some (0, 0), some (0, 0), none]) c_148_23 rfl rfl ?_
        refine n_fg (le_s (le_s (le_s (le_s (le_s (le_n le_0)))))) ?_
        exact (mactX1_2_c hS hdm hs hgd hms 38).1 _ _ M hS (by omega) (by omega) (by omega) (by omega) (by omega) (by rfl) (by exact hms) (by have := t_112_4 hS; omega) (by omega) (by omega) (by omega)
      · intro h9
        exfalso; omega

set_option maxHeartbeats 4000000 in
theorem mactX2_2_c {xs : List Int32} {e : Nat} {ac : Int} {M : nM} {s gd : Int} {Ms : nM} (hS : Sf 2 ac M M) (hdm : M 112 0 = 2) (hs : -2147483648 ≤ s ∧ s ≤ 2147483647) (hgd : M 112 0 = gd) (hms : M = Ms) : ∀ nn : Nat, (∀ (x3 x4 : Int) (M : nM), Sf 2 ac M M → (0 ≤ s ∧ s ≤ 7) → (0 ≤ x3 ∧ x3 ≤ 8) → (0 ≤ x4 ∧ x4 ≤ 8) → (M 112 0 = 2) → (M 112 0 = gd) → (x3 = c3 (fun a => M 116 a) x4.toNat) → (M = Ms) → (x4 ≤ M 112 4) → (0 ≤ s ∧ s ≤ 7) → (x3 ≤ x4) → (8 - x4) * 1 + 7 < (nn : Int) → nW xs (e + 1) 148 25 [some (2, 112), some (0, 2), some (0, s), some (0, x3), some (0, x4), none] [] M (nPI fun z M1 => Sf 2 ac M1 M1 ∧ (-2147483648 ≤ z ∧ z ≤ 2147483647) ∧ (M1 112 0 = gd) ∧ (mAct 2 2 4 s z Ms M1))) ∧ (∀ (x4 x5 : Int) (M : nM), Sf 2 ac M M → (0 ≤ s ∧ s ≤ 7) → (4 ≤ x4 ∧ x4 ≤ 4) → (0 ≤ x5 ∧ x5 ≤ 4) → (M 112 0 = 2) → (M 112 0 = gd) → (TQ 2 (Ms 113 s - 1) (fun i => Ms 115 (40 * s + i)) (Ms 112 4) x5 M) → (FA (Ms 112 4) Ms M) → (¬ (Ms 112 4 = 8 ∨ ((2 : Int) = 3 ∧ c3 (fun a => Ms 116 a) (Ms 112 4).toNat = 2))) → (Ms 113 s ≠ 0) → (Ms 112 4 ≤ 7) → (M 112 4 = Ms 112 4) → (4 - x5) * 1 + 1 < (nn : Int) → nW xs (e + 1) 148 106 [some (2, 112), some (0, 2), some (0, s), none, some (0, x4), some (0, x5)] [] M (nPI fun z M1 => Sf 2 ac M1 M1 ∧ (-2147483648 ≤ z ∧ z ≤ 2147483647) ∧ (M1 112 0 = gd) ∧ (mAct 2 2 4 s z Ms M1))) := by
  have hd : (2 : Int) = 2 ∨ (2 : Int) = 3 := by decide
  have hac := hS.2.2.2.2
  intro nn
  induction nn with
  | zero => refine ⟨?_, ?_⟩ <;> (intros; omega)
  | succ nn ih =>
    refine ⟨?_, ?_⟩
    · intro x3 x4 M hS k2 k3 k4 hdm hggd v0 v1 v2 v3 v4 hnn
      refine n_iload c_148_25 rfl ?_
      refine n_aload_n c_148_27 rfl ?_
      refine n_getV (bi := 4) c_148_28 sc_112.n rfl rfl rfl (t_112_4 hS) ?_
      intro z1 ez1 f2
      refine n_if2_ge c_148_31 (by omega) (by omega) ?_ ?_
      · intro h3
        refine n_aload_n c_148_59 rfl ?_
        refine n_getV (bi := 4) c_148_60 sc_112.n rfl rfl rfl (t_112_4 hS) ?_
        intro z4 ez4 f5
        have q4 : x4 = M 112 4 := by omega
        rw [q4] at v0
        refine n_bipush c_148_63 rfl ?_
        refine n_if2_eq c_148_65 (by omega) (by omega) ?_ ?_
        · intro h6
          refine n_bipush c_148_78 rfl ?_
          exact n_rI c_148_80 rfl ⟨hS, by omega, by omega, by subst v1; exact Or.inr (Or.inl ⟨by omega, by omega, by omega, by omega, by first | exact Or.inl (by omega) | exact Or.inr ⟨rfl, by omega⟩, rfl, fun _ _ _ => rfl⟩)⟩
        · intro h7
          refine n_iload_n c_148_68 rfl ?_
          refine n_iconst c_148_69 ?_
          refine n_if2_ne c_148_70 (by omega) (by omega) ?_ ?_
          · intro h8
            refine n_aload_n c_148_81 rfl ?_
            refine n_getR c_148_82 sc_112.n rfl rfl rfl r_112_1 ?_
            refine n_iload_n c_148_85 rfl ?_
            refine n_ialoadV c_148_86 sc_113.n rfl rfl rfl (by omega) (t_113 hS (by omega)) ?_
            intro z9 ez9 f10
            refine n_if0_ne c_148_87 (by omega) ?_ ?_
            · intro h11
              refine n_aload_n c_148_93 rfl ?_
              refine n_getV (bi := 0) c_148_94 sc_112.n rfl rfl rfl (show 2 ≤ M 112 0 ∧ M 112 0 ≤ 2 by omega) ?_
              intro z12 ez12 f13
              obtain rfl : z12 = 2 := by omega
              refine n_iload_n c_148_97 rfl ?_
              refine n_s2I c_148_98 rfl rfl rfl rfl (mpower2_2  hS ) ?_
              intro z14 M15 hP16
              obtain ⟨eM, f16⟩ := hP16
              subst eM
              obtain rfl : z14 = 4 := by omega
              refine n_istore (L2 := [some (2, 112), some (0, 2), some (0, s), some (0, x3), some (0, 4), none]) c_148_101 rfl rfl ?_
              refine n_iconst c_148_103 ?_
              refine n_istore (L2 := [some (2, 112), some (0, 2), some (0, s), some (0, x3), some (0, 4), some (0, 0)]) c_148_104 rfl rfl ?_
              refine n_fg (le_s (le_s (le_s (le_n (le_s (le_s le_0)))))) ?_
              exact ih.2 _ _ M hS (by omega) (by omega) (by omega) (by omega) (by omega) (by exact fun j h0 h1 => by omega) (by subst v1; exact fun _ _ _ _ => rfl) (by subst v1; exact fun q => by rcases q with q | ⟨q1, q2⟩ <;> omega) (by subst v1; omega) (by subst v1; omega) (by subst v1; rfl) (by omega)
            · intro h17
              refine n_bipush c_148_90 rfl ?_
              exact n_rI c_148_92 rfl ⟨hS, by omega, by omega, by subst v1; exact Or.inr (Or.inr (Or.inl ⟨by omega, by omega, by omega, by omega, fun q => by rcases q with q | ⟨q1, q2⟩ <;> omega, by omega, rfl, fun _ _ _ => rfl⟩))⟩
          · intro h18
            exfalso; omega
      · intro h19
        refine n_iload_n c_148_34 rfl ?_
        refine n_aload_n c_148_35 rfl ?_
        refine n_getR c_148_36 sc_112.n rfl rfl rfl r_112_5 ?_
        refine n_iload c_148_39 rfl ?_
        refine n_ialoadV c_148_41 sc_116.n rfl rfl rfl (by omega) (t_116 hS (by omega)) ?_
        intro z20 ez20 f21
        refine n_iconst c_148_42 ?_
        refine n_if2_ne c_148_43 (by omega) (by omega) ?_ ?_
        · intro h22
          refine n_iconst c_148_50 ?_
          refine n_iadd c_148_51 rfl ?_
          refine n_istore_n (L2 := [some (2, 112), some (0, 2), some (0, s), some (0, (x3 + 0)), some (0, x4), none]) c_148_52 rfl rfl ?_
          refine n_iinc (L2 := [some (2, 112), some (0, 2), some (0, s), some (0, (x3 + 0)), some (0, (x4 + 1)), none]) c_148_53 rfl rfl rfl ?_
          refine n_goto c_148_56 ?_
          refine n_fg (le_s (le_s (le_s (le_s (le_s (le_n le_0)))))) ?_
          exact ih.1 _ _ M hS (by omega) (by omega) (by omega) (by omega) (by omega) (by rw [c3_step (by omega)]; show _ = _ + (if M 116 x4 = 3 then 1 else 0); split <;> omega) (by exact v1) (by have := t_112_4 hS; omega) (by omega) (by omega) (by omega)
        · intro h23
          refine n_iconst c_148_46 ?_
          refine n_goto c_148_47 ?_
          refine n_iadd c_148_51 rfl ?_
          refine n_istore_n (L2 := [some (2, 112), some (0, 2), some (0, s), some (0, (x3 + 1)), some (0, x4), none]) c_148_52 rfl rfl ?_
          refine n_iinc (L2 := [some (2, 112), some (0, 2), some (0, s), some (0, (x3 + 1)), some (0, (x4 + 1)), none]) c_148_53 rfl rfl rfl ?_
          refine n_goto c_148_56 ?_
          refine n_fg (le_s (le_s (le_s (le_s (le_s (le_n le_0)))))) ?_
          exact ih.1 _ _ M hS (by omega) (by omega) (by omega) (by omega) (by omega) (by rw [c3_step (by omega)]; show _ = _ + (if M 116 x4 = 3 then 1 else 0); split <;> omega) (by exact v1) (by have := t_112_4 hS; omega) (by omega) (by omega) (by omega)
    · intro x4 x5 M hS k2 k4 k5 hdm hggd v0 v1 v2 v3 v4 v5 hnn
      refine n_iload c_148_106 rfl ?_
      refine n_iload c_148_108 rfl ?_
      refine n_if2_ge c_148_110 (by omega) (by omega) ?_ ?_
      · intro h1
        refine n_aload_n c_148_185 rfl ?_
        refine n_getR c_148_186 sc_112.n rfl rfl rfl r_112_5 ?_
        refine n_aload_n c_148_189 rfl ?_
        refine n_getV (bi := 4) c_148_190 sc_112.n rfl rfl rfl (t_112_4 hS) ?_
        intro z2 ez2 f3
        refine n_iload_n c_148_193 rfl ?_
        refine n_iastoreM hS c_148_194 sc_116.n rfl (by omega) (m_116 (by omega) (by omega)) ?_
        intro M4 eM4 hS4
        have g4_0 : M4 112 0 = M 112 0 := by rw [eM4]; exact nu_a (by omega)
        have g4_1 : M4 112 4 = M 112 4 := by rw [eM4]; exact nu_a (by omega)
        refine n_aload_n c_148_195 rfl ?_
        refine n_dup2 c_148_196 ?_
        refine n_getV (bi := 4) c_148_197 sc_112.n rfl rfl rfl (t_112_4 hS4) ?_
        intro z5 ez5 f6
        refine n_iconst c_148_200 ?_
        refine n_iadd c_148_201 rfl ?_
        refine n_putM (bi := 4) hS4 c_148_202 sc_112.n rfl rfl rfl rfl (m_112_4 (by omega)) ?_
        intro M7 eM7 hS7
        have g7_0 : M7 112 0 = M4 112 0 := by rw [eM7]; exact nu_i (by omega)
        have g7_1 : M7 112 4 = (z5 + 1) := by rw [eM7]; exact nu_s _ _ _ _
        refine n_aload_n c_148_205 rfl ?_
        refine n_v0V c_148_206 rfl sc_112.n rfl rfl rfl rfl (changed_2  hS7 (by omega)) ?_
        intro  M8 hP9
        have hS8 := hP9
        have hS8c := hS8.2.2.2.1.1
        have hS8 := hS8.refl
        have hS8k0 := hS8c 112 0 (by unfold core; omega)
        have hS8k1 := hS8c 112 4 (by unfold core; omega)
        refine n_aload_n c_148_209 rfl ?_
        refine n_getV (bi := 4) c_148_210 sc_112.n rfl rfl rfl (t_112_4 hS8) ?_
        intro z10 ez10 f11
        refine n_iconst c_148_213 ?_
        refine n_isub c_148_214 rfl ?_
        exact n_rI c_148_215 rfl ⟨hS8, by omega, by omega, by exact Or.inr (Or.inr (Or.inr (Or.inr ⟨by omega, by omega, by omega, by omega, v2, by omega, fun i h0 h1 => (v0 i h0 (by omega)).2, by omega, by omega, by rw [hS8c 116 _ (by unfold core; omega), eM7, nu_a (by omega), eM4, nu_e, if_pos (by omega)], fun i h0 h1 => by rw [hS8c 117 _ (by unfold core; omega), eM7, nu_a (by omega), eM4, nu_a (by omega)]; exact (v0 i h0 (by omega)).1, fun a i hc w1 w2 w3 => by rw [hS8c a i hc, eM7, nu_e, if_neg w1, eM4, nu_e, if_neg (by omega)]; exact v1 a i hc w3⟩)))⟩
      · intro h12
        refine n_iload c_148_113 rfl ?_
        refine n_aload_n c_148_115 rfl ?_
        refine n_getR c_148_116 sc_112.n rfl rfl rfl r_112_1 ?_
        refine n_iload_n c_148_119 rfl ?_
        refine n_ialoadV c_148_120 sc_113.n rfl rfl rfl (by omega) (t_113 hS (by omega)) ?_
        intro z13 ez13 f14
        have q13 := v1 113 s (by unfold core; omega) (by omega)
        have q15 := v1 115 (40 * s + x5) (by unfold core; omega) (by omega)
        refine n_iconst c_148_121 ?_
        refine n_isub c_148_122 rfl ?_
        refine n_if2_lt c_148_123 (by omega) (by omega) ?_ ?_
        · intro h15
          refine n_aload_n c_148_129 rfl ?_
          refine n_aload_n c_148_130 rfl ?_
          refine n_getR c_148_131 sc_112.n rfl rfl rfl r_112_3 ?_
          refine n_bipush c_148_134 rfl ?_
          refine n_iload_n c_148_136 rfl ?_
          refine n_imul c_148_137 rfl ?_
          refine n_iload c_148_138 rfl ?_
          refine n_iadd c_148_140 rfl ?_
          refine n_laloadV c_148_141 sc_115.n rfl rfl rfl (by omega) (t_115 hS (by omega)) ?_
          intro z16 ez16 f17
          refine n_v1I c_148_142 rfl sc_112.n rfl rfl rfl rfl (misThingF_2 (v := z16) hS (by omega) (by omega)) ?_
          intro z18 M19 hP20
          obtain ⟨eM, f20, f20p0⟩ := hP20
          subst eM
          refine n_if0_ne c_148_145 (by omega) ?_ ?_
          · intro h21
            refine n_aload_n c_148_151 rfl ?_
            refine n_getR c_148_152 sc_112.n rfl rfl rfl r_112_6 ?_
            refine n_bipush c_148_155 rfl ?_
            refine n_aload_n c_148_157 rfl ?_
            refine n_getV (bi := 4) c_148_158 sc_112.n rfl rfl rfl (t_112_4 hS) ?_
            intro z22 ez22 f23
            refine n_imul c_148_161 rfl ?_
            refine n_iload c_148_162 rfl ?_
            refine n_iadd c_148_164 rfl ?_
            refine n_aload_n c_148_165 rfl ?_
            refine n_getR c_148_166 sc_112.n rfl rfl rfl r_112_3 ?_
            refine n_bipush c_148_169 rfl ?_
            refine n_iload_n c_148_171 rfl ?_
            refine n_imul c_148_172 rfl ?_
            refine n_iload c_148_173 rfl ?_
            refine n_iadd c_148_175 rfl ?_
            refine n_laloadV c_148_176 sc_115.n rfl rfl rfl (by omega) (t_115 hS (by omega)) ?_
            intro z24 ez24 f25
            refine n_l2i c_148_177 ?_
            refine n_iastoreM hS c_148_178 sc_117.n rfl (by omega) (m_117 (by omega) (by omega)) ?_
            intro M26 eM26 hS26
            have g26_0 : M26 112 0 = M 112 0 := by rw [eM26]; exact nu_a (by omega)
            have g26_1 : M26 112 4 = M 112 4 := by rw [eM26]; exact nu_a (by omega)
            have g26_2 : M26 115 ((40 * s) + x5) = M 115 ((40 * s) + x5) := by rw [eM26]; exact nu_a (by omega)
            refine n_iinc (L2 := [some (2, 112), some (0, 2), some (0, s), none, some (0, x4), some (0, (x5 + 1))]) c_148_179 rfl rfl rfl ?_
            refine n_goto c_148_182 ?_
            refine n_fg (le_s (le_s (le_s (le_n (le_s (le_s le_0)))))) ?_
            exact ih.2 _ _ M26 hS26 (by omega) (by omega) (by omega) (by omega) (by omega) (by exact TQ.step v0 eM26 (by omega) (by show _ = Ms 115 (40 * s + x5); omega) ⟨by omega, by show 0 ≤ Ms 115 (40 * s + x5); omega, by show Ms 115 (40 * s + x5) ≤ 2 - 1; omega⟩) (by exact FA.u v1 eM26 (by omega)) (by exact v2) (by exact v3) (by exact v4) (by rw [eM26, nu_a (by omega)]; exact v5) (by omega)
          · intro h27
            refine n_bipush c_148_148 rfl ?_
            exact n_rI c_148_150 rfl ⟨hS, by omega, by omega, by exact Or.inr (Or.inr (Or.inr (Or.inl ⟨by omega, by omega, by omega, by omega, v2, by omega, ⟨x5, by omega, by omega, fun i h0 h1 => (v0 i h0 h1).2, by show (Ms 113 s - 1 ≤ x5 ∧ _ = -6) ∨ (x5 < Ms 113 s - 1 ∧ (Ms 115 (40 * s + x5) < 0 ∨ 2 - 1 < Ms 115 (40 * s + x5)) ∧ _ = -4); omega⟩, v1⟩)))⟩
        · intro h28
          refine n_bipush c_148_126 rfl ?_
          exact n_rI c_148_128 rfl ⟨hS, by omega, by omega, by exact Or.inr (Or.inr (Or.inr (Or.inl ⟨by omega, by omega, by omega, by omega, v2, by omega, ⟨x5, by omega, by omega, fun i h0 h1 => (v0 i h0 h1).2, by show (Ms 113 s - 1 ≤ x5 ∧ _ = -6) ∨ (x5 < Ms 113 s - 1 ∧ (Ms 115 (40 * s + x5) < 0 ∨ 2 - 1 < Ms 115 (40 * s + x5)) ∧ _ = -4); omega⟩, v1⟩)))⟩
set_option maxHeartbeats 4000000 in
theorem mactX2_2 {xs : List Int32} {e : Nat} {ac : Int} {M : nM} {s gd : Int} {Ms : nM} (hS : Sf 2 ac M M) (hdm : M 112 0 = 2) (hs : -2147483648 ≤ s ∧ s ≤ 2147483647) (hgd : M 112 0 = gd) (hms : M = Ms) : nW xs (e + 1) 148 0 [some (2, 112), some (0, 2), some (0, s), none, none, none] [] M (nPI fun z M1 => Sf 2 ac M1 M1 ∧ (-2147483648 ≤ z ∧ z ≤ 2147483647) ∧ (M1 112 0 = gd) ∧ (mAct 2 2 4 s z Ms M1)) := by
  have hd : (2 : Int) = 2 ∨ (2 : Int) = 3 := by decide
  have hac := hS.2.2.2.2
  refine n_iload_n c_148_0 rfl ?_
  refine n_s1I c_148_1 rfl rfl rfl rfl (misSlotF_2 (s := s) hS (by omega)) ?_
  intro z1 M2 hP3
  obtain ⟨eM, f3, f3p0⟩ := hP3
  subst eM
  refine n_if0_eq c_148_4 (by omega) ?_ ?_
  · intro h4
    refine n_bipush c_148_17 rfl ?_
    exact n_rI c_148_19 rfl ⟨hS, by omega, by omega, by subst hms; exact Or.inl ⟨by omega, rfl, fun _ _ _ => rfl⟩⟩
  · intro h5
    refine n_iload_n c_148_7 rfl ?_
    refine n_iconst c_148_8 ?_
    refine n_if2_lt c_148_9 (by omega) (by omega) ?_ ?_
    · intro h6
      exfalso; omega
    · intro h7
      refine n_iload_n c_148_12 rfl ?_
      refine n_iconst c_148_13 ?_
      refine n_if2_le c_148_14 (by omega) (by omega) ?_ ?_
      · intro h8
        refine n_iconst c_148_20 ?_
        refine n_istore_n (L2 := [some (2, 112), some (0, 2), some (0, s), some (0, 0), none, none]) c_148_21 rfl rfl ?_
        refine n_iconst c_148_22 ?_
        refine n_istore (L2 := [some (2, 112), some (0, 2), some (0, s), some (0, 0), some (0, 0), none]) c_148_23 rfl rfl ?_
        refine n_fg (le_s (le_s (le_s (le_s (le_s (le_n le_0)))))) ?_
        exact (mactX2_2_c hS hdm hs hgd hms 42).1 _ _ M hS (by omega) (by omega) (by omega) (by omega) (by omega) (by rfl) (by exact hms) (by have := t_112_4 hS; omega) (by omega) (by omega) (by omega)
      · intro h9
        exfalso; omega

set_option maxHeartbeats 4000000 in
theorem mactX3_2_c {xs : List Int32} {e : Nat} {ac : Int} {M : nM} {s gd : Int} {Ms : nM} (hS : Sf 2 ac M M) (hdm : M 112 0 = 2) (hs : -2147483648 ≤ s ∧ s ≤ 2147483647) (hgd : M 112 0 = gd) (hms : M = Ms) : ∀ nn : Nat, (∀ (x3 x4 : Int) (M : nM), Sf 2 ac M M → (0 ≤ s ∧ s ≤ 7) → (0 ≤ x3 ∧ x3 ≤ 8) → (0 ≤ x4 ∧ x4 ≤ 8) → (M 112 0 = 2) → (M 112 0 = gd) → (x3 = c3 (fun a => M 116 a) x4.toNat) → (M = Ms) → (x4 ≤ M 112 4) → (0 ≤ s ∧ s ≤ 7) → (x3 ≤ x4) → (8 - x4) * 1 + 11 < (nn : Int) → nW xs (e + 1) 148 25 [some (2, 112), some (0, 3), some (0, s), some (0, x3), some (0, x4), none] [] M (nPI fun z M1 => Sf 2 ac M1 M1 ∧ (-2147483648 ≤ z ∧ z ≤ 2147483647) ∧ (M1 112 0 = gd) ∧ (mAct 2 3 8 s z Ms M1))) ∧ (∀ (x4 x5 : Int) (M : nM), Sf 2 ac M M → (0 ≤ s ∧ s ≤ 7) → (8 ≤ x4 ∧ x4 ≤ 8) → (0 ≤ x5 ∧ x5 ≤ 8) → (M 112 0 = 2) → (M 112 0 = gd) → (TQ 2 (Ms 113 s - 1) (fun i => Ms 115 (40 * s + i)) (Ms 112 4) x5 M) → (FA (Ms 112 4) Ms M) → (¬ (Ms 112 4 = 8 ∨ ((3 : Int) = 3 ∧ c3 (fun a => Ms 116 a) (Ms 112 4).toNat = 2))) → (Ms 113 s ≠ 0) → (Ms 112 4 ≤ 7) → (M 112 4 = Ms 112 4) → (8 - x5) * 1 + 1 < (nn : Int) → nW xs (e + 1) 148 106 [some (2, 112), some (0, 3), some (0, s), none, some (0, x4), some (0, x5)] [] M (nPI fun z M1 => Sf 2 ac M1 M1 ∧ (-2147483648 ≤ z ∧ z ≤ 2147483647) ∧ (M1 112 0 = gd) ∧ (mAct 2 3 8 s z Ms M1))) := by
  have hd : (2 : Int) = 2 ∨ (2 : Int) = 3 := by decide
  have hac := hS.2.2.2.2
  intro nn
  induction nn with
  | zero => refine ⟨?_, ?_⟩ <;> (intros; omega)
  | succ nn ih =>
    refine ⟨?_, ?_⟩
    · intro x3 x4 M hS k2 k3 k4 hdm hggd v0 v1 v2 v3 v4 hnn
      refine n_iload c_148_25 rfl ?_
      refine n_aload_n c_148_27 rfl ?_
      refine n_getV (bi := 4) c_148_28 sc_112.n rfl rfl rfl (t_112_4 hS) ?_
      intro z1 ez1 f2
      refine n_if2_ge c_148_31 (by omega) (by omega) ?_ ?_
      · intro h3
        refine n_aload_n c_148_59 rfl ?_
        refine n_getV (bi := 4) c_148_60 sc_112.n rfl rfl rfl (t_112_4 hS) ?_
        intro z4 ez4 f5
        have q4 : x4 = M 112 4 := by omega
        rw [q4] at v0
        refine n_bipush c_148_63 rfl ?_
        refine n_if2_eq c_148_65 (by omega) (by omega) ?_ ?_
        · intro h6
          refine n_bipush c_148_78 rfl ?_
          exact n_rI c_148_80 rfl ⟨hS, by omega, by omega, by subst v1; exact Or.inr (Or.inl ⟨by omega, by omega, by omega, by omega, by first | exact Or.inl (by omega) | exact Or.inr ⟨rfl, by omega⟩, rfl, fun _ _ _ => rfl⟩)⟩
        · intro h7
          refine n_iload_n c_148_68 rfl ?_
          refine n_iconst c_148_69 ?_
          refine n_if2_ne c_148_70 (by omega) (by omega) ?_ ?_
          · intro h8
            exfalso; omega
          · intro h9
            refine n_iload_n c_148_73 rfl ?_
            refine n_iconst c_148_74 ?_
            refine n_if2_ne c_148_75 (by omega) (by omega) ?_ ?_
            · intro h10
              refine n_aload_n c_148_81 rfl ?_
              refine n_getR c_148_82 sc_112.n rfl rfl rfl r_112_1 ?_
              refine n_iload_n c_148_85 rfl ?_
              refine n_ialoadV c_148_86 sc_113.n rfl rfl rfl (by omega) (t_113 hS (by omega)) ?_
              intro z11 ez11 f12
              refine n_if0_ne c_148_87 (by omega) ?_ ?_
              · intro h13
                refine n_aload_n c_148_93 rfl ?_
                refine n_getV (bi := 0) c_148_94 sc_112.n rfl rfl rfl (show 2 ≤ M 112 0 ∧ M 112 0 ≤ 2 by omega) ?_
                intro z14 ez14 f15
                obtain rfl : z14 = 2 := by omega
                refine n_iload_n c_148_97 rfl ?_
                refine n_s2I c_148_98 rfl rfl rfl rfl (mpower3_2  hS ) ?_
                intro z16 M17 hP18
                obtain ⟨eM, f18⟩ := hP18
                subst eM
                obtain rfl : z16 = 8 := by omega
                refine n_istore (L2 := [some (2, 112), some (0, 3), some (0, s), some (0, x3), some (0, 8), none]) c_148_101 rfl rfl ?_
                refine n_iconst c_148_103 ?_
                refine n_istore (L2 := [some (2, 112), some (0, 3), some (0, s), some (0, x3), some (0, 8), some (0, 0)]) c_148_104 rfl rfl ?_
                refine n_fg (le_s (le_s (le_s (le_n (le_s (le_s le_0)))))) ?_
                exact ih.2 _ _ M hS (by omega) (by omega) (by omega) (by omega) (by omega) (by exact fun j h0 h1 => by omega) (by subst v1; exact fun _ _ _ _ => rfl) (by subst v1; exact fun q => by rcases q with q | ⟨q1, q2⟩ <;> omega) (by subst v1; omega) (by subst v1; omega) (by subst v1; rfl) (by omega)
              · intro h19
                refine n_bipush c_148_90 rfl ?_
                exact n_rI c_148_92 rfl ⟨hS, by omega, by omega, by subst v1; exact Or.inr (Or.inr (Or.inl ⟨by omega, by omega, by omega, by omega, fun q => by rcases q with q | ⟨q1, q2⟩ <;> omega, by omega, rfl, fun _ _ _ => rfl⟩))⟩
            · intro h20
              refine n_bipush c_148_78 rfl ?_
              exact n_rI c_148_80 rfl ⟨hS, by omega, by omega, by subst v1; exact Or.inr (Or.inl ⟨by omega, by omega, by omega, by omega, by first | exact Or.inl (by omega) | exact Or.inr ⟨rfl, by omega⟩, rfl, fun _ _ _ => rfl⟩)⟩
      · intro h21
        refine n_iload_n c_148_34 rfl ?_
        refine n_aload_n c_148_35 rfl ?_
        refine n_getR c_148_36 sc_112.n rfl rfl rfl r_112_5 ?_
        refine n_iload c_148_39 rfl ?_
        refine n_ialoadV c_148_41 sc_116.n rfl rfl rfl (by omega) (t_116 hS (by omega)) ?_
        intro z22 ez22 f23
        refine n_iconst c_148_42 ?_
        refine n_if2_ne c_148_43 (by omega) (by omega) ?_ ?_
        · intro h24
          refine n_iconst c_148_50 ?_
          refine n_iadd c_148_51 rfl ?_
          refine n_istore_n (L2 := [some (2, 112), some (0, 3), some (0, s), some (0, (x3 + 0)), some (0, x4), none]) c_148_52 rfl rfl ?_
          refine n_iinc (L2 := [some (2, 112), some (0, 3), some (0, s), some (0, (x3 + 0)), some (0, (x4 + 1)), none]) c_148_53 rfl rfl rfl ?_
          refine n_goto c_148_56 ?_
          refine n_fg (le_s (le_s (le_s (le_s (le_s (le_n le_0)))))) ?_
          exact ih.1 _ _ M hS (by omega) (by omega) (by omega) (by omega) (by omega) (by rw [c3_step (by omega)]; show _ = _ + (if M 116 x4 = 3 then 1 else 0); split <;> omega) (by exact v1) (by have := t_112_4 hS; omega) (by omega) (by omega) (by omega)
        · intro h25
          refine n_iconst c_148_46 ?_
          refine n_goto c_148_47 ?_
          refine n_iadd c_148_51 rfl ?_
          refine n_istore_n (L2 := [some (2, 112), some (0, 3), some (0, s), some (0, (x3 + 1)), some (0, x4), none]) c_148_52 rfl rfl ?_
          refine n_iinc (L2 := [some (2, 112), some (0, 3), some (0, s), some (0, (x3 + 1)), some (0, (x4 + 1)), none]) c_148_53 rfl rfl rfl ?_
          refine n_goto c_148_56 ?_
          refine n_fg (le_s (le_s (le_s (le_s (le_s (le_n le_0)))))) ?_
          exact ih.1 _ _ M hS (by omega) (by omega) (by omega) (by omega) (by omega) (by rw [c3_step (by omega)]; show _ = _ + (if M 116 x4 = 3 then 1 else 0); split <;> omega) (by exact v1) (by have := t_112_4 hS; omega) (by omega) (by omega) (by omega)
    · intro x4 x5 M hS k2 k4 k5 hdm hggd v0 v1 v2 v3 v4 v5 hnn
      refine n_iload c_148_106 rfl ?_
      refine n_iload c_148_108 rfl ?_
      refine n_if2_ge c_148_110 (by omega) (by omega) ?_ ?_
      · intro h1
        refine n_aload_n c_148_185 rfl ?_
        refine n_getR c_148_186 sc_112.n rfl rfl rfl r_112_5 ?_
        refine n_aload_n c_148_189 rfl ?_
        refine n_getV (bi := 4) c_148_190 sc_112.n rfl rfl rfl (t_112_4 hS) ?_
        intro z2 ez2 f3
        refine n_iload_n c_148_193 rfl ?_
        refine n_iastoreM hS c_148_194 sc_116.n rfl (by omega) (m_116 (by omega) (by omega)) ?_
        intro M4 eM4 hS4
        have g4_0 : M4 112 0 = M 112 0 := by rw [eM4]; exact nu_a (by omega)
        have g4_1 : M4 112 4 = M 112 4 := by rw [eM4]; exact nu_a (by omega)
        refine n_aload_n c_148_195 rfl ?_
        refine n_dup2 c_148_196 ?_
        refine n_getV (bi := 4) c_148_197 sc_112.n rfl rfl rfl (t_112_4 hS4) ?_
        intro z5 ez5 f6
        refine n_iconst c_148_200 ?_
        refine n_iadd c_148_201 rfl ?_
        refine n_putM (bi := 4) hS4 c_148_202 sc_112.n rfl rfl rfl rfl (m_112_4 (by omega)) ?_
        intro M7 eM7 hS7
        have g7_0 : M7 112 0 = M4 112 0 := by rw [eM7]; exact nu_i (by omega)
        have g7_1 : M7 112 4 = (z5 + 1) := by rw [eM7]; exact nu_s _ _ _ _
        refine n_aload_n c_148_205 rfl ?_
        refine n_v0V c_148_206 rfl sc_112.n rfl rfl rfl rfl (changed_2  hS7 (by omega)) ?_
        intro  M8 hP9
        have hS8 := hP9
        have hS8c := hS8.2.2.2.1.1
        have hS8 := hS8.refl
        have hS8k0 := hS8c 112 0 (by unfold core; omega)
        have hS8k1 := hS8c 112 4 (by unfold core; omega)
        refine n_aload_n c_148_209 rfl ?_
        refine n_getV (bi := 4) c_148_210 sc_112.n rfl rfl rfl (t_112_4 hS8) ?_
        intro z10 ez10 f11
        refine n_iconst c_148_213 ?_
        refine n_isub c_148_214 rfl ?_
        exact n_rI c_148_215 rfl ⟨hS8, by omega, by omega, by exact Or.inr (Or.inr (Or.inr (Or.inr ⟨by omega, by omega, by omega, by omega, v2, by omega, fun i h0 h1 => (v0 i h0 (by omega)).2, by omega, by omega, by rw [hS8c 116 _ (by unfold core; omega), eM7, nu_a (by omega), eM4, nu_e, if_pos (by omega)], fun i h0 h1 => by rw [hS8c 117 _ (by unfold core; omega), eM7, nu_a (by omega), eM4, nu_a (by omega)]; exact (v0 i h0 (by omega)).1, fun a i hc w1 w2 w3 => by rw [hS8c a i hc, eM7, nu_e, if_neg w1, eM4, nu_e, if_neg (by omega)]; exact v1 a i hc w3⟩)))⟩
      · intro h12
        refine n_iload c_148_113 rfl ?_
        refine n_aload_n c_148_115 rfl ?_
        refine n_getR c_148_116 sc_112.n rfl rfl rfl r_112_1 ?_
        refine n_iload_n c_148_119 rfl ?_
        refine n_ialoadV c_148_120 sc_113.n rfl rfl rfl (by omega) (t_113 hS (by omega)) ?_
        intro z13 ez13 f14
        have q13 := v1 113 s (by unfold core; omega) (by omega)
        have q15 := v1 115 (40 * s + x5) (by unfold core; omega) (by omega)
        refine n_iconst c_148_121 ?_
        refine n_isub c_148_122 rfl ?_
        refine n_if2_lt c_148_123 (by omega) (by omega) ?_ ?_
        · intro h15
          refine n_aload_n c_148_129 rfl ?_
          refine n_aload_n c_148_130 rfl ?_
          refine n_getR c_148_131 sc_112.n rfl rfl rfl r_112_3 ?_
          refine n_bipush c_148_134 rfl ?_
          refine n_iload_n c_148_136 rfl ?_
          refine n_imul c_148_137 rfl ?_
          refine n_iload c_148_138 rfl ?_
          refine n_iadd c_148_140 rfl ?_
          refine n_laloadV c_148_141 sc_115.n rfl rfl rfl (by omega) (t_115 hS (by omega)) ?_
          intro z16 ez16 f17
          refine n_v1I c_148_142 rfl sc_112.n rfl rfl rfl rfl (misThingF_2 (v := z16) hS (by omega) (by omega)) ?_
          intro z18 M19 hP20
          obtain ⟨eM, f20, f20p0⟩ := hP20
          subst eM
          refine n_if0_ne c_148_145 (by omega) ?_ ?_
          · intro h21
            refine n_aload_n c_148_151 rfl ?_
            refine n_getR c_148_152 sc_112.n rfl rfl rfl r_112_6 ?_
            refine n_bipush c_148_155 rfl ?_
            refine n_aload_n c_148_157 rfl ?_
            refine n_getV (bi := 4) c_148_158 sc_112.n rfl rfl rfl (t_112_4 hS) ?_
            intro z22 ez22 f23
            refine n_imul c_148_161 rfl ?_
            refine n_iload c_148_162 rfl ?_
            refine n_iadd c_148_164 rfl ?_
            refine n_aload_n c_148_165 rfl ?_
            refine n_getR c_148_166 sc_112.n rfl rfl rfl r_112_3 ?_
            refine n_bipush c_148_169 rfl ?_
            refine n_iload_n c_148_171 rfl ?_
            refine n_imul c_148_172 rfl ?_
            refine n_iload c_148_173 rfl ?_
            refine n_iadd c_148_175 rfl ?_
            refine n_laloadV c_148_176 sc_115.n rfl rfl rfl (by omega) (t_115 hS (by omega)) ?_
            intro z24 ez24 f25
            refine n_l2i c_148_177 ?_
            refine n_iastoreM hS c_148_178 sc_117.n rfl (by omega) (m_117 (by omega) (by omega)) ?_
            intro M26 eM26 hS26
            have g26_0 : M26 112 0 = M 112 0 := by rw [eM26]; exact nu_a (by omega)
            have g26_1 : M26 112 4 = M 112 4 := by rw [eM26]; exact nu_a (by omega)
            have g26_2 : M26 115 ((40 * s) + x5) = M 115 ((40 * s) + x5) := by rw [eM26]; exact nu_a (by omega)
            refine n_iinc (L2 := [some (2, 112), some (0, 3), some (0, s), none, some (0, x4), some (0, (x5 + 1))]) c_148_179 rfl rfl rfl ?_
            refine n_goto c_148_182 ?_
            refine n_fg (le_s (le_s (le_s (le_n (le_s (le_s le_0)))))) ?_
            exact ih.2 _ _ M26 hS26 (by omega) (by omega) (by omega) (by omega) (by omega) (by exact TQ.step v0 eM26 (by omega) (by show _ = Ms 115 (40 * s + x5); omega) ⟨by omega, by show 0 ≤ Ms 115 (40 * s + x5); omega, by show Ms 115 (40 * s + x5) ≤ 2 - 1; omega⟩) (by exact FA.u v1 eM26 (by omega)) (by exact v2) (by exact v3) (by exact v4) (by rw [eM26, nu_a (by omega)]; exact v5) (by omega)
          · intro h27
            refine n_bipush c_148_148 rfl ?_
            exact n_rI c_148_150 rfl ⟨hS, by omega, by omega, by exact Or.inr (Or.inr (Or.inr (Or.inl ⟨by omega, by omega, by omega, by omega, v2, by omega, ⟨x5, by omega, by omega, fun i h0 h1 => (v0 i h0 h1).2, by show (Ms 113 s - 1 ≤ x5 ∧ _ = -6) ∨ (x5 < Ms 113 s - 1 ∧ (Ms 115 (40 * s + x5) < 0 ∨ 2 - 1 < Ms 115 (40 * s + x5)) ∧ _ = -4); omega⟩, v1⟩)))⟩
        · intro h28
          refine n_bipush c_148_126 rfl ?_
          exact n_rI c_148_128 rfl ⟨hS, by omega, by omega, by exact Or.inr (Or.inr (Or.inr (Or.inl ⟨by omega, by omega, by omega, by omega, v2, by omega, ⟨x5, by omega, by omega, fun i h0 h1 => (v0 i h0 h1).2, by show (Ms 113 s - 1 ≤ x5 ∧ _ = -6) ∨ (x5 < Ms 113 s - 1 ∧ (Ms 115 (40 * s + x5) < 0 ∨ 2 - 1 < Ms 115 (40 * s + x5)) ∧ _ = -4); omega⟩, v1⟩)))⟩
set_option maxHeartbeats 4000000 in
theorem mactX3_2 {xs : List Int32} {e : Nat} {ac : Int} {M : nM} {s gd : Int} {Ms : nM} (hS : Sf 2 ac M M) (hdm : M 112 0 = 2) (hs : -2147483648 ≤ s ∧ s ≤ 2147483647) (hgd : M 112 0 = gd) (hms : M = Ms) : nW xs (e + 1) 148 0 [some (2, 112), some (0, 3), some (0, s), none, none, none] [] M (nPI fun z M1 => Sf 2 ac M1 M1 ∧ (-2147483648 ≤ z ∧ z ≤ 2147483647) ∧ (M1 112 0 = gd) ∧ (mAct 2 3 8 s z Ms M1)) := by
  have hd : (2 : Int) = 2 ∨ (2 : Int) = 3 := by decide
  have hac := hS.2.2.2.2
  refine n_iload_n c_148_0 rfl ?_
  refine n_s1I c_148_1 rfl rfl rfl rfl (misSlotF_2 (s := s) hS (by omega)) ?_
  intro z1 M2 hP3
  obtain ⟨eM, f3, f3p0⟩ := hP3
  subst eM
  refine n_if0_eq c_148_4 (by omega) ?_ ?_
  · intro h4
    refine n_bipush c_148_17 rfl ?_
    exact n_rI c_148_19 rfl ⟨hS, by omega, by omega, by subst hms; exact Or.inl ⟨by omega, rfl, fun _ _ _ => rfl⟩⟩
  · intro h5
    refine n_iload_n c_148_7 rfl ?_
    refine n_iconst c_148_8 ?_
    refine n_if2_lt c_148_9 (by omega) (by omega) ?_ ?_
    · intro h6
      exfalso; omega
    · intro h7
      refine n_iload_n c_148_12 rfl ?_
      refine n_iconst c_148_13 ?_
      refine n_if2_le c_148_14 (by omega) (by omega) ?_ ?_
      · intro h8
        refine n_iconst c_148_20 ?_
        refine n_istore_n (L2 := [some (2, 112), some (0, 3), some (0, s), some (0, 0), none, none]) c_148_21 rfl rfl ?_
        refine n_iconst c_148_22 ?_
        refine n_istore (L2 := [some (2, 112), some (0, 3), some (0, s), some (0, 0), some (0, 0), none]) c_148_23 rfl rfl ?_
        refine n_fg (le_s (le_s (le_s (le_s (le_s (le_n le_0)))))) ?_
        exact (mactX3_2_c hS hdm hs hgd hms 50).1 _ _ M hS (by omega) (by omega) (by omega) (by omega) (by omega) (by rfl) (by exact hms) (by have := t_112_4 hS; omega) (by omega) (by omega) (by omega)
      · intro h9
        exfalso; omega

set_option maxHeartbeats 4000000 in
theorem addWideX_2 {xs : List Int32} {e : Nat} {ac : Int} {M : nM} {q r g gd : Int} (hS : Sf 2 ac M M) (hq : LawAt q) (hr : 0 ≤ r ∧ r ≤ 26) (hg : M 3 15 = g) (hgd : M 112 0 = gd) : nW xs e 42 0 [some (2, q), some (0, r)] [] M (nPV fun M1 => Sf 2 ac M1 M1 ∧ (M1 3 15 = g) ∧ (M1 112 0 = gd) ∧ (FL q M M1) ∧ (M1 q 0 = M q 0) ∧ (M1 q 1 = M q 1)) := by
  have hd : (2 : Int) = 2 ∨ (2 : Int) = 3 := by decide
  have hac := hS.2.2.2.2
  refine n_aload_n c_42_0 rfl ?_
  refine n_getV (bi := 3) c_42_1 hq.c0.1.n rfl rfl rfl (t_law hS hq).2.2.2 ?_
  intro z1 ez1 f2
  refine n_bipush c_42_4 rfl ?_
  refine n_if2_ge c_42_6 (by omega) (by omega) ?_ ?_
  · intro h3
    exact n_rV c_42_52 rfl ⟨hS, by omega, by omega, by exact (fun _ _ _ _ => rfl), by rfl, by rfl⟩
  · intro h4
    refine n_aload_n c_42_9 rfl ?_
    refine n_getV (bi := 2) c_42_10 hq.c0.1.n rfl rfl rfl (t_law hS hq).2.2.1 ?_
    intro z5 ez5 f6
    refine n_iload_n c_42_13 rfl ?_
    refine n_i_ishr c_42_14 rfl ?_
    have f7 := n_shr_r z5 r
    generalize (n_shr z5 r) = z8 at f7 ⊢
    refine n_iconst c_42_15 ?_
    refine n_i_iand c_42_16 rfl ?_
    have f9 := n_and_y (x := z8) (y := 1) (by omega)
    generalize (n_and z8 1) = z10 at f9 ⊢
    refine n_if0_ne c_42_17 (by omega) ?_ ?_
    · intro h11
      exact n_rV c_42_52 rfl ⟨hS, by omega, by omega, by exact (fun _ _ _ _ => rfl), by rfl, by rfl⟩
    · intro h12
      refine n_aload_n c_42_20 rfl ?_
      refine n_getR c_42_21 hq.c0.1.n rfl rfl rfl hq.r ?_
      refine n_aload_n c_42_24 rfl ?_
      refine n_getV (bi := 3) c_42_25 hq.c0.1.n rfl rfl rfl (t_law hS hq).2.2.2 ?_
      intro z13 ez13 f14
      refine n_iload_n c_42_28 rfl ?_
      refine n_iastoreM hS c_42_29 hq.c0.2.n rfl (by omega) (m_lawr hq (by omega) (by omega)) ?_
      intro M15 eM15 hS15
      have g15_0 : M15 3 15 = M 3 15 := by rw [eM15]; exact nu_a (by unfold LawAt at *; omega)
      have g15_1 : M15 112 0 = M 112 0 := by rw [eM15]; exact nu_a (by unfold LawAt at *; omega)
      have g15_2 : M15 q 3 = M q 3 := by rw [eM15]; exact nu_a (by omega)
      refine n_aload_n c_42_30 rfl ?_
      refine n_dup2 c_42_31 ?_
      refine n_getV (bi := 3) c_42_32 hq.c0.1.n rfl rfl rfl (t_law hS15 hq).2.2.2 ?_
      intro z16 ez16 f17
      refine n_iconst c_42_35 ?_
      refine n_iadd c_42_36 rfl ?_
      refine n_putM (bi := 3) hS15 c_42_37 hq.c0.1.n rfl rfl rfl rfl (m_law hq (by omega) (by omega)) ?_
      intro M18 eM18 hS18
      have g18_0 : M18 3 15 = M15 3 15 := by rw [eM18]; exact nu_a (by unfold LawAt at *; omega)
      have g18_1 : M18 112 0 = M15 112 0 := by rw [eM18]; exact nu_a (by unfold LawAt at *; omega)
      have g18_2 : M18 q 3 = (z16 + 1) := by rw [eM18]; exact nu_s _ _ _ _
      refine n_aload_n c_42_40 rfl ?_
      refine n_dup2 c_42_41 ?_
      refine n_getV (bi := 2) c_42_42 hq.c0.1.n rfl rfl rfl (t_law hS18 hq).2.2.1 ?_
      intro z19 ez19 f20
      refine n_iconst c_42_45 ?_
      refine n_iload_n c_42_46 rfl ?_
      refine n_i_ishl c_42_47 rfl ?_
      have f21 := n_shl_1 (y := r) (a := 0) (b := 26) (by decide) (by omega)
      generalize (n_shl 1 r) = z22 at f21 ⊢
      refine n_i_ior c_42_48 rfl ?_
      have f23 := n_or_r z19 z22
      generalize (n_or z19 z22) = z24 at f23 ⊢
      refine n_putM (bi := 2) hS18 c_42_49 hq.c0.1.n rfl rfl rfl rfl (m_law hq (by omega) (by omega)) ?_
      intro M25 eM25 hS25
      have g25_0 : M25 3 15 = M18 3 15 := by rw [eM25]; exact nu_a (by unfold LawAt at *; omega)
      have g25_1 : M25 112 0 = M18 112 0 := by rw [eM25]; exact nu_a (by unfold LawAt at *; omega)
      have g25_2 : M25 q 3 = M18 q 3 := by rw [eM25]; exact nu_i (by omega)
      have g25_3 : M25 q 2 = z24 := by rw [eM25]; exact nu_s _ _ _ _
      exact n_rV c_42_52 rfl ⟨hS25, by omega, by omega, by exact (FL.u (FL.u (FL.u (fun _ _ _ _ => rfl) eM15 (by omega)) eM18 (by omega)) eM25 (by omega)), by rw [eM25, nu_i (by omega), eM18, nu_i (by omega), eM15, nu_a (by omega)], by rw [eM25, nu_i (by omega), eM18, nu_i (by omega), eM15, nu_a (by omega)]⟩

set_option maxHeartbeats 4000000 in
theorem takeLX1_2_c {xs : List Int32} {e : Nat} {ac : Int} {M : nM} {q s g gd : Int} {Ms : nM} (hS : Sf 2 ac M M) (hq : LawAt q) (hs : -2147483648 ≤ s ∧ s ≤ 2147483647) (hg : M 3 15 = g) (hgd : M 112 0 = gd) (hms : M = Ms) : ∀ nn : Nat, (∀ (x4 x5 : Int) (M : nM), Sf 2 ac M M → (2 ≤ x4 ∧ x4 ≤ 2) → (0 ≤ x5 ∧ x5 ≤ 2) → (M 3 15 = g) → (M 112 0 = gd) → (M q 0 = 1) → (M q 1 = s) → (FL q Ms M) → (2 - x5) * 1 + 1 < (nn : Int) → nW xs (e + 1) 36 30 [some (2, q), some (0, 1), some (0, s), some (2, 4), some (0, x4), some (0, x5)] [] M (nPV fun M1 => Sf 2 ac M1 M1 ∧ (M1 3 15 = g) ∧ (M1 112 0 = gd) ∧ (FL q Ms M1) ∧ (M1 q 0 = 1) ∧ (M1 q 1 = s))) := by
  have hd : (2 : Int) = 2 ∨ (2 : Int) = 3 := by decide
  have hac := hS.2.2.2.2
  intro nn
  induction nn with
  | zero => intros; omega
  | succ nn ih =>
    intro x4 x5 M hS k4 k5 hgg hggd v0 v1 v2 hnn
    refine n_iload c_36_30 rfl ?_
    refine n_iload c_36_32 rfl ?_
    refine n_if2_ge c_36_34 (by omega) (by omega) ?_ ?_
    · intro h1
      exact n_rV c_36_63 rfl ⟨hS, by omega, by omega, by exact v2, by exact v0, by exact v1⟩
    · intro h2
      refine n_iload_n c_36_37 rfl ?_
      refine n_iload c_36_38 rfl ?_
      refine n_i_ishr c_36_40 rfl ?_
      have f3 := n_shr_r s x5
      generalize (n_shr s x5) = z4 at f3 ⊢
      refine n_iconst c_36_41 ?_
      refine n_i_iand c_36_42 rfl ?_
      have f5 := n_and_y (x := z4) (y := 1) (by omega)
      generalize (n_and z4 1) = z6 at f5 ⊢
      refine n_if0_eq c_36_43 (by omega) ?_ ?_
      · intro h7
        refine n_iinc (L2 := [some (2, q), some (0, 1), some (0, s), some (2, 4), some (0, x4), some (0, (x5 + 1))]) c_36_57 rfl rfl rfl ?_
        refine n_goto c_36_60 ?_
        refine n_fg (le_s (le_s (le_s (le_s (le_s (le_s le_0)))))) ?_
        exact ih _ _ M hS (by omega) (by omega) (by omega) (by omega) (by exact v0) (by exact v1) (by exact v2) (by omega)
      · intro h8
        refine n_aload_n c_36_46 rfl ?_
        refine n_aload_n c_36_47 rfl ?_
        refine n_iload c_36_48 rfl ?_
        refine n_iload_n c_36_50 rfl ?_
        refine n_v2I c_36_51 rfl sc_4.n rfl rfl rfl rfl (widen1_2 (n := x5) hS (by omega)) ?_
        intro z9 M10 hP11
        obtain ⟨eM, f11⟩ := hP11
        subst eM
        refine n_v1V c_36_54 rfl hq.c0.1.n rfl rfl rfl rfl (addWideX_2 (q := q) (r := z9) (g := (M 3 15)) (gd := (M 112 0)) hS hq (by omega) rfl rfl) ?_
        intro  M12 hP13
        obtain ⟨hS12, f13g0, f13g1, f13p0, f13p1, f13p2⟩ := hP13
        refine n_iinc (L2 := [some (2, q), some (0, 1), some (0, s), some (2, 4), some (0, x4), some (0, (x5 + 1))]) c_36_57 rfl rfl rfl ?_
        refine n_goto c_36_60 ?_
        refine n_fg (le_s (le_s (le_s (le_s (le_s (le_s le_0)))))) ?_
        exact ih _ _ M12 hS12 (by omega) (by omega) (by omega) (by omega) (by rw [f13p1]; exact v0) (by rw [f13p2]; exact v1) (by exact fun a i hc w => (f13p0 a i hc w).trans (v2 a i hc w)) (by omega)
set_option maxHeartbeats 4000000 in
theorem takeLX1_2 {xs : List Int32} {e : Nat} {ac : Int} {M : nM} {q s g gd : Int} {Ms : nM} (hS : Sf 2 ac M M) (hq : LawAt q) (hs : -2147483648 ≤ s ∧ s ≤ 2147483647) (hg : M 3 15 = g) (hgd : M 112 0 = gd) (hms : M = Ms) : nW xs (e + 1) 36 0 [some (2, q), some (0, 1), some (0, s), some (2, 4), none, none] [] M (nPV fun M1 => Sf 2 ac M1 M1 ∧ (M1 3 15 = g) ∧ (M1 112 0 = gd) ∧ (FL q Ms M1) ∧ (M1 q 0 = 1) ∧ (M1 q 1 = s)) := by
  have hd : (2 : Int) = 2 ∨ (2 : Int) = 3 := by decide
  have hac := hS.2.2.2.2
  refine n_aload_n c_36_0 rfl ?_
  refine n_iload_n c_36_1 rfl ?_
  refine n_putM (bi := 0) hS c_36_2 hq.c0.1.n rfl rfl rfl rfl (m_law hq (by omega) (by omega)) ?_
  intro M1 eM1 hS1
  have g1_0 : M1 3 15 = M 3 15 := by rw [eM1]; exact nu_a (by unfold LawAt at *; omega)
  have g1_1 : M1 112 0 = M 112 0 := by rw [eM1]; exact nu_a (by unfold LawAt at *; omega)
  have g1_2 : M1 q 0 = 1 := by rw [eM1]; exact nu_s _ _ _ _
  refine n_aload_n c_36_5 rfl ?_
  refine n_iload_n c_36_6 rfl ?_
  refine n_putM (bi := 1) hS1 c_36_7 hq.c0.1.n rfl rfl rfl rfl (m_law hq (by omega) (by omega)) ?_
  intro M2 eM2 hS2
  have g2_0 : M2 3 15 = M1 3 15 := by rw [eM2]; exact nu_a (by unfold LawAt at *; omega)
  have g2_1 : M2 112 0 = M1 112 0 := by rw [eM2]; exact nu_a (by unfold LawAt at *; omega)
  have g2_2 : M2 q 0 = M1 q 0 := by rw [eM2]; exact nu_i (by omega)
  have g2_3 : M2 q 1 = s := by rw [eM2]; exact nu_s _ _ _ _
  refine n_aload_n c_36_10 rfl ?_
  refine n_iconst c_36_11 ?_
  refine n_putM (bi := 2) hS2 c_36_12 hq.c0.1.n rfl rfl rfl rfl (m_law hq (by omega) (by omega)) ?_
  intro M3 eM3 hS3
  have g3_0 : M3 3 15 = M2 3 15 := by rw [eM3]; exact nu_a (by unfold LawAt at *; omega)
  have g3_1 : M3 112 0 = M2 112 0 := by rw [eM3]; exact nu_a (by unfold LawAt at *; omega)
  have g3_2 : M3 q 0 = M2 q 0 := by rw [eM3]; exact nu_i (by omega)
  have g3_3 : M3 q 1 = M2 q 1 := by rw [eM3]; exact nu_i (by omega)
  have g3_4 : M3 q 2 = 0 := by rw [eM3]; exact nu_s _ _ _ _
  refine n_aload_n c_36_15 rfl ?_
  refine n_iconst c_36_16 ?_
  refine n_putM (bi := 3) hS3 c_36_17 hq.c0.1.n rfl rfl rfl rfl (m_law hq (by omega) (by omega)) ?_
  intro M4 eM4 hS4
  have g4_0 : M4 3 15 = M3 3 15 := by rw [eM4]; exact nu_a (by unfold LawAt at *; omega)
  have g4_1 : M4 112 0 = M3 112 0 := by rw [eM4]; exact nu_a (by unfold LawAt at *; omega)
  have g4_2 : M4 q 0 = M3 q 0 := by rw [eM4]; exact nu_i (by omega)
  have g4_3 : M4 q 1 = M3 q 1 := by rw [eM4]; exact nu_i (by omega)
  have g4_4 : M4 q 2 = M3 q 2 := by rw [eM4]; exact nu_i (by omega)
  have g4_5 : M4 q 3 = 0 := by rw [eM4]; exact nu_s _ _ _ _
  refine n_aload_n c_36_20 rfl ?_
  refine n_iload_n c_36_21 rfl ?_
  refine n_v1I c_36_22 rfl sc_4.n rfl rfl rfl rfl (power1_2  hS4 ) ?_
  intro z5 M6 hP7
  obtain ⟨eM, f7⟩ := hP7
  subst eM
  obtain rfl : z5 = 2 := by omega
  refine n_istore (L2 := [some (2, q), some (0, 1), some (0, s), some (2, 4), some (0, 2), none]) c_36_25 rfl rfl ?_
  refine n_iconst c_36_27 ?_
  refine n_istore (L2 := [some (2, q), some (0, 1), some (0, s), some (2, 4), some (0, 2), some (0, 0)]) c_36_28 rfl rfl ?_
  refine n_fg (le_s (le_s (le_s (le_s (le_s (le_s le_0)))))) ?_
  exact (takeLX1_2_c hS hq hs hg hgd hms 18) _ _ M4 hS4 (by omega) (by omega) (by omega) (by omega) (by omega) (by omega) (by subst hms; exact (FL.u (FL.u (FL.u (FL.u (fun _ _ _ _ => rfl) eM1 (by omega)) eM2 (by omega)) eM3 (by omega)) eM4 (by omega))) (by omega)

set_option maxHeartbeats 4000000 in
theorem readLawX1_2_c {xs : List Int32} {e : Nat} {ac : Int} {M0 M : nM} {s : Int} (hS : Sf 2 ac M0 M) (hs : 0 ≤ s ∧ s ≤ 7) : ∀ nn : Nat, (∀ (x3 x4 x5 x6 : Int), (0 ≤ x3 ∧ x3 ≤ 27) → (0 ≤ x4 ∧ x4 ≤ 134217727) → (1 ≤ x5 ∧ x5 ≤ 82) → (0 ≤ x6 ∧ x6 ≤ 27) → (x4 = lset 2 1 (fun i => M 9 (40 * s + i)) x6.toNat) → (x5 = 1 + 1 * x6) → (RO 2 (M 11 s) (fun i => M 9 (40 * s + i)) x5) → (x3 = M 9 (40 * s + 0)) → (x6 ≤ x3) → (0 < M 11 s) → (27 - x6) * 1 + 1 < (nn : Int) → nW xs (e + 1) 128 27 [some (2, 3), some (0, 1), some (0, s), some (0, x3), some (0, x4), some (0, x5), some (0, x6), none, none, none] [] M (nPI fun z M1 => M = M1 ∧ (-6 ≤ z ∧ z ≤ 134217727) ∧ (rLawF 2 1 (M 11 s) (fun i => M 9 (40 * s + i)) z ∨ (rLawS 2 1 (M 11 s) (fun i => M 9 (40 * s + i)) ∧ z = lset 2 1 (fun i => M 9 (40 * s + i)) (M 9 (40 * s + 0)).toNat ∧ 0 ≤ z)))) := by
  have hd : (2 : Int) = 2 ∨ (2 : Int) = 3 := by decide
  have hac := hS.2.2.2.2
  intro nn
  induction nn with
  | zero => intros; omega
  | succ nn ih =>
    intro x3 x4 x5 x6 k3 k4 k5 k6 v0 v1 v2 v3 v4 v5 hnn
    refine n_iload c_128_27 rfl ?_
    refine n_iload_n c_128_29 rfl ?_
    refine n_if2_ge c_128_30 (by omega) (by omega) ?_ ?_
    · intro h1
      refine n_iload c_128_113 rfl ?_
      exact n_rI c_128_115 rfl ⟨rfl, by omega, by exact Or.inr ⟨⟨by omega, by show 0 ≤ M 9 (40 * s + 0); omega, by show M 9 (40 * s + 0) ≤ 27; omega, by have q : 1 + 1 * M 9 (40 * s + 0) = x5 := (by omega); show RO 2 (M 11 s) (fun i => M 9 (40 * s + i)) (1 + 1 * M 9 (40 * s + 0)); rw [q]; exact v2⟩, by rw [show M 9 (40 * s + 0) = x6 by omega]; exact v0, by omega⟩⟩
    · intro h2
      refine n_iconst c_128_33 ?_
      refine n_istore (L2 := [some (2, 3), some (0, 1), some (0, s), some (0, x3), some (0, x4), some (0, x5), some (0, x6), some (0, 0), none, none]) c_128_34 rfl rfl ?_
      refine n_iconst c_128_36 ?_
      refine n_istore (L2 := [some (2, 3), some (0, 1), some (0, s), some (0, x3), some (0, x4), some (0, x5), some (0, x6), some (0, 0), some (0, 0), none]) c_128_37 rfl rfl ?_
      refine n_iload c_128_39 rfl ?_
      refine n_iload_n c_128_41 rfl ?_
      refine n_if2_ge c_128_42 (by omega) (by omega) ?_ ?_
      · intro h3
        exfalso; omega
      · intro h4
        refine n_aload_n c_128_45 rfl ?_
        refine n_getR c_128_46 sc_3.n rfl rfl rfl r_3_1 ?_
        refine n_iload_n c_128_49 rfl ?_
        refine n_iload c_128_50 rfl ?_
        refine n_aload_n c_128_52 rfl ?_
        refine n_getR c_128_53 sc_3.n rfl rfl rfl r_3_0 ?_
        refine n_getV (bi := 0) c_128_56 sc_4.n rfl rfl rfl (t_4_0 hS) ?_
        intro z5 ez5 f6
        obtain rfl : z5 = 2 := by omega
        refine n_iconst c_128_59 ?_
        refine n_isub c_128_60 rfl ?_
        have hcst : ((2 - 1) : Int) = 1 := by omega
        rw [hcst]
        refine n_v3I c_128_61 rfl sc_8.n rfl rfl rfl rfl (readX1_2 (s := s) (i := x5) hS (by omega) (by omega)) ?_
        intro z7 M8 hP9
        obtain ⟨eM, f9, f9p0⟩ := hP9
        subst eM
        refine n_istore (L2 := [some (2, 3), some (0, 1), some (0, s), some (0, x3), some (0, x4), some (0, x5), some (0, x6), some (0, 0), some (0, 0), some (0, z7)]) c_128_64 rfl rfl ?_
        refine n_iload c_128_66 rfl ?_
        refine n_if0_ge c_128_68 (by omega) ?_ ?_
        · intro h10
          refine n_iload c_128_74 rfl ?_
          have ro11 := RO.ext v2 (x := x5) ⟨by omega, by show 0 ≤ M 9 (40 * s + x5); omega, by show M 9 (40 * s + x5) ≤ 2 - 1; omega⟩ rfl
          refine n_aload_n c_128_76 rfl ?_
          refine n_getR c_128_77 sc_3.n rfl rfl rfl r_3_0 ?_
          refine n_getV (bi := 0) c_128_80 sc_4.n rfl rfl rfl (t_4_0 hS) ?_
          intro z12 ez12 f13
          obtain rfl : z12 = 2 := by omega
          refine n_imul c_128_83 rfl ?_
          refine n_iload c_128_84 rfl ?_
          refine n_iadd c_128_86 rfl ?_
          refine n_istore (L2 := [some (2, 3), some (0, 1), some (0, s), some (0, x3), some (0, x4), some (0, x5), some (0, x6), some (0, ((0 * 2) + z7)), some (0, 0), some (0, z7)]) c_128_87 rfl rfl ?_
          refine n_iinc (L2 := [some (2, 3), some (0, 1), some (0, s), some (0, x3), some (0, x4), some (0, (x5 + 1)), some (0, x6), some (0, ((0 * 2) + z7)), some (0, 0), some (0, z7)]) c_128_89 rfl rfl rfl ?_
          refine n_iinc (L2 := [some (2, 3), some (0, 1), some (0, s), some (0, x3), some (0, x4), some (0, (x5 + 1)), some (0, x6), some (0, ((0 * 2) + z7)), some (0, (0 + 1)), some (0, z7)]) c_128_92 rfl rfl rfl ?_
          refine n_goto c_128_95 ?_
          refine n_iload c_128_39 rfl ?_
          refine n_iload_n c_128_41 rfl ?_
          refine n_if2_ge c_128_42 (by omega) (by omega) ?_ ?_
          · intro h14
            refine n_iload c_128_98 rfl ?_
            refine n_iconst c_128_100 ?_
            refine n_iload c_128_101 rfl ?_
            refine n_i_ishl c_128_103 rfl ?_
            refine n_i_ior c_128_104 rfl ?_
            have hor := (n_or_bit27 (s := x4) (r := ((0 * 2) + z7)) (by omega) (by omega)).1
            have hls := lset_go (d := 2) (k := 1) (f := (fun i => M 9 (40 * s + i))) (num := ((0 * 2) + z7)) v0 v1 (by omega) (by show _ = M 9 (40 * s + x5); omega)
            refine n_istore (L2 := [some (2, 3), some (0, 1), some (0, s), some (0, x3), some (0, (n_or x4 (n_shl 1 ((0 * 2) + z7)))), some (0, (x5 + 1)), some (0, x6), some (0, ((0 * 2) + z7)), some (0, (0 + 1)), some (0, z7)]) c_128_105 rfl rfl ?_
            refine n_iinc (L2 := [some (2, 3), some (0, 1), some (0, s), some (0, x3), some (0, (n_or x4 (n_shl 1 ((0 * 2) + z7)))), some (0, (x5 + 1)), some (0, (x6 + 1)), some (0, ((0 * 2) + z7)), some (0, (0 + 1)), some (0, z7)]) c_128_107 rfl rfl rfl ?_
            refine n_goto c_128_110 ?_
            refine n_fg (le_s (le_s (le_s (le_s (le_s (le_s (le_s (le_n (le_n (le_n le_0)))))))))) ?_
            exact ih _ _ _ _ (by omega) (by omega) (by omega) (by omega) (by exact hls) (by omega) (by exact ro11) (by omega) (by omega) (by omega) (by omega)
          · intro h15
            exfalso; omega
        · intro h16
          refine n_iload c_128_71 rfl ?_
          exact n_rI c_128_73 rfl ⟨rfl, by omega, by exact Or.inl (Or.inr (Or.inr ⟨by omega, by show 0 ≤ M 9 (40 * s + 0); omega, by show M 9 (40 * s + 0) ≤ 27; omega, x5, by omega, by show x5 < 1 + 1 * M 9 (40 * s + 0); omega, v2, by show (M 11 s ≤ x5 ∧ _ = -6) ∨ (x5 < M 11 s ∧ (M 9 (40 * s + x5) < 0 ∨ 2 - 1 < M 9 (40 * s + x5)) ∧ _ = -4); omega⟩))⟩
set_option maxHeartbeats 4000000 in
theorem readLawX1_2 {xs : List Int32} {e : Nat} {ac : Int} {M0 M : nM} {s : Int} (hS : Sf 2 ac M0 M) (hs : 0 ≤ s ∧ s ≤ 7) : nW xs (e + 1) 128 0 [some (2, 3), some (0, 1), some (0, s), none, none, none, none, none, none, none] [] M (nPI fun z M1 => M = M1 ∧ (-6 ≤ z ∧ z ≤ 134217727) ∧ (rLawF 2 1 (M 11 s) (fun i => M 9 (40 * s + i)) z ∨ (rLawS 2 1 (M 11 s) (fun i => M 9 (40 * s + i)) ∧ z = lset 2 1 (fun i => M 9 (40 * s + i)) (M 9 (40 * s + 0)).toNat ∧ 0 ≤ z))) := by
  have hd : (2 : Int) = 2 ∨ (2 : Int) = 3 := by decide
  have hac := hS.2.2.2.2
  refine n_aload_n c_128_0 rfl ?_
  refine n_getR c_128_1 sc_3.n rfl rfl rfl r_3_1 ?_
  refine n_iload_n c_128_4 rfl ?_
  refine n_iconst c_128_5 ?_
  refine n_bipush c_128_6 rfl ?_
  refine n_v3I c_128_8 rfl sc_8.n rfl rfl rfl rfl (readX27_2 (s := s) (i := 0) hS (by omega) (by omega)) ?_
  intro z1 M2 hP3
  obtain ⟨eM, f3, f3p0⟩ := hP3
  subst eM
  refine n_istore_n (L2 := [some (2, 3), some (0, 1), some (0, s), some (0, z1), none, none, none, none, none, none]) c_128_11 rfl rfl ?_
  refine n_iload_n c_128_12 rfl ?_
  refine n_if0_ge c_128_13 (by omega) ?_ ?_
  · intro h4
    refine n_iconst c_128_18 ?_
    refine n_istore (L2 := [some (2, 3), some (0, 1), some (0, s), some (0, z1), some (0, 0), none, none, none, none, none]) c_128_19 rfl rfl ?_
    refine n_iconst c_128_21 ?_
    refine n_istore (L2 := [some (2, 3), some (0, 1), some (0, s), some (0, z1), some (0, 0), some (0, 1), none, none, none, none]) c_128_22 rfl rfl ?_
    refine n_iconst c_128_24 ?_
    refine n_istore (L2 := [some (2, 3), some (0, 1), some (0, s), some (0, z1), some (0, 0), some (0, 1), some (0, 0), none, none, none]) c_128_25 rfl rfl ?_
    refine n_fg (le_s (le_s (le_s (le_s (le_s (le_s (le_s (le_n (le_n (le_n le_0)))))))))) ?_
    exact (readLawX1_2_c hS hs 68) _ _ _ _ (by omega) (by omega) (by omega) (by omega) (by rfl) (by omega) (by exact fun i h0 h1 => by omega) (by omega) (by omega) (by omega) (by omega)
  · intro h5
    refine n_iload_n c_128_16 rfl ?_
    exact n_rI c_128_17 rfl ⟨rfl, by omega, by rcases f3p0 with q | q | q <;> first | exact Or.inl (Or.inl ⟨by omega, by omega⟩) | exact Or.inl (Or.inr (Or.inl ⟨by omega, by show M 9 (40 * s + 0) < 0 ∨ 27 < M 9 (40 * s + 0); omega, by omega⟩)) | omega⟩

set_option maxHeartbeats 4000000 in
theorem lawX1_2 {xs : List Int32} {e : Nat} {ac : Int} {M : nM} {s gd : Int} (hS : Sf 2 ac M M) (hs : -2147483648 ≤ s ∧ s ≤ 2147483647) (hgd : M 112 0 = gd) : nW xs (e + 2) 98 0 [some (2, 3), some (0, 1), some (0, s), none] [] M (nPI fun z M1 => Sf 2 ac M1 M1 ∧ (-2147483648 ≤ z ∧ z ≤ 2147483647) ∧ (M1 112 0 = gd) ∧ (cLaw 2 1 s z M M1)) := by
  have hd : (2 : Int) = 2 ∨ (2 : Int) = 3 := by decide
  have hac := hS.2.2.2.2
  refine n_aload_n c_98_0 rfl ?_
  refine n_getR c_98_1 sc_3.n rfl rfl rfl r_3_1 ?_
  refine n_iload_n c_98_4 rfl ?_
  refine n_v1I c_98_5 rfl sc_8.n rfl rfl rfl rfl (isSlotF_2 (s := s) hS (by omega)) ?_
  intro z1 M2 hP3
  obtain ⟨eM, f3, f3p0⟩ := hP3
  subst eM
  refine n_if0_eq c_98_8 (by omega) ?_ ?_
  · intro h4
    refine n_bipush c_98_19 rfl ?_
    exact n_rI c_98_21 rfl ⟨hS, by omega, by omega, by exact Or.inl ⟨by omega, rfl, fun _ _ _ => rfl⟩⟩
  · intro h5
    refine n_aload_n c_98_11 rfl ?_
    refine n_iload_n c_98_12 rfl ?_
    refine n_v1I c_98_13 rfl sc_3.n rfl rfl rfl rfl (isPlaceCountF_2 (k := 1) hS (by omega)) ?_
    intro z6 M7 hP8
    obtain ⟨eM, f8, f8p0⟩ := hP8
    subst eM
    refine n_if0_ne c_98_16 (by omega) ?_ ?_
    · intro h9
      refine n_aload_n c_98_22 rfl ?_
      refine n_getV (bi := 15) c_98_23 sc_3.n rfl rfl rfl (t_3_15 hS) ?_
      intro z10 ez10 f11
      refine n_bipush c_98_26 rfl ?_
      refine n_if2_lt c_98_28 (by omega) (by omega) ?_ ?_
      · intro h12
        refine n_aload_n c_98_34 rfl ?_
        refine n_getR c_98_35 sc_3.n rfl rfl rfl r_3_1 ?_
        refine n_iload_n c_98_38 rfl ?_
        refine n_v1I c_98_39 rfl sc_8.n rfl rfl rfl rfl (hasRowF_2 (s := s) hS (by omega)) ?_
        intro z13 M14 hP15
        obtain ⟨eM, f15, f15p0⟩ := hP15
        subst eM
        refine n_if0_ne c_98_42 (by omega) ?_ ?_
        · intro h16
          refine n_aload_n c_98_48 rfl ?_
          refine n_iload_n c_98_49 rfl ?_
          refine n_iload_n c_98_50 rfl ?_
          refine n_v2I c_98_51 rfl sc_3.n rfl rfl rfl rfl (readLawX1_2 (s := s) hS (by omega)) ?_
          intro z17 M18 hP19
          obtain ⟨eM, f19, f19p0⟩ := hP19
          subst eM
          refine n_istore_n (L2 := [some (2, 3), some (0, 1), some (0, s), some (0, z17)]) c_98_54 rfl rfl ?_
          refine n_iload_n c_98_55 rfl ?_
          refine n_if0_ge c_98_56 (by omega) ?_ ?_
          · intro h20
            refine n_aload_n c_98_61 rfl ?_
            refine n_getR c_98_62 sc_3.n rfl rfl rfl r_3_3 ?_
            refine n_aload_n c_98_65 rfl ?_
            refine n_getV (bi := 15) c_98_66 sc_3.n rfl rfl rfl (t_3_15 hS) ?_
            intro z21 ez21 f22
            refine n_aaload c_98_69 sc_13.n rfl rfl rfl (by omega) (r_laws _) ?_
            have q23 : LawAt (79 + 2 * z21) := by unfold LawAt; omega
            refine n_iload_n c_98_70 rfl ?_
            refine n_iload_n c_98_71 rfl ?_
            refine n_aload_n c_98_72 rfl ?_
            refine n_getR c_98_73 sc_3.n rfl rfl rfl r_3_0 ?_
            refine n_v3V c_98_76 rfl q23.c0.1.n rfl rfl rfl rfl (takeLX1_2 (q := (79 + 2 * z21)) (s := z17) (g := (M 3 15)) (gd := (M 112 0)) (Ms := M) hS q23 (by omega) rfl rfl (by rfl)) ?_
            intro  M24 hP25
            obtain ⟨hS24, f25g0, f25g1, f25p0, f25p1, f25p2⟩ := hP25
            refine n_aload_n c_98_79 rfl ?_
            refine n_dup2 c_98_80 ?_
            refine n_getV (bi := 15) c_98_81 sc_3.n rfl rfl rfl (t_3_15 hS24) ?_
            intro z26 ez26 f27
            refine n_dup_x102 c_98_84 ?_
            refine n_iconst c_98_85 ?_
            refine n_iadd c_98_86 rfl ?_
            refine n_putM (bi := 15) hS24 c_98_87 sc_3.n rfl rfl rfl rfl (m_3_15 (by omega)) ?_
            intro M28 eM28 hS28
            have g28_0 : M28 112 0 = M24 112 0 := by rw [eM28]; exact nu_a (by omega)
            have g28_1 : M28 3 15 = (z26 + 1) := by rw [eM28]; exact nu_s _ _ _ _
            exact n_rI c_98_90 rfl ⟨hS28, by omega, by omega, by exact cLaw_ok (n := z21) (by omega) (by omega) (by omega) (by omega) (by omega) (by omega) (by rcases f19p0 with q | q; exact absurd q.neg (by omega); exact q) f25p0 f25p1 f25p2 eM28 (by omega) (by omega) (by omega)⟩
          · intro h29
            refine n_iload_n c_98_59 rfl ?_
            exact n_rI c_98_60 rfl ⟨hS, by omega, by omega, by exact Or.inr (Or.inr (Or.inr (Or.inl ⟨by omega, by omega, by omega, by omega, by omega, by omega, (by rcases f19p0 with q | q; exact q; have := q.2.2; omega), fun _ _ _ => rfl⟩)))⟩
        · intro h30
          refine n_bipush c_98_45 rfl ?_
          exact n_rI c_98_47 rfl ⟨hS, by omega, by omega, by exact Or.inr (Or.inr (Or.inl ⟨by omega, by omega, by omega, by omega, by omega, by omega, rfl, fun _ _ _ => rfl⟩))⟩
      · intro h31
        refine n_bipush c_98_31 rfl ?_
        exact n_rI c_98_33 rfl ⟨hS, by omega, by omega, by exact Or.inr (Or.inl ⟨by omega, by omega, by omega, by omega, by omega, rfl, fun _ _ _ => rfl⟩)⟩
    · intro h32
      refine n_bipush c_98_19 rfl ?_
      exact n_rI c_98_21 rfl ⟨hS, by omega, by omega, by exact Or.inl ⟨by omega, rfl, fun _ _ _ => rfl⟩⟩

set_option maxHeartbeats 4000000 in
theorem takeLX2_2_c {xs : List Int32} {e : Nat} {ac : Int} {M : nM} {q s g gd : Int} {Ms : nM} (hS : Sf 2 ac M M) (hq : LawAt q) (hs : -2147483648 ≤ s ∧ s ≤ 2147483647) (hg : M 3 15 = g) (hgd : M 112 0 = gd) (hms : M = Ms) : ∀ nn : Nat, (∀ (x4 x5 : Int) (M : nM), Sf 2 ac M M → (4 ≤ x4 ∧ x4 ≤ 4) → (0 ≤ x5 ∧ x5 ≤ 4) → (M 3 15 = g) → (M 112 0 = gd) → (M q 0 = 2) → (M q 1 = s) → (FL q Ms M) → (4 - x5) * 1 + 1 < (nn : Int) → nW xs (e + 1) 36 30 [some (2, q), some (0, 2), some (0, s), some (2, 4), some (0, x4), some (0, x5)] [] M (nPV fun M1 => Sf 2 ac M1 M1 ∧ (M1 3 15 = g) ∧ (M1 112 0 = gd) ∧ (FL q Ms M1) ∧ (M1 q 0 = 2) ∧ (M1 q 1 = s))) := by
  have hd : (2 : Int) = 2 ∨ (2 : Int) = 3 := by decide
  have hac := hS.2.2.2.2
  intro nn
  induction nn with
  | zero => intros; omega
  | succ nn ih =>
    intro x4 x5 M hS k4 k5 hgg hggd v0 v1 v2 hnn
    refine n_iload c_36_30 rfl ?_
    refine n_iload c_36_32 rfl ?_
    refine n_if2_ge c_36_34 (by omega) (by omega) ?_ ?_
    · intro h1
      exact n_rV c_36_63 rfl ⟨hS, by omega, by omega, by exact v2, by exact v0, by exact v1⟩
    · intro h2
      refine n_iload_n c_36_37 rfl ?_
      refine n_iload c_36_38 rfl ?_
      refine n_i_ishr c_36_40 rfl ?_
      have f3 := n_shr_r s x5
      generalize (n_shr s x5) = z4 at f3 ⊢
      refine n_iconst c_36_41 ?_
      refine n_i_iand c_36_42 rfl ?_
      have f5 := n_and_y (x := z4) (y := 1) (by omega)
      generalize (n_and z4 1) = z6 at f5 ⊢
      refine n_if0_eq c_36_43 (by omega) ?_ ?_
      · intro h7
        refine n_iinc (L2 := [some (2, q), some (0, 2), some (0, s), some (2, 4), some (0, x4), some (0, (x5 + 1))]) c_36_57 rfl rfl rfl ?_
        refine n_goto c_36_60 ?_
        refine n_fg (le_s (le_s (le_s (le_s (le_s (le_s le_0)))))) ?_
        exact ih _ _ M hS (by omega) (by omega) (by omega) (by omega) (by exact v0) (by exact v1) (by exact v2) (by omega)
      · intro h8
        refine n_aload_n c_36_46 rfl ?_
        refine n_aload_n c_36_47 rfl ?_
        refine n_iload c_36_48 rfl ?_
        refine n_iload_n c_36_50 rfl ?_
        refine n_v2I c_36_51 rfl sc_4.n rfl rfl rfl rfl (widen2_2 (n := x5) hS (by omega)) ?_
        intro z9 M10 hP11
        obtain ⟨eM, f11⟩ := hP11
        subst eM
        refine n_v1V c_36_54 rfl hq.c0.1.n rfl rfl rfl rfl (addWideX_2 (q := q) (r := z9) (g := (M 3 15)) (gd := (M 112 0)) hS hq (by omega) rfl rfl) ?_
        intro  M12 hP13
        obtain ⟨hS12, f13g0, f13g1, f13p0, f13p1, f13p2⟩ := hP13
        refine n_iinc (L2 := [some (2, q), some (0, 2), some (0, s), some (2, 4), some (0, x4), some (0, (x5 + 1))]) c_36_57 rfl rfl rfl ?_
        refine n_goto c_36_60 ?_
        refine n_fg (le_s (le_s (le_s (le_s (le_s (le_s le_0)))))) ?_
        exact ih _ _ M12 hS12 (by omega) (by omega) (by omega) (by omega) (by rw [f13p1]; exact v0) (by rw [f13p2]; exact v1) (by exact fun a i hc w => (f13p0 a i hc w).trans (v2 a i hc w)) (by omega)
set_option maxHeartbeats 4000000 in
theorem takeLX2_2 {xs : List Int32} {e : Nat} {ac : Int} {M : nM} {q s g gd : Int} {Ms : nM} (hS : Sf 2 ac M M) (hq : LawAt q) (hs : -2147483648 ≤ s ∧ s ≤ 2147483647) (hg : M 3 15 = g) (hgd : M 112 0 = gd) (hms : M = Ms) : nW xs (e + 1) 36 0 [some (2, q), some (0, 2), some (0, s), some (2, 4), none, none] [] M (nPV fun M1 => Sf 2 ac M1 M1 ∧ (M1 3 15 = g) ∧ (M1 112 0 = gd) ∧ (FL q Ms M1) ∧ (M1 q 0 = 2) ∧ (M1 q 1 = s)) := by
  have hd : (2 : Int) = 2 ∨ (2 : Int) = 3 := by decide
  have hac := hS.2.2.2.2
  refine n_aload_n c_36_0 rfl ?_
  refine n_iload_n c_36_1 rfl ?_
  refine n_putM (bi := 0) hS c_36_2 hq.c0.1.n rfl rfl rfl rfl (m_law hq (by omega) (by omega)) ?_
  intro M1 eM1 hS1
  have g1_0 : M1 3 15 = M 3 15 := by rw [eM1]; exact nu_a (by unfold LawAt at *; omega)
  have g1_1 : M1 112 0 = M 112 0 := by rw [eM1]; exact nu_a (by unfold LawAt at *; omega)
  have g1_2 : M1 q 0 = 2 := by rw [eM1]; exact nu_s _ _ _ _
  refine n_aload_n c_36_5 rfl ?_
  refine n_iload_n c_36_6 rfl ?_
  refine n_putM (bi := 1) hS1 c_36_7 hq.c0.1.n rfl rfl rfl rfl (m_law hq (by omega) (by omega)) ?_
  intro M2 eM2 hS2
  have g2_0 : M2 3 15 = M1 3 15 := by rw [eM2]; exact nu_a (by unfold LawAt at *; omega)
  have g2_1 : M2 112 0 = M1 112 0 := by rw [eM2]; exact nu_a (by unfold LawAt at *; omega)
  have g2_2 : M2 q 0 = M1 q 0 := by rw [eM2]; exact nu_i (by omega)
  have g2_3 : M2 q 1 = s := by rw [eM2]; exact nu_s _ _ _ _
  refine n_aload_n c_36_10 rfl ?_
  refine n_iconst c_36_11 ?_
  refine n_putM (bi := 2) hS2 c_36_12 hq.c0.1.n rfl rfl rfl rfl (m_law hq (by omega) (by omega)) ?_
  intro M3 eM3 hS3
  have g3_0 : M3 3 15 = M2 3 15 := by rw [eM3]; exact nu_a (by unfold LawAt at *; omega)
  have g3_1 : M3 112 0 = M2 112 0 := by rw [eM3]; exact nu_a (by unfold LawAt at *; omega)
  have g3_2 : M3 q 0 = M2 q 0 := by rw [eM3]; exact nu_i (by omega)
  have g3_3 : M3 q 1 = M2 q 1 := by rw [eM3]; exact nu_i (by omega)
  have g3_4 : M3 q 2 = 0 := by rw [eM3]; exact nu_s _ _ _ _
  refine n_aload_n c_36_15 rfl ?_
  refine n_iconst c_36_16 ?_
  refine n_putM (bi := 3) hS3 c_36_17 hq.c0.1.n rfl rfl rfl rfl (m_law hq (by omega) (by omega)) ?_
  intro M4 eM4 hS4
  have g4_0 : M4 3 15 = M3 3 15 := by rw [eM4]; exact nu_a (by unfold LawAt at *; omega)
  have g4_1 : M4 112 0 = M3 112 0 := by rw [eM4]; exact nu_a (by unfold LawAt at *; omega)
  have g4_2 : M4 q 0 = M3 q 0 := by rw [eM4]; exact nu_i (by omega)
  have g4_3 : M4 q 1 = M3 q 1 := by rw [eM4]; exact nu_i (by omega)
  have g4_4 : M4 q 2 = M3 q 2 := by rw [eM4]; exact nu_i (by omega)
  have g4_5 : M4 q 3 = 0 := by rw [eM4]; exact nu_s _ _ _ _
  refine n_aload_n c_36_20 rfl ?_
  refine n_iload_n c_36_21 rfl ?_
  refine n_v1I c_36_22 rfl sc_4.n rfl rfl rfl rfl (power2_2  hS4 ) ?_
  intro z5 M6 hP7
  obtain ⟨eM, f7⟩ := hP7
  subst eM
  obtain rfl : z5 = 4 := by omega
  refine n_istore (L2 := [some (2, q), some (0, 2), some (0, s), some (2, 4), some (0, 4), none]) c_36_25 rfl rfl ?_
  refine n_iconst c_36_27 ?_
  refine n_istore (L2 := [some (2, q), some (0, 2), some (0, s), some (2, 4), some (0, 4), some (0, 0)]) c_36_28 rfl rfl ?_
  refine n_fg (le_s (le_s (le_s (le_s (le_s (le_s le_0)))))) ?_
  exact (takeLX2_2_c hS hq hs hg hgd hms 22) _ _ M4 hS4 (by omega) (by omega) (by omega) (by omega) (by omega) (by omega) (by subst hms; exact (FL.u (FL.u (FL.u (FL.u (fun _ _ _ _ => rfl) eM1 (by omega)) eM2 (by omega)) eM3 (by omega)) eM4 (by omega))) (by omega)

set_option maxHeartbeats 4000000 in
theorem readLawX2_2_c {xs : List Int32} {e : Nat} {ac : Int} {M0 M : nM} {s : Int} (hS : Sf 2 ac M0 M) (hs : 0 ≤ s ∧ s ≤ 7) : ∀ nn : Nat, (∀ (x3 x4 x5 x6 : Int), (0 ≤ x3 ∧ x3 ≤ 27) → (0 ≤ x4 ∧ x4 ≤ 134217727) → (1 ≤ x5 ∧ x5 ≤ 82) → (0 ≤ x6 ∧ x6 ≤ 27) → (x4 = lset 2 2 (fun i => M 9 (40 * s + i)) x6.toNat) → (x5 = 1 + 2 * x6) → (RO 2 (M 11 s) (fun i => M 9 (40 * s + i)) x5) → (x3 = M 9 (40 * s + 0)) → (x6 ≤ x3) → (0 < M 11 s) → (27 - x6) * 1 + 1 < (nn : Int) → nW xs (e + 1) 128 27 [some (2, 3), some (0, 2), some (0, s), some (0, x3), some (0, x4), some (0, x5), some (0, x6), none, none, none] [] M (nPI fun z M1 => M = M1 ∧ (-6 ≤ z ∧ z ≤ 134217727) ∧ (rLawF 2 2 (M 11 s) (fun i => M 9 (40 * s + i)) z ∨ (rLawS 2 2 (M 11 s) (fun i => M 9 (40 * s + i)) ∧ z = lset 2 2 (fun i => M 9 (40 * s + i)) (M 9 (40 * s + 0)).toNat ∧ 0 ≤ z)))) := by
  have hd : (2 : Int) = 2 ∨ (2 : Int) = 3 := by decide
  have hac := hS.2.2.2.2
  intro nn
  induction nn with
  | zero => intros; omega
  | succ nn ih =>
    intro x3 x4 x5 x6 k3 k4 k5 k6 v0 v1 v2 v3 v4 v5 hnn
    refine n_iload c_128_27 rfl ?_
    refine n_iload_n c_128_29 rfl ?_
    refine n_if2_ge c_128_30 (by omega) (by omega) ?_ ?_
    · intro h1
      refine n_iload c_128_113 rfl ?_
      exact n_rI c_128_115 rfl ⟨rfl, by omega, by exact Or.inr ⟨⟨by omega, by show 0 ≤ M 9 (40 * s + 0); omega, by show M 9 (40 * s + 0) ≤ 27; omega, by have q : 1 + 2 * M 9 (40 * s + 0) = x5 := (by omega); show RO 2 (M 11 s) (fun i => M 9 (40 * s + i)) (1 + 2 * M 9 (40 * s + 0)); rw [q]; exact v2⟩, by rw [show M 9 (40 * s + 0) = x6 by omega]; exact v0, by omega⟩⟩
    · intro h2
      refine n_iconst c_128_33 ?_
      refine n_istore (L2 := [some (2, 3), some (0, 2), some (0, s), some (0, x3), some (0, x4), some (0, x5), some (0, x6), some (0, 0), none, none]) c_128_34 rfl rfl ?_
      refine n_iconst c_128_36 ?_
      refine n_istore (L2 := [some (2, 3), some (0, 2), some (0, s), some (0, x3), some (0, x4), some (0, x5), some (0, x6), some (0, 0), some (0, 0), none]) c_128_37 rfl rfl ?_
      refine n_iload c_128_39 rfl ?_
      refine n_iload_n c_128_41 rfl ?_
      refine n_if2_ge c_128_42 (by omega) (by omega) ?_ ?_
      · intro h3
        exfalso; omega
      · intro h4
        refine n_aload_n c_128_45 rfl ?_
        refine n_getR c_128_46 sc_3.n rfl rfl rfl r_3_1 ?_
        refine n_iload_n c_128_49 rfl ?_
        refine n_iload c_128_50 rfl ?_
        refine n_aload_n c_128_52 rfl ?_
        refine n_getR c_128_53 sc_3.n rfl rfl rfl r_3_0 ?_
        refine n_getV (bi := 0) c_128_56 sc_4.n rfl rfl rfl (t_4_0 hS) ?_
        intro z5 ez5 f6
        obtain rfl : z5 = 2 := by omega
        refine n_iconst c_128_59 ?_
        refine n_isub c_128_60 rfl ?_
        have hcst : ((2 - 1) : Int) = 1 := by omega
        rw [hcst]
        refine n_v3I c_128_61 rfl sc_8.n rfl rfl rfl rfl (readX1_2 (s := s) (i := x5) hS (by omega) (by omega)) ?_
        intro z7 M8 hP9
        obtain ⟨eM, f9, f9p0⟩ := hP9
        subst eM
        refine n_istore (L2 := [some (2, 3), some (0, 2), some (0, s), some (0, x3), some (0, x4), some (0, x5), some (0, x6), some (0, 0), some (0, 0), some (0, z7)]) c_128_64 rfl rfl ?_
        refine n_iload c_128_66 rfl ?_
        refine n_if0_ge c_128_68 (by omega) ?_ ?_
        · intro h10
          refine n_iload c_128_74 rfl ?_
          have ro11 := RO.ext v2 (x := x5) ⟨by omega, by show 0 ≤ M 9 (40 * s + x5); omega, by show M 9 (40 * s + x5) ≤ 2 - 1; omega⟩ rfl
          refine n_aload_n c_128_76 rfl ?_
          refine n_getR c_128_77 sc_3.n rfl rfl rfl r_3_0 ?_
          refine n_getV (bi := 0) c_128_80 sc_4.n rfl rfl rfl (t_4_0 hS) ?_
          intro z12 ez12 f13
          obtain rfl : z12 = 2 := by omega
          refine n_imul c_128_83 rfl ?_
          refine n_iload c_128_84 rfl ?_
          refine n_iadd c_128_86 rfl ?_
          refine n_istore (L2 := [some (2, 3), some (0, 2), some (0, s), some (0, x3), some (0, x4), some (0, x5), some (0, x6), some (0, ((0 * 2) + z7)), some (0, 0), some (0, z7)]) c_128_87 rfl rfl ?_
          refine n_iinc (L2 := [some (2, 3), some (0, 2), some (0, s), some (0, x3), some (0, x4), some (0, (x5 + 1)), some (0, x6), some (0, ((0 * 2) + z7)), some (0, 0), some (0, z7)]) c_128_89 rfl rfl rfl ?_
          refine n_iinc (L2 := [some (2, 3), some (0, 2), some (0, s), some (0, x3), some (0, x4), some (0, (x5 + 1)), some (0, x6), some (0, ((0 * 2) + z7)), some (0, (0 + 1)), some (0, z7)]) c_128_92 rfl rfl rfl ?_
          refine n_goto c_128_95 ?_
          refine n_iload c_128_39 rfl ?_
          refine n_iload_n c_128_41 rfl ?_
          refine n_if2_ge c_128_42 (by omega) (by omega) ?_ ?_
          · intro h14
            exfalso; omega
          · intro h15
            refine n_aload_n c_128_45 rfl ?_
            refine n_getR c_128_46 sc_3.n rfl rfl rfl r_3_1 ?_
            refine n_iload_n c_128_49 rfl ?_
            refine n_iload c_128_50 rfl ?_
            refine n_aload_n c_128_52 rfl ?_
            refine n_getR c_128_53 sc_3.n rfl rfl rfl r_3_0 ?_
            refine n_getV (bi := 0) c_128_56 sc_4.n rfl rfl rfl (t_4_0 hS) ?_
            intro z16 ez16 f17
            obtain rfl : z16 = 2 := by omega
            refine n_iconst c_128_59 ?_
            refine n_isub c_128_60 rfl ?_
            have hcst : ((2 - 1) : Int) = 1 := by omega
            rw [hcst]
            refine n_v3I c_128_61 rfl sc_8.n rfl rfl rfl rfl (readX1_2 (s := s) (i := (x5 + 1)) hS (by omega) (by omega)) ?_
            intro z18 M19 hP20
            obtain ⟨eM, f20, f20p0⟩ := hP20
            subst eM
            refine n_istore (L2 := [some (2, 3), some (0, 2), some (0, s), some (0, x3), some (0, x4), some (0, (x5 + 1)), some (0, x6), some (0, ((0 * 2) + z7)), some (0, (0 + 1)), some (0, z18)]) c_128_64 rfl rfl ?_
            refine n_iload c_128_66 rfl ?_
            refine n_if0_ge c_128_68 (by omega) ?_ ?_
            · intro h21
              refine n_iload c_128_74 rfl ?_
              have ro22 := RO.ext ro11 (x := (x5 + 1)) ⟨by omega, by show 0 ≤ M 9 (40 * s + (x5 + 1)); omega, by show M 9 (40 * s + (x5 + 1)) ≤ 2 - 1; omega⟩ rfl
              refine n_aload_n c_128_76 rfl ?_
              refine n_getR c_128_77 sc_3.n rfl rfl rfl r_3_0 ?_
              refine n_getV (bi := 0) c_128_80 sc_4.n rfl rfl rfl (t_4_0 hS) ?_
              intro z23 ez23 f24
              obtain rfl : z23 = 2 := by omega
              refine n_imul c_128_83 rfl ?_
              refine n_iload c_128_84 rfl ?_
              refine n_iadd c_128_86 rfl ?_
              refine n_istore (L2 := [some (2, 3), some (0, 2), some (0, s), some (0, x3), some (0, x4), some (0, (x5 + 1)), some (0, x6), some (0, ((((0 * 2) + z7) * 2) + z18)), some (0, (0 + 1)), some (0, z18)]) c_128_87 rfl rfl ?_
              refine n_iinc (L2 := [some (2, 3), some (0, 2), some (0, s), some (0, x3), some (0, x4), some (0, ((x5 + 1) + 1)), some (0, x6), some (0, ((((0 * 2) + z7) * 2) + z18)), some (0, (0 + 1)), some (0, z18)]) c_128_89 rfl rfl rfl ?_
              refine n_iinc (L2 := [some (2, 3), some (0, 2), some (0, s), some (0, x3), some (0, x4), some (0, ((x5 + 1) + 1)), some (0, x6), some (0, ((((0 * 2) + z7) * 2) + z18)), some (0, ((0 + 1) + 1)), some (0, z18)]) c_128_92 rfl rfl rfl ?_
              refine n_goto c_128_95 ?_
              refine n_iload c_128_39 rfl ?_
              refine n_iload_n c_128_41 rfl ?_
              refine n_if2_ge c_128_42 (by omega) (by omega) ?_ ?_
              · intro h25
                refine n_iload c_128_98 rfl ?_
                refine n_iconst c_128_100 ?_
                refine n_iload c_128_101 rfl ?_
                refine n_i_ishl c_128_103 rfl ?_
                refine n_i_ior c_128_104 rfl ?_
                have hor := (n_or_bit27 (s := x4) (r := ((((0 * 2) + z7) * 2) + z18)) (by omega) (by omega)).1
                have hls := lset_go (d := 2) (k := 2) (f := (fun i => M 9 (40 * s + i))) (num := ((((0 * 2) + z7) * 2) + z18)) v0 v1 (by omega) (by show _ = M 9 (40 * s + x5) * 2 + M 9 (40 * s + (x5 + 1)); omega)
                refine n_istore (L2 := [some (2, 3), some (0, 2), some (0, s), some (0, x3), some (0, (n_or x4 (n_shl 1 ((((0 * 2) + z7) * 2) + z18)))), some (0, ((x5 + 1) + 1)), some (0, x6), some (0, ((((0 * 2) + z7) * 2) + z18)), some (0, ((0 + 1) + 1)), some (0, z18)]) c_128_105 rfl rfl ?_
                refine n_iinc (L2 := [some (2, 3), some (0, 2), some (0, s), some (0, x3), some (0, (n_or x4 (n_shl 1 ((((0 * 2) + z7) * 2) + z18)))), some (0, ((x5 + 1) + 1)), some (0, (x6 + 1)), some (0, ((((0 * 2) + z7) * 2) + z18)), some (0, ((0 + 1) + 1)), some (0, z18)]) c_128_107 rfl rfl rfl ?_
                refine n_goto c_128_110 ?_
                refine n_fg (le_s (le_s (le_s (le_s (le_s (le_s (le_s (le_n (le_n (le_n le_0)))))))))) ?_
                exact ih _ _ _ _ (by omega) (by omega) (by omega) (by omega) (by exact hls) (by omega) (by exact ro22) (by omega) (by omega) (by omega) (by omega)
              · intro h26
                exfalso; omega
            · intro h27
              refine n_iload c_128_71 rfl ?_
              exact n_rI c_128_73 rfl ⟨rfl, by omega, by exact Or.inl (Or.inr (Or.inr ⟨by omega, by show 0 ≤ M 9 (40 * s + 0); omega, by show M 9 (40 * s + 0) ≤ 27; omega, (x5 + 1), by omega, by show (x5 + 1) < 1 + 2 * M 9 (40 * s + 0); omega, ro11, by show (M 11 s ≤ (x5 + 1) ∧ _ = -6) ∨ ((x5 + 1) < M 11 s ∧ (M 9 (40 * s + (x5 + 1)) < 0 ∨ 2 - 1 < M 9 (40 * s + (x5 + 1))) ∧ _ = -4); omega⟩))⟩
        · intro h28
          refine n_iload c_128_71 rfl ?_
          exact n_rI c_128_73 rfl ⟨rfl, by omega, by exact Or.inl (Or.inr (Or.inr ⟨by omega, by show 0 ≤ M 9 (40 * s + 0); omega, by show M 9 (40 * s + 0) ≤ 27; omega, x5, by omega, by show x5 < 1 + 2 * M 9 (40 * s + 0); omega, v2, by show (M 11 s ≤ x5 ∧ _ = -6) ∨ (x5 < M 11 s ∧ (M 9 (40 * s + x5) < 0 ∨ 2 - 1 < M 9 (40 * s + x5)) ∧ _ = -4); omega⟩))⟩
set_option maxHeartbeats 4000000 in
theorem readLawX2_2 {xs : List Int32} {e : Nat} {ac : Int} {M0 M : nM} {s : Int} (hS : Sf 2 ac M0 M) (hs : 0 ≤ s ∧ s ≤ 7) : nW xs (e + 1) 128 0 [some (2, 3), some (0, 2), some (0, s), none, none, none, none, none, none, none] [] M (nPI fun z M1 => M = M1 ∧ (-6 ≤ z ∧ z ≤ 134217727) ∧ (rLawF 2 2 (M 11 s) (fun i => M 9 (40 * s + i)) z ∨ (rLawS 2 2 (M 11 s) (fun i => M 9 (40 * s + i)) ∧ z = lset 2 2 (fun i => M 9 (40 * s + i)) (M 9 (40 * s + 0)).toNat ∧ 0 ≤ z))) := by
  have hd : (2 : Int) = 2 ∨ (2 : Int) = 3 := by decide
  have hac := hS.2.2.2.2
  refine n_aload_n c_128_0 rfl ?_
  refine n_getR c_128_1 sc_3.n rfl rfl rfl r_3_1 ?_
  refine n_iload_n c_128_4 rfl ?_
  refine n_iconst c_128_5 ?_
  refine n_bipush c_128_6 rfl ?_
  refine n_v3I c_128_8 rfl sc_8.n rfl rfl rfl rfl (readX27_2 (s := s) (i := 0) hS (by omega) (by omega)) ?_
  intro z1 M2 hP3
  obtain ⟨eM, f3, f3p0⟩ := hP3
  subst eM
  refine n_istore_n (L2 := [some (2, 3), some (0, 2), some (0, s), some (0, z1), none, none, none, none, none, none]) c_128_11 rfl rfl ?_
  refine n_iload_n c_128_12 rfl ?_
  refine n_if0_ge c_128_13 (by omega) ?_ ?_
  · intro h4
    refine n_iconst c_128_18 ?_
    refine n_istore (L2 := [some (2, 3), some (0, 2), some (0, s), some (0, z1), some (0, 0), none, none, none, none, none]) c_128_19 rfl rfl ?_
    refine n_iconst c_128_21 ?_
    refine n_istore (L2 := [some (2, 3), some (0, 2), some (0, s), some (0, z1), some (0, 0), some (0, 1), none, none, none, none]) c_128_22 rfl rfl ?_
    refine n_iconst c_128_24 ?_
    refine n_istore (L2 := [some (2, 3), some (0, 2), some (0, s), some (0, z1), some (0, 0), some (0, 1), some (0, 0), none, none, none]) c_128_25 rfl rfl ?_
    refine n_fg (le_s (le_s (le_s (le_s (le_s (le_s (le_s (le_n (le_n (le_n le_0)))))))))) ?_
    exact (readLawX2_2_c hS hs 68) _ _ _ _ (by omega) (by omega) (by omega) (by omega) (by rfl) (by omega) (by exact fun i h0 h1 => by omega) (by omega) (by omega) (by omega) (by omega)
  · intro h5
    refine n_iload_n c_128_16 rfl ?_
    exact n_rI c_128_17 rfl ⟨rfl, by omega, by rcases f3p0 with q | q | q <;> first | exact Or.inl (Or.inl ⟨by omega, by omega⟩) | exact Or.inl (Or.inr (Or.inl ⟨by omega, by show M 9 (40 * s + 0) < 0 ∨ 27 < M 9 (40 * s + 0); omega, by omega⟩)) | omega⟩

set_option maxHeartbeats 4000000 in
theorem lawX2_2 {xs : List Int32} {e : Nat} {ac : Int} {M : nM} {s gd : Int} (hS : Sf 2 ac M M) (hs : -2147483648 ≤ s ∧ s ≤ 2147483647) (hgd : M 112 0 = gd) : nW xs (e + 2) 98 0 [some (2, 3), some (0, 2), some (0, s), none] [] M (nPI fun z M1 => Sf 2 ac M1 M1 ∧ (-2147483648 ≤ z ∧ z ≤ 2147483647) ∧ (M1 112 0 = gd) ∧ (cLaw 2 2 s z M M1)) := by
  have hd : (2 : Int) = 2 ∨ (2 : Int) = 3 := by decide
  have hac := hS.2.2.2.2
  refine n_aload_n c_98_0 rfl ?_
  refine n_getR c_98_1 sc_3.n rfl rfl rfl r_3_1 ?_
  refine n_iload_n c_98_4 rfl ?_
  refine n_v1I c_98_5 rfl sc_8.n rfl rfl rfl rfl (isSlotF_2 (s := s) hS (by omega)) ?_
  intro z1 M2 hP3
  obtain ⟨eM, f3, f3p0⟩ := hP3
  subst eM
  refine n_if0_eq c_98_8 (by omega) ?_ ?_
  · intro h4
    refine n_bipush c_98_19 rfl ?_
    exact n_rI c_98_21 rfl ⟨hS, by omega, by omega, by exact Or.inl ⟨by omega, rfl, fun _ _ _ => rfl⟩⟩
  · intro h5
    refine n_aload_n c_98_11 rfl ?_
    refine n_iload_n c_98_12 rfl ?_
    refine n_v1I c_98_13 rfl sc_3.n rfl rfl rfl rfl (isPlaceCountF_2 (k := 2) hS (by omega)) ?_
    intro z6 M7 hP8
    obtain ⟨eM, f8, f8p0⟩ := hP8
    subst eM
    refine n_if0_ne c_98_16 (by omega) ?_ ?_
    · intro h9
      refine n_aload_n c_98_22 rfl ?_
      refine n_getV (bi := 15) c_98_23 sc_3.n rfl rfl rfl (t_3_15 hS) ?_
      intro z10 ez10 f11
      refine n_bipush c_98_26 rfl ?_
      refine n_if2_lt c_98_28 (by omega) (by omega) ?_ ?_
      · intro h12
        refine n_aload_n c_98_34 rfl ?_
        refine n_getR c_98_35 sc_3.n rfl rfl rfl r_3_1 ?_
        refine n_iload_n c_98_38 rfl ?_
        refine n_v1I c_98_39 rfl sc_8.n rfl rfl rfl rfl (hasRowF_2 (s := s) hS (by omega)) ?_
        intro z13 M14 hP15
        obtain ⟨eM, f15, f15p0⟩ := hP15
        subst eM
        refine n_if0_ne c_98_42 (by omega) ?_ ?_
        · intro h16
          refine n_aload_n c_98_48 rfl ?_
          refine n_iload_n c_98_49 rfl ?_
          refine n_iload_n c_98_50 rfl ?_
          refine n_v2I c_98_51 rfl sc_3.n rfl rfl rfl rfl (readLawX2_2 (s := s) hS (by omega)) ?_
          intro z17 M18 hP19
          obtain ⟨eM, f19, f19p0⟩ := hP19
          subst eM
          refine n_istore_n (L2 := [some (2, 3), some (0, 2), some (0, s), some (0, z17)]) c_98_54 rfl rfl ?_
          refine n_iload_n c_98_55 rfl ?_
          refine n_if0_ge c_98_56 (by omega) ?_ ?_
          · intro h20
            refine n_aload_n c_98_61 rfl ?_
            refine n_getR c_98_62 sc_3.n rfl rfl rfl r_3_3 ?_
            refine n_aload_n c_98_65 rfl ?_
            refine n_getV (bi := 15) c_98_66 sc_3.n rfl rfl rfl (t_3_15 hS) ?_
            intro z21 ez21 f22
            refine n_aaload c_98_69 sc_13.n rfl rfl rfl (by omega) (r_laws _) ?_
            have q23 : LawAt (79 + 2 * z21) := by unfold LawAt; omega
            refine n_iload_n c_98_70 rfl ?_
            refine n_iload_n c_98_71 rfl ?_
            refine n_aload_n c_98_72 rfl ?_
            refine n_getR c_98_73 sc_3.n rfl rfl rfl r_3_0 ?_
            refine n_v3V c_98_76 rfl q23.c0.1.n rfl rfl rfl rfl (takeLX2_2 (q := (79 + 2 * z21)) (s := z17) (g := (M 3 15)) (gd := (M 112 0)) (Ms := M) hS q23 (by omega) rfl rfl (by rfl)) ?_
            intro  M24 hP25
            obtain ⟨hS24, f25g0, f25g1, f25p0, f25p1, f25p2⟩ := hP25
            refine n_aload_n c_98_79 rfl ?_
            refine n_dup2 c_98_80 ?_
            refine n_getV (bi := 15) c_98_81 sc_3.n rfl rfl rfl (t_3_15 hS24) ?_
            intro z26 ez26 f27
            refine n_dup_x102 c_98_84 ?_
            refine n_iconst c_98_85 ?_
            refine n_iadd c_98_86 rfl ?_
            refine n_putM (bi := 15) hS24 c_98_87 sc_3.n rfl rfl rfl rfl (m_3_15 (by omega)) ?_
            intro M28 eM28 hS28
            have g28_0 : M28 112 0 = M24 112 0 := by rw [eM28]; exact nu_a (by omega)
            have g28_1 : M28 3 15 = (z26 + 1) := by rw [eM28]; exact nu_s _ _ _ _
            exact n_rI c_98_90 rfl ⟨hS28, by omega, by omega, by exact cLaw_ok (n := z21) (by omega) (by omega) (by omega) (by omega) (by omega) (by omega) (by rcases f19p0 with q | q; exact absurd q.neg (by omega); exact q) f25p0 f25p1 f25p2 eM28 (by omega) (by omega) (by omega)⟩
          · intro h29
            refine n_iload_n c_98_59 rfl ?_
            exact n_rI c_98_60 rfl ⟨hS, by omega, by omega, by exact Or.inr (Or.inr (Or.inr (Or.inl ⟨by omega, by omega, by omega, by omega, by omega, by omega, (by rcases f19p0 with q | q; exact q; have := q.2.2; omega), fun _ _ _ => rfl⟩)))⟩
        · intro h30
          refine n_bipush c_98_45 rfl ?_
          exact n_rI c_98_47 rfl ⟨hS, by omega, by omega, by exact Or.inr (Or.inr (Or.inl ⟨by omega, by omega, by omega, by omega, by omega, by omega, rfl, fun _ _ _ => rfl⟩))⟩
      · intro h31
        refine n_bipush c_98_31 rfl ?_
        exact n_rI c_98_33 rfl ⟨hS, by omega, by omega, by exact Or.inr (Or.inl ⟨by omega, by omega, by omega, by omega, by omega, rfl, fun _ _ _ => rfl⟩)⟩
    · intro h32
      refine n_bipush c_98_19 rfl ?_
      exact n_rI c_98_21 rfl ⟨hS, by omega, by omega, by exact Or.inl ⟨by omega, rfl, fun _ _ _ => rfl⟩⟩
