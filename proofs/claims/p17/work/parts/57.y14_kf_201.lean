/-! What the methods tell. -/
set_option maxHeartbeats 4000000 in
theorem mactsOfX2_2 {xs : List Int32} {e : Nat} {ac : Int} {M : nM} {m gd : Int} {Ms : nM} (hS : Sf 2 ac M M) (hdm : M 112 0 = 2) (hm : -2147483648 ≤ m ∧ m ≤ 2147483647) (hgd : M 112 0 = gd) (hms : M = Ms) (hmk : Ms 112 21 = 2 → 0 ≤ Ms 112 20 → Ms 112 22 = KNm 2 2 (Ms 112 20) Ms ∧ LQk 2 2 (Ms 112 20) Ms Ms) (hl2 : ∀ l : Int, 0 ≤ l → l < Ms 112 7 → 1 ≤ Ms 118 l) : nW xs (e + 5) 174 0 [some (2, 112), some (0, m), some (0, 2)] [] M (nPI fun z M1 => Sf 2 ac M1 M1 ∧ (-2147483648 ≤ z ∧ z ≤ 2147483647) ∧ (M1 112 0 = gd) ∧ (mKp 2 2 m Ms M1) ∧ (z = M1 112 22)) := by
  have hd : (2 : Int) = 2 ∨ (2 : Int) = 3 := by decide
  have hac := hS.2.2.2.2
  refine n_aload_n c_174_0 rfl (n_iload_n c_174_1 rfl (n_v1I c_174_2 rfl sc_112.n rfl rfl rfl rfl (misMakeF_2 (n := 2) hS (by omega) (by omega)) ?_))
  intro z1 M2 hP3
  obtain ⟨eM, f3⟩ := hP3
  subst eM
  obtain rfl : z1 = 1 := by omega
  refine n_if0_ne c_174_5 (by omega) ?_ ?_
  · intro h4
    refine n_aload_n c_174_10 rfl (n_iload_n c_174_11 rfl (n_iload_n c_174_12 rfl ?_))
    refine n_v2V c_174_13 rfl sc_112.n rfl rfl rfl rfl (mlistsX2_2 (m := m) (Ms := M) hS (by omega) (by omega) (by rfl) (by rw [hms]; exact hmk) (by rw [hms]; exact hl2)) ?_
    intro  M5 hP6
    obtain ⟨hS5, f6p0⟩ := hP6
    have g112 := f6p0.2.2.2.1 112 0 (by unfold core0; omega)
    refine n_aload_n c_174_16 rfl (n_getV (bi := 22) c_174_17 sc_112.n rfl rfl rfl (t_112_22 hS5) ?_)
    intro z7 ez7 f8
    exact n_rI c_174_20 rfl ⟨hS5, by omega, by omega, by have y := f6p0; rw [hms] at y; exact y, by exact ez7⟩
  · intro h9
    exfalso; omega

set_option maxHeartbeats 4000000 in
theorem mactOfX2_2 {xs : List Int32} {e : Nat} {ac : Int} {M : nM} {m i gd : Int} {Ms : nM} (hS : Sf 2 ac M M) (hdm : M 112 0 = 2) (hm : -2147483648 ≤ m ∧ m ≤ 2147483647) (hi : -2147483648 ≤ i ∧ i ≤ 2147483647) (hgd : M 112 0 = gd) (hms : M = Ms) (hmk : Ms 112 21 = 2 → 0 ≤ Ms 112 20 → Ms 112 22 = KNm 2 2 (Ms 112 20) Ms ∧ LQk 2 2 (Ms 112 20) Ms Ms) (hl2 : ∀ l : Int, 0 ≤ l → l < Ms 112 7 → 1 ≤ Ms 118 l) : nW xs (e + 5) 175 0 [some (2, 112), some (0, m), some (0, 2), some (0, i)] [] M (nPI fun z M1 => Sf 2 ac M1 M1 ∧ (-2147483648 ≤ z ∧ z ≤ 2147483647) ∧ (M1 112 0 = gd) ∧ (mKp 2 2 m Ms M1) ∧ (mLi i z M1)) := by
  have hd : (2 : Int) = 2 ∨ (2 : Int) = 3 := by decide
  have hac := hS.2.2.2.2
  refine n_aload_n c_175_0 rfl (n_iload_n c_175_1 rfl (n_v1I c_175_2 rfl sc_112.n rfl rfl rfl rfl (misMakeF_2 (n := 2) hS (by omega) (by omega)) ?_))
  intro z1 M2 hP3
  obtain ⟨eM, f3⟩ := hP3
  subst eM
  obtain rfl : z1 = 1 := by omega
  refine n_if0_ne c_175_5 (by omega) ?_ ?_
  · intro h4
    refine n_aload_n c_175_10 rfl (n_iload_n c_175_11 rfl (n_iload_n c_175_12 rfl ?_))
    refine n_v2V c_175_13 rfl sc_112.n rfl rfl rfl rfl (mlistsX2_2 (m := m) (Ms := M) hS (by omega) (by omega) (by rfl) (by rw [hms]; exact hmk) (by rw [hms]; exact hl2)) ?_
    intro  M5 hP6
    obtain ⟨hS5, f6p0⟩ := hP6
    have g112 := f6p0.2.2.2.1 112 0 (by unfold core0; omega)
    refine n_iload_n c_175_16 rfl ?_
    refine n_if0_lt c_175_17 (by omega) ?_ ?_
    · intro h7
      refine n_iconst c_175_28 (n_goto c_175_29 ?_)
      exact n_rI c_175_38 rfl ⟨hS5, by omega, by omega, by have y := f6p0; rw [hms] at y; exact y, by exact Or.inl ⟨by omega, rfl⟩⟩
    · intro h8
      refine n_iload_n c_175_20 rfl (n_aload_n c_175_21 rfl (n_getV (bi := 22) c_175_22 sc_112.n rfl rfl rfl (t_112_22 hS5) ?_))
      intro z9 ez9 f10
      refine n_if2_lt c_175_25 (by omega) (by omega) ?_ ?_
      · intro h11
        refine n_aload_n c_175_32 rfl (n_getR c_175_33 sc_112.n rfl rfl rfl r_112_23 (n_iload_n c_175_36 rfl (n_ialoadV c_175_37 sc_128.n rfl rfl rfl (by omega) (t_128 hS5 (by omega)) ?_)))
        intro z12 ez12 f13
        exact n_rI c_175_38 rfl ⟨hS5, by omega, by omega, by have y := f6p0; rw [hms] at y; exact y, by exact Or.inr ⟨by omega, by omega, ez12⟩⟩
      · intro h14
        refine n_iconst c_175_28 (n_goto c_175_29 ?_)
        exact n_rI c_175_38 rfl ⟨hS5, by omega, by omega, by have y := f6p0; rw [hms] at y; exact y, by exact Or.inl ⟨by omega, rfl⟩⟩
  · intro h15
    exfalso; omega

set_option maxHeartbeats 4000000 in
theorem mlistsX3_2_c {xs : List Int32} {e : Nat} {ac : Int} {M : nM} {m : Int} {Ms : nM} (hS : Sf 2 ac M M) (hdm : M 112 0 = 2) (hm : -2147483648 ≤ m ∧ m ≤ 2147483647) (hms : M = Ms) (hmk : Ms 112 21 = 3 → 0 ≤ Ms 112 20 → Ms 112 22 = KNm 2 3 (Ms 112 20) Ms ∧ LQk 2 3 (Ms 112 20) Ms Ms) (hl2 : ∀ l : Int, 0 ≤ l → l < Ms 112 7 → 1 ≤ Ms 118 l) : ∀ nn : Nat, (∀ (x3 x4 x5 x6 : Int) (M : nM), Sf 2 ac M M → (0 ≤ x3 ∧ x3 ≤ 4095) → (8 ≤ x4 ∧ x4 ≤ 8) → (256 ≤ x5 ∧ x5 ≤ 256) → (0 ≤ x6 ∧ x6 ≤ 256) → (M 112 0 = 2) → (FLs Ms M) → (M 112 20 = kmask m (Ms 112 7)) → (M 112 21 = 3) → (x3 = kmask m (Ms 112 7)) → (M 112 22 = cf (fun c => bb (KMm 2 3 (fun x => cdg 2 c x) (kmask m (Ms 112 7)) Ms)) x6.toNat) → (M 112 22 ≤ x6) → (∀ j : Int, 0 ≤ j → j < M 112 22 → (0 ≤ M 128 j ∧ M 128 j < x6) ∧ KMm 2 3 (fun x => cdg 2 (M 128 j) x) (kmask m (Ms 112 7)) Ms ∧ cf (fun c => bb (KMm 2 3 (fun x => cdg 2 c x) (kmask m (Ms 112 7)) Ms)) (M 128 j).toNat = j) → (256 - x6) * 1 + 1 < (nn : Int) → nW xs (e + 4) 173 64 [some (2, 112), none, some (0, 3), some (0, x3), some (0, x4), some (0, x5), some (0, x6)] [] M (nPV fun M1 => Sf 2 ac M1 M1 ∧ (mKp 2 3 m Ms M1))) := by
  have hd : (2 : Int) = 2 ∨ (2 : Int) = 3 := by decide
  have hac := hS.2.2.2.2
  have t7 := t_112_7 (hms ▸ hS)
  have kr := kmask_r (m := m) (n := Ms 112 7) (by omega)
  intro nn
  induction nn with
  | zero => intros; omega
  | succ nn ih =>
    intro x3 x4 x5 x6 M hS k3 k4 k5 k6 hdm v0 v1 v2 v3 v4 v5 v6 hnn
    have t22 := t_112_22 hS
    refine n_iload c_173_64 rfl (n_iload c_173_66 rfl ?_)
    refine n_if2_ge c_173_68 (by omega) (by omega) ?_ ?_
    · intro h1
      exact n_rV c_173_116 rfl ⟨hS, by exact ⟨v2, v1, by rw [v4, show x6 = 256 by omega]; unfold KNm; rw [show (pn 2 (pw 2 3).toNat).toNat = (256 : Int).toNat by decide +kernel], fun a i hc => v0 a i (by unfold core0 at hc; omega) (by unfold core0 at hc; omega) (by unfold core0 at hc; omega), fun j j0 j1 => by have y := v6 j j0 j1; rw [show pn 2 (pw 2 3).toNat = 256 by decide +kernel]; exact ⟨by omega, y.2⟩⟩⟩
    · intro h2
      refine n_aload_n c_173_71 rfl (n_iload c_173_72 rfl (n_i2l c_173_74 (by omega) ?_))
      refine n_iload c_173_75 rfl (n_v2V c_173_77 rfl sc_112.n rfl rfl rfl rfl (mlayX_2 (c := x6) (r := x4) (Ms := M) hS (by omega) (by omega) (by omega) (by rfl)) ?_)
      intro  M3 hP4
      obtain ⟨hS3, f4p0, f4p1⟩ := hP4
      have hS3c := hS3.2.2.2.1.1
      have hS3 := hS3.refl
      have hS3k0 := hS3c 112 0 (by unfold core; omega)
      have hS3k1 := hS3c 112 22 (by unfold core; omega)
      have y22 := f4p1 112 22 (by omega)
      have lfr : FLs Ms M3 := fun a i h1 h2 h3 => by rw [f4p1 a i h1]; exact v0 a i h1 h2 h3
      refine n_aload_n c_173_80 rfl (n_iload_n c_173_81 rfl (n_iload_n c_173_82 rfl ?_))
      refine n_v2I c_173_83 rfl sc_112.n rfl rfl rfl rfl (mhandKeepsX_2 (m := 3) (k := x3) hS3 (by omega) (by omega) (by omega) (by exact fun l l0 l1 => by rw [lfr 118 l (by omega) (by omega) (by omega)]; exact hl2 l l0 (by have y := lfr 112 7 (by omega) (by omega) (by omega); omega))) ?_
      intro z5 M6 hP7
      obtain ⟨eM, f7, f7p0⟩ := hP7
      subst eM
      have hk : z5 = bb (KMm 2 3 (fun x => cdg 2 x6 x) (kmask m (Ms 112 7)) Ms) := by rw [f7p0, v3]; exact bb_c ((KMm.of (fun a i q => lfr a i (by omega) (by omega) (by omega))).trans (KMm_congr (by decide) (by decide) (fun i i0 i1 => f4p0 i i0 (by have y : pw 2 3 = 8 := (by decide); omega))))
      refine n_if0_eq c_173_86 (by omega) ?_ ?_
      · intro h8
        refine n_iinc (L2 := [some (2, 112), none, some (0, 3), some (0, x3), some (0, x4), some (0, x5), some (0, (x6 + 1))]) c_173_110 rfl rfl rfl (n_goto c_173_113 (n_fg (le_s (le_n (le_s (le_s (le_s (le_s (le_s le_0))))))) ?_))
        exact ih _ _ _ _ M3 hS3 (by omega) (by omega) (by omega) (by omega) (by omega) (by exact lfr) (by rw [f4p1 112 20 (by omega)]; exact v1) (by rw [f4p1 112 21 (by omega)]; exact v2) (by exact v3) (by rw [f4p1 112 22 (by omega), cf_step (by omega), ← v4, ← hk]; omega) (by have y := f4p1 112 22 (by omega); omega) (by have w0 := f4p1 112 22 (by omega); exact fun j j0 j1 => by rw [f4p1 128 j (by omega)]; have y := v6 j j0 (by omega); exact ⟨by omega, y.2⟩) (by omega)
      · intro h9
        refine n_aload_n c_173_89 rfl (n_getR c_173_90 sc_112.n rfl rfl rfl r_112_23 (n_aload_n c_173_93 rfl (n_getV (bi := 22) c_173_94 sc_112.n rfl rfl rfl (t_112_22 hS3) ?_)))
        intro z10 ez10 f11
        refine n_iload c_173_97 rfl (n_iastoreM hS3 c_173_99 sc_128.n rfl (by omega) (m_128 (by omega) (by omega)) ?_)
        intro M12 eM12 hS12
        have g12_0 : M12 112 0 = M3 112 0 := by rw [eM12]; exact nu_a (by omega)
        have g12_1 : M12 112 22 = M3 112 22 := by rw [eM12]; exact nu_a (by omega)
        have y99 : M12 112 22 = M3 112 22 := by rw [eM12, nu_a (by omega)]
        refine n_aload_n c_173_100 rfl (n_dup2 c_173_101 (n_getV (bi := 22) c_173_102 sc_112.n rfl rfl rfl (t_112_22 hS12) ?_))
        intro z13 ez13 f14
        refine n_iconst c_173_105 (n_iadd c_173_106 rfl (n_putM (bi := 22) hS12 c_173_107 sc_112.n rfl rfl rfl rfl (m_112_22 (by omega)) ?_))
        intro M15 eM15 hS15
        have g15_0 : M15 112 0 = M12 112 0 := by rw [eM15]; exact nu_i (by omega)
        have g15_1 : M15 112 22 = (z13 + 1) := by rw [eM15]; exact nu_s _ _ _ _
        refine n_iinc (L2 := [some (2, 112), none, some (0, 3), some (0, x3), some (0, x4), some (0, x5), some (0, (x6 + 1))]) c_173_110 rfl rfl rfl (n_goto c_173_113 (n_fg (le_s (le_n (le_s (le_s (le_s (le_s (le_s le_0))))))) ?_))
        exact ih _ _ _ _ M15 hS15 (by omega) (by omega) (by omega) (by omega) (by omega) (by exact fun a i h1 h2 h3 => by rw [eM15, nu_e, if_neg (by omega), eM12, nu_a h2]; exact lfr a i h1 h2 h3) (by rw [eM15, nu_i (by omega), eM12, nu_a (by omega), f4p1 112 20 (by omega)]; exact v1) (by rw [eM15, nu_i (by omega), eM12, nu_a (by omega), f4p1 112 21 (by omega)]; exact v2) (by exact v3) (by have y := f4p1 112 22 (by omega); rw [cf_step (by omega), ← v4, ← y, ← hk]; omega) (by have y := f4p1 112 22 (by omega); omega) (by have w0 := f4p1 112 22 (by omega); have w1 : M15 112 22 = M 112 22 + 1 := (by omega); exact fun j j0 j1 => by by_cases u : j = M 112 22; (have e9 : M15 128 j = x6 := (by rw [eM15, nu_a (by omega), eM12, nu_e, if_pos ⟨rfl, by omega⟩]); rw [e9]; exact ⟨by omega, bb_n (by omega), by rw [u]; exact v4.symm⟩); (have e9 : M15 128 j = M 128 j := (by rw [eM15, nu_a (by omega), eM12, nu_i (by omega), f4p1 128 j (by omega)]); rw [e9]; have y := v6 j j0 (by omega); exact ⟨by omega, y.2⟩)) (by omega)
set_option maxHeartbeats 4000000 in
theorem mlistsX3_2 {xs : List Int32} {e : Nat} {ac : Int} {M : nM} {m : Int} {Ms : nM} (hS : Sf 2 ac M M) (hdm : M 112 0 = 2) (hm : -2147483648 ≤ m ∧ m ≤ 2147483647) (hms : M = Ms) (hmk : Ms 112 21 = 3 → 0 ≤ Ms 112 20 → Ms 112 22 = KNm 2 3 (Ms 112 20) Ms ∧ LQk 2 3 (Ms 112 20) Ms Ms) (hl2 : ∀ l : Int, 0 ≤ l → l < Ms 112 7 → 1 ≤ Ms 118 l) : nW xs (e + 4) 173 0 [some (2, 112), some (0, m), some (0, 3), none, none, none, none] [] M (nPV fun M1 => Sf 2 ac M1 M1 ∧ (mKp 2 3 m Ms M1)) := by
  have hd : (2 : Int) = 2 ∨ (2 : Int) = 3 := by decide
  have hac := hS.2.2.2.2
  have t7 := t_112_7 (hms ▸ hS)
  have kr := kmask_r (m := m) (n := Ms 112 7) (by omega)
  refine n_iload_n c_173_0 rfl (n_iconst c_173_1 (n_aload_n c_173_2 rfl (n_getV (bi := 7) c_173_3 sc_112.n rfl rfl rfl (t_112_7 hS) ?_)))
  intro z1 ez1 f2
  refine n_i_ishl c_173_6 rfl ?_
  have f3 := n_shl_1 (y := z1) (a := 0) (b := 12) (by decide) (by omega)
  generalize gz4 : (n_shl 1 z1) = z4 at f3 ⊢
  refine n_iconst c_173_7 (n_isub c_173_8 rfl (n_i_iand c_173_9 rfl ?_))
  have f5 := n_and_y (x := m) (y := (z4 - 1)) (by omega)
  generalize gz6 : (n_and m (z4 - 1)) = z6 at f5 ⊢
  have kz : z6 = kmask m (Ms 112 7) := by unfold kmask; rw [← gz6, ← gz4, ez1, hms]
  refine n_istore_n (L2 := [some (2, 112), some (0, m), some (0, 3), some (0, z6), none, none, none]) c_173_10 rfl rfl (n_aload_n c_173_11 rfl (n_getV (bi := 20) c_173_12 sc_112.n rfl rfl rfl (t_112_20 hS) ?_))
  intro z7 ez7 f8
  refine n_iload_n c_173_15 rfl ?_
  refine n_if2_ne c_173_16 (by omega) (by omega) ?_ ?_
  · intro h9
    refine n_aload_n c_173_28 rfl (n_iload_n c_173_29 rfl (n_putM (bi := 20) hS c_173_30 sc_112.n rfl rfl rfl rfl (m_112_20 (by omega)) ?_))
    intro M10 eM10 hS10
    have g10_0 : M10 112 0 = M 112 0 := by rw [eM10]; exact nu_i (by omega)
    have g10_1 : M10 112 20 = z6 := by rw [eM10]; exact nu_s _ _ _ _
    refine n_aload_n c_173_33 rfl (n_iload_n c_173_34 rfl (n_putM (bi := 21) hS10 c_173_35 sc_112.n rfl rfl rfl rfl (m_112_21 (by omega)) ?_))
    intro M11 eM11 hS11
    have g11_0 : M11 112 0 = M10 112 0 := by rw [eM11]; exact nu_i (by omega)
    have g11_1 : M11 112 20 = M10 112 20 := by rw [eM11]; exact nu_i (by omega)
    have g11_2 : M11 112 21 = 3 := by rw [eM11]; exact nu_s _ _ _ _
    refine n_aload_n c_173_38 rfl (n_iconst c_173_39 (n_putM (bi := 22) hS11 c_173_40 sc_112.n rfl rfl rfl rfl (m_112_22 (by omega)) ?_))
    intro M12 eM12 hS12
    have g12_0 : M12 112 0 = M11 112 0 := by rw [eM12]; exact nu_i (by omega)
    have g12_1 : M12 112 20 = M11 112 20 := by rw [eM12]; exact nu_i (by omega)
    have g12_2 : M12 112 21 = M11 112 21 := by rw [eM12]; exact nu_i (by omega)
    have g12_3 : M12 112 22 = 0 := by rw [eM12]; exact nu_s _ _ _ _
    refine n_aload_n c_173_43 rfl (n_iload_n c_173_44 rfl (n_v1I c_173_45 rfl sc_112.n rfl rfl rfl rfl (mrowsOf3_2  hS12 (by omega)) ?_))
    intro z13 M14 hP15
    obtain ⟨eM, f15⟩ := hP15
    subst eM
    obtain rfl : z13 = 8 := by omega
    refine n_istore (L2 := [some (2, 112), some (0, m), some (0, 3), some (0, z6), some (0, 8), none, none]) c_173_48 rfl rfl (n_aload_n c_173_50 rfl (n_getV (bi := 0) c_173_51 sc_112.n rfl rfl rfl (show 2 ≤ M12 112 0 ∧ M12 112 0 ≤ 2 by omega) ?_))
    intro z16 ez16 f17
    obtain rfl : z16 = 2 := by omega
    refine n_iload c_173_54 rfl (n_s2I c_173_56 rfl rfl rfl rfl (mpower8_2  hS12 ) ?_)
    intro z18 M19 hP20
    obtain ⟨eM, f20⟩ := hP20
    subst eM
    obtain rfl : z18 = 256 := by omega
    refine n_istore (L2 := [some (2, 112), some (0, m), some (0, 3), some (0, z6), some (0, 8), some (0, 256), none]) c_173_59 rfl rfl (n_iconst c_173_61 (n_istore (L2 := [some (2, 112), some (0, m), some (0, 3), some (0, z6), some (0, 8), some (0, 256), some (0, 0)]) c_173_62 rfl rfl (n_fg (le_s (le_n (le_s (le_s (le_s (le_s (le_s le_0))))))) ?_)))
    exact (mlistsX3_2_c hS hdm hm hms hmk hl2 526) _ _ _ _ M12 hS12 (by omega) (by omega) (by omega) (by omega) (by omega) (by exact fun a i h1 h2 h3 => by rw [eM12, nu_e, if_neg (by omega), eM11, nu_e, if_neg (by omega), eM10, nu_e, if_neg (by omega), hms]) (by rw [eM12, nu_i (by omega), eM11, nu_i (by omega), eM10, nu_s]; exact kz) (by rw [eM12, nu_i (by omega), eM11, nu_s]) (by exact kz) (by rw [eM12, nu_s]; rfl) (by omega) (by exact fun j j0 j1 => by rw [eM12, nu_s] at j1; omega) (by omega)
  · intro h21
    refine n_aload_n c_173_19 rfl (n_getV (bi := 21) c_173_20 sc_112.n rfl rfl rfl (t_112_21 hS) ?_)
    intro z22 ez22 f23
    refine n_iload_n c_173_23 rfl ?_
    refine n_if2_ne c_173_24 (by omega) (by omega) ?_ ?_
    · intro h24
      refine n_aload_n c_173_28 rfl (n_iload_n c_173_29 rfl (n_putM (bi := 20) hS c_173_30 sc_112.n rfl rfl rfl rfl (m_112_20 (by omega)) ?_))
      intro M25 eM25 hS25
      have g25_0 : M25 112 0 = M 112 0 := by rw [eM25]; exact nu_i (by omega)
      have g25_1 : M25 112 21 = M 112 21 := by rw [eM25]; exact nu_i (by omega)
      have g25_2 : M25 112 20 = z6 := by rw [eM25]; exact nu_s _ _ _ _
      refine n_aload_n c_173_33 rfl (n_iload_n c_173_34 rfl (n_putM (bi := 21) hS25 c_173_35 sc_112.n rfl rfl rfl rfl (m_112_21 (by omega)) ?_))
      intro M26 eM26 hS26
      have g26_0 : M26 112 0 = M25 112 0 := by rw [eM26]; exact nu_i (by omega)
      have g26_1 : M26 112 20 = M25 112 20 := by rw [eM26]; exact nu_i (by omega)
      have g26_2 : M26 112 21 = 3 := by rw [eM26]; exact nu_s _ _ _ _
      refine n_aload_n c_173_38 rfl (n_iconst c_173_39 (n_putM (bi := 22) hS26 c_173_40 sc_112.n rfl rfl rfl rfl (m_112_22 (by omega)) ?_))
      intro M27 eM27 hS27
      have g27_0 : M27 112 0 = M26 112 0 := by rw [eM27]; exact nu_i (by omega)
      have g27_1 : M27 112 20 = M26 112 20 := by rw [eM27]; exact nu_i (by omega)
      have g27_2 : M27 112 21 = M26 112 21 := by rw [eM27]; exact nu_i (by omega)
      have g27_3 : M27 112 22 = 0 := by rw [eM27]; exact nu_s _ _ _ _
      refine n_aload_n c_173_43 rfl (n_iload_n c_173_44 rfl (n_v1I c_173_45 rfl sc_112.n rfl rfl rfl rfl (mrowsOf3_2  hS27 (by omega)) ?_))
      intro z28 M29 hP30
      obtain ⟨eM, f30⟩ := hP30
      subst eM
      obtain rfl : z28 = 8 := by omega
      refine n_istore (L2 := [some (2, 112), some (0, m), some (0, 3), some (0, z6), some (0, 8), none, none]) c_173_48 rfl rfl (n_aload_n c_173_50 rfl (n_getV (bi := 0) c_173_51 sc_112.n rfl rfl rfl (show 2 ≤ M27 112 0 ∧ M27 112 0 ≤ 2 by omega) ?_))
      intro z31 ez31 f32
      obtain rfl : z31 = 2 := by omega
      refine n_iload c_173_54 rfl (n_s2I c_173_56 rfl rfl rfl rfl (mpower8_2  hS27 ) ?_)
      intro z33 M34 hP35
      obtain ⟨eM, f35⟩ := hP35
      subst eM
      obtain rfl : z33 = 256 := by omega
      refine n_istore (L2 := [some (2, 112), some (0, m), some (0, 3), some (0, z6), some (0, 8), some (0, 256), none]) c_173_59 rfl rfl (n_iconst c_173_61 (n_istore (L2 := [some (2, 112), some (0, m), some (0, 3), some (0, z6), some (0, 8), some (0, 256), some (0, 0)]) c_173_62 rfl rfl (n_fg (le_s (le_n (le_s (le_s (le_s (le_s (le_s le_0))))))) ?_)))
      exact (mlistsX3_2_c hS hdm hm hms hmk hl2 526) _ _ _ _ M27 hS27 (by omega) (by omega) (by omega) (by omega) (by omega) (by exact fun a i h1 h2 h3 => by rw [eM27, nu_e, if_neg (by omega), eM26, nu_e, if_neg (by omega), eM25, nu_e, if_neg (by omega), hms]) (by rw [eM27, nu_i (by omega), eM26, nu_i (by omega), eM25, nu_s]; exact kz) (by rw [eM27, nu_i (by omega), eM26, nu_s]) (by exact kz) (by rw [eM27, nu_s]; rfl) (by omega) (by exact fun j j0 j1 => by rw [eM27, nu_s] at j1; omega) (by omega)
    · intro h36
      exact n_rV c_173_27 rfl ⟨hS, by rw [hms] at *; exact ⟨by omega, by omega, by rw [← kz, ← show Ms 112 20 = z6 by omega]; exact (hmk (by omega) (by omega)).1, fun _ _ _ => rfl, by rw [← kz, ← show Ms 112 20 = z6 by omega]; exact (hmk (by omega) (by omega)).2⟩⟩

set_option maxHeartbeats 4000000 in
theorem mactsOfX3_2 {xs : List Int32} {e : Nat} {ac : Int} {M : nM} {m gd : Int} {Ms : nM} (hS : Sf 2 ac M M) (hdm : M 112 0 = 2) (hm : -2147483648 ≤ m ∧ m ≤ 2147483647) (hgd : M 112 0 = gd) (hms : M = Ms) (hmk : Ms 112 21 = 3 → 0 ≤ Ms 112 20 → Ms 112 22 = KNm 2 3 (Ms 112 20) Ms ∧ LQk 2 3 (Ms 112 20) Ms Ms) (hl2 : ∀ l : Int, 0 ≤ l → l < Ms 112 7 → 1 ≤ Ms 118 l) : nW xs (e + 5) 174 0 [some (2, 112), some (0, m), some (0, 3)] [] M (nPI fun z M1 => Sf 2 ac M1 M1 ∧ (-2147483648 ≤ z ∧ z ≤ 2147483647) ∧ (M1 112 0 = gd) ∧ (mKp 2 3 m Ms M1) ∧ (z = M1 112 22)) := by
  have hd : (2 : Int) = 2 ∨ (2 : Int) = 3 := by decide
  have hac := hS.2.2.2.2
  refine n_aload_n c_174_0 rfl (n_iload_n c_174_1 rfl (n_v1I c_174_2 rfl sc_112.n rfl rfl rfl rfl (misMakeF_2 (n := 3) hS (by omega) (by omega)) ?_))
  intro z1 M2 hP3
  obtain ⟨eM, f3⟩ := hP3
  subst eM
  obtain rfl : z1 = 1 := by omega
  refine n_if0_ne c_174_5 (by omega) ?_ ?_
  · intro h4
    refine n_aload_n c_174_10 rfl (n_iload_n c_174_11 rfl (n_iload_n c_174_12 rfl ?_))
    refine n_v2V c_174_13 rfl sc_112.n rfl rfl rfl rfl (mlistsX3_2 (m := m) (Ms := M) hS (by omega) (by omega) (by rfl) (by rw [hms]; exact hmk) (by rw [hms]; exact hl2)) ?_
    intro  M5 hP6
    obtain ⟨hS5, f6p0⟩ := hP6
    have g112 := f6p0.2.2.2.1 112 0 (by unfold core0; omega)
    refine n_aload_n c_174_16 rfl (n_getV (bi := 22) c_174_17 sc_112.n rfl rfl rfl (t_112_22 hS5) ?_)
    intro z7 ez7 f8
    exact n_rI c_174_20 rfl ⟨hS5, by omega, by omega, by have y := f6p0; rw [hms] at y; exact y, by exact ez7⟩
  · intro h9
    exfalso; omega

set_option maxHeartbeats 4000000 in
theorem mactOfX3_2 {xs : List Int32} {e : Nat} {ac : Int} {M : nM} {m i gd : Int} {Ms : nM} (hS : Sf 2 ac M M) (hdm : M 112 0 = 2) (hm : -2147483648 ≤ m ∧ m ≤ 2147483647) (hi : -2147483648 ≤ i ∧ i ≤ 2147483647) (hgd : M 112 0 = gd) (hms : M = Ms) (hmk : Ms 112 21 = 3 → 0 ≤ Ms 112 20 → Ms 112 22 = KNm 2 3 (Ms 112 20) Ms ∧ LQk 2 3 (Ms 112 20) Ms Ms) (hl2 : ∀ l : Int, 0 ≤ l → l < Ms 112 7 → 1 ≤ Ms 118 l) : nW xs (e + 5) 175 0 [some (2, 112), some (0, m), some (0, 3), some (0, i)] [] M (nPI fun z M1 => Sf 2 ac M1 M1 ∧ (-2147483648 ≤ z ∧ z ≤ 2147483647) ∧ (M1 112 0 = gd) ∧ (mKp 2 3 m Ms M1) ∧ (mLi i z M1)) := by
  have hd : (2 : Int) = 2 ∨ (2 : Int) = 3 := by decide
  have hac := hS.2.2.2.2
  refine n_aload_n c_175_0 rfl (n_iload_n c_175_1 rfl (n_v1I c_175_2 rfl sc_112.n rfl rfl rfl rfl (misMakeF_2 (n := 3) hS (by omega) (by omega)) ?_))
  intro z1 M2 hP3
  obtain ⟨eM, f3⟩ := hP3
  subst eM
  obtain rfl : z1 = 1 := by omega
  refine n_if0_ne c_175_5 (by omega) ?_ ?_
  · intro h4
    refine n_aload_n c_175_10 rfl (n_iload_n c_175_11 rfl (n_iload_n c_175_12 rfl ?_))
    refine n_v2V c_175_13 rfl sc_112.n rfl rfl rfl rfl (mlistsX3_2 (m := m) (Ms := M) hS (by omega) (by omega) (by rfl) (by rw [hms]; exact hmk) (by rw [hms]; exact hl2)) ?_
    intro  M5 hP6
    obtain ⟨hS5, f6p0⟩ := hP6
    have g112 := f6p0.2.2.2.1 112 0 (by unfold core0; omega)
    refine n_iload_n c_175_16 rfl ?_
    refine n_if0_lt c_175_17 (by omega) ?_ ?_
    · intro h7
      refine n_iconst c_175_28 (n_goto c_175_29 ?_)
      exact n_rI c_175_38 rfl ⟨hS5, by omega, by omega, by have y := f6p0; rw [hms] at y; exact y, by exact Or.inl ⟨by omega, rfl⟩⟩
    · intro h8
      refine n_iload_n c_175_20 rfl (n_aload_n c_175_21 rfl (n_getV (bi := 22) c_175_22 sc_112.n rfl rfl rfl (t_112_22 hS5) ?_))
      intro z9 ez9 f10
      refine n_if2_lt c_175_25 (by omega) (by omega) ?_ ?_
      · intro h11
        refine n_aload_n c_175_32 rfl (n_getR c_175_33 sc_112.n rfl rfl rfl r_112_23 (n_iload_n c_175_36 rfl (n_ialoadV c_175_37 sc_128.n rfl rfl rfl (by omega) (t_128 hS5 (by omega)) ?_)))
        intro z12 ez12 f13
        exact n_rI c_175_38 rfl ⟨hS5, by omega, by omega, by have y := f6p0; rw [hms] at y; exact y, by exact Or.inr ⟨by omega, by omega, ez12⟩⟩
      · intro h14
        refine n_iconst c_175_28 (n_goto c_175_29 ?_)
        exact n_rI c_175_38 rfl ⟨hS5, by omega, by omega, by have y := f6p0; rw [hms] at y; exact y, by exact Or.inl ⟨by omega, rfl⟩⟩
  · intro h15
    exfalso; omega

set_option maxHeartbeats 4000000 in
theorem mactOfXL_2 {xs : List Int32} {e : Nat} {ac : Int} {M0 M : nM} {m n i : Int} (hS : Sf 2 ac M0 M) (hdm : M0 112 0 = 2) (hm : -2147483648 ≤ m ∧ m ≤ 2147483647) (hn : -2147483648 ≤ n ∧ n ≤ 0) (hi : -2147483648 ≤ i ∧ i ≤ 2147483647) : nW xs (e + 5) 175 0 [some (2, 112), some (0, m), some (0, n), some (0, i)] [] M (nPI fun z M1 => M = M1 ∧ (-1 ≤ z ∧ z ≤ -1)) := by
  have hd : (2 : Int) = 2 ∨ (2 : Int) = 3 := by decide
  have hac := hS.2.2.2.2
  refine n_aload_n c_175_0 rfl (n_iload_n c_175_1 rfl (n_v1I c_175_2 rfl sc_112.n rfl rfl rfl rfl (misMakeL_2 (n := n) hS hdm (by omega)) ?_))
  intro z1 M2 hP3
  obtain ⟨eM, f3⟩ := hP3
  subst eM
  obtain rfl : z1 = 0 := by omega
  refine n_if0_ne c_175_5 (by omega) ?_ ?_
  · intro h4
    exfalso; omega
  · intro h5
    refine n_iconst c_175_8 ?_
    exact n_rI c_175_9 rfl ⟨rfl, by omega⟩

set_option maxHeartbeats 4000000 in
theorem mactsOfXL_2 {xs : List Int32} {e : Nat} {ac : Int} {M0 M : nM} {m n : Int} (hS : Sf 2 ac M0 M) (hdm : M0 112 0 = 2) (hm : -2147483648 ≤ m ∧ m ≤ 2147483647) (hn : -2147483648 ≤ n ∧ n ≤ 0) : nW xs (e + 5) 174 0 [some (2, 112), some (0, m), some (0, n)] [] M (nPI fun z M1 => M = M1 ∧ (-1 ≤ z ∧ z ≤ -1)) := by
  have hd : (2 : Int) = 2 ∨ (2 : Int) = 3 := by decide
  have hac := hS.2.2.2.2
  refine n_aload_n c_174_0 rfl (n_iload_n c_174_1 rfl (n_v1I c_174_2 rfl sc_112.n rfl rfl rfl rfl (misMakeL_2 (n := n) hS hdm (by omega)) ?_))
  intro z1 M2 hP3
  obtain ⟨eM, f3⟩ := hP3
  subst eM
  obtain rfl : z1 = 0 := by omega
  refine n_if0_ne c_174_5 (by omega) ?_ ?_
  · intro h4
    exfalso; omega
  · intro h5
    refine n_iconst c_174_8 ?_
    exact n_rI c_174_9 rfl ⟨rfl, by omega⟩

set_option maxHeartbeats 4000000 in
theorem mactOfXH_2 {xs : List Int32} {e : Nat} {ac : Int} {M0 M : nM} {m n i : Int} (hS : Sf 2 ac M0 M) (hdm : M0 112 0 = 2) (hm : -2147483648 ≤ m ∧ m ≤ 2147483647) (hn : 4 ≤ n ∧ n ≤ 2147483647) (hi : -2147483648 ≤ i ∧ i ≤ 2147483647) : nW xs (e + 5) 175 0 [some (2, 112), some (0, m), some (0, n), some (0, i)] [] M (nPI fun z M1 => M = M1 ∧ (-1 ≤ z ∧ z ≤ -1)) := by
  have hd : (2 : Int) = 2 ∨ (2 : Int) = 3 := by decide
  have hac := hS.2.2.2.2
  refine n_aload_n c_175_0 rfl (n_iload_n c_175_1 rfl (n_v1I c_175_2 rfl sc_112.n rfl rfl rfl rfl (misMakeH_2 (n := n) hS hdm (by omega)) ?_))
  intro z1 M2 hP3
  obtain ⟨eM, f3⟩ := hP3
  subst eM
  obtain rfl : z1 = 0 := by omega
  refine n_if0_ne c_175_5 (by omega) ?_ ?_
  · intro h4
    exfalso; omega
  · intro h5
    refine n_iconst c_175_8 ?_
    exact n_rI c_175_9 rfl ⟨rfl, by omega⟩

set_option maxHeartbeats 4000000 in
theorem mactsOfXH_2 {xs : List Int32} {e : Nat} {ac : Int} {M0 M : nM} {m n : Int} (hS : Sf 2 ac M0 M) (hdm : M0 112 0 = 2) (hm : -2147483648 ≤ m ∧ m ≤ 2147483647) (hn : 4 ≤ n ∧ n ≤ 2147483647) : nW xs (e + 5) 174 0 [some (2, 112), some (0, m), some (0, n)] [] M (nPI fun z M1 => M = M1 ∧ (-1 ≤ z ∧ z ≤ -1)) := by
  have hd : (2 : Int) = 2 ∨ (2 : Int) = 3 := by decide
  have hac := hS.2.2.2.2
  refine n_aload_n c_174_0 rfl (n_iload_n c_174_1 rfl (n_v1I c_174_2 rfl sc_112.n rfl rfl rfl rfl (misMakeH_2 (n := n) hS hdm (by omega)) ?_))
  intro z1 M2 hP3
  obtain ⟨eM, f3⟩ := hP3
  subst eM
  obtain rfl : z1 = 0 := by omega
  refine n_if0_ne c_174_5 (by omega) ?_ ?_
  · intro h4
    exfalso; omega
  · intro h5
    refine n_iconst c_174_8 ?_
    exact n_rI c_174_9 rfl ⟨rfl, by omega⟩
