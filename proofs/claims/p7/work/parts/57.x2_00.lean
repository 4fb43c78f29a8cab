/-! What the methods do to the core. -/
set_option maxHeartbeats 4000000 in
theorem isPlaceCountF_2 {xs : List Int32} {e : Nat} {ac : Int} {M0 M : nM} {k : Int} (hS : Sf 2 ac M0 M) (hk : -2147483648 ≤ k ∧ k ≤ 2147483647) : nW xs e 124 0 [some (2, 3), some (0, k)] [] M (nPI fun z M1 => M = M1 ∧ (0 ≤ z ∧ z ≤ 1) ∧ ((z = 1 ∧ 1 ≤ k ∧ k ≤ 3) ∨ (z = 0 ∧ (k < 1 ∨ 3 < k)))) := by
  have hd : (2 : Int) = 2 ∨ (2 : Int) = 3 := by decide
  have hac := hS.2.2.2.2
  refine n_iload_n c_124_0 rfl ?_
  refine n_iconst c_124_1 ?_
  refine n_if2_lt c_124_2 (by omega) (by omega) ?_ ?_
  · intro h1
    refine n_iconst c_124_14 ?_
    exact n_rZ c_124_15 rfl (by omega) ⟨rfl, by omega, by omega⟩
  · intro h2
    refine n_iload_n c_124_5 rfl ?_
    refine n_iconst c_124_6 ?_
    refine n_if2_gt c_124_7 (by omega) (by omega) ?_ ?_
    · intro h3
      refine n_iconst c_124_14 ?_
      exact n_rZ c_124_15 rfl (by omega) ⟨rfl, by omega, by omega⟩
    · intro h4
      refine n_iconst c_124_10 ?_
      refine n_goto c_124_11 ?_
      exact n_rZ c_124_15 rfl (by omega) ⟨rfl, by omega, by omega⟩

set_option maxHeartbeats 4000000 in
theorem hasRowF_2 {xs : List Int32} {e : Nat} {ac : Int} {M0 M : nM} {s : Int} (hS : Sf 2 ac M0 M) (hs : -2147483648 ≤ s ∧ s ≤ 2147483647) : nW xs (e + 1) 85 0 [some (2, 8), some (0, s)] [] M (nPI fun z M1 => M = M1 ∧ (0 ≤ z ∧ z ≤ 1) ∧ ((z = 1 ∧ 0 ≤ s ∧ s ≤ 7 ∧ 0 ≤ M 11 s) ∨ (z = 0 ∧ (s < 0 ∨ 7 < s ∨ M 11 s < 0)))) := by
  have hd : (2 : Int) = 2 ∨ (2 : Int) = 3 := by decide
  have hac := hS.2.2.2.2
  refine n_aload_n c_85_0 rfl ?_
  refine n_iload_n c_85_1 rfl ?_
  refine n_v1I c_85_2 rfl sc_8.n rfl rfl rfl rfl (isSlotF_2 (s := s) hS (by omega)) ?_
  intro z1 M2 hP3
  obtain ⟨eM, f3, f3p0⟩ := hP3
  subst eM
  refine n_if0_eq c_85_5 (by omega) ?_ ?_
  · intro h4
    refine n_iconst c_85_21 ?_
    exact n_rZ c_85_22 rfl (by omega) ⟨rfl, by omega, by omega⟩
  · intro h5
    refine n_aload_n c_85_8 rfl ?_
    refine n_getR c_85_9 sc_8.n rfl rfl rfl r_8_2 ?_
    refine n_iload_n c_85_12 rfl ?_
    refine n_ialoadV c_85_13 sc_11.n rfl rfl rfl (by omega) (t_11 hS (by omega)) ?_
    intro z6 ez6 f7
    refine n_if0_lt c_85_14 (by omega) ?_ ?_
    · intro h8
      refine n_iconst c_85_21 ?_
      exact n_rZ c_85_22 rfl (by omega) ⟨rfl, by omega, by omega⟩
    · intro h9
      refine n_iconst c_85_17 ?_
      refine n_goto c_85_18 ?_
      exact n_rZ c_85_22 rfl (by omega) ⟨rfl, by omega, by omega⟩

set_option maxHeartbeats 4000000 in
theorem layX_2_c {xs : List Int32} {e : Nat} {ac : Int} {M : nM} {s w n gd : Int} {Ms : nM} (hS : Sf 2 ac M M) (hs : 0 ≤ s ∧ s ≤ 7) (hw : 0 ≤ w ∧ w ≤ 3) (hn : 0 ≤ n ∧ n ≤ 40) (hgd : M 112 0 = gd) (hms : M = Ms) : ∀ nn : Nat, (∀ (x4 : Int) (M : nM), Sf 2 ac M M → (0 ≤ x4 ∧ x4 ≤ 40) → (M 112 0 = gd) → (LayP s w n x4 Ms M) → (40 - x4) * 1 + 1 < (nn : Int) → nW xs e 86 17 [some (2, 8), some (0, s), none, none, some (0, x4)] [] M (nPV fun M1 => Sf 2 ac M1 M1 ∧ (M1 112 0 = gd) ∧ (LayP s w n 40 Ms M1))) := by
  have hd : (2 : Int) = 2 ∨ (2 : Int) = 3 := by decide
  have hac := hS.2.2.2.2
  intro nn
  induction nn with
  | zero => intros; omega
  | succ nn ih =>
    intro x4 M hS k4 hggd v0 hnn
    refine n_iload c_86_17 rfl ?_
    refine n_bipush c_86_19 rfl ?_
    refine n_if2_ge c_86_21 (by omega) (by omega) ?_ ?_
    · intro h1
      exact n_rV c_86_43 rfl ⟨hS, by omega, by have q : x4 = 40 := (by omega); rw [q] at v0; exact v0⟩
    · intro h2
      refine n_aload_n c_86_24 rfl ?_
      refine n_getR c_86_25 sc_8.n rfl rfl rfl r_8_0 ?_
      refine n_iload_n c_86_28 rfl ?_
      refine n_bipush c_86_29 rfl ?_
      refine n_imul c_86_31 rfl ?_
      refine n_iload c_86_32 rfl ?_
      refine n_iadd c_86_34 rfl ?_
      refine n_lconst (n := 0) c_86_35 rfl ?_
      refine n_lastoreM hS c_86_36 sc_9.n rfl (by omega) (m_9 (by omega) (by omega)) ?_
      intro M3 eM3 hS3
      have g3_0 : M3 112 0 = M 112 0 := by rw [eM3]; exact nu_a (by omega)
      refine n_iinc (L2 := [some (2, 8), some (0, s), none, none, some (0, (x4 + 1))]) c_86_37 rfl rfl rfl ?_
      refine n_goto c_86_40 ?_
      refine n_fg (le_s (le_s (le_n (le_n (le_s le_0))))) ?_
      exact ih _ M3 hS3 (by omega) (by omega) (by exact LayP.step v0 (by omega) (by omega) eM3) (by omega)
set_option maxHeartbeats 4000000 in
theorem layX_2 {xs : List Int32} {e : Nat} {ac : Int} {M : nM} {s w n gd : Int} {Ms : nM} (hS : Sf 2 ac M M) (hs : 0 ≤ s ∧ s ≤ 7) (hw : 0 ≤ w ∧ w ≤ 3) (hn : 0 ≤ n ∧ n ≤ 40) (hgd : M 112 0 = gd) (hms : M = Ms) : nW xs e 86 0 [some (2, 8), some (0, s), some (0, w), some (0, n), none] [] M (nPV fun M1 => Sf 2 ac M1 M1 ∧ (M1 112 0 = gd) ∧ (LayP s w n 40 Ms M1)) := by
  have hd : (2 : Int) = 2 ∨ (2 : Int) = 3 := by decide
  have hac := hS.2.2.2.2
  refine n_aload_n c_86_0 rfl ?_
  refine n_getR c_86_1 sc_8.n rfl rfl rfl r_8_1 ?_
  refine n_iload_n c_86_4 rfl ?_
  refine n_iload_n c_86_5 rfl ?_
  refine n_iastoreM hS c_86_6 sc_10.n rfl (by omega) (m_10 (by omega) (by omega)) ?_
  intro M1 eM1 hS1
  have g1_0 : M1 112 0 = M 112 0 := by rw [eM1]; exact nu_a (by omega)
  refine n_aload_n c_86_7 rfl ?_
  refine n_getR c_86_8 sc_8.n rfl rfl rfl r_8_2 ?_
  refine n_iload_n c_86_11 rfl ?_
  refine n_iload_n c_86_12 rfl ?_
  refine n_iastoreM hS1 c_86_13 sc_11.n rfl (by omega) (m_11 (by omega) (by omega)) ?_
  intro M2 eM2 hS2
  have g2_0 : M2 112 0 = M1 112 0 := by rw [eM2]; exact nu_a (by omega)
  refine n_iconst c_86_14 ?_
  refine n_istore (L2 := [some (2, 8), some (0, s), some (0, w), some (0, n), some (0, 0)]) c_86_15 rfl rfl ?_
  refine n_fg (le_s (le_s (le_n (le_n (le_s le_0))))) ?_
  exact (layX_2_c hS hs hw hn hgd hms 94) _ M2 hS2 (by omega) (by omega) (by subst hms; exact LayP.init eM1 eM2) (by omega)

set_option maxHeartbeats 4000000 in
theorem rowX_2 {xs : List Int32} {e : Nat} {ac : Int} {M : nM} {s w n gd : Int} (hS : Sf 2 ac M M) (hs : -2147483648 ≤ s ∧ s ≤ 2147483647) (hw : -2147483648 ≤ w ∧ w ≤ 2147483647) (hn : -2147483648 ≤ n ∧ n ≤ 2147483647) (hgd : M 112 0 = gd) : nW xs (e + 1) 94 0 [some (2, 3), some (0, s), some (0, w), some (0, n)] [] M (nPI fun z M1 => Sf 2 ac M1 M1 ∧ (-2147483648 ≤ z ∧ z ≤ 2147483647) ∧ (M1 112 0 = gd) ∧ (cRow s w n z M M1)) := by
  have hd : (2 : Int) = 2 ∨ (2 : Int) = 3 := by decide
  have hac := hS.2.2.2.2
  refine n_aload_n c_94_0 rfl ?_
  refine n_getR c_94_1 sc_3.n rfl rfl rfl r_3_1 ?_
  refine n_iload_n c_94_4 rfl ?_
  refine n_v1I c_94_5 rfl sc_8.n rfl rfl rfl rfl (isSlotF_2 (s := s) hS (by omega)) ?_
  intro z1 M2 hP3
  obtain ⟨eM, f3, f3p0⟩ := hP3
  subst eM
  refine n_if0_eq c_94_8 (by omega) ?_ ?_
  · intro h4
    refine n_bipush c_94_26 rfl ?_
    exact n_rI c_94_28 rfl ⟨hS, by omega, by omega, by exact Or.inl ⟨by omega, rfl, fun _ _ _ => rfl⟩⟩
  · intro h5
    refine n_iload_n c_94_11 rfl ?_
    refine n_if0_lt c_94_12 (by omega) ?_ ?_
    · intro h6
      refine n_bipush c_94_26 rfl ?_
      exact n_rI c_94_28 rfl ⟨hS, by omega, by omega, by exact Or.inl ⟨by omega, rfl, fun _ _ _ => rfl⟩⟩
    · intro h7
      refine n_iload_n c_94_15 rfl ?_
      refine n_iconst c_94_16 ?_
      refine n_if2_gt c_94_17 (by omega) (by omega) ?_ ?_
      · intro h8
        refine n_bipush c_94_26 rfl ?_
        exact n_rI c_94_28 rfl ⟨hS, by omega, by omega, by exact Or.inl ⟨by omega, rfl, fun _ _ _ => rfl⟩⟩
      · intro h9
        refine n_iload_n c_94_20 rfl ?_
        refine n_bipush c_94_21 rfl ?_
        refine n_if2_le c_94_23 (by omega) (by omega) ?_ ?_
        · intro h10
          refine n_iload_n c_94_29 rfl ?_
          refine n_if0_ge c_94_30 (by omega) ?_ ?_
          · intro h11
            refine n_aload_n c_94_36 rfl ?_
            refine n_getR c_94_37 sc_3.n rfl rfl rfl r_3_1 ?_
            refine n_iload_n c_94_40 rfl ?_
            refine n_iload_n c_94_41 rfl ?_
            refine n_iload_n c_94_42 rfl ?_
            refine n_v3V c_94_43 rfl sc_8.n rfl rfl rfl rfl (layX_2 (s := s) (w := w) (n := n) (gd := (M 112 0)) (Ms := M) hS (by omega) (by omega) (by omega) rfl (by rfl)) ?_
            intro  M12 hP13
            obtain ⟨hS12, f13g0, f13p0⟩ := hP13
            refine n_iconst c_94_46 ?_
            exact n_rI c_94_47 rfl ⟨hS12, by omega, by omega, by exact Or.inr (Or.inr ⟨by omega, by omega, by omega, by omega, by omega, by omega, rfl, f13p0.1, f13p0.2.1, f13p0.2.2.1, f13p0.2.2.2⟩)⟩
          · intro h14
            refine n_bipush c_94_33 rfl ?_
            exact n_rI c_94_35 rfl ⟨hS, by omega, by omega, by exact Or.inr (Or.inl ⟨by omega, by omega, by omega, by omega, by omega, rfl, fun _ _ _ => rfl⟩)⟩
        · intro h15
          refine n_bipush c_94_26 rfl ?_
          exact n_rI c_94_28 rfl ⟨hS, by omega, by omega, by exact Or.inl ⟨by omega, rfl, fun _ _ _ => rfl⟩⟩

set_option maxHeartbeats 4000000 in
theorem mrowX_2_c {xs : List Int32} {e : Nat} {ac : Int} {M : nM} {s w n gd : Int} {Ms : nM} (hS : Sf 2 ac M M) (hdm : M 112 0 = 2) (hs : -2147483648 ≤ s ∧ s ≤ 2147483647) (hw : -2147483648 ≤ w ∧ w ≤ 2147483647) (hn : -2147483648 ≤ n ∧ n ≤ 2147483647) (hgd : M 112 0 = gd) (hms : M = Ms) : ∀ nn : Nat, (∀ (x4 : Int) (M : nM), Sf 2 ac M M → (0 ≤ s ∧ s ≤ 7) → (0 ≤ n ∧ n ≤ 40) → (0 ≤ x4 ∧ x4 ≤ 40) → (M 112 0 = 2) → (M 112 0 = gd) → (x4 ≤ n) → (0 ≤ w ∧ w ≤ 3) → (RowP s w n x4 Ms M) → (40 - x4) * 1 + 1 < (nn : Int) → nW xs (e + 1) 144 51 [some (2, 112), some (0, s), none, some (0, n), some (0, x4)] [] M (nPI fun z M1 => Sf 2 ac M1 M1 ∧ (-2147483648 ≤ z ∧ z ≤ 2147483647) ∧ (M1 112 0 = gd) ∧ (mRow s w n z Ms M1))) := by
  have hd : (2 : Int) = 2 ∨ (2 : Int) = 3 := by decide
  have hac := hS.2.2.2.2
  intro nn
  induction nn with
  | zero => intros; omega
  | succ nn ih =>
    intro x4 M hS k1 k3 k4 hdm hggd v0 v1 v2 hnn
    refine n_iload c_144_51 rfl ?_
    refine n_iload_n c_144_53 rfl ?_
    refine n_if2_ge c_144_54 (by omega) (by omega) ?_ ?_
    · intro h1
      refine n_iconst c_144_76 ?_
      exact n_rI c_144_77 rfl ⟨hS, by omega, by omega, by have q : x4 = n := (by omega); rw [q] at v2; exact Or.inr (Or.inr ⟨by omega, by omega, by omega, by omega, by omega, by omega, rfl, v2.1, v2.2.1, v2.2.2.1, v2.2.2.2⟩)⟩
    · intro h2
      refine n_aload_n c_144_57 rfl ?_
      refine n_getR c_144_58 sc_112.n rfl rfl rfl r_112_3 ?_
      refine n_bipush c_144_61 rfl ?_
      refine n_iload_n c_144_63 rfl ?_
      refine n_imul c_144_64 rfl ?_
      refine n_iload c_144_65 rfl ?_
      refine n_iadd c_144_67 rfl ?_
      refine n_lconst (n := 0) c_144_68 rfl ?_
      refine n_lastoreM hS c_144_69 sc_115.n rfl (by omega) (m_115 (by omega) (by omega)) ?_
      intro M3 eM3 hS3
      have g3_0 : M3 112 0 = M 112 0 := by rw [eM3]; exact nu_a (by omega)
      refine n_iinc (L2 := [some (2, 112), some (0, s), none, some (0, n), some (0, (x4 + 1))]) c_144_70 rfl rfl rfl ?_
      refine n_goto c_144_73 ?_
      refine n_fg (le_s (le_s (le_n (le_s (le_s le_0))))) ?_
      exact ih _ M3 hS3 (by omega) (by omega) (by omega) (by omega) (by omega) (by omega) (by omega) (by exact RowP.step v2 (by omega) (by omega) eM3) (by omega)
set_option maxHeartbeats 4000000 in
theorem mrowX_2 {xs : List Int32} {e : Nat} {ac : Int} {M : nM} {s w n gd : Int} {Ms : nM} (hS : Sf 2 ac M M) (hdm : M 112 0 = 2) (hs : -2147483648 ≤ s ∧ s ≤ 2147483647) (hw : -2147483648 ≤ w ∧ w ≤ 2147483647) (hn : -2147483648 ≤ n ∧ n ≤ 2147483647) (hgd : M 112 0 = gd) (hms : M = Ms) : nW xs (e + 1) 144 0 [some (2, 112), some (0, s), some (0, w), some (0, n), none] [] M (nPI fun z M1 => Sf 2 ac M1 M1 ∧ (-2147483648 ≤ z ∧ z ≤ 2147483647) ∧ (M1 112 0 = gd) ∧ (mRow s w n z Ms M1)) := by
  have hd : (2 : Int) = 2 ∨ (2 : Int) = 3 := by decide
  have hac := hS.2.2.2.2
  refine n_iload_n c_144_0 rfl ?_
  refine n_s1I c_144_1 rfl rfl rfl rfl (misSlotF_2 (s := s) hS (by omega)) ?_
  intro z1 M2 hP3
  obtain ⟨eM, f3, f3p0⟩ := hP3
  subst eM
  refine n_if0_eq c_144_4 (by omega) ?_ ?_
  · intro h4
    refine n_bipush c_144_22 rfl ?_
    exact n_rI c_144_24 rfl ⟨hS, by omega, by omega, by subst hms; exact Or.inl ⟨by omega, rfl, fun _ _ _ => rfl⟩⟩
  · intro h5
    refine n_iload_n c_144_7 rfl ?_
    refine n_if0_lt c_144_8 (by omega) ?_ ?_
    · intro h6
      refine n_bipush c_144_22 rfl ?_
      exact n_rI c_144_24 rfl ⟨hS, by omega, by omega, by subst hms; exact Or.inl ⟨by omega, rfl, fun _ _ _ => rfl⟩⟩
    · intro h7
      refine n_iload_n c_144_11 rfl ?_
      refine n_iconst c_144_12 ?_
      refine n_if2_gt c_144_13 (by omega) (by omega) ?_ ?_
      · intro h8
        refine n_bipush c_144_22 rfl ?_
        exact n_rI c_144_24 rfl ⟨hS, by omega, by omega, by subst hms; exact Or.inl ⟨by omega, rfl, fun _ _ _ => rfl⟩⟩
      · intro h9
        refine n_iload_n c_144_16 rfl ?_
        refine n_bipush c_144_17 rfl ?_
        refine n_if2_le c_144_19 (by omega) (by omega) ?_ ?_
        · intro h10
          refine n_iload_n c_144_25 rfl ?_
          refine n_if0_ge c_144_26 (by omega) ?_ ?_
          · intro h11
            refine n_aload_n c_144_32 rfl ?_
            refine n_getR c_144_33 sc_112.n rfl rfl rfl r_112_1 ?_
            refine n_iload_n c_144_36 rfl ?_
            refine n_iload_n c_144_37 rfl ?_
            refine n_iconst c_144_38 ?_
            refine n_iadd c_144_39 rfl ?_
            refine n_iastoreM hS c_144_40 sc_113.n rfl (by omega) (m_113 (by omega) (by omega)) ?_
            intro M12 eM12 hS12
            have g12_0 : M12 112 0 = M 112 0 := by rw [eM12]; exact nu_a (by omega)
            refine n_aload_n c_144_41 rfl ?_
            refine n_getR c_144_42 sc_112.n rfl rfl rfl r_112_2 ?_
            refine n_iload_n c_144_45 rfl ?_
            refine n_iload_n c_144_46 rfl ?_
            refine n_iastoreM hS12 c_144_47 sc_114.n rfl (by omega) (m_114 (by omega) (by omega)) ?_
            intro M13 eM13 hS13
            have g13_0 : M13 112 0 = M12 112 0 := by rw [eM13]; exact nu_a (by omega)
            refine n_iconst c_144_48 ?_
            refine n_istore (L2 := [some (2, 112), some (0, s), some (0, w), some (0, n), some (0, 0)]) c_144_49 rfl rfl ?_
            refine n_fg (le_s (le_s (le_n (le_s (le_s le_0))))) ?_
            exact (mrowX_2_c hS hdm hs hw hn hgd hms 94) _ M13 hS13 (by omega) (by omega) (by omega) (by omega) (by omega) (by omega) (by omega) (by subst hms; exact RowP.init eM12 eM13) (by omega)
          · intro h14
            refine n_bipush c_144_29 rfl ?_
            exact n_rI c_144_31 rfl ⟨hS, by omega, by omega, by subst hms; exact Or.inr (Or.inl ⟨by omega, by omega, by omega, by omega, by omega, rfl, fun _ _ _ => rfl⟩)⟩
        · intro h15
          refine n_bipush c_144_22 rfl ?_
          exact n_rI c_144_24 rfl ⟨hS, by omega, by omega, by subst hms; exact Or.inl ⟨by omega, rfl, fun _ _ _ => rfl⟩⟩

set_option maxHeartbeats 4000000 in
theorem emptyX_2 {xs : List Int32} {e : Nat} {ac : Int} {M : nM} {s gd : Int} (hS : Sf 2 ac M M) (hs : 0 ≤ s ∧ s ≤ 7) (hgd : M 112 0 = gd) : nW xs e 87 0 [some (2, 8), some (0, s)] [] M (nPV fun M1 => Sf 2 ac M1 M1 ∧ (M1 112 0 = gd) ∧ (M1 = nu M 11 s (-1))) := by
  have hd : (2 : Int) = 2 ∨ (2 : Int) = 3 := by decide
  have hac := hS.2.2.2.2
  refine n_aload_n c_87_0 rfl ?_
  refine n_getR c_87_1 sc_8.n rfl rfl rfl r_8_2 ?_
  refine n_iload_n c_87_4 rfl ?_
  refine n_iconst c_87_5 ?_
  refine n_iastoreM hS c_87_6 sc_11.n rfl (by omega) (m_11 (by omega) (by omega)) ?_
  intro M1 eM1 hS1
  have g1_0 : M1 112 0 = M 112 0 := by rw [eM1]; exact nu_a (by omega)
  exact n_rV c_87_7 rfl ⟨hS1, by omega, by exact eM1⟩

set_option maxHeartbeats 4000000 in
theorem tearX_2 {xs : List Int32} {e : Nat} {ac : Int} {M : nM} {s gd : Int} (hS : Sf 2 ac M M) (hs : -2147483648 ≤ s ∧ s ≤ 2147483647) (hgd : M 112 0 = gd) : nW xs (e + 2) 95 0 [some (2, 3), some (0, s)] [] M (nPI fun z M1 => Sf 2 ac M1 M1 ∧ (0 ≤ z ∧ z ≤ 1) ∧ (M1 112 0 = gd) ∧ (cTear s z M M1)) := by
  have hd : (2 : Int) = 2 ∨ (2 : Int) = 3 := by decide
  have hac := hS.2.2.2.2
  refine n_aload_n c_95_0 rfl ?_
  refine n_getR c_95_1 sc_3.n rfl rfl rfl r_3_1 ?_
  refine n_iload_n c_95_4 rfl ?_
  refine n_v1I c_95_5 rfl sc_8.n rfl rfl rfl rfl (hasRowF_2 (s := s) hS (by omega)) ?_
  intro z1 M2 hP3
  obtain ⟨eM, f3, f3p0⟩ := hP3
  subst eM
  refine n_if0_ne c_95_8 (by omega) ?_ ?_
  · intro h4
    refine n_aload_n c_95_13 rfl ?_
    refine n_getR c_95_14 sc_3.n rfl rfl rfl r_3_1 ?_
    refine n_iload_n c_95_17 rfl ?_
    refine n_v1V c_95_18 rfl sc_8.n rfl rfl rfl rfl (emptyX_2 (s := s) (gd := (M 112 0)) hS (by omega) rfl) ?_
    intro  M5 hP6
    obtain ⟨hS5, f6g0, f6p0⟩ := hP6
    refine n_iconst c_95_21 ?_
    exact n_rZ c_95_22 rfl (by omega) ⟨hS5, by omega, by omega, by exact Or.inr ⟨by omega, by omega, by omega, rfl, by rw [f6p0, nu_s], fun a i _ q => by rw [f6p0, nu_e, if_neg q]⟩⟩
  · intro h7
    refine n_iconst c_95_11 ?_
    exact n_rZ c_95_12 rfl (by omega) ⟨hS, by omega, by omega, by exact Or.inl ⟨by omega, rfl, fun _ _ _ => rfl⟩⟩

set_option maxHeartbeats 4000000 in
theorem mtearX_2 {xs : List Int32} {e : Nat} {ac : Int} {M : nM} {s gd : Int} (hS : Sf 2 ac M M) (hdm : M 112 0 = 2) (hs : -2147483648 ≤ s ∧ s ≤ 2147483647) (hgd : M 112 0 = gd) : nW xs (e + 1) 145 0 [some (2, 112), some (0, s)] [] M (nPI fun z M1 => Sf 2 ac M1 M1 ∧ (0 ≤ z ∧ z ≤ 1) ∧ (M1 112 0 = gd) ∧ (mTear s z M M1)) := by
  have hd : (2 : Int) = 2 ∨ (2 : Int) = 3 := by decide
  have hac := hS.2.2.2.2
  refine n_iload_n c_145_0 rfl ?_
  refine n_s1I c_145_1 rfl rfl rfl rfl (misSlotF_2 (s := s) hS (by omega)) ?_
  intro z1 M2 hP3
  obtain ⟨eM, f3, f3p0⟩ := hP3
  subst eM
  refine n_if0_eq c_145_4 (by omega) ?_ ?_
  · intro h4
    refine n_iconst c_145_16 ?_
    exact n_rZ c_145_17 rfl (by omega) ⟨hS, by omega, by omega, by exact Or.inl ⟨by omega, rfl, fun _ _ _ => rfl⟩⟩
  · intro h5
    refine n_aload_n c_145_7 rfl ?_
    refine n_getR c_145_8 sc_112.n rfl rfl rfl r_112_1 ?_
    refine n_iload_n c_145_11 rfl ?_
    refine n_ialoadV c_145_12 sc_113.n rfl rfl rfl (by omega) (t_113 hS (by omega)) ?_
    intro z6 ez6 f7
    refine n_if0_ne c_145_13 (by omega) ?_ ?_
    · intro h8
      refine n_aload_n c_145_18 rfl ?_
      refine n_getR c_145_19 sc_112.n rfl rfl rfl r_112_1 ?_
      refine n_iload_n c_145_22 rfl ?_
      refine n_iconst c_145_23 ?_
      refine n_iastoreM hS c_145_24 sc_113.n rfl (by omega) (m_113 (by omega) (by omega)) ?_
      intro M9 eM9 hS9
      have g9_0 : M9 112 0 = M 112 0 := by rw [eM9]; exact nu_a (by omega)
      refine n_iconst c_145_25 ?_
      exact n_rZ c_145_26 rfl (by omega) ⟨hS9, by omega, by omega, by exact Or.inr ⟨by omega, by omega, by omega, rfl, by rw [eM9, nu_s], fun a i _ q => by rw [eM9, nu_e, if_neg q]⟩⟩
    · intro h10
      refine n_iconst c_145_16 ?_
      exact n_rZ c_145_17 rfl (by omega) ⟨hS, by omega, by omega, by exact Or.inl ⟨by omega, rfl, fun _ _ _ => rfl⟩⟩

set_option maxHeartbeats 4000000 in
theorem cutX_2 {xs : List Int32} {e : Nat} {ac : Int} {M0 M : nM} {v w : Int} (hS : Sf 2 ac M0 M) (hv : -9223372036854775808 ≤ v ∧ v ≤ 9223372036854775807) (hw : -2147483648 ≤ w ∧ w ≤ 2147483647) : nW xs e 91 0 [some (2, 8), some (1, v), none, some (0, w)] [] M (nPJ fun z M1 => M = M1 ∧ (-9223372036854775808 ≤ z ∧ z ≤ 9223372036854775807) ∧ (z = cutv v w)) := by
  have hd : (2 : Int) = 2 ∨ (2 : Int) = 3 := by decide
  have hac := hS.2.2.2.2
  refine n_iload_n c_91_0 rfl ?_
  refine n_sw c_91_1 (by omega) (by decide) ?_ ?_
  · intro h1
    refine n_pc (k2 := 42) rfl ?_
    refine n_lload_n c_91_42 rfl ?_
    exact n_rJ c_91_43 rfl ⟨rfl, by omega, by unfold cutv; first | (rw [if_pos (by omega)]; subst_vars; rfl) | (rw [if_neg (by omega), if_pos (by omega)]; subst_vars; rfl) | (rw [if_neg (by omega), if_neg (by omega), if_pos (by omega)]; subst_vars; rfl) | (rw [if_neg (by omega), if_neg (by omega), if_neg (by omega)])⟩
  · intro h2 h2b
    rcases (show w = 0 ∨ w = 1 ∨ w = 2 by omega) with h2c | h2c | h2c
    · refine ⟨_, by rw [h2c]; rfl, by decide, ?_⟩
      refine n_pc (k2 := 28) rfl ?_
      refine n_lload_n c_91_28 rfl ?_
      refine n_l2i c_91_29 ?_
      refine n_wrap ?_
      have f3 := n_wr_r v
      generalize gz4 : n_wr v = z4 at f3 ⊢
      refine n_i2b c_91_30 ?_
      have f5 := n_2b_r z4
      generalize gz6 : n_2b z4 = z6 at f5 ⊢
      refine n_i2l c_91_31 (by omega) ?_
      exact n_rJ c_91_32 rfl ⟨rfl, by omega, by unfold cutv; first | (rw [if_pos (by omega)]; subst_vars; rfl) | (rw [if_neg (by omega), if_pos (by omega)]; subst_vars; rfl) | (rw [if_neg (by omega), if_neg (by omega), if_pos (by omega)]; subst_vars; rfl) | (rw [if_neg (by omega), if_neg (by omega), if_neg (by omega)])⟩
    · refine ⟨_, by rw [h2c]; rfl, by decide, ?_⟩
      refine n_pc (k2 := 33) rfl ?_
      refine n_lload_n c_91_33 rfl ?_
      refine n_l2i c_91_34 ?_
      refine n_wrap ?_
      have f7 := n_wr_r v
      generalize gz8 : n_wr v = z8 at f7 ⊢
      refine n_i2s c_91_35 ?_
      have f9 := n_2s_r z8
      generalize gz10 : n_2s z8 = z10 at f9 ⊢
      refine n_i2l c_91_36 (by omega) ?_
      exact n_rJ c_91_37 rfl ⟨rfl, by omega, by unfold cutv; first | (rw [if_pos (by omega)]; subst_vars; rfl) | (rw [if_neg (by omega), if_pos (by omega)]; subst_vars; rfl) | (rw [if_neg (by omega), if_neg (by omega), if_pos (by omega)]; subst_vars; rfl) | (rw [if_neg (by omega), if_neg (by omega), if_neg (by omega)])⟩
    · refine ⟨_, by rw [h2c]; rfl, by decide, ?_⟩
      refine n_pc (k2 := 38) rfl ?_
      refine n_lload_n c_91_38 rfl ?_
      refine n_l2i c_91_39 ?_
      refine n_wrap ?_
      have f11 := n_wr_r v
      generalize gz12 : n_wr v = z12 at f11 ⊢
      refine n_i2l c_91_40 (by omega) ?_
      exact n_rJ c_91_41 rfl ⟨rfl, by omega, by unfold cutv; first | (rw [if_pos (by omega)]; subst_vars; rfl) | (rw [if_neg (by omega), if_pos (by omega)]; subst_vars; rfl) | (rw [if_neg (by omega), if_neg (by omega), if_pos (by omega)]; subst_vars; rfl) | (rw [if_neg (by omega), if_neg (by omega), if_neg (by omega)])⟩

set_option maxHeartbeats 4000000 in
theorem putX_2 {xs : List Int32} {e : Nat} {ac : Int} {M : nM} {s i v gd : Int} (hS : Sf 2 ac M M) (hs : 0 ≤ s ∧ s ≤ 7) (hi : -2147483648 ≤ i ∧ i ≤ 2147483647) (hv : -9223372036854775808 ≤ v ∧ v ≤ 9223372036854775807) (hgd : M 112 0 = gd) : nW xs (e + 1) 88 0 [some (2, 8), some (0, s), some (0, i), some (1, v), none] [] M (nPI fun z M1 => Sf 2 ac M1 M1 ∧ (0 ≤ z ∧ z ≤ 1) ∧ (M1 112 0 = gd) ∧ (cPut s i v z M M1)) := by
  have hd : (2 : Int) = 2 ∨ (2 : Int) = 3 := by decide
  have hac := hS.2.2.2.2
  refine n_iload_n c_88_0 rfl ?_
  refine n_if0_lt c_88_1 (by omega) ?_ ?_
  · intro h1
    refine n_iconst c_88_14 ?_
    exact n_rZ c_88_15 rfl (by omega) ⟨hS, by omega, by omega, by exact Or.inl ⟨by omega, rfl, fun _ _ _ => rfl⟩⟩
  · intro h2
    refine n_iload_n c_88_4 rfl ?_
    refine n_aload_n c_88_5 rfl ?_
    refine n_getR c_88_6 sc_8.n rfl rfl rfl r_8_2 ?_
    refine n_iload_n c_88_9 rfl ?_
    refine n_ialoadV c_88_10 sc_11.n rfl rfl rfl (by omega) (t_11 hS (by omega)) ?_
    intro z3 ez3 f4
    refine n_if2_lt c_88_11 (by omega) (by omega) ?_ ?_
    · intro h5
      refine n_aload_n c_88_16 rfl ?_
      refine n_getR c_88_17 sc_8.n rfl rfl rfl r_8_0 ?_
      refine n_iload_n c_88_20 rfl ?_
      refine n_bipush c_88_21 rfl ?_
      refine n_imul c_88_23 rfl ?_
      refine n_iload_n c_88_24 rfl ?_
      refine n_iadd c_88_25 rfl ?_
      refine n_aload_n c_88_26 rfl ?_
      refine n_lload_n c_88_27 rfl ?_
      refine n_aload_n c_88_28 rfl ?_
      refine n_getR c_88_29 sc_8.n rfl rfl rfl r_8_1 ?_
      refine n_iload_n c_88_32 rfl ?_
      refine n_ialoadV c_88_33 sc_10.n rfl rfl rfl (by omega) (t_10 hS (by omega)) ?_
      intro z6 ez6 f7
      refine n_v2J c_88_34 rfl sc_8.n rfl rfl rfl rfl (cutX_2 (v := v) (w := z6) hS (by omega) (by omega)) ?_
      intro z8 M9 hP10
      obtain ⟨eM, f10, f10p0⟩ := hP10
      subst eM
      refine n_lastoreM hS c_88_37 sc_9.n rfl (by omega) (m_9 (by omega) (by omega)) ?_
      intro M11 eM11 hS11
      have g11_0 : M11 112 0 = M 112 0 := by rw [eM11]; exact nu_a (by omega)
      have g11_1 : M11 11 s = M 11 s := by rw [eM11]; exact nu_a (by omega)
      refine n_iconst c_88_38 ?_
      exact n_rZ c_88_39 rfl (by omega) ⟨hS11, by omega, by omega, by exact Or.inr ⟨by omega, by omega, rfl, by rw [eM11, show (40 * s + i : Int) = s * 40 + i by omega, nu_s, f10p0, ez6], fun a b _ q => by rw [eM11, nu_e, if_neg (by omega)]⟩⟩
    · intro h12
      refine n_iconst c_88_14 ?_
      exact n_rZ c_88_15 rfl (by omega) ⟨hS, by omega, by omega, by exact Or.inl ⟨by omega, rfl, fun _ _ _ => rfl⟩⟩

set_option maxHeartbeats 4000000 in
theorem writeX_2 {xs : List Int32} {e : Nat} {ac : Int} {M : nM} {s i v gd : Int} (hS : Sf 2 ac M M) (hs : -2147483648 ≤ s ∧ s ≤ 2147483647) (hi : -2147483648 ≤ i ∧ i ≤ 2147483647) (hv : -9223372036854775808 ≤ v ∧ v ≤ 9223372036854775807) (hgd : M 112 0 = gd) : nW xs (e + 2) 96 0 [some (2, 3), some (0, s), some (0, i), some (1, v), none] [] M (nPI fun z M1 => Sf 2 ac M1 M1 ∧ (-2147483648 ≤ z ∧ z ≤ 2147483647) ∧ (M1 112 0 = gd) ∧ (cWri s i v z M M1)) := by
  have hd : (2 : Int) = 2 ∨ (2 : Int) = 3 := by decide
  have hac := hS.2.2.2.2
  refine n_aload_n c_96_0 rfl ?_
  refine n_getR c_96_1 sc_3.n rfl rfl rfl r_3_1 ?_
  refine n_iload_n c_96_4 rfl ?_
  refine n_v1I c_96_5 rfl sc_8.n rfl rfl rfl rfl (isSlotF_2 (s := s) hS (by omega)) ?_
  intro z1 M2 hP3
  obtain ⟨eM, f3, f3p0⟩ := hP3
  subst eM
  refine n_if0_ne c_96_8 (by omega) ?_ ?_
  · intro h4
    refine n_aload_n c_96_14 rfl ?_
    refine n_getR c_96_15 sc_3.n rfl rfl rfl r_3_1 ?_
    refine n_iload_n c_96_18 rfl ?_
    refine n_v1I c_96_19 rfl sc_8.n rfl rfl rfl rfl (hasRowF_2 (s := s) hS (by omega)) ?_
    intro z5 M6 hP7
    obtain ⟨eM, f7, f7p0⟩ := hP7
    subst eM
    refine n_if0_ne c_96_22 (by omega) ?_ ?_
    · intro h8
      refine n_aload_n c_96_28 rfl ?_
      refine n_getR c_96_29 sc_3.n rfl rfl rfl r_3_1 ?_
      refine n_iload_n c_96_32 rfl ?_
      refine n_iload_n c_96_33 rfl ?_
      refine n_lload_n c_96_34 rfl ?_
      refine n_v3I c_96_35 rfl sc_8.n rfl rfl rfl rfl (putX_2 (s := s) (i := i) (v := v) (gd := (M 112 0)) hS (by omega) (by omega) (by omega) rfl) ?_
      intro z9 M10 hP11
      obtain ⟨hS10, f11, f11g0, f11p0⟩ := hP11
      refine n_if0_eq c_96_38 (by omega) ?_ ?_
      · intro h12
        refine n_bipush c_96_45 rfl ?_
        exact n_rI c_96_47 rfl ⟨hS10, by omega, by omega, by exact cWri_of (by omega) (by omega) (by omega) f11p0 (by omega)⟩
      · intro h13
        refine n_iconst c_96_41 ?_
        refine n_goto c_96_42 ?_
        exact n_rI c_96_47 rfl ⟨hS10, by omega, by omega, by exact cWri_of (by omega) (by omega) (by omega) f11p0 (by omega)⟩
    · intro h14
      refine n_bipush c_96_25 rfl ?_
      exact n_rI c_96_27 rfl ⟨hS, by omega, by omega, by exact Or.inr (Or.inl ⟨by omega, by omega, by omega, rfl, fun _ _ _ => rfl⟩)⟩
  · intro h15
    refine n_bipush c_96_11 rfl ?_
    exact n_rI c_96_13 rfl ⟨hS, by omega, by omega, by exact Or.inl ⟨by omega, rfl, fun _ _ _ => rfl⟩⟩

set_option maxHeartbeats 4000000 in
theorem mwriteX_2 {xs : List Int32} {e : Nat} {ac : Int} {M : nM} {s i v gd : Int} (hS : Sf 2 ac M M) (hdm : M 112 0 = 2) (hs : -2147483648 ≤ s ∧ s ≤ 2147483647) (hi : -2147483648 ≤ i ∧ i ≤ 2147483647) (hv : -9223372036854775808 ≤ v ∧ v ≤ 9223372036854775807) (hgd : M 112 0 = gd) : nW xs (e + 1) 146 0 [some (2, 112), some (0, s), some (0, i), some (1, v), none, none] [] M (nPI fun z M1 => Sf 2 ac M1 M1 ∧ (-2147483648 ≤ z ∧ z ≤ 2147483647) ∧ (M1 112 0 = gd) ∧ (mWri s i v z M M1)) := by
  have hd : (2 : Int) = 2 ∨ (2 : Int) = 3 := by decide
  have hac := hS.2.2.2.2
  refine n_iload_n c_146_0 rfl ?_
  refine n_s1I c_146_1 rfl rfl rfl rfl (misSlotF_2 (s := s) hS (by omega)) ?_
  intro z1 M2 hP3
  obtain ⟨eM, f3, f3p0⟩ := hP3
  subst eM
  refine n_if0_ne c_146_4 (by omega) ?_ ?_
  · intro h4
    refine n_aload_n c_146_10 rfl ?_
    refine n_getR c_146_11 sc_112.n rfl rfl rfl r_112_1 ?_
    refine n_iload_n c_146_14 rfl ?_
    refine n_ialoadV c_146_15 sc_113.n rfl rfl rfl (by omega) (t_113 hS (by omega)) ?_
    intro z5 ez5 f6
    refine n_if0_ne c_146_16 (by omega) ?_ ?_
    · intro h7
      refine n_iload_n c_146_22 rfl ?_
      refine n_if0_lt c_146_23 (by omega) ?_ ?_
      · intro h8
        refine n_bipush c_146_38 rfl ?_
        exact n_rI c_146_40 rfl ⟨hS, by omega, by omega, by exact Or.inr (Or.inr (Or.inl ⟨by omega, by omega, by omega, by omega, rfl, fun _ _ _ => rfl⟩))⟩
      · intro h9
        refine n_iload_n c_146_26 rfl ?_
        refine n_aload_n c_146_27 rfl ?_
        refine n_getR c_146_28 sc_112.n rfl rfl rfl r_112_1 ?_
        refine n_iload_n c_146_31 rfl ?_
        refine n_ialoadV c_146_32 sc_113.n rfl rfl rfl (by omega) (t_113 hS (by omega)) ?_
        intro z10 ez10 f11
        refine n_iconst c_146_33 ?_
        refine n_isub c_146_34 rfl ?_
        refine n_if2_lt c_146_35 (by omega) (by omega) ?_ ?_
        · intro h12
          refine n_aload_n c_146_41 rfl ?_
          refine n_getR c_146_42 sc_112.n rfl rfl rfl r_112_2 ?_
          refine n_iload_n c_146_45 rfl ?_
          refine n_ialoadV c_146_46 sc_114.n rfl rfl rfl (by omega) (t_114 hS (by omega)) ?_
          intro z13 ez13 f14
          refine n_istore (L2 := [some (2, 112), some (0, s), some (0, i), some (1, v), none, some (0, z13)]) c_146_47 rfl rfl ?_
          refine n_aload_n c_146_49 rfl ?_
          refine n_getR c_146_50 sc_112.n rfl rfl rfl r_112_3 ?_
          refine n_bipush c_146_53 rfl ?_
          refine n_iload_n c_146_55 rfl ?_
          refine n_imul c_146_56 rfl ?_
          refine n_iload_n c_146_57 rfl ?_
          refine n_iadd c_146_58 rfl ?_
          refine n_iload c_146_59 rfl ?_
          refine n_if0_ne c_146_61 (by omega) ?_ ?_
          · intro h15
            refine n_iload c_146_71 rfl ?_
            refine n_iconst c_146_73 ?_
            refine n_if2_ne c_146_74 (by omega) (by omega) ?_ ?_
            · intro h16
              refine n_iload c_146_84 rfl ?_
              refine n_iconst c_146_86 ?_
              refine n_if2_ne c_146_87 (by omega) (by omega) ?_ ?_
              · intro h17
                refine n_lload_n c_146_96 rfl ?_
                refine n_lastoreM hS c_146_97 sc_115.n rfl (by omega) (m_115 (by omega) (by omega)) ?_
                intro M18 eM18 hS18
                have g18_0 : M18 112 0 = M 112 0 := by rw [eM18]; exact nu_a (by omega)
                have g18_1 : M18 113 s = M 113 s := by rw [eM18]; exact nu_a (by omega)
                refine n_iconst c_146_98 ?_
                exact n_rI c_146_99 rfl ⟨hS18, by omega, by omega, by exact Or.inr (Or.inr (Or.inr ⟨by omega, by omega, by omega, by omega, by omega, rfl, by rw [eM18, nu_s]; unfold cutv; first | (rw [if_pos (by omega)]; subst_vars; rfl) | (rw [if_neg (by omega), if_pos (by omega)]; subst_vars; rfl) | (rw [if_neg (by omega), if_neg (by omega), if_pos (by omega)]; subst_vars; rfl) | (rw [if_neg (by omega), if_neg (by omega), if_neg (by omega)]), fun a b _ q => by rw [eM18, nu_e, if_neg q]⟩))⟩
              · intro h19
                refine n_lload_n c_146_90 rfl ?_
                refine n_l2i c_146_91 ?_
                refine n_wrap ?_
                have f20 := n_wr_r v
                generalize gz21 : n_wr v = z21 at f20 ⊢
                refine n_i2l c_146_92 (by omega) ?_
                refine n_goto c_146_93 ?_
                refine n_lastoreM hS c_146_97 sc_115.n rfl (by omega) (m_115 (by omega) (by omega)) ?_
                intro M22 eM22 hS22
                have g22_0 : M22 112 0 = M 112 0 := by rw [eM22]; exact nu_a (by omega)
                have g22_1 : M22 113 s = M 113 s := by rw [eM22]; exact nu_a (by omega)
                refine n_iconst c_146_98 ?_
                exact n_rI c_146_99 rfl ⟨hS22, by omega, by omega, by exact Or.inr (Or.inr (Or.inr ⟨by omega, by omega, by omega, by omega, by omega, rfl, by rw [eM22, nu_s]; unfold cutv; first | (rw [if_pos (by omega)]; subst_vars; rfl) | (rw [if_neg (by omega), if_pos (by omega)]; subst_vars; rfl) | (rw [if_neg (by omega), if_neg (by omega), if_pos (by omega)]; subst_vars; rfl) | (rw [if_neg (by omega), if_neg (by omega), if_neg (by omega)]), fun a b _ q => by rw [eM22, nu_e, if_neg q]⟩))⟩
            · intro h23
              refine n_lload_n c_146_77 rfl ?_
              refine n_l2i c_146_78 ?_
              refine n_wrap ?_
              have f24 := n_wr_r v
              generalize gz25 : n_wr v = z25 at f24 ⊢
              refine n_i2s c_146_79 ?_
              have f26 := n_2s_r z25
              generalize gz27 : n_2s z25 = z27 at f26 ⊢
              refine n_i2l c_146_80 (by omega) ?_
              refine n_goto c_146_81 ?_
              refine n_lastoreM hS c_146_97 sc_115.n rfl (by omega) (m_115 (by omega) (by omega)) ?_
              intro M28 eM28 hS28
              have g28_0 : M28 112 0 = M 112 0 := by rw [eM28]; exact nu_a (by omega)
              have g28_1 : M28 113 s = M 113 s := by rw [eM28]; exact nu_a (by omega)
              refine n_iconst c_146_98 ?_
              exact n_rI c_146_99 rfl ⟨hS28, by omega, by omega, by exact Or.inr (Or.inr (Or.inr ⟨by omega, by omega, by omega, by omega, by omega, rfl, by rw [eM28, nu_s]; unfold cutv; first | (rw [if_pos (by omega)]; subst_vars; rfl) | (rw [if_neg (by omega), if_pos (by omega)]; subst_vars; rfl) | (rw [if_neg (by omega), if_neg (by omega), if_pos (by omega)]; subst_vars; rfl) | (rw [if_neg (by omega), if_neg (by omega), if_neg (by omega)]), fun a b _ q => by rw [eM28, nu_e, if_neg q]⟩))⟩
          · intro h29
            refine n_lload_n c_146_64 rfl ?_
            refine n_l2i c_146_65 ?_
            refine n_wrap ?_
            have f30 := n_wr_r v
            generalize gz31 : n_wr v = z31 at f30 ⊢
            refine n_i2b c_146_66 ?_
            have f32 := n_2b_r z31
            generalize gz33 : n_2b z31 = z33 at f32 ⊢
            refine n_i2l c_146_67 (by omega) ?_
            refine n_goto c_146_68 ?_
            refine n_lastoreM hS c_146_97 sc_115.n rfl (by omega) (m_115 (by omega) (by omega)) ?_
            intro M34 eM34 hS34
            have g34_0 : M34 112 0 = M 112 0 := by rw [eM34]; exact nu_a (by omega)
            have g34_1 : M34 113 s = M 113 s := by rw [eM34]; exact nu_a (by omega)
            refine n_iconst c_146_98 ?_
            exact n_rI c_146_99 rfl ⟨hS34, by omega, by omega, by exact Or.inr (Or.inr (Or.inr ⟨by omega, by omega, by omega, by omega, by omega, rfl, by rw [eM34, nu_s]; unfold cutv; first | (rw [if_pos (by omega)]; subst_vars; rfl) | (rw [if_neg (by omega), if_pos (by omega)]; subst_vars; rfl) | (rw [if_neg (by omega), if_neg (by omega), if_pos (by omega)]; subst_vars; rfl) | (rw [if_neg (by omega), if_neg (by omega), if_neg (by omega)]), fun a b _ q => by rw [eM34, nu_e, if_neg q]⟩))⟩
        · intro h35
          refine n_bipush c_146_38 rfl ?_
          exact n_rI c_146_40 rfl ⟨hS, by omega, by omega, by exact Or.inr (Or.inr (Or.inl ⟨by omega, by omega, by omega, by omega, rfl, fun _ _ _ => rfl⟩))⟩
    · intro h36
      refine n_bipush c_146_19 rfl ?_
      exact n_rI c_146_21 rfl ⟨hS, by omega, by omega, by exact Or.inr (Or.inl ⟨by omega, by omega, by omega, rfl, fun _ _ _ => rfl⟩)⟩
  · intro h37
    refine n_bipush c_146_7 rfl ?_
    exact n_rI c_146_9 rfl ⟨hS, by omega, by omega, by exact Or.inl ⟨by omega, rfl, fun _ _ _ => rfl⟩⟩

set_option maxHeartbeats 4000000 in
theorem readX1_2 {xs : List Int32} {e : Nat} {ac : Int} {M0 M : nM} {s i : Int} (hS : Sf 2 ac M0 M) (hs : 0 ≤ s ∧ s ≤ 7) (hi : -2147483648 ≤ i ∧ i ≤ 2147483647) : nW xs e 89 0 [some (2, 8), some (0, s), some (0, i), some (0, 1), none, none] [] M (nPI fun z M1 => M = M1 ∧ (-6 ≤ z ∧ z ≤ 1) ∧ (((i < 0 ∨ M 11 s ≤ i) ∧ z = -6) ∨ (0 ≤ i ∧ i < M 11 s ∧ (M 9 (40 * s + i) < 0 ∨ 1 < M 9 (40 * s + i)) ∧ z = -4) ∨ (0 ≤ i ∧ i < M 11 s ∧ 0 ≤ M 9 (40 * s + i) ∧ M 9 (40 * s + i) ≤ 1 ∧ z = M 9 (40 * s + i)))) := by
  have hd : (2 : Int) = 2 ∨ (2 : Int) = 3 := by decide
  have hac := hS.2.2.2.2
  refine n_iload_n c_89_0 rfl ?_
  refine n_if0_lt c_89_1 (by omega) ?_ ?_
  · intro h1
    refine n_bipush c_89_14 rfl ?_
    exact n_rI c_89_16 rfl ⟨rfl, by omega, by rw [show (40 * s + i : Int) = s * 40 + i by omega]; omega⟩
  · intro h2
    refine n_iload_n c_89_4 rfl ?_
    refine n_aload_n c_89_5 rfl ?_
    refine n_getR c_89_6 sc_8.n rfl rfl rfl r_8_2 ?_
    refine n_iload_n c_89_9 rfl ?_
    refine n_ialoadV c_89_10 sc_11.n rfl rfl rfl (by omega) (t_11 hS (by omega)) ?_
    intro z3 ez3 f4
    refine n_if2_lt c_89_11 (by omega) (by omega) ?_ ?_
    · intro h5
      refine n_aload_n c_89_17 rfl ?_
      refine n_getR c_89_18 sc_8.n rfl rfl rfl r_8_0 ?_
      refine n_iload_n c_89_21 rfl ?_
      refine n_bipush c_89_22 rfl ?_
      refine n_imul c_89_24 rfl ?_
      refine n_iload_n c_89_25 rfl ?_
      refine n_iadd c_89_26 rfl ?_
      refine n_laloadV c_89_27 sc_9.n rfl rfl rfl (by omega) (t_9 hS (by omega)) ?_
      intro z6 ez6 f7
      refine n_lstore (L2 := [some (2, 8), some (0, s), some (0, i), some (0, 1), some (1, z6), none]) c_89_28 rfl rfl ?_
      refine n_lload c_89_30 rfl ?_
      refine n_lconst (n := 0) c_89_32 rfl ?_
      refine n_lcmp c_89_33 ?_
      refine n_lif_lt c_89_34 (by omega) (by omega) ?_ ?_
      · intro h8
        refine n_bipush c_89_45 rfl ?_
        exact n_rI c_89_47 rfl ⟨rfl, by omega, by rw [show (40 * s + i : Int) = s * 40 + i by omega]; omega⟩
      · intro h9
        refine n_lload c_89_37 rfl ?_
        refine n_iload_n c_89_39 rfl ?_
        refine n_i2l c_89_40 (by omega) ?_
        refine n_lcmp c_89_41 ?_
        refine n_lif_le c_89_42 (by omega) (by omega) ?_ ?_
        · intro h10
          refine n_lload c_89_48 rfl ?_
          refine n_l2i c_89_50 ?_
          exact n_rI c_89_51 rfl ⟨rfl, by omega, by rw [show (40 * s + i : Int) = s * 40 + i by omega]; omega⟩
        · intro h11
          refine n_bipush c_89_45 rfl ?_
          exact n_rI c_89_47 rfl ⟨rfl, by omega, by rw [show (40 * s + i : Int) = s * 40 + i by omega]; omega⟩
    · intro h12
      refine n_bipush c_89_14 rfl ?_
      exact n_rI c_89_16 rfl ⟨rfl, by omega, by rw [show (40 * s + i : Int) = s * 40 + i by omega]; omega⟩

set_option maxHeartbeats 4000000 in
theorem readX27_2 {xs : List Int32} {e : Nat} {ac : Int} {M0 M : nM} {s i : Int} (hS : Sf 2 ac M0 M) (hs : 0 ≤ s ∧ s ≤ 7) (hi : -2147483648 ≤ i ∧ i ≤ 2147483647) : nW xs e 89 0 [some (2, 8), some (0, s), some (0, i), some (0, 27), none, none] [] M (nPI fun z M1 => M = M1 ∧ (-6 ≤ z ∧ z ≤ 27) ∧ (((i < 0 ∨ M 11 s ≤ i) ∧ z = -6) ∨ (0 ≤ i ∧ i < M 11 s ∧ (M 9 (40 * s + i) < 0 ∨ 27 < M 9 (40 * s + i)) ∧ z = -4) ∨ (0 ≤ i ∧ i < M 11 s ∧ 0 ≤ M 9 (40 * s + i) ∧ M 9 (40 * s + i) ≤ 27 ∧ z = M 9 (40 * s + i)))) := by
  have hd : (2 : Int) = 2 ∨ (2 : Int) = 3 := by decide
  have hac := hS.2.2.2.2
  refine n_iload_n c_89_0 rfl ?_
  refine n_if0_lt c_89_1 (by omega) ?_ ?_
  · intro h1
    refine n_bipush c_89_14 rfl ?_
    exact n_rI c_89_16 rfl ⟨rfl, by omega, by rw [show (40 * s + i : Int) = s * 40 + i by omega]; omega⟩
  · intro h2
    refine n_iload_n c_89_4 rfl ?_
    refine n_aload_n c_89_5 rfl ?_
    refine n_getR c_89_6 sc_8.n rfl rfl rfl r_8_2 ?_
    refine n_iload_n c_89_9 rfl ?_
    refine n_ialoadV c_89_10 sc_11.n rfl rfl rfl (by omega) (t_11 hS (by omega)) ?_
    intro z3 ez3 f4
    refine n_if2_lt c_89_11 (by omega) (by omega) ?_ ?_
    · intro h5
      refine n_aload_n c_89_17 rfl ?_
      refine n_getR c_89_18 sc_8.n rfl rfl rfl r_8_0 ?_
      refine n_iload_n c_89_21 rfl ?_
      refine n_bipush c_89_22 rfl ?_
      refine n_imul c_89_24 rfl ?_
      refine n_iload_n c_89_25 rfl ?_
      refine n_iadd c_89_26 rfl ?_
      refine n_laloadV c_89_27 sc_9.n rfl rfl rfl (by omega) (t_9 hS (by omega)) ?_
      intro z6 ez6 f7
      refine n_lstore (L2 := [some (2, 8), some (0, s), some (0, i), some (0, 27), some (1, z6), none]) c_89_28 rfl rfl ?_
      refine n_lload c_89_30 rfl ?_
      refine n_lconst (n := 0) c_89_32 rfl ?_
      refine n_lcmp c_89_33 ?_
      refine n_lif_lt c_89_34 (by omega) (by omega) ?_ ?_
      · intro h8
        refine n_bipush c_89_45 rfl ?_
        exact n_rI c_89_47 rfl ⟨rfl, by omega, by rw [show (40 * s + i : Int) = s * 40 + i by omega]; omega⟩
      · intro h9
        refine n_lload c_89_37 rfl ?_
        refine n_iload_n c_89_39 rfl ?_
        refine n_i2l c_89_40 (by omega) ?_
        refine n_lcmp c_89_41 ?_
        refine n_lif_le c_89_42 (by omega) (by omega) ?_ ?_
        · intro h10
          refine n_lload c_89_48 rfl ?_
          refine n_l2i c_89_50 ?_
          exact n_rI c_89_51 rfl ⟨rfl, by omega, by rw [show (40 * s + i : Int) = s * 40 + i by omega]; omega⟩
        · intro h11
          refine n_bipush c_89_45 rfl ?_
          exact n_rI c_89_47 rfl ⟨rfl, by omega, by rw [show (40 * s + i : Int) = s * 40 + i by omega]; omega⟩
    · intro h12
      refine n_bipush c_89_14 rfl ?_
      exact n_rI c_89_16 rfl ⟨rfl, by omega, by rw [show (40 * s + i : Int) = s * 40 + i by omega]; omega⟩

set_option maxHeartbeats 4000000 in
theorem actsOfThreeX_2_c {xs : List Int32} {e : Nat} {ac : Int} {M0 M : nM} (hS : Sf 2 ac M0 M)  : ∀ nn : Nat, (∀ (x1 x2 : Int), (0 ≤ x1 ∧ x1 ≤ 8) → (0 ≤ x2 ∧ x2 ≤ 8) → (x1 = c3 (fun a => M (55 + 3 * a) 0) x2.toNat) → (x1 ≤ x2) → (x2 ≤ ac) → (8 - x2) * 1 + 1 < (nn : Int) → nW xs e 127 4 [some (2, 3), some (0, x1), some (0, x2)] [] M (nPI fun z M1 => M = M1 ∧ (0 ≤ z ∧ z ≤ 8) ∧ (z = c3 (fun a => M (55 + 3 * a) 0) (M 3 14).toNat))) := by
  have hd : (2 : Int) = 2 ∨ (2 : Int) = 3 := by decide
  have hac := hS.2.2.2.2
  intro nn
  induction nn with
  | zero => intros; omega
  | succ nn ih =>
    intro x1 x2 k1 k2 v0 v1 v2 hnn
    refine n_iload_n c_127_4 rfl ?_
    refine n_aload_n c_127_5 rfl ?_
    refine n_getV (bi := 14) c_127_6 sc_3.n rfl rfl rfl (t_3_14x hS) ?_
    intro z1 ez1 f2
    have f2a := t_ac hS
    refine n_if2_ge c_127_9 (by omega) (by omega) ?_ ?_
    · intro h3
      refine n_iload_n c_127_34 rfl ?_
      exact n_rI c_127_35 rfl ⟨rfl, by omega, by have q : x2 = M 3 14 := (by have := t_ac hS; omega); rw [← q]; exact v0⟩
    · intro h4
      refine n_aload_n c_127_12 rfl ?_
      refine n_getR c_127_13 sc_3.n rfl rfl rfl r_3_2 ?_
      refine n_iload_n c_127_16 rfl ?_
      refine n_aaload c_127_17 sc_12.n rfl rfl rfl (by omega) (r_acts _) ?_
      have q5 : ActAt (55 + 3 * x2) := by unfold ActAt; omega
      have q5l : (55 + 3 * x2) < 55 + 3 * ac := by omega
      refine n_getV (bi := 0) c_127_18 q5.c0.1.n rfl rfl rfl (t_actl hS q5 q5l).1 ?_
      intro z6 ez6 f7
      refine n_iconst c_127_21 ?_
      refine n_if2_ne c_127_22 (by omega) (by omega) ?_ ?_
      · intro h8
        refine n_iinc (L2 := [some (2, 3), some (0, x1), some (0, (x2 + 1))]) c_127_28 rfl rfl rfl ?_
        refine n_goto c_127_31 ?_
        refine n_fg (le_s (le_s (le_s le_0))) ?_
        exact ih _ _ (by omega) (by omega) (by rw [c3_step (by omega)]; show _ = _ + (if M (55 + 3 * x2) 0 = 3 then 1 else 0); split <;> omega) (by omega) (by omega) (by omega)
      · intro h9
        refine n_iinc (L2 := [some (2, 3), some (0, (x1 + 1)), some (0, x2)]) c_127_25 rfl rfl rfl ?_
        refine n_iinc (L2 := [some (2, 3), some (0, (x1 + 1)), some (0, (x2 + 1))]) c_127_28 rfl rfl rfl ?_
        refine n_goto c_127_31 ?_
        refine n_fg (le_s (le_s (le_s le_0))) ?_
        exact ih _ _ (by omega) (by omega) (by rw [c3_step (by omega)]; show _ = _ + (if M (55 + 3 * x2) 0 = 3 then 1 else 0); split <;> omega) (by omega) (by omega) (by omega)
set_option maxHeartbeats 4000000 in
theorem actsOfThreeX_2 {xs : List Int32} {e : Nat} {ac : Int} {M0 M : nM} (hS : Sf 2 ac M0 M)  : nW xs e 127 0 [some (2, 3), none, none] [] M (nPI fun z M1 => M = M1 ∧ (0 ≤ z ∧ z ≤ 8) ∧ (z = c3 (fun a => M (55 + 3 * a) 0) (M 3 14).toNat)) := by
  have hd : (2 : Int) = 2 ∨ (2 : Int) = 3 := by decide
  have hac := hS.2.2.2.2
  refine n_iconst c_127_0 ?_
  refine n_istore_n (L2 := [some (2, 3), some (0, 0), none]) c_127_1 rfl rfl ?_
  refine n_iconst c_127_2 ?_
  refine n_istore_n (L2 := [some (2, 3), some (0, 0), some (0, 0)]) c_127_3 rfl rfl ?_
  refine n_fg (le_s (le_s (le_s le_0))) ?_
  exact (actsOfThreeX_2_c hS  30) _ _ (by omega) (by omega) (by rfl) (by omega) (by omega) (by omega)

set_option maxHeartbeats 4000000 in
theorem takeX1_2_c {xs : List Int32} {e : Nat} {ac : Int} {M : nM} {p gd : Int} {Ms : nM} (hS : Sf 2 ac M M) (hp : ActAt p) (hpl : p = 55 + 3 * ac) (hgd : M 112 0 = gd) (hms : M = Ms) : ∀ nn : Nat, (∀ (x4 x5 : Int) (M : nM), Sf 2 ac M M → (0 ≤ x4 ∧ x4 ≤ 1) → (0 ≤ x5 ∧ x5 ≤ 8) → (M 112 0 = gd) → (M p 0 = 1) → (M p 1 = 2) → (x4 = x5 % 2) → (TL 2 p x5 Ms M) → (FP p Ms M) → (8 - x5) * 1 + 11 < (nn : Int) → nW xs (e + 1) 2 20 [some (2, p), none, some (2, 54), some (2, 4), some (0, x4), some (0, x5), none] [] M (nPV fun M1 => Sf 2 ac M1 M1 ∧ (M1 112 0 = gd) ∧ (NAct 2 1 2 p (fun i => Ms 54 i) M1) ∧ (FP p Ms M1))) ∧ (∀ (x5 : Int) (M : nM), Sf 2 ac M M → (0 ≤ x5 ∧ x5 ≤ 8) → (M 112 0 = gd) → (M p 0 = 1) → (M p 1 = 2) → (TL 2 p 8 Ms M) → (TU 2 p x5 M) → (FP p Ms M) → (8 - x5) * 1 + 1 < (nn : Int) → nW xs (e + 1) 2 70 [some (2, p), none, none, some (2, 4), none, some (0, x5), none] [] M (nPV fun M1 => Sf 2 ac M1 M1 ∧ (M1 112 0 = gd) ∧ (NAct 2 1 2 p (fun i => Ms 54 i) M1) ∧ (FP p Ms M1))) := by
  have hd : (2 : Int) = 2 ∨ (2 : Int) = 3 := by decide
  have hac := hS.2.2.2.2
  have hpb := hp.1
  intro nn
  induction nn with
  | zero => refine ⟨?_, ?_⟩ <;> (intros; omega)
  | succ nn ih =>
    refine ⟨?_, ?_⟩
    · intro x4 x5 M hS k4 k5 hggd v0 v1 v2 v3 v4 hnn
      refine n_iload c_2_20 rfl ?_
      refine n_aload_n c_2_22 rfl ?_
      refine n_getV (bi := 1) c_2_23 sc_4.n rfl rfl rfl (t_4_1 hS) ?_
      intro z1 ez1 f2
      obtain rfl : z1 = 8 := by omega
      refine n_if2_ge c_2_26 (by omega) (by omega) ?_ ?_
      · intro h3
        refine n_iconst c_2_67 ?_
        refine n_istore (L2 := [some (2, p), none, some (2, 54), some (2, 4), some (0, x4), some (0, 0), none]) c_2_68 rfl rfl ?_
        refine n_fg (le_s (le_n (le_n (le_s (le_n (le_s (le_n le_0))))))) ?_
        exact ih.2 _ M hS (by omega) (by omega) (by exact v0) (by exact v1) (by have q : x5 = 8 := (by omega); rw [q] at v3; exact v3) (by exact fun i h0 h1 => by omega) (by exact v4) (by omega)
      · intro h4
        refine n_aload_n c_2_29 rfl ?_
        refine n_getR c_2_30 hp.c0.1.n rfl rfl rfl hp.r.1 ?_
        refine n_iload c_2_33 rfl ?_
        refine n_aload_n c_2_35 rfl ?_
        refine n_iload c_2_36 rfl ?_
        refine n_ialoadV c_2_38 sc_54.n rfl rfl rfl (by omega) (t_54 hS (by omega)) ?_
        intro z5 ez5 f6
        refine n_iastoreM hS c_2_39 hp.c0.2.1.n rfl (by omega) (m_actnr hp hpl (Or.inl rfl) (by omega) (by omega)) ?_
        intro M7 eM7 hS7
        have g7_0 : M7 112 0 = M 112 0 := by rw [eM7]; exact nu_a (by omega)
        have g7_1 : M7 p 1 = M p 1 := by rw [eM7]; exact nu_a (by omega)
        refine n_iload c_2_40 rfl ?_
        refine n_iconst c_2_42 ?_
        refine n_iadd c_2_43 rfl ?_
        refine n_aload_n c_2_44 rfl ?_
        refine n_getV (bi := 1) c_2_45 hp.c0.1.n rfl rfl rfl (show 2 ≤ M7 p 1 ∧ M7 p 1 ≤ 2 by omega) ?_
        intro z8 ez8 f9
        obtain rfl : z8 = 2 := by omega
        refine n_if2_ge c_2_48 (by omega) (by omega) ?_ ?_
        · intro h10
          refine n_iconst c_2_58 ?_
          refine n_istore (L2 := [some (2, p), none, some (2, 54), some (2, 4), some (0, 0), some (0, x5), none]) c_2_59 rfl rfl ?_
          refine n_iinc (L2 := [some (2, p), none, some (2, 54), some (2, 4), some (0, 0), some (0, (x5 + 1)), none]) c_2_61 rfl rfl rfl ?_
          refine n_goto c_2_64 ?_
          refine n_fg (le_s (le_n (le_s (le_s (le_s (le_s (le_n le_0))))))) ?_
          exact ih.1 _ _ M7 hS7 (by omega) (by omega) (by omega) (by rw [eM7, nu_a (by omega)]; exact v0) (by rw [eM7, nu_a (by omega)]; exact v1) (by omega) (by exact TL.step v3 hpb eM7 ez5 (by omega)) (by exact FP.u v4 eM7 (by omega)) (by omega)
        · intro h11
          refine n_iload c_2_51 rfl ?_
          refine n_iconst c_2_53 ?_
          refine n_iadd c_2_54 rfl ?_
          refine n_goto c_2_55 ?_
          refine n_istore (L2 := [some (2, p), none, some (2, 54), some (2, 4), some (0, (x4 + 1)), some (0, x5), none]) c_2_59 rfl rfl ?_
          refine n_iinc (L2 := [some (2, p), none, some (2, 54), some (2, 4), some (0, (x4 + 1)), some (0, (x5 + 1)), none]) c_2_61 rfl rfl rfl ?_
          refine n_goto c_2_64 ?_
          refine n_fg (le_s (le_n (le_s (le_s (le_s (le_s (le_n le_0))))))) ?_
          exact ih.1 _ _ M7 hS7 (by omega) (by omega) (by omega) (by rw [eM7, nu_a (by omega)]; exact v0) (by rw [eM7, nu_a (by omega)]; exact v1) (by omega) (by exact TL.step v3 hpb eM7 ez5 (by omega)) (by exact FP.u v4 eM7 (by omega)) (by omega)
    · intro x5 M hS k5 hggd v0 v1 v2 v3 v4 hnn
      refine n_iload c_2_70 rfl ?_
      refine n_aload_n c_2_72 rfl ?_
      refine n_getV (bi := 1) c_2_73 sc_4.n rfl rfl rfl (t_4_1 hS) ?_
      intro z1 ez1 f2
      obtain rfl : z1 = 8 := by omega
      refine n_if2_ge c_2_76 (by omega) (by omega) ?_ ?_
      · intro h3
        exact n_rV c_2_134 rfl ⟨hS, by omega, by exact ⟨v0, v1, fun i h0 h1 => ⟨v2.2 i h0 (by omega), v3 i h0 (by omega)⟩⟩, by exact v4⟩
      · intro h4
        refine n_aload_n c_2_79 rfl ?_
        refine n_getR c_2_80 sc_4.n rfl rfl rfl r_4_2 ?_
        refine n_iload c_2_83 rfl ?_
        refine n_ialoadV c_2_85 sc_5.n rfl rfl rfl (by omega) (t_5d hS hd (by omega) (by omega)) ?_
        intro z5 ez5 f6
        refine n_aload_n c_2_86 rfl ?_
        refine n_getV (bi := 0) c_2_87 sc_4.n rfl rfl rfl (t_4_0 hS) ?_
        intro z7 ez7 f8
        obtain rfl : z7 = 2 := by omega
        refine n_imul c_2_90 rfl ?_
        refine n_aload_n c_2_91 rfl ?_
        refine n_getR c_2_92 sc_4.n rfl rfl rfl r_4_4 ?_
        refine n_iload c_2_95 rfl ?_
        refine n_ialoadV c_2_97 sc_7.n rfl rfl rfl (by omega) (t_7d hS hd (by omega) (by omega)) ?_
        intro z9 ez9 f10
        refine n_iadd c_2_98 rfl ?_
        refine n_aload_n c_2_99 rfl ?_
        refine n_getV (bi := 0) c_2_100 sc_4.n rfl rfl rfl (t_4_0 hS) ?_
        intro z11 ez11 f12
        obtain rfl : z11 = 2 := by omega
        refine n_imul c_2_103 rfl ?_
        refine n_aload_n c_2_104 rfl ?_
        refine n_getR c_2_105 sc_4.n rfl rfl rfl r_4_3 ?_
        refine n_iload c_2_108 rfl ?_
        refine n_ialoadV c_2_110 sc_6.n rfl rfl rfl (by omega) (t_6d hS hd (by omega) (by omega)) ?_
        intro z13 ez13 f14
        refine n_iadd c_2_111 rfl ?_
        refine n_istore (L2 := [some (2, p), none, none, some (2, 4), none, some (0, x5), some (0, ((((z5 * 2) + z9) * 2) + z13))]) c_2_112 rfl rfl ?_
        refine n_aload_n c_2_114 rfl ?_
        refine n_getR c_2_115 hp.c0.1.n rfl rfl rfl hp.r.2 ?_
        refine n_iload c_2_118 rfl ?_
        refine n_aload_n c_2_120 rfl ?_
        refine n_getR c_2_121 hp.c0.1.n rfl rfl rfl hp.r.1 ?_
        refine n_iload c_2_124 rfl ?_
        refine n_ialoadV c_2_126 hp.c0.2.1.n rfl rfl rfl (by omega) (t_actr hS hd hp (Or.inl rfl) (by omega)) ?_
        intro z15 ez15 f16
        have qb5 := t_5e hS (i := x5) (by omega) (by omega)
        have qb6 := t_6e hS (i := x5) (by omega) (by omega)
        have qb7 := t_7e hS (i := x5) (by omega) (by omega)
        refine n_iastoreM hS c_2_127 hp.c0.2.2.n rfl (by omega) (m_actnr hp hpl (Or.inr rfl) (by omega) (by omega)) ?_
        intro M17 eM17 hS17
        have g17_0 : M17 112 0 = M 112 0 := by rw [eM17]; exact nu_a (by omega)
        have g17_1 : M17 p 1 = M p 1 := by rw [eM17]; exact nu_a (by omega)
        refine n_iinc (L2 := [some (2, p), none, none, some (2, 4), none, some (0, (x5 + 1)), some (0, ((((z5 * 2) + z9) * 2) + z13))]) c_2_128 rfl rfl rfl ?_
        refine n_goto c_2_131 ?_
        refine n_fg (le_s (le_n (le_n (le_s (le_n (le_s (le_n le_0))))))) ?_
        exact ih.2 _ M17 hS17 (by omega) (by omega) (by rw [eM17, nu_a (by omega)]; exact v0) (by rw [eM17, nu_a (by omega)]; exact v1) (by exact TL.uu v2 hpb eM17) (by exact TU.step v3 eM17 ez15 (by unfold tr; omega)) (by exact FP.u v4 eM17 (by omega)) (by omega)
set_option maxHeartbeats 4000000 in
theorem takeX1_2 {xs : List Int32} {e : Nat} {ac : Int} {M : nM} {p gd : Int} {Ms : nM} (hS : Sf 2 ac M M) (hp : ActAt p) (hpl : p = 55 + 3 * ac) (hgd : M 112 0 = gd) (hms : M = Ms) : nW xs (e + 1) 2 0 [some (2, p), some (0, 1), some (2, 54), some (2, 4), none, none, none] [] M (nPV fun M1 => Sf 2 ac M1 M1 ∧ (M1 112 0 = gd) ∧ (NAct 2 1 2 p (fun i => Ms 54 i) M1) ∧ (FP p Ms M1)) := by
  have hd : (2 : Int) = 2 ∨ (2 : Int) = 3 := by decide
  have hac := hS.2.2.2.2
  have hpb := hp.1
  refine n_aload_n c_2_0 rfl ?_
  refine n_iload_n c_2_1 rfl ?_
  refine n_putM (bi := 0) hS c_2_2 hp.c0.1.n rfl rfl rfl rfl (m_actn hp hpl (by omega) (by omega)) ?_
  intro M1 eM1 hS1
  have g1_0 : M1 112 0 = M 112 0 := by rw [eM1]; exact nu_a (by omega)
  have g1_1 : M1 p 0 = 1 := by rw [eM1]; exact nu_s _ _ _ _
  refine n_aload_n c_2_5 rfl ?_
  refine n_aload_n c_2_6 rfl ?_
  refine n_iload_n c_2_7 rfl ?_
  refine n_v1I c_2_8 rfl sc_4.n rfl rfl rfl rfl (power1_2  hS1 ) ?_
  intro z2 M3 hP4
  obtain ⟨eM, f4⟩ := hP4
  subst eM
  obtain rfl : z2 = 2 := by omega
  refine n_putM (bi := 1) hS1 c_2_11 hp.c0.1.n rfl rfl rfl rfl (m_actn hp hpl (by omega) (by omega)) ?_
  intro M5 eM5 hS5
  have g5_0 : M5 112 0 = M1 112 0 := by rw [eM5]; exact nu_a (by omega)
  have g5_1 : M5 p 0 = M1 p 0 := by rw [eM5]; exact nu_i (by omega)
  have g5_2 : M5 p 1 = 2 := by rw [eM5]; exact nu_s _ _ _ _
  refine n_iconst c_2_14 ?_
  refine n_istore (L2 := [some (2, p), some (0, 1), some (2, 54), some (2, 4), some (0, 0), none, none]) c_2_15 rfl rfl ?_
  refine n_iconst c_2_17 ?_
  refine n_istore (L2 := [some (2, p), some (0, 1), some (2, 54), some (2, 4), some (0, 0), some (0, 0), none]) c_2_18 rfl rfl ?_
  refine n_fg (le_s (le_n (le_s (le_s (le_s (le_s (le_n le_0))))))) ?_
  exact (takeX1_2_c hS hp hpl hgd hms 50).1 _ _ M5 hS5 (by omega) (by omega) (by omega) (by omega) (by omega) (by omega) (by subst hms; exact ⟨fun i => by rw [eM5, nu_a (by omega), eM1, nu_a (by omega)], fun i h0 h1 => by omega⟩) (by subst hms; exact FP.u (FP.u (fun _ _ _ _ => rfl) eM1 (by omega)) eM5 (by omega)) (by omega)

set_option maxHeartbeats 4000000 in
theorem actX1_2_c {xs : List Int32} {e : Nat} {ac : Int} {M : nM} {s gd : Int} {Ms : nM} (hS : Sf 2 ac M M) (hs : -2147483648 ≤ s ∧ s ≤ 2147483647) (hgd : M 112 0 = gd) (hms : M = Ms) : ∀ nn : Nat, (∀ (x3 x4 : Int) (M : nM), Sf 2 ac M M → (0 ≤ s ∧ s ≤ 7) → (2 ≤ x3 ∧ x3 ≤ 2) → (0 ≤ x4 ∧ x4 ≤ 2) → (M 112 0 = gd) → (TP 2 (Ms 11 s) (fun i => Ms 9 (40 * s + i)) x4 M) → (Eqc Ms M) → (¬ tooMany 1 (Ms 3 14) (fun a => Ms (55 + 3 * a) 0)) → (0 ≤ Ms 11 s) → (Ms 3 14 ≤ 7) → (M 3 14 = Ms 3 14) → (2 - x4) * 1 + 1 < (nn : Int) → nW xs (e + 2) 97 73 [some (2, 3), some (0, 1), some (0, s), some (0, x3), some (0, x4), none] [] M (nPI fun z M1 => (∃ ac2, Sf 2 ac2 M1 M1) ∧ (-2147483648 ≤ z ∧ z ≤ 2147483647) ∧ (M1 112 0 = gd) ∧ (cAct 2 1 2 s z Ms M1))) := by
  have hd : (2 : Int) = 2 ∨ (2 : Int) = 3 := by decide
  have hac := hS.2.2.2.2
  intro nn
  induction nn with
  | zero => intros; omega
  | succ nn ih =>
    intro x3 x4 M hS k2 k3 k4 hggd v0 v1 v2 v3 v4 v5 hnn
    refine n_iload c_97_73 rfl ?_
    refine n_iload_n c_97_75 rfl ?_
    refine n_if2_ge c_97_76 (by omega) (by omega) ?_ ?_
    · intro h1
      refine n_aload_n c_97_130 rfl ?_
      refine n_getR c_97_131 sc_3.n rfl rfl rfl r_3_2 ?_
      refine n_aload_n c_97_134 rfl ?_
      refine n_getV (bi := 14) c_97_135 sc_3.n rfl rfl rfl (t_3_14x hS) ?_
      intro z2 ez2 f3
      have f3a := t_ac hS
      refine n_aaload c_97_138 sc_12.n rfl rfl rfl (by omega) (r_acts _) ?_
      have q4 : ActAt (55 + 3 * z2) := by unfold ActAt; omega
      have q4l : (55 + 3 * z2) = 55 + 3 * ac := by omega
      refine n_iload_n c_97_139 rfl ?_
      refine n_aload_n c_97_140 rfl ?_
      refine n_getR c_97_141 sc_3.n rfl rfl rfl r_3_13 ?_
      refine n_aload_n c_97_144 rfl ?_
      refine n_getR c_97_145 sc_3.n rfl rfl rfl r_3_0 ?_
      refine n_v3V c_97_148 rfl q4.c0.1.n rfl rfl rfl rfl (takeX1_2 (p := (55 + 3 * z2)) (gd := (M 112 0)) (Ms := M) hS q4 q4l rfl (by rfl)) ?_
      intro  M5 hP6
      obtain ⟨hS5, f6g0, f6p0, f6p1⟩ := hP6
      refine n_aload_n c_97_151 rfl ?_
      refine n_v0V c_97_152 rfl sc_3.n rfl rfl rfl rfl (forgetMade_2  hS5 ) ?_
      intro  M7 hP8
      have hS7 := hP8
      have hS7c := hS7.2.2.2.1.1
      have hS7 := hS7.refl
      have hS7k0 := hS7c 112 0 (by unfold core; omega)
      refine n_aload_n c_97_155 rfl ?_
      refine n_dup2 c_97_156 ?_
      refine n_getV (bi := 14) c_97_157 sc_3.n rfl rfl rfl (t_3_14x hS7) ?_
      intro z9 ez9 f10
      have f10a := t_ac hS7
      refine n_dup_x102 c_97_160 ?_
      refine n_iconst c_97_161 ?_
      refine n_iadd c_97_162 rfl ?_
      refine n_jka (p := (55 + 3 * z2)) (v := 2) q4 ?_
      intro My fy jy
      have hSy := Sf.jka hS7 q4 (by omega) fy jy (by omega)
      have hNz : NAct 2 1 2 (55 + 3 * z2) (fun i => Ms 9 (40 * s + i)) My := NAct.of (by decide) (by omega) f6p0 (fun a i w1 w2 w3 => by rw [fy a i w3, hS7c a i (by unfold core; omega)]) (fun i h0 h1 => ((v0 i h0 (by omega)).1).symm)
      have hFz : ∀ a i : Int, core a i → ¬ (55 + 3 * Ms 3 14 ≤ a ∧ a ≤ 55 + 3 * Ms 3 14 + 2) → My a i = Ms a i := fun a i hc w => by rw [fy a i (by omega), hS7c a i hc, f6p1 a i hc (by omega), v1 a i hc]
      have hNA : NA 2 1 2 (55 + 3 * z2) My := NA_of (by decide) (by omega) hNz jy (fun i h0 h1 => (v0 i h0 (by omega)).2)
      have hey : My 112 0 = M7 112 0 := fy 112 0 (by omega)
      have hUp := Sf.actUp hSy (by omega) (by omega) (by omega) (by omega) (by omega) hNA
      have hUe : ((z9 + 1) : Int) = ac + 1 := by omega
      refine n_putG (P := fun M2 => Sf 2 (ac + 1) M2 M2) (bi := 14) c_97_163 sc_3.n rfl rfl rfl rfl (by rw [hUe]; exact hUp) ?_
      intro M11 eM11 hS11
      have hgz : M11 112 0 = My 112 0 := by rw [eM11]; exact nu_a (by omega)
      have hbz : (55 + 3 * z2) = 55 + 3 * Ms 3 14 := by omega
      rw [hbz] at hNz
      exact n_rI c_97_166 rfl ⟨⟨_, hS11⟩, by omega, by omega, by exact Or.inr (Or.inr (Or.inr (Or.inr ⟨by omega, by omega, by omega, by omega, v2, by omega, fun i h0 h1 => (v0 i h0 (by omega)).2, by omega, by rw [eM11, nu_s]; omega, NAct.of (by decide) (by omega) hNz (fun a i w1 w2 _ => by rw [eM11, nu_a (by omega)]) (fun _ _ _ => rfl), fun a i hc w1 w2 => by rw [eM11, nu_e, if_neg w1]; exact hFz a i hc w2⟩)))⟩
    · intro h12
      refine n_iload c_97_79 rfl ?_
      refine n_bipush c_97_81 rfl ?_
      refine n_if2_ge c_97_83 (by omega) (by omega) ?_ ?_
      · intro h13
        exfalso; omega
      · intro h14
        refine n_aload_n c_97_86 rfl ?_
        refine n_getR c_97_87 sc_3.n rfl rfl rfl r_3_1 ?_
        refine n_iload_n c_97_90 rfl ?_
        refine n_iload c_97_91 rfl ?_
        refine n_aload_n c_97_93 rfl ?_
        refine n_getR c_97_94 sc_3.n rfl rfl rfl r_3_0 ?_
        refine n_getV (bi := 0) c_97_97 sc_4.n rfl rfl rfl (t_4_0 hS) ?_
        intro z15 ez15 f16
        obtain rfl : z15 = 2 := by omega
        refine n_iconst c_97_100 ?_
        refine n_isub c_97_101 rfl ?_
        have hcst : ((2 - 1) : Int) = 1 := by omega
        rw [hcst]
        refine n_v3I c_97_102 rfl sc_8.n rfl rfl rfl rfl (readX1_2 (s := s) (i := x4) hS (by omega) (by omega)) ?_
        intro z17 M18 hP19
        obtain ⟨eM, f19, f19p0⟩ := hP19
        subst eM
        have q11 := v1 11 s (by unfold core; omega)
        have q9 := v1 9 (40 * s + x4) (by unfold core; omega)
        refine n_istore (L2 := [some (2, 3), some (0, 1), some (0, s), some (0, x3), some (0, x4), some (0, z17)]) c_97_105 rfl rfl ?_
        refine n_iload c_97_107 rfl ?_
        refine n_if0_ge c_97_109 (by omega) ?_ ?_
        · intro h20
          refine n_aload_n c_97_115 rfl ?_
          refine n_getR c_97_116 sc_3.n rfl rfl rfl r_3_13 ?_
          refine n_iload c_97_119 rfl ?_
          refine n_iload c_97_121 rfl ?_
          refine n_iastoreM hS c_97_123 sc_54.n rfl (by omega) (m_54 (by omega) (by omega)) ?_
          intro M21 eM21 hS21
          have g21_0 : M21 112 0 = M 112 0 := by rw [eM21]; exact nu_a (by omega)
          have g21_1 : M21 3 14 = M 3 14 := by rw [eM21]; exact nu_a (by omega)
          refine n_iinc (L2 := [some (2, 3), some (0, 1), some (0, s), some (0, x3), some (0, (x4 + 1)), some (0, z17)]) c_97_124 rfl rfl rfl ?_
          refine n_goto c_97_127 ?_
          refine n_fg (le_s (le_s (le_s (le_s (le_s (le_n le_0)))))) ?_
          exact ih _ _ M21 hS21 (by omega) (by omega) (by omega) (by omega) (by exact TP.step v0 eM21 (by show _ = Ms 9 (40 * s + x4); omega) ⟨by omega, by show 0 ≤ Ms 9 (40 * s + x4); omega, by show Ms 9 (40 * s + x4) ≤ 2 - 1; omega⟩) (by exact Eqc.u54 v1 eM21) (by exact v2) (by exact v3) (by exact v4) (by rw [eM21, nu_a (by omega)]; exact v5) (by omega)
        · intro h22
          refine n_iload c_97_112 rfl ?_
          exact n_rI c_97_114 rfl ⟨⟨_, hS⟩, by omega, by omega, by exact Or.inr (Or.inr (Or.inr (Or.inl ⟨by omega, by omega, by omega, by omega, v2, by omega, ⟨x4, by omega, by omega, fun i h0 h1 => (v0 i h0 h1).2, by show (Ms 11 s ≤ x4 ∧ _ = -6) ∨ (x4 < Ms 11 s ∧ (Ms 9 (40 * s + x4) < 0 ∨ 2 - 1 < Ms 9 (40 * s + x4)) ∧ _ = -4); omega⟩, v1⟩)))⟩
set_option maxHeartbeats 4000000 in
theorem actX1_2 {xs : List Int32} {e : Nat} {ac : Int} {M : nM} {s gd : Int} {Ms : nM} (hS : Sf 2 ac M M) (hs : -2147483648 ≤ s ∧ s ≤ 2147483647) (hgd : M 112 0 = gd) (hms : M = Ms) : nW xs (e + 2) 97 0 [some (2, 3), some (0, 1), some (0, s), none, none, none] [] M (nPI fun z M1 => (∃ ac2, Sf 2 ac2 M1 M1) ∧ (-2147483648 ≤ z ∧ z ≤ 2147483647) ∧ (M1 112 0 = gd) ∧ (cAct 2 1 2 s z Ms M1)) := by
  have hd : (2 : Int) = 2 ∨ (2 : Int) = 3 := by decide
  have hac := hS.2.2.2.2
  refine n_aload_n c_97_0 rfl ?_
  refine n_getR c_97_1 sc_3.n rfl rfl rfl r_3_1 ?_
  refine n_iload_n c_97_4 rfl ?_
  refine n_v1I c_97_5 rfl sc_8.n rfl rfl rfl rfl (isSlotF_2 (s := s) hS (by omega)) ?_
  intro z1 M2 hP3
  obtain ⟨eM, f3, f3p0⟩ := hP3
  subst eM
  refine n_if0_eq c_97_8 (by omega) ?_ ?_
  · intro h4
    refine n_bipush c_97_19 rfl ?_
    exact n_rI c_97_21 rfl ⟨⟨_, hS⟩, by omega, by omega, by subst hms; exact Or.inl ⟨by omega, rfl, fun _ _ _ => rfl⟩⟩
  · intro h5
    refine n_aload_n c_97_11 rfl ?_
    refine n_iload_n c_97_12 rfl ?_
    refine n_v1I c_97_13 rfl sc_3.n rfl rfl rfl rfl (isPlaceCountF_2 (k := 1) hS (by omega)) ?_
    intro z6 M7 hP8
    obtain ⟨eM, f8, f8p0⟩ := hP8
    subst eM
    refine n_if0_ne c_97_16 (by omega) ?_ ?_
    · intro h9
      refine n_aload_n c_97_22 rfl ?_
      refine n_getV (bi := 14) c_97_23 sc_3.n rfl rfl rfl (t_3_14x hS) ?_
      intro z10 ez10 f11
      have f11a := t_ac hS
      refine n_bipush c_97_26 rfl ?_
      refine n_if2_ge c_97_28 (by omega) (by omega) ?_ ?_
      · intro h12
        refine n_bipush c_97_44 rfl ?_
        exact n_rI c_97_46 rfl ⟨⟨_, hS⟩, by omega, by omega, by subst hms; exact Or.inr (Or.inl ⟨by omega, by omega, by omega, by omega, by first | exact Or.inl (by omega) | exact Or.inr ⟨rfl, by omega⟩, rfl, fun _ _ _ => rfl⟩)⟩
      · intro h13
        refine n_iload_n c_97_31 rfl ?_
        refine n_iconst c_97_32 ?_
        refine n_if2_ne c_97_33 (by omega) (by omega) ?_ ?_
        · intro h14
          refine n_aload_n c_97_47 rfl ?_
          refine n_getR c_97_48 sc_3.n rfl rfl rfl r_3_1 ?_
          refine n_iload_n c_97_51 rfl ?_
          refine n_v1I c_97_52 rfl sc_8.n rfl rfl rfl rfl (hasRowF_2 (s := s) hS (by omega)) ?_
          intro z15 M16 hP17
          obtain ⟨eM, f17, f17p0⟩ := hP17
          subst eM
          refine n_if0_ne c_97_55 (by omega) ?_ ?_
          · intro h18
            refine n_aload_n c_97_61 rfl ?_
            refine n_getR c_97_62 sc_3.n rfl rfl rfl r_3_0 ?_
            refine n_iload_n c_97_65 rfl ?_
            refine n_v1I c_97_66 rfl sc_4.n rfl rfl rfl rfl (power1_2  hS ) ?_
            intro z19 M20 hP21
            obtain ⟨eM, f21⟩ := hP21
            subst eM
            obtain rfl : z19 = 2 := by omega
            refine n_istore_n (L2 := [some (2, 3), some (0, 1), some (0, s), some (0, 2), none, none]) c_97_69 rfl rfl ?_
            refine n_iconst c_97_70 ?_
            refine n_istore (L2 := [some (2, 3), some (0, 1), some (0, s), some (0, 2), some (0, 0), none]) c_97_71 rfl rfl ?_
            refine n_fg (le_s (le_s (le_s (le_s (le_s (le_n le_0)))))) ?_
            exact (actX1_2_c hS hs hgd hms 18) _ _ M hS (by omega) (by omega) (by omega) (by omega) (by exact fun j h0 h1 => by omega) (by subst hms; exact fun _ _ _ => rfl) (by subst hms; exact fun q => by rcases q with q | ⟨q1, q2⟩ <;> omega) (by subst hms; omega) (by subst hms; omega) (by subst hms; rfl) (by omega)
          · intro h22
            refine n_bipush c_97_58 rfl ?_
            exact n_rI c_97_60 rfl ⟨⟨_, hS⟩, by omega, by omega, by subst hms; exact Or.inr (Or.inr (Or.inl ⟨by omega, by omega, by omega, by omega, fun q => by rcases q with q | ⟨q1, q2⟩ <;> omega, by omega, rfl, fun _ _ _ => rfl⟩))⟩
        · intro h23
          exfalso; omega
    · intro h24
      refine n_bipush c_97_19 rfl ?_
      exact n_rI c_97_21 rfl ⟨⟨_, hS⟩, by omega, by omega, by subst hms; exact Or.inl ⟨by omega, rfl, fun _ _ _ => rfl⟩⟩

set_option maxHeartbeats 4000000 in
theorem takeX2_2_c {xs : List Int32} {e : Nat} {ac : Int} {M : nM} {p gd : Int} {Ms : nM} (hS : Sf 2 ac M M) (hp : ActAt p) (hpl : p = 55 + 3 * ac) (hgd : M 112 0 = gd) (hms : M = Ms) : ∀ nn : Nat, (∀ (x4 x5 : Int) (M : nM), Sf 2 ac M M → (0 ≤ x4 ∧ x4 ≤ 3) → (0 ≤ x5 ∧ x5 ≤ 8) → (M 112 0 = gd) → (M p 0 = 2) → (M p 1 = 4) → (x4 = x5 % 4) → (TL 4 p x5 Ms M) → (FP p Ms M) → (8 - x5) * 1 + 11 < (nn : Int) → nW xs (e + 1) 2 20 [some (2, p), none, some (2, 54), some (2, 4), some (0, x4), some (0, x5), none] [] M (nPV fun M1 => Sf 2 ac M1 M1 ∧ (M1 112 0 = gd) ∧ (NAct 2 2 4 p (fun i => Ms 54 i) M1) ∧ (FP p Ms M1))) ∧ (∀ (x5 : Int) (M : nM), Sf 2 ac M M → (0 ≤ x5 ∧ x5 ≤ 8) → (M 112 0 = gd) → (M p 0 = 2) → (M p 1 = 4) → (TL 4 p 8 Ms M) → (TU 2 p x5 M) → (FP p Ms M) → (8 - x5) * 1 + 1 < (nn : Int) → nW xs (e + 1) 2 70 [some (2, p), none, none, some (2, 4), none, some (0, x5), none] [] M (nPV fun M1 => Sf 2 ac M1 M1 ∧ (M1 112 0 = gd) ∧ (NAct 2 2 4 p (fun i => Ms 54 i) M1) ∧ (FP p Ms M1))) := by
  have hd : (2 : Int) = 2 ∨ (2 : Int) = 3 := by decide
  have hac := hS.2.2.2.2
  have hpb := hp.1
  intro nn
  induction nn with
  | zero => refine ⟨?_, ?_⟩ <;> (intros; omega)
  | succ nn ih =>
    refine ⟨?_, ?_⟩
    · intro x4 x5 M hS k4 k5 hggd v0 v1 v2 v3 v4 hnn
      refine n_iload c_2_20 rfl ?_
      refine n_aload_n c_2_22 rfl ?_
      refine n_getV (bi := 1) c_2_23 sc_4.n rfl rfl rfl (t_4_1 hS) ?_
      intro z1 ez1 f2
      obtain rfl : z1 = 8 := by omega
      refine n_if2_ge c_2_26 (by omega) (by omega) ?_ ?_
      · intro h3
        refine n_iconst c_2_67 ?_
        refine n_istore (L2 := [some (2, p), none, some (2, 54), some (2, 4), some (0, x4), some (0, 0), none]) c_2_68 rfl rfl ?_
        refine n_fg (le_s (le_n (le_n (le_s (le_n (le_s (le_n le_0))))))) ?_
        exact ih.2 _ M hS (by omega) (by omega) (by exact v0) (by exact v1) (by have q : x5 = 8 := (by omega); rw [q] at v3; exact v3) (by exact fun i h0 h1 => by omega) (by exact v4) (by omega)
      · intro h4
        refine n_aload_n c_2_29 rfl ?_
        refine n_getR c_2_30 hp.c0.1.n rfl rfl rfl hp.r.1 ?_
        refine n_iload c_2_33 rfl ?_
        refine n_aload_n c_2_35 rfl ?_
        refine n_iload c_2_36 rfl ?_
        refine n_ialoadV c_2_38 sc_54.n rfl rfl rfl (by omega) (t_54 hS (by omega)) ?_
        intro z5 ez5 f6
        refine n_iastoreM hS c_2_39 hp.c0.2.1.n rfl (by omega) (m_actnr hp hpl (Or.inl rfl) (by omega) (by omega)) ?_
        intro M7 eM7 hS7
        have g7_0 : M7 112 0 = M 112 0 := by rw [eM7]; exact nu_a (by omega)
        have g7_1 : M7 p 1 = M p 1 := by rw [eM7]; exact nu_a (by omega)
        refine n_iload c_2_40 rfl ?_
        refine n_iconst c_2_42 ?_
        refine n_iadd c_2_43 rfl ?_
        refine n_aload_n c_2_44 rfl ?_
        refine n_getV (bi := 1) c_2_45 hp.c0.1.n rfl rfl rfl (show 4 ≤ M7 p 1 ∧ M7 p 1 ≤ 4 by omega) ?_
        intro z8 ez8 f9
        obtain rfl : z8 = 4 := by omega
        refine n_if2_ge c_2_48 (by omega) (by omega) ?_ ?_
        · intro h10
          refine n_iconst c_2_58 ?_
          refine n_istore (L2 := [some (2, p), none, some (2, 54), some (2, 4), some (0, 0), some (0, x5), none]) c_2_59 rfl rfl ?_
          refine n_iinc (L2 := [some (2, p), none, some (2, 54), some (2, 4), some (0, 0), some (0, (x5 + 1)), none]) c_2_61 rfl rfl rfl ?_
          refine n_goto c_2_64 ?_
          refine n_fg (le_s (le_n (le_s (le_s (le_s (le_s (le_n le_0))))))) ?_
          exact ih.1 _ _ M7 hS7 (by omega) (by omega) (by omega) (by rw [eM7, nu_a (by omega)]; exact v0) (by rw [eM7, nu_a (by omega)]; exact v1) (by omega) (by exact TL.step v3 hpb eM7 ez5 (by omega)) (by exact FP.u v4 eM7 (by omega)) (by omega)
        · intro h11
          refine n_iload c_2_51 rfl ?_
          refine n_iconst c_2_53 ?_
          refine n_iadd c_2_54 rfl ?_
          refine n_goto c_2_55 ?_
          refine n_istore (L2 := [some (2, p), none, some (2, 54), some (2, 4), some (0, (x4 + 1)), some (0, x5), none]) c_2_59 rfl rfl ?_
          refine n_iinc (L2 := [some (2, p), none, some (2, 54), some (2, 4), some (0, (x4 + 1)), some (0, (x5 + 1)), none]) c_2_61 rfl rfl rfl ?_
          refine n_goto c_2_64 ?_
          refine n_fg (le_s (le_n (le_s (le_s (le_s (le_s (le_n le_0))))))) ?_
          exact ih.1 _ _ M7 hS7 (by omega) (by omega) (by omega) (by rw [eM7, nu_a (by omega)]; exact v0) (by rw [eM7, nu_a (by omega)]; exact v1) (by omega) (by exact TL.step v3 hpb eM7 ez5 (by omega)) (by exact FP.u v4 eM7 (by omega)) (by omega)
    · intro x5 M hS k5 hggd v0 v1 v2 v3 v4 hnn
      refine n_iload c_2_70 rfl ?_
      refine n_aload_n c_2_72 rfl ?_
      refine n_getV (bi := 1) c_2_73 sc_4.n rfl rfl rfl (t_4_1 hS) ?_
      intro z1 ez1 f2
      obtain rfl : z1 = 8 := by omega
      refine n_if2_ge c_2_76 (by omega) (by omega) ?_ ?_
      · intro h3
        exact n_rV c_2_134 rfl ⟨hS, by omega, by exact ⟨v0, v1, fun i h0 h1 => ⟨v2.2 i h0 (by omega), v3 i h0 (by omega)⟩⟩, by exact v4⟩
      · intro h4
        refine n_aload_n c_2_79 rfl ?_
        refine n_getR c_2_80 sc_4.n rfl rfl rfl r_4_2 ?_
        refine n_iload c_2_83 rfl ?_
        refine n_ialoadV c_2_85 sc_5.n rfl rfl rfl (by omega) (t_5d hS hd (by omega) (by omega)) ?_
        intro z5 ez5 f6
        refine n_aload_n c_2_86 rfl ?_
        refine n_getV (bi := 0) c_2_87 sc_4.n rfl rfl rfl (t_4_0 hS) ?_
        intro z7 ez7 f8
        obtain rfl : z7 = 2 := by omega
        refine n_imul c_2_90 rfl ?_
        refine n_aload_n c_2_91 rfl ?_
        refine n_getR c_2_92 sc_4.n rfl rfl rfl r_4_4 ?_
        refine n_iload c_2_95 rfl ?_
        refine n_ialoadV c_2_97 sc_7.n rfl rfl rfl (by omega) (t_7d hS hd (by omega) (by omega)) ?_
        intro z9 ez9 f10
        refine n_iadd c_2_98 rfl ?_
        refine n_aload_n c_2_99 rfl ?_
        refine n_getV (bi := 0) c_2_100 sc_4.n rfl rfl rfl (t_4_0 hS) ?_
        intro z11 ez11 f12
        obtain rfl : z11 = 2 := by omega
        refine n_imul c_2_103 rfl ?_
        refine n_aload_n c_2_104 rfl ?_
        refine n_getR c_2_105 sc_4.n rfl rfl rfl r_4_3 ?_
        refine n_iload c_2_108 rfl ?_
        refine n_ialoadV c_2_110 sc_6.n rfl rfl rfl (by omega) (t_6d hS hd (by omega) (by omega)) ?_
        intro z13 ez13 f14
        refine n_iadd c_2_111 rfl ?_
        refine n_istore (L2 := [some (2, p), none, none, some (2, 4), none, some (0, x5), some (0, ((((z5 * 2) + z9) * 2) + z13))]) c_2_112 rfl rfl ?_
        refine n_aload_n c_2_114 rfl ?_
        refine n_getR c_2_115 hp.c0.1.n rfl rfl rfl hp.r.2 ?_
        refine n_iload c_2_118 rfl ?_
        refine n_aload_n c_2_120 rfl ?_
        refine n_getR c_2_121 hp.c0.1.n rfl rfl rfl hp.r.1 ?_
        refine n_iload c_2_124 rfl ?_
        refine n_ialoadV c_2_126 hp.c0.2.1.n rfl rfl rfl (by omega) (t_actr hS hd hp (Or.inl rfl) (by omega)) ?_
        intro z15 ez15 f16
        have qb5 := t_5e hS (i := x5) (by omega) (by omega)
        have qb6 := t_6e hS (i := x5) (by omega) (by omega)
        have qb7 := t_7e hS (i := x5) (by omega) (by omega)
        refine n_iastoreM hS c_2_127 hp.c0.2.2.n rfl (by omega) (m_actnr hp hpl (Or.inr rfl) (by omega) (by omega)) ?_
        intro M17 eM17 hS17
        have g17_0 : M17 112 0 = M 112 0 := by rw [eM17]; exact nu_a (by omega)
        have g17_1 : M17 p 1 = M p 1 := by rw [eM17]; exact nu_a (by omega)
        refine n_iinc (L2 := [some (2, p), none, none, some (2, 4), none, some (0, (x5 + 1)), some (0, ((((z5 * 2) + z9) * 2) + z13))]) c_2_128 rfl rfl rfl ?_
        refine n_goto c_2_131 ?_
        refine n_fg (le_s (le_n (le_n (le_s (le_n (le_s (le_n le_0))))))) ?_
        exact ih.2 _ M17 hS17 (by omega) (by omega) (by rw [eM17, nu_a (by omega)]; exact v0) (by rw [eM17, nu_a (by omega)]; exact v1) (by exact TL.uu v2 hpb eM17) (by exact TU.step v3 eM17 ez15 (by unfold tr; omega)) (by exact FP.u v4 eM17 (by omega)) (by omega)
set_option maxHeartbeats 4000000 in
theorem takeX2_2 {xs : List Int32} {e : Nat} {ac : Int} {M : nM} {p gd : Int} {Ms : nM} (hS : Sf 2 ac M M) (hp : ActAt p) (hpl : p = 55 + 3 * ac) (hgd : M 112 0 = gd) (hms : M = Ms) : nW xs (e + 1) 2 0 [some (2, p), some (0, 2), some (2, 54), some (2, 4), none, none, none] [] M (nPV fun M1 => Sf 2 ac M1 M1 ∧ (M1 112 0 = gd) ∧ (NAct 2 2 4 p (fun i => Ms 54 i) M1) ∧ (FP p Ms M1)) := by
  have hd : (2 : Int) = 2 ∨ (2 : Int) = 3 := by decide
  have hac := hS.2.2.2.2
  have hpb := hp.1
  refine n_aload_n c_2_0 rfl ?_
  refine n_iload_n c_2_1 rfl ?_
  refine n_putM (bi := 0) hS c_2_2 hp.c0.1.n rfl rfl rfl rfl (m_actn hp hpl (by omega) (by omega)) ?_
  intro M1 eM1 hS1
  have g1_0 : M1 112 0 = M 112 0 := by rw [eM1]; exact nu_a (by omega)
  have g1_1 : M1 p 0 = 2 := by rw [eM1]; exact nu_s _ _ _ _
  refine n_aload_n c_2_5 rfl ?_
  refine n_aload_n c_2_6 rfl ?_
  refine n_iload_n c_2_7 rfl ?_
  refine n_v1I c_2_8 rfl sc_4.n rfl rfl rfl rfl (power2_2  hS1 ) ?_
  intro z2 M3 hP4
  obtain ⟨eM, f4⟩ := hP4
  subst eM
  obtain rfl : z2 = 4 := by omega
  refine n_putM (bi := 1) hS1 c_2_11 hp.c0.1.n rfl rfl rfl rfl (m_actn hp hpl (by omega) (by omega)) ?_
  intro M5 eM5 hS5
  have g5_0 : M5 112 0 = M1 112 0 := by rw [eM5]; exact nu_a (by omega)
  have g5_1 : M5 p 0 = M1 p 0 := by rw [eM5]; exact nu_i (by omega)
  have g5_2 : M5 p 1 = 4 := by rw [eM5]; exact nu_s _ _ _ _
  refine n_iconst c_2_14 ?_
  refine n_istore (L2 := [some (2, p), some (0, 2), some (2, 54), some (2, 4), some (0, 0), none, none]) c_2_15 rfl rfl ?_
  refine n_iconst c_2_17 ?_
  refine n_istore (L2 := [some (2, p), some (0, 2), some (2, 54), some (2, 4), some (0, 0), some (0, 0), none]) c_2_18 rfl rfl ?_
  refine n_fg (le_s (le_n (le_s (le_s (le_s (le_s (le_n le_0))))))) ?_
  exact (takeX2_2_c hS hp hpl hgd hms 50).1 _ _ M5 hS5 (by omega) (by omega) (by omega) (by omega) (by omega) (by omega) (by subst hms; exact ⟨fun i => by rw [eM5, nu_a (by omega), eM1, nu_a (by omega)], fun i h0 h1 => by omega⟩) (by subst hms; exact FP.u (FP.u (fun _ _ _ _ => rfl) eM1 (by omega)) eM5 (by omega)) (by omega)

set_option maxHeartbeats 4000000 in
theorem actX2_2_c {xs : List Int32} {e : Nat} {ac : Int} {M : nM} {s gd : Int} {Ms : nM} (hS : Sf 2 ac M M) (hs : -2147483648 ≤ s ∧ s ≤ 2147483647) (hgd : M 112 0 = gd) (hms : M = Ms) : ∀ nn : Nat, (∀ (x3 x4 : Int) (M : nM), Sf 2 ac M M → (0 ≤ s ∧ s ≤ 7) → (4 ≤ x3 ∧ x3 ≤ 4) → (0 ≤ x4 ∧ x4 ≤ 4) → (M 112 0 = gd) → (TP 2 (Ms 11 s) (fun i => Ms 9 (40 * s + i)) x4 M) → (Eqc Ms M) → (¬ tooMany 2 (Ms 3 14) (fun a => Ms (55 + 3 * a) 0)) → (0 ≤ Ms 11 s) → (Ms 3 14 ≤ 7) → (M 3 14 = Ms 3 14) → (4 - x4) * 1 + 1 < (nn : Int) → nW xs (e + 2) 97 73 [some (2, 3), some (0, 2), some (0, s), some (0, x3), some (0, x4), none] [] M (nPI fun z M1 => (∃ ac2, Sf 2 ac2 M1 M1) ∧ (-2147483648 ≤ z ∧ z ≤ 2147483647) ∧ (M1 112 0 = gd) ∧ (cAct 2 2 4 s z Ms M1))) := by
  have hd : (2 : Int) = 2 ∨ (2 : Int) = 3 := by decide
  have hac := hS.2.2.2.2
  intro nn
  induction nn with
  | zero => intros; omega
  | succ nn ih =>
    intro x3 x4 M hS k2 k3 k4 hggd v0 v1 v2 v3 v4 v5 hnn
    refine n_iload c_97_73 rfl ?_
    refine n_iload_n c_97_75 rfl ?_
    refine n_if2_ge c_97_76 (by omega) (by omega) ?_ ?_
    · intro h1
      refine n_aload_n c_97_130 rfl ?_
      refine n_getR c_97_131 sc_3.n rfl rfl rfl r_3_2 ?_
      refine n_aload_n c_97_134 rfl ?_
      refine n_getV (bi := 14) c_97_135 sc_3.n rfl rfl rfl (t_3_14x hS) ?_
      intro z2 ez2 f3
      have f3a := t_ac hS
      refine n_aaload c_97_138 sc_12.n rfl rfl rfl (by omega) (r_acts _) ?_
      have q4 : ActAt (55 + 3 * z2) := by unfold ActAt; omega
      have q4l : (55 + 3 * z2) = 55 + 3 * ac := by omega
      refine n_iload_n c_97_139 rfl ?_
      refine n_aload_n c_97_140 rfl ?_
      refine n_getR c_97_141 sc_3.n rfl rfl rfl r_3_13 ?_
      refine n_aload_n c_97_144 rfl ?_
      refine n_getR c_97_145 sc_3.n rfl rfl rfl r_3_0 ?_
      refine n_v3V c_97_148 rfl q4.c0.1.n rfl rfl rfl rfl (takeX2_2 (p := (55 + 3 * z2)) (gd := (M 112 0)) (Ms := M) hS q4 q4l rfl (by rfl)) ?_
      intro  M5 hP6
      obtain ⟨hS5, f6g0, f6p0, f6p1⟩ := hP6
      refine n_aload_n c_97_151 rfl ?_
      refine n_v0V c_97_152 rfl sc_3.n rfl rfl rfl rfl (forgetMade_2  hS5 ) ?_
      intro  M7 hP8
      have hS7 := hP8
      have hS7c := hS7.2.2.2.1.1
      have hS7 := hS7.refl
      have hS7k0 := hS7c 112 0 (by unfold core; omega)
      refine n_aload_n c_97_155 rfl ?_
      refine n_dup2 c_97_156 ?_
      refine n_getV (bi := 14) c_97_157 sc_3.n rfl rfl rfl (t_3_14x hS7) ?_
      intro z9 ez9 f10
      have f10a := t_ac hS7
      refine n_dup_x102 c_97_160 ?_
      refine n_iconst c_97_161 ?_
      refine n_iadd c_97_162 rfl ?_
      refine n_jka (p := (55 + 3 * z2)) (v := 4) q4 ?_
      intro My fy jy
      have hSy := Sf.jka hS7 q4 (by omega) fy jy (by omega)
      have hNz : NAct 2 2 4 (55 + 3 * z2) (fun i => Ms 9 (40 * s + i)) My := NAct.of (by decide) (by omega) f6p0 (fun a i w1 w2 w3 => by rw [fy a i w3, hS7c a i (by unfold core; omega)]) (fun i h0 h1 => ((v0 i h0 (by omega)).1).symm)
      have hFz : ∀ a i : Int, core a i → ¬ (55 + 3 * Ms 3 14 ≤ a ∧ a ≤ 55 + 3 * Ms 3 14 + 2) → My a i = Ms a i := fun a i hc w => by rw [fy a i (by omega), hS7c a i hc, f6p1 a i hc (by omega), v1 a i hc]
      have hNA : NA 2 2 4 (55 + 3 * z2) My := NA_of (by decide) (by omega) hNz jy (fun i h0 h1 => (v0 i h0 (by omega)).2)
      have hey : My 112 0 = M7 112 0 := fy 112 0 (by omega)
      have hUp := Sf.actUp hSy (by omega) (by omega) (by omega) (by omega) (by omega) hNA
      have hUe : ((z9 + 1) : Int) = ac + 1 := by omega
      refine n_putG (P := fun M2 => Sf 2 (ac + 1) M2 M2) (bi := 14) c_97_163 sc_3.n rfl rfl rfl rfl (by rw [hUe]; exact hUp) ?_
      intro M11 eM11 hS11
      have hgz : M11 112 0 = My 112 0 := by rw [eM11]; exact nu_a (by omega)
      have hbz : (55 + 3 * z2) = 55 + 3 * Ms 3 14 := by omega
      rw [hbz] at hNz
      exact n_rI c_97_166 rfl ⟨⟨_, hS11⟩, by omega, by omega, by exact Or.inr (Or.inr (Or.inr (Or.inr ⟨by omega, by omega, by omega, by omega, v2, by omega, fun i h0 h1 => (v0 i h0 (by omega)).2, by omega, by rw [eM11, nu_s]; omega, NAct.of (by decide) (by omega) hNz (fun a i w1 w2 _ => by rw [eM11, nu_a (by omega)]) (fun _ _ _ => rfl), fun a i hc w1 w2 => by rw [eM11, nu_e, if_neg w1]; exact hFz a i hc w2⟩)))⟩
    · intro h12
      refine n_iload c_97_79 rfl ?_
      refine n_bipush c_97_81 rfl ?_
      refine n_if2_ge c_97_83 (by omega) (by omega) ?_ ?_
      · intro h13
        exfalso; omega
      · intro h14
        refine n_aload_n c_97_86 rfl ?_
        refine n_getR c_97_87 sc_3.n rfl rfl rfl r_3_1 ?_
        refine n_iload_n c_97_90 rfl ?_
        refine n_iload c_97_91 rfl ?_
        refine n_aload_n c_97_93 rfl ?_
        refine n_getR c_97_94 sc_3.n rfl rfl rfl r_3_0 ?_
        refine n_getV (bi := 0) c_97_97 sc_4.n rfl rfl rfl (t_4_0 hS) ?_
        intro z15 ez15 f16
        obtain rfl : z15 = 2 := by omega
        refine n_iconst c_97_100 ?_
        refine n_isub c_97_101 rfl ?_
        have hcst : ((2 - 1) : Int) = 1 := by omega
        rw [hcst]
        refine n_v3I c_97_102 rfl sc_8.n rfl rfl rfl rfl (readX1_2 (s := s) (i := x4) hS (by omega) (by omega)) ?_
        intro z17 M18 hP19
        obtain ⟨eM, f19, f19p0⟩ := hP19
        subst eM
        have q11 := v1 11 s (by unfold core; omega)
        have q9 := v1 9 (40 * s + x4) (by unfold core; omega)
        refine n_istore (L2 := [some (2, 3), some (0, 2), some (0, s), some (0, x3), some (0, x4), some (0, z17)]) c_97_105 rfl rfl ?_
        refine n_iload c_97_107 rfl ?_
        refine n_if0_ge c_97_109 (by omega) ?_ ?_
        · intro h20
          refine n_aload_n c_97_115 rfl ?_
          refine n_getR c_97_116 sc_3.n rfl rfl rfl r_3_13 ?_
          refine n_iload c_97_119 rfl ?_
          refine n_iload c_97_121 rfl ?_
          refine n_iastoreM hS c_97_123 sc_54.n rfl (by omega) (m_54 (by omega) (by omega)) ?_
          intro M21 eM21 hS21
          have g21_0 : M21 112 0 = M 112 0 := by rw [eM21]; exact nu_a (by omega)
          have g21_1 : M21 3 14 = M 3 14 := by rw [eM21]; exact nu_a (by omega)
          refine n_iinc (L2 := [some (2, 3), some (0, 2), some (0, s), some (0, x3), some (0, (x4 + 1)), some (0, z17)]) c_97_124 rfl rfl rfl ?_
          refine n_goto c_97_127 ?_
          refine n_fg (le_s (le_s (le_s (le_s (le_s (le_n le_0)))))) ?_
          exact ih _ _ M21 hS21 (by omega) (by omega) (by omega) (by omega) (by exact TP.step v0 eM21 (by show _ = Ms 9 (40 * s + x4); omega) ⟨by omega, by show 0 ≤ Ms 9 (40 * s + x4); omega, by show Ms 9 (40 * s + x4) ≤ 2 - 1; omega⟩) (by exact Eqc.u54 v1 eM21) (by exact v2) (by exact v3) (by exact v4) (by rw [eM21, nu_a (by omega)]; exact v5) (by omega)
        · intro h22
          refine n_iload c_97_112 rfl ?_
          exact n_rI c_97_114 rfl ⟨⟨_, hS⟩, by omega, by omega, by exact Or.inr (Or.inr (Or.inr (Or.inl ⟨by omega, by omega, by omega, by omega, v2, by omega, ⟨x4, by omega, by omega, fun i h0 h1 => (v0 i h0 h1).2, by show (Ms 11 s ≤ x4 ∧ _ = -6) ∨ (x4 < Ms 11 s ∧ (Ms 9 (40 * s + x4) < 0 ∨ 2 - 1 < Ms 9 (40 * s + x4)) ∧ _ = -4); omega⟩, v1⟩)))⟩
set_option maxHeartbeats 4000000 in
theorem actX2_2 {xs : List Int32} {e : Nat} {ac : Int} {M : nM} {s gd : Int} {Ms : nM} (hS : Sf 2 ac M M) (hs : -2147483648 ≤ s ∧ s ≤ 2147483647) (hgd : M 112 0 = gd) (hms : M = Ms) : nW xs (e + 2) 97 0 [some (2, 3), some (0, 2), some (0, s), none, none, none] [] M (nPI fun z M1 => (∃ ac2, Sf 2 ac2 M1 M1) ∧ (-2147483648 ≤ z ∧ z ≤ 2147483647) ∧ (M1 112 0 = gd) ∧ (cAct 2 2 4 s z Ms M1)) := by
  have hd : (2 : Int) = 2 ∨ (2 : Int) = 3 := by decide
  have hac := hS.2.2.2.2
  refine n_aload_n c_97_0 rfl ?_
  refine n_getR c_97_1 sc_3.n rfl rfl rfl r_3_1 ?_
  refine n_iload_n c_97_4 rfl ?_
  refine n_v1I c_97_5 rfl sc_8.n rfl rfl rfl rfl (isSlotF_2 (s := s) hS (by omega)) ?_
  intro z1 M2 hP3
  obtain ⟨eM, f3, f3p0⟩ := hP3
  subst eM
  refine n_if0_eq c_97_8 (by omega) ?_ ?_
  · intro h4
    refine n_bipush c_97_19 rfl ?_
    exact n_rI c_97_21 rfl ⟨⟨_, hS⟩, by omega, by omega, by subst hms; exact Or.inl ⟨by omega, rfl, fun _ _ _ => rfl⟩⟩
  · intro h5
    refine n_aload_n c_97_11 rfl ?_
    refine n_iload_n c_97_12 rfl ?_
    refine n_v1I c_97_13 rfl sc_3.n rfl rfl rfl rfl (isPlaceCountF_2 (k := 2) hS (by omega)) ?_
    intro z6 M7 hP8
    obtain ⟨eM, f8, f8p0⟩ := hP8
    subst eM
    refine n_if0_ne c_97_16 (by omega) ?_ ?_
    · intro h9
      refine n_aload_n c_97_22 rfl ?_
      refine n_getV (bi := 14) c_97_23 sc_3.n rfl rfl rfl (t_3_14x hS) ?_
      intro z10 ez10 f11
      have f11a := t_ac hS
      refine n_bipush c_97_26 rfl ?_
      refine n_if2_ge c_97_28 (by omega) (by omega) ?_ ?_
      · intro h12
        refine n_bipush c_97_44 rfl ?_
        exact n_rI c_97_46 rfl ⟨⟨_, hS⟩, by omega, by omega, by subst hms; exact Or.inr (Or.inl ⟨by omega, by omega, by omega, by omega, by first | exact Or.inl (by omega) | exact Or.inr ⟨rfl, by omega⟩, rfl, fun _ _ _ => rfl⟩)⟩
      · intro h13
        refine n_iload_n c_97_31 rfl ?_
        refine n_iconst c_97_32 ?_
        refine n_if2_ne c_97_33 (by omega) (by omega) ?_ ?_
        · intro h14
          refine n_aload_n c_97_47 rfl ?_
          refine n_getR c_97_48 sc_3.n rfl rfl rfl r_3_1 ?_
          refine n_iload_n c_97_51 rfl ?_
          refine n_v1I c_97_52 rfl sc_8.n rfl rfl rfl rfl (hasRowF_2 (s := s) hS (by omega)) ?_
          intro z15 M16 hP17
          obtain ⟨eM, f17, f17p0⟩ := hP17
          subst eM
          refine n_if0_ne c_97_55 (by omega) ?_ ?_
          · intro h18
            refine n_aload_n c_97_61 rfl ?_
            refine n_getR c_97_62 sc_3.n rfl rfl rfl r_3_0 ?_
            refine n_iload_n c_97_65 rfl ?_
            refine n_v1I c_97_66 rfl sc_4.n rfl rfl rfl rfl (power2_2  hS ) ?_
            intro z19 M20 hP21
            obtain ⟨eM, f21⟩ := hP21
            subst eM
            obtain rfl : z19 = 4 := by omega
            refine n_istore_n (L2 := [some (2, 3), some (0, 2), some (0, s), some (0, 4), none, none]) c_97_69 rfl rfl ?_
            refine n_iconst c_97_70 ?_
            refine n_istore (L2 := [some (2, 3), some (0, 2), some (0, s), some (0, 4), some (0, 0), none]) c_97_71 rfl rfl ?_
            refine n_fg (le_s (le_s (le_s (le_s (le_s (le_n le_0)))))) ?_
            exact (actX2_2_c hS hs hgd hms 22) _ _ M hS (by omega) (by omega) (by omega) (by omega) (by exact fun j h0 h1 => by omega) (by subst hms; exact fun _ _ _ => rfl) (by subst hms; exact fun q => by rcases q with q | ⟨q1, q2⟩ <;> omega) (by subst hms; omega) (by subst hms; omega) (by subst hms; rfl) (by omega)
          · intro h22
            refine n_bipush c_97_58 rfl ?_
            exact n_rI c_97_60 rfl ⟨⟨_, hS⟩, by omega, by omega, by subst hms; exact Or.inr (Or.inr (Or.inl ⟨by omega, by omega, by omega, by omega, fun q => by rcases q with q | ⟨q1, q2⟩ <;> omega, by omega, rfl, fun _ _ _ => rfl⟩))⟩
        · intro h23
          exfalso; omega
    · intro h24
      refine n_bipush c_97_19 rfl ?_
      exact n_rI c_97_21 rfl ⟨⟨_, hS⟩, by omega, by omega, by subst hms; exact Or.inl ⟨by omega, rfl, fun _ _ _ => rfl⟩⟩

set_option maxHeartbeats 4000000 in
theorem takeX3_2_c {xs : List Int32} {e : Nat} {ac : Int} {M : nM} {p gd : Int} {Ms : nM} (hS : Sf 2 ac M M) (hp : ActAt p) (hpl : p = 55 + 3 * ac) (hgd : M 112 0 = gd) (hms : M = Ms) : ∀ nn : Nat, (∀ (x4 x5 : Int) (M : nM), Sf 2 ac M M → (0 ≤ x4 ∧ x4 ≤ 7) → (0 ≤ x5 ∧ x5 ≤ 8) → (M 112 0 = gd) → (M p 0 = 3) → (M p 1 = 8) → (x4 = x5 % 8) → (TL 8 p x5 Ms M) → (FP p Ms M) → (8 - x5) * 1 + 11 < (nn : Int) → nW xs (e + 1) 2 20 [some (2, p), none, some (2, 54), some (2, 4), some (0, x4), some (0, x5), none] [] M (nPV fun M1 => Sf 2 ac M1 M1 ∧ (M1 112 0 = gd) ∧ (NAct 2 3 8 p (fun i => Ms 54 i) M1) ∧ (FP p Ms M1))) ∧ (∀ (x5 : Int) (M : nM), Sf 2 ac M M → (0 ≤ x5 ∧ x5 ≤ 8) → (M 112 0 = gd) → (M p 0 = 3) → (M p 1 = 8) → (TL 8 p 8 Ms M) → (TU 2 p x5 M) → (FP p Ms M) → (8 - x5) * 1 + 1 < (nn : Int) → nW xs (e + 1) 2 70 [some (2, p), none, none, some (2, 4), none, some (0, x5), none] [] M (nPV fun M1 => Sf 2 ac M1 M1 ∧ (M1 112 0 = gd) ∧ (NAct 2 3 8 p (fun i => Ms 54 i) M1) ∧ (FP p Ms M1))) := by
  have hd : (2 : Int) = 2 ∨ (2 : Int) = 3 := by decide
  have hac := hS.2.2.2.2
  have hpb := hp.1
  intro nn
  induction nn with
  | zero => refine ⟨?_, ?_⟩ <;> (intros; omega)
  | succ nn ih =>
    refine ⟨?_, ?_⟩
    · intro x4 x5 M hS k4 k5 hggd v0 v1 v2 v3 v4 hnn
      refine n_iload c_2_20 rfl ?_
      refine n_aload_n c_2_22 rfl ?_
      refine n_getV (bi := 1) c_2_23 sc_4.n rfl rfl rfl (t_4_1 hS) ?_
      intro z1 ez1 f2
      obtain rfl : z1 = 8 := by omega
      refine n_if2_ge c_2_26 (by omega) (by omega) ?_ ?_
      · intro h3
        refine n_iconst c_2_67 ?_
        refine n_istore (L2 := [some (2, p), none, some (2, 54), some (2, 4), some (0, x4), some (0, 0), none]) c_2_68 rfl rfl ?_
        refine n_fg (le_s (le_n (le_n (le_s (le_n (le_s (le_n le_0))))))) ?_
        exact ih.2 _ M hS (by omega) (by omega) (by exact v0) (by exact v1) (by have q : x5 = 8 := (by omega); rw [q] at v3; exact v3) (by exact fun i h0 h1 => by omega) (by exact v4) (by omega)
      · intro h4
        refine n_aload_n c_2_29 rfl ?_
        refine n_getR c_2_30 hp.c0.1.n rfl rfl rfl hp.r.1 ?_
        refine n_iload c_2_33 rfl ?_
        refine n_aload_n c_2_35 rfl ?_
        refine n_iload c_2_36 rfl ?_
        refine n_ialoadV c_2_38 sc_54.n rfl rfl rfl (by omega) (t_54 hS (by omega)) ?_
        intro z5 ez5 f6
        refine n_iastoreM hS c_2_39 hp.c0.2.1.n rfl (by omega) (m_actnr hp hpl (Or.inl rfl) (by omega) (by omega)) ?_
        intro M7 eM7 hS7
        have g7_0 : M7 112 0 = M 112 0 := by rw [eM7]; exact nu_a (by omega)
        have g7_1 : M7 p 1 = M p 1 := by rw [eM7]; exact nu_a (by omega)
        refine n_iload c_2_40 rfl ?_
        refine n_iconst c_2_42 ?_
        refine n_iadd c_2_43 rfl ?_
        refine n_aload_n c_2_44 rfl ?_
        refine n_getV (bi := 1) c_2_45 hp.c0.1.n rfl rfl rfl (show 8 ≤ M7 p 1 ∧ M7 p 1 ≤ 8 by omega) ?_
        intro z8 ez8 f9
        obtain rfl : z8 = 8 := by omega
        refine n_if2_ge c_2_48 (by omega) (by omega) ?_ ?_
        · intro h10
          refine n_iconst c_2_58 ?_
          refine n_istore (L2 := [some (2, p), none, some (2, 54), some (2, 4), some (0, 0), some (0, x5), none]) c_2_59 rfl rfl ?_
          refine n_iinc (L2 := [some (2, p), none, some (2, 54), some (2, 4), some (0, 0), some (0, (x5 + 1)), none]) c_2_61 rfl rfl rfl ?_
          refine n_goto c_2_64 ?_
          refine n_fg (le_s (le_n (le_s (le_s (le_s (le_s (le_n le_0))))))) ?_
          exact ih.1 _ _ M7 hS7 (by omega) (by omega) (by omega) (by rw [eM7, nu_a (by omega)]; exact v0) (by rw [eM7, nu_a (by omega)]; exact v1) (by omega) (by exact TL.step v3 hpb eM7 ez5 (by omega)) (by exact FP.u v4 eM7 (by omega)) (by omega)
        · intro h11
          refine n_iload c_2_51 rfl ?_
          refine n_iconst c_2_53 ?_
          refine n_iadd c_2_54 rfl ?_
          refine n_goto c_2_55 ?_
          refine n_istore (L2 := [some (2, p), none, some (2, 54), some (2, 4), some (0, (x4 + 1)), some (0, x5), none]) c_2_59 rfl rfl ?_
          refine n_iinc (L2 := [some (2, p), none, some (2, 54), some (2, 4), some (0, (x4 + 1)), some (0, (x5 + 1)), none]) c_2_61 rfl rfl rfl ?_
          refine n_goto c_2_64 ?_
          refine n_fg (le_s (le_n (le_s (le_s (le_s (le_s (le_n le_0))))))) ?_
          exact ih.1 _ _ M7 hS7 (by omega) (by omega) (by omega) (by rw [eM7, nu_a (by omega)]; exact v0) (by rw [eM7, nu_a (by omega)]; exact v1) (by omega) (by exact TL.step v3 hpb eM7 ez5 (by omega)) (by exact FP.u v4 eM7 (by omega)) (by omega)
    · intro x5 M hS k5 hggd v0 v1 v2 v3 v4 hnn
      refine n_iload c_2_70 rfl ?_
      refine n_aload_n c_2_72 rfl ?_
      refine n_getV (bi := 1) c_2_73 sc_4.n rfl rfl rfl (t_4_1 hS) ?_
      intro z1 ez1 f2
      obtain rfl : z1 = 8 := by omega
      refine n_if2_ge c_2_76 (by omega) (by omega) ?_ ?_
      · intro h3
        exact n_rV c_2_134 rfl ⟨hS, by omega, by exact ⟨v0, v1, fun i h0 h1 => ⟨v2.2 i h0 (by omega), v3 i h0 (by omega)⟩⟩, by exact v4⟩
      · intro h4
        refine n_aload_n c_2_79 rfl ?_
        refine n_getR c_2_80 sc_4.n rfl rfl rfl r_4_2 ?_
        refine n_iload c_2_83 rfl ?_
        refine n_ialoadV c_2_85 sc_5.n rfl rfl rfl (by omega) (t_5d hS hd (by omega) (by omega)) ?_
        intro z5 ez5 f6
        refine n_aload_n c_2_86 rfl ?_
        refine n_getV (bi := 0) c_2_87 sc_4.n rfl rfl rfl (t_4_0 hS) ?_
        intro z7 ez7 f8
        obtain rfl : z7 = 2 := by omega
        refine n_imul c_2_90 rfl ?_
        refine n_aload_n c_2_91 rfl ?_
        refine n_getR c_2_92 sc_4.n rfl rfl rfl r_4_4 ?_
        refine n_iload c_2_95 rfl ?_
        refine n_ialoadV c_2_97 sc_7.n rfl rfl rfl (by omega) (t_7d hS hd (by omega) (by omega)) ?_
        intro z9 ez9 f10
        refine n_iadd c_2_98 rfl ?_
        refine n_aload_n c_2_99 rfl ?_
        refine n_getV (bi := 0) c_2_100 sc_4.n rfl rfl rfl (t_4_0 hS) ?_
        intro z11 ez11 f12
        obtain rfl : z11 = 2 := by omega
        refine n_imul c_2_103 rfl ?_
        refine n_aload_n c_2_104 rfl ?_
        refine n_getR c_2_105 sc_4.n rfl rfl rfl r_4_3 ?_
        refine n_iload c_2_108 rfl ?_
        refine n_ialoadV c_2_110 sc_6.n rfl rfl rfl (by omega) (t_6d hS hd (by omega) (by omega)) ?_
        intro z13 ez13 f14
        refine n_iadd c_2_111 rfl ?_
        refine n_istore (L2 := [some (2, p), none, none, some (2, 4), none, some (0, x5), some (0, ((((z5 * 2) + z9) * 2) + z13))]) c_2_112 rfl rfl ?_
        refine n_aload_n c_2_114 rfl ?_
        refine n_getR c_2_115 hp.c0.1.n rfl rfl rfl hp.r.2 ?_
        refine n_iload c_2_118 rfl ?_
        refine n_aload_n c_2_120 rfl ?_
        refine n_getR c_2_121 hp.c0.1.n rfl rfl rfl hp.r.1 ?_
        refine n_iload c_2_124 rfl ?_
        refine n_ialoadV c_2_126 hp.c0.2.1.n rfl rfl rfl (by omega) (t_actr hS hd hp (Or.inl rfl) (by omega)) ?_
        intro z15 ez15 f16
        have qb5 := t_5e hS (i := x5) (by omega) (by omega)
        have qb6 := t_6e hS (i := x5) (by omega) (by omega)
        have qb7 := t_7e hS (i := x5) (by omega) (by omega)
        refine n_iastoreM hS c_2_127 hp.c0.2.2.n rfl (by omega) (m_actnr hp hpl (Or.inr rfl) (by omega) (by omega)) ?_
        intro M17 eM17 hS17
        have g17_0 : M17 112 0 = M 112 0 := by rw [eM17]; exact nu_a (by omega)
        have g17_1 : M17 p 1 = M p 1 := by rw [eM17]; exact nu_a (by omega)
        refine n_iinc (L2 := [some (2, p), none, none, some (2, 4), none, some (0, (x5 + 1)), some (0, ((((z5 * 2) + z9) * 2) + z13))]) c_2_128 rfl rfl rfl ?_
        refine n_goto c_2_131 ?_
        refine n_fg (le_s (le_n (le_n (le_s (le_n (le_s (le_n le_0))))))) ?_
        exact ih.2 _ M17 hS17 (by omega) (by omega) (by rw [eM17, nu_a (by omega)]; exact v0) (by rw [eM17, nu_a (by omega)]; exact v1) (by exact TL.uu v2 hpb eM17) (by exact TU.step v3 eM17 ez15 (by unfold tr; omega)) (by exact FP.u v4 eM17 (by omega)) (by omega)
set_option maxHeartbeats 4000000 in
theorem takeX3_2 {xs : List Int32} {e : Nat} {ac : Int} {M : nM} {p gd : Int} {Ms : nM} (hS : Sf 2 ac M M) (hp : ActAt p) (hpl : p = 55 + 3 * ac) (hgd : M 112 0 = gd) (hms : M = Ms) : nW xs (e + 1) 2 0 [some (2, p), some (0, 3), some (2, 54), some (2, 4), none, none, none] [] M (nPV fun M1 => Sf 2 ac M1 M1 ∧ (M1 112 0 = gd) ∧ (NAct 2 3 8 p (fun i => Ms 54 i) M1) ∧ (FP p Ms M1)) := by
  have hd : (2 : Int) = 2 ∨ (2 : Int) = 3 := by decide
  have hac := hS.2.2.2.2
  have hpb := hp.1
  refine n_aload_n c_2_0 rfl ?_
  refine n_iload_n c_2_1 rfl ?_
  refine n_putM (bi := 0) hS c_2_2 hp.c0.1.n rfl rfl rfl rfl (m_actn hp hpl (by omega) (by omega)) ?_
  intro M1 eM1 hS1
  have g1_0 : M1 112 0 = M 112 0 := by rw [eM1]; exact nu_a (by omega)
  have g1_1 : M1 p 0 = 3 := by rw [eM1]; exact nu_s _ _ _ _
  refine n_aload_n c_2_5 rfl ?_
  refine n_aload_n c_2_6 rfl ?_
  refine n_iload_n c_2_7 rfl ?_
  refine n_v1I c_2_8 rfl sc_4.n rfl rfl rfl rfl (power3_2  hS1 ) ?_
  intro z2 M3 hP4
  obtain ⟨eM, f4⟩ := hP4
  subst eM
  obtain rfl : z2 = 8 := by omega
  refine n_putM (bi := 1) hS1 c_2_11 hp.c0.1.n rfl rfl rfl rfl (m_actn hp hpl (by omega) (by omega)) ?_
  intro M5 eM5 hS5
  have g5_0 : M5 112 0 = M1 112 0 := by rw [eM5]; exact nu_a (by omega)
  have g5_1 : M5 p 0 = M1 p 0 := by rw [eM5]; exact nu_i (by omega)
  have g5_2 : M5 p 1 = 8 := by rw [eM5]; exact nu_s _ _ _ _
  refine n_iconst c_2_14 ?_
  refine n_istore (L2 := [some (2, p), some (0, 3), some (2, 54), some (2, 4), some (0, 0), none, none]) c_2_15 rfl rfl ?_
  refine n_iconst c_2_17 ?_
  refine n_istore (L2 := [some (2, p), some (0, 3), some (2, 54), some (2, 4), some (0, 0), some (0, 0), none]) c_2_18 rfl rfl ?_
  refine n_fg (le_s (le_n (le_s (le_s (le_s (le_s (le_n le_0))))))) ?_
  exact (takeX3_2_c hS hp hpl hgd hms 50).1 _ _ M5 hS5 (by omega) (by omega) (by omega) (by omega) (by omega) (by omega) (by subst hms; exact ⟨fun i => by rw [eM5, nu_a (by omega), eM1, nu_a (by omega)], fun i h0 h1 => by omega⟩) (by subst hms; exact FP.u (FP.u (fun _ _ _ _ => rfl) eM1 (by omega)) eM5 (by omega)) (by omega)
