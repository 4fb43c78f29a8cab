/-! What the methods do to the core. -/
set_option maxHeartbeats 4000000 in
theorem isPlaceCountF_3 {xs : List Int32} {e : Nat} {ac : Int} {M0 M : nM} {k : Int} (hS : Sf 3 ac M0 M) (hk : -2147483648 ≤ k ∧ k ≤ 2147483647) : nW xs e 124 0 [some (2, 3), some (0, k)] [] M (nPI fun z M1 => M = M1 ∧ (0 ≤ z ∧ z ≤ 1) ∧ ((z = 1 ∧ 1 ≤ k ∧ k ≤ 3) ∨ (z = 0 ∧ (k < 1 ∨ 3 < k)))) := by
  have hd : (3 : Int) = 2 ∨ (3 : Int) = 3 := by decide
  have hac := hS.2.2.2.2
  refine n_iload_n c_124_0 rfl (n_iconst c_124_1 ?_)
  refine n_if2_lt c_124_2 (by omega) (by omega) ?_ ?_
  · intro h1
    refine n_iconst c_124_14 ?_
    exact n_rZ c_124_15 rfl (by omega) ⟨rfl, by omega, by omega⟩
  · intro h2
    refine n_iload_n c_124_5 rfl (n_iconst c_124_6 ?_)
    refine n_if2_gt c_124_7 (by omega) (by omega) ?_ ?_
    · intro h3
      refine n_iconst c_124_14 ?_
      exact n_rZ c_124_15 rfl (by omega) ⟨rfl, by omega, by omega⟩
    · intro h4
      refine n_iconst c_124_10 (n_goto c_124_11 ?_)
      exact n_rZ c_124_15 rfl (by omega) ⟨rfl, by omega, by omega⟩

set_option maxHeartbeats 4000000 in
theorem hasRowF_3 {xs : List Int32} {e : Nat} {ac : Int} {M0 M : nM} {s : Int} (hS : Sf 3 ac M0 M) (hs : -2147483648 ≤ s ∧ s ≤ 2147483647) : nW xs (e + 1) 85 0 [some (2, 8), some (0, s)] [] M (nPI fun z M1 => M = M1 ∧ (0 ≤ z ∧ z ≤ 1) ∧ ((z = 1 ∧ 0 ≤ s ∧ s ≤ 7 ∧ 0 ≤ M 11 s) ∨ (z = 0 ∧ (s < 0 ∨ 7 < s ∨ M 11 s < 0)))) := by
  have hd : (3 : Int) = 2 ∨ (3 : Int) = 3 := by decide
  have hac := hS.2.2.2.2
  refine n_aload_n c_85_0 rfl (n_iload_n c_85_1 rfl (n_v1I c_85_2 rfl sc_8.n rfl rfl rfl rfl (isSlotF_3 (s := s) hS (by omega)) ?_))
  intro z1 M2 hP3
  obtain ⟨eM, f3, f3p0⟩ := hP3
  subst eM
  refine n_if0_eq c_85_5 (by omega) ?_ ?_
  · intro h4
    refine n_iconst c_85_21 ?_
    exact n_rZ c_85_22 rfl (by omega) ⟨rfl, by omega, by omega⟩
  · intro h5
    refine n_aload_n c_85_8 rfl (n_getR c_85_9 sc_8.n rfl rfl rfl r_8_2 (n_iload_n c_85_12 rfl (n_ialoadV c_85_13 sc_11.n rfl rfl rfl (by omega) (t_11 hS (by omega)) ?_)))
    intro z6 ez6 f7
    refine n_if0_lt c_85_14 (by omega) ?_ ?_
    · intro h8
      refine n_iconst c_85_21 ?_
      exact n_rZ c_85_22 rfl (by omega) ⟨rfl, by omega, by omega⟩
    · intro h9
      refine n_iconst c_85_17 (n_goto c_85_18 ?_)
      exact n_rZ c_85_22 rfl (by omega) ⟨rfl, by omega, by omega⟩

set_option maxHeartbeats 4000000 in
theorem layX_3_c {xs : List Int32} {e : Nat} {ac : Int} {M : nM} {s w n gd : Int} {Ms : nM} (hS : Sf 3 ac M M) (hs : 0 ≤ s ∧ s ≤ 7) (hw : 0 ≤ w ∧ w ≤ 3) (hn : 0 ≤ n ∧ n ≤ 40) (hgd : M 112 0 = gd) (hms : M = Ms) : ∀ nn : Nat, (∀ (x4 : Int) (M : nM), Sf 3 ac M M → (0 ≤ x4 ∧ x4 ≤ 40) → (M 112 0 = gd) → (LayP s w n x4 Ms M) → (40 - x4) * 1 + 1 < (nn : Int) → nW xs e 86 17 [some (2, 8), some (0, s), none, none, some (0, x4)] [] M (nPV fun M1 => Sf 3 ac M1 M1 ∧ (M1 112 0 = gd) ∧ (LayP s w n 40 Ms M1))) := by
  have hd : (3 : Int) = 2 ∨ (3 : Int) = 3 := by decide
  have hac := hS.2.2.2.2
  intro nn
  induction nn with
  | zero => intros; omega
  | succ nn ih =>
    intro x4 M hS k4 hggd v0 hnn
    refine n_iload c_86_17 rfl (n_bipush c_86_19 rfl ?_)
    refine n_if2_ge c_86_21 (by omega) (by omega) ?_ ?_
    · intro h1
      exact n_rV c_86_43 rfl ⟨hS, by omega, by have q : x4 = 40 := (by omega); rw [q] at v0; exact v0⟩
    · intro h2
      refine n_aload_n c_86_24 rfl (n_getR c_86_25 sc_8.n rfl rfl rfl r_8_0 (n_iload_n c_86_28 rfl (n_bipush c_86_29 rfl (n_imul c_86_31 rfl (n_iload c_86_32 rfl (n_iadd c_86_34 rfl (n_lconst (n := 0) c_86_35 rfl (n_lastoreM hS c_86_36 sc_9.n rfl (by omega) (m_9 (by omega) (by omega)) ?_))))))))
      intro M3 eM3 hS3
      have g3_0 : M3 112 0 = M 112 0 := by rw [eM3]; exact nu_a (by omega)
      refine n_iinc (L2 := [some (2, 8), some (0, s), none, none, some (0, (x4 + 1))]) c_86_37 rfl rfl rfl (n_goto c_86_40 (n_fg (le_s (le_s (le_n (le_n (le_s le_0))))) ?_))
      exact ih _ M3 hS3 (by omega) (by omega) (by exact LayP.step v0 (by omega) (by omega) eM3) (by omega)
set_option maxHeartbeats 4000000 in
theorem layX_3 {xs : List Int32} {e : Nat} {ac : Int} {M : nM} {s w n gd : Int} {Ms : nM} (hS : Sf 3 ac M M) (hs : 0 ≤ s ∧ s ≤ 7) (hw : 0 ≤ w ∧ w ≤ 3) (hn : 0 ≤ n ∧ n ≤ 40) (hgd : M 112 0 = gd) (hms : M = Ms) : nW xs e 86 0 [some (2, 8), some (0, s), some (0, w), some (0, n), none] [] M (nPV fun M1 => Sf 3 ac M1 M1 ∧ (M1 112 0 = gd) ∧ (LayP s w n 40 Ms M1)) := by
  have hd : (3 : Int) = 2 ∨ (3 : Int) = 3 := by decide
  have hac := hS.2.2.2.2
  refine n_aload_n c_86_0 rfl (n_getR c_86_1 sc_8.n rfl rfl rfl r_8_1 (n_iload_n c_86_4 rfl (n_iload_n c_86_5 rfl (n_iastoreM hS c_86_6 sc_10.n rfl (by omega) (m_10 (by omega) (by omega)) ?_))))
  intro M1 eM1 hS1
  have g1_0 : M1 112 0 = M 112 0 := by rw [eM1]; exact nu_a (by omega)
  refine n_aload_n c_86_7 rfl (n_getR c_86_8 sc_8.n rfl rfl rfl r_8_2 (n_iload_n c_86_11 rfl (n_iload_n c_86_12 rfl (n_iastoreM hS1 c_86_13 sc_11.n rfl (by omega) (m_11 (by omega) (by omega)) ?_))))
  intro M2 eM2 hS2
  have g2_0 : M2 112 0 = M1 112 0 := by rw [eM2]; exact nu_a (by omega)
  refine n_iconst c_86_14 (n_istore (L2 := [some (2, 8), some (0, s), some (0, w), some (0, n), some (0, 0)]) c_86_15 rfl rfl (n_fg (le_s (le_s (le_n (le_n (le_s le_0))))) ?_))
  exact (layX_3_c hS hs hw hn hgd hms 94) _ M2 hS2 (by omega) (by omega) (by subst hms; exact LayP.init eM1 eM2) (by omega)

set_option maxHeartbeats 4000000 in
theorem rowX_3 {xs : List Int32} {e : Nat} {ac : Int} {M : nM} {s w n gd : Int} (hS : Sf 3 ac M M) (hs : -2147483648 ≤ s ∧ s ≤ 2147483647) (hw : -2147483648 ≤ w ∧ w ≤ 2147483647) (hn : -2147483648 ≤ n ∧ n ≤ 2147483647) (hgd : M 112 0 = gd) : nW xs (e + 1) 94 0 [some (2, 3), some (0, s), some (0, w), some (0, n)] [] M (nPI fun z M1 => Sf 3 ac M1 M1 ∧ (-2147483648 ≤ z ∧ z ≤ 2147483647) ∧ (M1 112 0 = gd) ∧ (cRow s w n z M M1)) := by
  have hd : (3 : Int) = 2 ∨ (3 : Int) = 3 := by decide
  have hac := hS.2.2.2.2
  refine n_aload_n c_94_0 rfl (n_getR c_94_1 sc_3.n rfl rfl rfl r_3_1 (n_iload_n c_94_4 rfl (n_v1I c_94_5 rfl sc_8.n rfl rfl rfl rfl (isSlotF_3 (s := s) hS (by omega)) ?_)))
  intro z1 M2 hP3
  obtain ⟨eM, f3, f3p0⟩ := hP3
  subst eM
  refine n_if0_eq c_94_8 (by omega) ?_ ?_
  · intro h4
    refine n_bipush c_94_26 rfl ?_
    exact n_rI c_94_28 rfl ⟨hS, by omega, by omega, by exact Or.inl ⟨by omega, rfl, fun _ _ _ => rfl⟩⟩
  · intro h5
    refine n_iload_n c_94_11 rfl ?_
    refine n_if0_lt c_94_12 (by omega) ?_ ?_
    · intro h6
      refine n_bipush c_94_26 rfl ?_
      exact n_rI c_94_28 rfl ⟨hS, by omega, by omega, by exact Or.inl ⟨by omega, rfl, fun _ _ _ => rfl⟩⟩
    · intro h7
      refine n_iload_n c_94_15 rfl (n_iconst c_94_16 ?_)
      refine n_if2_gt c_94_17 (by omega) (by omega) ?_ ?_
      · intro h8
        refine n_bipush c_94_26 rfl ?_
        exact n_rI c_94_28 rfl ⟨hS, by omega, by omega, by exact Or.inl ⟨by omega, rfl, fun _ _ _ => rfl⟩⟩
      · intro h9
        refine n_iload_n c_94_20 rfl (n_bipush c_94_21 rfl ?_)
        refine n_if2_le c_94_23 (by omega) (by omega) ?_ ?_
        · intro h10
          refine n_iload_n c_94_29 rfl ?_
          refine n_if0_ge c_94_30 (by omega) ?_ ?_
          · intro h11
            refine n_aload_n c_94_36 rfl (n_getR c_94_37 sc_3.n rfl rfl rfl r_3_1 (n_iload_n c_94_40 rfl (n_iload_n c_94_41 rfl (n_iload_n c_94_42 rfl (n_v3V c_94_43 rfl sc_8.n rfl rfl rfl rfl (layX_3 (s := s) (w := w) (n := n) (gd := (M 112 0)) (Ms := M) hS (by omega) (by omega) (by omega) rfl (by rfl)) ?_)))))
            intro  M12 hP13
            obtain ⟨hS12, f13g0, f13p0⟩ := hP13
            refine n_iconst c_94_46 ?_
            exact n_rI c_94_47 rfl ⟨hS12, by omega, by omega, by exact Or.inr (Or.inr ⟨by omega, by omega, by omega, by omega, by omega, by omega, rfl, f13p0.1, f13p0.2.1, f13p0.2.2.1, f13p0.2.2.2⟩)⟩
          · intro h14
            refine n_bipush c_94_33 rfl ?_
            exact n_rI c_94_35 rfl ⟨hS, by omega, by omega, by exact Or.inr (Or.inl ⟨by omega, by omega, by omega, by omega, by omega, rfl, fun _ _ _ => rfl⟩)⟩
        · intro h15
          refine n_bipush c_94_26 rfl ?_
          exact n_rI c_94_28 rfl ⟨hS, by omega, by omega, by exact Or.inl ⟨by omega, rfl, fun _ _ _ => rfl⟩⟩

set_option maxHeartbeats 4000000 in
theorem mrowX_3_c {xs : List Int32} {e : Nat} {ac : Int} {M : nM} {s w n gd : Int} {Ms : nM} (hS : Sf 3 ac M M) (hdm : M 112 0 = 3) (hs : -2147483648 ≤ s ∧ s ≤ 2147483647) (hw : -2147483648 ≤ w ∧ w ≤ 2147483647) (hn : -2147483648 ≤ n ∧ n ≤ 2147483647) (hgd : M 112 0 = gd) (hms : M = Ms) : ∀ nn : Nat, (∀ (x4 : Int) (M : nM), Sf 3 ac M M → (0 ≤ s ∧ s ≤ 7) → (0 ≤ n ∧ n ≤ 40) → (0 ≤ x4 ∧ x4 ≤ 40) → (M 112 0 = 3) → (M 112 0 = gd) → (x4 ≤ n) → (0 ≤ w ∧ w ≤ 3) → (RowP s w n x4 Ms M) → (40 - x4) * 1 + 1 < (nn : Int) → nW xs (e + 1) 144 51 [some (2, 112), some (0, s), none, some (0, n), some (0, x4)] [] M (nPI fun z M1 => Sf 3 ac M1 M1 ∧ (-2147483648 ≤ z ∧ z ≤ 2147483647) ∧ (M1 112 0 = gd) ∧ (mRow s w n z Ms M1))) := by
  have hd : (3 : Int) = 2 ∨ (3 : Int) = 3 := by decide
  have hac := hS.2.2.2.2
  intro nn
  induction nn with
  | zero => intros; omega
  | succ nn ih =>
    intro x4 M hS k1 k3 k4 hdm hggd v0 v1 v2 hnn
    refine n_iload c_144_51 rfl (n_iload_n c_144_53 rfl ?_)
    refine n_if2_ge c_144_54 (by omega) (by omega) ?_ ?_
    · intro h1
      refine n_iconst c_144_76 ?_
      exact n_rI c_144_77 rfl ⟨hS, by omega, by omega, by have q : x4 = n := (by omega); rw [q] at v2; exact Or.inr (Or.inr ⟨by omega, by omega, by omega, by omega, by omega, by omega, rfl, v2.1, v2.2.1, v2.2.2.1, v2.2.2.2⟩)⟩
    · intro h2
      refine n_aload_n c_144_57 rfl (n_getR c_144_58 sc_112.n rfl rfl rfl r_112_3 (n_bipush c_144_61 rfl (n_iload_n c_144_63 rfl (n_imul c_144_64 rfl (n_iload c_144_65 rfl (n_iadd c_144_67 rfl (n_lconst (n := 0) c_144_68 rfl (n_lastoreM hS c_144_69 sc_115.n rfl (by omega) (m_115 (by omega) (by omega)) ?_))))))))
      intro M3 eM3 hS3
      have g3_0 : M3 112 0 = M 112 0 := by rw [eM3]; exact nu_a (by omega)
      refine n_iinc (L2 := [some (2, 112), some (0, s), none, some (0, n), some (0, (x4 + 1))]) c_144_70 rfl rfl rfl (n_goto c_144_73 (n_fg (le_s (le_s (le_n (le_s (le_s le_0))))) ?_))
      exact ih _ M3 hS3 (by omega) (by omega) (by omega) (by omega) (by omega) (by omega) (by omega) (by exact RowP.step v2 (by omega) (by omega) eM3) (by omega)
set_option maxHeartbeats 4000000 in
theorem mrowX_3 {xs : List Int32} {e : Nat} {ac : Int} {M : nM} {s w n gd : Int} {Ms : nM} (hS : Sf 3 ac M M) (hdm : M 112 0 = 3) (hs : -2147483648 ≤ s ∧ s ≤ 2147483647) (hw : -2147483648 ≤ w ∧ w ≤ 2147483647) (hn : -2147483648 ≤ n ∧ n ≤ 2147483647) (hgd : M 112 0 = gd) (hms : M = Ms) : nW xs (e + 1) 144 0 [some (2, 112), some (0, s), some (0, w), some (0, n), none] [] M (nPI fun z M1 => Sf 3 ac M1 M1 ∧ (-2147483648 ≤ z ∧ z ≤ 2147483647) ∧ (M1 112 0 = gd) ∧ (mRow s w n z Ms M1)) := by
  have hd : (3 : Int) = 2 ∨ (3 : Int) = 3 := by decide
  have hac := hS.2.2.2.2
  refine n_iload_n c_144_0 rfl (n_s1I c_144_1 rfl rfl rfl rfl (misSlotF_3 (s := s) hS (by omega)) ?_)
  intro z1 M2 hP3
  obtain ⟨eM, f3, f3p0⟩ := hP3
  subst eM
  refine n_if0_eq c_144_4 (by omega) ?_ ?_
  · intro h4
    refine n_bipush c_144_22 rfl ?_
    exact n_rI c_144_24 rfl ⟨hS, by omega, by omega, by subst hms; exact Or.inl ⟨by omega, rfl, fun _ _ _ => rfl⟩⟩
  · intro h5
    refine n_iload_n c_144_7 rfl ?_
    refine n_if0_lt c_144_8 (by omega) ?_ ?_
    · intro h6
      refine n_bipush c_144_22 rfl ?_
      exact n_rI c_144_24 rfl ⟨hS, by omega, by omega, by subst hms; exact Or.inl ⟨by omega, rfl, fun _ _ _ => rfl⟩⟩
    · intro h7
      refine n_iload_n c_144_11 rfl (n_iconst c_144_12 ?_)
      refine n_if2_gt c_144_13 (by omega) (by omega) ?_ ?_
      · intro h8
        refine n_bipush c_144_22 rfl ?_
        exact n_rI c_144_24 rfl ⟨hS, by omega, by omega, by subst hms; exact Or.inl ⟨by omega, rfl, fun _ _ _ => rfl⟩⟩
      · intro h9
        refine n_iload_n c_144_16 rfl (n_bipush c_144_17 rfl ?_)
        refine n_if2_le c_144_19 (by omega) (by omega) ?_ ?_
        · intro h10
          refine n_iload_n c_144_25 rfl ?_
          refine n_if0_ge c_144_26 (by omega) ?_ ?_
          · intro h11
            refine n_aload_n c_144_32 rfl (n_getR c_144_33 sc_112.n rfl rfl rfl r_112_1 (n_iload_n c_144_36 rfl (n_iload_n c_144_37 rfl (n_iconst c_144_38 (n_iadd c_144_39 rfl (n_iastoreM hS c_144_40 sc_113.n rfl (by omega) (m_113 (by omega) (by omega)) ?_))))))
            intro M12 eM12 hS12
            have g12_0 : M12 112 0 = M 112 0 := by rw [eM12]; exact nu_a (by omega)
            refine n_aload_n c_144_41 rfl (n_getR c_144_42 sc_112.n rfl rfl rfl r_112_2 (n_iload_n c_144_45 rfl (n_iload_n c_144_46 rfl (n_iastoreM hS12 c_144_47 sc_114.n rfl (by omega) (m_114 (by omega) (by omega)) ?_))))
            intro M13 eM13 hS13
            have g13_0 : M13 112 0 = M12 112 0 := by rw [eM13]; exact nu_a (by omega)
            refine n_iconst c_144_48 (n_istore (L2 := [some (2, 112), some (0, s), some (0, w), some (0, n), some (0, 0)]) c_144_49 rfl rfl (n_fg (le_s (le_s (le_n (le_s (le_s le_0))))) ?_))
            exact (mrowX_3_c hS hdm hs hw hn hgd hms 94) _ M13 hS13 (by omega) (by omega) (by omega) (by omega) (by omega) (by omega) (by omega) (by subst hms; exact RowP.init eM12 eM13) (by omega)
          · intro h14
            refine n_bipush c_144_29 rfl ?_
            exact n_rI c_144_31 rfl ⟨hS, by omega, by omega, by subst hms; exact Or.inr (Or.inl ⟨by omega, by omega, by omega, by omega, by omega, rfl, fun _ _ _ => rfl⟩)⟩
        · intro h15
          refine n_bipush c_144_22 rfl ?_
          exact n_rI c_144_24 rfl ⟨hS, by omega, by omega, by subst hms; exact Or.inl ⟨by omega, rfl, fun _ _ _ => rfl⟩⟩

set_option maxHeartbeats 4000000 in
theorem emptyX_3 {xs : List Int32} {e : Nat} {ac : Int} {M : nM} {s gd : Int} (hS : Sf 3 ac M M) (hs : 0 ≤ s ∧ s ≤ 7) (hgd : M 112 0 = gd) : nW xs e 87 0 [some (2, 8), some (0, s)] [] M (nPV fun M1 => Sf 3 ac M1 M1 ∧ (M1 112 0 = gd) ∧ (M1 = nu M 11 s (-1))) := by
  have hd : (3 : Int) = 2 ∨ (3 : Int) = 3 := by decide
  have hac := hS.2.2.2.2
  refine n_aload_n c_87_0 rfl (n_getR c_87_1 sc_8.n rfl rfl rfl r_8_2 (n_iload_n c_87_4 rfl (n_iconst c_87_5 (n_iastoreM hS c_87_6 sc_11.n rfl (by omega) (m_11 (by omega) (by omega)) ?_))))
  intro M1 eM1 hS1
  have g1_0 : M1 112 0 = M 112 0 := by rw [eM1]; exact nu_a (by omega)
  exact n_rV c_87_7 rfl ⟨hS1, by omega, by exact eM1⟩

set_option maxHeartbeats 4000000 in
theorem tearX_3 {xs : List Int32} {e : Nat} {ac : Int} {M : nM} {s gd : Int} (hS : Sf 3 ac M M) (hs : -2147483648 ≤ s ∧ s ≤ 2147483647) (hgd : M 112 0 = gd) : nW xs (e + 2) 95 0 [some (2, 3), some (0, s)] [] M (nPI fun z M1 => Sf 3 ac M1 M1 ∧ (0 ≤ z ∧ z ≤ 1) ∧ (M1 112 0 = gd) ∧ (cTear s z M M1)) := by
  have hd : (3 : Int) = 2 ∨ (3 : Int) = 3 := by decide
  have hac := hS.2.2.2.2
  refine n_aload_n c_95_0 rfl (n_getR c_95_1 sc_3.n rfl rfl rfl r_3_1 (n_iload_n c_95_4 rfl (n_v1I c_95_5 rfl sc_8.n rfl rfl rfl rfl (hasRowF_3 (s := s) hS (by omega)) ?_)))
  intro z1 M2 hP3
  obtain ⟨eM, f3, f3p0⟩ := hP3
  subst eM
  refine n_if0_ne c_95_8 (by omega) ?_ ?_
  · intro h4
    refine n_aload_n c_95_13 rfl (n_getR c_95_14 sc_3.n rfl rfl rfl r_3_1 (n_iload_n c_95_17 rfl (n_v1V c_95_18 rfl sc_8.n rfl rfl rfl rfl (emptyX_3 (s := s) (gd := (M 112 0)) hS (by omega) rfl) ?_)))
    intro  M5 hP6
    obtain ⟨hS5, f6g0, f6p0⟩ := hP6
    refine n_iconst c_95_21 ?_
    exact n_rZ c_95_22 rfl (by omega) ⟨hS5, by omega, by omega, by exact Or.inr ⟨by omega, by omega, by omega, rfl, by rw [f6p0, nu_s], fun a i _ q => by rw [f6p0, nu_e, if_neg q]⟩⟩
  · intro h7
    refine n_iconst c_95_11 ?_
    exact n_rZ c_95_12 rfl (by omega) ⟨hS, by omega, by omega, by exact Or.inl ⟨by omega, rfl, fun _ _ _ => rfl⟩⟩

set_option maxHeartbeats 4000000 in
theorem mtearX_3 {xs : List Int32} {e : Nat} {ac : Int} {M : nM} {s gd : Int} (hS : Sf 3 ac M M) (hdm : M 112 0 = 3) (hs : -2147483648 ≤ s ∧ s ≤ 2147483647) (hgd : M 112 0 = gd) : nW xs (e + 1) 145 0 [some (2, 112), some (0, s)] [] M (nPI fun z M1 => Sf 3 ac M1 M1 ∧ (0 ≤ z ∧ z ≤ 1) ∧ (M1 112 0 = gd) ∧ (mTear s z M M1)) := by
  have hd : (3 : Int) = 2 ∨ (3 : Int) = 3 := by decide
  have hac := hS.2.2.2.2
  refine n_iload_n c_145_0 rfl (n_s1I c_145_1 rfl rfl rfl rfl (misSlotF_3 (s := s) hS (by omega)) ?_)
  intro z1 M2 hP3
  obtain ⟨eM, f3, f3p0⟩ := hP3
  subst eM
  refine n_if0_eq c_145_4 (by omega) ?_ ?_
  · intro h4
    refine n_iconst c_145_16 ?_
    exact n_rZ c_145_17 rfl (by omega) ⟨hS, by omega, by omega, by exact Or.inl ⟨by omega, rfl, fun _ _ _ => rfl⟩⟩
  · intro h5
    refine n_aload_n c_145_7 rfl (n_getR c_145_8 sc_112.n rfl rfl rfl r_112_1 (n_iload_n c_145_11 rfl (n_ialoadV c_145_12 sc_113.n rfl rfl rfl (by omega) (t_113 hS (by omega)) ?_)))
    intro z6 ez6 f7
    refine n_if0_ne c_145_13 (by omega) ?_ ?_
    · intro h8
      refine n_aload_n c_145_18 rfl (n_getR c_145_19 sc_112.n rfl rfl rfl r_112_1 (n_iload_n c_145_22 rfl (n_iconst c_145_23 (n_iastoreM hS c_145_24 sc_113.n rfl (by omega) (m_113 (by omega) (by omega)) ?_))))
      intro M9 eM9 hS9
      have g9_0 : M9 112 0 = M 112 0 := by rw [eM9]; exact nu_a (by omega)
      refine n_iconst c_145_25 ?_
      exact n_rZ c_145_26 rfl (by omega) ⟨hS9, by omega, by omega, by exact Or.inr ⟨by omega, by omega, by omega, rfl, by rw [eM9, nu_s], fun a i _ q => by rw [eM9, nu_e, if_neg q]⟩⟩
    · intro h10
      refine n_iconst c_145_16 ?_
      exact n_rZ c_145_17 rfl (by omega) ⟨hS, by omega, by omega, by exact Or.inl ⟨by omega, rfl, fun _ _ _ => rfl⟩⟩

set_option maxHeartbeats 4000000 in
theorem cutX_3 {xs : List Int32} {e : Nat} {ac : Int} {M0 M : nM} {v w : Int} (hS : Sf 3 ac M0 M) (hv : -9223372036854775808 ≤ v ∧ v ≤ 9223372036854775807) (hw : -2147483648 ≤ w ∧ w ≤ 2147483647) : nW xs e 91 0 [some (2, 8), some (1, v), none, some (0, w)] [] M (nPJ fun z M1 => M = M1 ∧ (-9223372036854775808 ≤ z ∧ z ≤ 9223372036854775807) ∧ (z = cutv v w)) := by
  have hd : (3 : Int) = 2 ∨ (3 : Int) = 3 := by decide
  have hac := hS.2.2.2.2
  refine n_iload_n c_91_0 rfl ?_
  refine n_sw c_91_1 (by omega) (by decide) ?_ ?_
  · intro h1
    refine n_pc (k2 := 42) rfl (n_lload_n c_91_42 rfl ?_)
    exact n_rJ c_91_43 rfl ⟨rfl, by omega, by unfold cutv; first | (rw [if_pos (by omega)]; subst_vars; rfl) | (rw [if_neg (by omega), if_pos (by omega)]; subst_vars; rfl) | (rw [if_neg (by omega), if_neg (by omega), if_pos (by omega)]; subst_vars; rfl) | (rw [if_neg (by omega), if_neg (by omega), if_neg (by omega)])⟩
  · intro h2 h2b
    rcases (show w = 0 ∨ w = 1 ∨ w = 2 by omega) with h2c | h2c | h2c
    · refine ⟨_, by rw [h2c]; rfl, by decide, ?_⟩
      refine n_pc (k2 := 28) rfl (n_lload_n c_91_28 rfl (n_l2i c_91_29 (n_wrap ?_)))
      have f3 := n_wr_r v
      generalize gz4 : n_wr v = z4 at f3 ⊢
      refine n_i2b c_91_30 ?_
      have f5 := n_2b_r z4
      generalize gz6 : n_2b z4 = z6 at f5 ⊢
      refine n_i2l c_91_31 (by omega) ?_
      exact n_rJ c_91_32 rfl ⟨rfl, by omega, by unfold cutv; first | (rw [if_pos (by omega)]; subst_vars; rfl) | (rw [if_neg (by omega), if_pos (by omega)]; subst_vars; rfl) | (rw [if_neg (by omega), if_neg (by omega), if_pos (by omega)]; subst_vars; rfl) | (rw [if_neg (by omega), if_neg (by omega), if_neg (by omega)])⟩
    · refine ⟨_, by rw [h2c]; rfl, by decide, ?_⟩
      refine n_pc (k2 := 33) rfl (n_lload_n c_91_33 rfl (n_l2i c_91_34 (n_wrap ?_)))
      have f7 := n_wr_r v
      generalize gz8 : n_wr v = z8 at f7 ⊢
      refine n_i2s c_91_35 ?_
      have f9 := n_2s_r z8
      generalize gz10 : n_2s z8 = z10 at f9 ⊢
      refine n_i2l c_91_36 (by omega) ?_
      exact n_rJ c_91_37 rfl ⟨rfl, by omega, by unfold cutv; first | (rw [if_pos (by omega)]; subst_vars; rfl) | (rw [if_neg (by omega), if_pos (by omega)]; subst_vars; rfl) | (rw [if_neg (by omega), if_neg (by omega), if_pos (by omega)]; subst_vars; rfl) | (rw [if_neg (by omega), if_neg (by omega), if_neg (by omega)])⟩
    · refine ⟨_, by rw [h2c]; rfl, by decide, ?_⟩
      refine n_pc (k2 := 38) rfl (n_lload_n c_91_38 rfl (n_l2i c_91_39 (n_wrap ?_)))
      have f11 := n_wr_r v
      generalize gz12 : n_wr v = z12 at f11 ⊢
      refine n_i2l c_91_40 (by omega) ?_
      exact n_rJ c_91_41 rfl ⟨rfl, by omega, by unfold cutv; first | (rw [if_pos (by omega)]; subst_vars; rfl) | (rw [if_neg (by omega), if_pos (by omega)]; subst_vars; rfl) | (rw [if_neg (by omega), if_neg (by omega), if_pos (by omega)]; subst_vars; rfl) | (rw [if_neg (by omega), if_neg (by omega), if_neg (by omega)])⟩

set_option maxHeartbeats 4000000 in
theorem putX_3 {xs : List Int32} {e : Nat} {ac : Int} {M : nM} {s i v gd : Int} (hS : Sf 3 ac M M) (hs : 0 ≤ s ∧ s ≤ 7) (hi : -2147483648 ≤ i ∧ i ≤ 2147483647) (hv : -9223372036854775808 ≤ v ∧ v ≤ 9223372036854775807) (hgd : M 112 0 = gd) : nW xs (e + 1) 88 0 [some (2, 8), some (0, s), some (0, i), some (1, v), none] [] M (nPI fun z M1 => Sf 3 ac M1 M1 ∧ (0 ≤ z ∧ z ≤ 1) ∧ (M1 112 0 = gd) ∧ (cPut s i v z M M1)) := by
  have hd : (3 : Int) = 2 ∨ (3 : Int) = 3 := by decide
  have hac := hS.2.2.2.2
  refine n_iload_n c_88_0 rfl ?_
  refine n_if0_lt c_88_1 (by omega) ?_ ?_
  · intro h1
    refine n_iconst c_88_14 ?_
    exact n_rZ c_88_15 rfl (by omega) ⟨hS, by omega, by omega, by exact Or.inl ⟨by omega, rfl, fun _ _ _ => rfl⟩⟩
  · intro h2
    refine n_iload_n c_88_4 rfl (n_aload_n c_88_5 rfl (n_getR c_88_6 sc_8.n rfl rfl rfl r_8_2 (n_iload_n c_88_9 rfl (n_ialoadV c_88_10 sc_11.n rfl rfl rfl (by omega) (t_11 hS (by omega)) ?_))))
    intro z3 ez3 f4
    refine n_if2_lt c_88_11 (by omega) (by omega) ?_ ?_
    · intro h5
      refine n_aload_n c_88_16 rfl (n_getR c_88_17 sc_8.n rfl rfl rfl r_8_0 (n_iload_n c_88_20 rfl (n_bipush c_88_21 rfl (n_imul c_88_23 rfl (n_iload_n c_88_24 rfl (n_iadd c_88_25 rfl (n_aload_n c_88_26 rfl (n_lload_n c_88_27 rfl (n_aload_n c_88_28 rfl (n_getR c_88_29 sc_8.n rfl rfl rfl r_8_1 (n_iload_n c_88_32 rfl ?_)))))))))))
      refine n_ialoadV c_88_33 sc_10.n rfl rfl rfl (by omega) (t_10 hS (by omega)) ?_
      intro z6 ez6 f7
      refine n_v2J c_88_34 rfl sc_8.n rfl rfl rfl rfl (cutX_3 (v := v) (w := z6) hS (by omega) (by omega)) ?_
      intro z8 M9 hP10
      obtain ⟨eM, f10, f10p0⟩ := hP10
      subst eM
      refine n_lastoreM hS c_88_37 sc_9.n rfl (by omega) (m_9 (by omega) (by omega)) ?_
      intro M11 eM11 hS11
      have g11_0 : M11 112 0 = M 112 0 := by rw [eM11]; exact nu_a (by omega)
      have g11_1 : M11 11 s = M 11 s := by rw [eM11]; exact nu_a (by omega)
      refine n_iconst c_88_38 ?_
      exact n_rZ c_88_39 rfl (by omega) ⟨hS11, by omega, by omega, by exact Or.inr ⟨by omega, by omega, rfl, by rw [eM11, show (40 * s + i : Int) = s * 40 + i by omega, nu_s, f10p0, ez6], fun a b _ q => by rw [eM11, nu_e, if_neg (by omega)]⟩⟩
    · intro h12
      refine n_iconst c_88_14 ?_
      exact n_rZ c_88_15 rfl (by omega) ⟨hS, by omega, by omega, by exact Or.inl ⟨by omega, rfl, fun _ _ _ => rfl⟩⟩

set_option maxHeartbeats 4000000 in
theorem writeX_3 {xs : List Int32} {e : Nat} {ac : Int} {M : nM} {s i v gd : Int} (hS : Sf 3 ac M M) (hs : -2147483648 ≤ s ∧ s ≤ 2147483647) (hi : -2147483648 ≤ i ∧ i ≤ 2147483647) (hv : -9223372036854775808 ≤ v ∧ v ≤ 9223372036854775807) (hgd : M 112 0 = gd) : nW xs (e + 2) 96 0 [some (2, 3), some (0, s), some (0, i), some (1, v), none] [] M (nPI fun z M1 => Sf 3 ac M1 M1 ∧ (-2147483648 ≤ z ∧ z ≤ 2147483647) ∧ (M1 112 0 = gd) ∧ (cWri s i v z M M1)) := by
  have hd : (3 : Int) = 2 ∨ (3 : Int) = 3 := by decide
  have hac := hS.2.2.2.2
  refine n_aload_n c_96_0 rfl (n_getR c_96_1 sc_3.n rfl rfl rfl r_3_1 (n_iload_n c_96_4 rfl (n_v1I c_96_5 rfl sc_8.n rfl rfl rfl rfl (isSlotF_3 (s := s) hS (by omega)) ?_)))
  intro z1 M2 hP3
  obtain ⟨eM, f3, f3p0⟩ := hP3
  subst eM
  refine n_if0_ne c_96_8 (by omega) ?_ ?_
  · intro h4
    refine n_aload_n c_96_14 rfl (n_getR c_96_15 sc_3.n rfl rfl rfl r_3_1 (n_iload_n c_96_18 rfl (n_v1I c_96_19 rfl sc_8.n rfl rfl rfl rfl (hasRowF_3 (s := s) hS (by omega)) ?_)))
    intro z5 M6 hP7
    obtain ⟨eM, f7, f7p0⟩ := hP7
    subst eM
    refine n_if0_ne c_96_22 (by omega) ?_ ?_
    · intro h8
      refine n_aload_n c_96_28 rfl (n_getR c_96_29 sc_3.n rfl rfl rfl r_3_1 (n_iload_n c_96_32 rfl (n_iload_n c_96_33 rfl (n_lload_n c_96_34 rfl (n_v3I c_96_35 rfl sc_8.n rfl rfl rfl rfl (putX_3 (s := s) (i := i) (v := v) (gd := (M 112 0)) hS (by omega) (by omega) (by omega) rfl) ?_)))))
      intro z9 M10 hP11
      obtain ⟨hS10, f11, f11g0, f11p0⟩ := hP11
      refine n_if0_eq c_96_38 (by omega) ?_ ?_
      · intro h12
        refine n_bipush c_96_45 rfl ?_
        exact n_rI c_96_47 rfl ⟨hS10, by omega, by omega, by exact cWri_of (by omega) (by omega) (by omega) f11p0 (by omega)⟩
      · intro h13
        refine n_iconst c_96_41 (n_goto c_96_42 ?_)
        exact n_rI c_96_47 rfl ⟨hS10, by omega, by omega, by exact cWri_of (by omega) (by omega) (by omega) f11p0 (by omega)⟩
    · intro h14
      refine n_bipush c_96_25 rfl ?_
      exact n_rI c_96_27 rfl ⟨hS, by omega, by omega, by exact Or.inr (Or.inl ⟨by omega, by omega, by omega, rfl, fun _ _ _ => rfl⟩)⟩
  · intro h15
    refine n_bipush c_96_11 rfl ?_
    exact n_rI c_96_13 rfl ⟨hS, by omega, by omega, by exact Or.inl ⟨by omega, rfl, fun _ _ _ => rfl⟩⟩

set_option maxHeartbeats 4000000 in
theorem mwriteX_3 {xs : List Int32} {e : Nat} {ac : Int} {M : nM} {s i v gd : Int} (hS : Sf 3 ac M M) (hdm : M 112 0 = 3) (hs : -2147483648 ≤ s ∧ s ≤ 2147483647) (hi : -2147483648 ≤ i ∧ i ≤ 2147483647) (hv : -9223372036854775808 ≤ v ∧ v ≤ 9223372036854775807) (hgd : M 112 0 = gd) : nW xs (e + 1) 146 0 [some (2, 112), some (0, s), some (0, i), some (1, v), none, none] [] M (nPI fun z M1 => Sf 3 ac M1 M1 ∧ (-2147483648 ≤ z ∧ z ≤ 2147483647) ∧ (M1 112 0 = gd) ∧ (mWri s i v z M M1)) := by
  have hd : (3 : Int) = 2 ∨ (3 : Int) = 3 := by decide
  have hac := hS.2.2.2.2
  refine n_iload_n c_146_0 rfl (n_s1I c_146_1 rfl rfl rfl rfl (misSlotF_3 (s := s) hS (by omega)) ?_)
  intro z1 M2 hP3
  obtain ⟨eM, f3, f3p0⟩ := hP3
  subst eM
  refine n_if0_ne c_146_4 (by omega) ?_ ?_
  · intro h4
    refine n_aload_n c_146_10 rfl (n_getR c_146_11 sc_112.n rfl rfl rfl r_112_1 (n_iload_n c_146_14 rfl (n_ialoadV c_146_15 sc_113.n rfl rfl rfl (by omega) (t_113 hS (by omega)) ?_)))
    intro z5 ez5 f6
    refine n_if0_ne c_146_16 (by omega) ?_ ?_
    · intro h7
      refine n_iload_n c_146_22 rfl ?_
      refine n_if0_lt c_146_23 (by omega) ?_ ?_
      · intro h8
        refine n_bipush c_146_38 rfl ?_
        exact n_rI c_146_40 rfl ⟨hS, by omega, by omega, by exact Or.inr (Or.inr (Or.inl ⟨by omega, by omega, by omega, by omega, rfl, fun _ _ _ => rfl⟩))⟩
      · intro h9
        refine n_iload_n c_146_26 rfl (n_aload_n c_146_27 rfl (n_getR c_146_28 sc_112.n rfl rfl rfl r_112_1 (n_iload_n c_146_31 rfl (n_ialoadV c_146_32 sc_113.n rfl rfl rfl (by omega) (t_113 hS (by omega)) ?_))))
        intro z10 ez10 f11
        refine n_iconst c_146_33 (n_isub c_146_34 rfl ?_)
        refine n_if2_lt c_146_35 (by omega) (by omega) ?_ ?_
        · intro h12
          refine n_aload_n c_146_41 rfl (n_getR c_146_42 sc_112.n rfl rfl rfl r_112_2 (n_iload_n c_146_45 rfl (n_ialoadV c_146_46 sc_114.n rfl rfl rfl (by omega) (t_114 hS (by omega)) ?_)))
          intro z13 ez13 f14
          refine n_istore (L2 := [some (2, 112), some (0, s), some (0, i), some (1, v), none, some (0, z13)]) c_146_47 rfl rfl (n_aload_n c_146_49 rfl (n_getR c_146_50 sc_112.n rfl rfl rfl r_112_3 (n_bipush c_146_53 rfl (n_iload_n c_146_55 rfl (n_imul c_146_56 rfl (n_iload_n c_146_57 rfl (n_iadd c_146_58 rfl (n_iload c_146_59 rfl ?_))))))))
          refine n_if0_ne c_146_61 (by omega) ?_ ?_
          · intro h15
            refine n_iload c_146_71 rfl (n_iconst c_146_73 ?_)
            refine n_if2_ne c_146_74 (by omega) (by omega) ?_ ?_
            · intro h16
              refine n_iload c_146_84 rfl (n_iconst c_146_86 ?_)
              refine n_if2_ne c_146_87 (by omega) (by omega) ?_ ?_
              · intro h17
                refine n_lload_n c_146_96 rfl (n_lastoreM hS c_146_97 sc_115.n rfl (by omega) (m_115 (by omega) (by omega)) ?_)
                intro M18 eM18 hS18
                have g18_0 : M18 112 0 = M 112 0 := by rw [eM18]; exact nu_a (by omega)
                have g18_1 : M18 113 s = M 113 s := by rw [eM18]; exact nu_a (by omega)
                refine n_iconst c_146_98 ?_
                exact n_rI c_146_99 rfl ⟨hS18, by omega, by omega, by exact Or.inr (Or.inr (Or.inr ⟨by omega, by omega, by omega, by omega, by omega, rfl, by rw [eM18, nu_s]; unfold cutv; first | (rw [if_pos (by omega)]; subst_vars; rfl) | (rw [if_neg (by omega), if_pos (by omega)]; subst_vars; rfl) | (rw [if_neg (by omega), if_neg (by omega), if_pos (by omega)]; subst_vars; rfl) | (rw [if_neg (by omega), if_neg (by omega), if_neg (by omega)]), fun a b _ q => by rw [eM18, nu_e, if_neg q]⟩))⟩
              · intro h19
                refine n_lload_n c_146_90 rfl (n_l2i c_146_91 (n_wrap ?_))
                have f20 := n_wr_r v
                generalize gz21 : n_wr v = z21 at f20 ⊢
                refine n_i2l c_146_92 (by omega) ?_
                refine n_goto c_146_93 (n_lastoreM hS c_146_97 sc_115.n rfl (by omega) (m_115 (by omega) (by omega)) ?_)
                intro M22 eM22 hS22
                have g22_0 : M22 112 0 = M 112 0 := by rw [eM22]; exact nu_a (by omega)
                have g22_1 : M22 113 s = M 113 s := by rw [eM22]; exact nu_a (by omega)
                refine n_iconst c_146_98 ?_
                exact n_rI c_146_99 rfl ⟨hS22, by omega, by omega, by exact Or.inr (Or.inr (Or.inr ⟨by omega, by omega, by omega, by omega, by omega, rfl, by rw [eM22, nu_s]; unfold cutv; first | (rw [if_pos (by omega)]; subst_vars; rfl) | (rw [if_neg (by omega), if_pos (by omega)]; subst_vars; rfl) | (rw [if_neg (by omega), if_neg (by omega), if_pos (by omega)]; subst_vars; rfl) | (rw [if_neg (by omega), if_neg (by omega), if_neg (by omega)]), fun a b _ q => by rw [eM22, nu_e, if_neg q]⟩))⟩
            · intro h23
              refine n_lload_n c_146_77 rfl (n_l2i c_146_78 (n_wrap ?_))
              have f24 := n_wr_r v
              generalize gz25 : n_wr v = z25 at f24 ⊢
              refine n_i2s c_146_79 ?_
              have f26 := n_2s_r z25
              generalize gz27 : n_2s z25 = z27 at f26 ⊢
              refine n_i2l c_146_80 (by omega) ?_
              refine n_goto c_146_81 (n_lastoreM hS c_146_97 sc_115.n rfl (by omega) (m_115 (by omega) (by omega)) ?_)
              intro M28 eM28 hS28
              have g28_0 : M28 112 0 = M 112 0 := by rw [eM28]; exact nu_a (by omega)
              have g28_1 : M28 113 s = M 113 s := by rw [eM28]; exact nu_a (by omega)
              refine n_iconst c_146_98 ?_
              exact n_rI c_146_99 rfl ⟨hS28, by omega, by omega, by exact Or.inr (Or.inr (Or.inr ⟨by omega, by omega, by omega, by omega, by omega, rfl, by rw [eM28, nu_s]; unfold cutv; first | (rw [if_pos (by omega)]; subst_vars; rfl) | (rw [if_neg (by omega), if_pos (by omega)]; subst_vars; rfl) | (rw [if_neg (by omega), if_neg (by omega), if_pos (by omega)]; subst_vars; rfl) | (rw [if_neg (by omega), if_neg (by omega), if_neg (by omega)]), fun a b _ q => by rw [eM28, nu_e, if_neg q]⟩))⟩
          · intro h29
            refine n_lload_n c_146_64 rfl (n_l2i c_146_65 (n_wrap ?_))
            have f30 := n_wr_r v
            generalize gz31 : n_wr v = z31 at f30 ⊢
            refine n_i2b c_146_66 ?_
            have f32 := n_2b_r z31
            generalize gz33 : n_2b z31 = z33 at f32 ⊢
            refine n_i2l c_146_67 (by omega) ?_
            refine n_goto c_146_68 (n_lastoreM hS c_146_97 sc_115.n rfl (by omega) (m_115 (by omega) (by omega)) ?_)
            intro M34 eM34 hS34
            have g34_0 : M34 112 0 = M 112 0 := by rw [eM34]; exact nu_a (by omega)
            have g34_1 : M34 113 s = M 113 s := by rw [eM34]; exact nu_a (by omega)
            refine n_iconst c_146_98 ?_
            exact n_rI c_146_99 rfl ⟨hS34, by omega, by omega, by exact Or.inr (Or.inr (Or.inr ⟨by omega, by omega, by omega, by omega, by omega, rfl, by rw [eM34, nu_s]; unfold cutv; first | (rw [if_pos (by omega)]; subst_vars; rfl) | (rw [if_neg (by omega), if_pos (by omega)]; subst_vars; rfl) | (rw [if_neg (by omega), if_neg (by omega), if_pos (by omega)]; subst_vars; rfl) | (rw [if_neg (by omega), if_neg (by omega), if_neg (by omega)]), fun a b _ q => by rw [eM34, nu_e, if_neg q]⟩))⟩
        · intro h35
          refine n_bipush c_146_38 rfl ?_
          exact n_rI c_146_40 rfl ⟨hS, by omega, by omega, by exact Or.inr (Or.inr (Or.inl ⟨by omega, by omega, by omega, by omega, rfl, fun _ _ _ => rfl⟩))⟩
    · intro h36
      refine n_bipush c_146_19 rfl ?_
      exact n_rI c_146_21 rfl ⟨hS, by omega, by omega, by exact Or.inr (Or.inl ⟨by omega, by omega, by omega, rfl, fun _ _ _ => rfl⟩)⟩
  · intro h37
    refine n_bipush c_146_7 rfl ?_
    exact n_rI c_146_9 rfl ⟨hS, by omega, by omega, by exact Or.inl ⟨by omega, rfl, fun _ _ _ => rfl⟩⟩

set_option maxHeartbeats 4000000 in
theorem readX2_3 {xs : List Int32} {e : Nat} {ac : Int} {M0 M : nM} {s i : Int} (hS : Sf 3 ac M0 M) (hs : 0 ≤ s ∧ s ≤ 7) (hi : -2147483648 ≤ i ∧ i ≤ 2147483647) : nW xs e 89 0 [some (2, 8), some (0, s), some (0, i), some (0, 2), none, none] [] M (nPI fun z M1 => M = M1 ∧ (-6 ≤ z ∧ z ≤ 2) ∧ (((i < 0 ∨ M 11 s ≤ i) ∧ z = -6) ∨ (0 ≤ i ∧ i < M 11 s ∧ (M 9 (40 * s + i) < 0 ∨ 2 < M 9 (40 * s + i)) ∧ z = -4) ∨ (0 ≤ i ∧ i < M 11 s ∧ 0 ≤ M 9 (40 * s + i) ∧ M 9 (40 * s + i) ≤ 2 ∧ z = M 9 (40 * s + i)))) := by
  have hd : (3 : Int) = 2 ∨ (3 : Int) = 3 := by decide
  have hac := hS.2.2.2.2
  refine n_iload_n c_89_0 rfl ?_
  refine n_if0_lt c_89_1 (by omega) ?_ ?_
  · intro h1
    refine n_bipush c_89_14 rfl ?_
    exact n_rI c_89_16 rfl ⟨rfl, by omega, by rw [show (40 * s + i : Int) = s * 40 + i by omega]; omega⟩
  · intro h2
    refine n_iload_n c_89_4 rfl (n_aload_n c_89_5 rfl (n_getR c_89_6 sc_8.n rfl rfl rfl r_8_2 (n_iload_n c_89_9 rfl (n_ialoadV c_89_10 sc_11.n rfl rfl rfl (by omega) (t_11 hS (by omega)) ?_))))
    intro z3 ez3 f4
    refine n_if2_lt c_89_11 (by omega) (by omega) ?_ ?_
    · intro h5
      refine n_aload_n c_89_17 rfl (n_getR c_89_18 sc_8.n rfl rfl rfl r_8_0 (n_iload_n c_89_21 rfl (n_bipush c_89_22 rfl (n_imul c_89_24 rfl (n_iload_n c_89_25 rfl (n_iadd c_89_26 rfl (n_laloadV c_89_27 sc_9.n rfl rfl rfl (by omega) (t_9 hS (by omega)) ?_)))))))
      intro z6 ez6 f7
      refine n_lstore (L2 := [some (2, 8), some (0, s), some (0, i), some (0, 2), some (1, z6), none]) c_89_28 rfl rfl (n_lload c_89_30 rfl (n_lconst (n := 0) c_89_32 rfl (n_lcmp c_89_33 ?_)))
      refine n_lif_lt c_89_34 (by omega) (by omega) ?_ ?_
      · intro h8
        refine n_bipush c_89_45 rfl ?_
        exact n_rI c_89_47 rfl ⟨rfl, by omega, by rw [show (40 * s + i : Int) = s * 40 + i by omega]; omega⟩
      · intro h9
        refine n_lload c_89_37 rfl (n_iload_n c_89_39 rfl (n_i2l c_89_40 (by omega) ?_))
        refine n_lcmp c_89_41 ?_
        refine n_lif_le c_89_42 (by omega) (by omega) ?_ ?_
        · intro h10
          refine n_lload c_89_48 rfl (n_l2i c_89_50 ?_)
          exact n_rI c_89_51 rfl ⟨rfl, by omega, by rw [show (40 * s + i : Int) = s * 40 + i by omega]; omega⟩
        · intro h11
          refine n_bipush c_89_45 rfl ?_
          exact n_rI c_89_47 rfl ⟨rfl, by omega, by rw [show (40 * s + i : Int) = s * 40 + i by omega]; omega⟩
    · intro h12
      refine n_bipush c_89_14 rfl ?_
      exact n_rI c_89_16 rfl ⟨rfl, by omega, by rw [show (40 * s + i : Int) = s * 40 + i by omega]; omega⟩

set_option maxHeartbeats 4000000 in
theorem readX27_3 {xs : List Int32} {e : Nat} {ac : Int} {M0 M : nM} {s i : Int} (hS : Sf 3 ac M0 M) (hs : 0 ≤ s ∧ s ≤ 7) (hi : -2147483648 ≤ i ∧ i ≤ 2147483647) : nW xs e 89 0 [some (2, 8), some (0, s), some (0, i), some (0, 27), none, none] [] M (nPI fun z M1 => M = M1 ∧ (-6 ≤ z ∧ z ≤ 27) ∧ (((i < 0 ∨ M 11 s ≤ i) ∧ z = -6) ∨ (0 ≤ i ∧ i < M 11 s ∧ (M 9 (40 * s + i) < 0 ∨ 27 < M 9 (40 * s + i)) ∧ z = -4) ∨ (0 ≤ i ∧ i < M 11 s ∧ 0 ≤ M 9 (40 * s + i) ∧ M 9 (40 * s + i) ≤ 27 ∧ z = M 9 (40 * s + i)))) := by
  have hd : (3 : Int) = 2 ∨ (3 : Int) = 3 := by decide
  have hac := hS.2.2.2.2
  refine n_iload_n c_89_0 rfl ?_
  refine n_if0_lt c_89_1 (by omega) ?_ ?_
  · intro h1
    refine n_bipush c_89_14 rfl ?_
    exact n_rI c_89_16 rfl ⟨rfl, by omega, by rw [show (40 * s + i : Int) = s * 40 + i by omega]; omega⟩
  · intro h2
    refine n_iload_n c_89_4 rfl (n_aload_n c_89_5 rfl (n_getR c_89_6 sc_8.n rfl rfl rfl r_8_2 (n_iload_n c_89_9 rfl (n_ialoadV c_89_10 sc_11.n rfl rfl rfl (by omega) (t_11 hS (by omega)) ?_))))
    intro z3 ez3 f4
    refine n_if2_lt c_89_11 (by omega) (by omega) ?_ ?_
    · intro h5
      refine n_aload_n c_89_17 rfl (n_getR c_89_18 sc_8.n rfl rfl rfl r_8_0 (n_iload_n c_89_21 rfl (n_bipush c_89_22 rfl (n_imul c_89_24 rfl (n_iload_n c_89_25 rfl (n_iadd c_89_26 rfl (n_laloadV c_89_27 sc_9.n rfl rfl rfl (by omega) (t_9 hS (by omega)) ?_)))))))
      intro z6 ez6 f7
      refine n_lstore (L2 := [some (2, 8), some (0, s), some (0, i), some (0, 27), some (1, z6), none]) c_89_28 rfl rfl (n_lload c_89_30 rfl (n_lconst (n := 0) c_89_32 rfl (n_lcmp c_89_33 ?_)))
      refine n_lif_lt c_89_34 (by omega) (by omega) ?_ ?_
      · intro h8
        refine n_bipush c_89_45 rfl ?_
        exact n_rI c_89_47 rfl ⟨rfl, by omega, by rw [show (40 * s + i : Int) = s * 40 + i by omega]; omega⟩
      · intro h9
        refine n_lload c_89_37 rfl (n_iload_n c_89_39 rfl (n_i2l c_89_40 (by omega) ?_))
        refine n_lcmp c_89_41 ?_
        refine n_lif_le c_89_42 (by omega) (by omega) ?_ ?_
        · intro h10
          refine n_lload c_89_48 rfl (n_l2i c_89_50 ?_)
          exact n_rI c_89_51 rfl ⟨rfl, by omega, by rw [show (40 * s + i : Int) = s * 40 + i by omega]; omega⟩
        · intro h11
          refine n_bipush c_89_45 rfl ?_
          exact n_rI c_89_47 rfl ⟨rfl, by omega, by rw [show (40 * s + i : Int) = s * 40 + i by omega]; omega⟩
    · intro h12
      refine n_bipush c_89_14 rfl ?_
      exact n_rI c_89_16 rfl ⟨rfl, by omega, by rw [show (40 * s + i : Int) = s * 40 + i by omega]; omega⟩

set_option maxHeartbeats 4000000 in
theorem actsOfThreeX_3_c {xs : List Int32} {e : Nat} {ac : Int} {M0 M : nM} (hS : Sf 3 ac M0 M)  : ∀ nn : Nat, (∀ (x1 x2 : Int), (0 ≤ x1 ∧ x1 ≤ 8) → (0 ≤ x2 ∧ x2 ≤ 8) → (x1 = c3 (fun a => M (55 + 3 * a) 0) x2.toNat) → (x1 ≤ x2) → (x2 ≤ ac) → (8 - x2) * 1 + 1 < (nn : Int) → nW xs e 127 4 [some (2, 3), some (0, x1), some (0, x2)] [] M (nPI fun z M1 => M = M1 ∧ (0 ≤ z ∧ z ≤ 8) ∧ (z = c3 (fun a => M (55 + 3 * a) 0) (M 3 14).toNat))) := by
  have hd : (3 : Int) = 2 ∨ (3 : Int) = 3 := by decide
  have hac := hS.2.2.2.2
  intro nn
  induction nn with
  | zero => intros; omega
  | succ nn ih =>
    intro x1 x2 k1 k2 v0 v1 v2 hnn
    refine n_iload_n c_127_4 rfl (n_aload_n c_127_5 rfl (n_getV (bi := 14) c_127_6 sc_3.n rfl rfl rfl (t_3_14x hS) ?_))
    intro z1 ez1 f2
    have f2a := t_ac hS
    refine n_if2_ge c_127_9 (by omega) (by omega) ?_ ?_
    · intro h3
      refine n_iload_n c_127_34 rfl ?_
      exact n_rI c_127_35 rfl ⟨rfl, by omega, by have q : x2 = M 3 14 := (by have := t_ac hS; omega); rw [← q]; exact v0⟩
    · intro h4
      refine n_aload_n c_127_12 rfl (n_getR c_127_13 sc_3.n rfl rfl rfl r_3_2 (n_iload_n c_127_16 rfl (n_aaload c_127_17 sc_12.n rfl rfl rfl (by omega) (r_acts _) ?_)))
      have q5 : ActAt (55 + 3 * x2) := by unfold ActAt; omega
      have q5l : (55 + 3 * x2) < 55 + 3 * ac := by omega
      refine n_getV (bi := 0) c_127_18 q5.c0.1.n rfl rfl rfl (t_actl hS q5 q5l).1 ?_
      intro z6 ez6 f7
      refine n_iconst c_127_21 ?_
      refine n_if2_ne c_127_22 (by omega) (by omega) ?_ ?_
      · intro h8
        refine n_iinc (L2 := [some (2, 3), some (0, x1), some (0, (x2 + 1))]) c_127_28 rfl rfl rfl (n_goto c_127_31 (n_fg (le_s (le_s (le_s le_0))) ?_))
        exact ih _ _ (by omega) (by omega) (by rw [c3_step (by omega)]; show _ = _ + (if M (55 + 3 * x2) 0 = 3 then 1 else 0); split <;> omega) (by omega) (by omega) (by omega)
      · intro h9
        refine n_iinc (L2 := [some (2, 3), some (0, (x1 + 1)), some (0, x2)]) c_127_25 rfl rfl rfl (n_iinc (L2 := [some (2, 3), some (0, (x1 + 1)), some (0, (x2 + 1))]) c_127_28 rfl rfl rfl (n_goto c_127_31 (n_fg (le_s (le_s (le_s le_0))) ?_)))
        exact ih _ _ (by omega) (by omega) (by rw [c3_step (by omega)]; show _ = _ + (if M (55 + 3 * x2) 0 = 3 then 1 else 0); split <;> omega) (by omega) (by omega) (by omega)
set_option maxHeartbeats 4000000 in
theorem actsOfThreeX_3 {xs : List Int32} {e : Nat} {ac : Int} {M0 M : nM} (hS : Sf 3 ac M0 M)  : nW xs e 127 0 [some (2, 3), none, none] [] M (nPI fun z M1 => M = M1 ∧ (0 ≤ z ∧ z ≤ 8) ∧ (z = c3 (fun a => M (55 + 3 * a) 0) (M 3 14).toNat)) := by
  have hd : (3 : Int) = 2 ∨ (3 : Int) = 3 := by decide
  have hac := hS.2.2.2.2
  refine n_iconst c_127_0 (n_istore_n (L2 := [some (2, 3), some (0, 0), none]) c_127_1 rfl rfl (n_iconst c_127_2 (n_istore_n (L2 := [some (2, 3), some (0, 0), some (0, 0)]) c_127_3 rfl rfl (n_fg (le_s (le_s (le_s le_0))) ?_))))
  exact (actsOfThreeX_3_c hS  30) _ _ (by omega) (by omega) (by rfl) (by omega) (by omega) (by omega)

set_option maxHeartbeats 4000000 in
theorem takeX1_3_c {xs : List Int32} {e : Nat} {ac : Int} {M : nM} {p gd : Int} {Ms : nM} (hS : Sf 3 ac M M) (hp : ActAt p) (hpl : p = 55 + 3 * ac) (hgd : M 112 0 = gd) (hms : M = Ms) : ∀ nn : Nat, (∀ (x4 x5 : Int) (M : nM), Sf 3 ac M M → (0 ≤ x4 ∧ x4 ≤ 2) → (0 ≤ x5 ∧ x5 ≤ 27) → (M 112 0 = gd) → (M p 0 = 1) → (M p 1 = 3) → (x4 = x5 % 3) → (TL 3 p x5 Ms M) → (FP p Ms M) → (27 - x5) * 1 + 30 < (nn : Int) → nW xs (e + 1) 2 20 [some (2, p), none, some (2, 54), some (2, 4), some (0, x4), some (0, x5), none] [] M (nPV fun M1 => Sf 3 ac M1 M1 ∧ (M1 112 0 = gd) ∧ (NAct 3 1 3 p (fun i => Ms 54 i) M1) ∧ (FP p Ms M1))) ∧ (∀ (x5 : Int) (M : nM), Sf 3 ac M M → (0 ≤ x5 ∧ x5 ≤ 27) → (M 112 0 = gd) → (M p 0 = 1) → (M p 1 = 3) → (TL 3 p 27 Ms M) → (TU 3 p x5 M) → (FP p Ms M) → (27 - x5) * 1 + 1 < (nn : Int) → nW xs (e + 1) 2 70 [some (2, p), none, none, some (2, 4), none, some (0, x5), none] [] M (nPV fun M1 => Sf 3 ac M1 M1 ∧ (M1 112 0 = gd) ∧ (NAct 3 1 3 p (fun i => Ms 54 i) M1) ∧ (FP p Ms M1))) := by
  have hd : (3 : Int) = 2 ∨ (3 : Int) = 3 := by decide
  have hac := hS.2.2.2.2
  have hpb := hp.1
  intro nn
  induction nn with
  | zero => refine ⟨?_, ?_⟩ <;> (intros; omega)
  | succ nn ih =>
    refine ⟨?_, ?_⟩
    · intro x4 x5 M hS k4 k5 hggd v0 v1 v2 v3 v4 hnn
      refine n_iload c_2_20 rfl (n_aload_n c_2_22 rfl (n_getV (bi := 1) c_2_23 sc_4.n rfl rfl rfl (t_4_1 hS) ?_))
      intro z1 ez1 f2
      obtain rfl : z1 = 27 := by omega
      refine n_if2_ge c_2_26 (by omega) (by omega) ?_ ?_
      · intro h3
        refine n_iconst c_2_67 (n_istore (L2 := [some (2, p), none, some (2, 54), some (2, 4), some (0, x4), some (0, 0), none]) c_2_68 rfl rfl (n_fg (le_s (le_n (le_n (le_s (le_n (le_s (le_n le_0))))))) ?_))
        exact ih.2 _ M hS (by omega) (by omega) (by exact v0) (by exact v1) (by have q : x5 = 27 := (by omega); rw [q] at v3; exact v3) (by exact fun i h0 h1 => by omega) (by exact v4) (by omega)
      · intro h4
        refine n_aload_n c_2_29 rfl (n_getR c_2_30 hp.c0.1.n rfl rfl rfl hp.r.1 (n_iload c_2_33 rfl (n_aload_n c_2_35 rfl (n_iload c_2_36 rfl (n_ialoadV c_2_38 sc_54.n rfl rfl rfl (by omega) (t_54 hS (by omega)) ?_)))))
        intro z5 ez5 f6
        refine n_iastoreM hS c_2_39 hp.c0.2.1.n rfl (by omega) (m_actnr hp hpl (Or.inl rfl) (by omega) (by omega)) ?_
        intro M7 eM7 hS7
        have g7_0 : M7 112 0 = M 112 0 := by rw [eM7]; exact nu_a (by omega)
        have g7_1 : M7 p 1 = M p 1 := by rw [eM7]; exact nu_a (by omega)
        refine n_iload c_2_40 rfl (n_iconst c_2_42 (n_iadd c_2_43 rfl (n_aload_n c_2_44 rfl (n_getV (bi := 1) c_2_45 hp.c0.1.n rfl rfl rfl (show 3 ≤ M7 p 1 ∧ M7 p 1 ≤ 3 by omega) ?_))))
        intro z8 ez8 f9
        obtain rfl : z8 = 3 := by omega
        refine n_if2_ge c_2_48 (by omega) (by omega) ?_ ?_
        · intro h10
          refine n_iconst c_2_58 (n_istore (L2 := [some (2, p), none, some (2, 54), some (2, 4), some (0, 0), some (0, x5), none]) c_2_59 rfl rfl (n_iinc (L2 := [some (2, p), none, some (2, 54), some (2, 4), some (0, 0), some (0, (x5 + 1)), none]) c_2_61 rfl rfl rfl (n_goto c_2_64 (n_fg (le_s (le_n (le_s (le_s (le_s (le_s (le_n le_0))))))) ?_))))
          exact ih.1 _ _ M7 hS7 (by omega) (by omega) (by omega) (by rw [eM7, nu_a (by omega)]; exact v0) (by rw [eM7, nu_a (by omega)]; exact v1) (by omega) (by exact TL.step v3 hpb eM7 ez5 (by omega)) (by exact FP.u v4 eM7 (by omega)) (by omega)
        · intro h11
          refine n_iload c_2_51 rfl (n_iconst c_2_53 (n_iadd c_2_54 rfl (n_goto c_2_55 (n_istore (L2 := [some (2, p), none, some (2, 54), some (2, 4), some (0, (x4 + 1)), some (0, x5), none]) c_2_59 rfl rfl (n_iinc (L2 := [some (2, p), none, some (2, 54), some (2, 4), some (0, (x4 + 1)), some (0, (x5 + 1)), none]) c_2_61 rfl rfl rfl (n_goto c_2_64 (n_fg (le_s (le_n (le_s (le_s (le_s (le_s (le_n le_0))))))) ?_)))))))
          exact ih.1 _ _ M7 hS7 (by omega) (by omega) (by omega) (by rw [eM7, nu_a (by omega)]; exact v0) (by rw [eM7, nu_a (by omega)]; exact v1) (by omega) (by exact TL.step v3 hpb eM7 ez5 (by omega)) (by exact FP.u v4 eM7 (by omega)) (by omega)
    · intro x5 M hS k5 hggd v0 v1 v2 v3 v4 hnn
      refine n_iload c_2_70 rfl (n_aload_n c_2_72 rfl (n_getV (bi := 1) c_2_73 sc_4.n rfl rfl rfl (t_4_1 hS) ?_))
      intro z1 ez1 f2
      obtain rfl : z1 = 27 := by omega
      refine n_if2_ge c_2_76 (by omega) (by omega) ?_ ?_
      · intro h3
        exact n_rV c_2_134 rfl ⟨hS, by omega, by exact ⟨v0, v1, fun i h0 h1 => ⟨v2.2 i h0 (by omega), v3 i h0 (by omega)⟩⟩, by exact v4⟩
      · intro h4
        refine n_aload_n c_2_79 rfl (n_getR c_2_80 sc_4.n rfl rfl rfl r_4_2 (n_iload c_2_83 rfl (n_ialoadV c_2_85 sc_5.n rfl rfl rfl (by omega) (t_5d hS hd (by omega) (by omega)) ?_)))
        intro z5 ez5 f6
        refine n_aload_n c_2_86 rfl (n_getV (bi := 0) c_2_87 sc_4.n rfl rfl rfl (t_4_0 hS) ?_)
        intro z7 ez7 f8
        obtain rfl : z7 = 3 := by omega
        refine n_imul c_2_90 rfl (n_aload_n c_2_91 rfl (n_getR c_2_92 sc_4.n rfl rfl rfl r_4_4 (n_iload c_2_95 rfl (n_ialoadV c_2_97 sc_7.n rfl rfl rfl (by omega) (t_7d hS hd (by omega) (by omega)) ?_))))
        intro z9 ez9 f10
        refine n_iadd c_2_98 rfl (n_aload_n c_2_99 rfl (n_getV (bi := 0) c_2_100 sc_4.n rfl rfl rfl (t_4_0 hS) ?_))
        intro z11 ez11 f12
        obtain rfl : z11 = 3 := by omega
        refine n_imul c_2_103 rfl (n_aload_n c_2_104 rfl (n_getR c_2_105 sc_4.n rfl rfl rfl r_4_3 (n_iload c_2_108 rfl (n_ialoadV c_2_110 sc_6.n rfl rfl rfl (by omega) (t_6d hS hd (by omega) (by omega)) ?_))))
        intro z13 ez13 f14
        refine n_iadd c_2_111 rfl (n_istore (L2 := [some (2, p), none, none, some (2, 4), none, some (0, x5), some (0, ((((z5 * 3) + z9) * 3) + z13))]) c_2_112 rfl rfl (n_aload_n c_2_114 rfl (n_getR c_2_115 hp.c0.1.n rfl rfl rfl hp.r.2 (n_iload c_2_118 rfl (n_aload_n c_2_120 rfl (n_getR c_2_121 hp.c0.1.n rfl rfl rfl hp.r.1 (n_iload c_2_124 rfl (n_ialoadV c_2_126 hp.c0.2.1.n rfl rfl rfl (by omega) (t_actr hS hd hp (Or.inl rfl) (by omega)) ?_))))))))
        intro z15 ez15 f16
        have qb5 := t_5e hS (i := x5) (by omega) (by omega)
        have qb6 := t_6e hS (i := x5) (by omega) (by omega)
        have qb7 := t_7e hS (i := x5) (by omega) (by omega)
        refine n_iastoreM hS c_2_127 hp.c0.2.2.n rfl (by omega) (m_actnr hp hpl (Or.inr rfl) (by omega) (by omega)) ?_
        intro M17 eM17 hS17
        have g17_0 : M17 112 0 = M 112 0 := by rw [eM17]; exact nu_a (by omega)
        have g17_1 : M17 p 1 = M p 1 := by rw [eM17]; exact nu_a (by omega)
        refine n_iinc (L2 := [some (2, p), none, none, some (2, 4), none, some (0, (x5 + 1)), some (0, ((((z5 * 3) + z9) * 3) + z13))]) c_2_128 rfl rfl rfl (n_goto c_2_131 (n_fg (le_s (le_n (le_n (le_s (le_n (le_s (le_n le_0))))))) ?_))
        exact ih.2 _ M17 hS17 (by omega) (by omega) (by rw [eM17, nu_a (by omega)]; exact v0) (by rw [eM17, nu_a (by omega)]; exact v1) (by exact TL.uu v2 hpb eM17) (by exact TU.step v3 eM17 ez15 (by unfold tr; omega)) (by exact FP.u v4 eM17 (by omega)) (by omega)
set_option maxHeartbeats 4000000 in
theorem takeX1_3 {xs : List Int32} {e : Nat} {ac : Int} {M : nM} {p gd : Int} {Ms : nM} (hS : Sf 3 ac M M) (hp : ActAt p) (hpl : p = 55 + 3 * ac) (hgd : M 112 0 = gd) (hms : M = Ms) : nW xs (e + 1) 2 0 [some (2, p), some (0, 1), some (2, 54), some (2, 4), none, none, none] [] M (nPV fun M1 => Sf 3 ac M1 M1 ∧ (M1 112 0 = gd) ∧ (NAct 3 1 3 p (fun i => Ms 54 i) M1) ∧ (FP p Ms M1)) := by
  have hd : (3 : Int) = 2 ∨ (3 : Int) = 3 := by decide
  have hac := hS.2.2.2.2
  have hpb := hp.1
  refine n_aload_n c_2_0 rfl (n_iload_n c_2_1 rfl (n_putM (bi := 0) hS c_2_2 hp.c0.1.n rfl rfl rfl rfl (m_actn hp hpl (by omega) (by omega)) ?_))
  intro M1 eM1 hS1
  have g1_0 : M1 112 0 = M 112 0 := by rw [eM1]; exact nu_a (by omega)
  have g1_1 : M1 p 0 = 1 := by rw [eM1]; exact nu_s _ _ _ _
  refine n_aload_n c_2_5 rfl (n_aload_n c_2_6 rfl (n_iload_n c_2_7 rfl (n_v1I c_2_8 rfl sc_4.n rfl rfl rfl rfl (power1_3  hS1 ) ?_)))
  intro z2 M3 hP4
  obtain ⟨eM, f4⟩ := hP4
  subst eM
  obtain rfl : z2 = 3 := by omega
  refine n_putM (bi := 1) hS1 c_2_11 hp.c0.1.n rfl rfl rfl rfl (m_actn hp hpl (by omega) (by omega)) ?_
  intro M5 eM5 hS5
  have g5_0 : M5 112 0 = M1 112 0 := by rw [eM5]; exact nu_a (by omega)
  have g5_1 : M5 p 0 = M1 p 0 := by rw [eM5]; exact nu_i (by omega)
  have g5_2 : M5 p 1 = 3 := by rw [eM5]; exact nu_s _ _ _ _
  refine n_iconst c_2_14 (n_istore (L2 := [some (2, p), some (0, 1), some (2, 54), some (2, 4), some (0, 0), none, none]) c_2_15 rfl rfl (n_iconst c_2_17 (n_istore (L2 := [some (2, p), some (0, 1), some (2, 54), some (2, 4), some (0, 0), some (0, 0), none]) c_2_18 rfl rfl (n_fg (le_s (le_n (le_s (le_s (le_s (le_s (le_n le_0))))))) ?_))))
  exact (takeX1_3_c hS hp hpl hgd hms 126).1 _ _ M5 hS5 (by omega) (by omega) (by omega) (by omega) (by omega) (by omega) (by subst hms; exact ⟨fun i => by rw [eM5, nu_a (by omega), eM1, nu_a (by omega)], fun i h0 h1 => by omega⟩) (by subst hms; exact FP.u (FP.u (fun _ _ _ _ => rfl) eM1 (by omega)) eM5 (by omega)) (by omega)

set_option maxHeartbeats 4000000 in
theorem actX1_3_c {xs : List Int32} {e : Nat} {ac : Int} {M : nM} {s gd : Int} {Ms : nM} (hS : Sf 3 ac M M) (hs : -2147483648 ≤ s ∧ s ≤ 2147483647) (hgd : M 112 0 = gd) (hms : M = Ms) : ∀ nn : Nat, (∀ (x3 x4 : Int) (M : nM), Sf 3 ac M M → (0 ≤ s ∧ s ≤ 7) → (3 ≤ x3 ∧ x3 ≤ 3) → (0 ≤ x4 ∧ x4 ≤ 3) → (M 112 0 = gd) → (TP 3 (Ms 11 s) (fun i => Ms 9 (40 * s + i)) x4 M) → (Eqc Ms M) → (¬ tooMany 1 (Ms 3 14) (fun a => Ms (55 + 3 * a) 0)) → (0 ≤ Ms 11 s) → (Ms 3 14 ≤ 7) → (M 3 14 = Ms 3 14) → (3 - x4) * 1 + 1 < (nn : Int) → nW xs (e + 2) 97 73 [some (2, 3), some (0, 1), some (0, s), some (0, x3), some (0, x4), none] [] M (nPI fun z M1 => (∃ ac2, Sf 3 ac2 M1 M1) ∧ (-2147483648 ≤ z ∧ z ≤ 2147483647) ∧ (M1 112 0 = gd) ∧ (cAct 3 1 3 s z Ms M1))) := by
  have hd : (3 : Int) = 2 ∨ (3 : Int) = 3 := by decide
  have hac := hS.2.2.2.2
  intro nn
  induction nn with
  | zero => intros; omega
  | succ nn ih =>
    intro x3 x4 M hS k2 k3 k4 hggd v0 v1 v2 v3 v4 v5 hnn
    refine n_iload c_97_73 rfl (n_iload_n c_97_75 rfl ?_)
    refine n_if2_ge c_97_76 (by omega) (by omega) ?_ ?_
    · intro h1
      refine n_aload_n c_97_130 rfl (n_getR c_97_131 sc_3.n rfl rfl rfl r_3_2 (n_aload_n c_97_134 rfl (n_getV (bi := 14) c_97_135 sc_3.n rfl rfl rfl (t_3_14x hS) ?_)))
      intro z2 ez2 f3
      have f3a := t_ac hS
      refine n_aaload c_97_138 sc_12.n rfl rfl rfl (by omega) (r_acts _) ?_
      have q4 : ActAt (55 + 3 * z2) := by unfold ActAt; omega
      have q4l : (55 + 3 * z2) = 55 + 3 * ac := by omega
      refine n_iload_n c_97_139 rfl (n_aload_n c_97_140 rfl (n_getR c_97_141 sc_3.n rfl rfl rfl r_3_13 (n_aload_n c_97_144 rfl (n_getR c_97_145 sc_3.n rfl rfl rfl r_3_0 (n_v3V c_97_148 rfl q4.c0.1.n rfl rfl rfl rfl (takeX1_3 (p := (55 + 3 * z2)) (gd := (M 112 0)) (Ms := M) hS q4 q4l rfl (by rfl)) ?_)))))
      intro  M5 hP6
      obtain ⟨hS5, f6g0, f6p0, f6p1⟩ := hP6
      refine n_aload_n c_97_151 rfl (n_v0V c_97_152 rfl sc_3.n rfl rfl rfl rfl (forgetMade_3  hS5 ) ?_)
      intro  M7 hP8
      have hS7 := hP8
      have hS7c := hS7.2.2.2.1.1
      have hS7 := hS7.refl
      have hS7k0 := hS7c 112 0 (by unfold core; omega)
      refine n_aload_n c_97_155 rfl (n_dup2 c_97_156 (n_getV (bi := 14) c_97_157 sc_3.n rfl rfl rfl (t_3_14x hS7) ?_))
      intro z9 ez9 f10
      have f10a := t_ac hS7
      refine n_dup_x102 c_97_160 (n_iconst c_97_161 (n_iadd c_97_162 rfl (n_jka (p := (55 + 3 * z2)) (v := 3) q4 ?_)))
      intro My fy jy
      have hSy := Sf.jka hS7 q4 (by omega) fy jy (by omega)
      have hNz : NAct 3 1 3 (55 + 3 * z2) (fun i => Ms 9 (40 * s + i)) My := NAct.of (by decide) (by omega) f6p0 (fun a i w1 w2 w3 => by rw [fy a i w3, hS7c a i (by unfold core; omega)]) (fun i h0 h1 => ((v0 i h0 (by omega)).1).symm)
      have hFz : ∀ a i : Int, core a i → ¬ (55 + 3 * Ms 3 14 ≤ a ∧ a ≤ 55 + 3 * Ms 3 14 + 2) → My a i = Ms a i := fun a i hc w => by rw [fy a i (by omega), hS7c a i hc, f6p1 a i hc (by omega), v1 a i hc]
      have hNA : NA 3 1 3 (55 + 3 * z2) My := NA_of (by decide) (by omega) hNz jy (fun i h0 h1 => (v0 i h0 (by omega)).2)
      have hey : My 112 0 = M7 112 0 := fy 112 0 (by omega)
      have hUp := Sf.actUp hSy (by omega) (by omega) (by omega) (by omega) (by omega) hNA
      have hUe : ((z9 + 1) : Int) = ac + 1 := by omega
      refine n_putG (P := fun M2 => Sf 3 (ac + 1) M2 M2) (bi := 14) c_97_163 sc_3.n rfl rfl rfl rfl (by rw [hUe]; exact hUp) ?_
      intro M11 eM11 hS11
      have hgz : M11 112 0 = My 112 0 := by rw [eM11]; exact nu_a (by omega)
      have hbz : (55 + 3 * z2) = 55 + 3 * Ms 3 14 := by omega
      rw [hbz] at hNz
      exact n_rI c_97_166 rfl ⟨⟨_, hS11⟩, by omega, by omega, by exact Or.inr (Or.inr (Or.inr (Or.inr ⟨by omega, by omega, by omega, by omega, v2, by omega, fun i h0 h1 => (v0 i h0 (by omega)).2, by omega, by rw [eM11, nu_s]; omega, NAct.of (by decide) (by omega) hNz (fun a i w1 w2 _ => by rw [eM11, nu_a (by omega)]) (fun _ _ _ => rfl), fun a i hc w1 w2 => by rw [eM11, nu_e, if_neg w1]; exact hFz a i hc w2⟩)))⟩
    · intro h12
      refine n_iload c_97_79 rfl (n_bipush c_97_81 rfl ?_)
      refine n_if2_ge c_97_83 (by omega) (by omega) ?_ ?_
      · intro h13
        exfalso; omega
      · intro h14
        refine n_aload_n c_97_86 rfl (n_getR c_97_87 sc_3.n rfl rfl rfl r_3_1 (n_iload_n c_97_90 rfl (n_iload c_97_91 rfl (n_aload_n c_97_93 rfl (n_getR c_97_94 sc_3.n rfl rfl rfl r_3_0 (n_getV (bi := 0) c_97_97 sc_4.n rfl rfl rfl (t_4_0 hS) ?_))))))
        intro z15 ez15 f16
        obtain rfl : z15 = 3 := by omega
        refine n_iconst c_97_100 (n_isub c_97_101 rfl ?_)
        have hcst : ((3 - 1) : Int) = 2 := by omega
        rw [hcst]
        refine n_v3I c_97_102 rfl sc_8.n rfl rfl rfl rfl (readX2_3 (s := s) (i := x4) hS (by omega) (by omega)) ?_
        intro z17 M18 hP19
        obtain ⟨eM, f19, f19p0⟩ := hP19
        subst eM
        have q11 := v1 11 s (by unfold core; omega)
        have q9 := v1 9 (40 * s + x4) (by unfold core; omega)
        refine n_istore (L2 := [some (2, 3), some (0, 1), some (0, s), some (0, x3), some (0, x4), some (0, z17)]) c_97_105 rfl rfl (n_iload c_97_107 rfl ?_)
        refine n_if0_ge c_97_109 (by omega) ?_ ?_
        · intro h20
          refine n_aload_n c_97_115 rfl (n_getR c_97_116 sc_3.n rfl rfl rfl r_3_13 (n_iload c_97_119 rfl (n_iload c_97_121 rfl (n_iastoreM hS c_97_123 sc_54.n rfl (by omega) (m_54 (by omega) (by omega)) ?_))))
          intro M21 eM21 hS21
          have g21_0 : M21 112 0 = M 112 0 := by rw [eM21]; exact nu_a (by omega)
          have g21_1 : M21 3 14 = M 3 14 := by rw [eM21]; exact nu_a (by omega)
          refine n_iinc (L2 := [some (2, 3), some (0, 1), some (0, s), some (0, x3), some (0, (x4 + 1)), some (0, z17)]) c_97_124 rfl rfl rfl (n_goto c_97_127 (n_fg (le_s (le_s (le_s (le_s (le_s (le_n le_0)))))) ?_))
          exact ih _ _ M21 hS21 (by omega) (by omega) (by omega) (by omega) (by exact TP.step v0 eM21 (by show _ = Ms 9 (40 * s + x4); omega) ⟨by omega, by show 0 ≤ Ms 9 (40 * s + x4); omega, by show Ms 9 (40 * s + x4) ≤ 3 - 1; omega⟩) (by exact Eqc.u54 v1 eM21) (by exact v2) (by exact v3) (by exact v4) (by rw [eM21, nu_a (by omega)]; exact v5) (by omega)
        · intro h22
          refine n_iload c_97_112 rfl ?_
          exact n_rI c_97_114 rfl ⟨⟨_, hS⟩, by omega, by omega, by exact Or.inr (Or.inr (Or.inr (Or.inl ⟨by omega, by omega, by omega, by omega, v2, by omega, ⟨x4, by omega, by omega, fun i h0 h1 => (v0 i h0 h1).2, by show (Ms 11 s ≤ x4 ∧ _ = -6) ∨ (x4 < Ms 11 s ∧ (Ms 9 (40 * s + x4) < 0 ∨ 3 - 1 < Ms 9 (40 * s + x4)) ∧ _ = -4); omega⟩, v1⟩)))⟩
set_option maxHeartbeats 4000000 in
theorem actX1_3 {xs : List Int32} {e : Nat} {ac : Int} {M : nM} {s gd : Int} {Ms : nM} (hS : Sf 3 ac M M) (hs : -2147483648 ≤ s ∧ s ≤ 2147483647) (hgd : M 112 0 = gd) (hms : M = Ms) : nW xs (e + 2) 97 0 [some (2, 3), some (0, 1), some (0, s), none, none, none] [] M (nPI fun z M1 => (∃ ac2, Sf 3 ac2 M1 M1) ∧ (-2147483648 ≤ z ∧ z ≤ 2147483647) ∧ (M1 112 0 = gd) ∧ (cAct 3 1 3 s z Ms M1)) := by
  have hd : (3 : Int) = 2 ∨ (3 : Int) = 3 := by decide
  have hac := hS.2.2.2.2
  refine n_aload_n c_97_0 rfl (n_getR c_97_1 sc_3.n rfl rfl rfl r_3_1 (n_iload_n c_97_4 rfl (n_v1I c_97_5 rfl sc_8.n rfl rfl rfl rfl (isSlotF_3 (s := s) hS (by omega)) ?_)))
  intro z1 M2 hP3
  obtain ⟨eM, f3, f3p0⟩ := hP3
  subst eM
  refine n_if0_eq c_97_8 (by omega) ?_ ?_
  · intro h4
    refine n_bipush c_97_19 rfl ?_
    exact n_rI c_97_21 rfl ⟨⟨_, hS⟩, by omega, by omega, by subst hms; exact Or.inl ⟨by omega, rfl, fun _ _ _ => rfl⟩⟩
  · intro h5
    refine n_aload_n c_97_11 rfl (n_iload_n c_97_12 rfl (n_v1I c_97_13 rfl sc_3.n rfl rfl rfl rfl (isPlaceCountF_3 (k := 1) hS (by omega)) ?_))
    intro z6 M7 hP8
    obtain ⟨eM, f8, f8p0⟩ := hP8
    subst eM
    refine n_if0_ne c_97_16 (by omega) ?_ ?_
    · intro h9
      refine n_aload_n c_97_22 rfl (n_getV (bi := 14) c_97_23 sc_3.n rfl rfl rfl (t_3_14x hS) ?_)
      intro z10 ez10 f11
      have f11a := t_ac hS
      refine n_bipush c_97_26 rfl ?_
      refine n_if2_ge c_97_28 (by omega) (by omega) ?_ ?_
      · intro h12
        refine n_bipush c_97_44 rfl ?_
        exact n_rI c_97_46 rfl ⟨⟨_, hS⟩, by omega, by omega, by subst hms; exact Or.inr (Or.inl ⟨by omega, by omega, by omega, by omega, by first | exact Or.inl (by omega) | exact Or.inr ⟨rfl, by omega⟩, rfl, fun _ _ _ => rfl⟩)⟩
      · intro h13
        refine n_iload_n c_97_31 rfl (n_iconst c_97_32 ?_)
        refine n_if2_ne c_97_33 (by omega) (by omega) ?_ ?_
        · intro h14
          refine n_aload_n c_97_47 rfl (n_getR c_97_48 sc_3.n rfl rfl rfl r_3_1 (n_iload_n c_97_51 rfl (n_v1I c_97_52 rfl sc_8.n rfl rfl rfl rfl (hasRowF_3 (s := s) hS (by omega)) ?_)))
          intro z15 M16 hP17
          obtain ⟨eM, f17, f17p0⟩ := hP17
          subst eM
          refine n_if0_ne c_97_55 (by omega) ?_ ?_
          · intro h18
            refine n_aload_n c_97_61 rfl (n_getR c_97_62 sc_3.n rfl rfl rfl r_3_0 (n_iload_n c_97_65 rfl (n_v1I c_97_66 rfl sc_4.n rfl rfl rfl rfl (power1_3  hS ) ?_)))
            intro z19 M20 hP21
            obtain ⟨eM, f21⟩ := hP21
            subst eM
            obtain rfl : z19 = 3 := by omega
            refine n_istore_n (L2 := [some (2, 3), some (0, 1), some (0, s), some (0, 3), none, none]) c_97_69 rfl rfl (n_iconst c_97_70 (n_istore (L2 := [some (2, 3), some (0, 1), some (0, s), some (0, 3), some (0, 0), none]) c_97_71 rfl rfl (n_fg (le_s (le_s (le_s (le_s (le_s (le_n le_0)))))) ?_)))
            exact (actX1_3_c hS hs hgd hms 20) _ _ M hS (by omega) (by omega) (by omega) (by omega) (by exact fun j h0 h1 => by omega) (by subst hms; exact fun _ _ _ => rfl) (by subst hms; exact fun q => by rcases q with q | ⟨q1, q2⟩ <;> omega) (by subst hms; omega) (by subst hms; omega) (by subst hms; rfl) (by omega)
          · intro h22
            refine n_bipush c_97_58 rfl ?_
            exact n_rI c_97_60 rfl ⟨⟨_, hS⟩, by omega, by omega, by subst hms; exact Or.inr (Or.inr (Or.inl ⟨by omega, by omega, by omega, by omega, fun q => by rcases q with q | ⟨q1, q2⟩ <;> omega, by omega, rfl, fun _ _ _ => rfl⟩))⟩
        · intro h23
          exfalso; omega
    · intro h24
      refine n_bipush c_97_19 rfl ?_
      exact n_rI c_97_21 rfl ⟨⟨_, hS⟩, by omega, by omega, by subst hms; exact Or.inl ⟨by omega, rfl, fun _ _ _ => rfl⟩⟩

set_option maxHeartbeats 4000000 in
theorem takeX2_3_c {xs : List Int32} {e : Nat} {ac : Int} {M : nM} {p gd : Int} {Ms : nM} (hS : Sf 3 ac M M) (hp : ActAt p) (hpl : p = 55 + 3 * ac) (hgd : M 112 0 = gd) (hms : M = Ms) : ∀ nn : Nat, (∀ (x4 x5 : Int) (M : nM), Sf 3 ac M M → (0 ≤ x4 ∧ x4 ≤ 8) → (0 ≤ x5 ∧ x5 ≤ 27) → (M 112 0 = gd) → (M p 0 = 2) → (M p 1 = 9) → (x4 = x5 % 9) → (TL 9 p x5 Ms M) → (FP p Ms M) → (27 - x5) * 1 + 30 < (nn : Int) → nW xs (e + 1) 2 20 [some (2, p), none, some (2, 54), some (2, 4), some (0, x4), some (0, x5), none] [] M (nPV fun M1 => Sf 3 ac M1 M1 ∧ (M1 112 0 = gd) ∧ (NAct 3 2 9 p (fun i => Ms 54 i) M1) ∧ (FP p Ms M1))) ∧ (∀ (x5 : Int) (M : nM), Sf 3 ac M M → (0 ≤ x5 ∧ x5 ≤ 27) → (M 112 0 = gd) → (M p 0 = 2) → (M p 1 = 9) → (TL 9 p 27 Ms M) → (TU 3 p x5 M) → (FP p Ms M) → (27 - x5) * 1 + 1 < (nn : Int) → nW xs (e + 1) 2 70 [some (2, p), none, none, some (2, 4), none, some (0, x5), none] [] M (nPV fun M1 => Sf 3 ac M1 M1 ∧ (M1 112 0 = gd) ∧ (NAct 3 2 9 p (fun i => Ms 54 i) M1) ∧ (FP p Ms M1))) := by
  have hd : (3 : Int) = 2 ∨ (3 : Int) = 3 := by decide
  have hac := hS.2.2.2.2
  have hpb := hp.1
  intro nn
  induction nn with
  | zero => refine ⟨?_, ?_⟩ <;> (intros; omega)
  | succ nn ih =>
    refine ⟨?_, ?_⟩
    · intro x4 x5 M hS k4 k5 hggd v0 v1 v2 v3 v4 hnn
      refine n_iload c_2_20 rfl (n_aload_n c_2_22 rfl (n_getV (bi := 1) c_2_23 sc_4.n rfl rfl rfl (t_4_1 hS) ?_))
      intro z1 ez1 f2
      obtain rfl : z1 = 27 := by omega
      refine n_if2_ge c_2_26 (by omega) (by omega) ?_ ?_
      · intro h3
        refine n_iconst c_2_67 (n_istore (L2 := [some (2, p), none, some (2, 54), some (2, 4), some (0, x4), some (0, 0), none]) c_2_68 rfl rfl (n_fg (le_s (le_n (le_n (le_s (le_n (le_s (le_n le_0))))))) ?_))
        exact ih.2 _ M hS (by omega) (by omega) (by exact v0) (by exact v1) (by have q : x5 = 27 := (by omega); rw [q] at v3; exact v3) (by exact fun i h0 h1 => by omega) (by exact v4) (by omega)
      · intro h4
        refine n_aload_n c_2_29 rfl (n_getR c_2_30 hp.c0.1.n rfl rfl rfl hp.r.1 (n_iload c_2_33 rfl (n_aload_n c_2_35 rfl (n_iload c_2_36 rfl (n_ialoadV c_2_38 sc_54.n rfl rfl rfl (by omega) (t_54 hS (by omega)) ?_)))))
        intro z5 ez5 f6
        refine n_iastoreM hS c_2_39 hp.c0.2.1.n rfl (by omega) (m_actnr hp hpl (Or.inl rfl) (by omega) (by omega)) ?_
        intro M7 eM7 hS7
        have g7_0 : M7 112 0 = M 112 0 := by rw [eM7]; exact nu_a (by omega)
        have g7_1 : M7 p 1 = M p 1 := by rw [eM7]; exact nu_a (by omega)
        refine n_iload c_2_40 rfl (n_iconst c_2_42 (n_iadd c_2_43 rfl (n_aload_n c_2_44 rfl (n_getV (bi := 1) c_2_45 hp.c0.1.n rfl rfl rfl (show 9 ≤ M7 p 1 ∧ M7 p 1 ≤ 9 by omega) ?_))))
        intro z8 ez8 f9
        obtain rfl : z8 = 9 := by omega
        refine n_if2_ge c_2_48 (by omega) (by omega) ?_ ?_
        · intro h10
          refine n_iconst c_2_58 (n_istore (L2 := [some (2, p), none, some (2, 54), some (2, 4), some (0, 0), some (0, x5), none]) c_2_59 rfl rfl (n_iinc (L2 := [some (2, p), none, some (2, 54), some (2, 4), some (0, 0), some (0, (x5 + 1)), none]) c_2_61 rfl rfl rfl (n_goto c_2_64 (n_fg (le_s (le_n (le_s (le_s (le_s (le_s (le_n le_0))))))) ?_))))
          exact ih.1 _ _ M7 hS7 (by omega) (by omega) (by omega) (by rw [eM7, nu_a (by omega)]; exact v0) (by rw [eM7, nu_a (by omega)]; exact v1) (by omega) (by exact TL.step v3 hpb eM7 ez5 (by omega)) (by exact FP.u v4 eM7 (by omega)) (by omega)
        · intro h11
          refine n_iload c_2_51 rfl (n_iconst c_2_53 (n_iadd c_2_54 rfl (n_goto c_2_55 (n_istore (L2 := [some (2, p), none, some (2, 54), some (2, 4), some (0, (x4 + 1)), some (0, x5), none]) c_2_59 rfl rfl (n_iinc (L2 := [some (2, p), none, some (2, 54), some (2, 4), some (0, (x4 + 1)), some (0, (x5 + 1)), none]) c_2_61 rfl rfl rfl (n_goto c_2_64 (n_fg (le_s (le_n (le_s (le_s (le_s (le_s (le_n le_0))))))) ?_)))))))
          exact ih.1 _ _ M7 hS7 (by omega) (by omega) (by omega) (by rw [eM7, nu_a (by omega)]; exact v0) (by rw [eM7, nu_a (by omega)]; exact v1) (by omega) (by exact TL.step v3 hpb eM7 ez5 (by omega)) (by exact FP.u v4 eM7 (by omega)) (by omega)
    · intro x5 M hS k5 hggd v0 v1 v2 v3 v4 hnn
      refine n_iload c_2_70 rfl (n_aload_n c_2_72 rfl (n_getV (bi := 1) c_2_73 sc_4.n rfl rfl rfl (t_4_1 hS) ?_))
      intro z1 ez1 f2
      obtain rfl : z1 = 27 := by omega
      refine n_if2_ge c_2_76 (by omega) (by omega) ?_ ?_
      · intro h3
        exact n_rV c_2_134 rfl ⟨hS, by omega, by exact ⟨v0, v1, fun i h0 h1 => ⟨v2.2 i h0 (by omega), v3 i h0 (by omega)⟩⟩, by exact v4⟩
      · intro h4
        refine n_aload_n c_2_79 rfl (n_getR c_2_80 sc_4.n rfl rfl rfl r_4_2 (n_iload c_2_83 rfl (n_ialoadV c_2_85 sc_5.n rfl rfl rfl (by omega) (t_5d hS hd (by omega) (by omega)) ?_)))
        intro z5 ez5 f6
        refine n_aload_n c_2_86 rfl (n_getV (bi := 0) c_2_87 sc_4.n rfl rfl rfl (t_4_0 hS) ?_)
        intro z7 ez7 f8
        obtain rfl : z7 = 3 := by omega
        refine n_imul c_2_90 rfl (n_aload_n c_2_91 rfl (n_getR c_2_92 sc_4.n rfl rfl rfl r_4_4 (n_iload c_2_95 rfl (n_ialoadV c_2_97 sc_7.n rfl rfl rfl (by omega) (t_7d hS hd (by omega) (by omega)) ?_))))
        intro z9 ez9 f10
        refine n_iadd c_2_98 rfl (n_aload_n c_2_99 rfl (n_getV (bi := 0) c_2_100 sc_4.n rfl rfl rfl (t_4_0 hS) ?_))
        intro z11 ez11 f12
        obtain rfl : z11 = 3 := by omega
        refine n_imul c_2_103 rfl (n_aload_n c_2_104 rfl (n_getR c_2_105 sc_4.n rfl rfl rfl r_4_3 (n_iload c_2_108 rfl (n_ialoadV c_2_110 sc_6.n rfl rfl rfl (by omega) (t_6d hS hd (by omega) (by omega)) ?_))))
        intro z13 ez13 f14
        refine n_iadd c_2_111 rfl (n_istore (L2 := [some (2, p), none, none, some (2, 4), none, some (0, x5), some (0, ((((z5 * 3) + z9) * 3) + z13))]) c_2_112 rfl rfl (n_aload_n c_2_114 rfl (n_getR c_2_115 hp.c0.1.n rfl rfl rfl hp.r.2 (n_iload c_2_118 rfl (n_aload_n c_2_120 rfl (n_getR c_2_121 hp.c0.1.n rfl rfl rfl hp.r.1 (n_iload c_2_124 rfl (n_ialoadV c_2_126 hp.c0.2.1.n rfl rfl rfl (by omega) (t_actr hS hd hp (Or.inl rfl) (by omega)) ?_))))))))
        intro z15 ez15 f16
        have qb5 := t_5e hS (i := x5) (by omega) (by omega)
        have qb6 := t_6e hS (i := x5) (by omega) (by omega)
        have qb7 := t_7e hS (i := x5) (by omega) (by omega)
        refine n_iastoreM hS c_2_127 hp.c0.2.2.n rfl (by omega) (m_actnr hp hpl (Or.inr rfl) (by omega) (by omega)) ?_
        intro M17 eM17 hS17
        have g17_0 : M17 112 0 = M 112 0 := by rw [eM17]; exact nu_a (by omega)
        have g17_1 : M17 p 1 = M p 1 := by rw [eM17]; exact nu_a (by omega)
        refine n_iinc (L2 := [some (2, p), none, none, some (2, 4), none, some (0, (x5 + 1)), some (0, ((((z5 * 3) + z9) * 3) + z13))]) c_2_128 rfl rfl rfl (n_goto c_2_131 (n_fg (le_s (le_n (le_n (le_s (le_n (le_s (le_n le_0))))))) ?_))
        exact ih.2 _ M17 hS17 (by omega) (by omega) (by rw [eM17, nu_a (by omega)]; exact v0) (by rw [eM17, nu_a (by omega)]; exact v1) (by exact TL.uu v2 hpb eM17) (by exact TU.step v3 eM17 ez15 (by unfold tr; omega)) (by exact FP.u v4 eM17 (by omega)) (by omega)
set_option maxHeartbeats 4000000 in
theorem takeX2_3 {xs : List Int32} {e : Nat} {ac : Int} {M : nM} {p gd : Int} {Ms : nM} (hS : Sf 3 ac M M) (hp : ActAt p) (hpl : p = 55 + 3 * ac) (hgd : M 112 0 = gd) (hms : M = Ms) : nW xs (e + 1) 2 0 [some (2, p), some (0, 2), some (2, 54), some (2, 4), none, none, none] [] M (nPV fun M1 => Sf 3 ac M1 M1 ∧ (M1 112 0 = gd) ∧ (NAct 3 2 9 p (fun i => Ms 54 i) M1) ∧ (FP p Ms M1)) := by
  have hd : (3 : Int) = 2 ∨ (3 : Int) = 3 := by decide
  have hac := hS.2.2.2.2
  have hpb := hp.1
  refine n_aload_n c_2_0 rfl (n_iload_n c_2_1 rfl (n_putM (bi := 0) hS c_2_2 hp.c0.1.n rfl rfl rfl rfl (m_actn hp hpl (by omega) (by omega)) ?_))
  intro M1 eM1 hS1
  have g1_0 : M1 112 0 = M 112 0 := by rw [eM1]; exact nu_a (by omega)
  have g1_1 : M1 p 0 = 2 := by rw [eM1]; exact nu_s _ _ _ _
  refine n_aload_n c_2_5 rfl (n_aload_n c_2_6 rfl (n_iload_n c_2_7 rfl (n_v1I c_2_8 rfl sc_4.n rfl rfl rfl rfl (power2_3  hS1 ) ?_)))
  intro z2 M3 hP4
  obtain ⟨eM, f4⟩ := hP4
  subst eM
  obtain rfl : z2 = 9 := by omega
  refine n_putM (bi := 1) hS1 c_2_11 hp.c0.1.n rfl rfl rfl rfl (m_actn hp hpl (by omega) (by omega)) ?_
  intro M5 eM5 hS5
  have g5_0 : M5 112 0 = M1 112 0 := by rw [eM5]; exact nu_a (by omega)
  have g5_1 : M5 p 0 = M1 p 0 := by rw [eM5]; exact nu_i (by omega)
  have g5_2 : M5 p 1 = 9 := by rw [eM5]; exact nu_s _ _ _ _
  refine n_iconst c_2_14 (n_istore (L2 := [some (2, p), some (0, 2), some (2, 54), some (2, 4), some (0, 0), none, none]) c_2_15 rfl rfl (n_iconst c_2_17 (n_istore (L2 := [some (2, p), some (0, 2), some (2, 54), some (2, 4), some (0, 0), some (0, 0), none]) c_2_18 rfl rfl (n_fg (le_s (le_n (le_s (le_s (le_s (le_s (le_n le_0))))))) ?_))))
  exact (takeX2_3_c hS hp hpl hgd hms 126).1 _ _ M5 hS5 (by omega) (by omega) (by omega) (by omega) (by omega) (by omega) (by subst hms; exact ⟨fun i => by rw [eM5, nu_a (by omega), eM1, nu_a (by omega)], fun i h0 h1 => by omega⟩) (by subst hms; exact FP.u (FP.u (fun _ _ _ _ => rfl) eM1 (by omega)) eM5 (by omega)) (by omega)

set_option maxHeartbeats 4000000 in
theorem actX2_3_c {xs : List Int32} {e : Nat} {ac : Int} {M : nM} {s gd : Int} {Ms : nM} (hS : Sf 3 ac M M) (hs : -2147483648 ≤ s ∧ s ≤ 2147483647) (hgd : M 112 0 = gd) (hms : M = Ms) : ∀ nn : Nat, (∀ (x3 x4 : Int) (M : nM), Sf 3 ac M M → (0 ≤ s ∧ s ≤ 7) → (9 ≤ x3 ∧ x3 ≤ 9) → (0 ≤ x4 ∧ x4 ≤ 9) → (M 112 0 = gd) → (TP 3 (Ms 11 s) (fun i => Ms 9 (40 * s + i)) x4 M) → (Eqc Ms M) → (¬ tooMany 2 (Ms 3 14) (fun a => Ms (55 + 3 * a) 0)) → (0 ≤ Ms 11 s) → (Ms 3 14 ≤ 7) → (M 3 14 = Ms 3 14) → (9 - x4) * 1 + 1 < (nn : Int) → nW xs (e + 2) 97 73 [some (2, 3), some (0, 2), some (0, s), some (0, x3), some (0, x4), none] [] M (nPI fun z M1 => (∃ ac2, Sf 3 ac2 M1 M1) ∧ (-2147483648 ≤ z ∧ z ≤ 2147483647) ∧ (M1 112 0 = gd) ∧ (cAct 3 2 9 s z Ms M1))) := by
  have hd : (3 : Int) = 2 ∨ (3 : Int) = 3 := by decide
  have hac := hS.2.2.2.2
  intro nn
  induction nn with
  | zero => intros; omega
  | succ nn ih =>
    intro x3 x4 M hS k2 k3 k4 hggd v0 v1 v2 v3 v4 v5 hnn
    refine n_iload c_97_73 rfl (n_iload_n c_97_75 rfl ?_)
    refine n_if2_ge c_97_76 (by omega) (by omega) ?_ ?_
    · intro h1
      refine n_aload_n c_97_130 rfl (n_getR c_97_131 sc_3.n rfl rfl rfl r_3_2 (n_aload_n c_97_134 rfl (n_getV (bi := 14) c_97_135 sc_3.n rfl rfl rfl (t_3_14x hS) ?_)))
      intro z2 ez2 f3
      have f3a := t_ac hS
      refine n_aaload c_97_138 sc_12.n rfl rfl rfl (by omega) (r_acts _) ?_
      have q4 : ActAt (55 + 3 * z2) := by unfold ActAt; omega
      have q4l : (55 + 3 * z2) = 55 + 3 * ac := by omega
      refine n_iload_n c_97_139 rfl (n_aload_n c_97_140 rfl (n_getR c_97_141 sc_3.n rfl rfl rfl r_3_13 (n_aload_n c_97_144 rfl (n_getR c_97_145 sc_3.n rfl rfl rfl r_3_0 (n_v3V c_97_148 rfl q4.c0.1.n rfl rfl rfl rfl (takeX2_3 (p := (55 + 3 * z2)) (gd := (M 112 0)) (Ms := M) hS q4 q4l rfl (by rfl)) ?_)))))
      intro  M5 hP6
      obtain ⟨hS5, f6g0, f6p0, f6p1⟩ := hP6
      refine n_aload_n c_97_151 rfl (n_v0V c_97_152 rfl sc_3.n rfl rfl rfl rfl (forgetMade_3  hS5 ) ?_)
      intro  M7 hP8
      have hS7 := hP8
      have hS7c := hS7.2.2.2.1.1
      have hS7 := hS7.refl
      have hS7k0 := hS7c 112 0 (by unfold core; omega)
      refine n_aload_n c_97_155 rfl (n_dup2 c_97_156 (n_getV (bi := 14) c_97_157 sc_3.n rfl rfl rfl (t_3_14x hS7) ?_))
      intro z9 ez9 f10
      have f10a := t_ac hS7
      refine n_dup_x102 c_97_160 (n_iconst c_97_161 (n_iadd c_97_162 rfl (n_jka (p := (55 + 3 * z2)) (v := 9) q4 ?_)))
      intro My fy jy
      have hSy := Sf.jka hS7 q4 (by omega) fy jy (by omega)
      have hNz : NAct 3 2 9 (55 + 3 * z2) (fun i => Ms 9 (40 * s + i)) My := NAct.of (by decide) (by omega) f6p0 (fun a i w1 w2 w3 => by rw [fy a i w3, hS7c a i (by unfold core; omega)]) (fun i h0 h1 => ((v0 i h0 (by omega)).1).symm)
      have hFz : ∀ a i : Int, core a i → ¬ (55 + 3 * Ms 3 14 ≤ a ∧ a ≤ 55 + 3 * Ms 3 14 + 2) → My a i = Ms a i := fun a i hc w => by rw [fy a i (by omega), hS7c a i hc, f6p1 a i hc (by omega), v1 a i hc]
      have hNA : NA 3 2 9 (55 + 3 * z2) My := NA_of (by decide) (by omega) hNz jy (fun i h0 h1 => (v0 i h0 (by omega)).2)
      have hey : My 112 0 = M7 112 0 := fy 112 0 (by omega)
      have hUp := Sf.actUp hSy (by omega) (by omega) (by omega) (by omega) (by omega) hNA
      have hUe : ((z9 + 1) : Int) = ac + 1 := by omega
      refine n_putG (P := fun M2 => Sf 3 (ac + 1) M2 M2) (bi := 14) c_97_163 sc_3.n rfl rfl rfl rfl (by rw [hUe]; exact hUp) ?_
      intro M11 eM11 hS11
      have hgz : M11 112 0 = My 112 0 := by rw [eM11]; exact nu_a (by omega)
      have hbz : (55 + 3 * z2) = 55 + 3 * Ms 3 14 := by omega
      rw [hbz] at hNz
      exact n_rI c_97_166 rfl ⟨⟨_, hS11⟩, by omega, by omega, by exact Or.inr (Or.inr (Or.inr (Or.inr ⟨by omega, by omega, by omega, by omega, v2, by omega, fun i h0 h1 => (v0 i h0 (by omega)).2, by omega, by rw [eM11, nu_s]; omega, NAct.of (by decide) (by omega) hNz (fun a i w1 w2 _ => by rw [eM11, nu_a (by omega)]) (fun _ _ _ => rfl), fun a i hc w1 w2 => by rw [eM11, nu_e, if_neg w1]; exact hFz a i hc w2⟩)))⟩
    · intro h12
      refine n_iload c_97_79 rfl (n_bipush c_97_81 rfl ?_)
      refine n_if2_ge c_97_83 (by omega) (by omega) ?_ ?_
      · intro h13
        exfalso; omega
      · intro h14
        refine n_aload_n c_97_86 rfl (n_getR c_97_87 sc_3.n rfl rfl rfl r_3_1 (n_iload_n c_97_90 rfl (n_iload c_97_91 rfl (n_aload_n c_97_93 rfl (n_getR c_97_94 sc_3.n rfl rfl rfl r_3_0 (n_getV (bi := 0) c_97_97 sc_4.n rfl rfl rfl (t_4_0 hS) ?_))))))
        intro z15 ez15 f16
        obtain rfl : z15 = 3 := by omega
        refine n_iconst c_97_100 (n_isub c_97_101 rfl ?_)
        have hcst : ((3 - 1) : Int) = 2 := by omega
        rw [hcst]
        refine n_v3I c_97_102 rfl sc_8.n rfl rfl rfl rfl (readX2_3 (s := s) (i := x4) hS (by omega) (by omega)) ?_
        intro z17 M18 hP19
        obtain ⟨eM, f19, f19p0⟩ := hP19
        subst eM
        have q11 := v1 11 s (by unfold core; omega)
        have q9 := v1 9 (40 * s + x4) (by unfold core; omega)
        refine n_istore (L2 := [some (2, 3), some (0, 2), some (0, s), some (0, x3), some (0, x4), some (0, z17)]) c_97_105 rfl rfl (n_iload c_97_107 rfl ?_)
        refine n_if0_ge c_97_109 (by omega) ?_ ?_
        · intro h20
          refine n_aload_n c_97_115 rfl (n_getR c_97_116 sc_3.n rfl rfl rfl r_3_13 (n_iload c_97_119 rfl (n_iload c_97_121 rfl (n_iastoreM hS c_97_123 sc_54.n rfl (by omega) (m_54 (by omega) (by omega)) ?_))))
          intro M21 eM21 hS21
          have g21_0 : M21 112 0 = M 112 0 := by rw [eM21]; exact nu_a (by omega)
          have g21_1 : M21 3 14 = M 3 14 := by rw [eM21]; exact nu_a (by omega)
          refine n_iinc (L2 := [some (2, 3), some (0, 2), some (0, s), some (0, x3), some (0, (x4 + 1)), some (0, z17)]) c_97_124 rfl rfl rfl (n_goto c_97_127 (n_fg (le_s (le_s (le_s (le_s (le_s (le_n le_0)))))) ?_))
          exact ih _ _ M21 hS21 (by omega) (by omega) (by omega) (by omega) (by exact TP.step v0 eM21 (by show _ = Ms 9 (40 * s + x4); omega) ⟨by omega, by show 0 ≤ Ms 9 (40 * s + x4); omega, by show Ms 9 (40 * s + x4) ≤ 3 - 1; omega⟩) (by exact Eqc.u54 v1 eM21) (by exact v2) (by exact v3) (by exact v4) (by rw [eM21, nu_a (by omega)]; exact v5) (by omega)
        · intro h22
          refine n_iload c_97_112 rfl ?_
          exact n_rI c_97_114 rfl ⟨⟨_, hS⟩, by omega, by omega, by exact Or.inr (Or.inr (Or.inr (Or.inl ⟨by omega, by omega, by omega, by omega, v2, by omega, ⟨x4, by omega, by omega, fun i h0 h1 => (v0 i h0 h1).2, by show (Ms 11 s ≤ x4 ∧ _ = -6) ∨ (x4 < Ms 11 s ∧ (Ms 9 (40 * s + x4) < 0 ∨ 3 - 1 < Ms 9 (40 * s + x4)) ∧ _ = -4); omega⟩, v1⟩)))⟩
set_option maxHeartbeats 4000000 in
theorem actX2_3 {xs : List Int32} {e : Nat} {ac : Int} {M : nM} {s gd : Int} {Ms : nM} (hS : Sf 3 ac M M) (hs : -2147483648 ≤ s ∧ s ≤ 2147483647) (hgd : M 112 0 = gd) (hms : M = Ms) : nW xs (e + 2) 97 0 [some (2, 3), some (0, 2), some (0, s), none, none, none] [] M (nPI fun z M1 => (∃ ac2, Sf 3 ac2 M1 M1) ∧ (-2147483648 ≤ z ∧ z ≤ 2147483647) ∧ (M1 112 0 = gd) ∧ (cAct 3 2 9 s z Ms M1)) := by
  have hd : (3 : Int) = 2 ∨ (3 : Int) = 3 := by decide
  have hac := hS.2.2.2.2
  refine n_aload_n c_97_0 rfl (n_getR c_97_1 sc_3.n rfl rfl rfl r_3_1 (n_iload_n c_97_4 rfl (n_v1I c_97_5 rfl sc_8.n rfl rfl rfl rfl (isSlotF_3 (s := s) hS (by omega)) ?_)))
  intro z1 M2 hP3
  obtain ⟨eM, f3, f3p0⟩ := hP3
  subst eM
  refine n_if0_eq c_97_8 (by omega) ?_ ?_
  · intro h4
    refine n_bipush c_97_19 rfl ?_
    exact n_rI c_97_21 rfl ⟨⟨_, hS⟩, by omega, by omega, by subst hms; exact Or.inl ⟨by omega, rfl, fun _ _ _ => rfl⟩⟩
  · intro h5
    refine n_aload_n c_97_11 rfl (n_iload_n c_97_12 rfl (n_v1I c_97_13 rfl sc_3.n rfl rfl rfl rfl (isPlaceCountF_3 (k := 2) hS (by omega)) ?_))
    intro z6 M7 hP8
    obtain ⟨eM, f8, f8p0⟩ := hP8
    subst eM
    refine n_if0_ne c_97_16 (by omega) ?_ ?_
    · intro h9
      refine n_aload_n c_97_22 rfl (n_getV (bi := 14) c_97_23 sc_3.n rfl rfl rfl (t_3_14x hS) ?_)
      intro z10 ez10 f11
      have f11a := t_ac hS
      refine n_bipush c_97_26 rfl ?_
      refine n_if2_ge c_97_28 (by omega) (by omega) ?_ ?_
      · intro h12
        refine n_bipush c_97_44 rfl ?_
        exact n_rI c_97_46 rfl ⟨⟨_, hS⟩, by omega, by omega, by subst hms; exact Or.inr (Or.inl ⟨by omega, by omega, by omega, by omega, by first | exact Or.inl (by omega) | exact Or.inr ⟨rfl, by omega⟩, rfl, fun _ _ _ => rfl⟩)⟩
      · intro h13
        refine n_iload_n c_97_31 rfl (n_iconst c_97_32 ?_)
        refine n_if2_ne c_97_33 (by omega) (by omega) ?_ ?_
        · intro h14
          refine n_aload_n c_97_47 rfl (n_getR c_97_48 sc_3.n rfl rfl rfl r_3_1 (n_iload_n c_97_51 rfl (n_v1I c_97_52 rfl sc_8.n rfl rfl rfl rfl (hasRowF_3 (s := s) hS (by omega)) ?_)))
          intro z15 M16 hP17
          obtain ⟨eM, f17, f17p0⟩ := hP17
          subst eM
          refine n_if0_ne c_97_55 (by omega) ?_ ?_
          · intro h18
            refine n_aload_n c_97_61 rfl (n_getR c_97_62 sc_3.n rfl rfl rfl r_3_0 (n_iload_n c_97_65 rfl (n_v1I c_97_66 rfl sc_4.n rfl rfl rfl rfl (power2_3  hS ) ?_)))
            intro z19 M20 hP21
            obtain ⟨eM, f21⟩ := hP21
            subst eM
            obtain rfl : z19 = 9 := by omega
            refine n_istore_n (L2 := [some (2, 3), some (0, 2), some (0, s), some (0, 9), none, none]) c_97_69 rfl rfl (n_iconst c_97_70 (n_istore (L2 := [some (2, 3), some (0, 2), some (0, s), some (0, 9), some (0, 0), none]) c_97_71 rfl rfl (n_fg (le_s (le_s (le_s (le_s (le_s (le_n le_0)))))) ?_)))
            exact (actX2_3_c hS hs hgd hms 32) _ _ M hS (by omega) (by omega) (by omega) (by omega) (by exact fun j h0 h1 => by omega) (by subst hms; exact fun _ _ _ => rfl) (by subst hms; exact fun q => by rcases q with q | ⟨q1, q2⟩ <;> omega) (by subst hms; omega) (by subst hms; omega) (by subst hms; rfl) (by omega)
          · intro h22
            refine n_bipush c_97_58 rfl ?_
            exact n_rI c_97_60 rfl ⟨⟨_, hS⟩, by omega, by omega, by subst hms; exact Or.inr (Or.inr (Or.inl ⟨by omega, by omega, by omega, by omega, fun q => by rcases q with q | ⟨q1, q2⟩ <;> omega, by omega, rfl, fun _ _ _ => rfl⟩))⟩
        · intro h23
          exfalso; omega
    · intro h24
      refine n_bipush c_97_19 rfl ?_
      exact n_rI c_97_21 rfl ⟨⟨_, hS⟩, by omega, by omega, by subst hms; exact Or.inl ⟨by omega, rfl, fun _ _ _ => rfl⟩⟩

set_option maxHeartbeats 4000000 in
theorem takeX3_3_c {xs : List Int32} {e : Nat} {ac : Int} {M : nM} {p gd : Int} {Ms : nM} (hS : Sf 3 ac M M) (hp : ActAt p) (hpl : p = 55 + 3 * ac) (hgd : M 112 0 = gd) (hms : M = Ms) : ∀ nn : Nat, (∀ (x4 x5 : Int) (M : nM), Sf 3 ac M M → (0 ≤ x4 ∧ x4 ≤ 26) → (0 ≤ x5 ∧ x5 ≤ 27) → (M 112 0 = gd) → (M p 0 = 3) → (M p 1 = 27) → (x4 = x5 % 27) → (TL 27 p x5 Ms M) → (FP p Ms M) → (27 - x5) * 1 + 30 < (nn : Int) → nW xs (e + 1) 2 20 [some (2, p), none, some (2, 54), some (2, 4), some (0, x4), some (0, x5), none] [] M (nPV fun M1 => Sf 3 ac M1 M1 ∧ (M1 112 0 = gd) ∧ (NAct 3 3 27 p (fun i => Ms 54 i) M1) ∧ (FP p Ms M1))) ∧ (∀ (x5 : Int) (M : nM), Sf 3 ac M M → (0 ≤ x5 ∧ x5 ≤ 27) → (M 112 0 = gd) → (M p 0 = 3) → (M p 1 = 27) → (TL 27 p 27 Ms M) → (TU 3 p x5 M) → (FP p Ms M) → (27 - x5) * 1 + 1 < (nn : Int) → nW xs (e + 1) 2 70 [some (2, p), none, none, some (2, 4), none, some (0, x5), none] [] M (nPV fun M1 => Sf 3 ac M1 M1 ∧ (M1 112 0 = gd) ∧ (NAct 3 3 27 p (fun i => Ms 54 i) M1) ∧ (FP p Ms M1))) := by
  have hd : (3 : Int) = 2 ∨ (3 : Int) = 3 := by decide
  have hac := hS.2.2.2.2
  have hpb := hp.1
  intro nn
  induction nn with
  | zero => refine ⟨?_, ?_⟩ <;> (intros; omega)
  | succ nn ih =>
    refine ⟨?_, ?_⟩
    · intro x4 x5 M hS k4 k5 hggd v0 v1 v2 v3 v4 hnn
      refine n_iload c_2_20 rfl (n_aload_n c_2_22 rfl (n_getV (bi := 1) c_2_23 sc_4.n rfl rfl rfl (t_4_1 hS) ?_))
      intro z1 ez1 f2
      obtain rfl : z1 = 27 := by omega
      refine n_if2_ge c_2_26 (by omega) (by omega) ?_ ?_
      · intro h3
        refine n_iconst c_2_67 (n_istore (L2 := [some (2, p), none, some (2, 54), some (2, 4), some (0, x4), some (0, 0), none]) c_2_68 rfl rfl (n_fg (le_s (le_n (le_n (le_s (le_n (le_s (le_n le_0))))))) ?_))
        exact ih.2 _ M hS (by omega) (by omega) (by exact v0) (by exact v1) (by have q : x5 = 27 := (by omega); rw [q] at v3; exact v3) (by exact fun i h0 h1 => by omega) (by exact v4) (by omega)
      · intro h4
        refine n_aload_n c_2_29 rfl (n_getR c_2_30 hp.c0.1.n rfl rfl rfl hp.r.1 (n_iload c_2_33 rfl (n_aload_n c_2_35 rfl (n_iload c_2_36 rfl (n_ialoadV c_2_38 sc_54.n rfl rfl rfl (by omega) (t_54 hS (by omega)) ?_)))))
        intro z5 ez5 f6
        refine n_iastoreM hS c_2_39 hp.c0.2.1.n rfl (by omega) (m_actnr hp hpl (Or.inl rfl) (by omega) (by omega)) ?_
        intro M7 eM7 hS7
        have g7_0 : M7 112 0 = M 112 0 := by rw [eM7]; exact nu_a (by omega)
        have g7_1 : M7 p 1 = M p 1 := by rw [eM7]; exact nu_a (by omega)
        refine n_iload c_2_40 rfl (n_iconst c_2_42 (n_iadd c_2_43 rfl (n_aload_n c_2_44 rfl (n_getV (bi := 1) c_2_45 hp.c0.1.n rfl rfl rfl (show 27 ≤ M7 p 1 ∧ M7 p 1 ≤ 27 by omega) ?_))))
        intro z8 ez8 f9
        obtain rfl : z8 = 27 := by omega
        refine n_if2_ge c_2_48 (by omega) (by omega) ?_ ?_
        · intro h10
          refine n_iconst c_2_58 (n_istore (L2 := [some (2, p), none, some (2, 54), some (2, 4), some (0, 0), some (0, x5), none]) c_2_59 rfl rfl (n_iinc (L2 := [some (2, p), none, some (2, 54), some (2, 4), some (0, 0), some (0, (x5 + 1)), none]) c_2_61 rfl rfl rfl (n_goto c_2_64 (n_fg (le_s (le_n (le_s (le_s (le_s (le_s (le_n le_0))))))) ?_))))
          exact ih.1 _ _ M7 hS7 (by omega) (by omega) (by omega) (by rw [eM7, nu_a (by omega)]; exact v0) (by rw [eM7, nu_a (by omega)]; exact v1) (by omega) (by exact TL.step v3 hpb eM7 ez5 (by omega)) (by exact FP.u v4 eM7 (by omega)) (by omega)
        · intro h11
          refine n_iload c_2_51 rfl (n_iconst c_2_53 (n_iadd c_2_54 rfl (n_goto c_2_55 (n_istore (L2 := [some (2, p), none, some (2, 54), some (2, 4), some (0, (x4 + 1)), some (0, x5), none]) c_2_59 rfl rfl (n_iinc (L2 := [some (2, p), none, some (2, 54), some (2, 4), some (0, (x4 + 1)), some (0, (x5 + 1)), none]) c_2_61 rfl rfl rfl (n_goto c_2_64 (n_fg (le_s (le_n (le_s (le_s (le_s (le_s (le_n le_0))))))) ?_)))))))
          exact ih.1 _ _ M7 hS7 (by omega) (by omega) (by omega) (by rw [eM7, nu_a (by omega)]; exact v0) (by rw [eM7, nu_a (by omega)]; exact v1) (by omega) (by exact TL.step v3 hpb eM7 ez5 (by omega)) (by exact FP.u v4 eM7 (by omega)) (by omega)
    · intro x5 M hS k5 hggd v0 v1 v2 v3 v4 hnn
      refine n_iload c_2_70 rfl (n_aload_n c_2_72 rfl (n_getV (bi := 1) c_2_73 sc_4.n rfl rfl rfl (t_4_1 hS) ?_))
      intro z1 ez1 f2
      obtain rfl : z1 = 27 := by omega
      refine n_if2_ge c_2_76 (by omega) (by omega) ?_ ?_
      · intro h3
        exact n_rV c_2_134 rfl ⟨hS, by omega, by exact ⟨v0, v1, fun i h0 h1 => ⟨v2.2 i h0 (by omega), v3 i h0 (by omega)⟩⟩, by exact v4⟩
      · intro h4
        refine n_aload_n c_2_79 rfl (n_getR c_2_80 sc_4.n rfl rfl rfl r_4_2 (n_iload c_2_83 rfl (n_ialoadV c_2_85 sc_5.n rfl rfl rfl (by omega) (t_5d hS hd (by omega) (by omega)) ?_)))
        intro z5 ez5 f6
        refine n_aload_n c_2_86 rfl (n_getV (bi := 0) c_2_87 sc_4.n rfl rfl rfl (t_4_0 hS) ?_)
        intro z7 ez7 f8
        obtain rfl : z7 = 3 := by omega
        refine n_imul c_2_90 rfl (n_aload_n c_2_91 rfl (n_getR c_2_92 sc_4.n rfl rfl rfl r_4_4 (n_iload c_2_95 rfl (n_ialoadV c_2_97 sc_7.n rfl rfl rfl (by omega) (t_7d hS hd (by omega) (by omega)) ?_))))
        intro z9 ez9 f10
        refine n_iadd c_2_98 rfl (n_aload_n c_2_99 rfl (n_getV (bi := 0) c_2_100 sc_4.n rfl rfl rfl (t_4_0 hS) ?_))
        intro z11 ez11 f12
        obtain rfl : z11 = 3 := by omega
        refine n_imul c_2_103 rfl (n_aload_n c_2_104 rfl (n_getR c_2_105 sc_4.n rfl rfl rfl r_4_3 (n_iload c_2_108 rfl (n_ialoadV c_2_110 sc_6.n rfl rfl rfl (by omega) (t_6d hS hd (by omega) (by omega)) ?_))))
        intro z13 ez13 f14
        refine n_iadd c_2_111 rfl (n_istore (L2 := [some (2, p), none, none, some (2, 4), none, some (0, x5), some (0, ((((z5 * 3) + z9) * 3) + z13))]) c_2_112 rfl rfl (n_aload_n c_2_114 rfl (n_getR c_2_115 hp.c0.1.n rfl rfl rfl hp.r.2 (n_iload c_2_118 rfl (n_aload_n c_2_120 rfl (n_getR c_2_121 hp.c0.1.n rfl rfl rfl hp.r.1 (n_iload c_2_124 rfl (n_ialoadV c_2_126 hp.c0.2.1.n rfl rfl rfl (by omega) (t_actr hS hd hp (Or.inl rfl) (by omega)) ?_))))))))
        intro z15 ez15 f16
        have qb5 := t_5e hS (i := x5) (by omega) (by omega)
        have qb6 := t_6e hS (i := x5) (by omega) (by omega)
        have qb7 := t_7e hS (i := x5) (by omega) (by omega)
        refine n_iastoreM hS c_2_127 hp.c0.2.2.n rfl (by omega) (m_actnr hp hpl (Or.inr rfl) (by omega) (by omega)) ?_
        intro M17 eM17 hS17
        have g17_0 : M17 112 0 = M 112 0 := by rw [eM17]; exact nu_a (by omega)
        have g17_1 : M17 p 1 = M p 1 := by rw [eM17]; exact nu_a (by omega)
        refine n_iinc (L2 := [some (2, p), none, none, some (2, 4), none, some (0, (x5 + 1)), some (0, ((((z5 * 3) + z9) * 3) + z13))]) c_2_128 rfl rfl rfl (n_goto c_2_131 (n_fg (le_s (le_n (le_n (le_s (le_n (le_s (le_n le_0))))))) ?_))
        exact ih.2 _ M17 hS17 (by omega) (by omega) (by rw [eM17, nu_a (by omega)]; exact v0) (by rw [eM17, nu_a (by omega)]; exact v1) (by exact TL.uu v2 hpb eM17) (by exact TU.step v3 eM17 ez15 (by unfold tr; omega)) (by exact FP.u v4 eM17 (by omega)) (by omega)
set_option maxHeartbeats 4000000 in
theorem takeX3_3 {xs : List Int32} {e : Nat} {ac : Int} {M : nM} {p gd : Int} {Ms : nM} (hS : Sf 3 ac M M) (hp : ActAt p) (hpl : p = 55 + 3 * ac) (hgd : M 112 0 = gd) (hms : M = Ms) : nW xs (e + 1) 2 0 [some (2, p), some (0, 3), some (2, 54), some (2, 4), none, none, none] [] M (nPV fun M1 => Sf 3 ac M1 M1 ∧ (M1 112 0 = gd) ∧ (NAct 3 3 27 p (fun i => Ms 54 i) M1) ∧ (FP p Ms M1)) := by
  have hd : (3 : Int) = 2 ∨ (3 : Int) = 3 := by decide
  have hac := hS.2.2.2.2
  have hpb := hp.1
  refine n_aload_n c_2_0 rfl (n_iload_n c_2_1 rfl (n_putM (bi := 0) hS c_2_2 hp.c0.1.n rfl rfl rfl rfl (m_actn hp hpl (by omega) (by omega)) ?_))
  intro M1 eM1 hS1
  have g1_0 : M1 112 0 = M 112 0 := by rw [eM1]; exact nu_a (by omega)
  have g1_1 : M1 p 0 = 3 := by rw [eM1]; exact nu_s _ _ _ _
  refine n_aload_n c_2_5 rfl (n_aload_n c_2_6 rfl (n_iload_n c_2_7 rfl (n_v1I c_2_8 rfl sc_4.n rfl rfl rfl rfl (power3_3  hS1 ) ?_)))
  intro z2 M3 hP4
  obtain ⟨eM, f4⟩ := hP4
  subst eM
  obtain rfl : z2 = 27 := by omega
  refine n_putM (bi := 1) hS1 c_2_11 hp.c0.1.n rfl rfl rfl rfl (m_actn hp hpl (by omega) (by omega)) ?_
  intro M5 eM5 hS5
  have g5_0 : M5 112 0 = M1 112 0 := by rw [eM5]; exact nu_a (by omega)
  have g5_1 : M5 p 0 = M1 p 0 := by rw [eM5]; exact nu_i (by omega)
  have g5_2 : M5 p 1 = 27 := by rw [eM5]; exact nu_s _ _ _ _
  refine n_iconst c_2_14 (n_istore (L2 := [some (2, p), some (0, 3), some (2, 54), some (2, 4), some (0, 0), none, none]) c_2_15 rfl rfl (n_iconst c_2_17 (n_istore (L2 := [some (2, p), some (0, 3), some (2, 54), some (2, 4), some (0, 0), some (0, 0), none]) c_2_18 rfl rfl (n_fg (le_s (le_n (le_s (le_s (le_s (le_s (le_n le_0))))))) ?_))))
  exact (takeX3_3_c hS hp hpl hgd hms 126).1 _ _ M5 hS5 (by omega) (by omega) (by omega) (by omega) (by omega) (by omega) (by subst hms; exact ⟨fun i => by rw [eM5, nu_a (by omega), eM1, nu_a (by omega)], fun i h0 h1 => by omega⟩) (by subst hms; exact FP.u (FP.u (fun _ _ _ _ => rfl) eM1 (by omega)) eM5 (by omega)) (by omega)

/-! What the methods do to the core. -/
set_option maxHeartbeats 4000000 in
theorem actX3_3_c {xs : List Int32} {e : Nat} {ac : Int} {M : nM} {s gd : Int} {Ms : nM} (hS : Sf 3 ac M M) (hs : -2147483648 ≤ s ∧ s ≤ 2147483647) (hgd : M 112 0 = gd) (hms : M = Ms) : ∀ nn : Nat, (∀ (x3 x4 : Int) (M : nM), Sf 3 ac M M → (0 ≤ s ∧ s ≤ 7) → (27 ≤ x3 ∧ x3 ≤ 27) → (0 ≤ x4 ∧ x4 ≤ 27) → (M 112 0 = gd) → (TP 3 (Ms 11 s) (fun i => Ms 9 (40 * s + i)) x4 M) → (Eqc Ms M) → (¬ tooMany 3 (Ms 3 14) (fun a => Ms (55 + 3 * a) 0)) → (0 ≤ Ms 11 s) → (Ms 3 14 ≤ 7) → (M 3 14 = Ms 3 14) → (27 - x4) * 1 + 1 < (nn : Int) → nW xs (e + 2) 97 73 [some (2, 3), some (0, 3), some (0, s), some (0, x3), some (0, x4), none] [] M (nPI fun z M1 => (∃ ac2, Sf 3 ac2 M1 M1) ∧ (-2147483648 ≤ z ∧ z ≤ 2147483647) ∧ (M1 112 0 = gd) ∧ (cAct 3 3 27 s z Ms M1))) := by
  have hd : (3 : Int) = 2 ∨ (3 : Int) = 3 := by decide
  have hac := hS.2.2.2.2
  intro nn
  induction nn with
  | zero => intros; omega
  | succ nn ih =>
    intro x3 x4 M hS k2 k3 k4 hggd v0 v1 v2 v3 v4 v5 hnn
    refine n_iload c_97_73 rfl (n_iload_n c_97_75 rfl ?_)
    refine n_if2_ge c_97_76 (by omega) (by omega) ?_ ?_
    · intro h1
      refine n_aload_n c_97_130 rfl (n_getR c_97_131 sc_3.n rfl rfl rfl r_3_2 (n_aload_n c_97_134 rfl (n_getV (bi := 14) c_97_135 sc_3.n rfl rfl rfl (t_3_14x hS) ?_)))
      intro z2 ez2 f3
      have f3a := t_ac hS
      refine n_aaload c_97_138 sc_12.n rfl rfl rfl (by omega) (r_acts _) ?_
      have q4 : ActAt (55 + 3 * z2) := by unfold ActAt; omega
      have q4l : (55 + 3 * z2) = 55 + 3 * ac := by omega
      refine n_iload_n c_97_139 rfl (n_aload_n c_97_140 rfl (n_getR c_97_141 sc_3.n rfl rfl rfl r_3_13 (n_aload_n c_97_144 rfl (n_getR c_97_145 sc_3.n rfl rfl rfl r_3_0 (n_v3V c_97_148 rfl q4.c0.1.n rfl rfl rfl rfl (takeX3_3 (p := (55 + 3 * z2)) (gd := (M 112 0)) (Ms := M) hS q4 q4l rfl (by rfl)) ?_)))))
      intro  M5 hP6
      obtain ⟨hS5, f6g0, f6p0, f6p1⟩ := hP6
      refine n_aload_n c_97_151 rfl (n_v0V c_97_152 rfl sc_3.n rfl rfl rfl rfl (forgetMade_3  hS5 ) ?_)
      intro  M7 hP8
      have hS7 := hP8
      have hS7c := hS7.2.2.2.1.1
      have hS7 := hS7.refl
      have hS7k0 := hS7c 112 0 (by unfold core; omega)
      refine n_aload_n c_97_155 rfl (n_dup2 c_97_156 (n_getV (bi := 14) c_97_157 sc_3.n rfl rfl rfl (t_3_14x hS7) ?_))
      intro z9 ez9 f10
      have f10a := t_ac hS7
      refine n_dup_x102 c_97_160 (n_iconst c_97_161 (n_iadd c_97_162 rfl (n_jka (p := (55 + 3 * z2)) (v := 27) q4 ?_)))
      intro My fy jy
      have hSy := Sf.jka hS7 q4 (by omega) fy jy (by omega)
      have hNz : NAct 3 3 27 (55 + 3 * z2) (fun i => Ms 9 (40 * s + i)) My := NAct.of (by decide) (by omega) f6p0 (fun a i w1 w2 w3 => by rw [fy a i w3, hS7c a i (by unfold core; omega)]) (fun i h0 h1 => ((v0 i h0 (by omega)).1).symm)
      have hFz : ∀ a i : Int, core a i → ¬ (55 + 3 * Ms 3 14 ≤ a ∧ a ≤ 55 + 3 * Ms 3 14 + 2) → My a i = Ms a i := fun a i hc w => by rw [fy a i (by omega), hS7c a i hc, f6p1 a i hc (by omega), v1 a i hc]
      have hNA : NA 3 3 27 (55 + 3 * z2) My := NA_of (by decide) (by omega) hNz jy (fun i h0 h1 => (v0 i h0 (by omega)).2)
      have hey : My 112 0 = M7 112 0 := fy 112 0 (by omega)
      have hUp := Sf.actUp hSy (by omega) (by omega) (by omega) (by omega) (by omega) hNA
      have hUe : ((z9 + 1) : Int) = ac + 1 := by omega
      refine n_putG (P := fun M2 => Sf 3 (ac + 1) M2 M2) (bi := 14) c_97_163 sc_3.n rfl rfl rfl rfl (by rw [hUe]; exact hUp) ?_
      intro M11 eM11 hS11
      have hgz : M11 112 0 = My 112 0 := by rw [eM11]; exact nu_a (by omega)
      have hbz : (55 + 3 * z2) = 55 + 3 * Ms 3 14 := by omega
      rw [hbz] at hNz
      exact n_rI c_97_166 rfl ⟨⟨_, hS11⟩, by omega, by omega, by exact Or.inr (Or.inr (Or.inr (Or.inr ⟨by omega, by omega, by omega, by omega, v2, by omega, fun i h0 h1 => (v0 i h0 (by omega)).2, by omega, by rw [eM11, nu_s]; omega, NAct.of (by decide) (by omega) hNz (fun a i w1 w2 _ => by rw [eM11, nu_a (by omega)]) (fun _ _ _ => rfl), fun a i hc w1 w2 => by rw [eM11, nu_e, if_neg w1]; exact hFz a i hc w2⟩)))⟩
    · intro h12
      refine n_iload c_97_79 rfl (n_bipush c_97_81 rfl ?_)
      refine n_if2_ge c_97_83 (by omega) (by omega) ?_ ?_
      · intro h13
        exfalso; omega
      · intro h14
        refine n_aload_n c_97_86 rfl (n_getR c_97_87 sc_3.n rfl rfl rfl r_3_1 (n_iload_n c_97_90 rfl (n_iload c_97_91 rfl (n_aload_n c_97_93 rfl (n_getR c_97_94 sc_3.n rfl rfl rfl r_3_0 (n_getV (bi := 0) c_97_97 sc_4.n rfl rfl rfl (t_4_0 hS) ?_))))))
        intro z15 ez15 f16
        obtain rfl : z15 = 3 := by omega
        refine n_iconst c_97_100 (n_isub c_97_101 rfl ?_)
        have hcst : ((3 - 1) : Int) = 2 := by omega
        rw [hcst]
        refine n_v3I c_97_102 rfl sc_8.n rfl rfl rfl rfl (readX2_3 (s := s) (i := x4) hS (by omega) (by omega)) ?_
        intro z17 M18 hP19
        obtain ⟨eM, f19, f19p0⟩ := hP19
        subst eM
        have q11 := v1 11 s (by unfold core; omega)
        have q9 := v1 9 (40 * s + x4) (by unfold core; omega)
        refine n_istore (L2 := [some (2, 3), some (0, 3), some (0, s), some (0, x3), some (0, x4), some (0, z17)]) c_97_105 rfl rfl (n_iload c_97_107 rfl ?_)
        refine n_if0_ge c_97_109 (by omega) ?_ ?_
        · intro h20
          refine n_aload_n c_97_115 rfl (n_getR c_97_116 sc_3.n rfl rfl rfl r_3_13 (n_iload c_97_119 rfl (n_iload c_97_121 rfl (n_iastoreM hS c_97_123 sc_54.n rfl (by omega) (m_54 (by omega) (by omega)) ?_))))
          intro M21 eM21 hS21
          have g21_0 : M21 112 0 = M 112 0 := by rw [eM21]; exact nu_a (by omega)
          have g21_1 : M21 3 14 = M 3 14 := by rw [eM21]; exact nu_a (by omega)
          refine n_iinc (L2 := [some (2, 3), some (0, 3), some (0, s), some (0, x3), some (0, (x4 + 1)), some (0, z17)]) c_97_124 rfl rfl rfl (n_goto c_97_127 (n_fg (le_s (le_s (le_s (le_s (le_s (le_n le_0)))))) ?_))
          exact ih _ _ M21 hS21 (by omega) (by omega) (by omega) (by omega) (by exact TP.step v0 eM21 (by show _ = Ms 9 (40 * s + x4); omega) ⟨by omega, by show 0 ≤ Ms 9 (40 * s + x4); omega, by show Ms 9 (40 * s + x4) ≤ 3 - 1; omega⟩) (by exact Eqc.u54 v1 eM21) (by exact v2) (by exact v3) (by exact v4) (by rw [eM21, nu_a (by omega)]; exact v5) (by omega)
        · intro h22
          refine n_iload c_97_112 rfl ?_
          exact n_rI c_97_114 rfl ⟨⟨_, hS⟩, by omega, by omega, by exact Or.inr (Or.inr (Or.inr (Or.inl ⟨by omega, by omega, by omega, by omega, v2, by omega, ⟨x4, by omega, by omega, fun i h0 h1 => (v0 i h0 h1).2, by show (Ms 11 s ≤ x4 ∧ _ = -6) ∨ (x4 < Ms 11 s ∧ (Ms 9 (40 * s + x4) < 0 ∨ 3 - 1 < Ms 9 (40 * s + x4)) ∧ _ = -4); omega⟩, v1⟩)))⟩
set_option maxHeartbeats 4000000 in
theorem actX3_3 {xs : List Int32} {e : Nat} {ac : Int} {M : nM} {s gd : Int} {Ms : nM} (hS : Sf 3 ac M M) (hs : -2147483648 ≤ s ∧ s ≤ 2147483647) (hgd : M 112 0 = gd) (hms : M = Ms) : nW xs (e + 2) 97 0 [some (2, 3), some (0, 3), some (0, s), none, none, none] [] M (nPI fun z M1 => (∃ ac2, Sf 3 ac2 M1 M1) ∧ (-2147483648 ≤ z ∧ z ≤ 2147483647) ∧ (M1 112 0 = gd) ∧ (cAct 3 3 27 s z Ms M1)) := by
  have hd : (3 : Int) = 2 ∨ (3 : Int) = 3 := by decide
  have hac := hS.2.2.2.2
  refine n_aload_n c_97_0 rfl (n_getR c_97_1 sc_3.n rfl rfl rfl r_3_1 (n_iload_n c_97_4 rfl (n_v1I c_97_5 rfl sc_8.n rfl rfl rfl rfl (isSlotF_3 (s := s) hS (by omega)) ?_)))
  intro z1 M2 hP3
  obtain ⟨eM, f3, f3p0⟩ := hP3
  subst eM
  refine n_if0_eq c_97_8 (by omega) ?_ ?_
  · intro h4
    refine n_bipush c_97_19 rfl ?_
    exact n_rI c_97_21 rfl ⟨⟨_, hS⟩, by omega, by omega, by subst hms; exact Or.inl ⟨by omega, rfl, fun _ _ _ => rfl⟩⟩
  · intro h5
    refine n_aload_n c_97_11 rfl (n_iload_n c_97_12 rfl (n_v1I c_97_13 rfl sc_3.n rfl rfl rfl rfl (isPlaceCountF_3 (k := 3) hS (by omega)) ?_))
    intro z6 M7 hP8
    obtain ⟨eM, f8, f8p0⟩ := hP8
    subst eM
    refine n_if0_ne c_97_16 (by omega) ?_ ?_
    · intro h9
      refine n_aload_n c_97_22 rfl (n_getV (bi := 14) c_97_23 sc_3.n rfl rfl rfl (t_3_14x hS) ?_)
      intro z10 ez10 f11
      have f11a := t_ac hS
      refine n_bipush c_97_26 rfl ?_
      refine n_if2_ge c_97_28 (by omega) (by omega) ?_ ?_
      · intro h12
        refine n_bipush c_97_44 rfl ?_
        exact n_rI c_97_46 rfl ⟨⟨_, hS⟩, by omega, by omega, by subst hms; exact Or.inr (Or.inl ⟨by omega, by omega, by omega, by omega, by first | exact Or.inl (by omega) | exact Or.inr ⟨rfl, by omega⟩, rfl, fun _ _ _ => rfl⟩)⟩
      · intro h13
        refine n_iload_n c_97_31 rfl (n_iconst c_97_32 ?_)
        refine n_if2_ne c_97_33 (by omega) (by omega) ?_ ?_
        · intro h14
          exfalso; omega
        · intro h15
          refine n_aload_n c_97_36 rfl (n_v0I c_97_37 rfl sc_3.n rfl rfl rfl rfl (actsOfThreeX_3  hS ) ?_)
          intro z16 M17 hP18
          obtain ⟨eM, f18, f18p0⟩ := hP18
          subst eM
          refine n_iconst c_97_40 ?_
          refine n_if2_lt c_97_41 (by omega) (by omega) ?_ ?_
          · intro h19
            refine n_aload_n c_97_47 rfl (n_getR c_97_48 sc_3.n rfl rfl rfl r_3_1 (n_iload_n c_97_51 rfl (n_v1I c_97_52 rfl sc_8.n rfl rfl rfl rfl (hasRowF_3 (s := s) hS (by omega)) ?_)))
            intro z20 M21 hP22
            obtain ⟨eM, f22, f22p0⟩ := hP22
            subst eM
            refine n_if0_ne c_97_55 (by omega) ?_ ?_
            · intro h23
              refine n_aload_n c_97_61 rfl (n_getR c_97_62 sc_3.n rfl rfl rfl r_3_0 (n_iload_n c_97_65 rfl (n_v1I c_97_66 rfl sc_4.n rfl rfl rfl rfl (power3_3  hS ) ?_)))
              intro z24 M25 hP26
              obtain ⟨eM, f26⟩ := hP26
              subst eM
              obtain rfl : z24 = 27 := by omega
              refine n_istore_n (L2 := [some (2, 3), some (0, 3), some (0, s), some (0, 27), none, none]) c_97_69 rfl rfl (n_iconst c_97_70 (n_istore (L2 := [some (2, 3), some (0, 3), some (0, s), some (0, 27), some (0, 0), none]) c_97_71 rfl rfl (n_fg (le_s (le_s (le_s (le_s (le_s (le_n le_0)))))) ?_)))
              exact (actX3_3_c hS hs hgd hms 68) _ _ M hS (by omega) (by omega) (by omega) (by omega) (by exact fun j h0 h1 => by omega) (by subst hms; exact fun _ _ _ => rfl) (by subst hms; exact fun q => by rcases q with q | ⟨q1, q2⟩ <;> omega) (by subst hms; omega) (by subst hms; omega) (by subst hms; rfl) (by omega)
            · intro h27
              refine n_bipush c_97_58 rfl ?_
              exact n_rI c_97_60 rfl ⟨⟨_, hS⟩, by omega, by omega, by subst hms; exact Or.inr (Or.inr (Or.inl ⟨by omega, by omega, by omega, by omega, fun q => by rcases q with q | ⟨q1, q2⟩ <;> omega, by omega, rfl, fun _ _ _ => rfl⟩))⟩
          · intro h28
            refine n_bipush c_97_44 rfl ?_
            exact n_rI c_97_46 rfl ⟨⟨_, hS⟩, by omega, by omega, by subst hms; exact Or.inr (Or.inl ⟨by omega, by omega, by omega, by omega, by first | exact Or.inl (by omega) | exact Or.inr ⟨rfl, by omega⟩, rfl, fun _ _ _ => rfl⟩)⟩
    · intro h29
      refine n_bipush c_97_19 rfl ?_
      exact n_rI c_97_21 rfl ⟨⟨_, hS⟩, by omega, by omega, by subst hms; exact Or.inl ⟨by omega, rfl, fun _ _ _ => rfl⟩⟩

set_option maxHeartbeats 4000000 in
theorem misThingF_3 {xs : List Int32} {e : Nat} {ac : Int} {M0 M : nM} {v : Int} (hS : Sf 3 ac M0 M) (hdm : M0 112 0 = 3) (hv : -9223372036854775808 ≤ v ∧ v ≤ 9223372036854775807) : nW xs e 147 0 [some (2, 112), some (1, v), none] [] M (nPI fun z M1 => M = M1 ∧ (0 ≤ z ∧ z ≤ 1) ∧ ((z = 1 ∧ 0 ≤ v ∧ v ≤ 2) ∨ (z = 0 ∧ (v < 0 ∨ 2 < v)))) := by
  have hd : (3 : Int) = 2 ∨ (3 : Int) = 3 := by decide
  have hac := hS.2.2.2.2
  refine n_lload_n c_147_0 rfl (n_lconst (n := 0) c_147_1 rfl (n_lcmp c_147_2 ?_))
  refine n_lif_lt c_147_3 (by omega) (by omega) ?_ ?_
  · intro h1
    refine n_iconst c_147_20 ?_
    exact n_rZ c_147_21 rfl (by omega) ⟨rfl, by omega, by omega⟩
  · intro h2
    refine n_lload_n c_147_6 rfl (n_aload_n c_147_7 rfl (n_getV (bi := 0) c_147_8 sc_112.n rfl rfl rfl (t_dm hS hdm) ?_))
    intro z3 ez3 f4
    obtain rfl : z3 = 3 := by omega
    refine n_i2l c_147_11 (by omega) ?_
    refine n_lcmp c_147_12 ?_
    refine n_lif_ge c_147_13 (by omega) (by omega) ?_ ?_
    · intro h5
      refine n_iconst c_147_20 ?_
      exact n_rZ c_147_21 rfl (by omega) ⟨rfl, by omega, by omega⟩
    · intro h6
      refine n_iconst c_147_16 (n_goto c_147_17 ?_)
      exact n_rZ c_147_21 rfl (by omega) ⟨rfl, by omega, by omega⟩

set_option maxHeartbeats 4000000 in
theorem mactX1_3_c {xs : List Int32} {e : Nat} {ac : Int} {M : nM} {s gd : Int} {Ms : nM} (hS : Sf 3 ac M M) (hdm : M 112 0 = 3) (hs : -2147483648 ≤ s ∧ s ≤ 2147483647) (hgd : M 112 0 = gd) (hms : M = Ms) : ∀ nn : Nat, (∀ (x3 x4 : Int) (M : nM), Sf 3 ac M M → (0 ≤ s ∧ s ≤ 7) → (0 ≤ x3 ∧ x3 ≤ 8) → (0 ≤ x4 ∧ x4 ≤ 8) → (M 112 0 = 3) → (M 112 0 = gd) → (x3 = c3 (fun a => M 116 a) x4.toNat) → (M = Ms) → (x4 ≤ M 112 4) → (0 ≤ s ∧ s ≤ 7) → (x3 ≤ x4) → (8 - x4) * 1 + 6 < (nn : Int) → nW xs (e + 1) 148 25 [some (2, 112), some (0, 1), some (0, s), some (0, x3), some (0, x4), none] [] M (nPI fun z M1 => Sf 3 ac M1 M1 ∧ (-2147483648 ≤ z ∧ z ≤ 2147483647) ∧ (M1 112 0 = gd) ∧ (mAct 3 1 3 s z Ms M1))) ∧ (∀ (x4 x5 : Int) (M : nM), Sf 3 ac M M → (0 ≤ s ∧ s ≤ 7) → (3 ≤ x4 ∧ x4 ≤ 3) → (0 ≤ x5 ∧ x5 ≤ 3) → (M 112 0 = 3) → (M 112 0 = gd) → (TQ 3 (Ms 113 s - 1) (fun i => Ms 115 (40 * s + i)) (Ms 112 4) x5 M) → (FA (Ms 112 4) Ms M) → (¬ (Ms 112 4 = 8 ∨ ((1 : Int) = 3 ∧ c3 (fun a => Ms 116 a) (Ms 112 4).toNat = 2))) → (Ms 113 s ≠ 0) → (Ms 112 4 ≤ 7) → (M 112 4 = Ms 112 4) → (3 - x5) * 1 + 1 < (nn : Int) → nW xs (e + 1) 148 106 [some (2, 112), some (0, 1), some (0, s), none, some (0, x4), some (0, x5)] [] M (nPI fun z M1 => Sf 3 ac M1 M1 ∧ (-2147483648 ≤ z ∧ z ≤ 2147483647) ∧ (M1 112 0 = gd) ∧ (mAct 3 1 3 s z Ms M1))) := by
  have hd : (3 : Int) = 2 ∨ (3 : Int) = 3 := by decide
  have hac := hS.2.2.2.2
  intro nn
  induction nn with
  | zero => refine ⟨?_, ?_⟩ <;> (intros; omega)
  | succ nn ih =>
    refine ⟨?_, ?_⟩
    · intro x3 x4 M hS k2 k3 k4 hdm hggd v0 v1 v2 v3 v4 hnn
      refine n_iload c_148_25 rfl (n_aload_n c_148_27 rfl (n_getV (bi := 4) c_148_28 sc_112.n rfl rfl rfl (t_112_4 hS) ?_))
      intro z1 ez1 f2
      refine n_if2_ge c_148_31 (by omega) (by omega) ?_ ?_
      · intro h3
        refine n_aload_n c_148_59 rfl (n_getV (bi := 4) c_148_60 sc_112.n rfl rfl rfl (t_112_4 hS) ?_)
        intro z4 ez4 f5
        have q4 : x4 = M 112 4 := by omega
        rw [q4] at v0
        refine n_bipush c_148_63 rfl ?_
        refine n_if2_eq c_148_65 (by omega) (by omega) ?_ ?_
        · intro h6
          refine n_bipush c_148_78 rfl ?_
          exact n_rI c_148_80 rfl ⟨hS, by omega, by omega, by subst v1; exact Or.inr (Or.inl ⟨by omega, by omega, by omega, by omega, by first | exact Or.inl (by omega) | exact Or.inr ⟨rfl, by omega⟩, rfl, fun _ _ _ => rfl⟩)⟩
        · intro h7
          refine n_iload_n c_148_68 rfl (n_iconst c_148_69 ?_)
          refine n_if2_ne c_148_70 (by omega) (by omega) ?_ ?_
          · intro h8
            refine n_aload_n c_148_81 rfl (n_getR c_148_82 sc_112.n rfl rfl rfl r_112_1 (n_iload_n c_148_85 rfl (n_ialoadV c_148_86 sc_113.n rfl rfl rfl (by omega) (t_113 hS (by omega)) ?_)))
            intro z9 ez9 f10
            refine n_if0_ne c_148_87 (by omega) ?_ ?_
            · intro h11
              refine n_aload_n c_148_93 rfl (n_getV (bi := 0) c_148_94 sc_112.n rfl rfl rfl (show 3 ≤ M 112 0 ∧ M 112 0 ≤ 3 by omega) ?_)
              intro z12 ez12 f13
              obtain rfl : z12 = 3 := by omega
              refine n_iload_n c_148_97 rfl (n_s2I c_148_98 rfl rfl rfl rfl (mpower1_3  hS ) ?_)
              intro z14 M15 hP16
              obtain ⟨eM, f16⟩ := hP16
              subst eM
              obtain rfl : z14 = 3 := by omega
              refine n_istore (L2 := [some (2, 112), some (0, 1), some (0, s), some (0, x3), some (0, 3), none]) c_148_101 rfl rfl (n_iconst c_148_103 (n_istore (L2 := [some (2, 112), some (0, 1), some (0, s), some (0, x3), some (0, 3), some (0, 0)]) c_148_104 rfl rfl (n_fg (le_s (le_s (le_s (le_n (le_s (le_s le_0)))))) ?_)))
              exact ih.2 _ _ M hS (by omega) (by omega) (by omega) (by omega) (by omega) (by exact fun j h0 h1 => by omega) (by subst v1; exact fun _ _ _ _ => rfl) (by subst v1; exact fun q => by rcases q with q | ⟨q1, q2⟩ <;> omega) (by subst v1; omega) (by subst v1; omega) (by subst v1; rfl) (by omega)
            · intro h17
              refine n_bipush c_148_90 rfl ?_
              exact n_rI c_148_92 rfl ⟨hS, by omega, by omega, by subst v1; exact Or.inr (Or.inr (Or.inl ⟨by omega, by omega, by omega, by omega, fun q => by rcases q with q | ⟨q1, q2⟩ <;> omega, by omega, rfl, fun _ _ _ => rfl⟩))⟩
          · intro h18
            exfalso; omega
      · intro h19
        refine n_iload_n c_148_34 rfl (n_aload_n c_148_35 rfl (n_getR c_148_36 sc_112.n rfl rfl rfl r_112_5 (n_iload c_148_39 rfl (n_ialoadV c_148_41 sc_116.n rfl rfl rfl (by omega) (t_116 hS (by omega)) ?_))))
        intro z20 ez20 f21
        refine n_iconst c_148_42 ?_
        refine n_if2_ne c_148_43 (by omega) (by omega) ?_ ?_
        · intro h22
          refine n_iconst c_148_50 (n_iadd c_148_51 rfl (n_istore_n (L2 := [some (2, 112), some (0, 1), some (0, s), some (0, (x3 + 0)), some (0, x4), none]) c_148_52 rfl rfl (n_iinc (L2 := [some (2, 112), some (0, 1), some (0, s), some (0, (x3 + 0)), some (0, (x4 + 1)), none]) c_148_53 rfl rfl rfl (n_goto c_148_56 (n_fg (le_s (le_s (le_s (le_s (le_s (le_n le_0)))))) ?_)))))
          exact ih.1 _ _ M hS (by omega) (by omega) (by omega) (by omega) (by omega) (by rw [c3_step (by omega)]; show _ = _ + (if M 116 x4 = 3 then 1 else 0); split <;> omega) (by exact v1) (by have := t_112_4 hS; omega) (by omega) (by omega) (by omega)
        · intro h23
          refine n_iconst c_148_46 (n_goto c_148_47 (n_iadd c_148_51 rfl (n_istore_n (L2 := [some (2, 112), some (0, 1), some (0, s), some (0, (x3 + 1)), some (0, x4), none]) c_148_52 rfl rfl (n_iinc (L2 := [some (2, 112), some (0, 1), some (0, s), some (0, (x3 + 1)), some (0, (x4 + 1)), none]) c_148_53 rfl rfl rfl (n_goto c_148_56 (n_fg (le_s (le_s (le_s (le_s (le_s (le_n le_0)))))) ?_))))))
          exact ih.1 _ _ M hS (by omega) (by omega) (by omega) (by omega) (by omega) (by rw [c3_step (by omega)]; show _ = _ + (if M 116 x4 = 3 then 1 else 0); split <;> omega) (by exact v1) (by have := t_112_4 hS; omega) (by omega) (by omega) (by omega)
    · intro x4 x5 M hS k2 k4 k5 hdm hggd v0 v1 v2 v3 v4 v5 hnn
      refine n_iload c_148_106 rfl (n_iload c_148_108 rfl ?_)
      refine n_if2_ge c_148_110 (by omega) (by omega) ?_ ?_
      · intro h1
        refine n_aload_n c_148_185 rfl (n_getR c_148_186 sc_112.n rfl rfl rfl r_112_5 (n_aload_n c_148_189 rfl (n_getV (bi := 4) c_148_190 sc_112.n rfl rfl rfl (t_112_4 hS) ?_)))
        intro z2 ez2 f3
        refine n_iload_n c_148_193 rfl (n_iastoreM hS c_148_194 sc_116.n rfl (by omega) (m_116 (by omega) (by omega)) ?_)
        intro M4 eM4 hS4
        have g4_0 : M4 112 0 = M 112 0 := by rw [eM4]; exact nu_a (by omega)
        have g4_1 : M4 112 4 = M 112 4 := by rw [eM4]; exact nu_a (by omega)
        refine n_aload_n c_148_195 rfl (n_dup2 c_148_196 (n_getV (bi := 4) c_148_197 sc_112.n rfl rfl rfl (t_112_4 hS4) ?_))
        intro z5 ez5 f6
        refine n_iconst c_148_200 (n_iadd c_148_201 rfl (n_putM (bi := 4) hS4 c_148_202 sc_112.n rfl rfl rfl rfl (m_112_4 (by omega)) ?_))
        intro M7 eM7 hS7
        have g7_0 : M7 112 0 = M4 112 0 := by rw [eM7]; exact nu_i (by omega)
        have g7_1 : M7 112 4 = (z5 + 1) := by rw [eM7]; exact nu_s _ _ _ _
        refine n_aload_n c_148_205 rfl (n_v0V c_148_206 rfl sc_112.n rfl rfl rfl rfl (changed_3  hS7 (by omega)) ?_)
        intro  M8 hP9
        have hS8 := hP9
        have hS8c := hS8.2.2.2.1.1
        have hS8 := hS8.refl
        have hS8k0 := hS8c 112 0 (by unfold core; omega)
        have hS8k1 := hS8c 112 4 (by unfold core; omega)
        refine n_aload_n c_148_209 rfl (n_getV (bi := 4) c_148_210 sc_112.n rfl rfl rfl (t_112_4 hS8) ?_)
        intro z10 ez10 f11
        refine n_iconst c_148_213 (n_isub c_148_214 rfl ?_)
        exact n_rI c_148_215 rfl ⟨hS8, by omega, by omega, by exact Or.inr (Or.inr (Or.inr (Or.inr ⟨by omega, by omega, by omega, by omega, v2, by omega, fun i h0 h1 => (v0 i h0 (by omega)).2, by omega, by omega, by rw [hS8c 116 _ (by unfold core; omega), eM7, nu_a (by omega), eM4, nu_e, if_pos (by omega)], fun i h0 h1 => by rw [hS8c 117 _ (by unfold core; omega), eM7, nu_a (by omega), eM4, nu_a (by omega)]; exact (v0 i h0 (by omega)).1, fun a i hc w1 w2 w3 => by rw [hS8c a i hc, eM7, nu_e, if_neg w1, eM4, nu_e, if_neg (by omega)]; exact v1 a i hc w3⟩)))⟩
      · intro h12
        refine n_iload c_148_113 rfl (n_aload_n c_148_115 rfl (n_getR c_148_116 sc_112.n rfl rfl rfl r_112_1 (n_iload_n c_148_119 rfl (n_ialoadV c_148_120 sc_113.n rfl rfl rfl (by omega) (t_113 hS (by omega)) ?_))))
        intro z13 ez13 f14
        have q13 := v1 113 s (by unfold core; omega) (by omega)
        have q15 := v1 115 (40 * s + x5) (by unfold core; omega) (by omega)
        refine n_iconst c_148_121 (n_isub c_148_122 rfl ?_)
        refine n_if2_lt c_148_123 (by omega) (by omega) ?_ ?_
        · intro h15
          refine n_aload_n c_148_129 rfl (n_aload_n c_148_130 rfl (n_getR c_148_131 sc_112.n rfl rfl rfl r_112_3 (n_bipush c_148_134 rfl (n_iload_n c_148_136 rfl (n_imul c_148_137 rfl (n_iload c_148_138 rfl (n_iadd c_148_140 rfl (n_laloadV c_148_141 sc_115.n rfl rfl rfl (by omega) (t_115 hS (by omega)) ?_))))))))
          intro z16 ez16 f17
          refine n_v1I c_148_142 rfl sc_112.n rfl rfl rfl rfl (misThingF_3 (v := z16) hS (by omega) (by omega)) ?_
          intro z18 M19 hP20
          obtain ⟨eM, f20, f20p0⟩ := hP20
          subst eM
          refine n_if0_ne c_148_145 (by omega) ?_ ?_
          · intro h21
            refine n_aload_n c_148_151 rfl (n_getR c_148_152 sc_112.n rfl rfl rfl r_112_6 (n_bipush c_148_155 rfl (n_aload_n c_148_157 rfl (n_getV (bi := 4) c_148_158 sc_112.n rfl rfl rfl (t_112_4 hS) ?_))))
            intro z22 ez22 f23
            refine n_imul c_148_161 rfl (n_iload c_148_162 rfl (n_iadd c_148_164 rfl (n_aload_n c_148_165 rfl (n_getR c_148_166 sc_112.n rfl rfl rfl r_112_3 (n_bipush c_148_169 rfl (n_iload_n c_148_171 rfl (n_imul c_148_172 rfl (n_iload c_148_173 rfl (n_iadd c_148_175 rfl (n_laloadV c_148_176 sc_115.n rfl rfl rfl (by omega) (t_115 hS (by omega)) ?_))))))))))
            intro z24 ez24 f25
            refine n_l2i c_148_177 (n_iastoreM hS c_148_178 sc_117.n rfl (by omega) (m_117 (by omega) (by omega)) ?_)
            intro M26 eM26 hS26
            have g26_0 : M26 112 0 = M 112 0 := by rw [eM26]; exact nu_a (by omega)
            have g26_1 : M26 112 4 = M 112 4 := by rw [eM26]; exact nu_a (by omega)
            have g26_2 : M26 115 ((40 * s) + x5) = M 115 ((40 * s) + x5) := by rw [eM26]; exact nu_a (by omega)
            refine n_iinc (L2 := [some (2, 112), some (0, 1), some (0, s), none, some (0, x4), some (0, (x5 + 1))]) c_148_179 rfl rfl rfl (n_goto c_148_182 (n_fg (le_s (le_s (le_s (le_n (le_s (le_s le_0)))))) ?_))
            exact ih.2 _ _ M26 hS26 (by omega) (by omega) (by omega) (by omega) (by omega) (by exact TQ.step v0 eM26 (by omega) (by show _ = Ms 115 (40 * s + x5); omega) ⟨by omega, by show 0 ≤ Ms 115 (40 * s + x5); omega, by show Ms 115 (40 * s + x5) ≤ 3 - 1; omega⟩) (by exact FA.u v1 eM26 (by omega)) (by exact v2) (by exact v3) (by exact v4) (by rw [eM26, nu_a (by omega)]; exact v5) (by omega)
          · intro h27
            refine n_bipush c_148_148 rfl ?_
            exact n_rI c_148_150 rfl ⟨hS, by omega, by omega, by exact Or.inr (Or.inr (Or.inr (Or.inl ⟨by omega, by omega, by omega, by omega, v2, by omega, ⟨x5, by omega, by omega, fun i h0 h1 => (v0 i h0 h1).2, by show (Ms 113 s - 1 ≤ x5 ∧ _ = -6) ∨ (x5 < Ms 113 s - 1 ∧ (Ms 115 (40 * s + x5) < 0 ∨ 3 - 1 < Ms 115 (40 * s + x5)) ∧ _ = -4); omega⟩, v1⟩)))⟩
        · intro h28
          refine n_bipush c_148_126 rfl ?_
          exact n_rI c_148_128 rfl ⟨hS, by omega, by omega, by exact Or.inr (Or.inr (Or.inr (Or.inl ⟨by omega, by omega, by omega, by omega, v2, by omega, ⟨x5, by omega, by omega, fun i h0 h1 => (v0 i h0 h1).2, by show (Ms 113 s - 1 ≤ x5 ∧ _ = -6) ∨ (x5 < Ms 113 s - 1 ∧ (Ms 115 (40 * s + x5) < 0 ∨ 3 - 1 < Ms 115 (40 * s + x5)) ∧ _ = -4); omega⟩, v1⟩)))⟩
set_option maxHeartbeats 4000000 in
theorem mactX1_3 {xs : List Int32} {e : Nat} {ac : Int} {M : nM} {s gd : Int} {Ms : nM} (hS : Sf 3 ac M M) (hdm : M 112 0 = 3) (hs : -2147483648 ≤ s ∧ s ≤ 2147483647) (hgd : M 112 0 = gd) (hms : M = Ms) : nW xs (e + 1) 148 0 [some (2, 112), some (0, 1), some (0, s), none, none, none] [] M (nPI fun z M1 => Sf 3 ac M1 M1 ∧ (-2147483648 ≤ z ∧ z ≤ 2147483647) ∧ (M1 112 0 = gd) ∧ (mAct 3 1 3 s z Ms M1)) := by
  have hd : (3 : Int) = 2 ∨ (3 : Int) = 3 := by decide
  have hac := hS.2.2.2.2
  refine n_iload_n c_148_0 rfl (n_s1I c_148_1 rfl rfl rfl rfl (misSlotF_3 (s := s) hS (by omega)) ?_)
  intro z1 M2 hP3
  obtain ⟨eM, f3, f3p0⟩ := hP3
  subst eM
  refine n_if0_eq c_148_4 (by omega) ?_ ?_
  · intro h4
    refine n_bipush c_148_17 rfl ?_
    exact n_rI c_148_19 rfl ⟨hS, by omega, by omega, by subst hms; exact Or.inl ⟨by omega, rfl, fun _ _ _ => rfl⟩⟩
  · intro h5
    refine n_iload_n c_148_7 rfl (n_iconst c_148_8 ?_)
    refine n_if2_lt c_148_9 (by omega) (by omega) ?_ ?_
    · intro h6
      exfalso; omega
    · intro h7
      refine n_iload_n c_148_12 rfl (n_iconst c_148_13 ?_)
      refine n_if2_le c_148_14 (by omega) (by omega) ?_ ?_
      · intro h8
        refine n_iconst c_148_20 (n_istore_n (L2 := [some (2, 112), some (0, 1), some (0, s), some (0, 0), none, none]) c_148_21 rfl rfl (n_iconst c_148_22 (n_istore (L2 := [some (2, 112), some (0, 1), some (0, s), some (0, 0), some (0, 0), none]) c_148_23 rfl rfl (n_fg (le_s (le_s (le_s (le_s (le_s (le_n le_0)))))) ?_))))
        exact (mactX1_3_c hS hdm hs hgd hms 40).1 _ _ M hS (by omega) (by omega) (by omega) (by omega) (by omega) (by rfl) (by exact hms) (by have := t_112_4 hS; omega) (by omega) (by omega) (by omega)
      · intro h9
        exfalso; omega

set_option maxHeartbeats 4000000 in
theorem mactX2_3_c {xs : List Int32} {e : Nat} {ac : Int} {M : nM} {s gd : Int} {Ms : nM} (hS : Sf 3 ac M M) (hdm : M 112 0 = 3) (hs : -2147483648 ≤ s ∧ s ≤ 2147483647) (hgd : M 112 0 = gd) (hms : M = Ms) : ∀ nn : Nat, (∀ (x3 x4 : Int) (M : nM), Sf 3 ac M M → (0 ≤ s ∧ s ≤ 7) → (0 ≤ x3 ∧ x3 ≤ 8) → (0 ≤ x4 ∧ x4 ≤ 8) → (M 112 0 = 3) → (M 112 0 = gd) → (x3 = c3 (fun a => M 116 a) x4.toNat) → (M = Ms) → (x4 ≤ M 112 4) → (0 ≤ s ∧ s ≤ 7) → (x3 ≤ x4) → (8 - x4) * 1 + 12 < (nn : Int) → nW xs (e + 1) 148 25 [some (2, 112), some (0, 2), some (0, s), some (0, x3), some (0, x4), none] [] M (nPI fun z M1 => Sf 3 ac M1 M1 ∧ (-2147483648 ≤ z ∧ z ≤ 2147483647) ∧ (M1 112 0 = gd) ∧ (mAct 3 2 9 s z Ms M1))) ∧ (∀ (x4 x5 : Int) (M : nM), Sf 3 ac M M → (0 ≤ s ∧ s ≤ 7) → (9 ≤ x4 ∧ x4 ≤ 9) → (0 ≤ x5 ∧ x5 ≤ 9) → (M 112 0 = 3) → (M 112 0 = gd) → (TQ 3 (Ms 113 s - 1) (fun i => Ms 115 (40 * s + i)) (Ms 112 4) x5 M) → (FA (Ms 112 4) Ms M) → (¬ (Ms 112 4 = 8 ∨ ((2 : Int) = 3 ∧ c3 (fun a => Ms 116 a) (Ms 112 4).toNat = 2))) → (Ms 113 s ≠ 0) → (Ms 112 4 ≤ 7) → (M 112 4 = Ms 112 4) → (9 - x5) * 1 + 1 < (nn : Int) → nW xs (e + 1) 148 106 [some (2, 112), some (0, 2), some (0, s), none, some (0, x4), some (0, x5)] [] M (nPI fun z M1 => Sf 3 ac M1 M1 ∧ (-2147483648 ≤ z ∧ z ≤ 2147483647) ∧ (M1 112 0 = gd) ∧ (mAct 3 2 9 s z Ms M1))) := by
  have hd : (3 : Int) = 2 ∨ (3 : Int) = 3 := by decide
  have hac := hS.2.2.2.2
  intro nn
  induction nn with
  | zero => refine ⟨?_, ?_⟩ <;> (intros; omega)
  | succ nn ih =>
    refine ⟨?_, ?_⟩
    · intro x3 x4 M hS k2 k3 k4 hdm hggd v0 v1 v2 v3 v4 hnn
      refine n_iload c_148_25 rfl (n_aload_n c_148_27 rfl (n_getV (bi := 4) c_148_28 sc_112.n rfl rfl rfl (t_112_4 hS) ?_))
      intro z1 ez1 f2
      refine n_if2_ge c_148_31 (by omega) (by omega) ?_ ?_
      · intro h3
        refine n_aload_n c_148_59 rfl (n_getV (bi := 4) c_148_60 sc_112.n rfl rfl rfl (t_112_4 hS) ?_)
        intro z4 ez4 f5
        have q4 : x4 = M 112 4 := by omega
        rw [q4] at v0
        refine n_bipush c_148_63 rfl ?_
        refine n_if2_eq c_148_65 (by omega) (by omega) ?_ ?_
        · intro h6
          refine n_bipush c_148_78 rfl ?_
          exact n_rI c_148_80 rfl ⟨hS, by omega, by omega, by subst v1; exact Or.inr (Or.inl ⟨by omega, by omega, by omega, by omega, by first | exact Or.inl (by omega) | exact Or.inr ⟨rfl, by omega⟩, rfl, fun _ _ _ => rfl⟩)⟩
        · intro h7
          refine n_iload_n c_148_68 rfl (n_iconst c_148_69 ?_)
          refine n_if2_ne c_148_70 (by omega) (by omega) ?_ ?_
          · intro h8
            refine n_aload_n c_148_81 rfl (n_getR c_148_82 sc_112.n rfl rfl rfl r_112_1 (n_iload_n c_148_85 rfl (n_ialoadV c_148_86 sc_113.n rfl rfl rfl (by omega) (t_113 hS (by omega)) ?_)))
            intro z9 ez9 f10
            refine n_if0_ne c_148_87 (by omega) ?_ ?_
            · intro h11
              refine n_aload_n c_148_93 rfl (n_getV (bi := 0) c_148_94 sc_112.n rfl rfl rfl (show 3 ≤ M 112 0 ∧ M 112 0 ≤ 3 by omega) ?_)
              intro z12 ez12 f13
              obtain rfl : z12 = 3 := by omega
              refine n_iload_n c_148_97 rfl (n_s2I c_148_98 rfl rfl rfl rfl (mpower2_3  hS ) ?_)
              intro z14 M15 hP16
              obtain ⟨eM, f16⟩ := hP16
              subst eM
              obtain rfl : z14 = 9 := by omega
              refine n_istore (L2 := [some (2, 112), some (0, 2), some (0, s), some (0, x3), some (0, 9), none]) c_148_101 rfl rfl (n_iconst c_148_103 (n_istore (L2 := [some (2, 112), some (0, 2), some (0, s), some (0, x3), some (0, 9), some (0, 0)]) c_148_104 rfl rfl (n_fg (le_s (le_s (le_s (le_n (le_s (le_s le_0)))))) ?_)))
              exact ih.2 _ _ M hS (by omega) (by omega) (by omega) (by omega) (by omega) (by exact fun j h0 h1 => by omega) (by subst v1; exact fun _ _ _ _ => rfl) (by subst v1; exact fun q => by rcases q with q | ⟨q1, q2⟩ <;> omega) (by subst v1; omega) (by subst v1; omega) (by subst v1; rfl) (by omega)
            · intro h17
              refine n_bipush c_148_90 rfl ?_
              exact n_rI c_148_92 rfl ⟨hS, by omega, by omega, by subst v1; exact Or.inr (Or.inr (Or.inl ⟨by omega, by omega, by omega, by omega, fun q => by rcases q with q | ⟨q1, q2⟩ <;> omega, by omega, rfl, fun _ _ _ => rfl⟩))⟩
          · intro h18
            exfalso; omega
      · intro h19
        refine n_iload_n c_148_34 rfl (n_aload_n c_148_35 rfl (n_getR c_148_36 sc_112.n rfl rfl rfl r_112_5 (n_iload c_148_39 rfl (n_ialoadV c_148_41 sc_116.n rfl rfl rfl (by omega) (t_116 hS (by omega)) ?_))))
        intro z20 ez20 f21
        refine n_iconst c_148_42 ?_
        refine n_if2_ne c_148_43 (by omega) (by omega) ?_ ?_
        · intro h22
          refine n_iconst c_148_50 (n_iadd c_148_51 rfl (n_istore_n (L2 := [some (2, 112), some (0, 2), some (0, s), some (0, (x3 + 0)), some (0, x4), none]) c_148_52 rfl rfl (n_iinc (L2 := [some (2, 112), some (0, 2), some (0, s), some (0, (x3 + 0)), some (0, (x4 + 1)), none]) c_148_53 rfl rfl rfl (n_goto c_148_56 (n_fg (le_s (le_s (le_s (le_s (le_s (le_n le_0)))))) ?_)))))
          exact ih.1 _ _ M hS (by omega) (by omega) (by omega) (by omega) (by omega) (by rw [c3_step (by omega)]; show _ = _ + (if M 116 x4 = 3 then 1 else 0); split <;> omega) (by exact v1) (by have := t_112_4 hS; omega) (by omega) (by omega) (by omega)
        · intro h23
          refine n_iconst c_148_46 (n_goto c_148_47 (n_iadd c_148_51 rfl (n_istore_n (L2 := [some (2, 112), some (0, 2), some (0, s), some (0, (x3 + 1)), some (0, x4), none]) c_148_52 rfl rfl (n_iinc (L2 := [some (2, 112), some (0, 2), some (0, s), some (0, (x3 + 1)), some (0, (x4 + 1)), none]) c_148_53 rfl rfl rfl (n_goto c_148_56 (n_fg (le_s (le_s (le_s (le_s (le_s (le_n le_0)))))) ?_))))))
          exact ih.1 _ _ M hS (by omega) (by omega) (by omega) (by omega) (by omega) (by rw [c3_step (by omega)]; show _ = _ + (if M 116 x4 = 3 then 1 else 0); split <;> omega) (by exact v1) (by have := t_112_4 hS; omega) (by omega) (by omega) (by omega)
    · intro x4 x5 M hS k2 k4 k5 hdm hggd v0 v1 v2 v3 v4 v5 hnn
      refine n_iload c_148_106 rfl (n_iload c_148_108 rfl ?_)
      refine n_if2_ge c_148_110 (by omega) (by omega) ?_ ?_
      · intro h1
        refine n_aload_n c_148_185 rfl (n_getR c_148_186 sc_112.n rfl rfl rfl r_112_5 (n_aload_n c_148_189 rfl (n_getV (bi := 4) c_148_190 sc_112.n rfl rfl rfl (t_112_4 hS) ?_)))
        intro z2 ez2 f3
        refine n_iload_n c_148_193 rfl (n_iastoreM hS c_148_194 sc_116.n rfl (by omega) (m_116 (by omega) (by omega)) ?_)
        intro M4 eM4 hS4
        have g4_0 : M4 112 0 = M 112 0 := by rw [eM4]; exact nu_a (by omega)
        have g4_1 : M4 112 4 = M 112 4 := by rw [eM4]; exact nu_a (by omega)
        refine n_aload_n c_148_195 rfl (n_dup2 c_148_196 (n_getV (bi := 4) c_148_197 sc_112.n rfl rfl rfl (t_112_4 hS4) ?_))
        intro z5 ez5 f6
        refine n_iconst c_148_200 (n_iadd c_148_201 rfl (n_putM (bi := 4) hS4 c_148_202 sc_112.n rfl rfl rfl rfl (m_112_4 (by omega)) ?_))
        intro M7 eM7 hS7
        have g7_0 : M7 112 0 = M4 112 0 := by rw [eM7]; exact nu_i (by omega)
        have g7_1 : M7 112 4 = (z5 + 1) := by rw [eM7]; exact nu_s _ _ _ _
        refine n_aload_n c_148_205 rfl (n_v0V c_148_206 rfl sc_112.n rfl rfl rfl rfl (changed_3  hS7 (by omega)) ?_)
        intro  M8 hP9
        have hS8 := hP9
        have hS8c := hS8.2.2.2.1.1
        have hS8 := hS8.refl
        have hS8k0 := hS8c 112 0 (by unfold core; omega)
        have hS8k1 := hS8c 112 4 (by unfold core; omega)
        refine n_aload_n c_148_209 rfl (n_getV (bi := 4) c_148_210 sc_112.n rfl rfl rfl (t_112_4 hS8) ?_)
        intro z10 ez10 f11
        refine n_iconst c_148_213 (n_isub c_148_214 rfl ?_)
        exact n_rI c_148_215 rfl ⟨hS8, by omega, by omega, by exact Or.inr (Or.inr (Or.inr (Or.inr ⟨by omega, by omega, by omega, by omega, v2, by omega, fun i h0 h1 => (v0 i h0 (by omega)).2, by omega, by omega, by rw [hS8c 116 _ (by unfold core; omega), eM7, nu_a (by omega), eM4, nu_e, if_pos (by omega)], fun i h0 h1 => by rw [hS8c 117 _ (by unfold core; omega), eM7, nu_a (by omega), eM4, nu_a (by omega)]; exact (v0 i h0 (by omega)).1, fun a i hc w1 w2 w3 => by rw [hS8c a i hc, eM7, nu_e, if_neg w1, eM4, nu_e, if_neg (by omega)]; exact v1 a i hc w3⟩)))⟩
      · intro h12
        refine n_iload c_148_113 rfl (n_aload_n c_148_115 rfl (n_getR c_148_116 sc_112.n rfl rfl rfl r_112_1 (n_iload_n c_148_119 rfl (n_ialoadV c_148_120 sc_113.n rfl rfl rfl (by omega) (t_113 hS (by omega)) ?_))))
        intro z13 ez13 f14
        have q13 := v1 113 s (by unfold core; omega) (by omega)
        have q15 := v1 115 (40 * s + x5) (by unfold core; omega) (by omega)
        refine n_iconst c_148_121 (n_isub c_148_122 rfl ?_)
        refine n_if2_lt c_148_123 (by omega) (by omega) ?_ ?_
        · intro h15
          refine n_aload_n c_148_129 rfl (n_aload_n c_148_130 rfl (n_getR c_148_131 sc_112.n rfl rfl rfl r_112_3 (n_bipush c_148_134 rfl (n_iload_n c_148_136 rfl (n_imul c_148_137 rfl (n_iload c_148_138 rfl (n_iadd c_148_140 rfl (n_laloadV c_148_141 sc_115.n rfl rfl rfl (by omega) (t_115 hS (by omega)) ?_))))))))
          intro z16 ez16 f17
          refine n_v1I c_148_142 rfl sc_112.n rfl rfl rfl rfl (misThingF_3 (v := z16) hS (by omega) (by omega)) ?_
          intro z18 M19 hP20
          obtain ⟨eM, f20, f20p0⟩ := hP20
          subst eM
          refine n_if0_ne c_148_145 (by omega) ?_ ?_
          · intro h21
            refine n_aload_n c_148_151 rfl (n_getR c_148_152 sc_112.n rfl rfl rfl r_112_6 (n_bipush c_148_155 rfl (n_aload_n c_148_157 rfl (n_getV (bi := 4) c_148_158 sc_112.n rfl rfl rfl (t_112_4 hS) ?_))))
            intro z22 ez22 f23
            refine n_imul c_148_161 rfl (n_iload c_148_162 rfl (n_iadd c_148_164 rfl (n_aload_n c_148_165 rfl (n_getR c_148_166 sc_112.n rfl rfl rfl r_112_3 (n_bipush c_148_169 rfl (n_iload_n c_148_171 rfl (n_imul c_148_172 rfl (n_iload c_148_173 rfl (n_iadd c_148_175 rfl (n_laloadV c_148_176 sc_115.n rfl rfl rfl (by omega) (t_115 hS (by omega)) ?_))))))))))
            intro z24 ez24 f25
            refine n_l2i c_148_177 (n_iastoreM hS c_148_178 sc_117.n rfl (by omega) (m_117 (by omega) (by omega)) ?_)
            intro M26 eM26 hS26
            have g26_0 : M26 112 0 = M 112 0 := by rw [eM26]; exact nu_a (by omega)
            have g26_1 : M26 112 4 = M 112 4 := by rw [eM26]; exact nu_a (by omega)
            have g26_2 : M26 115 ((40 * s) + x5) = M 115 ((40 * s) + x5) := by rw [eM26]; exact nu_a (by omega)
            refine n_iinc (L2 := [some (2, 112), some (0, 2), some (0, s), none, some (0, x4), some (0, (x5 + 1))]) c_148_179 rfl rfl rfl (n_goto c_148_182 (n_fg (le_s (le_s (le_s (le_n (le_s (le_s le_0)))))) ?_))
            exact ih.2 _ _ M26 hS26 (by omega) (by omega) (by omega) (by omega) (by omega) (by exact TQ.step v0 eM26 (by omega) (by show _ = Ms 115 (40 * s + x5); omega) ⟨by omega, by show 0 ≤ Ms 115 (40 * s + x5); omega, by show Ms 115 (40 * s + x5) ≤ 3 - 1; omega⟩) (by exact FA.u v1 eM26 (by omega)) (by exact v2) (by exact v3) (by exact v4) (by rw [eM26, nu_a (by omega)]; exact v5) (by omega)
          · intro h27
            refine n_bipush c_148_148 rfl ?_
            exact n_rI c_148_150 rfl ⟨hS, by omega, by omega, by exact Or.inr (Or.inr (Or.inr (Or.inl ⟨by omega, by omega, by omega, by omega, v2, by omega, ⟨x5, by omega, by omega, fun i h0 h1 => (v0 i h0 h1).2, by show (Ms 113 s - 1 ≤ x5 ∧ _ = -6) ∨ (x5 < Ms 113 s - 1 ∧ (Ms 115 (40 * s + x5) < 0 ∨ 3 - 1 < Ms 115 (40 * s + x5)) ∧ _ = -4); omega⟩, v1⟩)))⟩
        · intro h28
          refine n_bipush c_148_126 rfl ?_
          exact n_rI c_148_128 rfl ⟨hS, by omega, by omega, by exact Or.inr (Or.inr (Or.inr (Or.inl ⟨by omega, by omega, by omega, by omega, v2, by omega, ⟨x5, by omega, by omega, fun i h0 h1 => (v0 i h0 h1).2, by show (Ms 113 s - 1 ≤ x5 ∧ _ = -6) ∨ (x5 < Ms 113 s - 1 ∧ (Ms 115 (40 * s + x5) < 0 ∨ 3 - 1 < Ms 115 (40 * s + x5)) ∧ _ = -4); omega⟩, v1⟩)))⟩
set_option maxHeartbeats 4000000 in
theorem mactX2_3 {xs : List Int32} {e : Nat} {ac : Int} {M : nM} {s gd : Int} {Ms : nM} (hS : Sf 3 ac M M) (hdm : M 112 0 = 3) (hs : -2147483648 ≤ s ∧ s ≤ 2147483647) (hgd : M 112 0 = gd) (hms : M = Ms) : nW xs (e + 1) 148 0 [some (2, 112), some (0, 2), some (0, s), none, none, none] [] M (nPI fun z M1 => Sf 3 ac M1 M1 ∧ (-2147483648 ≤ z ∧ z ≤ 2147483647) ∧ (M1 112 0 = gd) ∧ (mAct 3 2 9 s z Ms M1)) := by
  have hd : (3 : Int) = 2 ∨ (3 : Int) = 3 := by decide
  have hac := hS.2.2.2.2
  refine n_iload_n c_148_0 rfl (n_s1I c_148_1 rfl rfl rfl rfl (misSlotF_3 (s := s) hS (by omega)) ?_)
  intro z1 M2 hP3
  obtain ⟨eM, f3, f3p0⟩ := hP3
  subst eM
  refine n_if0_eq c_148_4 (by omega) ?_ ?_
  · intro h4
    refine n_bipush c_148_17 rfl ?_
    exact n_rI c_148_19 rfl ⟨hS, by omega, by omega, by subst hms; exact Or.inl ⟨by omega, rfl, fun _ _ _ => rfl⟩⟩
  · intro h5
    refine n_iload_n c_148_7 rfl (n_iconst c_148_8 ?_)
    refine n_if2_lt c_148_9 (by omega) (by omega) ?_ ?_
    · intro h6
      exfalso; omega
    · intro h7
      refine n_iload_n c_148_12 rfl (n_iconst c_148_13 ?_)
      refine n_if2_le c_148_14 (by omega) (by omega) ?_ ?_
      · intro h8
        refine n_iconst c_148_20 (n_istore_n (L2 := [some (2, 112), some (0, 2), some (0, s), some (0, 0), none, none]) c_148_21 rfl rfl (n_iconst c_148_22 (n_istore (L2 := [some (2, 112), some (0, 2), some (0, s), some (0, 0), some (0, 0), none]) c_148_23 rfl rfl (n_fg (le_s (le_s (le_s (le_s (le_s (le_n le_0)))))) ?_))))
        exact (mactX2_3_c hS hdm hs hgd hms 52).1 _ _ M hS (by omega) (by omega) (by omega) (by omega) (by omega) (by rfl) (by exact hms) (by have := t_112_4 hS; omega) (by omega) (by omega) (by omega)
      · intro h9
        exfalso; omega

set_option maxHeartbeats 4000000 in
theorem mactX3_3_c {xs : List Int32} {e : Nat} {ac : Int} {M : nM} {s gd : Int} {Ms : nM} (hS : Sf 3 ac M M) (hdm : M 112 0 = 3) (hs : -2147483648 ≤ s ∧ s ≤ 2147483647) (hgd : M 112 0 = gd) (hms : M = Ms) : ∀ nn : Nat, (∀ (x3 x4 : Int) (M : nM), Sf 3 ac M M → (0 ≤ s ∧ s ≤ 7) → (0 ≤ x3 ∧ x3 ≤ 8) → (0 ≤ x4 ∧ x4 ≤ 8) → (M 112 0 = 3) → (M 112 0 = gd) → (x3 = c3 (fun a => M 116 a) x4.toNat) → (M = Ms) → (x4 ≤ M 112 4) → (0 ≤ s ∧ s ≤ 7) → (x3 ≤ x4) → (8 - x4) * 1 + 30 < (nn : Int) → nW xs (e + 1) 148 25 [some (2, 112), some (0, 3), some (0, s), some (0, x3), some (0, x4), none] [] M (nPI fun z M1 => Sf 3 ac M1 M1 ∧ (-2147483648 ≤ z ∧ z ≤ 2147483647) ∧ (M1 112 0 = gd) ∧ (mAct 3 3 27 s z Ms M1))) ∧ (∀ (x4 x5 : Int) (M : nM), Sf 3 ac M M → (0 ≤ s ∧ s ≤ 7) → (27 ≤ x4 ∧ x4 ≤ 27) → (0 ≤ x5 ∧ x5 ≤ 27) → (M 112 0 = 3) → (M 112 0 = gd) → (TQ 3 (Ms 113 s - 1) (fun i => Ms 115 (40 * s + i)) (Ms 112 4) x5 M) → (FA (Ms 112 4) Ms M) → (¬ (Ms 112 4 = 8 ∨ ((3 : Int) = 3 ∧ c3 (fun a => Ms 116 a) (Ms 112 4).toNat = 2))) → (Ms 113 s ≠ 0) → (Ms 112 4 ≤ 7) → (M 112 4 = Ms 112 4) → (27 - x5) * 1 + 1 < (nn : Int) → nW xs (e + 1) 148 106 [some (2, 112), some (0, 3), some (0, s), none, some (0, x4), some (0, x5)] [] M (nPI fun z M1 => Sf 3 ac M1 M1 ∧ (-2147483648 ≤ z ∧ z ≤ 2147483647) ∧ (M1 112 0 = gd) ∧ (mAct 3 3 27 s z Ms M1))) := by
  have hd : (3 : Int) = 2 ∨ (3 : Int) = 3 := by decide
  have hac := hS.2.2.2.2
  intro nn
  induction nn with
  | zero => refine ⟨?_, ?_⟩ <;> (intros; omega)
  | succ nn ih =>
    refine ⟨?_, ?_⟩
    · intro x3 x4 M hS k2 k3 k4 hdm hggd v0 v1 v2 v3 v4 hnn
      refine n_iload c_148_25 rfl (n_aload_n c_148_27 rfl (n_getV (bi := 4) c_148_28 sc_112.n rfl rfl rfl (t_112_4 hS) ?_))
      intro z1 ez1 f2
      refine n_if2_ge c_148_31 (by omega) (by omega) ?_ ?_
      · intro h3
        refine n_aload_n c_148_59 rfl (n_getV (bi := 4) c_148_60 sc_112.n rfl rfl rfl (t_112_4 hS) ?_)
        intro z4 ez4 f5
        have q4 : x4 = M 112 4 := by omega
        rw [q4] at v0
        refine n_bipush c_148_63 rfl ?_
        refine n_if2_eq c_148_65 (by omega) (by omega) ?_ ?_
        · intro h6
          refine n_bipush c_148_78 rfl ?_
          exact n_rI c_148_80 rfl ⟨hS, by omega, by omega, by subst v1; exact Or.inr (Or.inl ⟨by omega, by omega, by omega, by omega, by first | exact Or.inl (by omega) | exact Or.inr ⟨rfl, by omega⟩, rfl, fun _ _ _ => rfl⟩)⟩
        · intro h7
          refine n_iload_n c_148_68 rfl (n_iconst c_148_69 ?_)
          refine n_if2_ne c_148_70 (by omega) (by omega) ?_ ?_
          · intro h8
            exfalso; omega
          · intro h9
            refine n_iload_n c_148_73 rfl (n_iconst c_148_74 ?_)
            refine n_if2_ne c_148_75 (by omega) (by omega) ?_ ?_
            · intro h10
              refine n_aload_n c_148_81 rfl (n_getR c_148_82 sc_112.n rfl rfl rfl r_112_1 (n_iload_n c_148_85 rfl (n_ialoadV c_148_86 sc_113.n rfl rfl rfl (by omega) (t_113 hS (by omega)) ?_)))
              intro z11 ez11 f12
              refine n_if0_ne c_148_87 (by omega) ?_ ?_
              · intro h13
                refine n_aload_n c_148_93 rfl (n_getV (bi := 0) c_148_94 sc_112.n rfl rfl rfl (show 3 ≤ M 112 0 ∧ M 112 0 ≤ 3 by omega) ?_)
                intro z14 ez14 f15
                obtain rfl : z14 = 3 := by omega
                refine n_iload_n c_148_97 rfl (n_s2I c_148_98 rfl rfl rfl rfl (mpower3_3  hS ) ?_)
                intro z16 M17 hP18
                obtain ⟨eM, f18⟩ := hP18
                subst eM
                obtain rfl : z16 = 27 := by omega
                refine n_istore (L2 := [some (2, 112), some (0, 3), some (0, s), some (0, x3), some (0, 27), none]) c_148_101 rfl rfl (n_iconst c_148_103 (n_istore (L2 := [some (2, 112), some (0, 3), some (0, s), some (0, x3), some (0, 27), some (0, 0)]) c_148_104 rfl rfl (n_fg (le_s (le_s (le_s (le_n (le_s (le_s le_0)))))) ?_)))
                exact ih.2 _ _ M hS (by omega) (by omega) (by omega) (by omega) (by omega) (by exact fun j h0 h1 => by omega) (by subst v1; exact fun _ _ _ _ => rfl) (by subst v1; exact fun q => by rcases q with q | ⟨q1, q2⟩ <;> omega) (by subst v1; omega) (by subst v1; omega) (by subst v1; rfl) (by omega)
              · intro h19
                refine n_bipush c_148_90 rfl ?_
                exact n_rI c_148_92 rfl ⟨hS, by omega, by omega, by subst v1; exact Or.inr (Or.inr (Or.inl ⟨by omega, by omega, by omega, by omega, fun q => by rcases q with q | ⟨q1, q2⟩ <;> omega, by omega, rfl, fun _ _ _ => rfl⟩))⟩
            · intro h20
              refine n_bipush c_148_78 rfl ?_
              exact n_rI c_148_80 rfl ⟨hS, by omega, by omega, by subst v1; exact Or.inr (Or.inl ⟨by omega, by omega, by omega, by omega, by first | exact Or.inl (by omega) | exact Or.inr ⟨rfl, by omega⟩, rfl, fun _ _ _ => rfl⟩)⟩
      · intro h21
        refine n_iload_n c_148_34 rfl (n_aload_n c_148_35 rfl (n_getR c_148_36 sc_112.n rfl rfl rfl r_112_5 (n_iload c_148_39 rfl (n_ialoadV c_148_41 sc_116.n rfl rfl rfl (by omega) (t_116 hS (by omega)) ?_))))
        intro z22 ez22 f23
        refine n_iconst c_148_42 ?_
        refine n_if2_ne c_148_43 (by omega) (by omega) ?_ ?_
        · intro h24
          refine n_iconst c_148_50 (n_iadd c_148_51 rfl (n_istore_n (L2 := [some (2, 112), some (0, 3), some (0, s), some (0, (x3 + 0)), some (0, x4), none]) c_148_52 rfl rfl (n_iinc (L2 := [some (2, 112), some (0, 3), some (0, s), some (0, (x3 + 0)), some (0, (x4 + 1)), none]) c_148_53 rfl rfl rfl (n_goto c_148_56 (n_fg (le_s (le_s (le_s (le_s (le_s (le_n le_0)))))) ?_)))))
          exact ih.1 _ _ M hS (by omega) (by omega) (by omega) (by omega) (by omega) (by rw [c3_step (by omega)]; show _ = _ + (if M 116 x4 = 3 then 1 else 0); split <;> omega) (by exact v1) (by have := t_112_4 hS; omega) (by omega) (by omega) (by omega)
        · intro h25
          refine n_iconst c_148_46 (n_goto c_148_47 (n_iadd c_148_51 rfl (n_istore_n (L2 := [some (2, 112), some (0, 3), some (0, s), some (0, (x3 + 1)), some (0, x4), none]) c_148_52 rfl rfl (n_iinc (L2 := [some (2, 112), some (0, 3), some (0, s), some (0, (x3 + 1)), some (0, (x4 + 1)), none]) c_148_53 rfl rfl rfl (n_goto c_148_56 (n_fg (le_s (le_s (le_s (le_s (le_s (le_n le_0)))))) ?_))))))
          exact ih.1 _ _ M hS (by omega) (by omega) (by omega) (by omega) (by omega) (by rw [c3_step (by omega)]; show _ = _ + (if M 116 x4 = 3 then 1 else 0); split <;> omega) (by exact v1) (by have := t_112_4 hS; omega) (by omega) (by omega) (by omega)
    · intro x4 x5 M hS k2 k4 k5 hdm hggd v0 v1 v2 v3 v4 v5 hnn
      refine n_iload c_148_106 rfl (n_iload c_148_108 rfl ?_)
      refine n_if2_ge c_148_110 (by omega) (by omega) ?_ ?_
      · intro h1
        refine n_aload_n c_148_185 rfl (n_getR c_148_186 sc_112.n rfl rfl rfl r_112_5 (n_aload_n c_148_189 rfl (n_getV (bi := 4) c_148_190 sc_112.n rfl rfl rfl (t_112_4 hS) ?_)))
        intro z2 ez2 f3
        refine n_iload_n c_148_193 rfl (n_iastoreM hS c_148_194 sc_116.n rfl (by omega) (m_116 (by omega) (by omega)) ?_)
        intro M4 eM4 hS4
        have g4_0 : M4 112 0 = M 112 0 := by rw [eM4]; exact nu_a (by omega)
        have g4_1 : M4 112 4 = M 112 4 := by rw [eM4]; exact nu_a (by omega)
        refine n_aload_n c_148_195 rfl (n_dup2 c_148_196 (n_getV (bi := 4) c_148_197 sc_112.n rfl rfl rfl (t_112_4 hS4) ?_))
        intro z5 ez5 f6
        refine n_iconst c_148_200 (n_iadd c_148_201 rfl (n_putM (bi := 4) hS4 c_148_202 sc_112.n rfl rfl rfl rfl (m_112_4 (by omega)) ?_))
        intro M7 eM7 hS7
        have g7_0 : M7 112 0 = M4 112 0 := by rw [eM7]; exact nu_i (by omega)
        have g7_1 : M7 112 4 = (z5 + 1) := by rw [eM7]; exact nu_s _ _ _ _
        refine n_aload_n c_148_205 rfl (n_v0V c_148_206 rfl sc_112.n rfl rfl rfl rfl (changed_3  hS7 (by omega)) ?_)
        intro  M8 hP9
        have hS8 := hP9
        have hS8c := hS8.2.2.2.1.1
        have hS8 := hS8.refl
        have hS8k0 := hS8c 112 0 (by unfold core; omega)
        have hS8k1 := hS8c 112 4 (by unfold core; omega)
        refine n_aload_n c_148_209 rfl (n_getV (bi := 4) c_148_210 sc_112.n rfl rfl rfl (t_112_4 hS8) ?_)
        intro z10 ez10 f11
        refine n_iconst c_148_213 (n_isub c_148_214 rfl ?_)
        exact n_rI c_148_215 rfl ⟨hS8, by omega, by omega, by exact Or.inr (Or.inr (Or.inr (Or.inr ⟨by omega, by omega, by omega, by omega, v2, by omega, fun i h0 h1 => (v0 i h0 (by omega)).2, by omega, by omega, by rw [hS8c 116 _ (by unfold core; omega), eM7, nu_a (by omega), eM4, nu_e, if_pos (by omega)], fun i h0 h1 => by rw [hS8c 117 _ (by unfold core; omega), eM7, nu_a (by omega), eM4, nu_a (by omega)]; exact (v0 i h0 (by omega)).1, fun a i hc w1 w2 w3 => by rw [hS8c a i hc, eM7, nu_e, if_neg w1, eM4, nu_e, if_neg (by omega)]; exact v1 a i hc w3⟩)))⟩
      · intro h12
        refine n_iload c_148_113 rfl (n_aload_n c_148_115 rfl (n_getR c_148_116 sc_112.n rfl rfl rfl r_112_1 (n_iload_n c_148_119 rfl (n_ialoadV c_148_120 sc_113.n rfl rfl rfl (by omega) (t_113 hS (by omega)) ?_))))
        intro z13 ez13 f14
        have q13 := v1 113 s (by unfold core; omega) (by omega)
        have q15 := v1 115 (40 * s + x5) (by unfold core; omega) (by omega)
        refine n_iconst c_148_121 (n_isub c_148_122 rfl ?_)
        refine n_if2_lt c_148_123 (by omega) (by omega) ?_ ?_
        · intro h15
          refine n_aload_n c_148_129 rfl (n_aload_n c_148_130 rfl (n_getR c_148_131 sc_112.n rfl rfl rfl r_112_3 (n_bipush c_148_134 rfl (n_iload_n c_148_136 rfl (n_imul c_148_137 rfl (n_iload c_148_138 rfl (n_iadd c_148_140 rfl (n_laloadV c_148_141 sc_115.n rfl rfl rfl (by omega) (t_115 hS (by omega)) ?_))))))))
          intro z16 ez16 f17
          refine n_v1I c_148_142 rfl sc_112.n rfl rfl rfl rfl (misThingF_3 (v := z16) hS (by omega) (by omega)) ?_
          intro z18 M19 hP20
          obtain ⟨eM, f20, f20p0⟩ := hP20
          subst eM
          refine n_if0_ne c_148_145 (by omega) ?_ ?_
          · intro h21
            refine n_aload_n c_148_151 rfl (n_getR c_148_152 sc_112.n rfl rfl rfl r_112_6 (n_bipush c_148_155 rfl (n_aload_n c_148_157 rfl (n_getV (bi := 4) c_148_158 sc_112.n rfl rfl rfl (t_112_4 hS) ?_))))
            intro z22 ez22 f23
            refine n_imul c_148_161 rfl (n_iload c_148_162 rfl (n_iadd c_148_164 rfl (n_aload_n c_148_165 rfl (n_getR c_148_166 sc_112.n rfl rfl rfl r_112_3 (n_bipush c_148_169 rfl (n_iload_n c_148_171 rfl (n_imul c_148_172 rfl (n_iload c_148_173 rfl (n_iadd c_148_175 rfl (n_laloadV c_148_176 sc_115.n rfl rfl rfl (by omega) (t_115 hS (by omega)) ?_))))))))))
            intro z24 ez24 f25
            refine n_l2i c_148_177 (n_iastoreM hS c_148_178 sc_117.n rfl (by omega) (m_117 (by omega) (by omega)) ?_)
            intro M26 eM26 hS26
            have g26_0 : M26 112 0 = M 112 0 := by rw [eM26]; exact nu_a (by omega)
            have g26_1 : M26 112 4 = M 112 4 := by rw [eM26]; exact nu_a (by omega)
            have g26_2 : M26 115 ((40 * s) + x5) = M 115 ((40 * s) + x5) := by rw [eM26]; exact nu_a (by omega)
            refine n_iinc (L2 := [some (2, 112), some (0, 3), some (0, s), none, some (0, x4), some (0, (x5 + 1))]) c_148_179 rfl rfl rfl (n_goto c_148_182 (n_fg (le_s (le_s (le_s (le_n (le_s (le_s le_0)))))) ?_))
            exact ih.2 _ _ M26 hS26 (by omega) (by omega) (by omega) (by omega) (by omega) (by exact TQ.step v0 eM26 (by omega) (by show _ = Ms 115 (40 * s + x5); omega) ⟨by omega, by show 0 ≤ Ms 115 (40 * s + x5); omega, by show Ms 115 (40 * s + x5) ≤ 3 - 1; omega⟩) (by exact FA.u v1 eM26 (by omega)) (by exact v2) (by exact v3) (by exact v4) (by rw [eM26, nu_a (by omega)]; exact v5) (by omega)
          · intro h27
            refine n_bipush c_148_148 rfl ?_
            exact n_rI c_148_150 rfl ⟨hS, by omega, by omega, by exact Or.inr (Or.inr (Or.inr (Or.inl ⟨by omega, by omega, by omega, by omega, v2, by omega, ⟨x5, by omega, by omega, fun i h0 h1 => (v0 i h0 h1).2, by show (Ms 113 s - 1 ≤ x5 ∧ _ = -6) ∨ (x5 < Ms 113 s - 1 ∧ (Ms 115 (40 * s + x5) < 0 ∨ 3 - 1 < Ms 115 (40 * s + x5)) ∧ _ = -4); omega⟩, v1⟩)))⟩
        · intro h28
          refine n_bipush c_148_126 rfl ?_
          exact n_rI c_148_128 rfl ⟨hS, by omega, by omega, by exact Or.inr (Or.inr (Or.inr (Or.inl ⟨by omega, by omega, by omega, by omega, v2, by omega, ⟨x5, by omega, by omega, fun i h0 h1 => (v0 i h0 h1).2, by show (Ms 113 s - 1 ≤ x5 ∧ _ = -6) ∨ (x5 < Ms 113 s - 1 ∧ (Ms 115 (40 * s + x5) < 0 ∨ 3 - 1 < Ms 115 (40 * s + x5)) ∧ _ = -4); omega⟩, v1⟩)))⟩
set_option maxHeartbeats 4000000 in
theorem mactX3_3 {xs : List Int32} {e : Nat} {ac : Int} {M : nM} {s gd : Int} {Ms : nM} (hS : Sf 3 ac M M) (hdm : M 112 0 = 3) (hs : -2147483648 ≤ s ∧ s ≤ 2147483647) (hgd : M 112 0 = gd) (hms : M = Ms) : nW xs (e + 1) 148 0 [some (2, 112), some (0, 3), some (0, s), none, none, none] [] M (nPI fun z M1 => Sf 3 ac M1 M1 ∧ (-2147483648 ≤ z ∧ z ≤ 2147483647) ∧ (M1 112 0 = gd) ∧ (mAct 3 3 27 s z Ms M1)) := by
  have hd : (3 : Int) = 2 ∨ (3 : Int) = 3 := by decide
  have hac := hS.2.2.2.2
  refine n_iload_n c_148_0 rfl (n_s1I c_148_1 rfl rfl rfl rfl (misSlotF_3 (s := s) hS (by omega)) ?_)
  intro z1 M2 hP3
  obtain ⟨eM, f3, f3p0⟩ := hP3
  subst eM
  refine n_if0_eq c_148_4 (by omega) ?_ ?_
  · intro h4
    refine n_bipush c_148_17 rfl ?_
    exact n_rI c_148_19 rfl ⟨hS, by omega, by omega, by subst hms; exact Or.inl ⟨by omega, rfl, fun _ _ _ => rfl⟩⟩
  · intro h5
    refine n_iload_n c_148_7 rfl (n_iconst c_148_8 ?_)
    refine n_if2_lt c_148_9 (by omega) (by omega) ?_ ?_
    · intro h6
      exfalso; omega
    · intro h7
      refine n_iload_n c_148_12 rfl (n_iconst c_148_13 ?_)
      refine n_if2_le c_148_14 (by omega) (by omega) ?_ ?_
      · intro h8
        refine n_iconst c_148_20 (n_istore_n (L2 := [some (2, 112), some (0, 3), some (0, s), some (0, 0), none, none]) c_148_21 rfl rfl (n_iconst c_148_22 (n_istore (L2 := [some (2, 112), some (0, 3), some (0, s), some (0, 0), some (0, 0), none]) c_148_23 rfl rfl (n_fg (le_s (le_s (le_s (le_s (le_s (le_n le_0)))))) ?_))))
        exact (mactX3_3_c hS hdm hs hgd hms 88).1 _ _ M hS (by omega) (by omega) (by omega) (by omega) (by omega) (by rfl) (by exact hms) (by have := t_112_4 hS; omega) (by omega) (by omega) (by omega)
      · intro h9
        exfalso; omega

set_option maxHeartbeats 4000000 in
theorem addWideX_3 {xs : List Int32} {e : Nat} {ac : Int} {M : nM} {q r g gd : Int} (hS : Sf 3 ac M M) (hq : LawAt q) (hr : 0 ≤ r ∧ r ≤ 26) (hg : M 3 15 = g) (hgd : M 112 0 = gd) : nW xs e 42 0 [some (2, q), some (0, r)] [] M (nPV fun M1 => Sf 3 ac M1 M1 ∧ (M1 3 15 = g) ∧ (M1 112 0 = gd) ∧ (FL q M M1) ∧ (M1 q 0 = M q 0) ∧ (M1 q 1 = M q 1)) := by
  have hd : (3 : Int) = 2 ∨ (3 : Int) = 3 := by decide
  have hac := hS.2.2.2.2
  refine n_aload_n c_42_0 rfl (n_getV (bi := 3) c_42_1 hq.c0.1.n rfl rfl rfl (t_law hS hq).2.2.2 ?_)
  intro z1 ez1 f2
  refine n_bipush c_42_4 rfl ?_
  refine n_if2_ge c_42_6 (by omega) (by omega) ?_ ?_
  · intro h3
    exact n_rV c_42_52 rfl ⟨hS, by omega, by omega, by exact (fun _ _ _ _ => rfl), by rfl, by rfl⟩
  · intro h4
    refine n_aload_n c_42_9 rfl (n_getV (bi := 2) c_42_10 hq.c0.1.n rfl rfl rfl (t_law hS hq).2.2.1 ?_)
    intro z5 ez5 f6
    refine n_iload_n c_42_13 rfl (n_i_ishr c_42_14 rfl ?_)
    have f7 := n_shr_r z5 r
    generalize (n_shr z5 r) = z8 at f7 ⊢
    refine n_iconst c_42_15 (n_i_iand c_42_16 rfl ?_)
    have f9 := n_and_y (x := z8) (y := 1) (by omega)
    generalize (n_and z8 1) = z10 at f9 ⊢
    refine n_if0_ne c_42_17 (by omega) ?_ ?_
    · intro h11
      exact n_rV c_42_52 rfl ⟨hS, by omega, by omega, by exact (fun _ _ _ _ => rfl), by rfl, by rfl⟩
    · intro h12
      refine n_aload_n c_42_20 rfl (n_getR c_42_21 hq.c0.1.n rfl rfl rfl hq.r (n_aload_n c_42_24 rfl (n_getV (bi := 3) c_42_25 hq.c0.1.n rfl rfl rfl (t_law hS hq).2.2.2 ?_)))
      intro z13 ez13 f14
      refine n_iload_n c_42_28 rfl (n_iastoreM hS c_42_29 hq.c0.2.n rfl (by omega) (m_lawr hq (by omega) (by omega)) ?_)
      intro M15 eM15 hS15
      have g15_0 : M15 3 15 = M 3 15 := by rw [eM15]; exact nu_a (by unfold LawAt at *; omega)
      have g15_1 : M15 112 0 = M 112 0 := by rw [eM15]; exact nu_a (by unfold LawAt at *; omega)
      have g15_2 : M15 q 3 = M q 3 := by rw [eM15]; exact nu_a (by omega)
      refine n_aload_n c_42_30 rfl (n_dup2 c_42_31 (n_getV (bi := 3) c_42_32 hq.c0.1.n rfl rfl rfl (t_law hS15 hq).2.2.2 ?_))
      intro z16 ez16 f17
      refine n_iconst c_42_35 (n_iadd c_42_36 rfl (n_putM (bi := 3) hS15 c_42_37 hq.c0.1.n rfl rfl rfl rfl (m_law hq (by omega) (by omega)) ?_))
      intro M18 eM18 hS18
      have g18_0 : M18 3 15 = M15 3 15 := by rw [eM18]; exact nu_a (by unfold LawAt at *; omega)
      have g18_1 : M18 112 0 = M15 112 0 := by rw [eM18]; exact nu_a (by unfold LawAt at *; omega)
      have g18_2 : M18 q 3 = (z16 + 1) := by rw [eM18]; exact nu_s _ _ _ _
      refine n_aload_n c_42_40 rfl (n_dup2 c_42_41 (n_getV (bi := 2) c_42_42 hq.c0.1.n rfl rfl rfl (t_law hS18 hq).2.2.1 ?_))
      intro z19 ez19 f20
      refine n_iconst c_42_45 (n_iload_n c_42_46 rfl (n_i_ishl c_42_47 rfl ?_))
      have f21 := n_shl_1 (y := r) (a := 0) (b := 26) (by decide) (by omega)
      generalize (n_shl 1 r) = z22 at f21 ⊢
      refine n_i_ior c_42_48 rfl ?_
      have f23 := n_or_r z19 z22
      generalize (n_or z19 z22) = z24 at f23 ⊢
      refine n_putM (bi := 2) hS18 c_42_49 hq.c0.1.n rfl rfl rfl rfl (m_law hq (by omega) (by omega)) ?_
      intro M25 eM25 hS25
      have g25_0 : M25 3 15 = M18 3 15 := by rw [eM25]; exact nu_a (by unfold LawAt at *; omega)
      have g25_1 : M25 112 0 = M18 112 0 := by rw [eM25]; exact nu_a (by unfold LawAt at *; omega)
      have g25_2 : M25 q 3 = M18 q 3 := by rw [eM25]; exact nu_i (by omega)
      have g25_3 : M25 q 2 = z24 := by rw [eM25]; exact nu_s _ _ _ _
      exact n_rV c_42_52 rfl ⟨hS25, by omega, by omega, by exact (FL.u (FL.u (FL.u (fun _ _ _ _ => rfl) eM15 (by omega)) eM18 (by omega)) eM25 (by omega)), by rw [eM25, nu_i (by omega), eM18, nu_i (by omega), eM15, nu_a (by omega)], by rw [eM25, nu_i (by omega), eM18, nu_i (by omega), eM15, nu_a (by omega)]⟩

set_option maxHeartbeats 4000000 in
theorem takeLX1_3_c {xs : List Int32} {e : Nat} {ac : Int} {M : nM} {q s g gd : Int} {Ms : nM} (hS : Sf 3 ac M M) (hq : LawAt q) (hs : -2147483648 ≤ s ∧ s ≤ 2147483647) (hg : M 3 15 = g) (hgd : M 112 0 = gd) (hms : M = Ms) : ∀ nn : Nat, (∀ (x4 x5 : Int) (M : nM), Sf 3 ac M M → (3 ≤ x4 ∧ x4 ≤ 3) → (0 ≤ x5 ∧ x5 ≤ 3) → (M 3 15 = g) → (M 112 0 = gd) → (M q 0 = 1) → (M q 1 = s) → (FL q Ms M) → (3 - x5) * 1 + 1 < (nn : Int) → nW xs (e + 1) 36 30 [some (2, q), some (0, 1), some (0, s), some (2, 4), some (0, x4), some (0, x5)] [] M (nPV fun M1 => Sf 3 ac M1 M1 ∧ (M1 3 15 = g) ∧ (M1 112 0 = gd) ∧ (FL q Ms M1) ∧ (M1 q 0 = 1) ∧ (M1 q 1 = s))) := by
  have hd : (3 : Int) = 2 ∨ (3 : Int) = 3 := by decide
  have hac := hS.2.2.2.2
  intro nn
  induction nn with
  | zero => intros; omega
  | succ nn ih =>
    intro x4 x5 M hS k4 k5 hgg hggd v0 v1 v2 hnn
    refine n_iload c_36_30 rfl (n_iload c_36_32 rfl ?_)
    refine n_if2_ge c_36_34 (by omega) (by omega) ?_ ?_
    · intro h1
      exact n_rV c_36_63 rfl ⟨hS, by omega, by omega, by exact v2, by exact v0, by exact v1⟩
    · intro h2
      refine n_iload_n c_36_37 rfl (n_iload c_36_38 rfl (n_i_ishr c_36_40 rfl ?_))
      have f3 := n_shr_r s x5
      generalize (n_shr s x5) = z4 at f3 ⊢
      refine n_iconst c_36_41 (n_i_iand c_36_42 rfl ?_)
      have f5 := n_and_y (x := z4) (y := 1) (by omega)
      generalize (n_and z4 1) = z6 at f5 ⊢
      refine n_if0_eq c_36_43 (by omega) ?_ ?_
      · intro h7
        refine n_iinc (L2 := [some (2, q), some (0, 1), some (0, s), some (2, 4), some (0, x4), some (0, (x5 + 1))]) c_36_57 rfl rfl rfl (n_goto c_36_60 (n_fg (le_s (le_s (le_s (le_s (le_s (le_s le_0)))))) ?_))
        exact ih _ _ M hS (by omega) (by omega) (by omega) (by omega) (by exact v0) (by exact v1) (by exact v2) (by omega)
      · intro h8
        refine n_aload_n c_36_46 rfl (n_aload_n c_36_47 rfl (n_iload c_36_48 rfl (n_iload_n c_36_50 rfl (n_v2I c_36_51 rfl sc_4.n rfl rfl rfl rfl (widen1_3 (n := x5) hS (by omega)) ?_))))
        intro z9 M10 hP11
        obtain ⟨eM, f11⟩ := hP11
        subst eM
        refine n_v1V c_36_54 rfl hq.c0.1.n rfl rfl rfl rfl (addWideX_3 (q := q) (r := z9) (g := (M 3 15)) (gd := (M 112 0)) hS hq (by omega) rfl rfl) ?_
        intro  M12 hP13
        obtain ⟨hS12, f13g0, f13g1, f13p0, f13p1, f13p2⟩ := hP13
        refine n_iinc (L2 := [some (2, q), some (0, 1), some (0, s), some (2, 4), some (0, x4), some (0, (x5 + 1))]) c_36_57 rfl rfl rfl (n_goto c_36_60 (n_fg (le_s (le_s (le_s (le_s (le_s (le_s le_0)))))) ?_))
        exact ih _ _ M12 hS12 (by omega) (by omega) (by omega) (by omega) (by rw [f13p1]; exact v0) (by rw [f13p2]; exact v1) (by exact fun a i hc w => (f13p0 a i hc w).trans (v2 a i hc w)) (by omega)
set_option maxHeartbeats 4000000 in
theorem takeLX1_3 {xs : List Int32} {e : Nat} {ac : Int} {M : nM} {q s g gd : Int} {Ms : nM} (hS : Sf 3 ac M M) (hq : LawAt q) (hs : -2147483648 ≤ s ∧ s ≤ 2147483647) (hg : M 3 15 = g) (hgd : M 112 0 = gd) (hms : M = Ms) : nW xs (e + 1) 36 0 [some (2, q), some (0, 1), some (0, s), some (2, 4), none, none] [] M (nPV fun M1 => Sf 3 ac M1 M1 ∧ (M1 3 15 = g) ∧ (M1 112 0 = gd) ∧ (FL q Ms M1) ∧ (M1 q 0 = 1) ∧ (M1 q 1 = s)) := by
  have hd : (3 : Int) = 2 ∨ (3 : Int) = 3 := by decide
  have hac := hS.2.2.2.2
  refine n_aload_n c_36_0 rfl (n_iload_n c_36_1 rfl (n_putM (bi := 0) hS c_36_2 hq.c0.1.n rfl rfl rfl rfl (m_law hq (by omega) (by omega)) ?_))
  intro M1 eM1 hS1
  have g1_0 : M1 3 15 = M 3 15 := by rw [eM1]; exact nu_a (by unfold LawAt at *; omega)
  have g1_1 : M1 112 0 = M 112 0 := by rw [eM1]; exact nu_a (by unfold LawAt at *; omega)
  have g1_2 : M1 q 0 = 1 := by rw [eM1]; exact nu_s _ _ _ _
  refine n_aload_n c_36_5 rfl (n_iload_n c_36_6 rfl (n_putM (bi := 1) hS1 c_36_7 hq.c0.1.n rfl rfl rfl rfl (m_law hq (by omega) (by omega)) ?_))
  intro M2 eM2 hS2
  have g2_0 : M2 3 15 = M1 3 15 := by rw [eM2]; exact nu_a (by unfold LawAt at *; omega)
  have g2_1 : M2 112 0 = M1 112 0 := by rw [eM2]; exact nu_a (by unfold LawAt at *; omega)
  have g2_2 : M2 q 0 = M1 q 0 := by rw [eM2]; exact nu_i (by omega)
  have g2_3 : M2 q 1 = s := by rw [eM2]; exact nu_s _ _ _ _
  refine n_aload_n c_36_10 rfl (n_iconst c_36_11 (n_putM (bi := 2) hS2 c_36_12 hq.c0.1.n rfl rfl rfl rfl (m_law hq (by omega) (by omega)) ?_))
  intro M3 eM3 hS3
  have g3_0 : M3 3 15 = M2 3 15 := by rw [eM3]; exact nu_a (by unfold LawAt at *; omega)
  have g3_1 : M3 112 0 = M2 112 0 := by rw [eM3]; exact nu_a (by unfold LawAt at *; omega)
  have g3_2 : M3 q 0 = M2 q 0 := by rw [eM3]; exact nu_i (by omega)
  have g3_3 : M3 q 1 = M2 q 1 := by rw [eM3]; exact nu_i (by omega)
  have g3_4 : M3 q 2 = 0 := by rw [eM3]; exact nu_s _ _ _ _
  refine n_aload_n c_36_15 rfl (n_iconst c_36_16 (n_putM (bi := 3) hS3 c_36_17 hq.c0.1.n rfl rfl rfl rfl (m_law hq (by omega) (by omega)) ?_))
  intro M4 eM4 hS4
  have g4_0 : M4 3 15 = M3 3 15 := by rw [eM4]; exact nu_a (by unfold LawAt at *; omega)
  have g4_1 : M4 112 0 = M3 112 0 := by rw [eM4]; exact nu_a (by unfold LawAt at *; omega)
  have g4_2 : M4 q 0 = M3 q 0 := by rw [eM4]; exact nu_i (by omega)
  have g4_3 : M4 q 1 = M3 q 1 := by rw [eM4]; exact nu_i (by omega)
  have g4_4 : M4 q 2 = M3 q 2 := by rw [eM4]; exact nu_i (by omega)
  have g4_5 : M4 q 3 = 0 := by rw [eM4]; exact nu_s _ _ _ _
  refine n_aload_n c_36_20 rfl (n_iload_n c_36_21 rfl (n_v1I c_36_22 rfl sc_4.n rfl rfl rfl rfl (power1_3  hS4 ) ?_))
  intro z5 M6 hP7
  obtain ⟨eM, f7⟩ := hP7
  subst eM
  obtain rfl : z5 = 3 := by omega
  refine n_istore (L2 := [some (2, q), some (0, 1), some (0, s), some (2, 4), some (0, 3), none]) c_36_25 rfl rfl (n_iconst c_36_27 (n_istore (L2 := [some (2, q), some (0, 1), some (0, s), some (2, 4), some (0, 3), some (0, 0)]) c_36_28 rfl rfl (n_fg (le_s (le_s (le_s (le_s (le_s (le_s le_0)))))) ?_)))
  exact (takeLX1_3_c hS hq hs hg hgd hms 20) _ _ M4 hS4 (by omega) (by omega) (by omega) (by omega) (by omega) (by omega) (by subst hms; exact (FL.u (FL.u (FL.u (FL.u (fun _ _ _ _ => rfl) eM1 (by omega)) eM2 (by omega)) eM3 (by omega)) eM4 (by omega))) (by omega)

set_option maxHeartbeats 4000000 in
theorem readLawX1_3_c {xs : List Int32} {e : Nat} {ac : Int} {M0 M : nM} {s : Int} (hS : Sf 3 ac M0 M) (hs : 0 ≤ s ∧ s ≤ 7) : ∀ nn : Nat, (∀ (x3 x4 x5 x6 : Int), (0 ≤ x3 ∧ x3 ≤ 27) → (0 ≤ x4 ∧ x4 ≤ 134217727) → (1 ≤ x5 ∧ x5 ≤ 82) → (0 ≤ x6 ∧ x6 ≤ 27) → (x4 = lset 3 1 (fun i => M 9 (40 * s + i)) x6.toNat) → (x5 = 1 + 1 * x6) → (RO 3 (M 11 s) (fun i => M 9 (40 * s + i)) x5) → (x3 = M 9 (40 * s + 0)) → (x6 ≤ x3) → (0 < M 11 s) → (27 - x6) * 1 + 1 < (nn : Int) → nW xs (e + 1) 128 27 [some (2, 3), some (0, 1), some (0, s), some (0, x3), some (0, x4), some (0, x5), some (0, x6), none, none, none] [] M (nPI fun z M1 => M = M1 ∧ (-6 ≤ z ∧ z ≤ 134217727) ∧ (rLawF 3 1 (M 11 s) (fun i => M 9 (40 * s + i)) z ∨ (rLawS 3 1 (M 11 s) (fun i => M 9 (40 * s + i)) ∧ z = lset 3 1 (fun i => M 9 (40 * s + i)) (M 9 (40 * s + 0)).toNat ∧ 0 ≤ z)))) := by
  have hd : (3 : Int) = 2 ∨ (3 : Int) = 3 := by decide
  have hac := hS.2.2.2.2
  intro nn
  induction nn with
  | zero => intros; omega
  | succ nn ih =>
    intro x3 x4 x5 x6 k3 k4 k5 k6 v0 v1 v2 v3 v4 v5 hnn
    refine n_iload c_128_27 rfl (n_iload_n c_128_29 rfl ?_)
    refine n_if2_ge c_128_30 (by omega) (by omega) ?_ ?_
    · intro h1
      refine n_iload c_128_113 rfl ?_
      exact n_rI c_128_115 rfl ⟨rfl, by omega, by exact Or.inr ⟨⟨by omega, by show 0 ≤ M 9 (40 * s + 0); omega, by show M 9 (40 * s + 0) ≤ 27; omega, by have q : 1 + 1 * M 9 (40 * s + 0) = x5 := (by omega); show RO 3 (M 11 s) (fun i => M 9 (40 * s + i)) (1 + 1 * M 9 (40 * s + 0)); rw [q]; exact v2⟩, by rw [show M 9 (40 * s + 0) = x6 by omega]; exact v0, by omega⟩⟩
    · intro h2
      refine n_iconst c_128_33 (n_istore (L2 := [some (2, 3), some (0, 1), some (0, s), some (0, x3), some (0, x4), some (0, x5), some (0, x6), some (0, 0), none, none]) c_128_34 rfl rfl (n_iconst c_128_36 (n_istore (L2 := [some (2, 3), some (0, 1), some (0, s), some (0, x3), some (0, x4), some (0, x5), some (0, x6), some (0, 0), some (0, 0), none]) c_128_37 rfl rfl (n_iload c_128_39 rfl (n_iload_n c_128_41 rfl ?_)))))
      refine n_if2_ge c_128_42 (by omega) (by omega) ?_ ?_
      · intro h3
        exfalso; omega
      · intro h4
        refine n_aload_n c_128_45 rfl (n_getR c_128_46 sc_3.n rfl rfl rfl r_3_1 (n_iload_n c_128_49 rfl (n_iload c_128_50 rfl (n_aload_n c_128_52 rfl (n_getR c_128_53 sc_3.n rfl rfl rfl r_3_0 (n_getV (bi := 0) c_128_56 sc_4.n rfl rfl rfl (t_4_0 hS) ?_))))))
        intro z5 ez5 f6
        obtain rfl : z5 = 3 := by omega
        refine n_iconst c_128_59 (n_isub c_128_60 rfl ?_)
        have hcst : ((3 - 1) : Int) = 2 := by omega
        rw [hcst]
        refine n_v3I c_128_61 rfl sc_8.n rfl rfl rfl rfl (readX2_3 (s := s) (i := x5) hS (by omega) (by omega)) ?_
        intro z7 M8 hP9
        obtain ⟨eM, f9, f9p0⟩ := hP9
        subst eM
        refine n_istore (L2 := [some (2, 3), some (0, 1), some (0, s), some (0, x3), some (0, x4), some (0, x5), some (0, x6), some (0, 0), some (0, 0), some (0, z7)]) c_128_64 rfl rfl (n_iload c_128_66 rfl ?_)
        refine n_if0_ge c_128_68 (by omega) ?_ ?_
        · intro h10
          refine n_iload c_128_74 rfl ?_
          have ro11 := RO.ext v2 (x := x5) ⟨by omega, by show 0 ≤ M 9 (40 * s + x5); omega, by show M 9 (40 * s + x5) ≤ 3 - 1; omega⟩ rfl
          refine n_aload_n c_128_76 rfl (n_getR c_128_77 sc_3.n rfl rfl rfl r_3_0 (n_getV (bi := 0) c_128_80 sc_4.n rfl rfl rfl (t_4_0 hS) ?_))
          intro z12 ez12 f13
          obtain rfl : z12 = 3 := by omega
          refine n_imul c_128_83 rfl (n_iload c_128_84 rfl (n_iadd c_128_86 rfl (n_istore (L2 := [some (2, 3), some (0, 1), some (0, s), some (0, x3), some (0, x4), some (0, x5), some (0, x6), some (0, ((0 * 3) + z7)), some (0, 0), some (0, z7)]) c_128_87 rfl rfl (n_iinc (L2 := [some (2, 3), some (0, 1), some (0, s), some (0, x3), some (0, x4), some (0, (x5 + 1)), some (0, x6), some (0, ((0 * 3) + z7)), some (0, 0), some (0, z7)]) c_128_89 rfl rfl rfl (n_iinc (L2 := [some (2, 3), some (0, 1), some (0, s), some (0, x3), some (0, x4), some (0, (x5 + 1)), some (0, x6), some (0, ((0 * 3) + z7)), some (0, (0 + 1)), some (0, z7)]) c_128_92 rfl rfl rfl (n_goto c_128_95 (n_iload c_128_39 rfl (n_iload_n c_128_41 rfl ?_))))))))
          refine n_if2_ge c_128_42 (by omega) (by omega) ?_ ?_
          · intro h14
            refine n_iload c_128_98 rfl (n_iconst c_128_100 (n_iload c_128_101 rfl (n_i_ishl c_128_103 rfl (n_i_ior c_128_104 rfl ?_))))
            have hor := (n_or_bit27 (s := x4) (r := ((0 * 3) + z7)) (by omega) (by omega)).1
            have hls := lset_go (d := 3) (k := 1) (f := (fun i => M 9 (40 * s + i))) (num := ((0 * 3) + z7)) v0 v1 (by omega) (by show _ = M 9 (40 * s + x5); omega)
            refine n_istore (L2 := [some (2, 3), some (0, 1), some (0, s), some (0, x3), some (0, (n_or x4 (n_shl 1 ((0 * 3) + z7)))), some (0, (x5 + 1)), some (0, x6), some (0, ((0 * 3) + z7)), some (0, (0 + 1)), some (0, z7)]) c_128_105 rfl rfl (n_iinc (L2 := [some (2, 3), some (0, 1), some (0, s), some (0, x3), some (0, (n_or x4 (n_shl 1 ((0 * 3) + z7)))), some (0, (x5 + 1)), some (0, (x6 + 1)), some (0, ((0 * 3) + z7)), some (0, (0 + 1)), some (0, z7)]) c_128_107 rfl rfl rfl (n_goto c_128_110 (n_fg (le_s (le_s (le_s (le_s (le_s (le_s (le_s (le_n (le_n (le_n le_0)))))))))) ?_)))
            exact ih _ _ _ _ (by omega) (by omega) (by omega) (by omega) (by exact hls) (by omega) (by exact ro11) (by omega) (by omega) (by omega) (by omega)
          · intro h15
            exfalso; omega
        · intro h16
          refine n_iload c_128_71 rfl ?_
          exact n_rI c_128_73 rfl ⟨rfl, by omega, by exact Or.inl (Or.inr (Or.inr ⟨by omega, by show 0 ≤ M 9 (40 * s + 0); omega, by show M 9 (40 * s + 0) ≤ 27; omega, x5, by omega, by show x5 < 1 + 1 * M 9 (40 * s + 0); omega, v2, by show (M 11 s ≤ x5 ∧ _ = -6) ∨ (x5 < M 11 s ∧ (M 9 (40 * s + x5) < 0 ∨ 3 - 1 < M 9 (40 * s + x5)) ∧ _ = -4); omega⟩))⟩
set_option maxHeartbeats 4000000 in
theorem readLawX1_3 {xs : List Int32} {e : Nat} {ac : Int} {M0 M : nM} {s : Int} (hS : Sf 3 ac M0 M) (hs : 0 ≤ s ∧ s ≤ 7) : nW xs (e + 1) 128 0 [some (2, 3), some (0, 1), some (0, s), none, none, none, none, none, none, none] [] M (nPI fun z M1 => M = M1 ∧ (-6 ≤ z ∧ z ≤ 134217727) ∧ (rLawF 3 1 (M 11 s) (fun i => M 9 (40 * s + i)) z ∨ (rLawS 3 1 (M 11 s) (fun i => M 9 (40 * s + i)) ∧ z = lset 3 1 (fun i => M 9 (40 * s + i)) (M 9 (40 * s + 0)).toNat ∧ 0 ≤ z))) := by
  have hd : (3 : Int) = 2 ∨ (3 : Int) = 3 := by decide
  have hac := hS.2.2.2.2
  refine n_aload_n c_128_0 rfl (n_getR c_128_1 sc_3.n rfl rfl rfl r_3_1 (n_iload_n c_128_4 rfl (n_iconst c_128_5 (n_bipush c_128_6 rfl (n_v3I c_128_8 rfl sc_8.n rfl rfl rfl rfl (readX27_3 (s := s) (i := 0) hS (by omega) (by omega)) ?_)))))
  intro z1 M2 hP3
  obtain ⟨eM, f3, f3p0⟩ := hP3
  subst eM
  refine n_istore_n (L2 := [some (2, 3), some (0, 1), some (0, s), some (0, z1), none, none, none, none, none, none]) c_128_11 rfl rfl (n_iload_n c_128_12 rfl ?_)
  refine n_if0_ge c_128_13 (by omega) ?_ ?_
  · intro h4
    refine n_iconst c_128_18 (n_istore (L2 := [some (2, 3), some (0, 1), some (0, s), some (0, z1), some (0, 0), none, none, none, none, none]) c_128_19 rfl rfl (n_iconst c_128_21 (n_istore (L2 := [some (2, 3), some (0, 1), some (0, s), some (0, z1), some (0, 0), some (0, 1), none, none, none, none]) c_128_22 rfl rfl (n_iconst c_128_24 (n_istore (L2 := [some (2, 3), some (0, 1), some (0, s), some (0, z1), some (0, 0), some (0, 1), some (0, 0), none, none, none]) c_128_25 rfl rfl (n_fg (le_s (le_s (le_s (le_s (le_s (le_s (le_s (le_n (le_n (le_n le_0)))))))))) ?_))))))
    exact (readLawX1_3_c hS hs 68) _ _ _ _ (by omega) (by omega) (by omega) (by omega) (by rfl) (by omega) (by exact fun i h0 h1 => by omega) (by omega) (by omega) (by omega) (by omega)
  · intro h5
    refine n_iload_n c_128_16 rfl ?_
    exact n_rI c_128_17 rfl ⟨rfl, by omega, by rcases f3p0 with q | q | q <;> first | exact Or.inl (Or.inl ⟨by omega, by omega⟩) | exact Or.inl (Or.inr (Or.inl ⟨by omega, by show M 9 (40 * s + 0) < 0 ∨ 27 < M 9 (40 * s + 0); omega, by omega⟩)) | omega⟩

set_option maxHeartbeats 4000000 in
theorem lawX1_3 {xs : List Int32} {e : Nat} {ac : Int} {M : nM} {s gd : Int} (hS : Sf 3 ac M M) (hs : -2147483648 ≤ s ∧ s ≤ 2147483647) (hgd : M 112 0 = gd) : nW xs (e + 2) 98 0 [some (2, 3), some (0, 1), some (0, s), none] [] M (nPI fun z M1 => Sf 3 ac M1 M1 ∧ (-2147483648 ≤ z ∧ z ≤ 2147483647) ∧ (M1 112 0 = gd) ∧ (cLaw 3 1 s z M M1)) := by
  have hd : (3 : Int) = 2 ∨ (3 : Int) = 3 := by decide
  have hac := hS.2.2.2.2
  refine n_aload_n c_98_0 rfl (n_getR c_98_1 sc_3.n rfl rfl rfl r_3_1 (n_iload_n c_98_4 rfl (n_v1I c_98_5 rfl sc_8.n rfl rfl rfl rfl (isSlotF_3 (s := s) hS (by omega)) ?_)))
  intro z1 M2 hP3
  obtain ⟨eM, f3, f3p0⟩ := hP3
  subst eM
  refine n_if0_eq c_98_8 (by omega) ?_ ?_
  · intro h4
    refine n_bipush c_98_19 rfl ?_
    exact n_rI c_98_21 rfl ⟨hS, by omega, by omega, by exact Or.inl ⟨by omega, rfl, fun _ _ _ => rfl⟩⟩
  · intro h5
    refine n_aload_n c_98_11 rfl (n_iload_n c_98_12 rfl (n_v1I c_98_13 rfl sc_3.n rfl rfl rfl rfl (isPlaceCountF_3 (k := 1) hS (by omega)) ?_))
    intro z6 M7 hP8
    obtain ⟨eM, f8, f8p0⟩ := hP8
    subst eM
    refine n_if0_ne c_98_16 (by omega) ?_ ?_
    · intro h9
      refine n_aload_n c_98_22 rfl (n_getV (bi := 15) c_98_23 sc_3.n rfl rfl rfl (t_3_15 hS) ?_)
      intro z10 ez10 f11
      refine n_bipush c_98_26 rfl ?_
      refine n_if2_lt c_98_28 (by omega) (by omega) ?_ ?_
      · intro h12
        refine n_aload_n c_98_34 rfl (n_getR c_98_35 sc_3.n rfl rfl rfl r_3_1 (n_iload_n c_98_38 rfl (n_v1I c_98_39 rfl sc_8.n rfl rfl rfl rfl (hasRowF_3 (s := s) hS (by omega)) ?_)))
        intro z13 M14 hP15
        obtain ⟨eM, f15, f15p0⟩ := hP15
        subst eM
        refine n_if0_ne c_98_42 (by omega) ?_ ?_
        · intro h16
          refine n_aload_n c_98_48 rfl (n_iload_n c_98_49 rfl (n_iload_n c_98_50 rfl (n_v2I c_98_51 rfl sc_3.n rfl rfl rfl rfl (readLawX1_3 (s := s) hS (by omega)) ?_)))
          intro z17 M18 hP19
          obtain ⟨eM, f19, f19p0⟩ := hP19
          subst eM
          refine n_istore_n (L2 := [some (2, 3), some (0, 1), some (0, s), some (0, z17)]) c_98_54 rfl rfl (n_iload_n c_98_55 rfl ?_)
          refine n_if0_ge c_98_56 (by omega) ?_ ?_
          · intro h20
            refine n_aload_n c_98_61 rfl (n_getR c_98_62 sc_3.n rfl rfl rfl r_3_3 (n_aload_n c_98_65 rfl (n_getV (bi := 15) c_98_66 sc_3.n rfl rfl rfl (t_3_15 hS) ?_)))
            intro z21 ez21 f22
            refine n_aaload c_98_69 sc_13.n rfl rfl rfl (by omega) (r_laws _) ?_
            have q23 : LawAt (79 + 2 * z21) := by unfold LawAt; omega
            refine n_iload_n c_98_70 rfl (n_iload_n c_98_71 rfl (n_aload_n c_98_72 rfl (n_getR c_98_73 sc_3.n rfl rfl rfl r_3_0 (n_v3V c_98_76 rfl q23.c0.1.n rfl rfl rfl rfl (takeLX1_3 (q := (79 + 2 * z21)) (s := z17) (g := (M 3 15)) (gd := (M 112 0)) (Ms := M) hS q23 (by omega) rfl rfl (by rfl)) ?_))))
            intro  M24 hP25
            obtain ⟨hS24, f25g0, f25g1, f25p0, f25p1, f25p2⟩ := hP25
            refine n_aload_n c_98_79 rfl (n_dup2 c_98_80 (n_getV (bi := 15) c_98_81 sc_3.n rfl rfl rfl (t_3_15 hS24) ?_))
            intro z26 ez26 f27
            refine n_dup_x102 c_98_84 (n_iconst c_98_85 (n_iadd c_98_86 rfl (n_putM (bi := 15) hS24 c_98_87 sc_3.n rfl rfl rfl rfl (m_3_15 (by omega)) ?_)))
            intro M28 eM28 hS28
            have g28_0 : M28 112 0 = M24 112 0 := by rw [eM28]; exact nu_a (by omega)
            have g28_1 : M28 3 15 = (z26 + 1) := by rw [eM28]; exact nu_s _ _ _ _
            exact n_rI c_98_90 rfl ⟨hS28, by omega, by omega, by exact cLaw_ok (n := z21) (by omega) (by omega) (by omega) (by omega) (by omega) (by omega) (by rcases f19p0 with q | q; exact absurd q.neg (by omega); exact q) f25p0 f25p1 f25p2 eM28 (by omega) (by omega) (by omega)⟩
          · intro h29
            refine n_iload_n c_98_59 rfl ?_
            exact n_rI c_98_60 rfl ⟨hS, by omega, by omega, by exact Or.inr (Or.inr (Or.inr (Or.inl ⟨by omega, by omega, by omega, by omega, by omega, by omega, (by rcases f19p0 with q | q; exact q; have := q.2.2; omega), fun _ _ _ => rfl⟩)))⟩
        · intro h30
          refine n_bipush c_98_45 rfl ?_
          exact n_rI c_98_47 rfl ⟨hS, by omega, by omega, by exact Or.inr (Or.inr (Or.inl ⟨by omega, by omega, by omega, by omega, by omega, by omega, rfl, fun _ _ _ => rfl⟩))⟩
      · intro h31
        refine n_bipush c_98_31 rfl ?_
        exact n_rI c_98_33 rfl ⟨hS, by omega, by omega, by exact Or.inr (Or.inl ⟨by omega, by omega, by omega, by omega, by omega, rfl, fun _ _ _ => rfl⟩)⟩
    · intro h32
      refine n_bipush c_98_19 rfl ?_
      exact n_rI c_98_21 rfl ⟨hS, by omega, by omega, by exact Or.inl ⟨by omega, rfl, fun _ _ _ => rfl⟩⟩

set_option maxHeartbeats 4000000 in
theorem takeLX2_3_c {xs : List Int32} {e : Nat} {ac : Int} {M : nM} {q s g gd : Int} {Ms : nM} (hS : Sf 3 ac M M) (hq : LawAt q) (hs : -2147483648 ≤ s ∧ s ≤ 2147483647) (hg : M 3 15 = g) (hgd : M 112 0 = gd) (hms : M = Ms) : ∀ nn : Nat, (∀ (x4 x5 : Int) (M : nM), Sf 3 ac M M → (9 ≤ x4 ∧ x4 ≤ 9) → (0 ≤ x5 ∧ x5 ≤ 9) → (M 3 15 = g) → (M 112 0 = gd) → (M q 0 = 2) → (M q 1 = s) → (FL q Ms M) → (9 - x5) * 1 + 1 < (nn : Int) → nW xs (e + 1) 36 30 [some (2, q), some (0, 2), some (0, s), some (2, 4), some (0, x4), some (0, x5)] [] M (nPV fun M1 => Sf 3 ac M1 M1 ∧ (M1 3 15 = g) ∧ (M1 112 0 = gd) ∧ (FL q Ms M1) ∧ (M1 q 0 = 2) ∧ (M1 q 1 = s))) := by
  have hd : (3 : Int) = 2 ∨ (3 : Int) = 3 := by decide
  have hac := hS.2.2.2.2
  intro nn
  induction nn with
  | zero => intros; omega
  | succ nn ih =>
    intro x4 x5 M hS k4 k5 hgg hggd v0 v1 v2 hnn
    refine n_iload c_36_30 rfl (n_iload c_36_32 rfl ?_)
    refine n_if2_ge c_36_34 (by omega) (by omega) ?_ ?_
    · intro h1
      exact n_rV c_36_63 rfl ⟨hS, by omega, by omega, by exact v2, by exact v0, by exact v1⟩
    · intro h2
      refine n_iload_n c_36_37 rfl (n_iload c_36_38 rfl (n_i_ishr c_36_40 rfl ?_))
      have f3 := n_shr_r s x5
      generalize (n_shr s x5) = z4 at f3 ⊢
      refine n_iconst c_36_41 (n_i_iand c_36_42 rfl ?_)
      have f5 := n_and_y (x := z4) (y := 1) (by omega)
      generalize (n_and z4 1) = z6 at f5 ⊢
      refine n_if0_eq c_36_43 (by omega) ?_ ?_
      · intro h7
        refine n_iinc (L2 := [some (2, q), some (0, 2), some (0, s), some (2, 4), some (0, x4), some (0, (x5 + 1))]) c_36_57 rfl rfl rfl (n_goto c_36_60 (n_fg (le_s (le_s (le_s (le_s (le_s (le_s le_0)))))) ?_))
        exact ih _ _ M hS (by omega) (by omega) (by omega) (by omega) (by exact v0) (by exact v1) (by exact v2) (by omega)
      · intro h8
        refine n_aload_n c_36_46 rfl (n_aload_n c_36_47 rfl (n_iload c_36_48 rfl (n_iload_n c_36_50 rfl (n_v2I c_36_51 rfl sc_4.n rfl rfl rfl rfl (widen2_3 (n := x5) hS (by omega)) ?_))))
        intro z9 M10 hP11
        obtain ⟨eM, f11⟩ := hP11
        subst eM
        refine n_v1V c_36_54 rfl hq.c0.1.n rfl rfl rfl rfl (addWideX_3 (q := q) (r := z9) (g := (M 3 15)) (gd := (M 112 0)) hS hq (by omega) rfl rfl) ?_
        intro  M12 hP13
        obtain ⟨hS12, f13g0, f13g1, f13p0, f13p1, f13p2⟩ := hP13
        refine n_iinc (L2 := [some (2, q), some (0, 2), some (0, s), some (2, 4), some (0, x4), some (0, (x5 + 1))]) c_36_57 rfl rfl rfl (n_goto c_36_60 (n_fg (le_s (le_s (le_s (le_s (le_s (le_s le_0)))))) ?_))
        exact ih _ _ M12 hS12 (by omega) (by omega) (by omega) (by omega) (by rw [f13p1]; exact v0) (by rw [f13p2]; exact v1) (by exact fun a i hc w => (f13p0 a i hc w).trans (v2 a i hc w)) (by omega)
set_option maxHeartbeats 4000000 in
theorem takeLX2_3 {xs : List Int32} {e : Nat} {ac : Int} {M : nM} {q s g gd : Int} {Ms : nM} (hS : Sf 3 ac M M) (hq : LawAt q) (hs : -2147483648 ≤ s ∧ s ≤ 2147483647) (hg : M 3 15 = g) (hgd : M 112 0 = gd) (hms : M = Ms) : nW xs (e + 1) 36 0 [some (2, q), some (0, 2), some (0, s), some (2, 4), none, none] [] M (nPV fun M1 => Sf 3 ac M1 M1 ∧ (M1 3 15 = g) ∧ (M1 112 0 = gd) ∧ (FL q Ms M1) ∧ (M1 q 0 = 2) ∧ (M1 q 1 = s)) := by
  have hd : (3 : Int) = 2 ∨ (3 : Int) = 3 := by decide
  have hac := hS.2.2.2.2
  refine n_aload_n c_36_0 rfl (n_iload_n c_36_1 rfl (n_putM (bi := 0) hS c_36_2 hq.c0.1.n rfl rfl rfl rfl (m_law hq (by omega) (by omega)) ?_))
  intro M1 eM1 hS1
  have g1_0 : M1 3 15 = M 3 15 := by rw [eM1]; exact nu_a (by unfold LawAt at *; omega)
  have g1_1 : M1 112 0 = M 112 0 := by rw [eM1]; exact nu_a (by unfold LawAt at *; omega)
  have g1_2 : M1 q 0 = 2 := by rw [eM1]; exact nu_s _ _ _ _
  refine n_aload_n c_36_5 rfl (n_iload_n c_36_6 rfl (n_putM (bi := 1) hS1 c_36_7 hq.c0.1.n rfl rfl rfl rfl (m_law hq (by omega) (by omega)) ?_))
  intro M2 eM2 hS2
  have g2_0 : M2 3 15 = M1 3 15 := by rw [eM2]; exact nu_a (by unfold LawAt at *; omega)
  have g2_1 : M2 112 0 = M1 112 0 := by rw [eM2]; exact nu_a (by unfold LawAt at *; omega)
  have g2_2 : M2 q 0 = M1 q 0 := by rw [eM2]; exact nu_i (by omega)
  have g2_3 : M2 q 1 = s := by rw [eM2]; exact nu_s _ _ _ _
  refine n_aload_n c_36_10 rfl (n_iconst c_36_11 (n_putM (bi := 2) hS2 c_36_12 hq.c0.1.n rfl rfl rfl rfl (m_law hq (by omega) (by omega)) ?_))
  intro M3 eM3 hS3
  have g3_0 : M3 3 15 = M2 3 15 := by rw [eM3]; exact nu_a (by unfold LawAt at *; omega)
  have g3_1 : M3 112 0 = M2 112 0 := by rw [eM3]; exact nu_a (by unfold LawAt at *; omega)
  have g3_2 : M3 q 0 = M2 q 0 := by rw [eM3]; exact nu_i (by omega)
  have g3_3 : M3 q 1 = M2 q 1 := by rw [eM3]; exact nu_i (by omega)
  have g3_4 : M3 q 2 = 0 := by rw [eM3]; exact nu_s _ _ _ _
  refine n_aload_n c_36_15 rfl (n_iconst c_36_16 (n_putM (bi := 3) hS3 c_36_17 hq.c0.1.n rfl rfl rfl rfl (m_law hq (by omega) (by omega)) ?_))
  intro M4 eM4 hS4
  have g4_0 : M4 3 15 = M3 3 15 := by rw [eM4]; exact nu_a (by unfold LawAt at *; omega)
  have g4_1 : M4 112 0 = M3 112 0 := by rw [eM4]; exact nu_a (by unfold LawAt at *; omega)
  have g4_2 : M4 q 0 = M3 q 0 := by rw [eM4]; exact nu_i (by omega)
  have g4_3 : M4 q 1 = M3 q 1 := by rw [eM4]; exact nu_i (by omega)
  have g4_4 : M4 q 2 = M3 q 2 := by rw [eM4]; exact nu_i (by omega)
  have g4_5 : M4 q 3 = 0 := by rw [eM4]; exact nu_s _ _ _ _
  refine n_aload_n c_36_20 rfl (n_iload_n c_36_21 rfl (n_v1I c_36_22 rfl sc_4.n rfl rfl rfl rfl (power2_3  hS4 ) ?_))
  intro z5 M6 hP7
  obtain ⟨eM, f7⟩ := hP7
  subst eM
  obtain rfl : z5 = 9 := by omega
  refine n_istore (L2 := [some (2, q), some (0, 2), some (0, s), some (2, 4), some (0, 9), none]) c_36_25 rfl rfl (n_iconst c_36_27 (n_istore (L2 := [some (2, q), some (0, 2), some (0, s), some (2, 4), some (0, 9), some (0, 0)]) c_36_28 rfl rfl (n_fg (le_s (le_s (le_s (le_s (le_s (le_s le_0)))))) ?_)))
  exact (takeLX2_3_c hS hq hs hg hgd hms 32) _ _ M4 hS4 (by omega) (by omega) (by omega) (by omega) (by omega) (by omega) (by subst hms; exact (FL.u (FL.u (FL.u (FL.u (fun _ _ _ _ => rfl) eM1 (by omega)) eM2 (by omega)) eM3 (by omega)) eM4 (by omega))) (by omega)

set_option maxHeartbeats 4000000 in
theorem readLawX2_3_c {xs : List Int32} {e : Nat} {ac : Int} {M0 M : nM} {s : Int} (hS : Sf 3 ac M0 M) (hs : 0 ≤ s ∧ s ≤ 7) : ∀ nn : Nat, (∀ (x3 x4 x5 x6 : Int), (0 ≤ x3 ∧ x3 ≤ 27) → (0 ≤ x4 ∧ x4 ≤ 134217727) → (1 ≤ x5 ∧ x5 ≤ 82) → (0 ≤ x6 ∧ x6 ≤ 27) → (x4 = lset 3 2 (fun i => M 9 (40 * s + i)) x6.toNat) → (x5 = 1 + 2 * x6) → (RO 3 (M 11 s) (fun i => M 9 (40 * s + i)) x5) → (x3 = M 9 (40 * s + 0)) → (x6 ≤ x3) → (0 < M 11 s) → (27 - x6) * 1 + 1 < (nn : Int) → nW xs (e + 1) 128 27 [some (2, 3), some (0, 2), some (0, s), some (0, x3), some (0, x4), some (0, x5), some (0, x6), none, none, none] [] M (nPI fun z M1 => M = M1 ∧ (-6 ≤ z ∧ z ≤ 134217727) ∧ (rLawF 3 2 (M 11 s) (fun i => M 9 (40 * s + i)) z ∨ (rLawS 3 2 (M 11 s) (fun i => M 9 (40 * s + i)) ∧ z = lset 3 2 (fun i => M 9 (40 * s + i)) (M 9 (40 * s + 0)).toNat ∧ 0 ≤ z)))) := by
  have hd : (3 : Int) = 2 ∨ (3 : Int) = 3 := by decide
  have hac := hS.2.2.2.2
  intro nn
  induction nn with
  | zero => intros; omega
  | succ nn ih =>
    intro x3 x4 x5 x6 k3 k4 k5 k6 v0 v1 v2 v3 v4 v5 hnn
    refine n_iload c_128_27 rfl (n_iload_n c_128_29 rfl ?_)
    refine n_if2_ge c_128_30 (by omega) (by omega) ?_ ?_
    · intro h1
      refine n_iload c_128_113 rfl ?_
      exact n_rI c_128_115 rfl ⟨rfl, by omega, by exact Or.inr ⟨⟨by omega, by show 0 ≤ M 9 (40 * s + 0); omega, by show M 9 (40 * s + 0) ≤ 27; omega, by have q : 1 + 2 * M 9 (40 * s + 0) = x5 := (by omega); show RO 3 (M 11 s) (fun i => M 9 (40 * s + i)) (1 + 2 * M 9 (40 * s + 0)); rw [q]; exact v2⟩, by rw [show M 9 (40 * s + 0) = x6 by omega]; exact v0, by omega⟩⟩
    · intro h2
      refine n_iconst c_128_33 (n_istore (L2 := [some (2, 3), some (0, 2), some (0, s), some (0, x3), some (0, x4), some (0, x5), some (0, x6), some (0, 0), none, none]) c_128_34 rfl rfl (n_iconst c_128_36 (n_istore (L2 := [some (2, 3), some (0, 2), some (0, s), some (0, x3), some (0, x4), some (0, x5), some (0, x6), some (0, 0), some (0, 0), none]) c_128_37 rfl rfl (n_iload c_128_39 rfl (n_iload_n c_128_41 rfl ?_)))))
      refine n_if2_ge c_128_42 (by omega) (by omega) ?_ ?_
      · intro h3
        exfalso; omega
      · intro h4
        refine n_aload_n c_128_45 rfl (n_getR c_128_46 sc_3.n rfl rfl rfl r_3_1 (n_iload_n c_128_49 rfl (n_iload c_128_50 rfl (n_aload_n c_128_52 rfl (n_getR c_128_53 sc_3.n rfl rfl rfl r_3_0 (n_getV (bi := 0) c_128_56 sc_4.n rfl rfl rfl (t_4_0 hS) ?_))))))
        intro z5 ez5 f6
        obtain rfl : z5 = 3 := by omega
        refine n_iconst c_128_59 (n_isub c_128_60 rfl ?_)
        have hcst : ((3 - 1) : Int) = 2 := by omega
        rw [hcst]
        refine n_v3I c_128_61 rfl sc_8.n rfl rfl rfl rfl (readX2_3 (s := s) (i := x5) hS (by omega) (by omega)) ?_
        intro z7 M8 hP9
        obtain ⟨eM, f9, f9p0⟩ := hP9
        subst eM
        refine n_istore (L2 := [some (2, 3), some (0, 2), some (0, s), some (0, x3), some (0, x4), some (0, x5), some (0, x6), some (0, 0), some (0, 0), some (0, z7)]) c_128_64 rfl rfl (n_iload c_128_66 rfl ?_)
        refine n_if0_ge c_128_68 (by omega) ?_ ?_
        · intro h10
          refine n_iload c_128_74 rfl ?_
          have ro11 := RO.ext v2 (x := x5) ⟨by omega, by show 0 ≤ M 9 (40 * s + x5); omega, by show M 9 (40 * s + x5) ≤ 3 - 1; omega⟩ rfl
          refine n_aload_n c_128_76 rfl (n_getR c_128_77 sc_3.n rfl rfl rfl r_3_0 (n_getV (bi := 0) c_128_80 sc_4.n rfl rfl rfl (t_4_0 hS) ?_))
          intro z12 ez12 f13
          obtain rfl : z12 = 3 := by omega
          refine n_imul c_128_83 rfl (n_iload c_128_84 rfl (n_iadd c_128_86 rfl (n_istore (L2 := [some (2, 3), some (0, 2), some (0, s), some (0, x3), some (0, x4), some (0, x5), some (0, x6), some (0, ((0 * 3) + z7)), some (0, 0), some (0, z7)]) c_128_87 rfl rfl (n_iinc (L2 := [some (2, 3), some (0, 2), some (0, s), some (0, x3), some (0, x4), some (0, (x5 + 1)), some (0, x6), some (0, ((0 * 3) + z7)), some (0, 0), some (0, z7)]) c_128_89 rfl rfl rfl (n_iinc (L2 := [some (2, 3), some (0, 2), some (0, s), some (0, x3), some (0, x4), some (0, (x5 + 1)), some (0, x6), some (0, ((0 * 3) + z7)), some (0, (0 + 1)), some (0, z7)]) c_128_92 rfl rfl rfl (n_goto c_128_95 (n_iload c_128_39 rfl (n_iload_n c_128_41 rfl ?_))))))))
          refine n_if2_ge c_128_42 (by omega) (by omega) ?_ ?_
          · intro h14
            exfalso; omega
          · intro h15
            refine n_aload_n c_128_45 rfl (n_getR c_128_46 sc_3.n rfl rfl rfl r_3_1 (n_iload_n c_128_49 rfl (n_iload c_128_50 rfl (n_aload_n c_128_52 rfl (n_getR c_128_53 sc_3.n rfl rfl rfl r_3_0 (n_getV (bi := 0) c_128_56 sc_4.n rfl rfl rfl (t_4_0 hS) ?_))))))
            intro z16 ez16 f17
            obtain rfl : z16 = 3 := by omega
            refine n_iconst c_128_59 (n_isub c_128_60 rfl ?_)
            have hcst : ((3 - 1) : Int) = 2 := by omega
            rw [hcst]
            refine n_v3I c_128_61 rfl sc_8.n rfl rfl rfl rfl (readX2_3 (s := s) (i := (x5 + 1)) hS (by omega) (by omega)) ?_
            intro z18 M19 hP20
            obtain ⟨eM, f20, f20p0⟩ := hP20
            subst eM
            refine n_istore (L2 := [some (2, 3), some (0, 2), some (0, s), some (0, x3), some (0, x4), some (0, (x5 + 1)), some (0, x6), some (0, ((0 * 3) + z7)), some (0, (0 + 1)), some (0, z18)]) c_128_64 rfl rfl (n_iload c_128_66 rfl ?_)
            refine n_if0_ge c_128_68 (by omega) ?_ ?_
            · intro h21
              refine n_iload c_128_74 rfl ?_
              have ro22 := RO.ext ro11 (x := (x5 + 1)) ⟨by omega, by show 0 ≤ M 9 (40 * s + (x5 + 1)); omega, by show M 9 (40 * s + (x5 + 1)) ≤ 3 - 1; omega⟩ rfl
              refine n_aload_n c_128_76 rfl (n_getR c_128_77 sc_3.n rfl rfl rfl r_3_0 (n_getV (bi := 0) c_128_80 sc_4.n rfl rfl rfl (t_4_0 hS) ?_))
              intro z23 ez23 f24
              obtain rfl : z23 = 3 := by omega
              refine n_imul c_128_83 rfl (n_iload c_128_84 rfl (n_iadd c_128_86 rfl (n_istore (L2 := [some (2, 3), some (0, 2), some (0, s), some (0, x3), some (0, x4), some (0, (x5 + 1)), some (0, x6), some (0, ((((0 * 3) + z7) * 3) + z18)), some (0, (0 + 1)), some (0, z18)]) c_128_87 rfl rfl (n_iinc (L2 := [some (2, 3), some (0, 2), some (0, s), some (0, x3), some (0, x4), some (0, ((x5 + 1) + 1)), some (0, x6), some (0, ((((0 * 3) + z7) * 3) + z18)), some (0, (0 + 1)), some (0, z18)]) c_128_89 rfl rfl rfl (n_iinc (L2 := [some (2, 3), some (0, 2), some (0, s), some (0, x3), some (0, x4), some (0, ((x5 + 1) + 1)), some (0, x6), some (0, ((((0 * 3) + z7) * 3) + z18)), some (0, ((0 + 1) + 1)), some (0, z18)]) c_128_92 rfl rfl rfl (n_goto c_128_95 (n_iload c_128_39 rfl (n_iload_n c_128_41 rfl ?_))))))))
              refine n_if2_ge c_128_42 (by omega) (by omega) ?_ ?_
              · intro h25
                refine n_iload c_128_98 rfl (n_iconst c_128_100 (n_iload c_128_101 rfl (n_i_ishl c_128_103 rfl (n_i_ior c_128_104 rfl ?_))))
                have hor := (n_or_bit27 (s := x4) (r := ((((0 * 3) + z7) * 3) + z18)) (by omega) (by omega)).1
                have hls := lset_go (d := 3) (k := 2) (f := (fun i => M 9 (40 * s + i))) (num := ((((0 * 3) + z7) * 3) + z18)) v0 v1 (by omega) (by show _ = M 9 (40 * s + x5) * 3 + M 9 (40 * s + (x5 + 1)); omega)
                refine n_istore (L2 := [some (2, 3), some (0, 2), some (0, s), some (0, x3), some (0, (n_or x4 (n_shl 1 ((((0 * 3) + z7) * 3) + z18)))), some (0, ((x5 + 1) + 1)), some (0, x6), some (0, ((((0 * 3) + z7) * 3) + z18)), some (0, ((0 + 1) + 1)), some (0, z18)]) c_128_105 rfl rfl (n_iinc (L2 := [some (2, 3), some (0, 2), some (0, s), some (0, x3), some (0, (n_or x4 (n_shl 1 ((((0 * 3) + z7) * 3) + z18)))), some (0, ((x5 + 1) + 1)), some (0, (x6 + 1)), some (0, ((((0 * 3) + z7) * 3) + z18)), some (0, ((0 + 1) + 1)), some (0, z18)]) c_128_107 rfl rfl rfl (n_goto c_128_110 (n_fg (le_s (le_s (le_s (le_s (le_s (le_s (le_s (le_n (le_n (le_n le_0)))))))))) ?_)))
                exact ih _ _ _ _ (by omega) (by omega) (by omega) (by omega) (by exact hls) (by omega) (by exact ro22) (by omega) (by omega) (by omega) (by omega)
              · intro h26
                exfalso; omega
            · intro h27
              refine n_iload c_128_71 rfl ?_
              exact n_rI c_128_73 rfl ⟨rfl, by omega, by exact Or.inl (Or.inr (Or.inr ⟨by omega, by show 0 ≤ M 9 (40 * s + 0); omega, by show M 9 (40 * s + 0) ≤ 27; omega, (x5 + 1), by omega, by show (x5 + 1) < 1 + 2 * M 9 (40 * s + 0); omega, ro11, by show (M 11 s ≤ (x5 + 1) ∧ _ = -6) ∨ ((x5 + 1) < M 11 s ∧ (M 9 (40 * s + (x5 + 1)) < 0 ∨ 3 - 1 < M 9 (40 * s + (x5 + 1))) ∧ _ = -4); omega⟩))⟩
        · intro h28
          refine n_iload c_128_71 rfl ?_
          exact n_rI c_128_73 rfl ⟨rfl, by omega, by exact Or.inl (Or.inr (Or.inr ⟨by omega, by show 0 ≤ M 9 (40 * s + 0); omega, by show M 9 (40 * s + 0) ≤ 27; omega, x5, by omega, by show x5 < 1 + 2 * M 9 (40 * s + 0); omega, v2, by show (M 11 s ≤ x5 ∧ _ = -6) ∨ (x5 < M 11 s ∧ (M 9 (40 * s + x5) < 0 ∨ 3 - 1 < M 9 (40 * s + x5)) ∧ _ = -4); omega⟩))⟩
set_option maxHeartbeats 4000000 in
theorem readLawX2_3 {xs : List Int32} {e : Nat} {ac : Int} {M0 M : nM} {s : Int} (hS : Sf 3 ac M0 M) (hs : 0 ≤ s ∧ s ≤ 7) : nW xs (e + 1) 128 0 [some (2, 3), some (0, 2), some (0, s), none, none, none, none, none, none, none] [] M (nPI fun z M1 => M = M1 ∧ (-6 ≤ z ∧ z ≤ 134217727) ∧ (rLawF 3 2 (M 11 s) (fun i => M 9 (40 * s + i)) z ∨ (rLawS 3 2 (M 11 s) (fun i => M 9 (40 * s + i)) ∧ z = lset 3 2 (fun i => M 9 (40 * s + i)) (M 9 (40 * s + 0)).toNat ∧ 0 ≤ z))) := by
  have hd : (3 : Int) = 2 ∨ (3 : Int) = 3 := by decide
  have hac := hS.2.2.2.2
  refine n_aload_n c_128_0 rfl (n_getR c_128_1 sc_3.n rfl rfl rfl r_3_1 (n_iload_n c_128_4 rfl (n_iconst c_128_5 (n_bipush c_128_6 rfl (n_v3I c_128_8 rfl sc_8.n rfl rfl rfl rfl (readX27_3 (s := s) (i := 0) hS (by omega) (by omega)) ?_)))))
  intro z1 M2 hP3
  obtain ⟨eM, f3, f3p0⟩ := hP3
  subst eM
  refine n_istore_n (L2 := [some (2, 3), some (0, 2), some (0, s), some (0, z1), none, none, none, none, none, none]) c_128_11 rfl rfl (n_iload_n c_128_12 rfl ?_)
  refine n_if0_ge c_128_13 (by omega) ?_ ?_
  · intro h4
    refine n_iconst c_128_18 (n_istore (L2 := [some (2, 3), some (0, 2), some (0, s), some (0, z1), some (0, 0), none, none, none, none, none]) c_128_19 rfl rfl (n_iconst c_128_21 (n_istore (L2 := [some (2, 3), some (0, 2), some (0, s), some (0, z1), some (0, 0), some (0, 1), none, none, none, none]) c_128_22 rfl rfl (n_iconst c_128_24 (n_istore (L2 := [some (2, 3), some (0, 2), some (0, s), some (0, z1), some (0, 0), some (0, 1), some (0, 0), none, none, none]) c_128_25 rfl rfl (n_fg (le_s (le_s (le_s (le_s (le_s (le_s (le_s (le_n (le_n (le_n le_0)))))))))) ?_))))))
    exact (readLawX2_3_c hS hs 68) _ _ _ _ (by omega) (by omega) (by omega) (by omega) (by rfl) (by omega) (by exact fun i h0 h1 => by omega) (by omega) (by omega) (by omega) (by omega)
  · intro h5
    refine n_iload_n c_128_16 rfl ?_
    exact n_rI c_128_17 rfl ⟨rfl, by omega, by rcases f3p0 with q | q | q <;> first | exact Or.inl (Or.inl ⟨by omega, by omega⟩) | exact Or.inl (Or.inr (Or.inl ⟨by omega, by show M 9 (40 * s + 0) < 0 ∨ 27 < M 9 (40 * s + 0); omega, by omega⟩)) | omega⟩

set_option maxHeartbeats 4000000 in
theorem lawX2_3 {xs : List Int32} {e : Nat} {ac : Int} {M : nM} {s gd : Int} (hS : Sf 3 ac M M) (hs : -2147483648 ≤ s ∧ s ≤ 2147483647) (hgd : M 112 0 = gd) : nW xs (e + 2) 98 0 [some (2, 3), some (0, 2), some (0, s), none] [] M (nPI fun z M1 => Sf 3 ac M1 M1 ∧ (-2147483648 ≤ z ∧ z ≤ 2147483647) ∧ (M1 112 0 = gd) ∧ (cLaw 3 2 s z M M1)) := by
  have hd : (3 : Int) = 2 ∨ (3 : Int) = 3 := by decide
  have hac := hS.2.2.2.2
  refine n_aload_n c_98_0 rfl (n_getR c_98_1 sc_3.n rfl rfl rfl r_3_1 (n_iload_n c_98_4 rfl (n_v1I c_98_5 rfl sc_8.n rfl rfl rfl rfl (isSlotF_3 (s := s) hS (by omega)) ?_)))
  intro z1 M2 hP3
  obtain ⟨eM, f3, f3p0⟩ := hP3
  subst eM
  refine n_if0_eq c_98_8 (by omega) ?_ ?_
  · intro h4
    refine n_bipush c_98_19 rfl ?_
    exact n_rI c_98_21 rfl ⟨hS, by omega, by omega, by exact Or.inl ⟨by omega, rfl, fun _ _ _ => rfl⟩⟩
  · intro h5
    refine n_aload_n c_98_11 rfl (n_iload_n c_98_12 rfl (n_v1I c_98_13 rfl sc_3.n rfl rfl rfl rfl (isPlaceCountF_3 (k := 2) hS (by omega)) ?_))
    intro z6 M7 hP8
    obtain ⟨eM, f8, f8p0⟩ := hP8
    subst eM
    refine n_if0_ne c_98_16 (by omega) ?_ ?_
    · intro h9
      refine n_aload_n c_98_22 rfl (n_getV (bi := 15) c_98_23 sc_3.n rfl rfl rfl (t_3_15 hS) ?_)
      intro z10 ez10 f11
      refine n_bipush c_98_26 rfl ?_
      refine n_if2_lt c_98_28 (by omega) (by omega) ?_ ?_
      · intro h12
        refine n_aload_n c_98_34 rfl (n_getR c_98_35 sc_3.n rfl rfl rfl r_3_1 (n_iload_n c_98_38 rfl (n_v1I c_98_39 rfl sc_8.n rfl rfl rfl rfl (hasRowF_3 (s := s) hS (by omega)) ?_)))
        intro z13 M14 hP15
        obtain ⟨eM, f15, f15p0⟩ := hP15
        subst eM
        refine n_if0_ne c_98_42 (by omega) ?_ ?_
        · intro h16
          refine n_aload_n c_98_48 rfl (n_iload_n c_98_49 rfl (n_iload_n c_98_50 rfl (n_v2I c_98_51 rfl sc_3.n rfl rfl rfl rfl (readLawX2_3 (s := s) hS (by omega)) ?_)))
          intro z17 M18 hP19
          obtain ⟨eM, f19, f19p0⟩ := hP19
          subst eM
          refine n_istore_n (L2 := [some (2, 3), some (0, 2), some (0, s), some (0, z17)]) c_98_54 rfl rfl (n_iload_n c_98_55 rfl ?_)
          refine n_if0_ge c_98_56 (by omega) ?_ ?_
          · intro h20
            refine n_aload_n c_98_61 rfl (n_getR c_98_62 sc_3.n rfl rfl rfl r_3_3 (n_aload_n c_98_65 rfl (n_getV (bi := 15) c_98_66 sc_3.n rfl rfl rfl (t_3_15 hS) ?_)))
            intro z21 ez21 f22
            refine n_aaload c_98_69 sc_13.n rfl rfl rfl (by omega) (r_laws _) ?_
            have q23 : LawAt (79 + 2 * z21) := by unfold LawAt; omega
            refine n_iload_n c_98_70 rfl (n_iload_n c_98_71 rfl (n_aload_n c_98_72 rfl (n_getR c_98_73 sc_3.n rfl rfl rfl r_3_0 (n_v3V c_98_76 rfl q23.c0.1.n rfl rfl rfl rfl (takeLX2_3 (q := (79 + 2 * z21)) (s := z17) (g := (M 3 15)) (gd := (M 112 0)) (Ms := M) hS q23 (by omega) rfl rfl (by rfl)) ?_))))
            intro  M24 hP25
            obtain ⟨hS24, f25g0, f25g1, f25p0, f25p1, f25p2⟩ := hP25
            refine n_aload_n c_98_79 rfl (n_dup2 c_98_80 (n_getV (bi := 15) c_98_81 sc_3.n rfl rfl rfl (t_3_15 hS24) ?_))
            intro z26 ez26 f27
            refine n_dup_x102 c_98_84 (n_iconst c_98_85 (n_iadd c_98_86 rfl (n_putM (bi := 15) hS24 c_98_87 sc_3.n rfl rfl rfl rfl (m_3_15 (by omega)) ?_)))
            intro M28 eM28 hS28
            have g28_0 : M28 112 0 = M24 112 0 := by rw [eM28]; exact nu_a (by omega)
            have g28_1 : M28 3 15 = (z26 + 1) := by rw [eM28]; exact nu_s _ _ _ _
            exact n_rI c_98_90 rfl ⟨hS28, by omega, by omega, by exact cLaw_ok (n := z21) (by omega) (by omega) (by omega) (by omega) (by omega) (by omega) (by rcases f19p0 with q | q; exact absurd q.neg (by omega); exact q) f25p0 f25p1 f25p2 eM28 (by omega) (by omega) (by omega)⟩
          · intro h29
            refine n_iload_n c_98_59 rfl ?_
            exact n_rI c_98_60 rfl ⟨hS, by omega, by omega, by exact Or.inr (Or.inr (Or.inr (Or.inl ⟨by omega, by omega, by omega, by omega, by omega, by omega, (by rcases f19p0 with q | q; exact q; have := q.2.2; omega), fun _ _ _ => rfl⟩)))⟩
        · intro h30
          refine n_bipush c_98_45 rfl ?_
          exact n_rI c_98_47 rfl ⟨hS, by omega, by omega, by exact Or.inr (Or.inr (Or.inl ⟨by omega, by omega, by omega, by omega, by omega, by omega, rfl, fun _ _ _ => rfl⟩))⟩
      · intro h31
        refine n_bipush c_98_31 rfl ?_
        exact n_rI c_98_33 rfl ⟨hS, by omega, by omega, by exact Or.inr (Or.inl ⟨by omega, by omega, by omega, by omega, by omega, rfl, fun _ _ _ => rfl⟩)⟩
    · intro h32
      refine n_bipush c_98_19 rfl ?_
      exact n_rI c_98_21 rfl ⟨hS, by omega, by omega, by exact Or.inl ⟨by omega, rfl, fun _ _ _ => rfl⟩⟩

/-! What the methods do to the core. -/
set_option maxHeartbeats 4000000 in
theorem takeLX3_3_c {xs : List Int32} {e : Nat} {ac : Int} {M : nM} {q s g gd : Int} {Ms : nM} (hS : Sf 3 ac M M) (hq : LawAt q) (hs : -2147483648 ≤ s ∧ s ≤ 2147483647) (hg : M 3 15 = g) (hgd : M 112 0 = gd) (hms : M = Ms) : ∀ nn : Nat, (∀ (x4 x5 : Int) (M : nM), Sf 3 ac M M → (27 ≤ x4 ∧ x4 ≤ 27) → (0 ≤ x5 ∧ x5 ≤ 27) → (M 3 15 = g) → (M 112 0 = gd) → (M q 0 = 3) → (M q 1 = s) → (FL q Ms M) → (27 - x5) * 1 + 1 < (nn : Int) → nW xs (e + 1) 36 30 [some (2, q), some (0, 3), some (0, s), some (2, 4), some (0, x4), some (0, x5)] [] M (nPV fun M1 => Sf 3 ac M1 M1 ∧ (M1 3 15 = g) ∧ (M1 112 0 = gd) ∧ (FL q Ms M1) ∧ (M1 q 0 = 3) ∧ (M1 q 1 = s))) := by
  have hd : (3 : Int) = 2 ∨ (3 : Int) = 3 := by decide
  have hac := hS.2.2.2.2
  intro nn
  induction nn with
  | zero => intros; omega
  | succ nn ih =>
    intro x4 x5 M hS k4 k5 hgg hggd v0 v1 v2 hnn
    refine n_iload c_36_30 rfl (n_iload c_36_32 rfl ?_)
    refine n_if2_ge c_36_34 (by omega) (by omega) ?_ ?_
    · intro h1
      exact n_rV c_36_63 rfl ⟨hS, by omega, by omega, by exact v2, by exact v0, by exact v1⟩
    · intro h2
      refine n_iload_n c_36_37 rfl (n_iload c_36_38 rfl (n_i_ishr c_36_40 rfl ?_))
      have f3 := n_shr_r s x5
      generalize (n_shr s x5) = z4 at f3 ⊢
      refine n_iconst c_36_41 (n_i_iand c_36_42 rfl ?_)
      have f5 := n_and_y (x := z4) (y := 1) (by omega)
      generalize (n_and z4 1) = z6 at f5 ⊢
      refine n_if0_eq c_36_43 (by omega) ?_ ?_
      · intro h7
        refine n_iinc (L2 := [some (2, q), some (0, 3), some (0, s), some (2, 4), some (0, x4), some (0, (x5 + 1))]) c_36_57 rfl rfl rfl (n_goto c_36_60 (n_fg (le_s (le_s (le_s (le_s (le_s (le_s le_0)))))) ?_))
        exact ih _ _ M hS (by omega) (by omega) (by omega) (by omega) (by exact v0) (by exact v1) (by exact v2) (by omega)
      · intro h8
        refine n_aload_n c_36_46 rfl (n_aload_n c_36_47 rfl (n_iload c_36_48 rfl (n_iload_n c_36_50 rfl (n_v2I c_36_51 rfl sc_4.n rfl rfl rfl rfl (widen3_3 (n := x5) hS (by omega)) ?_))))
        intro z9 M10 hP11
        obtain ⟨eM, f11⟩ := hP11
        subst eM
        refine n_v1V c_36_54 rfl hq.c0.1.n rfl rfl rfl rfl (addWideX_3 (q := q) (r := z9) (g := (M 3 15)) (gd := (M 112 0)) hS hq (by omega) rfl rfl) ?_
        intro  M12 hP13
        obtain ⟨hS12, f13g0, f13g1, f13p0, f13p1, f13p2⟩ := hP13
        refine n_iinc (L2 := [some (2, q), some (0, 3), some (0, s), some (2, 4), some (0, x4), some (0, (x5 + 1))]) c_36_57 rfl rfl rfl (n_goto c_36_60 (n_fg (le_s (le_s (le_s (le_s (le_s (le_s le_0)))))) ?_))
        exact ih _ _ M12 hS12 (by omega) (by omega) (by omega) (by omega) (by rw [f13p1]; exact v0) (by rw [f13p2]; exact v1) (by exact fun a i hc w => (f13p0 a i hc w).trans (v2 a i hc w)) (by omega)
set_option maxHeartbeats 4000000 in
theorem takeLX3_3 {xs : List Int32} {e : Nat} {ac : Int} {M : nM} {q s g gd : Int} {Ms : nM} (hS : Sf 3 ac M M) (hq : LawAt q) (hs : -2147483648 ≤ s ∧ s ≤ 2147483647) (hg : M 3 15 = g) (hgd : M 112 0 = gd) (hms : M = Ms) : nW xs (e + 1) 36 0 [some (2, q), some (0, 3), some (0, s), some (2, 4), none, none] [] M (nPV fun M1 => Sf 3 ac M1 M1 ∧ (M1 3 15 = g) ∧ (M1 112 0 = gd) ∧ (FL q Ms M1) ∧ (M1 q 0 = 3) ∧ (M1 q 1 = s)) := by
  have hd : (3 : Int) = 2 ∨ (3 : Int) = 3 := by decide
  have hac := hS.2.2.2.2
  refine n_aload_n c_36_0 rfl (n_iload_n c_36_1 rfl (n_putM (bi := 0) hS c_36_2 hq.c0.1.n rfl rfl rfl rfl (m_law hq (by omega) (by omega)) ?_))
  intro M1 eM1 hS1
  have g1_0 : M1 3 15 = M 3 15 := by rw [eM1]; exact nu_a (by unfold LawAt at *; omega)
  have g1_1 : M1 112 0 = M 112 0 := by rw [eM1]; exact nu_a (by unfold LawAt at *; omega)
  have g1_2 : M1 q 0 = 3 := by rw [eM1]; exact nu_s _ _ _ _
  refine n_aload_n c_36_5 rfl (n_iload_n c_36_6 rfl (n_putM (bi := 1) hS1 c_36_7 hq.c0.1.n rfl rfl rfl rfl (m_law hq (by omega) (by omega)) ?_))
  intro M2 eM2 hS2
  have g2_0 : M2 3 15 = M1 3 15 := by rw [eM2]; exact nu_a (by unfold LawAt at *; omega)
  have g2_1 : M2 112 0 = M1 112 0 := by rw [eM2]; exact nu_a (by unfold LawAt at *; omega)
  have g2_2 : M2 q 0 = M1 q 0 := by rw [eM2]; exact nu_i (by omega)
  have g2_3 : M2 q 1 = s := by rw [eM2]; exact nu_s _ _ _ _
  refine n_aload_n c_36_10 rfl (n_iconst c_36_11 (n_putM (bi := 2) hS2 c_36_12 hq.c0.1.n rfl rfl rfl rfl (m_law hq (by omega) (by omega)) ?_))
  intro M3 eM3 hS3
  have g3_0 : M3 3 15 = M2 3 15 := by rw [eM3]; exact nu_a (by unfold LawAt at *; omega)
  have g3_1 : M3 112 0 = M2 112 0 := by rw [eM3]; exact nu_a (by unfold LawAt at *; omega)
  have g3_2 : M3 q 0 = M2 q 0 := by rw [eM3]; exact nu_i (by omega)
  have g3_3 : M3 q 1 = M2 q 1 := by rw [eM3]; exact nu_i (by omega)
  have g3_4 : M3 q 2 = 0 := by rw [eM3]; exact nu_s _ _ _ _
  refine n_aload_n c_36_15 rfl (n_iconst c_36_16 (n_putM (bi := 3) hS3 c_36_17 hq.c0.1.n rfl rfl rfl rfl (m_law hq (by omega) (by omega)) ?_))
  intro M4 eM4 hS4
  have g4_0 : M4 3 15 = M3 3 15 := by rw [eM4]; exact nu_a (by unfold LawAt at *; omega)
  have g4_1 : M4 112 0 = M3 112 0 := by rw [eM4]; exact nu_a (by unfold LawAt at *; omega)
  have g4_2 : M4 q 0 = M3 q 0 := by rw [eM4]; exact nu_i (by omega)
  have g4_3 : M4 q 1 = M3 q 1 := by rw [eM4]; exact nu_i (by omega)
  have g4_4 : M4 q 2 = M3 q 2 := by rw [eM4]; exact nu_i (by omega)
  have g4_5 : M4 q 3 = 0 := by rw [eM4]; exact nu_s _ _ _ _
  refine n_aload_n c_36_20 rfl (n_iload_n c_36_21 rfl (n_v1I c_36_22 rfl sc_4.n rfl rfl rfl rfl (power3_3  hS4 ) ?_))
  intro z5 M6 hP7
  obtain ⟨eM, f7⟩ := hP7
  subst eM
  obtain rfl : z5 = 27 := by omega
  refine n_istore (L2 := [some (2, q), some (0, 3), some (0, s), some (2, 4), some (0, 27), none]) c_36_25 rfl rfl (n_iconst c_36_27 (n_istore (L2 := [some (2, q), some (0, 3), some (0, s), some (2, 4), some (0, 27), some (0, 0)]) c_36_28 rfl rfl (n_fg (le_s (le_s (le_s (le_s (le_s (le_s le_0)))))) ?_)))
  exact (takeLX3_3_c hS hq hs hg hgd hms 68) _ _ M4 hS4 (by omega) (by omega) (by omega) (by omega) (by omega) (by omega) (by subst hms; exact (FL.u (FL.u (FL.u (FL.u (fun _ _ _ _ => rfl) eM1 (by omega)) eM2 (by omega)) eM3 (by omega)) eM4 (by omega))) (by omega)

set_option maxHeartbeats 4000000 in
theorem readLawX3_3_c {xs : List Int32} {e : Nat} {ac : Int} {M0 M : nM} {s : Int} (hS : Sf 3 ac M0 M) (hs : 0 ≤ s ∧ s ≤ 7) : ∀ nn : Nat, (∀ (x3 x4 x5 x6 : Int), (0 ≤ x3 ∧ x3 ≤ 27) → (0 ≤ x4 ∧ x4 ≤ 134217727) → (1 ≤ x5 ∧ x5 ≤ 82) → (0 ≤ x6 ∧ x6 ≤ 27) → (x4 = lset 3 3 (fun i => M 9 (40 * s + i)) x6.toNat) → (x5 = 1 + 3 * x6) → (RO 3 (M 11 s) (fun i => M 9 (40 * s + i)) x5) → (x3 = M 9 (40 * s + 0)) → (x6 ≤ x3) → (0 < M 11 s) → (27 - x6) * 1 + 1 < (nn : Int) → nW xs (e + 1) 128 27 [some (2, 3), some (0, 3), some (0, s), some (0, x3), some (0, x4), some (0, x5), some (0, x6), none, none, none] [] M (nPI fun z M1 => M = M1 ∧ (-6 ≤ z ∧ z ≤ 134217727) ∧ (rLawF 3 3 (M 11 s) (fun i => M 9 (40 * s + i)) z ∨ (rLawS 3 3 (M 11 s) (fun i => M 9 (40 * s + i)) ∧ z = lset 3 3 (fun i => M 9 (40 * s + i)) (M 9 (40 * s + 0)).toNat ∧ 0 ≤ z)))) := by
  have hd : (3 : Int) = 2 ∨ (3 : Int) = 3 := by decide
  have hac := hS.2.2.2.2
  intro nn
  induction nn with
  | zero => intros; omega
  | succ nn ih =>
    intro x3 x4 x5 x6 k3 k4 k5 k6 v0 v1 v2 v3 v4 v5 hnn
    refine n_iload c_128_27 rfl (n_iload_n c_128_29 rfl ?_)
    refine n_if2_ge c_128_30 (by omega) (by omega) ?_ ?_
    · intro h1
      refine n_iload c_128_113 rfl ?_
      exact n_rI c_128_115 rfl ⟨rfl, by omega, by exact Or.inr ⟨⟨by omega, by show 0 ≤ M 9 (40 * s + 0); omega, by show M 9 (40 * s + 0) ≤ 27; omega, by have q : 1 + 3 * M 9 (40 * s + 0) = x5 := (by omega); show RO 3 (M 11 s) (fun i => M 9 (40 * s + i)) (1 + 3 * M 9 (40 * s + 0)); rw [q]; exact v2⟩, by rw [show M 9 (40 * s + 0) = x6 by omega]; exact v0, by omega⟩⟩
    · intro h2
      refine n_iconst c_128_33 (n_istore (L2 := [some (2, 3), some (0, 3), some (0, s), some (0, x3), some (0, x4), some (0, x5), some (0, x6), some (0, 0), none, none]) c_128_34 rfl rfl (n_iconst c_128_36 (n_istore (L2 := [some (2, 3), some (0, 3), some (0, s), some (0, x3), some (0, x4), some (0, x5), some (0, x6), some (0, 0), some (0, 0), none]) c_128_37 rfl rfl (n_iload c_128_39 rfl (n_iload_n c_128_41 rfl ?_)))))
      refine n_if2_ge c_128_42 (by omega) (by omega) ?_ ?_
      · intro h3
        exfalso; omega
      · intro h4
        refine n_aload_n c_128_45 rfl (n_getR c_128_46 sc_3.n rfl rfl rfl r_3_1 (n_iload_n c_128_49 rfl (n_iload c_128_50 rfl (n_aload_n c_128_52 rfl (n_getR c_128_53 sc_3.n rfl rfl rfl r_3_0 (n_getV (bi := 0) c_128_56 sc_4.n rfl rfl rfl (t_4_0 hS) ?_))))))
        intro z5 ez5 f6
        obtain rfl : z5 = 3 := by omega
        refine n_iconst c_128_59 (n_isub c_128_60 rfl ?_)
        have hcst : ((3 - 1) : Int) = 2 := by omega
        rw [hcst]
        refine n_v3I c_128_61 rfl sc_8.n rfl rfl rfl rfl (readX2_3 (s := s) (i := x5) hS (by omega) (by omega)) ?_
        intro z7 M8 hP9
        obtain ⟨eM, f9, f9p0⟩ := hP9
        subst eM
        refine n_istore (L2 := [some (2, 3), some (0, 3), some (0, s), some (0, x3), some (0, x4), some (0, x5), some (0, x6), some (0, 0), some (0, 0), some (0, z7)]) c_128_64 rfl rfl (n_iload c_128_66 rfl ?_)
        refine n_if0_ge c_128_68 (by omega) ?_ ?_
        · intro h10
          refine n_iload c_128_74 rfl ?_
          have ro11 := RO.ext v2 (x := x5) ⟨by omega, by show 0 ≤ M 9 (40 * s + x5); omega, by show M 9 (40 * s + x5) ≤ 3 - 1; omega⟩ rfl
          refine n_aload_n c_128_76 rfl (n_getR c_128_77 sc_3.n rfl rfl rfl r_3_0 (n_getV (bi := 0) c_128_80 sc_4.n rfl rfl rfl (t_4_0 hS) ?_))
          intro z12 ez12 f13
          obtain rfl : z12 = 3 := by omega
          refine n_imul c_128_83 rfl (n_iload c_128_84 rfl (n_iadd c_128_86 rfl (n_istore (L2 := [some (2, 3), some (0, 3), some (0, s), some (0, x3), some (0, x4), some (0, x5), some (0, x6), some (0, ((0 * 3) + z7)), some (0, 0), some (0, z7)]) c_128_87 rfl rfl (n_iinc (L2 := [some (2, 3), some (0, 3), some (0, s), some (0, x3), some (0, x4), some (0, (x5 + 1)), some (0, x6), some (0, ((0 * 3) + z7)), some (0, 0), some (0, z7)]) c_128_89 rfl rfl rfl (n_iinc (L2 := [some (2, 3), some (0, 3), some (0, s), some (0, x3), some (0, x4), some (0, (x5 + 1)), some (0, x6), some (0, ((0 * 3) + z7)), some (0, (0 + 1)), some (0, z7)]) c_128_92 rfl rfl rfl (n_goto c_128_95 (n_iload c_128_39 rfl (n_iload_n c_128_41 rfl ?_))))))))
          refine n_if2_ge c_128_42 (by omega) (by omega) ?_ ?_
          · intro h14
            exfalso; omega
          · intro h15
            refine n_aload_n c_128_45 rfl (n_getR c_128_46 sc_3.n rfl rfl rfl r_3_1 (n_iload_n c_128_49 rfl (n_iload c_128_50 rfl (n_aload_n c_128_52 rfl (n_getR c_128_53 sc_3.n rfl rfl rfl r_3_0 (n_getV (bi := 0) c_128_56 sc_4.n rfl rfl rfl (t_4_0 hS) ?_))))))
            intro z16 ez16 f17
            obtain rfl : z16 = 3 := by omega
            refine n_iconst c_128_59 (n_isub c_128_60 rfl ?_)
            have hcst : ((3 - 1) : Int) = 2 := by omega
            rw [hcst]
            refine n_v3I c_128_61 rfl sc_8.n rfl rfl rfl rfl (readX2_3 (s := s) (i := (x5 + 1)) hS (by omega) (by omega)) ?_
            intro z18 M19 hP20
            obtain ⟨eM, f20, f20p0⟩ := hP20
            subst eM
            refine n_istore (L2 := [some (2, 3), some (0, 3), some (0, s), some (0, x3), some (0, x4), some (0, (x5 + 1)), some (0, x6), some (0, ((0 * 3) + z7)), some (0, (0 + 1)), some (0, z18)]) c_128_64 rfl rfl (n_iload c_128_66 rfl ?_)
            refine n_if0_ge c_128_68 (by omega) ?_ ?_
            · intro h21
              refine n_iload c_128_74 rfl ?_
              have ro22 := RO.ext ro11 (x := (x5 + 1)) ⟨by omega, by show 0 ≤ M 9 (40 * s + (x5 + 1)); omega, by show M 9 (40 * s + (x5 + 1)) ≤ 3 - 1; omega⟩ rfl
              refine n_aload_n c_128_76 rfl (n_getR c_128_77 sc_3.n rfl rfl rfl r_3_0 (n_getV (bi := 0) c_128_80 sc_4.n rfl rfl rfl (t_4_0 hS) ?_))
              intro z23 ez23 f24
              obtain rfl : z23 = 3 := by omega
              refine n_imul c_128_83 rfl (n_iload c_128_84 rfl (n_iadd c_128_86 rfl (n_istore (L2 := [some (2, 3), some (0, 3), some (0, s), some (0, x3), some (0, x4), some (0, (x5 + 1)), some (0, x6), some (0, ((((0 * 3) + z7) * 3) + z18)), some (0, (0 + 1)), some (0, z18)]) c_128_87 rfl rfl (n_iinc (L2 := [some (2, 3), some (0, 3), some (0, s), some (0, x3), some (0, x4), some (0, ((x5 + 1) + 1)), some (0, x6), some (0, ((((0 * 3) + z7) * 3) + z18)), some (0, (0 + 1)), some (0, z18)]) c_128_89 rfl rfl rfl (n_iinc (L2 := [some (2, 3), some (0, 3), some (0, s), some (0, x3), some (0, x4), some (0, ((x5 + 1) + 1)), some (0, x6), some (0, ((((0 * 3) + z7) * 3) + z18)), some (0, ((0 + 1) + 1)), some (0, z18)]) c_128_92 rfl rfl rfl (n_goto c_128_95 (n_iload c_128_39 rfl (n_iload_n c_128_41 rfl ?_))))))))
              refine n_if2_ge c_128_42 (by omega) (by omega) ?_ ?_
              · intro h25
                exfalso; omega
              · intro h26
                refine n_aload_n c_128_45 rfl (n_getR c_128_46 sc_3.n rfl rfl rfl r_3_1 (n_iload_n c_128_49 rfl (n_iload c_128_50 rfl (n_aload_n c_128_52 rfl (n_getR c_128_53 sc_3.n rfl rfl rfl r_3_0 (n_getV (bi := 0) c_128_56 sc_4.n rfl rfl rfl (t_4_0 hS) ?_))))))
                intro z27 ez27 f28
                obtain rfl : z27 = 3 := by omega
                refine n_iconst c_128_59 (n_isub c_128_60 rfl ?_)
                have hcst : ((3 - 1) : Int) = 2 := by omega
                rw [hcst]
                refine n_v3I c_128_61 rfl sc_8.n rfl rfl rfl rfl (readX2_3 (s := s) (i := ((x5 + 1) + 1)) hS (by omega) (by omega)) ?_
                intro z29 M30 hP31
                obtain ⟨eM, f31, f31p0⟩ := hP31
                subst eM
                refine n_istore (L2 := [some (2, 3), some (0, 3), some (0, s), some (0, x3), some (0, x4), some (0, ((x5 + 1) + 1)), some (0, x6), some (0, ((((0 * 3) + z7) * 3) + z18)), some (0, ((0 + 1) + 1)), some (0, z29)]) c_128_64 rfl rfl (n_iload c_128_66 rfl ?_)
                refine n_if0_ge c_128_68 (by omega) ?_ ?_
                · intro h32
                  refine n_iload c_128_74 rfl ?_
                  have ro33 := RO.ext ro22 (x := ((x5 + 1) + 1)) ⟨by omega, by show 0 ≤ M 9 (40 * s + ((x5 + 1) + 1)); omega, by show M 9 (40 * s + ((x5 + 1) + 1)) ≤ 3 - 1; omega⟩ rfl
                  refine n_aload_n c_128_76 rfl (n_getR c_128_77 sc_3.n rfl rfl rfl r_3_0 (n_getV (bi := 0) c_128_80 sc_4.n rfl rfl rfl (t_4_0 hS) ?_))
                  intro z34 ez34 f35
                  obtain rfl : z34 = 3 := by omega
                  refine n_imul c_128_83 rfl (n_iload c_128_84 rfl (n_iadd c_128_86 rfl (n_istore (L2 := [some (2, 3), some (0, 3), some (0, s), some (0, x3), some (0, x4), some (0, ((x5 + 1) + 1)), some (0, x6), some (0, ((((((0 * 3) + z7) * 3) + z18) * 3) + z29)), some (0, ((0 + 1) + 1)), some (0, z29)]) c_128_87 rfl rfl (n_iinc (L2 := [some (2, 3), some (0, 3), some (0, s), some (0, x3), some (0, x4), some (0, (((x5 + 1) + 1) + 1)), some (0, x6), some (0, ((((((0 * 3) + z7) * 3) + z18) * 3) + z29)), some (0, ((0 + 1) + 1)), some (0, z29)]) c_128_89 rfl rfl rfl (n_iinc (L2 := [some (2, 3), some (0, 3), some (0, s), some (0, x3), some (0, x4), some (0, (((x5 + 1) + 1) + 1)), some (0, x6), some (0, ((((((0 * 3) + z7) * 3) + z18) * 3) + z29)), some (0, (((0 + 1) + 1) + 1)), some (0, z29)]) c_128_92 rfl rfl rfl (n_goto c_128_95 (n_iload c_128_39 rfl (n_iload_n c_128_41 rfl ?_))))))))
                  refine n_if2_ge c_128_42 (by omega) (by omega) ?_ ?_
                  · intro h36
                    refine n_iload c_128_98 rfl (n_iconst c_128_100 (n_iload c_128_101 rfl (n_i_ishl c_128_103 rfl (n_i_ior c_128_104 rfl ?_))))
                    have hor := (n_or_bit27 (s := x4) (r := ((((((0 * 3) + z7) * 3) + z18) * 3) + z29)) (by omega) (by omega)).1
                    have hls := lset_go (d := 3) (k := 3) (f := (fun i => M 9 (40 * s + i))) (num := ((((((0 * 3) + z7) * 3) + z18) * 3) + z29)) v0 v1 (by omega) (by show _ = (M 9 (40 * s + x5) * 3 + M 9 (40 * s + (x5 + 1))) * 3 + M 9 (40 * s + (x5 + 1 + 1)); omega)
                    refine n_istore (L2 := [some (2, 3), some (0, 3), some (0, s), some (0, x3), some (0, (n_or x4 (n_shl 1 ((((((0 * 3) + z7) * 3) + z18) * 3) + z29)))), some (0, (((x5 + 1) + 1) + 1)), some (0, x6), some (0, ((((((0 * 3) + z7) * 3) + z18) * 3) + z29)), some (0, (((0 + 1) + 1) + 1)), some (0, z29)]) c_128_105 rfl rfl (n_iinc (L2 := [some (2, 3), some (0, 3), some (0, s), some (0, x3), some (0, (n_or x4 (n_shl 1 ((((((0 * 3) + z7) * 3) + z18) * 3) + z29)))), some (0, (((x5 + 1) + 1) + 1)), some (0, (x6 + 1)), some (0, ((((((0 * 3) + z7) * 3) + z18) * 3) + z29)), some (0, (((0 + 1) + 1) + 1)), some (0, z29)]) c_128_107 rfl rfl rfl (n_goto c_128_110 (n_fg (le_s (le_s (le_s (le_s (le_s (le_s (le_s (le_n (le_n (le_n le_0)))))))))) ?_)))
                    exact ih _ _ _ _ (by omega) (by omega) (by omega) (by omega) (by exact hls) (by omega) (by exact ro33) (by omega) (by omega) (by omega) (by omega)
                  · intro h37
                    exfalso; omega
                · intro h38
                  refine n_iload c_128_71 rfl ?_
                  exact n_rI c_128_73 rfl ⟨rfl, by omega, by exact Or.inl (Or.inr (Or.inr ⟨by omega, by show 0 ≤ M 9 (40 * s + 0); omega, by show M 9 (40 * s + 0) ≤ 27; omega, ((x5 + 1) + 1), by omega, by show ((x5 + 1) + 1) < 1 + 3 * M 9 (40 * s + 0); omega, ro22, by show (M 11 s ≤ ((x5 + 1) + 1) ∧ _ = -6) ∨ (((x5 + 1) + 1) < M 11 s ∧ (M 9 (40 * s + ((x5 + 1) + 1)) < 0 ∨ 3 - 1 < M 9 (40 * s + ((x5 + 1) + 1))) ∧ _ = -4); omega⟩))⟩
            · intro h39
              refine n_iload c_128_71 rfl ?_
              exact n_rI c_128_73 rfl ⟨rfl, by omega, by exact Or.inl (Or.inr (Or.inr ⟨by omega, by show 0 ≤ M 9 (40 * s + 0); omega, by show M 9 (40 * s + 0) ≤ 27; omega, (x5 + 1), by omega, by show (x5 + 1) < 1 + 3 * M 9 (40 * s + 0); omega, ro11, by show (M 11 s ≤ (x5 + 1) ∧ _ = -6) ∨ ((x5 + 1) < M 11 s ∧ (M 9 (40 * s + (x5 + 1)) < 0 ∨ 3 - 1 < M 9 (40 * s + (x5 + 1))) ∧ _ = -4); omega⟩))⟩
        · intro h40
          refine n_iload c_128_71 rfl ?_
          exact n_rI c_128_73 rfl ⟨rfl, by omega, by exact Or.inl (Or.inr (Or.inr ⟨by omega, by show 0 ≤ M 9 (40 * s + 0); omega, by show M 9 (40 * s + 0) ≤ 27; omega, x5, by omega, by show x5 < 1 + 3 * M 9 (40 * s + 0); omega, v2, by show (M 11 s ≤ x5 ∧ _ = -6) ∨ (x5 < M 11 s ∧ (M 9 (40 * s + x5) < 0 ∨ 3 - 1 < M 9 (40 * s + x5)) ∧ _ = -4); omega⟩))⟩
set_option maxHeartbeats 4000000 in
theorem readLawX3_3 {xs : List Int32} {e : Nat} {ac : Int} {M0 M : nM} {s : Int} (hS : Sf 3 ac M0 M) (hs : 0 ≤ s ∧ s ≤ 7) : nW xs (e + 1) 128 0 [some (2, 3), some (0, 3), some (0, s), none, none, none, none, none, none, none] [] M (nPI fun z M1 => M = M1 ∧ (-6 ≤ z ∧ z ≤ 134217727) ∧ (rLawF 3 3 (M 11 s) (fun i => M 9 (40 * s + i)) z ∨ (rLawS 3 3 (M 11 s) (fun i => M 9 (40 * s + i)) ∧ z = lset 3 3 (fun i => M 9 (40 * s + i)) (M 9 (40 * s + 0)).toNat ∧ 0 ≤ z))) := by
  have hd : (3 : Int) = 2 ∨ (3 : Int) = 3 := by decide
  have hac := hS.2.2.2.2
  refine n_aload_n c_128_0 rfl (n_getR c_128_1 sc_3.n rfl rfl rfl r_3_1 (n_iload_n c_128_4 rfl (n_iconst c_128_5 (n_bipush c_128_6 rfl (n_v3I c_128_8 rfl sc_8.n rfl rfl rfl rfl (readX27_3 (s := s) (i := 0) hS (by omega) (by omega)) ?_)))))
  intro z1 M2 hP3
  obtain ⟨eM, f3, f3p0⟩ := hP3
  subst eM
  refine n_istore_n (L2 := [some (2, 3), some (0, 3), some (0, s), some (0, z1), none, none, none, none, none, none]) c_128_11 rfl rfl (n_iload_n c_128_12 rfl ?_)
  refine n_if0_ge c_128_13 (by omega) ?_ ?_
  · intro h4
    refine n_iconst c_128_18 (n_istore (L2 := [some (2, 3), some (0, 3), some (0, s), some (0, z1), some (0, 0), none, none, none, none, none]) c_128_19 rfl rfl (n_iconst c_128_21 (n_istore (L2 := [some (2, 3), some (0, 3), some (0, s), some (0, z1), some (0, 0), some (0, 1), none, none, none, none]) c_128_22 rfl rfl (n_iconst c_128_24 (n_istore (L2 := [some (2, 3), some (0, 3), some (0, s), some (0, z1), some (0, 0), some (0, 1), some (0, 0), none, none, none]) c_128_25 rfl rfl (n_fg (le_s (le_s (le_s (le_s (le_s (le_s (le_s (le_n (le_n (le_n le_0)))))))))) ?_))))))
    exact (readLawX3_3_c hS hs 68) _ _ _ _ (by omega) (by omega) (by omega) (by omega) (by rfl) (by omega) (by exact fun i h0 h1 => by omega) (by omega) (by omega) (by omega) (by omega)
  · intro h5
    refine n_iload_n c_128_16 rfl ?_
    exact n_rI c_128_17 rfl ⟨rfl, by omega, by rcases f3p0 with q | q | q <;> first | exact Or.inl (Or.inl ⟨by omega, by omega⟩) | exact Or.inl (Or.inr (Or.inl ⟨by omega, by show M 9 (40 * s + 0) < 0 ∨ 27 < M 9 (40 * s + 0); omega, by omega⟩)) | omega⟩

set_option maxHeartbeats 4000000 in
theorem lawX3_3 {xs : List Int32} {e : Nat} {ac : Int} {M : nM} {s gd : Int} (hS : Sf 3 ac M M) (hs : -2147483648 ≤ s ∧ s ≤ 2147483647) (hgd : M 112 0 = gd) : nW xs (e + 2) 98 0 [some (2, 3), some (0, 3), some (0, s), none] [] M (nPI fun z M1 => Sf 3 ac M1 M1 ∧ (-2147483648 ≤ z ∧ z ≤ 2147483647) ∧ (M1 112 0 = gd) ∧ (cLaw 3 3 s z M M1)) := by
  have hd : (3 : Int) = 2 ∨ (3 : Int) = 3 := by decide
  have hac := hS.2.2.2.2
  refine n_aload_n c_98_0 rfl (n_getR c_98_1 sc_3.n rfl rfl rfl r_3_1 (n_iload_n c_98_4 rfl (n_v1I c_98_5 rfl sc_8.n rfl rfl rfl rfl (isSlotF_3 (s := s) hS (by omega)) ?_)))
  intro z1 M2 hP3
  obtain ⟨eM, f3, f3p0⟩ := hP3
  subst eM
  refine n_if0_eq c_98_8 (by omega) ?_ ?_
  · intro h4
    refine n_bipush c_98_19 rfl ?_
    exact n_rI c_98_21 rfl ⟨hS, by omega, by omega, by exact Or.inl ⟨by omega, rfl, fun _ _ _ => rfl⟩⟩
  · intro h5
    refine n_aload_n c_98_11 rfl (n_iload_n c_98_12 rfl (n_v1I c_98_13 rfl sc_3.n rfl rfl rfl rfl (isPlaceCountF_3 (k := 3) hS (by omega)) ?_))
    intro z6 M7 hP8
    obtain ⟨eM, f8, f8p0⟩ := hP8
    subst eM
    refine n_if0_ne c_98_16 (by omega) ?_ ?_
    · intro h9
      refine n_aload_n c_98_22 rfl (n_getV (bi := 15) c_98_23 sc_3.n rfl rfl rfl (t_3_15 hS) ?_)
      intro z10 ez10 f11
      refine n_bipush c_98_26 rfl ?_
      refine n_if2_lt c_98_28 (by omega) (by omega) ?_ ?_
      · intro h12
        refine n_aload_n c_98_34 rfl (n_getR c_98_35 sc_3.n rfl rfl rfl r_3_1 (n_iload_n c_98_38 rfl (n_v1I c_98_39 rfl sc_8.n rfl rfl rfl rfl (hasRowF_3 (s := s) hS (by omega)) ?_)))
        intro z13 M14 hP15
        obtain ⟨eM, f15, f15p0⟩ := hP15
        subst eM
        refine n_if0_ne c_98_42 (by omega) ?_ ?_
        · intro h16
          refine n_aload_n c_98_48 rfl (n_iload_n c_98_49 rfl (n_iload_n c_98_50 rfl (n_v2I c_98_51 rfl sc_3.n rfl rfl rfl rfl (readLawX3_3 (s := s) hS (by omega)) ?_)))
          intro z17 M18 hP19
          obtain ⟨eM, f19, f19p0⟩ := hP19
          subst eM
          refine n_istore_n (L2 := [some (2, 3), some (0, 3), some (0, s), some (0, z17)]) c_98_54 rfl rfl (n_iload_n c_98_55 rfl ?_)
          refine n_if0_ge c_98_56 (by omega) ?_ ?_
          · intro h20
            refine n_aload_n c_98_61 rfl (n_getR c_98_62 sc_3.n rfl rfl rfl r_3_3 (n_aload_n c_98_65 rfl (n_getV (bi := 15) c_98_66 sc_3.n rfl rfl rfl (t_3_15 hS) ?_)))
            intro z21 ez21 f22
            refine n_aaload c_98_69 sc_13.n rfl rfl rfl (by omega) (r_laws _) ?_
            have q23 : LawAt (79 + 2 * z21) := by unfold LawAt; omega
            refine n_iload_n c_98_70 rfl (n_iload_n c_98_71 rfl (n_aload_n c_98_72 rfl (n_getR c_98_73 sc_3.n rfl rfl rfl r_3_0 (n_v3V c_98_76 rfl q23.c0.1.n rfl rfl rfl rfl (takeLX3_3 (q := (79 + 2 * z21)) (s := z17) (g := (M 3 15)) (gd := (M 112 0)) (Ms := M) hS q23 (by omega) rfl rfl (by rfl)) ?_))))
            intro  M24 hP25
            obtain ⟨hS24, f25g0, f25g1, f25p0, f25p1, f25p2⟩ := hP25
            refine n_aload_n c_98_79 rfl (n_dup2 c_98_80 (n_getV (bi := 15) c_98_81 sc_3.n rfl rfl rfl (t_3_15 hS24) ?_))
            intro z26 ez26 f27
            refine n_dup_x102 c_98_84 (n_iconst c_98_85 (n_iadd c_98_86 rfl (n_putM (bi := 15) hS24 c_98_87 sc_3.n rfl rfl rfl rfl (m_3_15 (by omega)) ?_)))
            intro M28 eM28 hS28
            have g28_0 : M28 112 0 = M24 112 0 := by rw [eM28]; exact nu_a (by omega)
            have g28_1 : M28 3 15 = (z26 + 1) := by rw [eM28]; exact nu_s _ _ _ _
            exact n_rI c_98_90 rfl ⟨hS28, by omega, by omega, by exact cLaw_ok (n := z21) (by omega) (by omega) (by omega) (by omega) (by omega) (by omega) (by rcases f19p0 with q | q; exact absurd q.neg (by omega); exact q) f25p0 f25p1 f25p2 eM28 (by omega) (by omega) (by omega)⟩
          · intro h29
            refine n_iload_n c_98_59 rfl ?_
            exact n_rI c_98_60 rfl ⟨hS, by omega, by omega, by exact Or.inr (Or.inr (Or.inr (Or.inl ⟨by omega, by omega, by omega, by omega, by omega, by omega, (by rcases f19p0 with q | q; exact q; have := q.2.2; omega), fun _ _ _ => rfl⟩)))⟩
        · intro h30
          refine n_bipush c_98_45 rfl ?_
          exact n_rI c_98_47 rfl ⟨hS, by omega, by omega, by exact Or.inr (Or.inr (Or.inl ⟨by omega, by omega, by omega, by omega, by omega, by omega, rfl, fun _ _ _ => rfl⟩))⟩
      · intro h31
        refine n_bipush c_98_31 rfl ?_
        exact n_rI c_98_33 rfl ⟨hS, by omega, by omega, by exact Or.inr (Or.inl ⟨by omega, by omega, by omega, by omega, by omega, rfl, fun _ _ _ => rfl⟩)⟩
    · intro h32
      refine n_bipush c_98_19 rfl ?_
      exact n_rI c_98_21 rfl ⟨hS, by omega, by omega, by exact Or.inl ⟨by omega, rfl, fun _ _ _ => rfl⟩⟩

set_option maxHeartbeats 4000000 in
theorem mlawX1_3_c {xs : List Int32} {e : Nat} {ac : Int} {M : nM} {s gd : Int} {Ms : nM} (hS : Sf 3 ac M M) (hdm : M 112 0 = 3) (hs : -2147483648 ≤ s ∧ s ≤ 2147483647) (hgd : M 112 0 = gd) (hms : M = Ms) : ∀ nn : Nat, (∀ (x3 x4 x6 x8 x9 : Int) (M : nM), Sf 3 ac M M → (0 ≤ s ∧ s ≤ 7) → (1 ≤ x3 ∧ x3 ≤ 40) → (0 ≤ x4 ∧ x4 ≤ 27) → (0 ≤ x6 ∧ x6 ≤ 134217727) → (1 ≤ x8 ∧ x8 ≤ 82) → (0 ≤ x9 ∧ x9 ≤ 27) → (M 112 0 = 3) → (M 112 0 = gd) → (x6 = lset 3 1 (fun i => Ms 115 (40 * s + i)) x9.toNat) → (x8 = 1 + 1 * x9) → (RO 3 (Ms 113 s - 1) (fun i => Ms 115 (40 * s + i)) x8) → (x4 = Ms 115 (40 * s + 0)) → (x9 ≤ x4) → (x3 = Ms 113 s - 1) → (M = Ms) → (Ms 112 7 ≤ 11) → (27 - x9) * 1 + 1 < (nn : Int) → nW xs (e + 1) 149 99 [some (2, 112), some (0, 1), some (0, s), some (0, x3), some (1, x4), none, some (1, x6), none, some (0, x8), some (0, x9), none, none] [] M (nPI fun z M1 => Sf 3 ac M1 M1 ∧ (-2147483648 ≤ z ∧ z ≤ 2147483647) ∧ (M1 112 0 = gd) ∧ (mLaw 3 1 s z Ms M1))) := by
  have hd : (3 : Int) = 2 ∨ (3 : Int) = 3 := by decide
  have hac := hS.2.2.2.2
  intro nn
  induction nn with
  | zero => intros; omega
  | succ nn ih =>
    intro x3 x4 x6 x8 x9 M hS k2 k3 k4 k6 k8 k9 hdm hggd v0 v1 v2 v3 v4 v5 v6 v7 hnn
    have q15 : ∀ i : Int, M 115 i = Ms 115 i := fun i => by rw [v6]
    have q13 : M 113 s = Ms 113 s := by rw [v6]
    have q127 : M 112 7 = Ms 112 7 := by rw [v6]
    refine n_iload c_149_99 rfl (n_i2l c_149_101 (by omega) ?_)
    refine n_lload c_149_102 rfl (n_lcmp c_149_104 ?_)
    refine n_lif_ge c_149_105 (by omega) (by omega) ?_ ?_
    · intro h1
      refine n_aload_n c_149_198 rfl (n_getR c_149_199 sc_112.n rfl rfl rfl r_112_8 (n_aload_n c_149_202 rfl (n_getV (bi := 7) c_149_203 sc_112.n rfl rfl rfl (t_112_7 hS) ?_)))
      intro z2 ez2 f3
      refine n_iload_n c_149_206 rfl (n_iastoreG c_149_207 sc_118.n rfl (by omega) (hS.w118 (by omega) (by omega)) ?_)
      intro M4 eM4 hS4
      have g4_0 : M4 112 0 = M 112 0 := by rw [eM4]; exact nu_a (by omega)
      have g4_1 : M4 112 7 = M 112 7 := by rw [eM4]; exact nu_a (by omega)
      have g4_2 : M4 118 z2 = 1 := by rw [eM4]; exact nu_s _ _ _ _
      refine n_aload_n c_149_208 rfl (n_getR c_149_209 sc_112.n rfl rfl rfl r_112_9 (n_aload_n c_149_212 rfl (n_getV (bi := 7) c_149_213 sc_112.n rfl rfl rfl (t_112_7 hS4) ?_)))
      intro z5 ez5 f6
      refine n_lload c_149_216 rfl (n_lastoreM hS4 c_149_218 sc_119.n rfl (by omega) (m_119 (by omega) (by omega)) ?_)
      intro M7 eM7 hS7
      have g7_0 : M7 112 0 = M4 112 0 := by rw [eM7]; exact nu_a (by omega)
      have g7_1 : M7 112 7 = M4 112 7 := by rw [eM7]; exact nu_a (by omega)
      have g7_2 : M7 118 z2 = M4 118 z2 := by rw [eM7]; exact nu_a (by omega)
      refine n_aload_n c_149_219 rfl (n_dup2 c_149_220 (n_getV (bi := 7) c_149_221 sc_112.n rfl rfl rfl (t_112_7 hS7) ?_))
      intro z8 ez8 f9
      refine n_iconst c_149_224 (n_iadd c_149_225 rfl (n_putG (P := fun M2 => Sf 3 ac M2 M2) (bi := 7) c_149_226 sc_112.n rfl rfl rfl rfl (hS7.w112_7 (by omega) (by omega)) ?_))
      intro M10 eM10 hS10
      have g10_0 : M10 112 0 = M7 112 0 := by rw [eM10]; exact nu_i (by omega)
      have g10_1 : M10 118 z2 = M7 118 z2 := by rw [eM10]; exact nu_a (by omega)
      have g10_2 : M10 112 7 = (z8 + 1) := by rw [eM10]; exact nu_s _ _ _ _
      refine n_aload_n c_149_229 rfl (n_getV (bi := 7) c_149_230 sc_112.n rfl rfl rfl (t_112_7 hS10) ?_)
      intro z11 ez11 f12
      refine n_iconst c_149_233 (n_isub c_149_234 rfl ?_)
      exact n_rI c_149_235 rfl ⟨hS10, by omega, by omega, by exact mLaw_ok (n := z2) (n2 := z5) (v := x6) (by omega) (by omega) (by omega) (by omega) (by omega) (by omega) ⟨by omega, by show 0 ≤ Ms 115 (40 * s + 0); omega, by show Ms 115 (40 * s + 0) ≤ 27; omega, by have q : 1 + 1 * Ms 115 (40 * s + 0) = x8 := (by omega); show RO 3 (Ms 113 s - 1) (fun i => Ms 115 (40 * s + i)) (1 + 1 * Ms 115 (40 * s + 0)); rw [q]; exact v2⟩ (by rw [show Ms 115 (40 * s + 0) = x9 by omega]; exact v0) (by rw [← v6]; exact eM4) eM7 eM10 (by omega) (by omega) (by omega) (by omega)⟩
    · intro h13
      refine n_iconst c_149_108 (n_istore (L2 := [some (2, 112), some (0, 1), some (0, s), some (0, x3), some (1, x4), none, some (1, x6), none, some (0, x8), some (0, x9), some (0, 0), none]) c_149_109 rfl rfl (n_iconst c_149_111 (n_istore (L2 := [some (2, 112), some (0, 1), some (0, s), some (0, x3), some (1, x4), none, some (1, x6), none, some (0, x8), some (0, x9), some (0, 0), some (0, 0)]) c_149_112 rfl rfl (n_iload c_149_114 rfl (n_iload_n c_149_116 rfl ?_)))))
      refine n_if2_ge c_149_117 (by omega) (by omega) ?_ ?_
      · intro h14
        exfalso; omega
      · intro h15
        refine n_iload c_149_120 rfl (n_iload_n c_149_122 rfl ?_)
        refine n_if2_lt c_149_123 (by omega) (by omega) ?_ ?_
        · intro h16
          refine n_aload_n c_149_129 rfl (n_aload_n c_149_130 rfl (n_getR c_149_131 sc_112.n rfl rfl rfl r_112_3 (n_bipush c_149_134 rfl (n_iload_n c_149_136 rfl (n_imul c_149_137 rfl (n_iload c_149_138 rfl (n_iadd c_149_140 rfl (n_laloadV c_149_141 sc_115.n rfl rfl rfl (by omega) (t_115 hS (by omega)) ?_))))))))
          intro z17 ez17 f18
          have r1 := q15 (40 * s + x8)
          refine n_v1I c_149_142 rfl sc_112.n rfl rfl rfl rfl (misThingF_3 (v := z17) hS (by omega) (by omega)) ?_
          intro z19 M20 hP21
          obtain ⟨eM, f21, f21p0⟩ := hP21
          subst eM
          refine n_if0_ne c_149_145 (by omega) ?_ ?_
          · intro h22
            refine n_iload c_149_151 rfl ?_
            have ro23 := RO.ext v2 (x := x8) ⟨by omega, by show 0 ≤ Ms 115 (40 * s + x8); omega, by show Ms 115 (40 * s + x8) ≤ 3 - 1; omega⟩ rfl
            refine n_aload_n c_149_153 rfl (n_getV (bi := 0) c_149_154 sc_112.n rfl rfl rfl (show 3 ≤ M 112 0 ∧ M 112 0 ≤ 3 by omega) ?_)
            intro z24 ez24 f25
            obtain rfl : z24 = 3 := by omega
            refine n_imul c_149_157 rfl (n_aload_n c_149_158 rfl (n_getR c_149_159 sc_112.n rfl rfl rfl r_112_3 (n_bipush c_149_162 rfl (n_iload_n c_149_164 rfl (n_imul c_149_165 rfl (n_iload c_149_166 rfl (n_iadd c_149_168 rfl (n_laloadV c_149_169 sc_115.n rfl rfl rfl (by omega) (t_115 hS (by omega)) ?_))))))))
            intro z26 ez26 f27
            refine n_l2i c_149_170 (n_iadd c_149_171 rfl (n_istore (L2 := [some (2, 112), some (0, 1), some (0, s), some (0, x3), some (1, x4), none, some (1, x6), none, some (0, x8), some (0, x9), some (0, ((0 * 3) + z26)), some (0, 0)]) c_149_172 rfl rfl (n_iinc (L2 := [some (2, 112), some (0, 1), some (0, s), some (0, x3), some (1, x4), none, some (1, x6), none, some (0, (x8 + 1)), some (0, x9), some (0, ((0 * 3) + z26)), some (0, 0)]) c_149_174 rfl rfl rfl (n_iinc (L2 := [some (2, 112), some (0, 1), some (0, s), some (0, x3), some (1, x4), none, some (1, x6), none, some (0, (x8 + 1)), some (0, x9), some (0, ((0 * 3) + z26)), some (0, (0 + 1))]) c_149_177 rfl rfl rfl (n_goto c_149_180 (n_iload c_149_114 rfl (n_iload_n c_149_116 rfl ?_)))))))
            refine n_if2_ge c_149_117 (by omega) (by omega) ?_ ?_
            · intro h28
              refine n_lload c_149_183 rfl (n_lconst (n := 1) c_149_185 rfl (n_iload c_149_186 rfl (n_i_lshl c_149_188 rfl (n_i_lor c_149_189 rfl ?_))))
              have hor := n_lor_bit27 (s := x6) (r := ((0 * 3) + z26)) (by omega) (by omega)
              have hls := lset_goL (d := 3) (k := 1) (f := (fun i => Ms 115 (40 * s + i))) (num := ((0 * 3) + z26)) v0 v1 (by omega) (by omega) (by omega) (by show _ = Ms 115 (40 * s + x8); omega)
              refine n_lstore (L2 := [some (2, 112), some (0, 1), some (0, s), some (0, x3), some (1, x4), none, some (1, (n_lor x6 (n_lshl 1 ((0 * 3) + z26)))), none, some (0, (x8 + 1)), some (0, x9), some (0, ((0 * 3) + z26)), some (0, (0 + 1))]) c_149_190 rfl rfl (n_iinc (L2 := [some (2, 112), some (0, 1), some (0, s), some (0, x3), some (1, x4), none, some (1, (n_lor x6 (n_lshl 1 ((0 * 3) + z26)))), none, some (0, (x8 + 1)), some (0, (x9 + 1)), some (0, ((0 * 3) + z26)), some (0, (0 + 1))]) c_149_192 rfl rfl rfl (n_goto c_149_195 (n_fg (le_s (le_s (le_s (le_s (le_s (le_n (le_s (le_n (le_s (le_s (le_n (le_n le_0)))))))))))) ?_)))
              exact ih _ _ _ _ _ M hS (by omega) (by omega) (by omega) (by omega) (by omega) (by omega) (by omega) (by omega) (by exact hls) (by omega) (by exact ro23) (by exact v3) (by omega) (by exact v5) (by exact v6) (by exact v7) (by omega)
            · intro h29
              exfalso; omega
          · intro h30
            refine n_bipush c_149_148 rfl ?_
            exact n_rI c_149_150 rfl ⟨hS, by omega, by omega, by exact Or.inr (Or.inr (Or.inr (Or.inl ⟨by omega, by omega, by omega, by omega, by omega, by omega, Or.inr (Or.inr ⟨by omega, by show 0 ≤ Ms 115 (40 * s + 0); omega, by show Ms 115 (40 * s + 0) ≤ 27; omega, x8, by omega, by show x8 < 1 + 1 * Ms 115 (40 * s + 0); omega, v2, by show (Ms 113 s - 1 ≤ x8 ∧ _ = -6) ∨ (x8 < Ms 113 s - 1 ∧ (Ms 115 (40 * s + x8) < 0 ∨ 3 - 1 < Ms 115 (40 * s + x8)) ∧ _ = -4); omega⟩), fun a i _ => by rw [v6]⟩)))⟩
        · intro h31
          refine n_bipush c_149_126 rfl ?_
          exact n_rI c_149_128 rfl ⟨hS, by omega, by omega, by exact Or.inr (Or.inr (Or.inr (Or.inl ⟨by omega, by omega, by omega, by omega, by omega, by omega, Or.inr (Or.inr ⟨by omega, by show 0 ≤ Ms 115 (40 * s + 0); omega, by show Ms 115 (40 * s + 0) ≤ 27; omega, x8, by omega, by show x8 < 1 + 1 * Ms 115 (40 * s + 0); omega, v2, by show (Ms 113 s - 1 ≤ x8 ∧ _ = -6) ∨ (x8 < Ms 113 s - 1 ∧ (Ms 115 (40 * s + x8) < 0 ∨ 3 - 1 < Ms 115 (40 * s + x8)) ∧ _ = -4); omega⟩), fun a i _ => by rw [v6]⟩)))⟩
set_option maxHeartbeats 4000000 in
theorem mlawX1_3 {xs : List Int32} {e : Nat} {ac : Int} {M : nM} {s gd : Int} {Ms : nM} (hS : Sf 3 ac M M) (hdm : M 112 0 = 3) (hs : -2147483648 ≤ s ∧ s ≤ 2147483647) (hgd : M 112 0 = gd) (hms : M = Ms) : nW xs (e + 1) 149 0 [some (2, 112), some (0, 1), some (0, s), none, none, none, none, none, none, none, none, none] [] M (nPI fun z M1 => Sf 3 ac M1 M1 ∧ (-2147483648 ≤ z ∧ z ≤ 2147483647) ∧ (M1 112 0 = gd) ∧ (mLaw 3 1 s z Ms M1)) := by
  have hd : (3 : Int) = 2 ∨ (3 : Int) = 3 := by decide
  have hac := hS.2.2.2.2
  refine n_iload_n c_149_0 rfl (n_s1I c_149_1 rfl rfl rfl rfl (misSlotF_3 (s := s) hS (by omega)) ?_)
  intro z1 M2 hP3
  obtain ⟨eM, f3, f3p0⟩ := hP3
  subst eM
  refine n_if0_eq c_149_4 (by omega) ?_ ?_
  · intro h4
    refine n_bipush c_149_17 rfl ?_
    exact n_rI c_149_19 rfl ⟨hS, by omega, by omega, by subst hms; exact Or.inl ⟨by omega, rfl, fun _ _ _ => rfl⟩⟩
  · intro h5
    refine n_iload_n c_149_7 rfl (n_iconst c_149_8 ?_)
    refine n_if2_lt c_149_9 (by omega) (by omega) ?_ ?_
    · intro h6
      exfalso; omega
    · intro h7
      refine n_iload_n c_149_12 rfl (n_iconst c_149_13 ?_)
      refine n_if2_le c_149_14 (by omega) (by omega) ?_ ?_
      · intro h8
        refine n_aload_n c_149_20 rfl (n_getV (bi := 7) c_149_21 sc_112.n rfl rfl rfl (t_112_7 hS) ?_)
        intro z9 ez9 f10
        refine n_bipush c_149_24 rfl ?_
        refine n_if2_ne c_149_26 (by omega) (by omega) ?_ ?_
        · intro h11
          refine n_aload_n c_149_32 rfl (n_getR c_149_33 sc_112.n rfl rfl rfl r_112_1 (n_iload_n c_149_36 rfl (n_ialoadV c_149_37 sc_113.n rfl rfl rfl (by omega) (t_113 hS (by omega)) ?_)))
          intro z12 ez12 f13
          refine n_if0_ne c_149_38 (by omega) ?_ ?_
          · intro h14
            refine n_aload_n c_149_44 rfl (n_getR c_149_45 sc_112.n rfl rfl rfl r_112_1 (n_iload_n c_149_48 rfl (n_ialoadV c_149_49 sc_113.n rfl rfl rfl (by omega) (t_113 hS (by omega)) ?_)))
            intro z15 ez15 f16
            refine n_iconst c_149_50 (n_isub c_149_51 rfl (n_istore_n (L2 := [some (2, 112), some (0, 1), some (0, s), some (0, (z15 - 1)), none, none, none, none, none, none, none, none]) c_149_52 rfl rfl (n_iload_n c_149_53 rfl ?_)))
            refine n_if0_ne c_149_54 (by omega) ?_ ?_
            · intro h17
              refine n_aload_n c_149_60 rfl (n_getR c_149_61 sc_112.n rfl rfl rfl r_112_3 (n_bipush c_149_64 rfl (n_iload_n c_149_66 rfl (n_imul c_149_67 rfl (n_laloadV c_149_68 sc_115.n rfl rfl rfl (by omega) (t_115 hS (by omega)) ?_)))))
              intro z18 ez18 f19
              refine n_lstore (L2 := [some (2, 112), some (0, 1), some (0, s), some (0, (z15 - 1)), some (1, z18), none, none, none, none, none, none, none]) c_149_69 rfl rfl (n_lload c_149_71 rfl (n_lconst (n := 0) c_149_73 rfl (n_lcmp c_149_74 ?_)))
              refine n_lif_lt c_149_75 (by omega) (by omega) ?_ ?_
              · intro h20
                refine n_bipush c_149_87 rfl ?_
                exact n_rI c_149_89 rfl ⟨hS, by omega, by omega, by subst hms; exact Or.inr (Or.inr (Or.inr (Or.inl ⟨by omega, by omega, by omega, by omega, by omega, by omega, Or.inr (Or.inl ⟨by omega, by show M 115 (40 * s + 0) < 0 ∨ 27 < M 115 (40 * s + 0); rw [show (40 * s + 0 : Int) = 40 * s by omega]; omega, by omega⟩), fun _ _ _ => rfl⟩)))⟩
              · intro h21
                refine n_lload c_149_78 rfl (n_ldc2 (n := 27) c_149_80 rfl (n_lcmp c_149_83 ?_))
                refine n_lif_le c_149_84 (by omega) (by omega) ?_ ?_
                · intro h22
                  refine n_lconst (n := 0) c_149_90 rfl (n_lstore (L2 := [some (2, 112), some (0, 1), some (0, s), some (0, (z15 - 1)), some (1, z18), none, some (1, 0), none, none, none, none, none]) c_149_91 rfl rfl (n_iconst c_149_93 (n_istore (L2 := [some (2, 112), some (0, 1), some (0, s), some (0, (z15 - 1)), some (1, z18), none, some (1, 0), none, some (0, 1), none, none, none]) c_149_94 rfl rfl (n_iconst c_149_96 (n_istore (L2 := [some (2, 112), some (0, 1), some (0, s), some (0, (z15 - 1)), some (1, z18), none, some (1, 0), none, some (0, 1), some (0, 0), none, none]) c_149_97 rfl rfl (n_fg (le_s (le_s (le_s (le_s (le_s (le_n (le_s (le_n (le_s (le_s (le_n (le_n le_0)))))))))))) ?_))))))
                  exact (mlawX1_3_c hS hdm hs hgd hms 68) _ _ _ _ _ M hS (by omega) (by omega) (by omega) (by omega) (by omega) (by omega) (by omega) (by omega) (by rfl) (by omega) (by exact fun i h0 h1 => by omega) (by subst hms; rw [show (40 * s + 0 : Int) = 40 * s by omega]; omega) (by omega) (by subst hms; omega) (by exact hms) (by subst hms; omega) (by omega)
                · intro h23
                  refine n_bipush c_149_87 rfl ?_
                  exact n_rI c_149_89 rfl ⟨hS, by omega, by omega, by subst hms; exact Or.inr (Or.inr (Or.inr (Or.inl ⟨by omega, by omega, by omega, by omega, by omega, by omega, Or.inr (Or.inl ⟨by omega, by show M 115 (40 * s + 0) < 0 ∨ 27 < M 115 (40 * s + 0); rw [show (40 * s + 0 : Int) = 40 * s by omega]; omega, by omega⟩), fun _ _ _ => rfl⟩)))⟩
            · intro h24
              refine n_bipush c_149_57 rfl ?_
              exact n_rI c_149_59 rfl ⟨hS, by omega, by omega, by subst hms; exact Or.inr (Or.inr (Or.inr (Or.inl ⟨by omega, by omega, by omega, by omega, by omega, by omega, Or.inl ⟨by omega, by omega⟩, fun _ _ _ => rfl⟩)))⟩
          · intro h25
            refine n_bipush c_149_41 rfl ?_
            exact n_rI c_149_43 rfl ⟨hS, by omega, by omega, by subst hms; exact Or.inr (Or.inr (Or.inl ⟨by omega, by omega, by omega, by omega, by omega, by omega, rfl, fun _ _ _ => rfl⟩))⟩
        · intro h26
          refine n_bipush c_149_29 rfl ?_
          exact n_rI c_149_31 rfl ⟨hS, by omega, by omega, by subst hms; exact Or.inr (Or.inl ⟨by omega, by omega, by omega, by omega, by omega, rfl, fun _ _ _ => rfl⟩)⟩
      · intro h27
        exfalso; omega

set_option maxHeartbeats 4000000 in
theorem mlawX2_3_c {xs : List Int32} {e : Nat} {ac : Int} {M : nM} {s gd : Int} {Ms : nM} (hS : Sf 3 ac M M) (hdm : M 112 0 = 3) (hs : -2147483648 ≤ s ∧ s ≤ 2147483647) (hgd : M 112 0 = gd) (hms : M = Ms) : ∀ nn : Nat, (∀ (x3 x4 x6 x8 x9 : Int) (M : nM), Sf 3 ac M M → (0 ≤ s ∧ s ≤ 7) → (1 ≤ x3 ∧ x3 ≤ 40) → (0 ≤ x4 ∧ x4 ≤ 27) → (0 ≤ x6 ∧ x6 ≤ 134217727) → (1 ≤ x8 ∧ x8 ≤ 82) → (0 ≤ x9 ∧ x9 ≤ 27) → (M 112 0 = 3) → (M 112 0 = gd) → (x6 = lset 3 2 (fun i => Ms 115 (40 * s + i)) x9.toNat) → (x8 = 1 + 2 * x9) → (RO 3 (Ms 113 s - 1) (fun i => Ms 115 (40 * s + i)) x8) → (x4 = Ms 115 (40 * s + 0)) → (x9 ≤ x4) → (x3 = Ms 113 s - 1) → (M = Ms) → (Ms 112 7 ≤ 11) → (27 - x9) * 1 + 1 < (nn : Int) → nW xs (e + 1) 149 99 [some (2, 112), some (0, 2), some (0, s), some (0, x3), some (1, x4), none, some (1, x6), none, some (0, x8), some (0, x9), none, none] [] M (nPI fun z M1 => Sf 3 ac M1 M1 ∧ (-2147483648 ≤ z ∧ z ≤ 2147483647) ∧ (M1 112 0 = gd) ∧ (mLaw 3 2 s z Ms M1))) := by
  have hd : (3 : Int) = 2 ∨ (3 : Int) = 3 := by decide
  have hac := hS.2.2.2.2
  intro nn
  induction nn with
  | zero => intros; omega
  | succ nn ih =>
    intro x3 x4 x6 x8 x9 M hS k2 k3 k4 k6 k8 k9 hdm hggd v0 v1 v2 v3 v4 v5 v6 v7 hnn
    have q15 : ∀ i : Int, M 115 i = Ms 115 i := fun i => by rw [v6]
    have q13 : M 113 s = Ms 113 s := by rw [v6]
    have q127 : M 112 7 = Ms 112 7 := by rw [v6]
    refine n_iload c_149_99 rfl (n_i2l c_149_101 (by omega) ?_)
    refine n_lload c_149_102 rfl (n_lcmp c_149_104 ?_)
    refine n_lif_ge c_149_105 (by omega) (by omega) ?_ ?_
    · intro h1
      refine n_aload_n c_149_198 rfl (n_getR c_149_199 sc_112.n rfl rfl rfl r_112_8 (n_aload_n c_149_202 rfl (n_getV (bi := 7) c_149_203 sc_112.n rfl rfl rfl (t_112_7 hS) ?_)))
      intro z2 ez2 f3
      refine n_iload_n c_149_206 rfl (n_iastoreG c_149_207 sc_118.n rfl (by omega) (hS.w118 (by omega) (by omega)) ?_)
      intro M4 eM4 hS4
      have g4_0 : M4 112 0 = M 112 0 := by rw [eM4]; exact nu_a (by omega)
      have g4_1 : M4 112 7 = M 112 7 := by rw [eM4]; exact nu_a (by omega)
      have g4_2 : M4 118 z2 = 2 := by rw [eM4]; exact nu_s _ _ _ _
      refine n_aload_n c_149_208 rfl (n_getR c_149_209 sc_112.n rfl rfl rfl r_112_9 (n_aload_n c_149_212 rfl (n_getV (bi := 7) c_149_213 sc_112.n rfl rfl rfl (t_112_7 hS4) ?_)))
      intro z5 ez5 f6
      refine n_lload c_149_216 rfl (n_lastoreM hS4 c_149_218 sc_119.n rfl (by omega) (m_119 (by omega) (by omega)) ?_)
      intro M7 eM7 hS7
      have g7_0 : M7 112 0 = M4 112 0 := by rw [eM7]; exact nu_a (by omega)
      have g7_1 : M7 112 7 = M4 112 7 := by rw [eM7]; exact nu_a (by omega)
      have g7_2 : M7 118 z2 = M4 118 z2 := by rw [eM7]; exact nu_a (by omega)
      refine n_aload_n c_149_219 rfl (n_dup2 c_149_220 (n_getV (bi := 7) c_149_221 sc_112.n rfl rfl rfl (t_112_7 hS7) ?_))
      intro z8 ez8 f9
      refine n_iconst c_149_224 (n_iadd c_149_225 rfl (n_putG (P := fun M2 => Sf 3 ac M2 M2) (bi := 7) c_149_226 sc_112.n rfl rfl rfl rfl (hS7.w112_7 (by omega) (by omega)) ?_))
      intro M10 eM10 hS10
      have g10_0 : M10 112 0 = M7 112 0 := by rw [eM10]; exact nu_i (by omega)
      have g10_1 : M10 118 z2 = M7 118 z2 := by rw [eM10]; exact nu_a (by omega)
      have g10_2 : M10 112 7 = (z8 + 1) := by rw [eM10]; exact nu_s _ _ _ _
      refine n_aload_n c_149_229 rfl (n_getV (bi := 7) c_149_230 sc_112.n rfl rfl rfl (t_112_7 hS10) ?_)
      intro z11 ez11 f12
      refine n_iconst c_149_233 (n_isub c_149_234 rfl ?_)
      exact n_rI c_149_235 rfl ⟨hS10, by omega, by omega, by exact mLaw_ok (n := z2) (n2 := z5) (v := x6) (by omega) (by omega) (by omega) (by omega) (by omega) (by omega) ⟨by omega, by show 0 ≤ Ms 115 (40 * s + 0); omega, by show Ms 115 (40 * s + 0) ≤ 27; omega, by have q : 1 + 2 * Ms 115 (40 * s + 0) = x8 := (by omega); show RO 3 (Ms 113 s - 1) (fun i => Ms 115 (40 * s + i)) (1 + 2 * Ms 115 (40 * s + 0)); rw [q]; exact v2⟩ (by rw [show Ms 115 (40 * s + 0) = x9 by omega]; exact v0) (by rw [← v6]; exact eM4) eM7 eM10 (by omega) (by omega) (by omega) (by omega)⟩
    · intro h13
      refine n_iconst c_149_108 (n_istore (L2 := [some (2, 112), some (0, 2), some (0, s), some (0, x3), some (1, x4), none, some (1, x6), none, some (0, x8), some (0, x9), some (0, 0), none]) c_149_109 rfl rfl (n_iconst c_149_111 (n_istore (L2 := [some (2, 112), some (0, 2), some (0, s), some (0, x3), some (1, x4), none, some (1, x6), none, some (0, x8), some (0, x9), some (0, 0), some (0, 0)]) c_149_112 rfl rfl (n_iload c_149_114 rfl (n_iload_n c_149_116 rfl ?_)))))
      refine n_if2_ge c_149_117 (by omega) (by omega) ?_ ?_
      · intro h14
        exfalso; omega
      · intro h15
        refine n_iload c_149_120 rfl (n_iload_n c_149_122 rfl ?_)
        refine n_if2_lt c_149_123 (by omega) (by omega) ?_ ?_
        · intro h16
          refine n_aload_n c_149_129 rfl (n_aload_n c_149_130 rfl (n_getR c_149_131 sc_112.n rfl rfl rfl r_112_3 (n_bipush c_149_134 rfl (n_iload_n c_149_136 rfl (n_imul c_149_137 rfl (n_iload c_149_138 rfl (n_iadd c_149_140 rfl (n_laloadV c_149_141 sc_115.n rfl rfl rfl (by omega) (t_115 hS (by omega)) ?_))))))))
          intro z17 ez17 f18
          have r1 := q15 (40 * s + x8)
          refine n_v1I c_149_142 rfl sc_112.n rfl rfl rfl rfl (misThingF_3 (v := z17) hS (by omega) (by omega)) ?_
          intro z19 M20 hP21
          obtain ⟨eM, f21, f21p0⟩ := hP21
          subst eM
          refine n_if0_ne c_149_145 (by omega) ?_ ?_
          · intro h22
            refine n_iload c_149_151 rfl ?_
            have ro23 := RO.ext v2 (x := x8) ⟨by omega, by show 0 ≤ Ms 115 (40 * s + x8); omega, by show Ms 115 (40 * s + x8) ≤ 3 - 1; omega⟩ rfl
            refine n_aload_n c_149_153 rfl (n_getV (bi := 0) c_149_154 sc_112.n rfl rfl rfl (show 3 ≤ M 112 0 ∧ M 112 0 ≤ 3 by omega) ?_)
            intro z24 ez24 f25
            obtain rfl : z24 = 3 := by omega
            refine n_imul c_149_157 rfl (n_aload_n c_149_158 rfl (n_getR c_149_159 sc_112.n rfl rfl rfl r_112_3 (n_bipush c_149_162 rfl (n_iload_n c_149_164 rfl (n_imul c_149_165 rfl (n_iload c_149_166 rfl (n_iadd c_149_168 rfl (n_laloadV c_149_169 sc_115.n rfl rfl rfl (by omega) (t_115 hS (by omega)) ?_))))))))
            intro z26 ez26 f27
            refine n_l2i c_149_170 (n_iadd c_149_171 rfl (n_istore (L2 := [some (2, 112), some (0, 2), some (0, s), some (0, x3), some (1, x4), none, some (1, x6), none, some (0, x8), some (0, x9), some (0, ((0 * 3) + z26)), some (0, 0)]) c_149_172 rfl rfl (n_iinc (L2 := [some (2, 112), some (0, 2), some (0, s), some (0, x3), some (1, x4), none, some (1, x6), none, some (0, (x8 + 1)), some (0, x9), some (0, ((0 * 3) + z26)), some (0, 0)]) c_149_174 rfl rfl rfl (n_iinc (L2 := [some (2, 112), some (0, 2), some (0, s), some (0, x3), some (1, x4), none, some (1, x6), none, some (0, (x8 + 1)), some (0, x9), some (0, ((0 * 3) + z26)), some (0, (0 + 1))]) c_149_177 rfl rfl rfl (n_goto c_149_180 (n_iload c_149_114 rfl (n_iload_n c_149_116 rfl ?_)))))))
            refine n_if2_ge c_149_117 (by omega) (by omega) ?_ ?_
            · intro h28
              exfalso; omega
            · intro h29
              refine n_iload c_149_120 rfl (n_iload_n c_149_122 rfl ?_)
              refine n_if2_lt c_149_123 (by omega) (by omega) ?_ ?_
              · intro h30
                refine n_aload_n c_149_129 rfl (n_aload_n c_149_130 rfl (n_getR c_149_131 sc_112.n rfl rfl rfl r_112_3 (n_bipush c_149_134 rfl (n_iload_n c_149_136 rfl (n_imul c_149_137 rfl (n_iload c_149_138 rfl (n_iadd c_149_140 rfl (n_laloadV c_149_141 sc_115.n rfl rfl rfl (by omega) (t_115 hS (by omega)) ?_))))))))
                intro z31 ez31 f32
                have r1 := q15 (40 * s + (x8 + 1))
                refine n_v1I c_149_142 rfl sc_112.n rfl rfl rfl rfl (misThingF_3 (v := z31) hS (by omega) (by omega)) ?_
                intro z33 M34 hP35
                obtain ⟨eM, f35, f35p0⟩ := hP35
                subst eM
                refine n_if0_ne c_149_145 (by omega) ?_ ?_
                · intro h36
                  refine n_iload c_149_151 rfl ?_
                  have ro37 := RO.ext ro23 (x := (x8 + 1)) ⟨by omega, by show 0 ≤ Ms 115 (40 * s + (x8 + 1)); omega, by show Ms 115 (40 * s + (x8 + 1)) ≤ 3 - 1; omega⟩ rfl
                  refine n_aload_n c_149_153 rfl (n_getV (bi := 0) c_149_154 sc_112.n rfl rfl rfl (show 3 ≤ M 112 0 ∧ M 112 0 ≤ 3 by omega) ?_)
                  intro z38 ez38 f39
                  obtain rfl : z38 = 3 := by omega
                  refine n_imul c_149_157 rfl (n_aload_n c_149_158 rfl (n_getR c_149_159 sc_112.n rfl rfl rfl r_112_3 (n_bipush c_149_162 rfl (n_iload_n c_149_164 rfl (n_imul c_149_165 rfl (n_iload c_149_166 rfl (n_iadd c_149_168 rfl (n_laloadV c_149_169 sc_115.n rfl rfl rfl (by omega) (t_115 hS (by omega)) ?_))))))))
                  intro z40 ez40 f41
                  refine n_l2i c_149_170 (n_iadd c_149_171 rfl (n_istore (L2 := [some (2, 112), some (0, 2), some (0, s), some (0, x3), some (1, x4), none, some (1, x6), none, some (0, (x8 + 1)), some (0, x9), some (0, ((((0 * 3) + z26) * 3) + z40)), some (0, (0 + 1))]) c_149_172 rfl rfl (n_iinc (L2 := [some (2, 112), some (0, 2), some (0, s), some (0, x3), some (1, x4), none, some (1, x6), none, some (0, ((x8 + 1) + 1)), some (0, x9), some (0, ((((0 * 3) + z26) * 3) + z40)), some (0, (0 + 1))]) c_149_174 rfl rfl rfl (n_iinc (L2 := [some (2, 112), some (0, 2), some (0, s), some (0, x3), some (1, x4), none, some (1, x6), none, some (0, ((x8 + 1) + 1)), some (0, x9), some (0, ((((0 * 3) + z26) * 3) + z40)), some (0, ((0 + 1) + 1))]) c_149_177 rfl rfl rfl (n_goto c_149_180 (n_iload c_149_114 rfl (n_iload_n c_149_116 rfl ?_)))))))
                  refine n_if2_ge c_149_117 (by omega) (by omega) ?_ ?_
                  · intro h42
                    refine n_lload c_149_183 rfl (n_lconst (n := 1) c_149_185 rfl (n_iload c_149_186 rfl (n_i_lshl c_149_188 rfl (n_i_lor c_149_189 rfl ?_))))
                    have hor := n_lor_bit27 (s := x6) (r := ((((0 * 3) + z26) * 3) + z40)) (by omega) (by omega)
                    have hls := lset_goL (d := 3) (k := 2) (f := (fun i => Ms 115 (40 * s + i))) (num := ((((0 * 3) + z26) * 3) + z40)) v0 v1 (by omega) (by omega) (by omega) (by show _ = Ms 115 (40 * s + x8) * 3 + Ms 115 (40 * s + (x8 + 1)); omega)
                    refine n_lstore (L2 := [some (2, 112), some (0, 2), some (0, s), some (0, x3), some (1, x4), none, some (1, (n_lor x6 (n_lshl 1 ((((0 * 3) + z26) * 3) + z40)))), none, some (0, ((x8 + 1) + 1)), some (0, x9), some (0, ((((0 * 3) + z26) * 3) + z40)), some (0, ((0 + 1) + 1))]) c_149_190 rfl rfl (n_iinc (L2 := [some (2, 112), some (0, 2), some (0, s), some (0, x3), some (1, x4), none, some (1, (n_lor x6 (n_lshl 1 ((((0 * 3) + z26) * 3) + z40)))), none, some (0, ((x8 + 1) + 1)), some (0, (x9 + 1)), some (0, ((((0 * 3) + z26) * 3) + z40)), some (0, ((0 + 1) + 1))]) c_149_192 rfl rfl rfl (n_goto c_149_195 (n_fg (le_s (le_s (le_s (le_s (le_s (le_n (le_s (le_n (le_s (le_s (le_n (le_n le_0)))))))))))) ?_)))
                    exact ih _ _ _ _ _ M hS (by omega) (by omega) (by omega) (by omega) (by omega) (by omega) (by omega) (by omega) (by exact hls) (by omega) (by exact ro37) (by exact v3) (by omega) (by exact v5) (by exact v6) (by exact v7) (by omega)
                  · intro h43
                    exfalso; omega
                · intro h44
                  refine n_bipush c_149_148 rfl ?_
                  exact n_rI c_149_150 rfl ⟨hS, by omega, by omega, by exact Or.inr (Or.inr (Or.inr (Or.inl ⟨by omega, by omega, by omega, by omega, by omega, by omega, Or.inr (Or.inr ⟨by omega, by show 0 ≤ Ms 115 (40 * s + 0); omega, by show Ms 115 (40 * s + 0) ≤ 27; omega, (x8 + 1), by omega, by show (x8 + 1) < 1 + 2 * Ms 115 (40 * s + 0); omega, ro23, by show (Ms 113 s - 1 ≤ (x8 + 1) ∧ _ = -6) ∨ ((x8 + 1) < Ms 113 s - 1 ∧ (Ms 115 (40 * s + (x8 + 1)) < 0 ∨ 3 - 1 < Ms 115 (40 * s + (x8 + 1))) ∧ _ = -4); omega⟩), fun a i _ => by rw [v6]⟩)))⟩
              · intro h45
                refine n_bipush c_149_126 rfl ?_
                exact n_rI c_149_128 rfl ⟨hS, by omega, by omega, by exact Or.inr (Or.inr (Or.inr (Or.inl ⟨by omega, by omega, by omega, by omega, by omega, by omega, Or.inr (Or.inr ⟨by omega, by show 0 ≤ Ms 115 (40 * s + 0); omega, by show Ms 115 (40 * s + 0) ≤ 27; omega, (x8 + 1), by omega, by show (x8 + 1) < 1 + 2 * Ms 115 (40 * s + 0); omega, ro23, by show (Ms 113 s - 1 ≤ (x8 + 1) ∧ _ = -6) ∨ ((x8 + 1) < Ms 113 s - 1 ∧ (Ms 115 (40 * s + (x8 + 1)) < 0 ∨ 3 - 1 < Ms 115 (40 * s + (x8 + 1))) ∧ _ = -4); omega⟩), fun a i _ => by rw [v6]⟩)))⟩
          · intro h46
            refine n_bipush c_149_148 rfl ?_
            exact n_rI c_149_150 rfl ⟨hS, by omega, by omega, by exact Or.inr (Or.inr (Or.inr (Or.inl ⟨by omega, by omega, by omega, by omega, by omega, by omega, Or.inr (Or.inr ⟨by omega, by show 0 ≤ Ms 115 (40 * s + 0); omega, by show Ms 115 (40 * s + 0) ≤ 27; omega, x8, by omega, by show x8 < 1 + 2 * Ms 115 (40 * s + 0); omega, v2, by show (Ms 113 s - 1 ≤ x8 ∧ _ = -6) ∨ (x8 < Ms 113 s - 1 ∧ (Ms 115 (40 * s + x8) < 0 ∨ 3 - 1 < Ms 115 (40 * s + x8)) ∧ _ = -4); omega⟩), fun a i _ => by rw [v6]⟩)))⟩
        · intro h47
          refine n_bipush c_149_126 rfl ?_
          exact n_rI c_149_128 rfl ⟨hS, by omega, by omega, by exact Or.inr (Or.inr (Or.inr (Or.inl ⟨by omega, by omega, by omega, by omega, by omega, by omega, Or.inr (Or.inr ⟨by omega, by show 0 ≤ Ms 115 (40 * s + 0); omega, by show Ms 115 (40 * s + 0) ≤ 27; omega, x8, by omega, by show x8 < 1 + 2 * Ms 115 (40 * s + 0); omega, v2, by show (Ms 113 s - 1 ≤ x8 ∧ _ = -6) ∨ (x8 < Ms 113 s - 1 ∧ (Ms 115 (40 * s + x8) < 0 ∨ 3 - 1 < Ms 115 (40 * s + x8)) ∧ _ = -4); omega⟩), fun a i _ => by rw [v6]⟩)))⟩
set_option maxHeartbeats 4000000 in
theorem mlawX2_3 {xs : List Int32} {e : Nat} {ac : Int} {M : nM} {s gd : Int} {Ms : nM} (hS : Sf 3 ac M M) (hdm : M 112 0 = 3) (hs : -2147483648 ≤ s ∧ s ≤ 2147483647) (hgd : M 112 0 = gd) (hms : M = Ms) : nW xs (e + 1) 149 0 [some (2, 112), some (0, 2), some (0, s), none, none, none, none, none, none, none, none, none] [] M (nPI fun z M1 => Sf 3 ac M1 M1 ∧ (-2147483648 ≤ z ∧ z ≤ 2147483647) ∧ (M1 112 0 = gd) ∧ (mLaw 3 2 s z Ms M1)) := by
  have hd : (3 : Int) = 2 ∨ (3 : Int) = 3 := by decide
  have hac := hS.2.2.2.2
  refine n_iload_n c_149_0 rfl (n_s1I c_149_1 rfl rfl rfl rfl (misSlotF_3 (s := s) hS (by omega)) ?_)
  intro z1 M2 hP3
  obtain ⟨eM, f3, f3p0⟩ := hP3
  subst eM
  refine n_if0_eq c_149_4 (by omega) ?_ ?_
  · intro h4
    refine n_bipush c_149_17 rfl ?_
    exact n_rI c_149_19 rfl ⟨hS, by omega, by omega, by subst hms; exact Or.inl ⟨by omega, rfl, fun _ _ _ => rfl⟩⟩
  · intro h5
    refine n_iload_n c_149_7 rfl (n_iconst c_149_8 ?_)
    refine n_if2_lt c_149_9 (by omega) (by omega) ?_ ?_
    · intro h6
      exfalso; omega
    · intro h7
      refine n_iload_n c_149_12 rfl (n_iconst c_149_13 ?_)
      refine n_if2_le c_149_14 (by omega) (by omega) ?_ ?_
      · intro h8
        refine n_aload_n c_149_20 rfl (n_getV (bi := 7) c_149_21 sc_112.n rfl rfl rfl (t_112_7 hS) ?_)
        intro z9 ez9 f10
        refine n_bipush c_149_24 rfl ?_
        refine n_if2_ne c_149_26 (by omega) (by omega) ?_ ?_
        · intro h11
          refine n_aload_n c_149_32 rfl (n_getR c_149_33 sc_112.n rfl rfl rfl r_112_1 (n_iload_n c_149_36 rfl (n_ialoadV c_149_37 sc_113.n rfl rfl rfl (by omega) (t_113 hS (by omega)) ?_)))
          intro z12 ez12 f13
          refine n_if0_ne c_149_38 (by omega) ?_ ?_
          · intro h14
            refine n_aload_n c_149_44 rfl (n_getR c_149_45 sc_112.n rfl rfl rfl r_112_1 (n_iload_n c_149_48 rfl (n_ialoadV c_149_49 sc_113.n rfl rfl rfl (by omega) (t_113 hS (by omega)) ?_)))
            intro z15 ez15 f16
            refine n_iconst c_149_50 (n_isub c_149_51 rfl (n_istore_n (L2 := [some (2, 112), some (0, 2), some (0, s), some (0, (z15 - 1)), none, none, none, none, none, none, none, none]) c_149_52 rfl rfl (n_iload_n c_149_53 rfl ?_)))
            refine n_if0_ne c_149_54 (by omega) ?_ ?_
            · intro h17
              refine n_aload_n c_149_60 rfl (n_getR c_149_61 sc_112.n rfl rfl rfl r_112_3 (n_bipush c_149_64 rfl (n_iload_n c_149_66 rfl (n_imul c_149_67 rfl (n_laloadV c_149_68 sc_115.n rfl rfl rfl (by omega) (t_115 hS (by omega)) ?_)))))
              intro z18 ez18 f19
              refine n_lstore (L2 := [some (2, 112), some (0, 2), some (0, s), some (0, (z15 - 1)), some (1, z18), none, none, none, none, none, none, none]) c_149_69 rfl rfl (n_lload c_149_71 rfl (n_lconst (n := 0) c_149_73 rfl (n_lcmp c_149_74 ?_)))
              refine n_lif_lt c_149_75 (by omega) (by omega) ?_ ?_
              · intro h20
                refine n_bipush c_149_87 rfl ?_
                exact n_rI c_149_89 rfl ⟨hS, by omega, by omega, by subst hms; exact Or.inr (Or.inr (Or.inr (Or.inl ⟨by omega, by omega, by omega, by omega, by omega, by omega, Or.inr (Or.inl ⟨by omega, by show M 115 (40 * s + 0) < 0 ∨ 27 < M 115 (40 * s + 0); rw [show (40 * s + 0 : Int) = 40 * s by omega]; omega, by omega⟩), fun _ _ _ => rfl⟩)))⟩
              · intro h21
                refine n_lload c_149_78 rfl (n_ldc2 (n := 27) c_149_80 rfl (n_lcmp c_149_83 ?_))
                refine n_lif_le c_149_84 (by omega) (by omega) ?_ ?_
                · intro h22
                  refine n_lconst (n := 0) c_149_90 rfl (n_lstore (L2 := [some (2, 112), some (0, 2), some (0, s), some (0, (z15 - 1)), some (1, z18), none, some (1, 0), none, none, none, none, none]) c_149_91 rfl rfl (n_iconst c_149_93 (n_istore (L2 := [some (2, 112), some (0, 2), some (0, s), some (0, (z15 - 1)), some (1, z18), none, some (1, 0), none, some (0, 1), none, none, none]) c_149_94 rfl rfl (n_iconst c_149_96 (n_istore (L2 := [some (2, 112), some (0, 2), some (0, s), some (0, (z15 - 1)), some (1, z18), none, some (1, 0), none, some (0, 1), some (0, 0), none, none]) c_149_97 rfl rfl (n_fg (le_s (le_s (le_s (le_s (le_s (le_n (le_s (le_n (le_s (le_s (le_n (le_n le_0)))))))))))) ?_))))))
                  exact (mlawX2_3_c hS hdm hs hgd hms 68) _ _ _ _ _ M hS (by omega) (by omega) (by omega) (by omega) (by omega) (by omega) (by omega) (by omega) (by rfl) (by omega) (by exact fun i h0 h1 => by omega) (by subst hms; rw [show (40 * s + 0 : Int) = 40 * s by omega]; omega) (by omega) (by subst hms; omega) (by exact hms) (by subst hms; omega) (by omega)
                · intro h23
                  refine n_bipush c_149_87 rfl ?_
                  exact n_rI c_149_89 rfl ⟨hS, by omega, by omega, by subst hms; exact Or.inr (Or.inr (Or.inr (Or.inl ⟨by omega, by omega, by omega, by omega, by omega, by omega, Or.inr (Or.inl ⟨by omega, by show M 115 (40 * s + 0) < 0 ∨ 27 < M 115 (40 * s + 0); rw [show (40 * s + 0 : Int) = 40 * s by omega]; omega, by omega⟩), fun _ _ _ => rfl⟩)))⟩
            · intro h24
              refine n_bipush c_149_57 rfl ?_
              exact n_rI c_149_59 rfl ⟨hS, by omega, by omega, by subst hms; exact Or.inr (Or.inr (Or.inr (Or.inl ⟨by omega, by omega, by omega, by omega, by omega, by omega, Or.inl ⟨by omega, by omega⟩, fun _ _ _ => rfl⟩)))⟩
          · intro h25
            refine n_bipush c_149_41 rfl ?_
            exact n_rI c_149_43 rfl ⟨hS, by omega, by omega, by subst hms; exact Or.inr (Or.inr (Or.inl ⟨by omega, by omega, by omega, by omega, by omega, by omega, rfl, fun _ _ _ => rfl⟩))⟩
        · intro h26
          refine n_bipush c_149_29 rfl ?_
          exact n_rI c_149_31 rfl ⟨hS, by omega, by omega, by subst hms; exact Or.inr (Or.inl ⟨by omega, by omega, by omega, by omega, by omega, rfl, fun _ _ _ => rfl⟩)⟩
      · intro h27
        exfalso; omega

set_option maxHeartbeats 4000000 in
theorem mlawX3_3_c {xs : List Int32} {e : Nat} {ac : Int} {M : nM} {s gd : Int} {Ms : nM} (hS : Sf 3 ac M M) (hdm : M 112 0 = 3) (hs : -2147483648 ≤ s ∧ s ≤ 2147483647) (hgd : M 112 0 = gd) (hms : M = Ms) : ∀ nn : Nat, (∀ (x3 x4 x6 x8 x9 : Int) (M : nM), Sf 3 ac M M → (0 ≤ s ∧ s ≤ 7) → (1 ≤ x3 ∧ x3 ≤ 40) → (0 ≤ x4 ∧ x4 ≤ 27) → (0 ≤ x6 ∧ x6 ≤ 134217727) → (1 ≤ x8 ∧ x8 ≤ 82) → (0 ≤ x9 ∧ x9 ≤ 27) → (M 112 0 = 3) → (M 112 0 = gd) → (x6 = lset 3 3 (fun i => Ms 115 (40 * s + i)) x9.toNat) → (x8 = 1 + 3 * x9) → (RO 3 (Ms 113 s - 1) (fun i => Ms 115 (40 * s + i)) x8) → (x4 = Ms 115 (40 * s + 0)) → (x9 ≤ x4) → (x3 = Ms 113 s - 1) → (M = Ms) → (Ms 112 7 ≤ 11) → (27 - x9) * 1 + 1 < (nn : Int) → nW xs (e + 1) 149 99 [some (2, 112), some (0, 3), some (0, s), some (0, x3), some (1, x4), none, some (1, x6), none, some (0, x8), some (0, x9), none, none] [] M (nPI fun z M1 => Sf 3 ac M1 M1 ∧ (-2147483648 ≤ z ∧ z ≤ 2147483647) ∧ (M1 112 0 = gd) ∧ (mLaw 3 3 s z Ms M1))) := by
  have hd : (3 : Int) = 2 ∨ (3 : Int) = 3 := by decide
  have hac := hS.2.2.2.2
  intro nn
  induction nn with
  | zero => intros; omega
  | succ nn ih =>
    intro x3 x4 x6 x8 x9 M hS k2 k3 k4 k6 k8 k9 hdm hggd v0 v1 v2 v3 v4 v5 v6 v7 hnn
    have q15 : ∀ i : Int, M 115 i = Ms 115 i := fun i => by rw [v6]
    have q13 : M 113 s = Ms 113 s := by rw [v6]
    have q127 : M 112 7 = Ms 112 7 := by rw [v6]
    refine n_iload c_149_99 rfl (n_i2l c_149_101 (by omega) ?_)
    refine n_lload c_149_102 rfl (n_lcmp c_149_104 ?_)
    refine n_lif_ge c_149_105 (by omega) (by omega) ?_ ?_
    · intro h1
      refine n_aload_n c_149_198 rfl (n_getR c_149_199 sc_112.n rfl rfl rfl r_112_8 (n_aload_n c_149_202 rfl (n_getV (bi := 7) c_149_203 sc_112.n rfl rfl rfl (t_112_7 hS) ?_)))
      intro z2 ez2 f3
      refine n_iload_n c_149_206 rfl (n_iastoreG c_149_207 sc_118.n rfl (by omega) (hS.w118 (by omega) (by omega)) ?_)
      intro M4 eM4 hS4
      have g4_0 : M4 112 0 = M 112 0 := by rw [eM4]; exact nu_a (by omega)
      have g4_1 : M4 112 7 = M 112 7 := by rw [eM4]; exact nu_a (by omega)
      have g4_2 : M4 118 z2 = 3 := by rw [eM4]; exact nu_s _ _ _ _
      refine n_aload_n c_149_208 rfl (n_getR c_149_209 sc_112.n rfl rfl rfl r_112_9 (n_aload_n c_149_212 rfl (n_getV (bi := 7) c_149_213 sc_112.n rfl rfl rfl (t_112_7 hS4) ?_)))
      intro z5 ez5 f6
      refine n_lload c_149_216 rfl (n_lastoreM hS4 c_149_218 sc_119.n rfl (by omega) (m_119 (by omega) (by omega)) ?_)
      intro M7 eM7 hS7
      have g7_0 : M7 112 0 = M4 112 0 := by rw [eM7]; exact nu_a (by omega)
      have g7_1 : M7 112 7 = M4 112 7 := by rw [eM7]; exact nu_a (by omega)
      have g7_2 : M7 118 z2 = M4 118 z2 := by rw [eM7]; exact nu_a (by omega)
      refine n_aload_n c_149_219 rfl (n_dup2 c_149_220 (n_getV (bi := 7) c_149_221 sc_112.n rfl rfl rfl (t_112_7 hS7) ?_))
      intro z8 ez8 f9
      refine n_iconst c_149_224 (n_iadd c_149_225 rfl (n_putG (P := fun M2 => Sf 3 ac M2 M2) (bi := 7) c_149_226 sc_112.n rfl rfl rfl rfl (hS7.w112_7 (by omega) (by omega)) ?_))
      intro M10 eM10 hS10
      have g10_0 : M10 112 0 = M7 112 0 := by rw [eM10]; exact nu_i (by omega)
      have g10_1 : M10 118 z2 = M7 118 z2 := by rw [eM10]; exact nu_a (by omega)
      have g10_2 : M10 112 7 = (z8 + 1) := by rw [eM10]; exact nu_s _ _ _ _
      refine n_aload_n c_149_229 rfl (n_getV (bi := 7) c_149_230 sc_112.n rfl rfl rfl (t_112_7 hS10) ?_)
      intro z11 ez11 f12
      refine n_iconst c_149_233 (n_isub c_149_234 rfl ?_)
      exact n_rI c_149_235 rfl ⟨hS10, by omega, by omega, by exact mLaw_ok (n := z2) (n2 := z5) (v := x6) (by omega) (by omega) (by omega) (by omega) (by omega) (by omega) ⟨by omega, by show 0 ≤ Ms 115 (40 * s + 0); omega, by show Ms 115 (40 * s + 0) ≤ 27; omega, by have q : 1 + 3 * Ms 115 (40 * s + 0) = x8 := (by omega); show RO 3 (Ms 113 s - 1) (fun i => Ms 115 (40 * s + i)) (1 + 3 * Ms 115 (40 * s + 0)); rw [q]; exact v2⟩ (by rw [show Ms 115 (40 * s + 0) = x9 by omega]; exact v0) (by rw [← v6]; exact eM4) eM7 eM10 (by omega) (by omega) (by omega) (by omega)⟩
    · intro h13
      refine n_iconst c_149_108 (n_istore (L2 := [some (2, 112), some (0, 3), some (0, s), some (0, x3), some (1, x4), none, some (1, x6), none, some (0, x8), some (0, x9), some (0, 0), none]) c_149_109 rfl rfl (n_iconst c_149_111 (n_istore (L2 := [some (2, 112), some (0, 3), some (0, s), some (0, x3), some (1, x4), none, some (1, x6), none, some (0, x8), some (0, x9), some (0, 0), some (0, 0)]) c_149_112 rfl rfl (n_iload c_149_114 rfl (n_iload_n c_149_116 rfl ?_)))))
      refine n_if2_ge c_149_117 (by omega) (by omega) ?_ ?_
      · intro h14
        exfalso; omega
      · intro h15
        refine n_iload c_149_120 rfl (n_iload_n c_149_122 rfl ?_)
        refine n_if2_lt c_149_123 (by omega) (by omega) ?_ ?_
        · intro h16
          refine n_aload_n c_149_129 rfl (n_aload_n c_149_130 rfl (n_getR c_149_131 sc_112.n rfl rfl rfl r_112_3 (n_bipush c_149_134 rfl (n_iload_n c_149_136 rfl (n_imul c_149_137 rfl (n_iload c_149_138 rfl (n_iadd c_149_140 rfl (n_laloadV c_149_141 sc_115.n rfl rfl rfl (by omega) (t_115 hS (by omega)) ?_))))))))
          intro z17 ez17 f18
          have r1 := q15 (40 * s + x8)
          refine n_v1I c_149_142 rfl sc_112.n rfl rfl rfl rfl (misThingF_3 (v := z17) hS (by omega) (by omega)) ?_
          intro z19 M20 hP21
          obtain ⟨eM, f21, f21p0⟩ := hP21
          subst eM
          refine n_if0_ne c_149_145 (by omega) ?_ ?_
          · intro h22
            refine n_iload c_149_151 rfl ?_
            have ro23 := RO.ext v2 (x := x8) ⟨by omega, by show 0 ≤ Ms 115 (40 * s + x8); omega, by show Ms 115 (40 * s + x8) ≤ 3 - 1; omega⟩ rfl
            refine n_aload_n c_149_153 rfl (n_getV (bi := 0) c_149_154 sc_112.n rfl rfl rfl (show 3 ≤ M 112 0 ∧ M 112 0 ≤ 3 by omega) ?_)
            intro z24 ez24 f25
            obtain rfl : z24 = 3 := by omega
            refine n_imul c_149_157 rfl (n_aload_n c_149_158 rfl (n_getR c_149_159 sc_112.n rfl rfl rfl r_112_3 (n_bipush c_149_162 rfl (n_iload_n c_149_164 rfl (n_imul c_149_165 rfl (n_iload c_149_166 rfl (n_iadd c_149_168 rfl (n_laloadV c_149_169 sc_115.n rfl rfl rfl (by omega) (t_115 hS (by omega)) ?_))))))))
            intro z26 ez26 f27
            refine n_l2i c_149_170 (n_iadd c_149_171 rfl (n_istore (L2 := [some (2, 112), some (0, 3), some (0, s), some (0, x3), some (1, x4), none, some (1, x6), none, some (0, x8), some (0, x9), some (0, ((0 * 3) + z26)), some (0, 0)]) c_149_172 rfl rfl (n_iinc (L2 := [some (2, 112), some (0, 3), some (0, s), some (0, x3), some (1, x4), none, some (1, x6), none, some (0, (x8 + 1)), some (0, x9), some (0, ((0 * 3) + z26)), some (0, 0)]) c_149_174 rfl rfl rfl (n_iinc (L2 := [some (2, 112), some (0, 3), some (0, s), some (0, x3), some (1, x4), none, some (1, x6), none, some (0, (x8 + 1)), some (0, x9), some (0, ((0 * 3) + z26)), some (0, (0 + 1))]) c_149_177 rfl rfl rfl (n_goto c_149_180 (n_iload c_149_114 rfl (n_iload_n c_149_116 rfl ?_)))))))
            refine n_if2_ge c_149_117 (by omega) (by omega) ?_ ?_
            · intro h28
              exfalso; omega
            · intro h29
              refine n_iload c_149_120 rfl (n_iload_n c_149_122 rfl ?_)
              refine n_if2_lt c_149_123 (by omega) (by omega) ?_ ?_
              · intro h30
                refine n_aload_n c_149_129 rfl (n_aload_n c_149_130 rfl (n_getR c_149_131 sc_112.n rfl rfl rfl r_112_3 (n_bipush c_149_134 rfl (n_iload_n c_149_136 rfl (n_imul c_149_137 rfl (n_iload c_149_138 rfl (n_iadd c_149_140 rfl (n_laloadV c_149_141 sc_115.n rfl rfl rfl (by omega) (t_115 hS (by omega)) ?_))))))))
                intro z31 ez31 f32
                have r1 := q15 (40 * s + (x8 + 1))
                refine n_v1I c_149_142 rfl sc_112.n rfl rfl rfl rfl (misThingF_3 (v := z31) hS (by omega) (by omega)) ?_
                intro z33 M34 hP35
                obtain ⟨eM, f35, f35p0⟩ := hP35
                subst eM
                refine n_if0_ne c_149_145 (by omega) ?_ ?_
                · intro h36
                  refine n_iload c_149_151 rfl ?_
                  have ro37 := RO.ext ro23 (x := (x8 + 1)) ⟨by omega, by show 0 ≤ Ms 115 (40 * s + (x8 + 1)); omega, by show Ms 115 (40 * s + (x8 + 1)) ≤ 3 - 1; omega⟩ rfl
                  refine n_aload_n c_149_153 rfl (n_getV (bi := 0) c_149_154 sc_112.n rfl rfl rfl (show 3 ≤ M 112 0 ∧ M 112 0 ≤ 3 by omega) ?_)
                  intro z38 ez38 f39
                  obtain rfl : z38 = 3 := by omega
                  refine n_imul c_149_157 rfl (n_aload_n c_149_158 rfl (n_getR c_149_159 sc_112.n rfl rfl rfl r_112_3 (n_bipush c_149_162 rfl (n_iload_n c_149_164 rfl (n_imul c_149_165 rfl (n_iload c_149_166 rfl (n_iadd c_149_168 rfl (n_laloadV c_149_169 sc_115.n rfl rfl rfl (by omega) (t_115 hS (by omega)) ?_))))))))
                  intro z40 ez40 f41
                  refine n_l2i c_149_170 (n_iadd c_149_171 rfl (n_istore (L2 := [some (2, 112), some (0, 3), some (0, s), some (0, x3), some (1, x4), none, some (1, x6), none, some (0, (x8 + 1)), some (0, x9), some (0, ((((0 * 3) + z26) * 3) + z40)), some (0, (0 + 1))]) c_149_172 rfl rfl (n_iinc (L2 := [some (2, 112), some (0, 3), some (0, s), some (0, x3), some (1, x4), none, some (1, x6), none, some (0, ((x8 + 1) + 1)), some (0, x9), some (0, ((((0 * 3) + z26) * 3) + z40)), some (0, (0 + 1))]) c_149_174 rfl rfl rfl (n_iinc (L2 := [some (2, 112), some (0, 3), some (0, s), some (0, x3), some (1, x4), none, some (1, x6), none, some (0, ((x8 + 1) + 1)), some (0, x9), some (0, ((((0 * 3) + z26) * 3) + z40)), some (0, ((0 + 1) + 1))]) c_149_177 rfl rfl rfl (n_goto c_149_180 (n_iload c_149_114 rfl (n_iload_n c_149_116 rfl ?_)))))))
                  refine n_if2_ge c_149_117 (by omega) (by omega) ?_ ?_
                  · intro h42
                    exfalso; omega
                  · intro h43
                    refine n_iload c_149_120 rfl (n_iload_n c_149_122 rfl ?_)
                    refine n_if2_lt c_149_123 (by omega) (by omega) ?_ ?_
                    · intro h44
                      refine n_aload_n c_149_129 rfl (n_aload_n c_149_130 rfl (n_getR c_149_131 sc_112.n rfl rfl rfl r_112_3 (n_bipush c_149_134 rfl (n_iload_n c_149_136 rfl (n_imul c_149_137 rfl (n_iload c_149_138 rfl (n_iadd c_149_140 rfl (n_laloadV c_149_141 sc_115.n rfl rfl rfl (by omega) (t_115 hS (by omega)) ?_))))))))
                      intro z45 ez45 f46
                      have r1 := q15 (40 * s + ((x8 + 1) + 1))
                      refine n_v1I c_149_142 rfl sc_112.n rfl rfl rfl rfl (misThingF_3 (v := z45) hS (by omega) (by omega)) ?_
                      intro z47 M48 hP49
                      obtain ⟨eM, f49, f49p0⟩ := hP49
                      subst eM
                      refine n_if0_ne c_149_145 (by omega) ?_ ?_
                      · intro h50
                        refine n_iload c_149_151 rfl ?_
                        have ro51 := RO.ext ro37 (x := ((x8 + 1) + 1)) ⟨by omega, by show 0 ≤ Ms 115 (40 * s + ((x8 + 1) + 1)); omega, by show Ms 115 (40 * s + ((x8 + 1) + 1)) ≤ 3 - 1; omega⟩ rfl
                        refine n_aload_n c_149_153 rfl (n_getV (bi := 0) c_149_154 sc_112.n rfl rfl rfl (show 3 ≤ M 112 0 ∧ M 112 0 ≤ 3 by omega) ?_)
                        intro z52 ez52 f53
                        obtain rfl : z52 = 3 := by omega
                        refine n_imul c_149_157 rfl (n_aload_n c_149_158 rfl (n_getR c_149_159 sc_112.n rfl rfl rfl r_112_3 (n_bipush c_149_162 rfl (n_iload_n c_149_164 rfl (n_imul c_149_165 rfl (n_iload c_149_166 rfl (n_iadd c_149_168 rfl (n_laloadV c_149_169 sc_115.n rfl rfl rfl (by omega) (t_115 hS (by omega)) ?_))))))))
                        intro z54 ez54 f55
                        refine n_l2i c_149_170 (n_iadd c_149_171 rfl (n_istore (L2 := [some (2, 112), some (0, 3), some (0, s), some (0, x3), some (1, x4), none, some (1, x6), none, some (0, ((x8 + 1) + 1)), some (0, x9), some (0, ((((((0 * 3) + z26) * 3) + z40) * 3) + z54)), some (0, ((0 + 1) + 1))]) c_149_172 rfl rfl (n_iinc (L2 := [some (2, 112), some (0, 3), some (0, s), some (0, x3), some (1, x4), none, some (1, x6), none, some (0, (((x8 + 1) + 1) + 1)), some (0, x9), some (0, ((((((0 * 3) + z26) * 3) + z40) * 3) + z54)), some (0, ((0 + 1) + 1))]) c_149_174 rfl rfl rfl (n_iinc (L2 := [some (2, 112), some (0, 3), some (0, s), some (0, x3), some (1, x4), none, some (1, x6), none, some (0, (((x8 + 1) + 1) + 1)), some (0, x9), some (0, ((((((0 * 3) + z26) * 3) + z40) * 3) + z54)), some (0, (((0 + 1) + 1) + 1))]) c_149_177 rfl rfl rfl (n_goto c_149_180 (n_iload c_149_114 rfl (n_iload_n c_149_116 rfl ?_)))))))
                        refine n_if2_ge c_149_117 (by omega) (by omega) ?_ ?_
                        · intro h56
                          refine n_lload c_149_183 rfl (n_lconst (n := 1) c_149_185 rfl (n_iload c_149_186 rfl (n_i_lshl c_149_188 rfl (n_i_lor c_149_189 rfl ?_))))
                          have hor := n_lor_bit27 (s := x6) (r := ((((((0 * 3) + z26) * 3) + z40) * 3) + z54)) (by omega) (by omega)
                          have hls := lset_goL (d := 3) (k := 3) (f := (fun i => Ms 115 (40 * s + i))) (num := ((((((0 * 3) + z26) * 3) + z40) * 3) + z54)) v0 v1 (by omega) (by omega) (by omega) (by show _ = (Ms 115 (40 * s + x8) * 3 + Ms 115 (40 * s + (x8 + 1))) * 3 + Ms 115 (40 * s + (x8 + 1 + 1)); omega)
                          refine n_lstore (L2 := [some (2, 112), some (0, 3), some (0, s), some (0, x3), some (1, x4), none, some (1, (n_lor x6 (n_lshl 1 ((((((0 * 3) + z26) * 3) + z40) * 3) + z54)))), none, some (0, (((x8 + 1) + 1) + 1)), some (0, x9), some (0, ((((((0 * 3) + z26) * 3) + z40) * 3) + z54)), some (0, (((0 + 1) + 1) + 1))]) c_149_190 rfl rfl (n_iinc (L2 := [some (2, 112), some (0, 3), some (0, s), some (0, x3), some (1, x4), none, some (1, (n_lor x6 (n_lshl 1 ((((((0 * 3) + z26) * 3) + z40) * 3) + z54)))), none, some (0, (((x8 + 1) + 1) + 1)), some (0, (x9 + 1)), some (0, ((((((0 * 3) + z26) * 3) + z40) * 3) + z54)), some (0, (((0 + 1) + 1) + 1))]) c_149_192 rfl rfl rfl (n_goto c_149_195 (n_fg (le_s (le_s (le_s (le_s (le_s (le_n (le_s (le_n (le_s (le_s (le_n (le_n le_0)))))))))))) ?_)))
                          exact ih _ _ _ _ _ M hS (by omega) (by omega) (by omega) (by omega) (by omega) (by omega) (by omega) (by omega) (by exact hls) (by omega) (by exact ro51) (by exact v3) (by omega) (by exact v5) (by exact v6) (by exact v7) (by omega)
                        · intro h57
                          exfalso; omega
                      · intro h58
                        refine n_bipush c_149_148 rfl ?_
                        exact n_rI c_149_150 rfl ⟨hS, by omega, by omega, by exact Or.inr (Or.inr (Or.inr (Or.inl ⟨by omega, by omega, by omega, by omega, by omega, by omega, Or.inr (Or.inr ⟨by omega, by show 0 ≤ Ms 115 (40 * s + 0); omega, by show Ms 115 (40 * s + 0) ≤ 27; omega, ((x8 + 1) + 1), by omega, by show ((x8 + 1) + 1) < 1 + 3 * Ms 115 (40 * s + 0); omega, ro37, by show (Ms 113 s - 1 ≤ ((x8 + 1) + 1) ∧ _ = -6) ∨ (((x8 + 1) + 1) < Ms 113 s - 1 ∧ (Ms 115 (40 * s + ((x8 + 1) + 1)) < 0 ∨ 3 - 1 < Ms 115 (40 * s + ((x8 + 1) + 1))) ∧ _ = -4); omega⟩), fun a i _ => by rw [v6]⟩)))⟩
                    · intro h59
                      refine n_bipush c_149_126 rfl ?_
                      exact n_rI c_149_128 rfl ⟨hS, by omega, by omega, by exact Or.inr (Or.inr (Or.inr (Or.inl ⟨by omega, by omega, by omega, by omega, by omega, by omega, Or.inr (Or.inr ⟨by omega, by show 0 ≤ Ms 115 (40 * s + 0); omega, by show Ms 115 (40 * s + 0) ≤ 27; omega, ((x8 + 1) + 1), by omega, by show ((x8 + 1) + 1) < 1 + 3 * Ms 115 (40 * s + 0); omega, ro37, by show (Ms 113 s - 1 ≤ ((x8 + 1) + 1) ∧ _ = -6) ∨ (((x8 + 1) + 1) < Ms 113 s - 1 ∧ (Ms 115 (40 * s + ((x8 + 1) + 1)) < 0 ∨ 3 - 1 < Ms 115 (40 * s + ((x8 + 1) + 1))) ∧ _ = -4); omega⟩), fun a i _ => by rw [v6]⟩)))⟩
                · intro h60
                  refine n_bipush c_149_148 rfl ?_
                  exact n_rI c_149_150 rfl ⟨hS, by omega, by omega, by exact Or.inr (Or.inr (Or.inr (Or.inl ⟨by omega, by omega, by omega, by omega, by omega, by omega, Or.inr (Or.inr ⟨by omega, by show 0 ≤ Ms 115 (40 * s + 0); omega, by show Ms 115 (40 * s + 0) ≤ 27; omega, (x8 + 1), by omega, by show (x8 + 1) < 1 + 3 * Ms 115 (40 * s + 0); omega, ro23, by show (Ms 113 s - 1 ≤ (x8 + 1) ∧ _ = -6) ∨ ((x8 + 1) < Ms 113 s - 1 ∧ (Ms 115 (40 * s + (x8 + 1)) < 0 ∨ 3 - 1 < Ms 115 (40 * s + (x8 + 1))) ∧ _ = -4); omega⟩), fun a i _ => by rw [v6]⟩)))⟩
              · intro h61
                refine n_bipush c_149_126 rfl ?_
                exact n_rI c_149_128 rfl ⟨hS, by omega, by omega, by exact Or.inr (Or.inr (Or.inr (Or.inl ⟨by omega, by omega, by omega, by omega, by omega, by omega, Or.inr (Or.inr ⟨by omega, by show 0 ≤ Ms 115 (40 * s + 0); omega, by show Ms 115 (40 * s + 0) ≤ 27; omega, (x8 + 1), by omega, by show (x8 + 1) < 1 + 3 * Ms 115 (40 * s + 0); omega, ro23, by show (Ms 113 s - 1 ≤ (x8 + 1) ∧ _ = -6) ∨ ((x8 + 1) < Ms 113 s - 1 ∧ (Ms 115 (40 * s + (x8 + 1)) < 0 ∨ 3 - 1 < Ms 115 (40 * s + (x8 + 1))) ∧ _ = -4); omega⟩), fun a i _ => by rw [v6]⟩)))⟩
          · intro h62
            refine n_bipush c_149_148 rfl ?_
            exact n_rI c_149_150 rfl ⟨hS, by omega, by omega, by exact Or.inr (Or.inr (Or.inr (Or.inl ⟨by omega, by omega, by omega, by omega, by omega, by omega, Or.inr (Or.inr ⟨by omega, by show 0 ≤ Ms 115 (40 * s + 0); omega, by show Ms 115 (40 * s + 0) ≤ 27; omega, x8, by omega, by show x8 < 1 + 3 * Ms 115 (40 * s + 0); omega, v2, by show (Ms 113 s - 1 ≤ x8 ∧ _ = -6) ∨ (x8 < Ms 113 s - 1 ∧ (Ms 115 (40 * s + x8) < 0 ∨ 3 - 1 < Ms 115 (40 * s + x8)) ∧ _ = -4); omega⟩), fun a i _ => by rw [v6]⟩)))⟩
        · intro h63
          refine n_bipush c_149_126 rfl ?_
          exact n_rI c_149_128 rfl ⟨hS, by omega, by omega, by exact Or.inr (Or.inr (Or.inr (Or.inl ⟨by omega, by omega, by omega, by omega, by omega, by omega, Or.inr (Or.inr ⟨by omega, by show 0 ≤ Ms 115 (40 * s + 0); omega, by show Ms 115 (40 * s + 0) ≤ 27; omega, x8, by omega, by show x8 < 1 + 3 * Ms 115 (40 * s + 0); omega, v2, by show (Ms 113 s - 1 ≤ x8 ∧ _ = -6) ∨ (x8 < Ms 113 s - 1 ∧ (Ms 115 (40 * s + x8) < 0 ∨ 3 - 1 < Ms 115 (40 * s + x8)) ∧ _ = -4); omega⟩), fun a i _ => by rw [v6]⟩)))⟩
set_option maxHeartbeats 4000000 in
theorem mlawX3_3 {xs : List Int32} {e : Nat} {ac : Int} {M : nM} {s gd : Int} {Ms : nM} (hS : Sf 3 ac M M) (hdm : M 112 0 = 3) (hs : -2147483648 ≤ s ∧ s ≤ 2147483647) (hgd : M 112 0 = gd) (hms : M = Ms) : nW xs (e + 1) 149 0 [some (2, 112), some (0, 3), some (0, s), none, none, none, none, none, none, none, none, none] [] M (nPI fun z M1 => Sf 3 ac M1 M1 ∧ (-2147483648 ≤ z ∧ z ≤ 2147483647) ∧ (M1 112 0 = gd) ∧ (mLaw 3 3 s z Ms M1)) := by
  have hd : (3 : Int) = 2 ∨ (3 : Int) = 3 := by decide
  have hac := hS.2.2.2.2
  refine n_iload_n c_149_0 rfl (n_s1I c_149_1 rfl rfl rfl rfl (misSlotF_3 (s := s) hS (by omega)) ?_)
  intro z1 M2 hP3
  obtain ⟨eM, f3, f3p0⟩ := hP3
  subst eM
  refine n_if0_eq c_149_4 (by omega) ?_ ?_
  · intro h4
    refine n_bipush c_149_17 rfl ?_
    exact n_rI c_149_19 rfl ⟨hS, by omega, by omega, by subst hms; exact Or.inl ⟨by omega, rfl, fun _ _ _ => rfl⟩⟩
  · intro h5
    refine n_iload_n c_149_7 rfl (n_iconst c_149_8 ?_)
    refine n_if2_lt c_149_9 (by omega) (by omega) ?_ ?_
    · intro h6
      exfalso; omega
    · intro h7
      refine n_iload_n c_149_12 rfl (n_iconst c_149_13 ?_)
      refine n_if2_le c_149_14 (by omega) (by omega) ?_ ?_
      · intro h8
        refine n_aload_n c_149_20 rfl (n_getV (bi := 7) c_149_21 sc_112.n rfl rfl rfl (t_112_7 hS) ?_)
        intro z9 ez9 f10
        refine n_bipush c_149_24 rfl ?_
        refine n_if2_ne c_149_26 (by omega) (by omega) ?_ ?_
        · intro h11
          refine n_aload_n c_149_32 rfl (n_getR c_149_33 sc_112.n rfl rfl rfl r_112_1 (n_iload_n c_149_36 rfl (n_ialoadV c_149_37 sc_113.n rfl rfl rfl (by omega) (t_113 hS (by omega)) ?_)))
          intro z12 ez12 f13
          refine n_if0_ne c_149_38 (by omega) ?_ ?_
          · intro h14
            refine n_aload_n c_149_44 rfl (n_getR c_149_45 sc_112.n rfl rfl rfl r_112_1 (n_iload_n c_149_48 rfl (n_ialoadV c_149_49 sc_113.n rfl rfl rfl (by omega) (t_113 hS (by omega)) ?_)))
            intro z15 ez15 f16
            refine n_iconst c_149_50 (n_isub c_149_51 rfl (n_istore_n (L2 := [some (2, 112), some (0, 3), some (0, s), some (0, (z15 - 1)), none, none, none, none, none, none, none, none]) c_149_52 rfl rfl (n_iload_n c_149_53 rfl ?_)))
            refine n_if0_ne c_149_54 (by omega) ?_ ?_
            · intro h17
              refine n_aload_n c_149_60 rfl (n_getR c_149_61 sc_112.n rfl rfl rfl r_112_3 (n_bipush c_149_64 rfl (n_iload_n c_149_66 rfl (n_imul c_149_67 rfl (n_laloadV c_149_68 sc_115.n rfl rfl rfl (by omega) (t_115 hS (by omega)) ?_)))))
              intro z18 ez18 f19
              refine n_lstore (L2 := [some (2, 112), some (0, 3), some (0, s), some (0, (z15 - 1)), some (1, z18), none, none, none, none, none, none, none]) c_149_69 rfl rfl (n_lload c_149_71 rfl (n_lconst (n := 0) c_149_73 rfl (n_lcmp c_149_74 ?_)))
              refine n_lif_lt c_149_75 (by omega) (by omega) ?_ ?_
              · intro h20
                refine n_bipush c_149_87 rfl ?_
                exact n_rI c_149_89 rfl ⟨hS, by omega, by omega, by subst hms; exact Or.inr (Or.inr (Or.inr (Or.inl ⟨by omega, by omega, by omega, by omega, by omega, by omega, Or.inr (Or.inl ⟨by omega, by show M 115 (40 * s + 0) < 0 ∨ 27 < M 115 (40 * s + 0); rw [show (40 * s + 0 : Int) = 40 * s by omega]; omega, by omega⟩), fun _ _ _ => rfl⟩)))⟩
              · intro h21
                refine n_lload c_149_78 rfl (n_ldc2 (n := 27) c_149_80 rfl (n_lcmp c_149_83 ?_))
                refine n_lif_le c_149_84 (by omega) (by omega) ?_ ?_
                · intro h22
                  refine n_lconst (n := 0) c_149_90 rfl (n_lstore (L2 := [some (2, 112), some (0, 3), some (0, s), some (0, (z15 - 1)), some (1, z18), none, some (1, 0), none, none, none, none, none]) c_149_91 rfl rfl (n_iconst c_149_93 (n_istore (L2 := [some (2, 112), some (0, 3), some (0, s), some (0, (z15 - 1)), some (1, z18), none, some (1, 0), none, some (0, 1), none, none, none]) c_149_94 rfl rfl (n_iconst c_149_96 (n_istore (L2 := [some (2, 112), some (0, 3), some (0, s), some (0, (z15 - 1)), some (1, z18), none, some (1, 0), none, some (0, 1), some (0, 0), none, none]) c_149_97 rfl rfl (n_fg (le_s (le_s (le_s (le_s (le_s (le_n (le_s (le_n (le_s (le_s (le_n (le_n le_0)))))))))))) ?_))))))
                  exact (mlawX3_3_c hS hdm hs hgd hms 68) _ _ _ _ _ M hS (by omega) (by omega) (by omega) (by omega) (by omega) (by omega) (by omega) (by omega) (by rfl) (by omega) (by exact fun i h0 h1 => by omega) (by subst hms; rw [show (40 * s + 0 : Int) = 40 * s by omega]; omega) (by omega) (by subst hms; omega) (by exact hms) (by subst hms; omega) (by omega)
                · intro h23
                  refine n_bipush c_149_87 rfl ?_
                  exact n_rI c_149_89 rfl ⟨hS, by omega, by omega, by subst hms; exact Or.inr (Or.inr (Or.inr (Or.inl ⟨by omega, by omega, by omega, by omega, by omega, by omega, Or.inr (Or.inl ⟨by omega, by show M 115 (40 * s + 0) < 0 ∨ 27 < M 115 (40 * s + 0); rw [show (40 * s + 0 : Int) = 40 * s by omega]; omega, by omega⟩), fun _ _ _ => rfl⟩)))⟩
            · intro h24
              refine n_bipush c_149_57 rfl ?_
              exact n_rI c_149_59 rfl ⟨hS, by omega, by omega, by subst hms; exact Or.inr (Or.inr (Or.inr (Or.inl ⟨by omega, by omega, by omega, by omega, by omega, by omega, Or.inl ⟨by omega, by omega⟩, fun _ _ _ => rfl⟩)))⟩
          · intro h25
            refine n_bipush c_149_41 rfl ?_
            exact n_rI c_149_43 rfl ⟨hS, by omega, by omega, by subst hms; exact Or.inr (Or.inr (Or.inl ⟨by omega, by omega, by omega, by omega, by omega, by omega, rfl, fun _ _ _ => rfl⟩))⟩
        · intro h26
          refine n_bipush c_149_29 rfl ?_
          exact n_rI c_149_31 rfl ⟨hS, by omega, by omega, by subst hms; exact Or.inr (Or.inl ⟨by omega, by omega, by omega, by omega, by omega, rfl, fun _ _ _ => rfl⟩)⟩
      · intro h27
        exfalso; omega

set_option maxHeartbeats 4000000 in
theorem rstartX_3 {xs : List Int32} {e : Nat} {ac : Int} {M : nM} {u gd : Int} (hS : Sf 3 ac M M) (hu : 1 ≤ u ∧ u ≤ 8) (hgd : M 112 0 = gd) : nW xs e 74 0 [some (2, 32), some (0, u)] [] M (nPV fun M1 => Sf 3 ac M1 M1 ∧ (M1 112 0 = gd) ∧ (M1 32 0 = u ∧ M1 32 1 = 0 ∧ ∀ a i : Int, ¬ (a = 32 ∧ (i = 0 ∨ i = 1)) → M1 a i = M a i)) := by
  have hd : (3 : Int) = 2 ∨ (3 : Int) = 3 := by decide
  have hac := hS.2.2.2.2
  refine n_aload_n c_74_0 rfl (n_iload_n c_74_1 rfl (n_putM (bi := 0) hS c_74_2 sc_32.n rfl rfl rfl rfl (m_32_0 (by omega)) ?_))
  intro M1 eM1 hS1
  have g1_0 : M1 112 0 = M 112 0 := by rw [eM1]; exact nu_a (by omega)
  have g1_1 : M1 32 0 = u := by rw [eM1]; exact nu_s _ _ _ _
  refine n_aload_n c_74_5 rfl (n_iconst c_74_6 (n_putM (bi := 1) hS1 c_74_7 sc_32.n rfl rfl rfl rfl (m_32_1 (by omega)) ?_))
  intro M2 eM2 hS2
  have g2_0 : M2 112 0 = M1 112 0 := by rw [eM2]; exact nu_a (by omega)
  have g2_1 : M2 32 0 = M1 32 0 := by rw [eM2]; exact nu_i (by omega)
  have g2_2 : M2 32 1 = 0 := by rw [eM2]; exact nu_s _ _ _ _
  exact n_rV c_74_10 rfl ⟨hS2, by omega, by exact ⟨by rw [eM2, nu_i (by omega), eM1, nu_s], by rw [eM2, nu_s], fun a i q => by rw [eM2, nu_e, if_neg (by omega), eM1, nu_e, if_neg (by omega)]⟩⟩

set_option maxHeartbeats 4000000 in
theorem riddleX_3 {xs : List Int32} {e : Nat} {ac : Int} {M : nM} {u gd : Int} (hS : Sf 3 ac M M) (hu : -2147483648 ≤ u ∧ u ≤ 2147483647) (hgd : M 112 0 = gd) : nW xs (e + 1) 115 0 [some (2, 3), some (0, u)] [] M (nPI fun z M1 => Sf 3 ac M1 M1 ∧ (0 ≤ z ∧ z ≤ 1) ∧ (M1 112 0 = gd) ∧ (cRid u z M M1)) := by
  have hd : (3 : Int) = 2 ∨ (3 : Int) = 3 := by decide
  have hac := hS.2.2.2.2
  refine n_iload_n c_115_0 rfl (n_iconst c_115_1 ?_)
  refine n_if2_lt c_115_2 (by omega) (by omega) ?_ ?_
  · intro h1
    refine n_iconst c_115_11 ?_
    exact n_rZ c_115_12 rfl (by omega) ⟨hS, by omega, by omega, by exact Or.inl ⟨by omega, rfl, fun _ _ _ => rfl⟩⟩
  · intro h2
    refine n_iload_n c_115_5 rfl (n_bipush c_115_6 rfl ?_)
    refine n_if2_le c_115_8 (by omega) (by omega) ?_ ?_
    · intro h3
      refine n_aload_n c_115_13 rfl (n_getR c_115_14 sc_3.n rfl rfl rfl r_3_6 (n_iload_n c_115_17 rfl (n_v1V c_115_18 rfl sc_32.n rfl rfl rfl rfl (rstartX_3 (u := u) (gd := (M 112 0)) hS (by omega) rfl) ?_)))
      intro  M4 hP5
      obtain ⟨hS4, f5g0, f5p0⟩ := hP5
      refine n_aload_n c_115_21 rfl (n_iconst c_115_22 (n_putZM (bi := 18) hS4 c_115_23 sc_3.n rfl rfl rfl (by omega) rfl (m_3_18 (by omega)) ?_))
      intro M6 eM6 hS6
      have g6_0 : M6 112 0 = M4 112 0 := by rw [eM6]; exact nu_a (by omega)
      have g6_1 : M6 3 18 = 0 := by rw [eM6]; exact nu_s _ _ _ _
      refine n_iconst c_115_26 ?_
      exact n_rZ c_115_27 rfl (by omega) ⟨hS6, by omega, by omega, by exact Or.inr ⟨by omega, by omega, rfl, by rw [eM6, nu_a (by omega)]; exact f5p0.1, by rw [eM6, nu_a (by omega)]; exact f5p0.2.1, fun a i hc q => by rw [eM6, nu_e, if_neg (by unfold core at hc; omega)]; exact f5p0.2.2 a i q⟩⟩
    · intro h7
      refine n_iconst c_115_11 ?_
      exact n_rZ c_115_12 rfl (by omega) ⟨hS, by omega, by omega, by exact Or.inl ⟨by omega, rfl, fun _ _ _ => rfl⟩⟩

set_option maxHeartbeats 4000000 in
theorem mriddleX_3 {xs : List Int32} {e : Nat} {ac : Int} {M : nM} {u gd : Int} (hS : Sf 3 ac M M) (hdm : M 112 0 = 3) (hu : -2147483648 ≤ u ∧ u ≤ 2147483647) (hgd : M 112 0 = gd) : nW xs e 187 0 [some (2, 112), some (0, u)] [] M (nPI fun z M1 => Sf 3 ac M1 M1 ∧ (0 ≤ z ∧ z ≤ 1) ∧ (M1 112 0 = gd) ∧ (mRid u z M M1)) := by
  have hd : (3 : Int) = 2 ∨ (3 : Int) = 3 := by decide
  have hac := hS.2.2.2.2
  refine n_iload_n c_187_0 rfl (n_iconst c_187_1 ?_)
  refine n_if2_lt c_187_2 (by omega) (by omega) ?_ ?_
  · intro h1
    refine n_iconst c_187_11 ?_
    exact n_rZ c_187_12 rfl (by omega) ⟨hS, by omega, by omega, by exact Or.inl ⟨by omega, rfl, fun _ _ _ => rfl⟩⟩
  · intro h2
    refine n_iload_n c_187_5 rfl (n_bipush c_187_6 rfl ?_)
    refine n_if2_le c_187_8 (by omega) (by omega) ?_ ?_
    · intro h3
      refine n_aload_n c_187_13 rfl (n_iload_n c_187_14 rfl (n_putG (P := Sq 3 ac) (bi := 10) c_187_15 sc_112.n rfl rfl rfl rfl (hS.sq.u (by omega) (show (1 : Int) ≤ u ∧ u ≤ (8 : Int) by omega)) ?_))
      intro M4 eM4 hQ4
      have g4_0 : M4 112 0 = M 112 0 := by rw [eM4]; exact nu_i (by omega)
      have g4_1 : M4 112 10 = u := by rw [eM4]; exact nu_s _ _ _ _
      refine n_aload_n c_187_18 rfl (n_iconst c_187_19 (n_putG (P := Sq 3 ac) (bi := 11) c_187_20 sc_112.n rfl rfl rfl rfl (hQ4.u (by omega) (show (0 : Int) ≤ 0 ∧ 0 ≤ (30 : Int) by omega)) ?_))
      intro M5 eM5 hQ5
      have g5_0 : M5 112 0 = M4 112 0 := by rw [eM5]; exact nu_i (by omega)
      have g5_1 : M5 112 10 = M4 112 10 := by rw [eM5]; exact nu_i (by omega)
      have g5_2 : M5 112 11 = 0 := by rw [eM5]; exact nu_s _ _ _ _
      have hS5 := hQ5.sf (AK.none (by omega))
      refine n_iconst c_187_23 ?_
      exact n_rZ c_187_24 rfl (by omega) ⟨hS5, by omega, by omega, by exact Or.inr ⟨by omega, by omega, rfl, by rw [eM5, nu_i (by omega), eM4, nu_s], by rw [eM5, nu_s], fun a i hc q => by rw [eM5, nu_e, if_neg (by omega), eM4, nu_e, if_neg (by omega)]⟩⟩
    · intro h6
      refine n_iconst c_187_11 ?_
      exact n_rZ c_187_12 rfl (by omega) ⟨hS, by omega, by omega, by exact Or.inl ⟨by omega, rfl, fun _ _ _ => rfl⟩⟩

set_option maxHeartbeats 4000000 in
theorem rstartWX_3 {xs : List Int32} {e : Nat} {ac : Int} {M : nM} (hS : Sw 3 ac M)  : nW xs e 74 0 [some (2, 32), some (0, 1)] [] M (nPV fun M1 => Sw 3 ac M1 ∧ (∀ a i : Int, a ≠ 32 → M1 a i = M a i) ∧ (M1 32 0 = 1 ∧ M1 32 1 = 0)) := by
  have hd : (3 : Int) = 2 ∨ (3 : Int) = 3 := by decide
  have hac := hS.2.2.2.2
  refine n_aload_n c_74_0 rfl (n_iload_n c_74_1 rfl (n_putW (bi := 0) hS c_74_2 sc_32.n rfl rfl rfl rfl (fun h => h.m (m_32_0 (by omega))) ?_))
  intro M1 eM1 hS1
  have g1_0 : M1 32 0 = 1 := by rw [eM1]; exact nu_s _ _ _ _
  refine n_aload_n c_74_5 rfl (n_iconst c_74_6 (n_putW (bi := 1) hS1 c_74_7 sc_32.n rfl rfl rfl rfl (fun h => h.m (m_32_1 (by omega))) ?_))
  intro M2 eM2 hS2
  have g2_0 : M2 32 0 = M1 32 0 := by rw [eM2]; exact nu_i (by omega)
  have g2_1 : M2 32 1 = 0 := by rw [eM2]; exact nu_s _ _ _ _
  exact n_rV c_74_10 rfl ⟨hS2, by exact fun a i ha => by rw [eM2, nu_a ha, eM1, nu_a ha], by exact ⟨by rw [eM2, nu_i (by omega), eM1, nu_s], by rw [eM2, nu_s]⟩⟩

set_option maxHeartbeats 4000000 in
theorem startOverX2_3 {xs : List Int32} {e : Nat} {ac : Int} {M : nM} (hSf : Sf 3 ac M M)  : nW xs (e + 2) 122 0 [some (2, 3), some (0, 2)] [] M (nPV fun M1 => Sf 2 0 M1 M1 ∧ (M1 112 0 = M 112 0) ∧ (cFre M M1) ∧ (M1 3 17 = 0)) := by
  have hS := hSf.sw
  have hd : (3 : Int) = 2 ∨ (3 : Int) = 3 := by decide
  have hac := hS.2.2.2.2
  refine n_aload_n c_122_0 rfl (n_getR c_122_1 sc_3.n rfl rfl rfl r_3_0 (n_iload_n c_122_4 rfl (n_v1V c_122_5 rfl sc_4.n rfl rfl rfl rfl (baseSet2_3 (Ms := M) hS (by exact hSf.b3 hd) (by rfl)) ?_)))
  intro  M1 hP2
  obtain ⟨hS1, f2p0⟩ := hP2
  refine n_aload_n c_122_8 rfl (n_getR c_122_9 sc_3.n rfl rfl rfl r_3_12 (n_iload_n c_122_12 rfl (n_iload_n c_122_13 rfl (n_imul c_122_14 rfl (n_iload_n c_122_15 rfl (n_iconst c_122_16 ?_))))))
  have hcst : ((2 * 2) : Int) = 4 := by omega
  rw [hcst]
  refine n_v3V c_122_17 rfl sc_52.n rfl rfl rfl rfl (weighW2_3 (Ms := M1) hS1 (by exact fun _ _ _ _ => rfl) (by exact fun _ => rfl)) ?_
  intro  M3 hP4
  obtain ⟨hS3, f4p0, f4p1, f4p2⟩ := hP4
  refine n_aload_n c_122_20 rfl (n_iconst c_122_21 ?_)
  refine n_putW (bi := 14) hS3 c_122_22 sc_3.n rfl rfl rfl rfl (fun h => h.s (by unfold sp; omega)) ?_
  intro M5 eM5 hS5
  have g5_0 : M5 3 14 = 0 := by rw [eM5]; exact nu_s _ _ _ _
  refine n_aload_n c_122_25 rfl (n_iconst c_122_26 (n_putW (bi := 15) hS5 c_122_27 sc_3.n rfl rfl rfl rfl (fun h => h.m (m_3_15 (by omega))) ?_))
  intro M6 eM6 hS6
  have g6_0 : M6 3 14 = M5 3 14 := by rw [eM6]; exact nu_i (by omega)
  have g6_1 : M6 3 15 = 0 := by rw [eM6]; exact nu_s _ _ _ _
  refine n_aload_n c_122_30 rfl (n_v0V c_122_31 rfl sc_3.n rfl rfl rfl rfl (forgetW_3 (Ms := M6) hS6 (by exact fun _ _ _ => rfl)) ?_)
  intro  M7 hP8
  obtain ⟨hS7, f8p0⟩ := hP8
  refine n_aload_n c_122_34 rfl (n_iconst c_122_35 (n_putW (bi := 17) hS7 c_122_36 sc_3.n rfl rfl rfl rfl (fun h => h.m (m_3_17 (by omega))) ?_))
  intro M9 eM9 hS9
  have g9_0 : M9 3 17 = 0 := by rw [eM9]; exact nu_s _ _ _ _
  refine n_aload_n c_122_39 rfl (n_getR c_122_40 sc_3.n rfl rfl rfl r_3_6 (n_iconst c_122_43 (n_v1V c_122_44 rfl sc_32.n rfl rfl rfl rfl (rstartWX_3  hS9 ) ?_)))
  intro  M10 hP11
  obtain ⟨hS10, f11p0, f11p1⟩ := hP11
  refine n_aload_n c_122_47 rfl (n_iconst c_122_48 (n_putZW (bi := 18) hS10 c_122_49 sc_3.n rfl rfl rfl (by omega) rfl (fun h => h.m (m_3_18 (by omega))) ?_))
  intro M12 eM12 hS12
  have g12_0 : M12 3 18 = 0 := by rw [eM12]; exact nu_s _ _ _ _
  refine n_jk (v := 2 * 2 * 2) ?_
  intro My fy jy
  have A : ∀ a i : Int, a ≠ 3 → a ≠ 32 → (a < 103 ∨ 111 < a) → M12 a i = M3 a i := fun a i h1 h2 h3 => by rw [eM12, nu_a h1, f11p0 a i h2, eM9, nu_a h1, f8p0 a i h3, eM6, nu_a h1, eM5, nu_a h1]
  have B := f2p0.fr (M2 := My) (fun a i h1 h2 h3 => by rw [fy a i h3, A a i (by omega) (by omega) (by omega), f4p0 a i (by omega) (by omega)])
  have C52 : ∀ i : Int, My 52 i = M3 52 i := fun i => by rw [fy 52 i (by omega), A 52 i (by omega) (by omega) (by omega)]
  have C3 : My 3 14 = 0 := by rw [fy 3 14 (by omega), eM12, nu_i (by omega), f11p0 3 14 (by omega), eM9, nu_i (by omega), f8p0 3 14 (by omega), eM6, nu_i (by omega), eM5, nu_s]
  have C112 : My 112 0 = M 112 0 := by rw [fy 112 0 (by omega), A 112 0 (by omega) (by omega) (by omega), f4p0 112 0 (by omega) (by omega), f2p0.2.2.2.2 112 0 (by omega)]
  have C5 : ∀ i : Int, 0 ≤ i → i ≠ 1 → i ≠ 2 → My 52 i = 1 := fun i h0 h1 h2 => by
    rw [C52 i]
    by_cases h3 : i = 3
    · rw [h3]; exact f4p1.2.2
    · rw [f4p2 i h1 h2 h3, f2p0.2.2.2.2 52 i (by omega)]
      have t := hSf.1 52 i h0
      have u : tb 3 ac 52 i = if i = 1 then (3 * 3, 3 * 3) else if i = 2 then (3, 3) else (1, 1) := rfl
      rw [u, if_neg h1, if_neg h2] at t
      have t1 : (1 : Int) ≤ M 52 i := t.1
      have t2 : M 52 i ≤ (1 : Int) := t.2
      omega
  have D : Sf 2 0 My My := Sf.fromW (hS12.of (fun a i q => fy a i (fun w => q (by unfold sp; omega)))) hd B jy (by rw [C52]; have := f4p1.1; omega) (by rw [C52]; exact f4p1.2.1) C5 C3
  have C315 : My 3 15 = 0 := by rw [fy 3 15 (by omega), eM12, nu_i (by omega), f11p0 3 15 (by omega), eM9, nu_i (by omega), f8p0 3 15 (by omega), eM6, nu_s]
  have C320 : My 32 0 = 1 := by rw [fy 32 0 (by omega), eM12, nu_a (by omega)]; exact f11p1.1
  have C321 : My 32 1 = 0 := by rw [fy 32 1 (by omega), eM12, nu_a (by omega)]; exact f11p1.2
  have CF : ∀ a i : Int, (8 ≤ a ∧ a ≤ 11) ∨ 112 ≤ a → My a i = M a i := fun a i q => by rw [fy a i (by omega), A a i (by omega) (by omega) (by omega), f4p0 a i (by omega) (by omega), f2p0.2.2.2.2 a i (by omega)]
  have C318 : My 3 17 = 0 := by rw [fy 3 17 (by omega), eM12, nu_i (by omega), f11p0 3 17 (by omega), eM9, nu_s]
  exact n_rV c_122_52 rfl ⟨D, C112, ⟨C315, C320, C321, CF⟩, C318⟩

set_option maxHeartbeats 4000000 in
theorem freshX2_3_c {xs : List Int32} {e : Nat} {ac : Int} {M : nM} (hS : Sf 3 ac M M)  : ∀ nn : Nat, (∀ (M : nM), Sf 3 ac M M → 1 < (nn : Int) → nW xs (e + 3) 93 12 [some (2, 3), some (0, 2)] [] M (nPI fun z M1 => Sf 2 0 M1 M1 ∧ (1 ≤ z ∧ z ≤ 1) ∧ (M1 112 0 = M 112 0) ∧ (cFre M M1) ∧ (M1 3 17 = 0))) := by
  have hd : (3 : Int) = 2 ∨ (3 : Int) = 3 := by decide
  have hac := hS.2.2.2.2
  intro nn
  induction nn with
  | zero => intros; omega
  | succ nn ih =>
    intro M hS hnn
    refine n_aload_n c_93_12 rfl (n_iload_n c_93_13 rfl (n_v1V c_93_14 rfl sc_3.n rfl rfl rfl rfl (startOverX2_3  hS ) ?_))
    intro  M1 hP2
    obtain ⟨hS1, f2p0, f2p1, f2p2⟩ := hP2
    refine n_iconst c_93_17 ?_
    exact n_rZ c_93_18 rfl (by omega) ⟨hS1, by omega, by omega, by exact f2p1, by exact f2p2⟩
set_option maxHeartbeats 4000000 in
theorem freshX2_3 {xs : List Int32} {e : Nat} {ac : Int} {M : nM} (hS : Sf 3 ac M M)  : nW xs (e + 3) 93 0 [some (2, 3), some (0, 2)] [] M (nPI fun z M1 => Sf 2 0 M1 M1 ∧ (1 ≤ z ∧ z ≤ 1) ∧ (M1 112 0 = M 112 0) ∧ (cFre M M1) ∧ (M1 3 17 = 0)) := by
  have hd : (3 : Int) = 2 ∨ (3 : Int) = 3 := by decide
  have hac := hS.2.2.2.2
  refine n_iload_n c_93_0 rfl (n_iconst c_93_1 ?_)
  refine n_if2_eq c_93_2 (by omega) (by omega) ?_ ?_
  · intro h1
    refine n_fg (le_s (le_s le_0)) ?_
    exact (freshX2_3_c hS  12)  M hS  (by omega)
  · intro h2
    exfalso; omega

set_option maxHeartbeats 4000000 in
theorem startOverX3_3 {xs : List Int32} {e : Nat} {ac : Int} {M : nM} (hSf : Sf 3 ac M M)  : nW xs (e + 2) 122 0 [some (2, 3), some (0, 3)] [] M (nPV fun M1 => Sf 3 0 M1 M1 ∧ (M1 112 0 = M 112 0) ∧ (cFre M M1) ∧ (M1 3 17 = 0)) := by
  have hS := hSf.sw
  have hd : (3 : Int) = 2 ∨ (3 : Int) = 3 := by decide
  have hac := hS.2.2.2.2
  refine n_aload_n c_122_0 rfl (n_getR c_122_1 sc_3.n rfl rfl rfl r_3_0 (n_iload_n c_122_4 rfl (n_v1V c_122_5 rfl sc_4.n rfl rfl rfl rfl (baseSet3_3 (Ms := M) hS (by exact hSf.b3 hd) (by rfl)) ?_)))
  intro  M1 hP2
  obtain ⟨hS1, f2p0⟩ := hP2
  refine n_aload_n c_122_8 rfl (n_getR c_122_9 sc_3.n rfl rfl rfl r_3_12 (n_iload_n c_122_12 rfl (n_iload_n c_122_13 rfl (n_imul c_122_14 rfl (n_iload_n c_122_15 rfl (n_iconst c_122_16 ?_))))))
  have hcst : ((3 * 3) : Int) = 9 := by omega
  rw [hcst]
  refine n_v3V c_122_17 rfl sc_52.n rfl rfl rfl rfl (weighW3_3 (Ms := M1) hS1 (by exact fun _ _ _ _ => rfl) (by exact fun _ => rfl)) ?_
  intro  M3 hP4
  obtain ⟨hS3, f4p0, f4p1, f4p2⟩ := hP4
  refine n_aload_n c_122_20 rfl (n_iconst c_122_21 ?_)
  refine n_putW (bi := 14) hS3 c_122_22 sc_3.n rfl rfl rfl rfl (fun h => h.s (by unfold sp; omega)) ?_
  intro M5 eM5 hS5
  have g5_0 : M5 3 14 = 0 := by rw [eM5]; exact nu_s _ _ _ _
  refine n_aload_n c_122_25 rfl (n_iconst c_122_26 (n_putW (bi := 15) hS5 c_122_27 sc_3.n rfl rfl rfl rfl (fun h => h.m (m_3_15 (by omega))) ?_))
  intro M6 eM6 hS6
  have g6_0 : M6 3 14 = M5 3 14 := by rw [eM6]; exact nu_i (by omega)
  have g6_1 : M6 3 15 = 0 := by rw [eM6]; exact nu_s _ _ _ _
  refine n_aload_n c_122_30 rfl (n_v0V c_122_31 rfl sc_3.n rfl rfl rfl rfl (forgetW_3 (Ms := M6) hS6 (by exact fun _ _ _ => rfl)) ?_)
  intro  M7 hP8
  obtain ⟨hS7, f8p0⟩ := hP8
  refine n_aload_n c_122_34 rfl (n_iconst c_122_35 (n_putW (bi := 17) hS7 c_122_36 sc_3.n rfl rfl rfl rfl (fun h => h.m (m_3_17 (by omega))) ?_))
  intro M9 eM9 hS9
  have g9_0 : M9 3 17 = 0 := by rw [eM9]; exact nu_s _ _ _ _
  refine n_aload_n c_122_39 rfl (n_getR c_122_40 sc_3.n rfl rfl rfl r_3_6 (n_iconst c_122_43 (n_v1V c_122_44 rfl sc_32.n rfl rfl rfl rfl (rstartWX_3  hS9 ) ?_)))
  intro  M10 hP11
  obtain ⟨hS10, f11p0, f11p1⟩ := hP11
  refine n_aload_n c_122_47 rfl (n_iconst c_122_48 (n_putZW (bi := 18) hS10 c_122_49 sc_3.n rfl rfl rfl (by omega) rfl (fun h => h.m (m_3_18 (by omega))) ?_))
  intro M12 eM12 hS12
  have g12_0 : M12 3 18 = 0 := by rw [eM12]; exact nu_s _ _ _ _
  refine n_jk (v := 3 * 3 * 3) ?_
  intro My fy jy
  have A : ∀ a i : Int, a ≠ 3 → a ≠ 32 → (a < 103 ∨ 111 < a) → M12 a i = M3 a i := fun a i h1 h2 h3 => by rw [eM12, nu_a h1, f11p0 a i h2, eM9, nu_a h1, f8p0 a i h3, eM6, nu_a h1, eM5, nu_a h1]
  have B := f2p0.fr (M2 := My) (fun a i h1 h2 h3 => by rw [fy a i h3, A a i (by omega) (by omega) (by omega), f4p0 a i (by omega) (by omega)])
  have C52 : ∀ i : Int, My 52 i = M3 52 i := fun i => by rw [fy 52 i (by omega), A 52 i (by omega) (by omega) (by omega)]
  have C3 : My 3 14 = 0 := by rw [fy 3 14 (by omega), eM12, nu_i (by omega), f11p0 3 14 (by omega), eM9, nu_i (by omega), f8p0 3 14 (by omega), eM6, nu_i (by omega), eM5, nu_s]
  have C112 : My 112 0 = M 112 0 := by rw [fy 112 0 (by omega), A 112 0 (by omega) (by omega) (by omega), f4p0 112 0 (by omega) (by omega), f2p0.2.2.2.2 112 0 (by omega)]
  have C5 : ∀ i : Int, 0 ≤ i → i ≠ 1 → i ≠ 2 → My 52 i = 1 := fun i h0 h1 h2 => by
    rw [C52 i]
    by_cases h3 : i = 3
    · rw [h3]; exact f4p1.2.2
    · rw [f4p2 i h1 h2 h3, f2p0.2.2.2.2 52 i (by omega)]
      have t := hSf.1 52 i h0
      have u : tb 3 ac 52 i = if i = 1 then (3 * 3, 3 * 3) else if i = 2 then (3, 3) else (1, 1) := rfl
      rw [u, if_neg h1, if_neg h2] at t
      have t1 : (1 : Int) ≤ M 52 i := t.1
      have t2 : M 52 i ≤ (1 : Int) := t.2
      omega
  have D : Sf 3 0 My My := Sf.fromW (hS12.of (fun a i q => fy a i (fun w => q (by unfold sp; omega)))) hd B jy (by rw [C52]; have := f4p1.1; omega) (by rw [C52]; exact f4p1.2.1) C5 C3
  have C315 : My 3 15 = 0 := by rw [fy 3 15 (by omega), eM12, nu_i (by omega), f11p0 3 15 (by omega), eM9, nu_i (by omega), f8p0 3 15 (by omega), eM6, nu_s]
  have C320 : My 32 0 = 1 := by rw [fy 32 0 (by omega), eM12, nu_a (by omega)]; exact f11p1.1
  have C321 : My 32 1 = 0 := by rw [fy 32 1 (by omega), eM12, nu_a (by omega)]; exact f11p1.2
  have CF : ∀ a i : Int, (8 ≤ a ∧ a ≤ 11) ∨ 112 ≤ a → My a i = M a i := fun a i q => by rw [fy a i (by omega), A a i (by omega) (by omega) (by omega), f4p0 a i (by omega) (by omega), f2p0.2.2.2.2 a i (by omega)]
  have C318 : My 3 17 = 0 := by rw [fy 3 17 (by omega), eM12, nu_i (by omega), f11p0 3 17 (by omega), eM9, nu_s]
  exact n_rV c_122_52 rfl ⟨D, C112, ⟨C315, C320, C321, CF⟩, C318⟩

/-! What the methods do to the core. -/
set_option maxHeartbeats 4000000 in
theorem freshX3_3_c {xs : List Int32} {e : Nat} {ac : Int} {M : nM} (hS : Sf 3 ac M M)  : ∀ nn : Nat, (∀ (M : nM), Sf 3 ac M M → 1 < (nn : Int) → nW xs (e + 3) 93 12 [some (2, 3), some (0, 3)] [] M (nPI fun z M1 => Sf 3 0 M1 M1 ∧ (1 ≤ z ∧ z ≤ 1) ∧ (M1 112 0 = M 112 0) ∧ (cFre M M1) ∧ (M1 3 17 = 0))) := by
  have hd : (3 : Int) = 2 ∨ (3 : Int) = 3 := by decide
  have hac := hS.2.2.2.2
  intro nn
  induction nn with
  | zero => intros; omega
  | succ nn ih =>
    intro M hS hnn
    refine n_aload_n c_93_12 rfl (n_iload_n c_93_13 rfl (n_v1V c_93_14 rfl sc_3.n rfl rfl rfl rfl (startOverX3_3  hS ) ?_))
    intro  M1 hP2
    obtain ⟨hS1, f2p0, f2p1, f2p2⟩ := hP2
    refine n_iconst c_93_17 ?_
    exact n_rZ c_93_18 rfl (by omega) ⟨hS1, by omega, by omega, by exact f2p1, by exact f2p2⟩
set_option maxHeartbeats 4000000 in
theorem freshX3_3 {xs : List Int32} {e : Nat} {ac : Int} {M : nM} (hS : Sf 3 ac M M)  : nW xs (e + 3) 93 0 [some (2, 3), some (0, 3)] [] M (nPI fun z M1 => Sf 3 0 M1 M1 ∧ (1 ≤ z ∧ z ≤ 1) ∧ (M1 112 0 = M 112 0) ∧ (cFre M M1) ∧ (M1 3 17 = 0)) := by
  have hd : (3 : Int) = 2 ∨ (3 : Int) = 3 := by decide
  have hac := hS.2.2.2.2
  refine n_iload_n c_93_0 rfl (n_iconst c_93_1 ?_)
  refine n_if2_eq c_93_2 (by omega) (by omega) ?_ ?_
  · intro h1
    exfalso; omega
  · intro h2
    refine n_iload_n c_93_5 rfl (n_iconst c_93_6 ?_)
    refine n_if2_eq c_93_7 (by omega) (by omega) ?_ ?_
    · intro h3
      refine n_fg (le_s (le_s le_0)) ?_
      exact (freshX3_3_c hS  12)  M hS  (by omega)
    · intro h4
      exfalso; omega

set_option maxHeartbeats 4000000 in
theorem mfreshX_3 {xs : List Int32} {e : Nat} {ac : Int} {M : nM} (hS : Sf 3 ac M M)  : nW xs (e + 1) 142 0 [some (2, 112), some (0, 3)] [] M (nPI fun z M1 => Sf 3 ac M1 M1 ∧ (1 ≤ z ∧ z ≤ 1) ∧ (M1 112 0 = 3) ∧ (mFre M M1) ∧ (M1 112 20 = -1)) := by
  have hd : (3 : Int) = 2 ∨ (3 : Int) = 3 := by decide
  have hac := hS.2.2.2.2
  refine n_iload_n c_142_0 rfl (n_iconst c_142_1 ?_)
  refine n_if2_lt c_142_2 (by omega) (by omega) ?_ ?_
  · intro h1
    exfalso; omega
  · intro h2
    refine n_iload_n c_142_5 rfl (n_iconst c_142_6 ?_)
    refine n_if2_le c_142_7 (by omega) (by omega) ?_ ?_
    · intro h3
      refine n_aload_n c_142_12 rfl (n_iload_n c_142_13 rfl (n_putM (bi := 0) hS c_142_14 sc_112.n rfl rfl rfl rfl (m_112_0 (by omega)) ?_))
      intro M4 eM4 hS4
      have g4_0 : M4 112 0 = 3 := by rw [eM4]; exact nu_s _ _ _ _
      refine n_aload_n c_142_17 rfl (n_iconst c_142_18 (n_putM (bi := 4) hS4 c_142_19 sc_112.n rfl rfl rfl rfl (m_112_4 (by omega)) ?_))
      intro M5 eM5 hS5
      have g5_0 : M5 112 0 = M4 112 0 := by rw [eM5]; exact nu_i (by omega)
      have g5_1 : M5 112 4 = 0 := by rw [eM5]; exact nu_s _ _ _ _
      refine n_aload_n c_142_22 rfl (n_iconst c_142_23 (n_putG (P := Sq 3 ac) (bi := 7) c_142_24 sc_112.n rfl rfl rfl rfl (hS5.sq.u (by omega) (show (0 : Int) ≤ 0 ∧ 0 ≤ (12 : Int) by omega)) ?_))
      intro M6 eM6 hQ6
      have g6_0 : M6 112 0 = M5 112 0 := by rw [eM6]; exact nu_i (by omega)
      have g6_1 : M6 112 4 = M5 112 4 := by rw [eM6]; exact nu_i (by omega)
      have g6_2 : M6 112 7 = 0 := by rw [eM6]; exact nu_s _ _ _ _
      refine n_aload_n c_142_27 rfl (n_iconst c_142_28 (n_putG (P := Sq 3 ac) (bi := 10) c_142_29 sc_112.n rfl rfl rfl rfl (hQ6.u (by omega) (show (1 : Int) ≤ 1 ∧ 1 ≤ (8 : Int) by omega)) ?_))
      intro M7 eM7 hQ7
      have g7_0 : M7 112 0 = M6 112 0 := by rw [eM7]; exact nu_i (by omega)
      have g7_1 : M7 112 4 = M6 112 4 := by rw [eM7]; exact nu_i (by omega)
      have g7_2 : M7 112 7 = M6 112 7 := by rw [eM7]; exact nu_i (by omega)
      have g7_3 : M7 112 10 = 1 := by rw [eM7]; exact nu_s _ _ _ _
      refine n_aload_n c_142_32 rfl (n_iconst c_142_33 (n_putG (P := Sq 3 ac) (bi := 11) c_142_34 sc_112.n rfl rfl rfl rfl (hQ7.u (by omega) (show (0 : Int) ≤ 0 ∧ 0 ≤ (30 : Int) by omega)) ?_))
      intro M8 eM8 hQ8
      have g8_0 : M8 112 0 = M7 112 0 := by rw [eM8]; exact nu_i (by omega)
      have g8_1 : M8 112 4 = M7 112 4 := by rw [eM8]; exact nu_i (by omega)
      have g8_2 : M8 112 7 = M7 112 7 := by rw [eM8]; exact nu_i (by omega)
      have g8_3 : M8 112 10 = M7 112 10 := by rw [eM8]; exact nu_i (by omega)
      have g8_4 : M8 112 11 = 0 := by rw [eM8]; exact nu_s _ _ _ _
      have hS8 := hQ8.sf (AK.none (by omega))
      refine n_aload_n c_142_37 rfl (n_v0V c_142_38 rfl sc_112.n rfl rfl rfl rfl (changed_3  hS8 (by omega)) ?_)
      intro  M9 hP10
      have hS9 := hP10
      have hS9c := hS9.2.2.2.1.1
      have hS9 := hS9.refl
      have hS9k0 := hS9c 112 0 (by unfold core; omega)
      have hS9k1 := hS9c 112 4 (by unfold core; omega)
      have hS9k2 := hS9c 112 7 (by unfold core; omega)
      have hS9k3 := hS9c 112 10 (by unfold core; omega)
      have hS9k4 := hS9c 112 11 (by unfold core; omega)
      refine n_aload_n c_142_41 rfl (n_iconst c_142_42 (n_putM (bi := 20) hS9 c_142_43 sc_112.n rfl rfl rfl rfl (m_112_20 (by omega)) ?_))
      intro M11 eM11 hS11
      have g11_0 : M11 112 0 = M9 112 0 := by rw [eM11]; exact nu_i (by omega)
      have g11_1 : M11 112 4 = M9 112 4 := by rw [eM11]; exact nu_i (by omega)
      have g11_2 : M11 112 7 = M9 112 7 := by rw [eM11]; exact nu_i (by omega)
      have g11_3 : M11 112 10 = M9 112 10 := by rw [eM11]; exact nu_i (by omega)
      have g11_4 : M11 112 11 = M9 112 11 := by rw [eM11]; exact nu_i (by omega)
      have g11_5 : M11 112 20 = (-1) := by rw [eM11]; exact nu_s _ _ _ _
      refine n_iconst c_142_46 ?_
      exact n_rZ c_142_47 rfl (by omega) ⟨hS11, by omega, by omega, by exact ⟨by omega, by omega, by omega, by omega, fun a i hc q => by rw [eM11, nu_a q, hS9c a i hc, eM8, nu_a q, eM7, nu_a q, eM6, nu_a q, eM5, nu_a q, eM4, nu_a q]⟩, by rw [eM11, nu_s]⟩
    · intro h12
      exfalso; omega

set_option maxHeartbeats 4000000 in
theorem isLawF_3 {xs : List Int32} {e : Nat} {ac : Int} {M0 M : nM} {l : Int} (hS : Sf 3 ac M0 M) (hl : -2147483648 ≤ l ∧ l ≤ 2147483647) : nW xs e 126 0 [some (2, 3), some (0, l)] [] M (nPI fun z M1 => M = M1 ∧ (0 ≤ z ∧ z ≤ 1) ∧ ((z = 1 ∧ 0 ≤ l ∧ l < M 3 15 ∧ l ≤ 11) ∨ (z = 0 ∧ (l < 0 ∨ M 3 15 ≤ l)))) := by
  have hd : (3 : Int) = 2 ∨ (3 : Int) = 3 := by decide
  have hac := hS.2.2.2.2
  refine n_iload_n c_126_0 rfl ?_
  refine n_if0_lt c_126_1 (by omega) ?_ ?_
  · intro h1
    refine n_iconst c_126_16 ?_
    exact n_rZ c_126_17 rfl (by omega) ⟨rfl, by omega, by omega⟩
  · intro h2
    refine n_iload_n c_126_4 rfl (n_aload_n c_126_5 rfl (n_getV (bi := 15) c_126_6 sc_3.n rfl rfl rfl (t_3_15 hS) ?_))
    intro z3 ez3 f4
    refine n_if2_ge c_126_9 (by omega) (by omega) ?_ ?_
    · intro h5
      refine n_iconst c_126_16 ?_
      exact n_rZ c_126_17 rfl (by omega) ⟨rfl, by omega, by omega⟩
    · intro h6
      refine n_iconst c_126_12 (n_goto c_126_13 ?_)
      exact n_rZ c_126_17 rfl (by omega) ⟨rfl, by omega, by omega⟩

set_option maxHeartbeats 4000000 in
theorem isUnknownF_3 {xs : List Int32} {e : Nat} {ac : Int} {M0 M : nM} {u : Int} (hS : Sf 3 ac M0 M) (hu : -2147483648 ≤ u ∧ u ≤ 2147483647) : nW xs e 75 0 [some (2, 32), some (0, u)] [] M (nPI fun z M1 => M = M1 ∧ (0 ≤ z ∧ z ≤ 1) ∧ ((z = 1 ∧ 0 ≤ u ∧ u < M 32 0 ∧ u ≤ 7) ∨ (z = 0 ∧ (u < 0 ∨ M 32 0 ≤ u)))) := by
  have hd : (3 : Int) = 2 ∨ (3 : Int) = 3 := by decide
  have hac := hS.2.2.2.2
  refine n_iload_n c_75_0 rfl ?_
  refine n_if0_lt c_75_1 (by omega) ?_ ?_
  · intro h1
    refine n_iconst c_75_16 ?_
    exact n_rZ c_75_17 rfl (by omega) ⟨rfl, by omega, by omega⟩
  · intro h2
    refine n_iload_n c_75_4 rfl (n_aload_n c_75_5 rfl (n_getV (bi := 0) c_75_6 sc_32.n rfl rfl rfl (t_32_0 hS) ?_))
    intro z3 ez3 f4
    refine n_if2_ge c_75_9 (by omega) (by omega) ?_ ?_
    · intro h5
      refine n_iconst c_75_16 ?_
      exact n_rZ c_75_17 rfl (by omega) ⟨rfl, by omega, by omega⟩
    · intro h6
      refine n_iconst c_75_12 (n_goto c_75_13 ?_)
      exact n_rZ c_75_17 rfl (by omega) ⟨rfl, by omega, by omega⟩

set_option maxHeartbeats 4000000 in
theorem raddX_3 {xs : List Int32} {e : Nat} {ac : Int} {M : nM} {l x y w gd : Int} (hS : Sf 3 ac M M) (hl : 0 ≤ l ∧ l ≤ 11) (hx : 0 ≤ x ∧ x ≤ 7) (hy : 0 ≤ y ∧ y ≤ 7) (hw : 0 ≤ w ∧ w ≤ 7) (hgd : M 112 0 = gd) (hc : M 32 1 ≤ 29) : nW xs e 76 0 [some (2, 32), some (0, l), some (0, x), some (0, y), some (0, w)] [] M (nPI fun z M1 => Sf 3 ac M1 M1 ∧ (-2147483648 ≤ z ∧ z ≤ 2147483647) ∧ (M1 112 0 = gd) ∧ (z = M 32 1 ∧ M1 32 1 = M 32 1 + 1 ∧ ∀ a i : Int, core a i → ¬ (a = 32 ∧ i = 1) → ¬ (33 ≤ a ∧ a ≤ 36 ∧ i = M 32 1) → M1 a i = M a i)) := by
  have hd : (3 : Int) = 2 ∨ (3 : Int) = 3 := by decide
  have hac := hS.2.2.2.2
  refine n_aload_n c_76_0 rfl (n_getR c_76_1 sc_32.n rfl rfl rfl r_32_2 (n_aload_n c_76_4 rfl (n_getV (bi := 1) c_76_5 sc_32.n rfl rfl rfl (t_32_1 hS) ?_)))
  intro z1 ez1 f2
  refine n_iload_n c_76_8 rfl (n_iastoreM hS c_76_9 sc_33.n rfl (by omega) (m_33 (by omega) (by omega)) ?_)
  intro M3 eM3 hS3
  have g3_0 : M3 112 0 = M 112 0 := by rw [eM3]; exact nu_a (by omega)
  have g3_1 : M3 32 1 = M 32 1 := by rw [eM3]; exact nu_a (by omega)
  refine n_aload_n c_76_10 rfl (n_getR c_76_11 sc_32.n rfl rfl rfl r_32_3 (n_aload_n c_76_14 rfl (n_getV (bi := 1) c_76_15 sc_32.n rfl rfl rfl (t_32_1 hS3) ?_)))
  intro z4 ez4 f5
  refine n_iload_n c_76_18 rfl (n_iastoreM hS3 c_76_19 sc_34.n rfl (by omega) (m_34 (by omega) (by omega)) ?_)
  intro M6 eM6 hS6
  have g6_0 : M6 112 0 = M3 112 0 := by rw [eM6]; exact nu_a (by omega)
  have g6_1 : M6 32 1 = M3 32 1 := by rw [eM6]; exact nu_a (by omega)
  refine n_aload_n c_76_20 rfl (n_getR c_76_21 sc_32.n rfl rfl rfl r_32_4 (n_aload_n c_76_24 rfl (n_getV (bi := 1) c_76_25 sc_32.n rfl rfl rfl (t_32_1 hS6) ?_)))
  intro z7 ez7 f8
  refine n_iload_n c_76_28 rfl (n_iastoreM hS6 c_76_29 sc_35.n rfl (by omega) (m_35 (by omega) (by omega)) ?_)
  intro M9 eM9 hS9
  have g9_0 : M9 112 0 = M6 112 0 := by rw [eM9]; exact nu_a (by omega)
  have g9_1 : M9 32 1 = M6 32 1 := by rw [eM9]; exact nu_a (by omega)
  refine n_aload_n c_76_30 rfl (n_getR c_76_31 sc_32.n rfl rfl rfl r_32_5 (n_aload_n c_76_34 rfl (n_getV (bi := 1) c_76_35 sc_32.n rfl rfl rfl (t_32_1 hS9) ?_)))
  intro z10 ez10 f11
  refine n_iload c_76_38 rfl (n_iastoreM hS9 c_76_40 sc_36.n rfl (by omega) (m_36 (by omega) (by omega)) ?_)
  intro M12 eM12 hS12
  have g12_0 : M12 112 0 = M9 112 0 := by rw [eM12]; exact nu_a (by omega)
  have g12_1 : M12 32 1 = M9 32 1 := by rw [eM12]; exact nu_a (by omega)
  refine n_aload_n c_76_41 rfl (n_dup2 c_76_42 (n_getV (bi := 1) c_76_43 sc_32.n rfl rfl rfl (t_32_1 hS12) ?_))
  intro z13 ez13 f14
  refine n_dup_x102 c_76_46 (n_iconst c_76_47 (n_iadd c_76_48 rfl (n_putM (bi := 1) hS12 c_76_49 sc_32.n rfl rfl rfl rfl (m_32_1 (by omega)) ?_)))
  intro M15 eM15 hS15
  have g15_0 : M15 112 0 = M12 112 0 := by rw [eM15]; exact nu_a (by omega)
  have g15_1 : M15 32 1 = (z13 + 1) := by rw [eM15]; exact nu_s _ _ _ _
  exact n_rI c_76_52 rfl ⟨hS15, by omega, by omega, by exact ⟨by omega, by omega, fun a i hc w1 w2 => by rw [eM15, nu_e, if_neg (by omega), eM12, nu_e, if_neg (by omega), eM9, nu_e, if_neg (by omega), eM6, nu_e, if_neg (by omega), eM3, nu_e, if_neg (by omega)]⟩⟩

set_option maxHeartbeats 4000000 in
theorem askX_3 {xs : List Int32} {e : Nat} {ac : Int} {M : nM} {l x y w gd : Int} (hS : Sf 3 ac M M) (hl : -2147483648 ≤ l ∧ l ≤ 2147483647) (hx : -2147483648 ≤ x ∧ x ≤ 2147483647) (hy : -2147483648 ≤ y ∧ y ≤ 2147483647) (hw : -2147483648 ≤ w ∧ w ≤ 2147483647) (hgd : M 112 0 = gd) : nW xs (e + 1) 116 0 [some (2, 3), some (0, l), some (0, x), some (0, y), some (0, w), none, none, none] [] M (nPI fun z M1 => Sf 3 ac M1 M1 ∧ (-2147483648 ≤ z ∧ z ≤ 2147483647) ∧ (M1 112 0 = gd) ∧ (cAsk l x y w z M M1)) := by
  have hd : (3 : Int) = 2 ∨ (3 : Int) = 3 := by decide
  have hac := hS.2.2.2.2
  refine n_aload_n c_116_0 rfl (n_iload_n c_116_1 rfl (n_v1I c_116_2 rfl sc_3.n rfl rfl rfl rfl (isLawF_3 (l := l) hS (by omega)) ?_))
  intro z1 M2 hP3
  obtain ⟨eM, f3, f3p0⟩ := hP3
  subst eM
  refine n_if0_ne c_116_5 (by omega) ?_ ?_
  · intro h4
    refine n_aload_n c_116_11 rfl (n_getR c_116_12 sc_3.n rfl rfl rfl r_3_3 (n_iload_n c_116_15 rfl (n_aaload c_116_16 sc_13.n rfl rfl rfl (by omega) (r_laws _) ?_)))
    have q5 : LawAt (79 + 2 * l) := by unfold LawAt; omega
    refine n_getV (bi := 0) c_116_17 q5.c0.1.n rfl rfl rfl (t_law hS q5).1 ?_
    intro z6 ez6 f7
    refine n_istore (L2 := [some (2, 3), some (0, l), some (0, x), some (0, y), some (0, w), some (0, z6), none, none]) c_116_20 rfl rfl (n_iload c_116_22 rfl (n_iconst c_116_24 ?_))
    refine n_if2_le c_116_25 (by omega) (by omega) ?_ ?_
    · intro h8
      refine n_iload_n c_116_32 rfl (n_istore (L2 := [some (2, 3), some (0, l), some (0, x), some (0, y), some (0, w), some (0, z6), some (0, x), none]) c_116_33 rfl rfl (n_iload c_116_35 rfl (n_iconst c_116_37 ?_)))
      refine n_if2_le c_116_38 (by omega) (by omega) ?_ ?_
      · intro h9
        refine n_iload c_116_46 rfl (n_istore (L2 := [some (2, 3), some (0, l), some (0, x), some (0, y), some (0, w), some (0, z6), some (0, x), some (0, x)]) c_116_48 rfl rfl (n_aload_n c_116_50 rfl (n_getR c_116_51 sc_3.n rfl rfl rfl r_3_6 (n_iload_n c_116_54 rfl (n_v1I c_116_55 rfl sc_32.n rfl rfl rfl rfl (isUnknownF_3 (u := x) hS (by omega)) ?_)))))
        intro z10 M11 hP12
        obtain ⟨eM, f12, f12p0⟩ := hP12
        subst eM
        refine n_if0_eq c_116_58 (by omega) ?_ ?_
        · intro h13
          refine n_bipush c_116_85 rfl ?_
          exact n_rI c_116_87 rfl ⟨hS, by omega, by omega, by exact Or.inl ⟨Or.inr (Or.inr (fun q => by obtain ⟨⟨q1, q2⟩, q3, q4⟩ := q; have q3 : 1 < M (79 + 2 * l) 0 → (0 ≤ y ∧ y < M 32 0) := q3; have q4 : 2 < M (79 + 2 * l) 0 → (0 ≤ w ∧ w < M 32 0) := q4; omega)), rfl, fun _ _ _ => rfl⟩⟩
        · intro h14
          refine n_aload_n c_116_61 rfl (n_getR c_116_62 sc_3.n rfl rfl rfl r_3_6 (n_iload c_116_65 rfl (n_v1I c_116_67 rfl sc_32.n rfl rfl rfl rfl (isUnknownF_3 (u := x) hS (by omega)) ?_)))
          intro z15 M16 hP17
          obtain ⟨eM, f17, f17p0⟩ := hP17
          subst eM
          refine n_if0_eq c_116_70 (by omega) ?_ ?_
          · intro h18
            refine n_bipush c_116_85 rfl ?_
            exact n_rI c_116_87 rfl ⟨hS, by omega, by omega, by exact Or.inl ⟨Or.inr (Or.inr (fun q => by obtain ⟨⟨q1, q2⟩, q3, q4⟩ := q; have q3 : 1 < M (79 + 2 * l) 0 → (0 ≤ y ∧ y < M 32 0) := q3; have q4 : 2 < M (79 + 2 * l) 0 → (0 ≤ w ∧ w < M 32 0) := q4; omega)), rfl, fun _ _ _ => rfl⟩⟩
          · intro h19
            refine n_aload_n c_116_73 rfl (n_getR c_116_74 sc_3.n rfl rfl rfl r_3_6 (n_iload c_116_77 rfl (n_v1I c_116_79 rfl sc_32.n rfl rfl rfl rfl (isUnknownF_3 (u := x) hS (by omega)) ?_)))
            intro z20 M21 hP22
            obtain ⟨eM, f22, f22p0⟩ := hP22
            subst eM
            refine n_if0_ne c_116_82 (by omega) ?_ ?_
            · intro h23
              refine n_aload_n c_116_88 rfl (n_getR c_116_89 sc_3.n rfl rfl rfl r_3_6 (n_getV (bi := 1) c_116_92 sc_32.n rfl rfl rfl (t_32_1 hS) ?_))
              intro z24 ez24 f25
              refine n_bipush c_116_95 rfl ?_
              refine n_if2_lt c_116_97 (by omega) (by omega) ?_ ?_
              · intro h26
                refine n_aload_n c_116_103 rfl (n_iconst c_116_104 (n_putZM (bi := 18) hS c_116_105 sc_3.n rfl rfl rfl (by omega) rfl (m_3_18 (by omega)) ?_))
                intro M27 eM27 hS27
                have g27_0 : M27 112 0 = M 112 0 := by rw [eM27]; exact nu_a (by omega)
                have g27_1 : M27 32 1 = M 32 1 := by rw [eM27]; exact nu_a (by omega)
                have g27_2 : M27 3 18 = 0 := by rw [eM27]; exact nu_s _ _ _ _
                refine n_aload_n c_116_108 rfl (n_getR c_116_109 sc_3.n rfl rfl rfl r_3_6 (n_iload_n c_116_112 rfl (n_iload_n c_116_113 rfl (n_iload c_116_114 rfl (n_iload c_116_116 rfl (n_v4I c_116_118 rfl sc_32.n rfl rfl rfl rfl (raddX_3 (l := l) (x := x) (y := x) (w := x) (gd := (M27 112 0)) hS27 (by omega) (by omega) (by omega) (by omega) rfl (by omega)) ?_))))))
                intro z28 M29 hP30
                obtain ⟨hS29, f30, f30g0, f30p0⟩ := hP30
                exact n_rI c_116_121 rfl ⟨hS29, by omega, by omega, by have ec : ∀ a i : Int, core a i → M27 a i = M a i := fun a i hc => (by rw [eM27, nu_e, if_neg (by unfold core at hc; omega)]); have e1 := ec 32 1 (by unfold core; omega); obtain ⟨u1, u2, u3⟩ := f30p0; exact Or.inr (Or.inr ⟨by omega, by omega, ⟨⟨by omega, by omega⟩, fun h => ⟨by omega, by omega⟩, fun h => ⟨by omega, by omega⟩⟩, by omega, by omega, by omega, fun a i hc w1 w2 => by rw [u3 a i hc w1 (by omega), ec a i hc]⟩)⟩
              · intro h31
                refine n_bipush c_116_100 rfl ?_
                exact n_rI c_116_102 rfl ⟨hS, by omega, by omega, by exact Or.inr (Or.inl ⟨by omega, by omega, ⟨⟨by omega, by omega⟩, fun h => ⟨by omega, by omega⟩, fun h => ⟨by omega, by omega⟩⟩, by omega, rfl, fun _ _ _ => rfl⟩)⟩
            · intro h32
              refine n_bipush c_116_85 rfl ?_
              exact n_rI c_116_87 rfl ⟨hS, by omega, by omega, by exact Or.inl ⟨Or.inr (Or.inr (fun q => by obtain ⟨⟨q1, q2⟩, q3, q4⟩ := q; have q3 : 1 < M (79 + 2 * l) 0 → (0 ≤ y ∧ y < M 32 0) := q3; have q4 : 2 < M (79 + 2 * l) 0 → (0 ≤ w ∧ w < M 32 0) := q4; omega)), rfl, fun _ _ _ => rfl⟩⟩
      · intro h33
        exfalso; omega
    · intro h34
      refine n_iload_n c_116_28 rfl (n_goto c_116_29 (n_istore (L2 := [some (2, 3), some (0, l), some (0, x), some (0, y), some (0, w), some (0, z6), some (0, y), none]) c_116_33 rfl rfl (n_iload c_116_35 rfl (n_iconst c_116_37 ?_))))
      refine n_if2_le c_116_38 (by omega) (by omega) ?_ ?_
      · intro h35
        refine n_iload c_116_46 rfl (n_istore (L2 := [some (2, 3), some (0, l), some (0, x), some (0, y), some (0, w), some (0, z6), some (0, y), some (0, y)]) c_116_48 rfl rfl (n_aload_n c_116_50 rfl (n_getR c_116_51 sc_3.n rfl rfl rfl r_3_6 (n_iload_n c_116_54 rfl (n_v1I c_116_55 rfl sc_32.n rfl rfl rfl rfl (isUnknownF_3 (u := x) hS (by omega)) ?_)))))
        intro z36 M37 hP38
        obtain ⟨eM, f38, f38p0⟩ := hP38
        subst eM
        refine n_if0_eq c_116_58 (by omega) ?_ ?_
        · intro h39
          refine n_bipush c_116_85 rfl ?_
          exact n_rI c_116_87 rfl ⟨hS, by omega, by omega, by exact Or.inl ⟨Or.inr (Or.inr (fun q => by obtain ⟨⟨q1, q2⟩, q3, q4⟩ := q; have q3 : 1 < M (79 + 2 * l) 0 → (0 ≤ y ∧ y < M 32 0) := q3; have q4 : 2 < M (79 + 2 * l) 0 → (0 ≤ w ∧ w < M 32 0) := q4; omega)), rfl, fun _ _ _ => rfl⟩⟩
        · intro h40
          refine n_aload_n c_116_61 rfl (n_getR c_116_62 sc_3.n rfl rfl rfl r_3_6 (n_iload c_116_65 rfl (n_v1I c_116_67 rfl sc_32.n rfl rfl rfl rfl (isUnknownF_3 (u := y) hS (by omega)) ?_)))
          intro z41 M42 hP43
          obtain ⟨eM, f43, f43p0⟩ := hP43
          subst eM
          refine n_if0_eq c_116_70 (by omega) ?_ ?_
          · intro h44
            refine n_bipush c_116_85 rfl ?_
            exact n_rI c_116_87 rfl ⟨hS, by omega, by omega, by exact Or.inl ⟨Or.inr (Or.inr (fun q => by obtain ⟨⟨q1, q2⟩, q3, q4⟩ := q; have q3 : 1 < M (79 + 2 * l) 0 → (0 ≤ y ∧ y < M 32 0) := q3; have q4 : 2 < M (79 + 2 * l) 0 → (0 ≤ w ∧ w < M 32 0) := q4; omega)), rfl, fun _ _ _ => rfl⟩⟩
          · intro h45
            refine n_aload_n c_116_73 rfl (n_getR c_116_74 sc_3.n rfl rfl rfl r_3_6 (n_iload c_116_77 rfl (n_v1I c_116_79 rfl sc_32.n rfl rfl rfl rfl (isUnknownF_3 (u := y) hS (by omega)) ?_)))
            intro z46 M47 hP48
            obtain ⟨eM, f48, f48p0⟩ := hP48
            subst eM
            refine n_if0_ne c_116_82 (by omega) ?_ ?_
            · intro h49
              refine n_aload_n c_116_88 rfl (n_getR c_116_89 sc_3.n rfl rfl rfl r_3_6 (n_getV (bi := 1) c_116_92 sc_32.n rfl rfl rfl (t_32_1 hS) ?_))
              intro z50 ez50 f51
              refine n_bipush c_116_95 rfl ?_
              refine n_if2_lt c_116_97 (by omega) (by omega) ?_ ?_
              · intro h52
                refine n_aload_n c_116_103 rfl (n_iconst c_116_104 (n_putZM (bi := 18) hS c_116_105 sc_3.n rfl rfl rfl (by omega) rfl (m_3_18 (by omega)) ?_))
                intro M53 eM53 hS53
                have g53_0 : M53 112 0 = M 112 0 := by rw [eM53]; exact nu_a (by omega)
                have g53_1 : M53 32 1 = M 32 1 := by rw [eM53]; exact nu_a (by omega)
                have g53_2 : M53 3 18 = 0 := by rw [eM53]; exact nu_s _ _ _ _
                refine n_aload_n c_116_108 rfl (n_getR c_116_109 sc_3.n rfl rfl rfl r_3_6 (n_iload_n c_116_112 rfl (n_iload_n c_116_113 rfl (n_iload c_116_114 rfl (n_iload c_116_116 rfl (n_v4I c_116_118 rfl sc_32.n rfl rfl rfl rfl (raddX_3 (l := l) (x := x) (y := y) (w := y) (gd := (M53 112 0)) hS53 (by omega) (by omega) (by omega) (by omega) rfl (by omega)) ?_))))))
                intro z54 M55 hP56
                obtain ⟨hS55, f56, f56g0, f56p0⟩ := hP56
                exact n_rI c_116_121 rfl ⟨hS55, by omega, by omega, by have ec : ∀ a i : Int, core a i → M53 a i = M a i := fun a i hc => (by rw [eM53, nu_e, if_neg (by unfold core at hc; omega)]); have e1 := ec 32 1 (by unfold core; omega); obtain ⟨u1, u2, u3⟩ := f56p0; exact Or.inr (Or.inr ⟨by omega, by omega, ⟨⟨by omega, by omega⟩, fun h => ⟨by omega, by omega⟩, fun h => ⟨by omega, by omega⟩⟩, by omega, by omega, by omega, fun a i hc w1 w2 => by rw [u3 a i hc w1 (by omega), ec a i hc]⟩)⟩
              · intro h57
                refine n_bipush c_116_100 rfl ?_
                exact n_rI c_116_102 rfl ⟨hS, by omega, by omega, by exact Or.inr (Or.inl ⟨by omega, by omega, ⟨⟨by omega, by omega⟩, fun h => ⟨by omega, by omega⟩, fun h => ⟨by omega, by omega⟩⟩, by omega, rfl, fun _ _ _ => rfl⟩)⟩
            · intro h58
              refine n_bipush c_116_85 rfl ?_
              exact n_rI c_116_87 rfl ⟨hS, by omega, by omega, by exact Or.inl ⟨Or.inr (Or.inr (fun q => by obtain ⟨⟨q1, q2⟩, q3, q4⟩ := q; have q3 : 1 < M (79 + 2 * l) 0 → (0 ≤ y ∧ y < M 32 0) := q3; have q4 : 2 < M (79 + 2 * l) 0 → (0 ≤ w ∧ w < M 32 0) := q4; omega)), rfl, fun _ _ _ => rfl⟩⟩
      · intro h59
        refine n_iload c_116_41 rfl (n_goto c_116_43 (n_istore (L2 := [some (2, 3), some (0, l), some (0, x), some (0, y), some (0, w), some (0, z6), some (0, y), some (0, w)]) c_116_48 rfl rfl (n_aload_n c_116_50 rfl (n_getR c_116_51 sc_3.n rfl rfl rfl r_3_6 (n_iload_n c_116_54 rfl (n_v1I c_116_55 rfl sc_32.n rfl rfl rfl rfl (isUnknownF_3 (u := x) hS (by omega)) ?_))))))
        intro z60 M61 hP62
        obtain ⟨eM, f62, f62p0⟩ := hP62
        subst eM
        refine n_if0_eq c_116_58 (by omega) ?_ ?_
        · intro h63
          refine n_bipush c_116_85 rfl ?_
          exact n_rI c_116_87 rfl ⟨hS, by omega, by omega, by exact Or.inl ⟨Or.inr (Or.inr (fun q => by obtain ⟨⟨q1, q2⟩, q3, q4⟩ := q; have q3 : 1 < M (79 + 2 * l) 0 → (0 ≤ y ∧ y < M 32 0) := q3; have q4 : 2 < M (79 + 2 * l) 0 → (0 ≤ w ∧ w < M 32 0) := q4; omega)), rfl, fun _ _ _ => rfl⟩⟩
        · intro h64
          refine n_aload_n c_116_61 rfl (n_getR c_116_62 sc_3.n rfl rfl rfl r_3_6 (n_iload c_116_65 rfl (n_v1I c_116_67 rfl sc_32.n rfl rfl rfl rfl (isUnknownF_3 (u := y) hS (by omega)) ?_)))
          intro z65 M66 hP67
          obtain ⟨eM, f67, f67p0⟩ := hP67
          subst eM
          refine n_if0_eq c_116_70 (by omega) ?_ ?_
          · intro h68
            refine n_bipush c_116_85 rfl ?_
            exact n_rI c_116_87 rfl ⟨hS, by omega, by omega, by exact Or.inl ⟨Or.inr (Or.inr (fun q => by obtain ⟨⟨q1, q2⟩, q3, q4⟩ := q; have q3 : 1 < M (79 + 2 * l) 0 → (0 ≤ y ∧ y < M 32 0) := q3; have q4 : 2 < M (79 + 2 * l) 0 → (0 ≤ w ∧ w < M 32 0) := q4; omega)), rfl, fun _ _ _ => rfl⟩⟩
          · intro h69
            refine n_aload_n c_116_73 rfl (n_getR c_116_74 sc_3.n rfl rfl rfl r_3_6 (n_iload c_116_77 rfl (n_v1I c_116_79 rfl sc_32.n rfl rfl rfl rfl (isUnknownF_3 (u := w) hS (by omega)) ?_)))
            intro z70 M71 hP72
            obtain ⟨eM, f72, f72p0⟩ := hP72
            subst eM
            refine n_if0_ne c_116_82 (by omega) ?_ ?_
            · intro h73
              refine n_aload_n c_116_88 rfl (n_getR c_116_89 sc_3.n rfl rfl rfl r_3_6 (n_getV (bi := 1) c_116_92 sc_32.n rfl rfl rfl (t_32_1 hS) ?_))
              intro z74 ez74 f75
              refine n_bipush c_116_95 rfl ?_
              refine n_if2_lt c_116_97 (by omega) (by omega) ?_ ?_
              · intro h76
                refine n_aload_n c_116_103 rfl (n_iconst c_116_104 (n_putZM (bi := 18) hS c_116_105 sc_3.n rfl rfl rfl (by omega) rfl (m_3_18 (by omega)) ?_))
                intro M77 eM77 hS77
                have g77_0 : M77 112 0 = M 112 0 := by rw [eM77]; exact nu_a (by omega)
                have g77_1 : M77 32 1 = M 32 1 := by rw [eM77]; exact nu_a (by omega)
                have g77_2 : M77 3 18 = 0 := by rw [eM77]; exact nu_s _ _ _ _
                refine n_aload_n c_116_108 rfl (n_getR c_116_109 sc_3.n rfl rfl rfl r_3_6 (n_iload_n c_116_112 rfl (n_iload_n c_116_113 rfl (n_iload c_116_114 rfl (n_iload c_116_116 rfl (n_v4I c_116_118 rfl sc_32.n rfl rfl rfl rfl (raddX_3 (l := l) (x := x) (y := y) (w := w) (gd := (M77 112 0)) hS77 (by omega) (by omega) (by omega) (by omega) rfl (by omega)) ?_))))))
                intro z78 M79 hP80
                obtain ⟨hS79, f80, f80g0, f80p0⟩ := hP80
                exact n_rI c_116_121 rfl ⟨hS79, by omega, by omega, by have ec : ∀ a i : Int, core a i → M77 a i = M a i := fun a i hc => (by rw [eM77, nu_e, if_neg (by unfold core at hc; omega)]); have e1 := ec 32 1 (by unfold core; omega); obtain ⟨u1, u2, u3⟩ := f80p0; exact Or.inr (Or.inr ⟨by omega, by omega, ⟨⟨by omega, by omega⟩, fun h => ⟨by omega, by omega⟩, fun h => ⟨by omega, by omega⟩⟩, by omega, by omega, by omega, fun a i hc w1 w2 => by rw [u3 a i hc w1 (by omega), ec a i hc]⟩)⟩
              · intro h81
                refine n_bipush c_116_100 rfl ?_
                exact n_rI c_116_102 rfl ⟨hS, by omega, by omega, by exact Or.inr (Or.inl ⟨by omega, by omega, ⟨⟨by omega, by omega⟩, fun h => ⟨by omega, by omega⟩, fun h => ⟨by omega, by omega⟩⟩, by omega, rfl, fun _ _ _ => rfl⟩)⟩
            · intro h82
              refine n_bipush c_116_85 rfl ?_
              exact n_rI c_116_87 rfl ⟨hS, by omega, by omega, by exact Or.inl ⟨Or.inr (Or.inr (fun q => by obtain ⟨⟨q1, q2⟩, q3, q4⟩ := q; have q3 : 1 < M (79 + 2 * l) 0 → (0 ≤ y ∧ y < M 32 0) := q3; have q4 : 2 < M (79 + 2 * l) 0 → (0 ≤ w ∧ w < M 32 0) := q4; omega)), rfl, fun _ _ _ => rfl⟩⟩
  · intro h83
    refine n_bipush c_116_8 rfl ?_
    exact n_rI c_116_10 rfl ⟨hS, by omega, by omega, by exact Or.inl ⟨by omega, rfl, fun _ _ _ => rfl⟩⟩

set_option maxHeartbeats 4000000 in
theorem misUnknownF_3 {xs : List Int32} {e : Nat} {ac : Int} {M0 M : nM} {u : Int} (hS : Sf 3 ac M0 M) (hdm : M0 112 0 = 3) (hu : -2147483648 ≤ u ∧ u ≤ 2147483647) : nW xs e 188 0 [some (2, 112), some (0, u)] [] M (nPI fun z M1 => M = M1 ∧ (0 ≤ z ∧ z ≤ 1) ∧ ((z = 1 ∧ 0 ≤ u ∧ u < M 112 10) ∨ (z = 0 ∧ (u < 0 ∨ M 112 10 ≤ u)))) := by
  have hd : (3 : Int) = 2 ∨ (3 : Int) = 3 := by decide
  have hac := hS.2.2.2.2
  refine n_iload_n c_188_0 rfl ?_
  refine n_if0_lt c_188_1 (by omega) ?_ ?_
  · intro h1
    refine n_iconst c_188_16 ?_
    exact n_rZ c_188_17 rfl (by omega) ⟨rfl, by omega, by omega⟩
  · intro h2
    refine n_iload_n c_188_4 rfl (n_aload_n c_188_5 rfl (n_getV (bi := 10) c_188_6 sc_112.n rfl rfl rfl (t_112_10 hS) ?_))
    intro z3 ez3 f4
    refine n_if2_ge c_188_9 (by omega) (by omega) ?_ ?_
    · intro h5
      refine n_iconst c_188_16 ?_
      exact n_rZ c_188_17 rfl (by omega) ⟨rfl, by omega, by omega⟩
    · intro h6
      refine n_iconst c_188_12 (n_goto c_188_13 ?_)
      exact n_rZ c_188_17 rfl (by omega) ⟨rfl, by omega, by omega⟩

set_option maxHeartbeats 4000000 in
theorem maskX_3 {xs : List Int32} {e : Nat} {ac : Int} {M : nM} {l x y w gd : Int} (hS : Sf 3 ac M M) (hdm : M 112 0 = 3) (hl : -2147483648 ≤ l ∧ l ≤ 2147483647) (hx : -2147483648 ≤ x ∧ x ≤ 2147483647) (hy : -2147483648 ≤ y ∧ y ≤ 2147483647) (hw : -2147483648 ≤ w ∧ w ≤ 2147483647) (hgd : M 112 0 = gd) : nW xs (e + 1) 189 0 [some (2, 112), some (0, l), some (0, x), some (0, y), some (0, w)] [] M (nPI fun z M1 => Sf 3 ac M1 M1 ∧ (-2147483648 ≤ z ∧ z ≤ 2147483647) ∧ (M1 112 0 = gd) ∧ (mAsk l x y w z M M1)) := by
  have hd : (3 : Int) = 2 ∨ (3 : Int) = 3 := by decide
  have hac := hS.2.2.2.2
  refine n_iload_n c_189_0 rfl ?_
  refine n_if0_lt c_189_1 (by omega) ?_ ?_
  · intro h1
    refine n_bipush c_189_57 rfl ?_
    exact n_rI c_189_59 rfl ⟨hS, by omega, by omega, by first | exact Or.inl ⟨by omega, rfl, fun _ _ _ => rfl⟩ | exact Or.inl ⟨Or.inr (Or.inr (fun q => by obtain ⟨⟨q1, q2⟩, q3, q4⟩ := q; have q3 : 1 < M 118 l → (0 ≤ y ∧ y < M 112 10) := q3; have q4 : 2 < M 118 l → (0 ≤ w ∧ w < M 112 10) := q4; omega)), rfl, fun _ _ _ => rfl⟩⟩
  · intro h2
    refine n_iload_n c_189_4 rfl (n_aload_n c_189_5 rfl (n_getV (bi := 7) c_189_6 sc_112.n rfl rfl rfl (t_112_7 hS) ?_))
    intro z3 ez3 f4
    refine n_if2_ge c_189_9 (by omega) (by omega) ?_ ?_
    · intro h5
      refine n_bipush c_189_57 rfl ?_
      exact n_rI c_189_59 rfl ⟨hS, by omega, by omega, by first | exact Or.inl ⟨by omega, rfl, fun _ _ _ => rfl⟩ | exact Or.inl ⟨Or.inr (Or.inr (fun q => by obtain ⟨⟨q1, q2⟩, q3, q4⟩ := q; have q3 : 1 < M 118 l → (0 ≤ y ∧ y < M 112 10) := q3; have q4 : 2 < M 118 l → (0 ≤ w ∧ w < M 112 10) := q4; omega)), rfl, fun _ _ _ => rfl⟩⟩
    · intro h6
      refine n_aload_n c_189_12 rfl (n_iload_n c_189_13 rfl (n_v1I c_189_14 rfl sc_112.n rfl rfl rfl rfl (misUnknownF_3 (u := x) hS (by omega) (by omega)) ?_))
      intro z7 M8 hP9
      obtain ⟨eM, f9, f9p0⟩ := hP9
      subst eM
      refine n_if0_eq c_189_17 (by omega) ?_ ?_
      · intro h10
        refine n_bipush c_189_57 rfl ?_
        exact n_rI c_189_59 rfl ⟨hS, by omega, by omega, by first | exact Or.inl ⟨by omega, rfl, fun _ _ _ => rfl⟩ | exact Or.inl ⟨Or.inr (Or.inr (fun q => by obtain ⟨⟨q1, q2⟩, q3, q4⟩ := q; have q3 : 1 < M 118 l → (0 ≤ y ∧ y < M 112 10) := q3; have q4 : 2 < M 118 l → (0 ≤ w ∧ w < M 112 10) := q4; omega)), rfl, fun _ _ _ => rfl⟩⟩
      · intro h11
        refine n_aload_n c_189_20 rfl (n_getR c_189_21 sc_112.n rfl rfl rfl r_112_8 (n_iload_n c_189_24 rfl (n_ialoadV c_189_25 sc_118.n rfl rfl rfl (by omega) (t_118 hS (by omega)) ?_)))
        intro z12 ez12 f13
        refine n_iconst c_189_26 ?_
        refine n_if2_le c_189_27 (by omega) (by omega) ?_ ?_
        · intro h14
          refine n_aload_n c_189_38 rfl (n_getR c_189_39 sc_112.n rfl rfl rfl r_112_8 (n_iload_n c_189_42 rfl (n_ialoadV c_189_43 sc_118.n rfl rfl rfl (by omega) (t_118 hS (by omega)) ?_)))
          intro z15 ez15 f16
          refine n_iconst c_189_44 ?_
          refine n_if2_le c_189_45 (by omega) (by omega) ?_ ?_
          · intro h17
            refine n_aload_n c_189_60 rfl (n_getV (bi := 11) c_189_61 sc_112.n rfl rfl rfl (t_112_11 hS) ?_)
            intro z18 ez18 f19
            refine n_bipush c_189_64 rfl ?_
            refine n_if2_ne c_189_66 (by omega) (by omega) ?_ ?_
            · intro h20
              refine n_aload_n c_189_72 rfl (n_getR c_189_73 sc_112.n rfl rfl rfl r_112_12 (n_aload_n c_189_76 rfl (n_getV (bi := 11) c_189_77 sc_112.n rfl rfl rfl (t_112_11 hS) ?_)))
              intro z21 ez21 f22
              obtain rfl : z18 = z21 := by omega
              refine n_iload_n c_189_80 rfl (n_iastoreG c_189_81 sc_120.n rfl (by omega) (hS.w120 (by omega) (by omega)) ?_)
              intro M23 eM23 hS23
              have g23_0 : M23 112 0 = M 112 0 := by rw [eM23]; exact nu_a (by omega)
              have g23_1 : M23 112 11 = M 112 11 := by rw [eM23]; exact nu_a (by omega)
              have g23_2 : M23 112 7 = M 112 7 := by rw [eM23]; exact nu_a (by omega)
              have g23_3 : M23 112 10 = M 112 10 := by rw [eM23]; exact nu_a (by omega)
              have g23_4 : M23 118 l = M 118 l := by rw [eM23]; exact nu_a (by omega)
              have g23_5 : M23 120 z18 = l := by rw [eM23]; exact nu_s _ _ _ _
              refine n_aload_n c_189_82 rfl (n_getR c_189_83 sc_112.n rfl rfl rfl r_112_13 (n_iconst c_189_86 (n_aload_n c_189_87 rfl (n_getV (bi := 11) c_189_88 sc_112.n rfl rfl rfl (t_112_11 hS23) ?_))))
              intro z24 ez24 f25
              obtain rfl : z18 = z24 := by omega
              refine n_imul c_189_91 rfl (n_iload_n c_189_92 rfl (n_iastoreG c_189_93 sc_121.n rfl (by omega) (hS23.w121 (by omega) (by omega)) ?_))
              intro M26 eM26 hS26
              have g26_0 : M26 112 0 = M23 112 0 := by rw [eM26]; exact nu_a (by omega)
              have g26_1 : M26 112 11 = M23 112 11 := by rw [eM26]; exact nu_a (by omega)
              have g26_2 : M26 112 7 = M23 112 7 := by rw [eM26]; exact nu_a (by omega)
              have g26_3 : M26 112 10 = M23 112 10 := by rw [eM26]; exact nu_a (by omega)
              have g26_4 : M26 118 l = M23 118 l := by rw [eM26]; exact nu_a (by omega)
              have g26_5 : M26 120 z18 = M23 120 z18 := by rw [eM26]; exact nu_a (by omega)
              have g26_6 : M26 121 (3 * z18) = x := by rw [eM26]; exact nu_s _ _ _ _
              refine n_aload_n c_189_94 rfl (n_getR c_189_95 sc_112.n rfl rfl rfl r_112_13 (n_iconst c_189_98 (n_aload_n c_189_99 rfl (n_getV (bi := 11) c_189_100 sc_112.n rfl rfl rfl (t_112_11 hS26) ?_))))
              intro z27 ez27 f28
              obtain rfl : z18 = z27 := by omega
              refine n_imul c_189_103 rfl (n_iconst c_189_104 (n_iadd c_189_105 rfl (n_iload_n c_189_106 rfl (n_iastoreG c_189_107 sc_121.n rfl (by omega) (hS26.w121 (by omega) (by omega)) ?_))))
              intro M29 eM29 hS29
              have g29_0 : M29 112 0 = M26 112 0 := by rw [eM29]; exact nu_a (by omega)
              have g29_1 : M29 112 11 = M26 112 11 := by rw [eM29]; exact nu_a (by omega)
              have g29_2 : M29 112 7 = M26 112 7 := by rw [eM29]; exact nu_a (by omega)
              have g29_3 : M29 112 10 = M26 112 10 := by rw [eM29]; exact nu_a (by omega)
              have g29_4 : M29 118 l = M26 118 l := by rw [eM29]; exact nu_a (by omega)
              have g29_5 : M29 120 z18 = M26 120 z18 := by rw [eM29]; exact nu_a (by omega)
              have g29_6 : M29 121 (3 * z18) = M26 121 (3 * z18) := by rw [eM29]; exact nu_i (by omega)
              have g29_7 : M29 121 ((3 * z18) + 1) = y := by rw [eM29]; exact nu_s _ _ _ _
              refine n_aload_n c_189_108 rfl (n_getR c_189_109 sc_112.n rfl rfl rfl r_112_13 (n_iconst c_189_112 (n_aload_n c_189_113 rfl (n_getV (bi := 11) c_189_114 sc_112.n rfl rfl rfl (t_112_11 hS29) ?_))))
              intro z30 ez30 f31
              obtain rfl : z18 = z30 := by omega
              refine n_imul c_189_117 rfl (n_iconst c_189_118 (n_iadd c_189_119 rfl (n_iload c_189_120 rfl (n_iastoreG c_189_122 sc_121.n rfl (by omega) (hS29.w121 (by omega) (by omega)) ?_))))
              intro M32 eM32 hS32
              have g32_0 : M32 112 0 = M29 112 0 := by rw [eM32]; exact nu_a (by omega)
              have g32_1 : M32 112 11 = M29 112 11 := by rw [eM32]; exact nu_a (by omega)
              have g32_2 : M32 112 7 = M29 112 7 := by rw [eM32]; exact nu_a (by omega)
              have g32_3 : M32 112 10 = M29 112 10 := by rw [eM32]; exact nu_a (by omega)
              have g32_4 : M32 118 l = M29 118 l := by rw [eM32]; exact nu_a (by omega)
              have g32_5 : M32 120 z18 = M29 120 z18 := by rw [eM32]; exact nu_a (by omega)
              have g32_6 : M32 121 (3 * z18) = M29 121 (3 * z18) := by rw [eM32]; exact nu_i (by omega)
              have g32_7 : M32 121 ((3 * z18) + 1) = M29 121 ((3 * z18) + 1) := by rw [eM32]; exact nu_i (by omega)
              have g32_8 : M32 121 ((3 * z18) + 2) = w := by rw [eM32]; exact nu_s _ _ _ _
              refine n_aload_n c_189_123 rfl (n_dup2 c_189_124 (n_getV (bi := 11) c_189_125 sc_112.n rfl rfl rfl (t_112_11 hS32) ?_))
              intro z33 ez33 f34
              obtain rfl : z18 = z33 := by omega
              refine n_iconst c_189_128 (n_iadd c_189_129 rfl ?_)
              refine n_putG (P := fun M2 => Sf 3 ac M2 M2) (bi := 11) c_189_130 sc_112.n rfl rfl rfl rfl (hS32.w112_11 (q := z18) (l := l) (by omega) (by omega) (by omega) (by omega) (fun j b1 b2 => by
                have t118 := t_118 hS32 (i := l) (by omega)
                rcases (show j = 0 ∨ j = 1 ∨ j = 2 by omega) with rfl | rfl | rfl
                · rw [show 3 * z18 + 0 = 3 * z18 by omega]; omega
                · omega
                · omega)) ?_
              intro M35 eM35 hS35
              have hgz : M35 112 0 = M32 112 0 := by rw [eM35]; exact nu_i (by omega)
              have hgy : M35 112 11 = (z18 + 1) := by rw [eM35]; exact nu_s _ _ _ _
              refine n_aload_n c_189_133 rfl (n_getV (bi := 11) c_189_134 sc_112.n rfl rfl rfl (t_112_11 hS35) ?_)
              intro z36 ez36 f37
              refine n_iconst c_189_137 (n_isub c_189_138 rfl ?_)
              exact n_rI c_189_139 rfl ⟨hS35, by omega, by omega, by exact Or.inr (Or.inr ⟨by omega, by omega, ⟨⟨by omega, by omega⟩, fun h => ⟨by omega, by omega⟩, fun h => ⟨by omega, by omega⟩⟩, by omega, by omega, by rw [eM35, nu_s]; omega, fun a i hc w1 w2 w3 => by rw [eM35, nu_e, if_neg (by omega), eM32, nu_e, if_neg (by omega), eM29, nu_e, if_neg (by omega), eM26, nu_e, if_neg (by omega), eM23, nu_e, if_neg (by omega)]⟩)⟩
            · intro h38
              refine n_bipush c_189_69 rfl ?_
              exact n_rI c_189_71 rfl ⟨hS, by omega, by omega, by exact Or.inr (Or.inl ⟨by omega, by omega, ⟨⟨by omega, by omega⟩, fun h => ⟨by omega, by omega⟩, fun h => ⟨by omega, by omega⟩⟩, by omega, rfl, fun _ _ _ => rfl⟩)⟩
          · intro h39
            exfalso; omega
        · intro h40
          refine n_aload_n c_189_30 rfl (n_iload_n c_189_31 rfl (n_v1I c_189_32 rfl sc_112.n rfl rfl rfl rfl (misUnknownF_3 (u := y) hS (by omega) (by omega)) ?_))
          intro z41 M42 hP43
          obtain ⟨eM, f43, f43p0⟩ := hP43
          subst eM
          refine n_if0_eq c_189_35 (by omega) ?_ ?_
          · intro h44
            refine n_bipush c_189_57 rfl ?_
            exact n_rI c_189_59 rfl ⟨hS, by omega, by omega, by first | exact Or.inl ⟨by omega, rfl, fun _ _ _ => rfl⟩ | exact Or.inl ⟨Or.inr (Or.inr (fun q => by obtain ⟨⟨q1, q2⟩, q3, q4⟩ := q; have q3 : 1 < M 118 l → (0 ≤ y ∧ y < M 112 10) := q3; have q4 : 2 < M 118 l → (0 ≤ w ∧ w < M 112 10) := q4; omega)), rfl, fun _ _ _ => rfl⟩⟩
          · intro h45
            refine n_aload_n c_189_38 rfl (n_getR c_189_39 sc_112.n rfl rfl rfl r_112_8 (n_iload_n c_189_42 rfl (n_ialoadV c_189_43 sc_118.n rfl rfl rfl (by omega) (t_118 hS (by omega)) ?_)))
            intro z46 ez46 f47
            refine n_iconst c_189_44 ?_
            refine n_if2_le c_189_45 (by omega) (by omega) ?_ ?_
            · intro h48
              refine n_aload_n c_189_60 rfl (n_getV (bi := 11) c_189_61 sc_112.n rfl rfl rfl (t_112_11 hS) ?_)
              intro z49 ez49 f50
              refine n_bipush c_189_64 rfl ?_
              refine n_if2_ne c_189_66 (by omega) (by omega) ?_ ?_
              · intro h51
                refine n_aload_n c_189_72 rfl (n_getR c_189_73 sc_112.n rfl rfl rfl r_112_12 (n_aload_n c_189_76 rfl (n_getV (bi := 11) c_189_77 sc_112.n rfl rfl rfl (t_112_11 hS) ?_)))
                intro z52 ez52 f53
                obtain rfl : z49 = z52 := by omega
                refine n_iload_n c_189_80 rfl (n_iastoreG c_189_81 sc_120.n rfl (by omega) (hS.w120 (by omega) (by omega)) ?_)
                intro M54 eM54 hS54
                have g54_0 : M54 112 0 = M 112 0 := by rw [eM54]; exact nu_a (by omega)
                have g54_1 : M54 112 11 = M 112 11 := by rw [eM54]; exact nu_a (by omega)
                have g54_2 : M54 112 7 = M 112 7 := by rw [eM54]; exact nu_a (by omega)
                have g54_3 : M54 112 10 = M 112 10 := by rw [eM54]; exact nu_a (by omega)
                have g54_4 : M54 118 l = M 118 l := by rw [eM54]; exact nu_a (by omega)
                have g54_5 : M54 120 z49 = l := by rw [eM54]; exact nu_s _ _ _ _
                refine n_aload_n c_189_82 rfl (n_getR c_189_83 sc_112.n rfl rfl rfl r_112_13 (n_iconst c_189_86 (n_aload_n c_189_87 rfl (n_getV (bi := 11) c_189_88 sc_112.n rfl rfl rfl (t_112_11 hS54) ?_))))
                intro z55 ez55 f56
                obtain rfl : z49 = z55 := by omega
                refine n_imul c_189_91 rfl (n_iload_n c_189_92 rfl (n_iastoreG c_189_93 sc_121.n rfl (by omega) (hS54.w121 (by omega) (by omega)) ?_))
                intro M57 eM57 hS57
                have g57_0 : M57 112 0 = M54 112 0 := by rw [eM57]; exact nu_a (by omega)
                have g57_1 : M57 112 11 = M54 112 11 := by rw [eM57]; exact nu_a (by omega)
                have g57_2 : M57 112 7 = M54 112 7 := by rw [eM57]; exact nu_a (by omega)
                have g57_3 : M57 112 10 = M54 112 10 := by rw [eM57]; exact nu_a (by omega)
                have g57_4 : M57 118 l = M54 118 l := by rw [eM57]; exact nu_a (by omega)
                have g57_5 : M57 120 z49 = M54 120 z49 := by rw [eM57]; exact nu_a (by omega)
                have g57_6 : M57 121 (3 * z49) = x := by rw [eM57]; exact nu_s _ _ _ _
                refine n_aload_n c_189_94 rfl (n_getR c_189_95 sc_112.n rfl rfl rfl r_112_13 (n_iconst c_189_98 (n_aload_n c_189_99 rfl (n_getV (bi := 11) c_189_100 sc_112.n rfl rfl rfl (t_112_11 hS57) ?_))))
                intro z58 ez58 f59
                obtain rfl : z49 = z58 := by omega
                refine n_imul c_189_103 rfl (n_iconst c_189_104 (n_iadd c_189_105 rfl (n_iload_n c_189_106 rfl (n_iastoreG c_189_107 sc_121.n rfl (by omega) (hS57.w121 (by omega) (by omega)) ?_))))
                intro M60 eM60 hS60
                have g60_0 : M60 112 0 = M57 112 0 := by rw [eM60]; exact nu_a (by omega)
                have g60_1 : M60 112 11 = M57 112 11 := by rw [eM60]; exact nu_a (by omega)
                have g60_2 : M60 112 7 = M57 112 7 := by rw [eM60]; exact nu_a (by omega)
                have g60_3 : M60 112 10 = M57 112 10 := by rw [eM60]; exact nu_a (by omega)
                have g60_4 : M60 118 l = M57 118 l := by rw [eM60]; exact nu_a (by omega)
                have g60_5 : M60 120 z49 = M57 120 z49 := by rw [eM60]; exact nu_a (by omega)
                have g60_6 : M60 121 (3 * z49) = M57 121 (3 * z49) := by rw [eM60]; exact nu_i (by omega)
                have g60_7 : M60 121 ((3 * z49) + 1) = y := by rw [eM60]; exact nu_s _ _ _ _
                refine n_aload_n c_189_108 rfl (n_getR c_189_109 sc_112.n rfl rfl rfl r_112_13 (n_iconst c_189_112 (n_aload_n c_189_113 rfl (n_getV (bi := 11) c_189_114 sc_112.n rfl rfl rfl (t_112_11 hS60) ?_))))
                intro z61 ez61 f62
                obtain rfl : z49 = z61 := by omega
                refine n_imul c_189_117 rfl (n_iconst c_189_118 (n_iadd c_189_119 rfl (n_iload c_189_120 rfl (n_iastoreG c_189_122 sc_121.n rfl (by omega) (hS60.w121 (by omega) (by omega)) ?_))))
                intro M63 eM63 hS63
                have g63_0 : M63 112 0 = M60 112 0 := by rw [eM63]; exact nu_a (by omega)
                have g63_1 : M63 112 11 = M60 112 11 := by rw [eM63]; exact nu_a (by omega)
                have g63_2 : M63 112 7 = M60 112 7 := by rw [eM63]; exact nu_a (by omega)
                have g63_3 : M63 112 10 = M60 112 10 := by rw [eM63]; exact nu_a (by omega)
                have g63_4 : M63 118 l = M60 118 l := by rw [eM63]; exact nu_a (by omega)
                have g63_5 : M63 120 z49 = M60 120 z49 := by rw [eM63]; exact nu_a (by omega)
                have g63_6 : M63 121 (3 * z49) = M60 121 (3 * z49) := by rw [eM63]; exact nu_i (by omega)
                have g63_7 : M63 121 ((3 * z49) + 1) = M60 121 ((3 * z49) + 1) := by rw [eM63]; exact nu_i (by omega)
                have g63_8 : M63 121 ((3 * z49) + 2) = w := by rw [eM63]; exact nu_s _ _ _ _
                refine n_aload_n c_189_123 rfl (n_dup2 c_189_124 (n_getV (bi := 11) c_189_125 sc_112.n rfl rfl rfl (t_112_11 hS63) ?_))
                intro z64 ez64 f65
                obtain rfl : z49 = z64 := by omega
                refine n_iconst c_189_128 (n_iadd c_189_129 rfl ?_)
                refine n_putG (P := fun M2 => Sf 3 ac M2 M2) (bi := 11) c_189_130 sc_112.n rfl rfl rfl rfl (hS63.w112_11 (q := z49) (l := l) (by omega) (by omega) (by omega) (by omega) (fun j b1 b2 => by
                  have t118 := t_118 hS63 (i := l) (by omega)
                  rcases (show j = 0 ∨ j = 1 ∨ j = 2 by omega) with rfl | rfl | rfl
                  · rw [show 3 * z49 + 0 = 3 * z49 by omega]; omega
                  · omega
                  · omega)) ?_
                intro M66 eM66 hS66
                have hgz : M66 112 0 = M63 112 0 := by rw [eM66]; exact nu_i (by omega)
                have hgy : M66 112 11 = (z49 + 1) := by rw [eM66]; exact nu_s _ _ _ _
                refine n_aload_n c_189_133 rfl (n_getV (bi := 11) c_189_134 sc_112.n rfl rfl rfl (t_112_11 hS66) ?_)
                intro z67 ez67 f68
                refine n_iconst c_189_137 (n_isub c_189_138 rfl ?_)
                exact n_rI c_189_139 rfl ⟨hS66, by omega, by omega, by exact Or.inr (Or.inr ⟨by omega, by omega, ⟨⟨by omega, by omega⟩, fun h => ⟨by omega, by omega⟩, fun h => ⟨by omega, by omega⟩⟩, by omega, by omega, by rw [eM66, nu_s]; omega, fun a i hc w1 w2 w3 => by rw [eM66, nu_e, if_neg (by omega), eM63, nu_e, if_neg (by omega), eM60, nu_e, if_neg (by omega), eM57, nu_e, if_neg (by omega), eM54, nu_e, if_neg (by omega)]⟩)⟩
              · intro h69
                refine n_bipush c_189_69 rfl ?_
                exact n_rI c_189_71 rfl ⟨hS, by omega, by omega, by exact Or.inr (Or.inl ⟨by omega, by omega, ⟨⟨by omega, by omega⟩, fun h => ⟨by omega, by omega⟩, fun h => ⟨by omega, by omega⟩⟩, by omega, rfl, fun _ _ _ => rfl⟩)⟩
            · intro h70
              refine n_aload_n c_189_48 rfl (n_iload c_189_49 rfl (n_v1I c_189_51 rfl sc_112.n rfl rfl rfl rfl (misUnknownF_3 (u := w) hS (by omega) (by omega)) ?_))
              intro z71 M72 hP73
              obtain ⟨eM, f73, f73p0⟩ := hP73
              subst eM
              refine n_if0_ne c_189_54 (by omega) ?_ ?_
              · intro h74
                refine n_aload_n c_189_60 rfl (n_getV (bi := 11) c_189_61 sc_112.n rfl rfl rfl (t_112_11 hS) ?_)
                intro z75 ez75 f76
                refine n_bipush c_189_64 rfl ?_
                refine n_if2_ne c_189_66 (by omega) (by omega) ?_ ?_
                · intro h77
                  refine n_aload_n c_189_72 rfl (n_getR c_189_73 sc_112.n rfl rfl rfl r_112_12 (n_aload_n c_189_76 rfl (n_getV (bi := 11) c_189_77 sc_112.n rfl rfl rfl (t_112_11 hS) ?_)))
                  intro z78 ez78 f79
                  obtain rfl : z75 = z78 := by omega
                  refine n_iload_n c_189_80 rfl (n_iastoreG c_189_81 sc_120.n rfl (by omega) (hS.w120 (by omega) (by omega)) ?_)
                  intro M80 eM80 hS80
                  have g80_0 : M80 112 0 = M 112 0 := by rw [eM80]; exact nu_a (by omega)
                  have g80_1 : M80 112 11 = M 112 11 := by rw [eM80]; exact nu_a (by omega)
                  have g80_2 : M80 112 7 = M 112 7 := by rw [eM80]; exact nu_a (by omega)
                  have g80_3 : M80 112 10 = M 112 10 := by rw [eM80]; exact nu_a (by omega)
                  have g80_4 : M80 118 l = M 118 l := by rw [eM80]; exact nu_a (by omega)
                  have g80_5 : M80 120 z75 = l := by rw [eM80]; exact nu_s _ _ _ _
                  refine n_aload_n c_189_82 rfl (n_getR c_189_83 sc_112.n rfl rfl rfl r_112_13 (n_iconst c_189_86 (n_aload_n c_189_87 rfl (n_getV (bi := 11) c_189_88 sc_112.n rfl rfl rfl (t_112_11 hS80) ?_))))
                  intro z81 ez81 f82
                  obtain rfl : z75 = z81 := by omega
                  refine n_imul c_189_91 rfl (n_iload_n c_189_92 rfl (n_iastoreG c_189_93 sc_121.n rfl (by omega) (hS80.w121 (by omega) (by omega)) ?_))
                  intro M83 eM83 hS83
                  have g83_0 : M83 112 0 = M80 112 0 := by rw [eM83]; exact nu_a (by omega)
                  have g83_1 : M83 112 11 = M80 112 11 := by rw [eM83]; exact nu_a (by omega)
                  have g83_2 : M83 112 7 = M80 112 7 := by rw [eM83]; exact nu_a (by omega)
                  have g83_3 : M83 112 10 = M80 112 10 := by rw [eM83]; exact nu_a (by omega)
                  have g83_4 : M83 118 l = M80 118 l := by rw [eM83]; exact nu_a (by omega)
                  have g83_5 : M83 120 z75 = M80 120 z75 := by rw [eM83]; exact nu_a (by omega)
                  have g83_6 : M83 121 (3 * z75) = x := by rw [eM83]; exact nu_s _ _ _ _
                  refine n_aload_n c_189_94 rfl (n_getR c_189_95 sc_112.n rfl rfl rfl r_112_13 (n_iconst c_189_98 (n_aload_n c_189_99 rfl (n_getV (bi := 11) c_189_100 sc_112.n rfl rfl rfl (t_112_11 hS83) ?_))))
                  intro z84 ez84 f85
                  obtain rfl : z75 = z84 := by omega
                  refine n_imul c_189_103 rfl (n_iconst c_189_104 (n_iadd c_189_105 rfl (n_iload_n c_189_106 rfl (n_iastoreG c_189_107 sc_121.n rfl (by omega) (hS83.w121 (by omega) (by omega)) ?_))))
                  intro M86 eM86 hS86
                  have g86_0 : M86 112 0 = M83 112 0 := by rw [eM86]; exact nu_a (by omega)
                  have g86_1 : M86 112 11 = M83 112 11 := by rw [eM86]; exact nu_a (by omega)
                  have g86_2 : M86 112 7 = M83 112 7 := by rw [eM86]; exact nu_a (by omega)
                  have g86_3 : M86 112 10 = M83 112 10 := by rw [eM86]; exact nu_a (by omega)
                  have g86_4 : M86 118 l = M83 118 l := by rw [eM86]; exact nu_a (by omega)
                  have g86_5 : M86 120 z75 = M83 120 z75 := by rw [eM86]; exact nu_a (by omega)
                  have g86_6 : M86 121 (3 * z75) = M83 121 (3 * z75) := by rw [eM86]; exact nu_i (by omega)
                  have g86_7 : M86 121 ((3 * z75) + 1) = y := by rw [eM86]; exact nu_s _ _ _ _
                  refine n_aload_n c_189_108 rfl (n_getR c_189_109 sc_112.n rfl rfl rfl r_112_13 (n_iconst c_189_112 (n_aload_n c_189_113 rfl (n_getV (bi := 11) c_189_114 sc_112.n rfl rfl rfl (t_112_11 hS86) ?_))))
                  intro z87 ez87 f88
                  obtain rfl : z75 = z87 := by omega
                  refine n_imul c_189_117 rfl (n_iconst c_189_118 (n_iadd c_189_119 rfl (n_iload c_189_120 rfl (n_iastoreG c_189_122 sc_121.n rfl (by omega) (hS86.w121 (by omega) (by omega)) ?_))))
                  intro M89 eM89 hS89
                  have g89_0 : M89 112 0 = M86 112 0 := by rw [eM89]; exact nu_a (by omega)
                  have g89_1 : M89 112 11 = M86 112 11 := by rw [eM89]; exact nu_a (by omega)
                  have g89_2 : M89 112 7 = M86 112 7 := by rw [eM89]; exact nu_a (by omega)
                  have g89_3 : M89 112 10 = M86 112 10 := by rw [eM89]; exact nu_a (by omega)
                  have g89_4 : M89 118 l = M86 118 l := by rw [eM89]; exact nu_a (by omega)
                  have g89_5 : M89 120 z75 = M86 120 z75 := by rw [eM89]; exact nu_a (by omega)
                  have g89_6 : M89 121 (3 * z75) = M86 121 (3 * z75) := by rw [eM89]; exact nu_i (by omega)
                  have g89_7 : M89 121 ((3 * z75) + 1) = M86 121 ((3 * z75) + 1) := by rw [eM89]; exact nu_i (by omega)
                  have g89_8 : M89 121 ((3 * z75) + 2) = w := by rw [eM89]; exact nu_s _ _ _ _
                  refine n_aload_n c_189_123 rfl (n_dup2 c_189_124 (n_getV (bi := 11) c_189_125 sc_112.n rfl rfl rfl (t_112_11 hS89) ?_))
                  intro z90 ez90 f91
                  obtain rfl : z75 = z90 := by omega
                  refine n_iconst c_189_128 (n_iadd c_189_129 rfl ?_)
                  refine n_putG (P := fun M2 => Sf 3 ac M2 M2) (bi := 11) c_189_130 sc_112.n rfl rfl rfl rfl (hS89.w112_11 (q := z75) (l := l) (by omega) (by omega) (by omega) (by omega) (fun j b1 b2 => by
                    have t118 := t_118 hS89 (i := l) (by omega)
                    rcases (show j = 0 ∨ j = 1 ∨ j = 2 by omega) with rfl | rfl | rfl
                    · rw [show 3 * z75 + 0 = 3 * z75 by omega]; omega
                    · omega
                    · omega)) ?_
                  intro M92 eM92 hS92
                  have hgz : M92 112 0 = M89 112 0 := by rw [eM92]; exact nu_i (by omega)
                  have hgy : M92 112 11 = (z75 + 1) := by rw [eM92]; exact nu_s _ _ _ _
                  refine n_aload_n c_189_133 rfl (n_getV (bi := 11) c_189_134 sc_112.n rfl rfl rfl (t_112_11 hS92) ?_)
                  intro z93 ez93 f94
                  refine n_iconst c_189_137 (n_isub c_189_138 rfl ?_)
                  exact n_rI c_189_139 rfl ⟨hS92, by omega, by omega, by exact Or.inr (Or.inr ⟨by omega, by omega, ⟨⟨by omega, by omega⟩, fun h => ⟨by omega, by omega⟩, fun h => ⟨by omega, by omega⟩⟩, by omega, by omega, by rw [eM92, nu_s]; omega, fun a i hc w1 w2 w3 => by rw [eM92, nu_e, if_neg (by omega), eM89, nu_e, if_neg (by omega), eM86, nu_e, if_neg (by omega), eM83, nu_e, if_neg (by omega), eM80, nu_e, if_neg (by omega)]⟩)⟩
                · intro h95
                  refine n_bipush c_189_69 rfl ?_
                  exact n_rI c_189_71 rfl ⟨hS, by omega, by omega, by exact Or.inr (Or.inl ⟨by omega, by omega, ⟨⟨by omega, by omega⟩, fun h => ⟨by omega, by omega⟩, fun h => ⟨by omega, by omega⟩⟩, by omega, rfl, fun _ _ _ => rfl⟩)⟩
              · intro h96
                refine n_bipush c_189_57 rfl ?_
                exact n_rI c_189_59 rfl ⟨hS, by omega, by omega, by first | exact Or.inl ⟨by omega, rfl, fun _ _ _ => rfl⟩ | exact Or.inl ⟨Or.inr (Or.inr (fun q => by obtain ⟨⟨q1, q2⟩, q3, q4⟩ := q; have q3 : 1 < M 118 l → (0 ≤ y ∧ y < M 112 10) := q3; have q4 : 2 < M 118 l → (0 ≤ w ∧ w < M 112 10) := q4; omega)), rfl, fun _ _ _ => rfl⟩⟩

set_option maxHeartbeats 4000000 in
theorem isActF_3 {xs : List Int32} {e : Nat} {ac : Int} {M0 M : nM} {a : Int} (hS : Sf 3 ac M0 M) (ha : -2147483648 ≤ a ∧ a ≤ 2147483647) : nW xs e 125 0 [some (2, 3), some (0, a)] [] M (nPI fun z M1 => M = M1 ∧ (0 ≤ z ∧ z ≤ 1) ∧ ((z = 1 ∧ 0 ≤ a ∧ a < ac) ∨ (z = 0 ∧ (a < 0 ∨ ac ≤ a)))) := by
  have hd : (3 : Int) = 2 ∨ (3 : Int) = 3 := by decide
  have hac := hS.2.2.2.2
  refine n_iload_n c_125_0 rfl ?_
  refine n_if0_lt c_125_1 (by omega) ?_ ?_
  · intro h1
    refine n_iconst c_125_16 ?_
    exact n_rZ c_125_17 rfl (by omega) ⟨rfl, by omega, by omega⟩
  · intro h2
    refine n_iload_n c_125_4 rfl (n_aload_n c_125_5 rfl (n_getV (bi := 14) c_125_6 sc_3.n rfl rfl rfl (t_3_14x hS) ?_))
    intro z3 ez3 f4
    have f4a := t_ac hS
    refine n_if2_ge c_125_9 (by omega) (by omega) ?_ ?_
    · intro h5
      refine n_iconst c_125_16 ?_
      exact n_rZ c_125_17 rfl (by omega) ⟨rfl, by omega, by omega⟩
    · intro h6
      refine n_iconst c_125_12 (n_goto c_125_13 ?_)
      exact n_rZ c_125_17 rfl (by omega) ⟨rfl, by omega, by omega⟩

set_option maxHeartbeats 4000000 in
theorem atX_3 {xs : List Int32} {e : Nat} {ac : Int} {M0 M : nM} {a r : Int} (hS : Sf 3 ac M0 M) (ha : -2147483648 ≤ a ∧ a ≤ 2147483647) (hr : -2147483648 ≤ r ∧ r ≤ 2147483647) : nW xs (e + 1) 99 0 [some (2, 3), some (0, a), some (0, r)] [] M (nPI fun z M1 => M = M1 ∧ (-2147483648 ≤ z ∧ z ≤ 2147483647) ∧ (cAt a r z M)) := by
  have hd : (3 : Int) = 2 ∨ (3 : Int) = 3 := by decide
  have hac := hS.2.2.2.2
  refine n_aload_n c_99_0 rfl (n_iload_n c_99_1 rfl (n_v1I c_99_2 rfl sc_3.n rfl rfl rfl rfl (isActF_3 (a := a) hS (by omega)) ?_))
  intro z1 M2 hP3
  obtain ⟨eM, f3, f3p0⟩ := hP3
  subst eM
  refine n_if0_eq c_99_5 (by omega) ?_ ?_
  · intro h4
    refine n_iconst c_99_25 ?_
    exact n_rI c_99_26 rfl ⟨rfl, by omega, by have t14 := t_ac hS; exact Or.inl ⟨by omega, rfl⟩⟩
  · intro h5
    refine n_iload_n c_99_8 rfl ?_
    refine n_if0_lt c_99_9 (by omega) ?_ ?_
    · intro h6
      refine n_iconst c_99_25 ?_
      exact n_rI c_99_26 rfl ⟨rfl, by omega, by have t14 := t_ac hS; exact Or.inl ⟨by omega, rfl⟩⟩
    · intro h7
      refine n_iload_n c_99_12 rfl (n_aload_n c_99_13 rfl (n_getR c_99_14 sc_3.n rfl rfl rfl r_3_2 (n_iload_n c_99_17 rfl (n_aaload c_99_18 sc_12.n rfl rfl rfl (by omega) (r_acts _) ?_))))
      have q8 : ActAt (55 + 3 * a) := by unfold ActAt; omega
      have q8l : (55 + 3 * a) < 55 + 3 * ac := by omega
      refine n_getV (bi := 1) c_99_19 q8.c0.1.n rfl rfl rfl (t_actl hS q8 q8l).2 ?_
      intro z9 ez9 f10
      refine n_if2_lt c_99_22 (by omega) (by omega) ?_ ?_
      · intro h11
        refine n_aload_n c_99_27 rfl (n_getR c_99_28 sc_3.n rfl rfl rfl r_3_2 (n_iload_n c_99_31 rfl (n_aaload c_99_32 sc_12.n rfl rfl rfl (by omega) (r_acts _) ?_)))
        have q12 : ActAt (55 + 3 * a) := by unfold ActAt; omega
        have q12l : (55 + 3 * a) < 55 + 3 * ac := by omega
        refine n_getR c_99_33 q12.c0.1.n rfl rfl rfl q12.r.1 (n_iload_n c_99_36 rfl (n_ialoadV c_99_37 q12.c0.2.1.n rfl rfl rfl (by omega) (t_actrl hS q12 q12l (Or.inl rfl) (by omega) (by omega)) ?_))
        intro z13 ez13 f14
        exact n_rI c_99_38 rfl ⟨rfl, by omega, by have t14 := t_ac hS; exact Or.inr ⟨by omega, by omega, by omega, by omega, by omega⟩⟩
      · intro h15
        refine n_iconst c_99_25 ?_
        exact n_rI c_99_26 rfl ⟨rfl, by omega, by have t14 := t_ac hS; exact Or.inl ⟨by omega, rfl⟩⟩

set_option maxHeartbeats 4000000 in
theorem mpowF0_3 {xs : List Int32} {e : Nat} {ac : Int} {M0 M : nM} (hS : Sf 3 ac M0 M)  : nW xs e 140 0 [some (0, 3), some (0, 0), none, none] [] M (nPI fun z M1 => M = M1 ∧ (1 ≤ z ∧ z ≤ 1) ∧ (z = pwr 3 0)) := by
  have hd : (3 : Int) = 2 ∨ (3 : Int) = 3 := by decide
  have hac := hS.2.2.2.2
  refine n_iconst c_140_0 (n_istore_n (L2 := [some (0, 3), some (0, 0), some (0, 1), none]) c_140_1 rfl rfl (n_iconst c_140_2 (n_istore_n (L2 := [some (0, 3), some (0, 0), some (0, 1), some (0, 0)]) c_140_3 rfl rfl (n_iload_n c_140_4 rfl (n_iload_n c_140_5 rfl ?_)))))
  refine n_if2_ge c_140_6 (by omega) (by omega) ?_ ?_
  · intro h1
    refine n_iload_n c_140_19 rfl ?_
    exact n_rI c_140_20 rfl ⟨rfl, by omega, by rfl⟩
  · intro h2
    exfalso; omega

set_option maxHeartbeats 4000000 in
theorem mpowF1_3 {xs : List Int32} {e : Nat} {ac : Int} {M0 M : nM} (hS : Sf 3 ac M0 M)  : nW xs e 140 0 [some (0, 3), some (0, 1), none, none] [] M (nPI fun z M1 => M = M1 ∧ (3 ≤ z ∧ z ≤ 3) ∧ (z = pwr 3 1)) := by
  have hd : (3 : Int) = 2 ∨ (3 : Int) = 3 := by decide
  have hac := hS.2.2.2.2
  refine n_iconst c_140_0 (n_istore_n (L2 := [some (0, 3), some (0, 1), some (0, 1), none]) c_140_1 rfl rfl (n_iconst c_140_2 (n_istore_n (L2 := [some (0, 3), some (0, 1), some (0, 1), some (0, 0)]) c_140_3 rfl rfl (n_iload_n c_140_4 rfl (n_iload_n c_140_5 rfl ?_)))))
  refine n_if2_ge c_140_6 (by omega) (by omega) ?_ ?_
  · intro h1
    exfalso; omega
  · intro h2
    refine n_iload_n c_140_9 rfl (n_iload_n c_140_10 rfl (n_imul c_140_11 rfl (n_istore_n (L2 := [some (0, 3), some (0, 1), some (0, (1 * 3)), some (0, 0)]) c_140_12 rfl rfl (n_iinc (L2 := [some (0, 3), some (0, 1), some (0, (1 * 3)), some (0, (0 + 1))]) c_140_13 rfl rfl rfl (n_goto c_140_16 (n_iload_n c_140_4 rfl (n_iload_n c_140_5 rfl ?_)))))))
    refine n_if2_ge c_140_6 (by omega) (by omega) ?_ ?_
    · intro h3
      refine n_iload_n c_140_19 rfl ?_
      exact n_rI c_140_20 rfl ⟨rfl, by omega, by rfl⟩
    · intro h4
      exfalso; omega

set_option maxHeartbeats 4000000 in
theorem mpowF2_3 {xs : List Int32} {e : Nat} {ac : Int} {M0 M : nM} (hS : Sf 3 ac M0 M)  : nW xs e 140 0 [some (0, 3), some (0, 2), none, none] [] M (nPI fun z M1 => M = M1 ∧ (9 ≤ z ∧ z ≤ 9) ∧ (z = pwr 3 2)) := by
  have hd : (3 : Int) = 2 ∨ (3 : Int) = 3 := by decide
  have hac := hS.2.2.2.2
  refine n_iconst c_140_0 (n_istore_n (L2 := [some (0, 3), some (0, 2), some (0, 1), none]) c_140_1 rfl rfl (n_iconst c_140_2 (n_istore_n (L2 := [some (0, 3), some (0, 2), some (0, 1), some (0, 0)]) c_140_3 rfl rfl (n_iload_n c_140_4 rfl (n_iload_n c_140_5 rfl ?_)))))
  refine n_if2_ge c_140_6 (by omega) (by omega) ?_ ?_
  · intro h1
    exfalso; omega
  · intro h2
    refine n_iload_n c_140_9 rfl (n_iload_n c_140_10 rfl (n_imul c_140_11 rfl (n_istore_n (L2 := [some (0, 3), some (0, 2), some (0, (1 * 3)), some (0, 0)]) c_140_12 rfl rfl (n_iinc (L2 := [some (0, 3), some (0, 2), some (0, (1 * 3)), some (0, (0 + 1))]) c_140_13 rfl rfl rfl (n_goto c_140_16 (n_iload_n c_140_4 rfl (n_iload_n c_140_5 rfl ?_)))))))
    refine n_if2_ge c_140_6 (by omega) (by omega) ?_ ?_
    · intro h3
      exfalso; omega
    · intro h4
      refine n_iload_n c_140_9 rfl (n_iload_n c_140_10 rfl (n_imul c_140_11 rfl (n_istore_n (L2 := [some (0, 3), some (0, 2), some (0, ((1 * 3) * 3)), some (0, (0 + 1))]) c_140_12 rfl rfl (n_iinc (L2 := [some (0, 3), some (0, 2), some (0, ((1 * 3) * 3)), some (0, ((0 + 1) + 1))]) c_140_13 rfl rfl rfl (n_goto c_140_16 (n_iload_n c_140_4 rfl (n_iload_n c_140_5 rfl ?_)))))))
      refine n_if2_ge c_140_6 (by omega) (by omega) ?_ ?_
      · intro h5
        refine n_iload_n c_140_19 rfl ?_
        exact n_rI c_140_20 rfl ⟨rfl, by omega, by rfl⟩
      · intro h6
        exfalso; omega

set_option maxHeartbeats 4000000 in
theorem mpowF3_3 {xs : List Int32} {e : Nat} {ac : Int} {M0 M : nM} (hS : Sf 3 ac M0 M)  : nW xs e 140 0 [some (0, 3), some (0, 3), none, none] [] M (nPI fun z M1 => M = M1 ∧ (27 ≤ z ∧ z ≤ 27) ∧ (z = pwr 3 3)) := by
  have hd : (3 : Int) = 2 ∨ (3 : Int) = 3 := by decide
  have hac := hS.2.2.2.2
  refine n_iconst c_140_0 (n_istore_n (L2 := [some (0, 3), some (0, 3), some (0, 1), none]) c_140_1 rfl rfl (n_iconst c_140_2 (n_istore_n (L2 := [some (0, 3), some (0, 3), some (0, 1), some (0, 0)]) c_140_3 rfl rfl (n_iload_n c_140_4 rfl (n_iload_n c_140_5 rfl ?_)))))
  refine n_if2_ge c_140_6 (by omega) (by omega) ?_ ?_
  · intro h1
    exfalso; omega
  · intro h2
    refine n_iload_n c_140_9 rfl (n_iload_n c_140_10 rfl (n_imul c_140_11 rfl (n_istore_n (L2 := [some (0, 3), some (0, 3), some (0, (1 * 3)), some (0, 0)]) c_140_12 rfl rfl (n_iinc (L2 := [some (0, 3), some (0, 3), some (0, (1 * 3)), some (0, (0 + 1))]) c_140_13 rfl rfl rfl (n_goto c_140_16 (n_iload_n c_140_4 rfl (n_iload_n c_140_5 rfl ?_)))))))
    refine n_if2_ge c_140_6 (by omega) (by omega) ?_ ?_
    · intro h3
      exfalso; omega
    · intro h4
      refine n_iload_n c_140_9 rfl (n_iload_n c_140_10 rfl (n_imul c_140_11 rfl (n_istore_n (L2 := [some (0, 3), some (0, 3), some (0, ((1 * 3) * 3)), some (0, (0 + 1))]) c_140_12 rfl rfl (n_iinc (L2 := [some (0, 3), some (0, 3), some (0, ((1 * 3) * 3)), some (0, ((0 + 1) + 1))]) c_140_13 rfl rfl rfl (n_goto c_140_16 (n_iload_n c_140_4 rfl (n_iload_n c_140_5 rfl ?_)))))))
      refine n_if2_ge c_140_6 (by omega) (by omega) ?_ ?_
      · intro h5
        exfalso; omega
      · intro h6
        refine n_iload_n c_140_9 rfl (n_iload_n c_140_10 rfl (n_imul c_140_11 rfl (n_istore_n (L2 := [some (0, 3), some (0, 3), some (0, (((1 * 3) * 3) * 3)), some (0, ((0 + 1) + 1))]) c_140_12 rfl rfl (n_iinc (L2 := [some (0, 3), some (0, 3), some (0, (((1 * 3) * 3) * 3)), some (0, (((0 + 1) + 1) + 1))]) c_140_13 rfl rfl rfl (n_goto c_140_16 (n_iload_n c_140_4 rfl (n_iload_n c_140_5 rfl ?_)))))))
        refine n_if2_ge c_140_6 (by omega) (by omega) ?_ ?_
        · intro h7
          refine n_iload_n c_140_19 rfl ?_
          exact n_rI c_140_20 rfl ⟨rfl, by omega, by rfl⟩
        · intro h8
          exfalso; omega

set_option maxHeartbeats 4000000 in
theorem mpowF_3 {xs : List Int32} {e : Nat} {ac : Int} {M0 M : nM} {n : Int} (hS : Sf 3 ac M0 M) (hn : 0 ≤ n ∧ n ≤ 3) : nW xs e 140 0 [some (0, 3), some (0, n), none, none] [] M (nPI fun z M1 => M = M1 ∧ (1 ≤ z ∧ z ≤ 27) ∧ (z = pwr 3 n)) := by
  rcases (show n = 0 ∨ n = 1 ∨ n = 2 ∨ n = 3 by omega) with rfl | rfl | rfl | rfl
  · exact n_post (mpowF0_3 hS ) (fun w M1 h => by obtain ⟨z, rfl, h1, h2, h3⟩ := h; exact ⟨z, rfl, h1, by omega, h3⟩)
  · exact n_post (mpowF1_3 hS ) (fun w M1 h => by obtain ⟨z, rfl, h1, h2, h3⟩ := h; exact ⟨z, rfl, h1, by omega, h3⟩)
  · exact n_post (mpowF2_3 hS ) (fun w M1 h => by obtain ⟨z, rfl, h1, h2, h3⟩ := h; exact ⟨z, rfl, h1, by omega, h3⟩)
  · exact n_post (mpowF3_3 hS ) (fun w M1 h => by obtain ⟨z, rfl, h1, h2, h3⟩ := h; exact ⟨z, rfl, h1, by omega, h3⟩)

set_option maxHeartbeats 4000000 in
theorem matX_3 {xs : List Int32} {e : Nat} {ac : Int} {M0 M : nM} {a r : Int} (hS : Sf 3 ac M0 M) (hdm : M0 112 0 = 3) (ha : -2147483648 ≤ a ∧ a ≤ 2147483647) (hr : -2147483648 ≤ r ∧ r ≤ 2147483647) : nW xs (e + 1) 150 0 [some (2, 112), some (0, a), some (0, r)] [] M (nPI fun z M1 => M = M1 ∧ (-2147483648 ≤ z ∧ z ≤ 2147483647) ∧ (mAt 3 a r z M)) := by
  have hd : (3 : Int) = 2 ∨ (3 : Int) = 3 := by decide
  have hac := hS.2.2.2.2
  refine n_iload_n c_150_0 rfl ?_
  refine n_if0_lt c_150_1 (by omega) ?_ ?_
  · intro h1
    refine n_iconst c_150_33 (n_goto c_150_34 ?_)
    exact n_rI c_150_48 rfl ⟨rfl, by omega, by first | exact Or.inl ⟨by omega, rfl⟩ | exact Or.inr ⟨by omega, by omega, by omega, by omega, by omega⟩⟩
  · intro h2
    refine n_iload_n c_150_4 rfl (n_aload_n c_150_5 rfl (n_getV (bi := 4) c_150_6 sc_112.n rfl rfl rfl (t_112_4 hS) ?_))
    intro z3 ez3 f4
    refine n_if2_ge c_150_9 (by omega) (by omega) ?_ ?_
    · intro h5
      refine n_iconst c_150_33 (n_goto c_150_34 ?_)
      exact n_rI c_150_48 rfl ⟨rfl, by omega, by first | exact Or.inl ⟨by omega, rfl⟩ | exact Or.inr ⟨by omega, by omega, by omega, by omega, by omega⟩⟩
    · intro h6
      refine n_iload_n c_150_12 rfl ?_
      refine n_if0_lt c_150_13 (by omega) ?_ ?_
      · intro h7
        refine n_iconst c_150_33 (n_goto c_150_34 ?_)
        exact n_rI c_150_48 rfl ⟨rfl, by omega, by first | exact Or.inl ⟨by omega, rfl⟩ | exact Or.inr ⟨by omega, by omega, by omega, by omega, by omega⟩⟩
      · intro h8
        refine n_iload_n c_150_16 rfl (n_aload_n c_150_17 rfl (n_getV (bi := 0) c_150_18 sc_112.n rfl rfl rfl (t_dm hS hdm) ?_))
        intro z9 ez9 f10
        obtain rfl : z9 = 3 := by omega
        refine n_aload_n c_150_21 rfl (n_getR c_150_22 sc_112.n rfl rfl rfl r_112_5 (n_iload_n c_150_25 rfl (n_ialoadV c_150_26 sc_116.n rfl rfl rfl (by omega) (t_116 hS (by omega)) ?_)))
        intro z11 ez11 f12
        refine n_s2I c_150_27 rfl rfl rfl rfl (mpowF_3 (n := z11) hS (by omega)) ?_
        intro z13 M14 hP15
        obtain ⟨eM, f15, f15p0⟩ := hP15
        subst eM
        refine n_if2_lt c_150_30 (by omega) (by omega) ?_ ?_
        · intro h16
          refine n_aload_n c_150_37 rfl (n_getR c_150_38 sc_112.n rfl rfl rfl r_112_6 (n_bipush c_150_41 rfl (n_iload_n c_150_43 rfl (n_imul c_150_44 rfl (n_iload_n c_150_45 rfl (n_iadd c_150_46 rfl (n_ialoadV c_150_47 sc_117.n rfl rfl rfl (by omega) (t_117 hS (by omega)) ?_)))))))
          intro z17 ez17 f18
          exact n_rI c_150_48 rfl ⟨rfl, by omega, by have hpw := f15p0; rw [ez11] at hpw; first | exact Or.inl ⟨by omega, rfl⟩ | exact Or.inr ⟨by omega, by omega, by omega, by omega, by omega⟩⟩
        · intro h19
          refine n_iconst c_150_33 (n_goto c_150_34 ?_)
          exact n_rI c_150_48 rfl ⟨rfl, by omega, by have hpw := f15p0; rw [ez11] at hpw; first | exact Or.inl ⟨by omega, rfl⟩ | exact Or.inr ⟨by omega, by omega, by omega, by omega, by omega⟩⟩

set_option maxHeartbeats 4000000 in
theorem lawOfX_3 {xs : List Int32} {e : Nat} {ac : Int} {M0 M : nM} {l : Int} (hS : Sf 3 ac M0 M) (hl : -2147483648 ≤ l ∧ l ≤ 2147483647) : nW xs (e + 1) 100 0 [some (2, 3), some (0, l)] [] M (nPJ fun z M1 => M = M1 ∧ (-9223372036854775808 ≤ z ∧ z ≤ 9223372036854775807) ∧ (cLof l z M)) := by
  have hd : (3 : Int) = 2 ∨ (3 : Int) = 3 := by decide
  have hac := hS.2.2.2.2
  refine n_aload_n c_100_0 rfl (n_iload_n c_100_1 rfl (n_v1I c_100_2 rfl sc_3.n rfl rfl rfl rfl (isLawF_3 (l := l) hS (by omega)) ?_))
  intro z1 M2 hP3
  obtain ⟨eM, f3, f3p0⟩ := hP3
  subst eM
  refine n_if0_eq c_100_5 (by omega) ?_ ?_
  · intro h4
    refine n_ldc2 (n := (-1)) c_100_21 rfl ?_
    exact n_rJ c_100_24 rfl ⟨rfl, by omega, by first | exact Or.inl ⟨by omega, rfl⟩ | exact Or.inr ⟨by omega, by omega, by omega⟩⟩
  · intro h5
    refine n_aload_n c_100_8 rfl (n_getR c_100_9 sc_3.n rfl rfl rfl r_3_3 (n_iload_n c_100_12 rfl (n_aaload c_100_13 sc_13.n rfl rfl rfl (by omega) (r_laws _) ?_)))
    have q6 : LawAt (79 + 2 * l) := by unfold LawAt; omega
    refine n_getV (bi := 1) c_100_14 q6.c0.1.n rfl rfl rfl (t_law hS q6).2.1 ?_
    intro z7 ez7 f8
    refine n_i2l c_100_17 (by omega) ?_
    refine n_goto c_100_18 ?_
    exact n_rJ c_100_24 rfl ⟨rfl, by omega, by first | exact Or.inl ⟨by omega, rfl⟩ | exact Or.inr ⟨by omega, by omega, by omega⟩⟩

set_option maxHeartbeats 4000000 in
theorem mlawOfX_3 {xs : List Int32} {e : Nat} {ac : Int} {M0 M : nM} {l : Int} (hS : Sf 3 ac M0 M) (hdm : M0 112 0 = 3) (hl : -2147483648 ≤ l ∧ l ≤ 2147483647) : nW xs e 151 0 [some (2, 112), some (0, l)] [] M (nPJ fun z M1 => M = M1 ∧ (-9223372036854775808 ≤ z ∧ z ≤ 9223372036854775807) ∧ (mLof l z M)) := by
  have hd : (3 : Int) = 2 ∨ (3 : Int) = 3 := by decide
  have hac := hS.2.2.2.2
  refine n_iload_n c_151_0 rfl ?_
  refine n_if0_lt c_151_1 (by omega) ?_ ?_
  · intro h1
    refine n_ldc2 (n := (-1)) c_151_12 rfl (n_goto c_151_15 ?_)
    exact n_rJ c_151_24 rfl ⟨rfl, by omega, by first | exact Or.inl ⟨by omega, rfl⟩ | exact Or.inr ⟨by omega, by omega, by omega⟩⟩
  · intro h2
    refine n_iload_n c_151_4 rfl (n_aload_n c_151_5 rfl (n_getV (bi := 7) c_151_6 sc_112.n rfl rfl rfl (t_112_7 hS) ?_))
    intro z3 ez3 f4
    refine n_if2_lt c_151_9 (by omega) (by omega) ?_ ?_
    · intro h5
      refine n_aload_n c_151_18 rfl (n_getR c_151_19 sc_112.n rfl rfl rfl r_112_9 (n_iload_n c_151_22 rfl (n_laloadV c_151_23 sc_119.n rfl rfl rfl (by omega) (t_119 hS (by omega)) ?_)))
      intro z6 ez6 f7
      exact n_rJ c_151_24 rfl ⟨rfl, by omega, by first | exact Or.inl ⟨by omega, rfl⟩ | exact Or.inr ⟨by omega, by omega, by omega⟩⟩
    · intro h8
      refine n_ldc2 (n := (-1)) c_151_12 rfl (n_goto c_151_15 ?_)
      exact n_rJ c_151_24 rfl ⟨rfl, by omega, by first | exact Or.inl ⟨by omega, rfl⟩ | exact Or.inr ⟨by omega, by omega, by omega⟩⟩

set_option maxHeartbeats 4000000 in
theorem filledX_3_c {xs : List Int32} {e : Nat} {ac : Int} {M0 M : nM} (hS : Sf 3 ac M0 M)  : ∀ nn : Nat, (∀ (x1 x2 : Int), (0 ≤ x1 ∧ x1 ≤ 8) → (0 ≤ x2 ∧ x2 ≤ 8) → (x1 ≤ x2) → (x1 = cf (fun s => if 0 ≤ M 11 s then 1 else 0) x2.toNat) → (8 - x2) * 1 + 1 < (nn : Int) → nW xs e 90 4 [some (2, 8), some (0, x1), some (0, x2)] [] M (nPI fun z M1 => M = M1 ∧ (0 ≤ z ∧ z ≤ 8) ∧ (z = cf (fun s => if 0 ≤ M 11 s then 1 else 0) 8))) := by
  have hd : (3 : Int) = 2 ∨ (3 : Int) = 3 := by decide
  have hac := hS.2.2.2.2
  intro nn
  induction nn with
  | zero => intros; omega
  | succ nn ih =>
    intro x1 x2 k1 k2 v0 v1 hnn
    refine n_iload_n c_90_4 rfl (n_bipush c_90_5 rfl ?_)
    refine n_if2_ge c_90_7 (by omega) (by omega) ?_ ?_
    · intro h1
      refine n_iload_n c_90_28 rfl ?_
      exact n_rI c_90_29 rfl ⟨rfl, by omega, by have q : x2 = 8 := (by omega); rw [q] at v1; exact v1⟩
    · intro h2
      refine n_aload_n c_90_10 rfl (n_getR c_90_11 sc_8.n rfl rfl rfl r_8_2 (n_iload_n c_90_14 rfl (n_ialoadV c_90_15 sc_11.n rfl rfl rfl (by omega) (t_11 hS (by omega)) ?_)))
      intro z3 ez3 f4
      refine n_if0_lt c_90_16 (by omega) ?_ ?_
      · intro h5
        refine n_iinc (L2 := [some (2, 8), some (0, x1), some (0, (x2 + 1))]) c_90_22 rfl rfl rfl (n_goto c_90_25 (n_fg (le_s (le_s (le_s le_0))) ?_))
        exact ih _ _ (by omega) (by omega) (by omega) (by rw [cf_step (by omega)]; show _ = _ + (if 0 ≤ M 11 x2 then 1 else 0); split <;> omega) (by omega)
      · intro h6
        refine n_iinc (L2 := [some (2, 8), some (0, (x1 + 1)), some (0, x2)]) c_90_19 rfl rfl rfl (n_iinc (L2 := [some (2, 8), some (0, (x1 + 1)), some (0, (x2 + 1))]) c_90_22 rfl rfl rfl (n_goto c_90_25 (n_fg (le_s (le_s (le_s le_0))) ?_)))
        exact ih _ _ (by omega) (by omega) (by omega) (by rw [cf_step (by omega)]; show _ = _ + (if 0 ≤ M 11 x2 then 1 else 0); split <;> omega) (by omega)
set_option maxHeartbeats 4000000 in
theorem filledX_3 {xs : List Int32} {e : Nat} {ac : Int} {M0 M : nM} (hS : Sf 3 ac M0 M)  : nW xs e 90 0 [some (2, 8), none, none] [] M (nPI fun z M1 => M = M1 ∧ (0 ≤ z ∧ z ≤ 8) ∧ (z = cf (fun s => if 0 ≤ M 11 s then 1 else 0) 8)) := by
  have hd : (3 : Int) = 2 ∨ (3 : Int) = 3 := by decide
  have hac := hS.2.2.2.2
  refine n_iconst c_90_0 (n_istore_n (L2 := [some (2, 8), some (0, 0), none]) c_90_1 rfl rfl (n_iconst c_90_2 (n_istore_n (L2 := [some (2, 8), some (0, 0), some (0, 0)]) c_90_3 rfl rfl (n_fg (le_s (le_s (le_s le_0))) ?_))))
  exact (filledX_3_c hS  30) _ _ (by omega) (by omega) (by omega) (by rfl) (by omega)

set_option maxHeartbeats 4000000 in
theorem countX_3 {xs : List Int32} {e : Nat} {ac : Int} {M0 M : nM} {w : Int} (hS : Sf 3 ac M0 M) (hw : -2147483648 ≤ w ∧ w ≤ 2147483647) : nW xs (e + 1) 121 0 [some (2, 3), some (0, w)] [] M (nPI fun z M1 => M = M1 ∧ (-2147483648 ≤ z ∧ z ≤ 2147483647) ∧ (cCnt 3 w z M)) := by
  have hd : (3 : Int) = 2 ∨ (3 : Int) = 3 := by decide
  have hac := hS.2.2.2.2
  refine n_iload_n c_121_0 rfl ?_
  refine n_sw c_121_1 (by omega) (by decide) ?_ ?_
  · intro h1
    refine n_pc (k2 := 82) rfl (n_iconst c_121_82 ?_)
    exact n_rI c_121_83 rfl ⟨rfl, by omega, by unfold cCnt; omega⟩
  · intro h2 h2b
    rcases (show w = 0 ∨ w = 1 ∨ w = 2 ∨ w = 3 ∨ w = 4 ∨ w = 5 by omega) with h2c | h2c | h2c | h2c | h2c | h2c
    · refine ⟨_, by rw [h2c]; rfl, by decide, ?_⟩
      refine n_pc (k2 := 40) rfl (n_aload_n c_121_40 rfl (n_getR c_121_41 sc_3.n rfl rfl rfl r_3_0 (n_getV (bi := 0) c_121_44 sc_4.n rfl rfl rfl (t_4_0 hS) ?_)))
      intro z3 ez3 f4
      obtain rfl : z3 = 3 := by omega
      exact n_rI c_121_47 rfl ⟨rfl, by omega, by unfold cCnt; omega⟩
    · refine ⟨_, by rw [h2c]; rfl, by decide, ?_⟩
      refine n_pc (k2 := 48) rfl (n_aload_n c_121_48 rfl (n_getV (bi := 14) c_121_49 sc_3.n rfl rfl rfl (t_3_14x hS) ?_))
      intro z5 ez5 f6
      have f6a := t_ac hS
      exact n_rI c_121_52 rfl ⟨rfl, by omega, by unfold cCnt; omega⟩
    · refine ⟨_, by rw [h2c]; rfl, by decide, ?_⟩
      refine n_pc (k2 := 53) rfl (n_aload_n c_121_53 rfl (n_getV (bi := 15) c_121_54 sc_3.n rfl rfl rfl (t_3_15 hS) ?_))
      intro z7 ez7 f8
      exact n_rI c_121_57 rfl ⟨rfl, by omega, by unfold cCnt; omega⟩
    · refine ⟨_, by rw [h2c]; rfl, by decide, ?_⟩
      refine n_pc (k2 := 58) rfl (n_aload_n c_121_58 rfl (n_getR c_121_59 sc_3.n rfl rfl rfl r_3_6 (n_getV (bi := 0) c_121_62 sc_32.n rfl rfl rfl (t_32_0 hS) ?_)))
      intro z9 ez9 f10
      exact n_rI c_121_65 rfl ⟨rfl, by omega, by unfold cCnt; omega⟩
    · refine ⟨_, by rw [h2c]; rfl, by decide, ?_⟩
      refine n_pc (k2 := 66) rfl (n_aload_n c_121_66 rfl (n_getR c_121_67 sc_3.n rfl rfl rfl r_3_6 (n_getV (bi := 1) c_121_70 sc_32.n rfl rfl rfl (t_32_1 hS) ?_)))
      intro z11 ez11 f12
      exact n_rI c_121_73 rfl ⟨rfl, by omega, by unfold cCnt; omega⟩
    · refine ⟨_, by rw [h2c]; rfl, by decide, ?_⟩
      refine n_pc (k2 := 74) rfl (n_aload_n c_121_74 rfl (n_getR c_121_75 sc_3.n rfl rfl rfl r_3_1 (n_v0I c_121_78 rfl sc_8.n rfl rfl rfl rfl (filledX_3  hS ) ?_)))
      intro z13 M14 hP15
      obtain ⟨eM, f15, f15p0⟩ := hP15
      subst eM
      exact n_rI c_121_81 rfl ⟨rfl, by omega, by unfold cCnt; omega⟩

set_option maxHeartbeats 4000000 in
theorem mcountX_3_c {xs : List Int32} {e : Nat} {ac : Int} {M0 M : nM} {w : Int} (hS : Sf 3 ac M0 M) (hdm : M0 112 0 = 3) (hw : -2147483648 ≤ w ∧ w ≤ 2147483647) : ∀ nn : Nat, (∀ (x2 x3 : Int), (0 ≤ x2 ∧ x2 ≤ 8) → (0 ≤ x3 ∧ x3 ≤ 8) → (x2 ≤ x3) → (x2 = cf (fun s => if M 113 s = 0 then 0 else 1) x3.toNat) → (w = 5) → (8 - x3) * 1 + 1 < (nn : Int) → nW xs e 201 69 [some (2, 112), none, some (0, x2), some (0, x3)] [] M (nPI fun z M1 => M = M1 ∧ (-2147483648 ≤ z ∧ z ≤ 2147483647) ∧ (mCnt 3 w z M))) := by
  have hd : (3 : Int) = 2 ∨ (3 : Int) = 3 := by decide
  have hac := hS.2.2.2.2
  intro nn
  induction nn with
  | zero => intros; omega
  | succ nn ih =>
    intro x2 x3 k2 k3 v0 v1 v2 hnn
    refine n_iload_n c_201_69 rfl (n_bipush c_201_70 rfl ?_)
    refine n_if2_ge c_201_72 (by omega) (by omega) ?_ ?_
    · intro h1
      refine n_iload_n c_201_98 rfl ?_
      exact n_rI c_201_99 rfl ⟨rfl, by omega, by have q : x3 = 8 := (by omega); rw [q] at v1; have v1 : x2 = cf (fun s => if M 113 s = 0 then 0 else 1) 8 := v1; unfold mCnt; omega⟩
    · intro h2
      refine n_iload_n c_201_75 rfl (n_aload_n c_201_76 rfl (n_getR c_201_77 sc_112.n rfl rfl rfl r_112_1 (n_iload_n c_201_80 rfl (n_ialoadV c_201_81 sc_113.n rfl rfl rfl (by omega) (t_113 hS (by omega)) ?_))))
      intro z3 ez3 f4
      refine n_if0_ne c_201_82 (by omega) ?_ ?_
      · intro h5
        refine n_iconst c_201_89 (n_iadd c_201_90 rfl (n_istore_n (L2 := [some (2, 112), none, some (0, (x2 + 1)), some (0, x3)]) c_201_91 rfl rfl (n_iinc (L2 := [some (2, 112), none, some (0, (x2 + 1)), some (0, (x3 + 1))]) c_201_92 rfl rfl rfl (n_goto c_201_95 (n_fg (le_s (le_n (le_s (le_s le_0)))) ?_)))))
        exact ih _ _ (by omega) (by omega) (by omega) (by rw [cf_step (by omega)]; show _ = _ + (if M 113 x3 = 0 then 0 else 1); split <;> omega) (by omega) (by omega)
      · intro h6
        refine n_iconst c_201_85 (n_goto c_201_86 (n_iadd c_201_90 rfl (n_istore_n (L2 := [some (2, 112), none, some (0, (x2 + 0)), some (0, x3)]) c_201_91 rfl rfl (n_iinc (L2 := [some (2, 112), none, some (0, (x2 + 0)), some (0, (x3 + 1))]) c_201_92 rfl rfl rfl (n_goto c_201_95 (n_fg (le_s (le_n (le_s (le_s le_0)))) ?_))))))
        exact ih _ _ (by omega) (by omega) (by omega) (by rw [cf_step (by omega)]; show _ = _ + (if M 113 x3 = 0 then 0 else 1); split <;> omega) (by omega) (by omega)
set_option maxHeartbeats 4000000 in
theorem mcountX_3 {xs : List Int32} {e : Nat} {ac : Int} {M0 M : nM} {w : Int} (hS : Sf 3 ac M0 M) (hdm : M0 112 0 = 3) (hw : -2147483648 ≤ w ∧ w ≤ 2147483647) : nW xs e 201 0 [some (2, 112), some (0, w), none, none] [] M (nPI fun z M1 => M = M1 ∧ (-2147483648 ≤ z ∧ z ≤ 2147483647) ∧ (mCnt 3 w z M)) := by
  have hd : (3 : Int) = 2 ∨ (3 : Int) = 3 := by decide
  have hac := hS.2.2.2.2
  refine n_iload_n c_201_0 rfl ?_
  refine n_sw c_201_1 (by omega) (by decide) ?_ ?_
  · intro h1
    refine n_pc (k2 := 100) rfl (n_iconst c_201_100 ?_)
    exact n_rI c_201_101 rfl ⟨rfl, by omega, by unfold mCnt; omega⟩
  · intro h2 h2b
    rcases (show w = 0 ∨ w = 1 ∨ w = 2 ∨ w = 3 ∨ w = 4 ∨ w = 5 by omega) with h2c | h2c | h2c | h2c | h2c | h2c
    · refine ⟨_, by rw [h2c]; rfl, by decide, ?_⟩
      refine n_pc (k2 := 40) rfl (n_aload_n c_201_40 rfl (n_getV (bi := 0) c_201_41 sc_112.n rfl rfl rfl (t_dm hS hdm) ?_))
      intro z3 ez3 f4
      obtain rfl : z3 = 3 := by omega
      exact n_rI c_201_44 rfl ⟨rfl, by omega, by unfold mCnt; omega⟩
    · refine ⟨_, by rw [h2c]; rfl, by decide, ?_⟩
      refine n_pc (k2 := 45) rfl (n_aload_n c_201_45 rfl (n_getV (bi := 4) c_201_46 sc_112.n rfl rfl rfl (t_112_4 hS) ?_))
      intro z5 ez5 f6
      exact n_rI c_201_49 rfl ⟨rfl, by omega, by unfold mCnt; omega⟩
    · refine ⟨_, by rw [h2c]; rfl, by decide, ?_⟩
      refine n_pc (k2 := 50) rfl (n_aload_n c_201_50 rfl (n_getV (bi := 7) c_201_51 sc_112.n rfl rfl rfl (t_112_7 hS) ?_))
      intro z7 ez7 f8
      exact n_rI c_201_54 rfl ⟨rfl, by omega, by unfold mCnt; omega⟩
    · refine ⟨_, by rw [h2c]; rfl, by decide, ?_⟩
      refine n_pc (k2 := 55) rfl (n_aload_n c_201_55 rfl (n_getV (bi := 10) c_201_56 sc_112.n rfl rfl rfl (t_112_10 hS) ?_))
      intro z9 ez9 f10
      exact n_rI c_201_59 rfl ⟨rfl, by omega, by unfold mCnt; omega⟩
    · refine ⟨_, by rw [h2c]; rfl, by decide, ?_⟩
      refine n_pc (k2 := 60) rfl (n_aload_n c_201_60 rfl (n_getV (bi := 11) c_201_61 sc_112.n rfl rfl rfl (t_112_11 hS) ?_))
      intro z11 ez11 f12
      exact n_rI c_201_64 rfl ⟨rfl, by omega, by unfold mCnt; omega⟩
    · refine ⟨_, by rw [h2c]; rfl, by decide, ?_⟩
      refine n_pc (k2 := 65) rfl (n_iconst c_201_65 (n_istore_n (L2 := [some (2, 112), some (0, w), some (0, 0), none]) c_201_66 rfl rfl (n_iconst c_201_67 (n_istore_n (L2 := [some (2, 112), some (0, w), some (0, 0), some (0, 0)]) c_201_68 rfl rfl (n_fg (le_s (le_n (le_s (le_s le_0)))) ?_)))))
      exact (mcountX_3_c hS hdm hw 30) _ _ (by omega) (by omega) (by omega) (by rfl) (by omega) (by omega)

set_option maxHeartbeats 4000000 in
theorem actXL_3 {xs : List Int32} {e : Nat} {ac : Int} {M0 M : nM} {k s : Int} (hS : Sf 3 ac M0 M) (hk : -2147483648 ≤ k ∧ k ≤ 0) (hs : -2147483648 ≤ s ∧ s ≤ 2147483647) : nW xs (e + 2) 97 0 [some (2, 3), some (0, k), some (0, s), none, none, none] [] M (nPI fun z M1 => M = M1 ∧ (-2 ≤ z ∧ z ≤ -2)) := by
  have hd : (3 : Int) = 2 ∨ (3 : Int) = 3 := by decide
  have hac := hS.2.2.2.2
  refine n_aload_n c_97_0 rfl (n_getR c_97_1 sc_3.n rfl rfl rfl r_3_1 (n_iload_n c_97_4 rfl (n_v1I c_97_5 rfl sc_8.n rfl rfl rfl rfl (isSlotF_3 (s := s) hS (by omega)) ?_)))
  intro z1 M2 hP3
  obtain ⟨eM, f3, f3p0⟩ := hP3
  subst eM
  refine n_if0_eq c_97_8 (by omega) ?_ ?_
  · intro h4
    refine n_bipush c_97_19 rfl ?_
    exact n_rI c_97_21 rfl ⟨rfl, by omega⟩
  · intro h5
    refine n_aload_n c_97_11 rfl (n_iload_n c_97_12 rfl (n_v1I c_97_13 rfl sc_3.n rfl rfl rfl rfl (isPlaceCountF_3 (k := k) hS (by omega)) ?_))
    intro z6 M7 hP8
    obtain ⟨eM, f8, f8p0⟩ := hP8
    subst eM
    refine n_if0_ne c_97_16 (by omega) ?_ ?_
    · intro h9
      exfalso; omega
    · intro h10
      refine n_bipush c_97_19 rfl ?_
      exact n_rI c_97_21 rfl ⟨rfl, by omega⟩

set_option maxHeartbeats 4000000 in
theorem actXH_3 {xs : List Int32} {e : Nat} {ac : Int} {M0 M : nM} {k s : Int} (hS : Sf 3 ac M0 M) (hk : 4 ≤ k ∧ k ≤ 2147483647) (hs : -2147483648 ≤ s ∧ s ≤ 2147483647) : nW xs (e + 2) 97 0 [some (2, 3), some (0, k), some (0, s), none, none, none] [] M (nPI fun z M1 => M = M1 ∧ (-2 ≤ z ∧ z ≤ -2)) := by
  have hd : (3 : Int) = 2 ∨ (3 : Int) = 3 := by decide
  have hac := hS.2.2.2.2
  refine n_aload_n c_97_0 rfl (n_getR c_97_1 sc_3.n rfl rfl rfl r_3_1 (n_iload_n c_97_4 rfl (n_v1I c_97_5 rfl sc_8.n rfl rfl rfl rfl (isSlotF_3 (s := s) hS (by omega)) ?_)))
  intro z1 M2 hP3
  obtain ⟨eM, f3, f3p0⟩ := hP3
  subst eM
  refine n_if0_eq c_97_8 (by omega) ?_ ?_
  · intro h4
    refine n_bipush c_97_19 rfl ?_
    exact n_rI c_97_21 rfl ⟨rfl, by omega⟩
  · intro h5
    refine n_aload_n c_97_11 rfl (n_iload_n c_97_12 rfl (n_v1I c_97_13 rfl sc_3.n rfl rfl rfl rfl (isPlaceCountF_3 (k := k) hS (by omega)) ?_))
    intro z6 M7 hP8
    obtain ⟨eM, f8, f8p0⟩ := hP8
    subst eM
    refine n_if0_ne c_97_16 (by omega) ?_ ?_
    · intro h9
      exfalso; omega
    · intro h10
      refine n_bipush c_97_19 rfl ?_
      exact n_rI c_97_21 rfl ⟨rfl, by omega⟩

set_option maxHeartbeats 4000000 in
theorem mactXL_3 {xs : List Int32} {e : Nat} {ac : Int} {M0 M : nM} {k s : Int} (hS : Sf 3 ac M0 M) (hdm : M0 112 0 = 3) (hk : -2147483648 ≤ k ∧ k ≤ 0) (hs : -2147483648 ≤ s ∧ s ≤ 2147483647) : nW xs (e + 1) 148 0 [some (2, 112), some (0, k), some (0, s), none, none, none] [] M (nPI fun z M1 => M = M1 ∧ (-2 ≤ z ∧ z ≤ -2)) := by
  have hd : (3 : Int) = 2 ∨ (3 : Int) = 3 := by decide
  have hac := hS.2.2.2.2
  refine n_iload_n c_148_0 rfl (n_s1I c_148_1 rfl rfl rfl rfl (misSlotF_3 (s := s) hS (by omega)) ?_)
  intro z1 M2 hP3
  obtain ⟨eM, f3, f3p0⟩ := hP3
  subst eM
  refine n_if0_eq c_148_4 (by omega) ?_ ?_
  · intro h4
    refine n_bipush c_148_17 rfl ?_
    exact n_rI c_148_19 rfl ⟨rfl, by omega⟩
  · intro h5
    refine n_iload_n c_148_7 rfl (n_iconst c_148_8 ?_)
    refine n_if2_lt c_148_9 (by omega) (by omega) ?_ ?_
    · intro h6
      refine n_bipush c_148_17 rfl ?_
      exact n_rI c_148_19 rfl ⟨rfl, by omega⟩
    · intro h7
      exfalso; omega

set_option maxHeartbeats 4000000 in
theorem mactXH_3 {xs : List Int32} {e : Nat} {ac : Int} {M0 M : nM} {k s : Int} (hS : Sf 3 ac M0 M) (hdm : M0 112 0 = 3) (hk : 4 ≤ k ∧ k ≤ 2147483647) (hs : -2147483648 ≤ s ∧ s ≤ 2147483647) : nW xs (e + 1) 148 0 [some (2, 112), some (0, k), some (0, s), none, none, none] [] M (nPI fun z M1 => M = M1 ∧ (-2 ≤ z ∧ z ≤ -2)) := by
  have hd : (3 : Int) = 2 ∨ (3 : Int) = 3 := by decide
  have hac := hS.2.2.2.2
  refine n_iload_n c_148_0 rfl (n_s1I c_148_1 rfl rfl rfl rfl (misSlotF_3 (s := s) hS (by omega)) ?_)
  intro z1 M2 hP3
  obtain ⟨eM, f3, f3p0⟩ := hP3
  subst eM
  refine n_if0_eq c_148_4 (by omega) ?_ ?_
  · intro h4
    refine n_bipush c_148_17 rfl ?_
    exact n_rI c_148_19 rfl ⟨rfl, by omega⟩
  · intro h5
    refine n_iload_n c_148_7 rfl (n_iconst c_148_8 ?_)
    refine n_if2_lt c_148_9 (by omega) (by omega) ?_ ?_
    · intro h6
      exfalso; omega
    · intro h7
      refine n_iload_n c_148_12 rfl (n_iconst c_148_13 ?_)
      refine n_if2_le c_148_14 (by omega) (by omega) ?_ ?_
      · intro h8
        exfalso; omega
      · intro h9
        refine n_bipush c_148_17 rfl ?_
        exact n_rI c_148_19 rfl ⟨rfl, by omega⟩

set_option maxHeartbeats 4000000 in
theorem lawXL_3 {xs : List Int32} {e : Nat} {ac : Int} {M0 M : nM} {k s : Int} (hS : Sf 3 ac M0 M) (hk : -2147483648 ≤ k ∧ k ≤ 0) (hs : -2147483648 ≤ s ∧ s ≤ 2147483647) : nW xs (e + 2) 98 0 [some (2, 3), some (0, k), some (0, s), none] [] M (nPI fun z M1 => M = M1 ∧ (-2 ≤ z ∧ z ≤ -2)) := by
  have hd : (3 : Int) = 2 ∨ (3 : Int) = 3 := by decide
  have hac := hS.2.2.2.2
  refine n_aload_n c_98_0 rfl (n_getR c_98_1 sc_3.n rfl rfl rfl r_3_1 (n_iload_n c_98_4 rfl (n_v1I c_98_5 rfl sc_8.n rfl rfl rfl rfl (isSlotF_3 (s := s) hS (by omega)) ?_)))
  intro z1 M2 hP3
  obtain ⟨eM, f3, f3p0⟩ := hP3
  subst eM
  refine n_if0_eq c_98_8 (by omega) ?_ ?_
  · intro h4
    refine n_bipush c_98_19 rfl ?_
    exact n_rI c_98_21 rfl ⟨rfl, by omega⟩
  · intro h5
    refine n_aload_n c_98_11 rfl (n_iload_n c_98_12 rfl (n_v1I c_98_13 rfl sc_3.n rfl rfl rfl rfl (isPlaceCountF_3 (k := k) hS (by omega)) ?_))
    intro z6 M7 hP8
    obtain ⟨eM, f8, f8p0⟩ := hP8
    subst eM
    refine n_if0_ne c_98_16 (by omega) ?_ ?_
    · intro h9
      exfalso; omega
    · intro h10
      refine n_bipush c_98_19 rfl ?_
      exact n_rI c_98_21 rfl ⟨rfl, by omega⟩
