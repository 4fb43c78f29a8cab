/-! The methods, by program. -/
set_option maxHeartbeats 4000000 in
theorem layG_2_c {xs : List Int32} {e : Nat} {ac : Int} {M : nM} {s w n gd : Int} (hS : Sf 2 ac M M) (hs : 0 ≤ s ∧ s ≤ 7) (hw : 0 ≤ w ∧ w ≤ 3) (hn : 0 ≤ n ∧ n ≤ 40) (hgd : M 112 0 = gd) : ∀ nn : Nat, (∀ (x4 : Int) (M : nM), Sf 2 ac M M → (0 ≤ x4 ∧ x4 ≤ 40) → (M 112 0 = gd) → (40 - x4) * 1 + 1 < (nn : Int) → nW xs e 86 17 [some (2, 8), some (0, s), none, none, some (0, x4)] [] M (nPV fun M1 => Sf 2 ac M1 M1 ∧ (M1 112 0 = gd))) := by
  have hd : (2 : Int) = 2 ∨ (2 : Int) = 3 := by decide
  have hac := hS.2.2.2.2
  intro nn
  induction nn with
  | zero => intros; omega
  | succ nn ih =>
    intro x4 M hS k4 hggd hnn
    refine n_iload c_86_17 rfl (n_bipush c_86_19 rfl ?_)
    refine n_if2_ge c_86_21 (by omega) (by omega) ?_ ?_
    · intro h1
      exact n_rV c_86_43 rfl ⟨hS, by omega⟩
    · intro h2
      refine n_aload_n c_86_24 rfl (n_getR c_86_25 sc_8.n rfl rfl rfl r_8_0 (n_iload_n c_86_28 rfl (n_bipush c_86_29 rfl (n_imul c_86_31 rfl (n_iload c_86_32 rfl (n_iadd c_86_34 rfl (n_lconst (n := 0) c_86_35 rfl (n_lastoreM hS c_86_36 sc_9.n rfl (by omega) (m_9 (by omega) (by omega)) ?_))))))))
      intro M3 eM3 hS3
      have g3_0 : M3 112 0 = M 112 0 := by rw [eM3]; exact nu_a (by omega)
      refine n_iinc (L2 := [some (2, 8), some (0, s), none, none, some (0, (x4 + 1))]) c_86_37 rfl rfl rfl (n_goto c_86_40 (n_fg (le_s (le_s (le_n (le_n (le_s le_0))))) ?_))
      exact ih _ M3 hS3 (by omega) (by omega) (by omega)
set_option maxHeartbeats 4000000 in
theorem layG_2 {xs : List Int32} {e : Nat} {ac : Int} {M : nM} {s w n gd : Int} (hS : Sf 2 ac M M) (hs : 0 ≤ s ∧ s ≤ 7) (hw : 0 ≤ w ∧ w ≤ 3) (hn : 0 ≤ n ∧ n ≤ 40) (hgd : M 112 0 = gd) : nW xs e 86 0 [some (2, 8), some (0, s), some (0, w), some (0, n), none] [] M (nPV fun M1 => Sf 2 ac M1 M1 ∧ (M1 112 0 = gd)) := by
  have hd : (2 : Int) = 2 ∨ (2 : Int) = 3 := by decide
  have hac := hS.2.2.2.2
  refine n_aload_n c_86_0 rfl (n_getR c_86_1 sc_8.n rfl rfl rfl r_8_1 (n_iload_n c_86_4 rfl (n_iload_n c_86_5 rfl (n_iastoreM hS c_86_6 sc_10.n rfl (by omega) (m_10 (by omega) (by omega)) ?_))))
  intro M1 eM1 hS1
  have g1_0 : M1 112 0 = M 112 0 := by rw [eM1]; exact nu_a (by omega)
  refine n_aload_n c_86_7 rfl (n_getR c_86_8 sc_8.n rfl rfl rfl r_8_2 (n_iload_n c_86_11 rfl (n_iload_n c_86_12 rfl (n_iastoreM hS1 c_86_13 sc_11.n rfl (by omega) (m_11 (by omega) (by omega)) ?_))))
  intro M2 eM2 hS2
  have g2_0 : M2 112 0 = M1 112 0 := by rw [eM2]; exact nu_a (by omega)
  refine n_iconst c_86_14 (n_istore (L2 := [some (2, 8), some (0, s), some (0, w), some (0, n), some (0, 0)]) c_86_15 rfl rfl (n_fg (le_s (le_s (le_n (le_n (le_s le_0))))) ?_))
  exact (layG_2_c hS hs hw hn hgd 94) _ M2 hS2 (by omega) (by omega) (by omega)

set_option maxHeartbeats 4000000 in
theorem emptyG_2 {xs : List Int32} {e : Nat} {ac : Int} {M : nM} {s gd : Int} (hS : Sf 2 ac M M) (hs : 0 ≤ s ∧ s ≤ 7) (hgd : M 112 0 = gd) : nW xs e 87 0 [some (2, 8), some (0, s)] [] M (nPV fun M1 => Sf 2 ac M1 M1 ∧ (M1 112 0 = gd)) := by
  have hd : (2 : Int) = 2 ∨ (2 : Int) = 3 := by decide
  have hac := hS.2.2.2.2
  refine n_aload_n c_87_0 rfl (n_getR c_87_1 sc_8.n rfl rfl rfl r_8_2 (n_iload_n c_87_4 rfl (n_iconst c_87_5 (n_iastoreM hS c_87_6 sc_11.n rfl (by omega) (m_11 (by omega) (by omega)) ?_))))
  intro M1 eM1 hS1
  have g1_0 : M1 112 0 = M 112 0 := by rw [eM1]; exact nu_a (by omega)
  exact n_rV c_87_7 rfl ⟨hS1, by omega⟩

set_option maxHeartbeats 4000000 in
theorem putG_2_c {xs : List Int32} {e : Nat} {ac : Int} {M : nM} {s i v gd : Int} (hS : Sf 2 ac M M) (hs : 0 ≤ s ∧ s ≤ 7) (hi : -2147483648 ≤ i ∧ i ≤ 2147483647) (hv : -9223372036854775808 ≤ v ∧ v ≤ 9223372036854775807) (hgd : M 112 0 = gd) : ∀ nn : Nat, (∀ (M : nM), Sf 2 ac M M → (M 112 0 = gd) → 1 < (nn : Int) → nW xs (e + 1) 88 14 [none, none, none, none, none] [] M (nPI fun z M1 => Sf 2 ac M1 M1 ∧ (0 ≤ z ∧ z ≤ 1) ∧ (M1 112 0 = gd))) := by
  have hd : (2 : Int) = 2 ∨ (2 : Int) = 3 := by decide
  have hac := hS.2.2.2.2
  intro nn
  induction nn with
  | zero => intros; omega
  | succ nn ih =>
    intro M hS hggd hnn
    refine n_iconst c_88_14 ?_
    exact n_rZ c_88_15 rfl (by omega) ⟨hS, by omega, by omega⟩
set_option maxHeartbeats 4000000 in
theorem putG_2 {xs : List Int32} {e : Nat} {ac : Int} {M : nM} {s i v gd : Int} (hS : Sf 2 ac M M) (hs : 0 ≤ s ∧ s ≤ 7) (hi : -2147483648 ≤ i ∧ i ≤ 2147483647) (hv : -9223372036854775808 ≤ v ∧ v ≤ 9223372036854775807) (hgd : M 112 0 = gd) : nW xs (e + 1) 88 0 [some (2, 8), some (0, s), some (0, i), some (1, v), none] [] M (nPI fun z M1 => Sf 2 ac M1 M1 ∧ (0 ≤ z ∧ z ≤ 1) ∧ (M1 112 0 = gd)) := by
  have hd : (2 : Int) = 2 ∨ (2 : Int) = 3 := by decide
  have hac := hS.2.2.2.2
  refine n_iload_n c_88_0 rfl ?_
  refine n_if0_lt c_88_1 (by omega) ?_ ?_
  · intro h1
    refine n_fg (le_n (le_n (le_n (le_n (le_n le_0))))) ?_
    exact (putG_2_c hS hs hi hv hgd 12)  M hS (by omega) (by omega)
  · intro h2
    refine n_iload_n c_88_4 rfl (n_aload_n c_88_5 rfl (n_getR c_88_6 sc_8.n rfl rfl rfl r_8_2 (n_iload_n c_88_9 rfl (n_ialoadV c_88_10 sc_11.n rfl rfl rfl (by omega) (t_11 hS (by omega)) ?_))))
    intro z3 ez3 f4
    refine n_if2_lt c_88_11 (by omega) (by omega) ?_ ?_
    · intro h5
      refine n_aload_n c_88_16 rfl (n_getR c_88_17 sc_8.n rfl rfl rfl r_8_0 (n_iload_n c_88_20 rfl (n_bipush c_88_21 rfl (n_imul c_88_23 rfl (n_iload_n c_88_24 rfl (n_iadd c_88_25 rfl (n_aload_n c_88_26 rfl (n_lload_n c_88_27 rfl (n_aload_n c_88_28 rfl (n_getR c_88_29 sc_8.n rfl rfl rfl r_8_1 (n_iload_n c_88_32 rfl ?_)))))))))))
      refine n_ialoadV c_88_33 sc_10.n rfl rfl rfl (by omega) (t_10 hS (by omega)) ?_
      intro z6 ez6 f7
      refine n_v2J c_88_34 rfl sc_8.n rfl rfl rfl rfl (cut_2 (v := v) (w := z6) hS (by omega) (by omega)) ?_
      intro z8 M9 hP10
      obtain ⟨eM, f10⟩ := hP10
      subst eM
      refine n_lastoreM hS c_88_37 sc_9.n rfl (by omega) (m_9 (by omega) (by omega)) ?_
      intro M11 eM11 hS11
      have g11_0 : M11 112 0 = M 112 0 := by rw [eM11]; exact nu_a (by omega)
      have g11_1 : M11 11 s = M 11 s := by rw [eM11]; exact nu_a (by omega)
      refine n_iconst c_88_38 ?_
      exact n_rZ c_88_39 rfl (by omega) ⟨hS11, by omega, by omega⟩
    · intro h12
      refine n_fg (le_n (le_n (le_n (le_n (le_n le_0))))) ?_
      exact (putG_2_c hS hs hi hv hgd 12)  M hS (by omega) (by omega)

set_option maxHeartbeats 4000000 in
theorem rowG_2_c {xs : List Int32} {e : Nat} {ac : Int} {M : nM} {s w n gd : Int} (hS : Sf 2 ac M M) (hs : -2147483648 ≤ s ∧ s ≤ 2147483647) (hw : -2147483648 ≤ w ∧ w ≤ 2147483647) (hn : -2147483648 ≤ n ∧ n ≤ 2147483647) (hgd : M 112 0 = gd) : ∀ nn : Nat, (∀ (M : nM), Sf 2 ac M M → (M 112 0 = gd) → 1 < (nn : Int) → nW xs (e + 1) 94 26 [none, none, none, none] [] M (nPI fun z M1 => Sf 2 ac M1 M1 ∧ (-2147483648 ≤ z ∧ z ≤ 2147483647) ∧ (M1 112 0 = gd))) := by
  have hd : (2 : Int) = 2 ∨ (2 : Int) = 3 := by decide
  have hac := hS.2.2.2.2
  intro nn
  induction nn with
  | zero => intros; omega
  | succ nn ih =>
    intro M hS hggd hnn
    refine n_bipush c_94_26 rfl ?_
    exact n_rI c_94_28 rfl ⟨hS, by omega, by omega⟩
set_option maxHeartbeats 4000000 in
theorem rowG_2 {xs : List Int32} {e : Nat} {ac : Int} {M : nM} {s w n gd : Int} (hS : Sf 2 ac M M) (hs : -2147483648 ≤ s ∧ s ≤ 2147483647) (hw : -2147483648 ≤ w ∧ w ≤ 2147483647) (hn : -2147483648 ≤ n ∧ n ≤ 2147483647) (hgd : M 112 0 = gd) : nW xs (e + 1) 94 0 [some (2, 3), some (0, s), some (0, w), some (0, n)] [] M (nPI fun z M1 => Sf 2 ac M1 M1 ∧ (-2147483648 ≤ z ∧ z ≤ 2147483647) ∧ (M1 112 0 = gd)) := by
  have hd : (2 : Int) = 2 ∨ (2 : Int) = 3 := by decide
  have hac := hS.2.2.2.2
  refine n_aload_n c_94_0 rfl (n_getR c_94_1 sc_3.n rfl rfl rfl r_3_1 (n_iload_n c_94_4 rfl (n_v1I c_94_5 rfl sc_8.n rfl rfl rfl rfl (isSlot_2 (s := s) hS (by omega)) ?_)))
  intro z1 M2 hP3
  obtain ⟨eM, f3, f3p0⟩ := hP3
  subst eM
  refine n_if0_eq c_94_8 (by omega) ?_ ?_
  · intro h4
    refine n_fg (le_n (le_n (le_n (le_n le_0)))) ?_
    exact (rowG_2_c hS hs hw hn hgd 12)  M hS (by omega) (by omega)
  · intro h5
    refine n_iload_n c_94_11 rfl ?_
    refine n_if0_lt c_94_12 (by omega) ?_ ?_
    · intro h6
      refine n_fg (le_n (le_n (le_n (le_n le_0)))) ?_
      exact (rowG_2_c hS hs hw hn hgd 12)  M hS (by omega) (by omega)
    · intro h7
      refine n_iload_n c_94_15 rfl (n_iconst c_94_16 ?_)
      refine n_if2_gt c_94_17 (by omega) (by omega) ?_ ?_
      · intro h8
        refine n_fg (le_n (le_n (le_n (le_n le_0)))) ?_
        exact (rowG_2_c hS hs hw hn hgd 12)  M hS (by omega) (by omega)
      · intro h9
        refine n_iload_n c_94_20 rfl (n_bipush c_94_21 rfl ?_)
        refine n_if2_le c_94_23 (by omega) (by omega) ?_ ?_
        · intro h10
          refine n_iload_n c_94_29 rfl ?_
          refine n_if0_ge c_94_30 (by omega) ?_ ?_
          · intro h11
            refine n_aload_n c_94_36 rfl (n_getR c_94_37 sc_3.n rfl rfl rfl r_3_1 (n_iload_n c_94_40 rfl (n_iload_n c_94_41 rfl (n_iload_n c_94_42 rfl (n_v3V c_94_43 rfl sc_8.n rfl rfl rfl rfl (layG_2 (s := s) (w := w) (n := n) (gd := (M 112 0)) hS (by omega) (by omega) (by omega) rfl) ?_)))))
            intro  M12 hP13
            obtain ⟨hS12, f13g0⟩ := hP13
            refine n_iconst c_94_46 ?_
            exact n_rI c_94_47 rfl ⟨hS12, by omega, by omega⟩
          · intro h14
            refine n_bipush c_94_33 rfl ?_
            exact n_rI c_94_35 rfl ⟨hS, by omega, by omega⟩
        · intro h15
          refine n_fg (le_n (le_n (le_n (le_n le_0)))) ?_
          exact (rowG_2_c hS hs hw hn hgd 12)  M hS (by omega) (by omega)

set_option maxHeartbeats 4000000 in
theorem tearG_2 {xs : List Int32} {e : Nat} {ac : Int} {M : nM} {s gd : Int} (hS : Sf 2 ac M M) (hs : -2147483648 ≤ s ∧ s ≤ 2147483647) (hgd : M 112 0 = gd) : nW xs (e + 2) 95 0 [some (2, 3), some (0, s)] [] M (nPI fun z M1 => Sf 2 ac M1 M1 ∧ (0 ≤ z ∧ z ≤ 1) ∧ (M1 112 0 = gd)) := by
  have hd : (2 : Int) = 2 ∨ (2 : Int) = 3 := by decide
  have hac := hS.2.2.2.2
  refine n_aload_n c_95_0 rfl (n_getR c_95_1 sc_3.n rfl rfl rfl r_3_1 (n_iload_n c_95_4 rfl (n_v1I c_95_5 rfl sc_8.n rfl rfl rfl rfl (hasRow_2 (s := s) hS (by omega)) ?_)))
  intro z1 M2 hP3
  obtain ⟨eM, f3, f3p0⟩ := hP3
  subst eM
  refine n_if0_ne c_95_8 (by omega) ?_ ?_
  · intro h4
    refine n_aload_n c_95_13 rfl (n_getR c_95_14 sc_3.n rfl rfl rfl r_3_1 (n_iload_n c_95_17 rfl (n_v1V c_95_18 rfl sc_8.n rfl rfl rfl rfl (emptyG_2 (s := s) (gd := (M 112 0)) hS (by omega) rfl) ?_)))
    intro  M5 hP6
    obtain ⟨hS5, f6g0⟩ := hP6
    refine n_iconst c_95_21 ?_
    exact n_rZ c_95_22 rfl (by omega) ⟨hS5, by omega, by omega⟩
  · intro h7
    refine n_iconst c_95_11 ?_
    exact n_rZ c_95_12 rfl (by omega) ⟨hS, by omega, by omega⟩

set_option maxHeartbeats 4000000 in
theorem writeG_2 {xs : List Int32} {e : Nat} {ac : Int} {M : nM} {s i v gd : Int} (hS : Sf 2 ac M M) (hs : -2147483648 ≤ s ∧ s ≤ 2147483647) (hi : -2147483648 ≤ i ∧ i ≤ 2147483647) (hv : -9223372036854775808 ≤ v ∧ v ≤ 9223372036854775807) (hgd : M 112 0 = gd) : nW xs (e + 2) 96 0 [some (2, 3), some (0, s), some (0, i), some (1, v), none] [] M (nPI fun z M1 => Sf 2 ac M1 M1 ∧ (-2147483648 ≤ z ∧ z ≤ 2147483647) ∧ (M1 112 0 = gd)) := by
  have hd : (2 : Int) = 2 ∨ (2 : Int) = 3 := by decide
  have hac := hS.2.2.2.2
  refine n_aload_n c_96_0 rfl (n_getR c_96_1 sc_3.n rfl rfl rfl r_3_1 (n_iload_n c_96_4 rfl (n_v1I c_96_5 rfl sc_8.n rfl rfl rfl rfl (isSlot_2 (s := s) hS (by omega)) ?_)))
  intro z1 M2 hP3
  obtain ⟨eM, f3, f3p0⟩ := hP3
  subst eM
  refine n_if0_ne c_96_8 (by omega) ?_ ?_
  · intro h4
    refine n_aload_n c_96_14 rfl (n_getR c_96_15 sc_3.n rfl rfl rfl r_3_1 (n_iload_n c_96_18 rfl (n_v1I c_96_19 rfl sc_8.n rfl rfl rfl rfl (hasRow_2 (s := s) hS (by omega)) ?_)))
    intro z5 M6 hP7
    obtain ⟨eM, f7, f7p0⟩ := hP7
    subst eM
    refine n_if0_ne c_96_22 (by omega) ?_ ?_
    · intro h8
      refine n_aload_n c_96_28 rfl (n_getR c_96_29 sc_3.n rfl rfl rfl r_3_1 (n_iload_n c_96_32 rfl (n_iload_n c_96_33 rfl (n_lload_n c_96_34 rfl (n_v3I c_96_35 rfl sc_8.n rfl rfl rfl rfl (putG_2 (s := s) (i := i) (v := v) (gd := (M 112 0)) hS (by omega) (by omega) (by omega) rfl) ?_)))))
      intro z9 M10 hP11
      obtain ⟨hS10, f11, f11g0⟩ := hP11
      refine n_if0_eq c_96_38 (by omega) ?_ ?_
      · intro h12
        refine n_bipush c_96_45 rfl ?_
        exact n_rI c_96_47 rfl ⟨hS10, by omega, by omega⟩
      · intro h13
        refine n_iconst c_96_41 (n_goto c_96_42 ?_)
        exact n_rI c_96_47 rfl ⟨hS10, by omega, by omega⟩
    · intro h14
      refine n_bipush c_96_25 rfl ?_
      exact n_rI c_96_27 rfl ⟨hS, by omega, by omega⟩
  · intro h15
    refine n_bipush c_96_11 rfl ?_
    exact n_rI c_96_13 rfl ⟨hS, by omega, by omega⟩

set_option maxHeartbeats 4000000 in
theorem rstartG_2 {xs : List Int32} {e : Nat} {ac : Int} {M : nM} {u gd : Int} (hS : Sf 2 ac M M) (hu : 1 ≤ u ∧ u ≤ 8) (hgd : M 112 0 = gd) : nW xs e 74 0 [some (2, 32), some (0, u)] [] M (nPV fun M1 => Sf 2 ac M1 M1 ∧ (M1 112 0 = gd)) := by
  have hd : (2 : Int) = 2 ∨ (2 : Int) = 3 := by decide
  have hac := hS.2.2.2.2
  refine n_aload_n c_74_0 rfl (n_iload_n c_74_1 rfl (n_putM (bi := 0) hS c_74_2 sc_32.n rfl rfl rfl rfl (m_32_0 (by omega)) ?_))
  intro M1 eM1 hS1
  have g1_0 : M1 112 0 = M 112 0 := by rw [eM1]; exact nu_a (by omega)
  have g1_1 : M1 32 0 = u := by rw [eM1]; exact nu_s _ _ _ _
  refine n_aload_n c_74_5 rfl (n_iconst c_74_6 (n_putM (bi := 1) hS1 c_74_7 sc_32.n rfl rfl rfl rfl (m_32_1 (by omega)) ?_))
  intro M2 eM2 hS2
  have g2_0 : M2 112 0 = M1 112 0 := by rw [eM2]; exact nu_a (by omega)
  have g2_1 : M2 32 0 = M1 32 0 := by rw [eM2]; exact nu_i (by omega)
  have g2_2 : M2 32 1 = 0 := by rw [eM2]; exact nu_s _ _ _ _
  exact n_rV c_74_10 rfl ⟨hS2, by omega⟩

set_option maxHeartbeats 4000000 in
theorem riddleG_2_c {xs : List Int32} {e : Nat} {ac : Int} {M : nM} {u gd : Int} (hS : Sf 2 ac M M) (hu : -2147483648 ≤ u ∧ u ≤ 2147483647) (hgd : M 112 0 = gd) : ∀ nn : Nat, (∀ (M : nM), Sf 2 ac M M → (M 112 0 = gd) → 1 < (nn : Int) → nW xs (e + 1) 115 11 [none, none] [] M (nPI fun z M1 => Sf 2 ac M1 M1 ∧ (0 ≤ z ∧ z ≤ 1) ∧ (M1 112 0 = gd))) := by
  have hd : (2 : Int) = 2 ∨ (2 : Int) = 3 := by decide
  have hac := hS.2.2.2.2
  intro nn
  induction nn with
  | zero => intros; omega
  | succ nn ih =>
    intro M hS hggd hnn
    refine n_iconst c_115_11 ?_
    exact n_rZ c_115_12 rfl (by omega) ⟨hS, by omega, by omega⟩
set_option maxHeartbeats 4000000 in
theorem riddleG_2 {xs : List Int32} {e : Nat} {ac : Int} {M : nM} {u gd : Int} (hS : Sf 2 ac M M) (hu : -2147483648 ≤ u ∧ u ≤ 2147483647) (hgd : M 112 0 = gd) : nW xs (e + 1) 115 0 [some (2, 3), some (0, u)] [] M (nPI fun z M1 => Sf 2 ac M1 M1 ∧ (0 ≤ z ∧ z ≤ 1) ∧ (M1 112 0 = gd)) := by
  have hd : (2 : Int) = 2 ∨ (2 : Int) = 3 := by decide
  have hac := hS.2.2.2.2
  refine n_iload_n c_115_0 rfl (n_iconst c_115_1 ?_)
  refine n_if2_lt c_115_2 (by omega) (by omega) ?_ ?_
  · intro h1
    refine n_fg (le_n (le_n le_0)) ?_
    exact (riddleG_2_c hS hu hgd 12)  M hS (by omega) (by omega)
  · intro h2
    refine n_iload_n c_115_5 rfl (n_bipush c_115_6 rfl ?_)
    refine n_if2_le c_115_8 (by omega) (by omega) ?_ ?_
    · intro h3
      refine n_aload_n c_115_13 rfl (n_getR c_115_14 sc_3.n rfl rfl rfl r_3_6 (n_iload_n c_115_17 rfl (n_v1V c_115_18 rfl sc_32.n rfl rfl rfl rfl (rstartG_2 (u := u) (gd := (M 112 0)) hS (by omega) rfl) ?_)))
      intro  M4 hP5
      obtain ⟨hS4, f5g0⟩ := hP5
      refine n_aload_n c_115_21 rfl (n_iconst c_115_22 (n_putZM (bi := 18) hS4 c_115_23 sc_3.n rfl rfl rfl (by omega) rfl (m_3_18 (by omega)) ?_))
      intro M6 eM6 hS6
      have g6_0 : M6 112 0 = M4 112 0 := by rw [eM6]; exact nu_a (by omega)
      have g6_1 : M6 3 18 = 0 := by rw [eM6]; exact nu_s _ _ _ _
      refine n_iconst c_115_26 ?_
      exact n_rZ c_115_27 rfl (by omega) ⟨hS6, by omega, by omega⟩
    · intro h7
      refine n_fg (le_n (le_n le_0)) ?_
      exact (riddleG_2_c hS hu hgd 12)  M hS (by omega) (by omega)

set_option maxHeartbeats 4000000 in
theorem raddG_2 {xs : List Int32} {e : Nat} {ac : Int} {M : nM} {l x y w gd : Int} (hS : Sf 2 ac M M) (hl : 0 ≤ l ∧ l ≤ 11) (hx : 0 ≤ x ∧ x ≤ 7) (hy : 0 ≤ y ∧ y ≤ 7) (hw : 0 ≤ w ∧ w ≤ 7) (hgd : M 112 0 = gd) (hc : M 32 1 ≤ 29) : nW xs e 76 0 [some (2, 32), some (0, l), some (0, x), some (0, y), some (0, w)] [] M (nPI fun z M1 => Sf 2 ac M1 M1 ∧ (-2147483648 ≤ z ∧ z ≤ 2147483647) ∧ (M1 112 0 = gd)) := by
  have hd : (2 : Int) = 2 ∨ (2 : Int) = 3 := by decide
  have hac := hS.2.2.2.2
  refine n_aload_n c_76_0 rfl (n_getR c_76_1 sc_32.n rfl rfl rfl r_32_2 (n_aload_n c_76_4 rfl (n_getV (bi := 1) c_76_5 sc_32.n rfl rfl rfl (t_32_1 hS) ?_)))
  intro z1 ez1 f2
  refine n_iload_n c_76_8 rfl (n_iastoreM hS c_76_9 sc_33.n rfl (by omega) (m_33 (by omega) (by omega)) ?_)
  intro M3 eM3 hS3
  have g3_0 : M3 112 0 = M 112 0 := by rw [eM3]; exact nu_a (by omega)
  have g3_1 : M3 32 1 = M 32 1 := by rw [eM3]; exact nu_a (by omega)
  refine n_aload_n c_76_10 rfl (n_getR c_76_11 sc_32.n rfl rfl rfl r_32_3 (n_aload_n c_76_14 rfl (n_getV (bi := 1) c_76_15 sc_32.n rfl rfl rfl (t_32_1 hS3) ?_)))
  intro z4 ez4 f5
  refine n_iload_n c_76_18 rfl (n_iastoreM hS3 c_76_19 sc_34.n rfl (by omega) (m_34 (by omega) (by omega)) ?_)
  intro M6 eM6 hS6
  have g6_0 : M6 112 0 = M3 112 0 := by rw [eM6]; exact nu_a (by omega)
  have g6_1 : M6 32 1 = M3 32 1 := by rw [eM6]; exact nu_a (by omega)
  refine n_aload_n c_76_20 rfl (n_getR c_76_21 sc_32.n rfl rfl rfl r_32_4 (n_aload_n c_76_24 rfl (n_getV (bi := 1) c_76_25 sc_32.n rfl rfl rfl (t_32_1 hS6) ?_)))
  intro z7 ez7 f8
  refine n_iload_n c_76_28 rfl (n_iastoreM hS6 c_76_29 sc_35.n rfl (by omega) (m_35 (by omega) (by omega)) ?_)
  intro M9 eM9 hS9
  have g9_0 : M9 112 0 = M6 112 0 := by rw [eM9]; exact nu_a (by omega)
  have g9_1 : M9 32 1 = M6 32 1 := by rw [eM9]; exact nu_a (by omega)
  refine n_aload_n c_76_30 rfl (n_getR c_76_31 sc_32.n rfl rfl rfl r_32_5 (n_aload_n c_76_34 rfl (n_getV (bi := 1) c_76_35 sc_32.n rfl rfl rfl (t_32_1 hS9) ?_)))
  intro z10 ez10 f11
  refine n_iload c_76_38 rfl (n_iastoreM hS9 c_76_40 sc_36.n rfl (by omega) (m_36 (by omega) (by omega)) ?_)
  intro M12 eM12 hS12
  have g12_0 : M12 112 0 = M9 112 0 := by rw [eM12]; exact nu_a (by omega)
  have g12_1 : M12 32 1 = M9 32 1 := by rw [eM12]; exact nu_a (by omega)
  refine n_aload_n c_76_41 rfl (n_dup2 c_76_42 (n_getV (bi := 1) c_76_43 sc_32.n rfl rfl rfl (t_32_1 hS12) ?_))
  intro z13 ez13 f14
  refine n_dup_x102 c_76_46 (n_iconst c_76_47 (n_iadd c_76_48 rfl (n_putM (bi := 1) hS12 c_76_49 sc_32.n rfl rfl rfl rfl (m_32_1 (by omega)) ?_)))
  intro M15 eM15 hS15
  have g15_0 : M15 112 0 = M12 112 0 := by rw [eM15]; exact nu_a (by omega)
  have g15_1 : M15 32 1 = (z13 + 1) := by rw [eM15]; exact nu_s _ _ _ _
  exact n_rI c_76_52 rfl ⟨hS15, by omega, by omega⟩

set_option maxHeartbeats 4000000 in
theorem askG_2_c {xs : List Int32} {e : Nat} {ac : Int} {M : nM} {l x y w gd : Int} (hS : Sf 2 ac M M) (hl : -2147483648 ≤ l ∧ l ≤ 2147483647) (hx : -2147483648 ≤ x ∧ x ≤ 2147483647) (hy : -2147483648 ≤ y ∧ y ≤ 2147483647) (hw : -2147483648 ≤ w ∧ w ≤ 2147483647) (hgd : M 112 0 = gd) : ∀ nn : Nat, (∀ (M : nM), Sf 2 ac M M → (M 112 0 = gd) → 1 < (nn : Int) → nW xs (e + 1) 116 85 [none, none, none, none, none, none, none, none] [] M (nPI fun z M1 => Sf 2 ac M1 M1 ∧ (-2147483648 ≤ z ∧ z ≤ 2147483647) ∧ (M1 112 0 = gd))) := by
  have hd : (2 : Int) = 2 ∨ (2 : Int) = 3 := by decide
  have hac := hS.2.2.2.2
  intro nn
  induction nn with
  | zero => intros; omega
  | succ nn ih =>
    intro M hS hggd hnn
    refine n_bipush c_116_85 rfl ?_
    exact n_rI c_116_87 rfl ⟨hS, by omega, by omega⟩
set_option maxHeartbeats 4000000 in
theorem askG_2 {xs : List Int32} {e : Nat} {ac : Int} {M : nM} {l x y w gd : Int} (hS : Sf 2 ac M M) (hl : -2147483648 ≤ l ∧ l ≤ 2147483647) (hx : -2147483648 ≤ x ∧ x ≤ 2147483647) (hy : -2147483648 ≤ y ∧ y ≤ 2147483647) (hw : -2147483648 ≤ w ∧ w ≤ 2147483647) (hgd : M 112 0 = gd) : nW xs (e + 1) 116 0 [some (2, 3), some (0, l), some (0, x), some (0, y), some (0, w), none, none, none] [] M (nPI fun z M1 => Sf 2 ac M1 M1 ∧ (-2147483648 ≤ z ∧ z ≤ 2147483647) ∧ (M1 112 0 = gd)) := by
  have hd : (2 : Int) = 2 ∨ (2 : Int) = 3 := by decide
  have hac := hS.2.2.2.2
  refine n_aload_n c_116_0 rfl (n_iload_n c_116_1 rfl (n_v1I c_116_2 rfl sc_3.n rfl rfl rfl rfl (isLaw_2 (l := l) hS (by omega)) ?_))
  intro z1 M2 hP3
  obtain ⟨eM, f3, f3p0⟩ := hP3
  subst eM
  refine n_if0_ne c_116_5 (by omega) ?_ ?_
  · intro h4
    refine n_aload_n c_116_11 rfl (n_getR c_116_12 sc_3.n rfl rfl rfl r_3_3 (n_iload_n c_116_15 rfl (n_aaload c_116_16 sc_13.n rfl rfl rfl (by omega) (r_laws _) ?_)))
    have q5 : LawAt (79 + 2 * l) := by unfold LawAt; omega
    refine n_getV (bi := 0) c_116_17 q5.c0.1.n rfl rfl rfl (t_law hS q5).1 ?_
    intro z6 ez6 f7
    refine n_istore (L2 := [some (2, 3), some (0, l), some (0, x), some (0, y), some (0, w), some (0, z6), none, none]) c_116_20 rfl rfl (n_iload c_116_22 rfl (n_iconst c_116_24 ?_))
    refine n_if2_le c_116_25 (by omega) (by omega) ?_ ?_
    · intro h8
      refine n_iload_n c_116_32 rfl (n_istore (L2 := [some (2, 3), some (0, l), some (0, x), some (0, y), some (0, w), some (0, z6), some (0, x), none]) c_116_33 rfl rfl (n_iload c_116_35 rfl (n_iconst c_116_37 ?_)))
      refine n_if2_le c_116_38 (by omega) (by omega) ?_ ?_
      · intro h9
        refine n_iload c_116_46 rfl (n_istore (L2 := [some (2, 3), some (0, l), some (0, x), some (0, y), some (0, w), some (0, z6), some (0, x), some (0, x)]) c_116_48 rfl rfl (n_aload_n c_116_50 rfl (n_getR c_116_51 sc_3.n rfl rfl rfl r_3_6 (n_iload_n c_116_54 rfl (n_v1I c_116_55 rfl sc_32.n rfl rfl rfl rfl (isUnknown_2 (u := x) hS (by omega)) ?_)))))
        intro z10 M11 hP12
        obtain ⟨eM, f12, f12p0⟩ := hP12
        subst eM
        refine n_if0_eq c_116_58 (by omega) ?_ ?_
        · intro h13
          refine n_fg (le_n (le_n (le_n (le_n (le_n (le_n (le_n (le_n le_0)))))))) ?_
          exact (askG_2_c hS hl hx hy hw hgd 12)  M hS (by omega) (by omega)
        · intro h14
          refine n_aload_n c_116_61 rfl (n_getR c_116_62 sc_3.n rfl rfl rfl r_3_6 (n_iload c_116_65 rfl (n_v1I c_116_67 rfl sc_32.n rfl rfl rfl rfl (isUnknown_2 (u := x) hS (by omega)) ?_)))
          intro z15 M16 hP17
          obtain ⟨eM, f17, f17p0⟩ := hP17
          subst eM
          refine n_if0_eq c_116_70 (by omega) ?_ ?_
          · intro h18
            refine n_fg (le_n (le_n (le_n (le_n (le_n (le_n (le_n (le_n le_0)))))))) ?_
            exact (askG_2_c hS hl hx hy hw hgd 12)  M hS (by omega) (by omega)
          · intro h19
            refine n_aload_n c_116_73 rfl (n_getR c_116_74 sc_3.n rfl rfl rfl r_3_6 (n_iload c_116_77 rfl (n_v1I c_116_79 rfl sc_32.n rfl rfl rfl rfl (isUnknown_2 (u := x) hS (by omega)) ?_)))
            intro z20 M21 hP22
            obtain ⟨eM, f22, f22p0⟩ := hP22
            subst eM
            refine n_if0_ne c_116_82 (by omega) ?_ ?_
            · intro h23
              refine n_aload_n c_116_88 rfl (n_getR c_116_89 sc_3.n rfl rfl rfl r_3_6 (n_getV (bi := 1) c_116_92 sc_32.n rfl rfl rfl (t_32_1 hS) ?_))
              intro z24 ez24 f25
              refine n_bipush c_116_95 rfl ?_
              refine n_if2_lt c_116_97 (by omega) (by omega) ?_ ?_
              · intro h26
                refine n_aload_n c_116_103 rfl (n_iconst c_116_104 (n_putZM (bi := 18) hS c_116_105 sc_3.n rfl rfl rfl (by omega) rfl (m_3_18 (by omega)) ?_))
                intro M27 eM27 hS27
                have g27_0 : M27 112 0 = M 112 0 := by rw [eM27]; exact nu_a (by omega)
                have g27_1 : M27 32 1 = M 32 1 := by rw [eM27]; exact nu_a (by omega)
                have g27_2 : M27 3 18 = 0 := by rw [eM27]; exact nu_s _ _ _ _
                refine n_aload_n c_116_108 rfl (n_getR c_116_109 sc_3.n rfl rfl rfl r_3_6 (n_iload_n c_116_112 rfl (n_iload_n c_116_113 rfl (n_iload c_116_114 rfl (n_iload c_116_116 rfl (n_v4I c_116_118 rfl sc_32.n rfl rfl rfl rfl (raddG_2 (l := l) (x := x) (y := x) (w := x) (gd := (M27 112 0)) hS27 (by omega) (by omega) (by omega) (by omega) rfl (by omega)) ?_))))))
                intro z28 M29 hP30
                obtain ⟨hS29, f30, f30g0⟩ := hP30
                exact n_rI c_116_121 rfl ⟨hS29, by omega, by omega⟩
              · intro h31
                refine n_bipush c_116_100 rfl ?_
                exact n_rI c_116_102 rfl ⟨hS, by omega, by omega⟩
            · intro h32
              refine n_fg (le_n (le_n (le_n (le_n (le_n (le_n (le_n (le_n le_0)))))))) ?_
              exact (askG_2_c hS hl hx hy hw hgd 12)  M hS (by omega) (by omega)
      · intro h33
        exfalso; omega
    · intro h34
      refine n_iload_n c_116_28 rfl (n_goto c_116_29 (n_istore (L2 := [some (2, 3), some (0, l), some (0, x), some (0, y), some (0, w), some (0, z6), some (0, y), none]) c_116_33 rfl rfl (n_iload c_116_35 rfl (n_iconst c_116_37 ?_))))
      refine n_if2_le c_116_38 (by omega) (by omega) ?_ ?_
      · intro h35
        refine n_iload c_116_46 rfl (n_istore (L2 := [some (2, 3), some (0, l), some (0, x), some (0, y), some (0, w), some (0, z6), some (0, y), some (0, y)]) c_116_48 rfl rfl (n_aload_n c_116_50 rfl (n_getR c_116_51 sc_3.n rfl rfl rfl r_3_6 (n_iload_n c_116_54 rfl (n_v1I c_116_55 rfl sc_32.n rfl rfl rfl rfl (isUnknown_2 (u := x) hS (by omega)) ?_)))))
        intro z36 M37 hP38
        obtain ⟨eM, f38, f38p0⟩ := hP38
        subst eM
        refine n_if0_eq c_116_58 (by omega) ?_ ?_
        · intro h39
          refine n_fg (le_n (le_n (le_n (le_n (le_n (le_n (le_n (le_n le_0)))))))) ?_
          exact (askG_2_c hS hl hx hy hw hgd 12)  M hS (by omega) (by omega)
        · intro h40
          refine n_aload_n c_116_61 rfl (n_getR c_116_62 sc_3.n rfl rfl rfl r_3_6 (n_iload c_116_65 rfl (n_v1I c_116_67 rfl sc_32.n rfl rfl rfl rfl (isUnknown_2 (u := y) hS (by omega)) ?_)))
          intro z41 M42 hP43
          obtain ⟨eM, f43, f43p0⟩ := hP43
          subst eM
          refine n_if0_eq c_116_70 (by omega) ?_ ?_
          · intro h44
            refine n_fg (le_n (le_n (le_n (le_n (le_n (le_n (le_n (le_n le_0)))))))) ?_
            exact (askG_2_c hS hl hx hy hw hgd 12)  M hS (by omega) (by omega)
          · intro h45
            refine n_aload_n c_116_73 rfl (n_getR c_116_74 sc_3.n rfl rfl rfl r_3_6 (n_iload c_116_77 rfl (n_v1I c_116_79 rfl sc_32.n rfl rfl rfl rfl (isUnknown_2 (u := y) hS (by omega)) ?_)))
            intro z46 M47 hP48
            obtain ⟨eM, f48, f48p0⟩ := hP48
            subst eM
            refine n_if0_ne c_116_82 (by omega) ?_ ?_
            · intro h49
              refine n_aload_n c_116_88 rfl (n_getR c_116_89 sc_3.n rfl rfl rfl r_3_6 (n_getV (bi := 1) c_116_92 sc_32.n rfl rfl rfl (t_32_1 hS) ?_))
              intro z50 ez50 f51
              refine n_bipush c_116_95 rfl ?_
              refine n_if2_lt c_116_97 (by omega) (by omega) ?_ ?_
              · intro h52
                refine n_aload_n c_116_103 rfl (n_iconst c_116_104 (n_putZM (bi := 18) hS c_116_105 sc_3.n rfl rfl rfl (by omega) rfl (m_3_18 (by omega)) ?_))
                intro M53 eM53 hS53
                have g53_0 : M53 112 0 = M 112 0 := by rw [eM53]; exact nu_a (by omega)
                have g53_1 : M53 32 1 = M 32 1 := by rw [eM53]; exact nu_a (by omega)
                have g53_2 : M53 3 18 = 0 := by rw [eM53]; exact nu_s _ _ _ _
                refine n_aload_n c_116_108 rfl (n_getR c_116_109 sc_3.n rfl rfl rfl r_3_6 (n_iload_n c_116_112 rfl (n_iload_n c_116_113 rfl (n_iload c_116_114 rfl (n_iload c_116_116 rfl (n_v4I c_116_118 rfl sc_32.n rfl rfl rfl rfl (raddG_2 (l := l) (x := x) (y := y) (w := y) (gd := (M53 112 0)) hS53 (by omega) (by omega) (by omega) (by omega) rfl (by omega)) ?_))))))
                intro z54 M55 hP56
                obtain ⟨hS55, f56, f56g0⟩ := hP56
                exact n_rI c_116_121 rfl ⟨hS55, by omega, by omega⟩
              · intro h57
                refine n_bipush c_116_100 rfl ?_
                exact n_rI c_116_102 rfl ⟨hS, by omega, by omega⟩
            · intro h58
              refine n_fg (le_n (le_n (le_n (le_n (le_n (le_n (le_n (le_n le_0)))))))) ?_
              exact (askG_2_c hS hl hx hy hw hgd 12)  M hS (by omega) (by omega)
      · intro h59
        refine n_iload c_116_41 rfl (n_goto c_116_43 (n_istore (L2 := [some (2, 3), some (0, l), some (0, x), some (0, y), some (0, w), some (0, z6), some (0, y), some (0, w)]) c_116_48 rfl rfl (n_aload_n c_116_50 rfl (n_getR c_116_51 sc_3.n rfl rfl rfl r_3_6 (n_iload_n c_116_54 rfl (n_v1I c_116_55 rfl sc_32.n rfl rfl rfl rfl (isUnknown_2 (u := x) hS (by omega)) ?_))))))
        intro z60 M61 hP62
        obtain ⟨eM, f62, f62p0⟩ := hP62
        subst eM
        refine n_if0_eq c_116_58 (by omega) ?_ ?_
        · intro h63
          refine n_fg (le_n (le_n (le_n (le_n (le_n (le_n (le_n (le_n le_0)))))))) ?_
          exact (askG_2_c hS hl hx hy hw hgd 12)  M hS (by omega) (by omega)
        · intro h64
          refine n_aload_n c_116_61 rfl (n_getR c_116_62 sc_3.n rfl rfl rfl r_3_6 (n_iload c_116_65 rfl (n_v1I c_116_67 rfl sc_32.n rfl rfl rfl rfl (isUnknown_2 (u := y) hS (by omega)) ?_)))
          intro z65 M66 hP67
          obtain ⟨eM, f67, f67p0⟩ := hP67
          subst eM
          refine n_if0_eq c_116_70 (by omega) ?_ ?_
          · intro h68
            refine n_fg (le_n (le_n (le_n (le_n (le_n (le_n (le_n (le_n le_0)))))))) ?_
            exact (askG_2_c hS hl hx hy hw hgd 12)  M hS (by omega) (by omega)
          · intro h69
            refine n_aload_n c_116_73 rfl (n_getR c_116_74 sc_3.n rfl rfl rfl r_3_6 (n_iload c_116_77 rfl (n_v1I c_116_79 rfl sc_32.n rfl rfl rfl rfl (isUnknown_2 (u := w) hS (by omega)) ?_)))
            intro z70 M71 hP72
            obtain ⟨eM, f72, f72p0⟩ := hP72
            subst eM
            refine n_if0_ne c_116_82 (by omega) ?_ ?_
            · intro h73
              refine n_aload_n c_116_88 rfl (n_getR c_116_89 sc_3.n rfl rfl rfl r_3_6 (n_getV (bi := 1) c_116_92 sc_32.n rfl rfl rfl (t_32_1 hS) ?_))
              intro z74 ez74 f75
              refine n_bipush c_116_95 rfl ?_
              refine n_if2_lt c_116_97 (by omega) (by omega) ?_ ?_
              · intro h76
                refine n_aload_n c_116_103 rfl (n_iconst c_116_104 (n_putZM (bi := 18) hS c_116_105 sc_3.n rfl rfl rfl (by omega) rfl (m_3_18 (by omega)) ?_))
                intro M77 eM77 hS77
                have g77_0 : M77 112 0 = M 112 0 := by rw [eM77]; exact nu_a (by omega)
                have g77_1 : M77 32 1 = M 32 1 := by rw [eM77]; exact nu_a (by omega)
                have g77_2 : M77 3 18 = 0 := by rw [eM77]; exact nu_s _ _ _ _
                refine n_aload_n c_116_108 rfl (n_getR c_116_109 sc_3.n rfl rfl rfl r_3_6 (n_iload_n c_116_112 rfl (n_iload_n c_116_113 rfl (n_iload c_116_114 rfl (n_iload c_116_116 rfl (n_v4I c_116_118 rfl sc_32.n rfl rfl rfl rfl (raddG_2 (l := l) (x := x) (y := y) (w := w) (gd := (M77 112 0)) hS77 (by omega) (by omega) (by omega) (by omega) rfl (by omega)) ?_))))))
                intro z78 M79 hP80
                obtain ⟨hS79, f80, f80g0⟩ := hP80
                exact n_rI c_116_121 rfl ⟨hS79, by omega, by omega⟩
              · intro h81
                refine n_bipush c_116_100 rfl ?_
                exact n_rI c_116_102 rfl ⟨hS, by omega, by omega⟩
            · intro h82
              refine n_fg (le_n (le_n (le_n (le_n (le_n (le_n (le_n (le_n le_0)))))))) ?_
              exact (askG_2_c hS hl hx hy hw hgd 12)  M hS (by omega) (by omega)
  · intro h83
    refine n_bipush c_116_8 rfl ?_
    exact n_rI c_116_10 rfl ⟨hS, by omega, by omega⟩

set_option maxHeartbeats 4000000 in
theorem addWideMG_2_c {xs : List Int32} {e : Nat} {ac : Int} {M : nM} {q r g gd : Int} (hS : Sf 2 ac M M) (hq : LawAt q) (hr : 0 ≤ r ∧ r ≤ 26) (hg : M 3 15 = g) (hgd : M 112 0 = gd) : ∀ nn : Nat, (∀ (M : nM), Sf 2 ac M M → (M 3 15 = g) → (M 112 0 = gd) → 1 < (nn : Int) → nW xs e 42 52 [none, none] [] M (nPV fun M1 => Sf 2 ac M1 M1 ∧ (M1 3 15 = g) ∧ (M1 112 0 = gd))) := by
  have hd : (2 : Int) = 2 ∨ (2 : Int) = 3 := by decide
  have hac := hS.2.2.2.2
  intro nn
  induction nn with
  | zero => intros; omega
  | succ nn ih =>
    intro M hS hgg hggd hnn
    exact n_rV c_42_52 rfl ⟨hS, by omega, by omega⟩
set_option maxHeartbeats 4000000 in
theorem addWideMG_2 {xs : List Int32} {e : Nat} {ac : Int} {M : nM} {q r g gd : Int} (hS : Sf 2 ac M M) (hq : LawAt q) (hr : 0 ≤ r ∧ r ≤ 26) (hg : M 3 15 = g) (hgd : M 112 0 = gd) : nW xs e 42 0 [some (2, q), some (0, r)] [] M (nPV fun M1 => Sf 2 ac M1 M1 ∧ (M1 3 15 = g) ∧ (M1 112 0 = gd)) := by
  have hd : (2 : Int) = 2 ∨ (2 : Int) = 3 := by decide
  have hac := hS.2.2.2.2
  refine n_aload_n c_42_0 rfl (n_getV (bi := 3) c_42_1 hq.c0.1.n rfl rfl rfl (t_law hS hq).2.2.2 ?_)
  intro z1 ez1 f2
  refine n_bipush c_42_4 rfl ?_
  refine n_if2_ge c_42_6 (by omega) (by omega) ?_ ?_
  · intro h3
    refine n_fg (le_n (le_n le_0)) ?_
    exact (addWideMG_2_c hS hq hr hg hgd 12)  M hS (by omega) (by omega) (by omega)
  · intro h4
    refine n_aload_n c_42_9 rfl (n_getV (bi := 2) c_42_10 hq.c0.1.n rfl rfl rfl (t_law hS hq).2.2.1 ?_)
    intro z5 ez5 f6
    refine n_iload_n c_42_13 rfl (n_i_ishr c_42_14 rfl ?_)
    have f7 := n_shr_r z5 r
    generalize (n_shr z5 r) = z8 at f7 ⊢
    refine n_iconst c_42_15 (n_i_iand c_42_16 rfl ?_)
    have f9 := n_and_y (x := z8) (y := 1) (by omega)
    generalize (n_and z8 1) = z10 at f9 ⊢
    refine n_if0_ne c_42_17 (by omega) ?_ ?_
    · intro h11
      refine n_fg (le_n (le_n le_0)) ?_
      exact (addWideMG_2_c hS hq hr hg hgd 12)  M hS (by omega) (by omega) (by omega)
    · intro h12
      refine n_aload_n c_42_20 rfl (n_getR c_42_21 hq.c0.1.n rfl rfl rfl hq.r (n_aload_n c_42_24 rfl (n_getV (bi := 3) c_42_25 hq.c0.1.n rfl rfl rfl (t_law hS hq).2.2.2 ?_)))
      intro z13 ez13 f14
      refine n_iload_n c_42_28 rfl (n_iastoreM hS c_42_29 hq.c0.2.n rfl (by omega) (m_lawr hq (by omega) (by omega)) ?_)
      intro M15 eM15 hS15
      have g15_0 : M15 3 15 = M 3 15 := by rw [eM15]; exact nu_a (by unfold LawAt at *; omega)
      have g15_1 : M15 112 0 = M 112 0 := by rw [eM15]; exact nu_a (by unfold LawAt at *; omega)
      have g15_2 : M15 q 3 = M q 3 := by rw [eM15]; exact nu_a (by omega)
      refine n_aload_n c_42_30 rfl (n_dup2 c_42_31 (n_getV (bi := 3) c_42_32 hq.c0.1.n rfl rfl rfl (t_law hS15 hq).2.2.2 ?_))
      intro z16 ez16 f17
      refine n_iconst c_42_35 (n_iadd c_42_36 rfl (n_putM (bi := 3) hS15 c_42_37 hq.c0.1.n rfl rfl rfl rfl (m_law hq (by omega) (by omega)) ?_))
      intro M18 eM18 hS18
      have g18_0 : M18 3 15 = M15 3 15 := by rw [eM18]; exact nu_a (by unfold LawAt at *; omega)
      have g18_1 : M18 112 0 = M15 112 0 := by rw [eM18]; exact nu_a (by unfold LawAt at *; omega)
      have g18_2 : M18 q 3 = (z16 + 1) := by rw [eM18]; exact nu_s _ _ _ _
      refine n_aload_n c_42_40 rfl (n_dup2 c_42_41 (n_getV (bi := 2) c_42_42 hq.c0.1.n rfl rfl rfl (t_law hS18 hq).2.2.1 ?_))
      intro z19 ez19 f20
      refine n_iconst c_42_45 (n_iload_n c_42_46 rfl (n_i_ishl c_42_47 rfl ?_))
      have f21 := n_shl_1 (y := r) (a := 0) (b := 26) (by decide) (by omega)
      generalize (n_shl 1 r) = z22 at f21 ⊢
      refine n_i_ior c_42_48 rfl ?_
      have f23 := n_or_r z19 z22
      generalize (n_or z19 z22) = z24 at f23 ⊢
      refine n_putM (bi := 2) hS18 c_42_49 hq.c0.1.n rfl rfl rfl rfl (m_law hq (by omega) (by omega)) ?_
      intro M25 eM25 hS25
      have g25_0 : M25 3 15 = M18 3 15 := by rw [eM25]; exact nu_a (by unfold LawAt at *; omega)
      have g25_1 : M25 112 0 = M18 112 0 := by rw [eM25]; exact nu_a (by unfold LawAt at *; omega)
      have g25_2 : M25 q 3 = M18 q 3 := by rw [eM25]; exact nu_i (by omega)
      have g25_3 : M25 q 2 = z24 := by rw [eM25]; exact nu_s _ _ _ _
      refine n_fg (le_n (le_n le_0)) ?_
      exact (addWideMG_2_c hS hq hr hg hgd 12)  M25 hS25 (by omega) (by omega) (by omega)

set_option maxHeartbeats 4000000 in
theorem takeM1G_2_c {xs : List Int32} {e : Nat} {ac : Int} {M : nM} {q s g gd : Int} (hS : Sf 2 ac M M) (hq : LawAt q) (hs : -2147483648 ≤ s ∧ s ≤ 2147483647) (hg : M 3 15 = g) (hgd : M 112 0 = gd) : ∀ nn : Nat, (∀ (x4 x5 : Int) (M : nM), Sf 2 ac M M → (2 ≤ x4 ∧ x4 ≤ 2) → (0 ≤ x5 ∧ x5 ≤ 2) → (M 3 15 = g) → (M 112 0 = gd) → (2 - x5) * 2 + 2 < (nn : Int) → nW xs (e + 1) 36 30 [some (2, q), some (0, 1), some (0, s), some (2, 4), some (0, x4), some (0, x5)] [] M (nPV fun M1 => Sf 2 ac M1 M1 ∧ (M1 3 15 = g) ∧ (M1 112 0 = gd))) ∧ (∀ (x4 x5 : Int) (M : nM), Sf 2 ac M M → (2 ≤ x4 ∧ x4 ≤ 2) → (0 ≤ x5 ∧ x5 ≤ 1) → (M 3 15 = g) → (M 112 0 = gd) → (2 - x5) * 2 + 1 < (nn : Int) → nW xs (e + 1) 36 57 [some (2, q), some (0, 1), some (0, s), some (2, 4), some (0, x4), some (0, x5)] [] M (nPV fun M1 => Sf 2 ac M1 M1 ∧ (M1 3 15 = g) ∧ (M1 112 0 = gd))) := by
  have hd : (2 : Int) = 2 ∨ (2 : Int) = 3 := by decide
  have hac := hS.2.2.2.2
  intro nn
  induction nn with
  | zero => refine ⟨?_, ?_⟩ <;> (intros; omega)
  | succ nn ih =>
    refine ⟨?_, ?_⟩
    · intro x4 x5 M hS k4 k5 hgg hggd hnn
      refine n_iload c_36_30 rfl (n_iload c_36_32 rfl ?_)
      refine n_if2_ge c_36_34 (by omega) (by omega) ?_ ?_
      · intro h1
        exact n_rV c_36_63 rfl ⟨hS, by omega, by omega⟩
      · intro h2
        refine n_iload_n c_36_37 rfl (n_iload c_36_38 rfl (n_i_ishr c_36_40 rfl ?_))
        have f3 := n_shr_r s x5
        generalize (n_shr s x5) = z4 at f3 ⊢
        refine n_iconst c_36_41 (n_i_iand c_36_42 rfl ?_)
        have f5 := n_and_y (x := z4) (y := 1) (by omega)
        generalize (n_and z4 1) = z6 at f5 ⊢
        refine n_if0_eq c_36_43 (by omega) ?_ ?_
        · intro h7
          refine n_fg (le_s (le_s (le_s (le_s (le_s (le_s le_0)))))) ?_
          exact ih.2 _ _ M hS (by omega) (by omega) (by omega) (by omega) (by omega)
        · intro h8
          refine n_aload_n c_36_46 rfl (n_aload_n c_36_47 rfl (n_iload c_36_48 rfl (n_iload_n c_36_50 rfl (n_v2I c_36_51 rfl sc_4.n rfl rfl rfl rfl (widen1_2 (n := x5) hS (by omega)) ?_))))
          intro z9 M10 hP11
          obtain ⟨eM, f11⟩ := hP11
          subst eM
          refine n_v1V c_36_54 rfl hq.c0.1.n rfl rfl rfl rfl (addWideMG_2 (q := q) (r := z9) (g := (M 3 15)) (gd := (M 112 0)) hS hq (by omega) rfl rfl) ?_
          intro  M12 hP13
          obtain ⟨hS12, f13g0, f13g1⟩ := hP13
          refine n_fg (le_s (le_s (le_s (le_s (le_s (le_s le_0)))))) ?_
          exact ih.2 _ _ M12 hS12 (by omega) (by omega) (by omega) (by omega) (by omega)
    · intro x4 x5 M hS k4 k5 hgg hggd hnn
      refine n_iinc (L2 := [some (2, q), some (0, 1), some (0, s), some (2, 4), some (0, x4), some (0, (x5 + 1))]) c_36_57 rfl rfl rfl (n_goto c_36_60 (n_fg (le_s (le_s (le_s (le_s (le_s (le_s le_0)))))) ?_))
      exact ih.1 _ _ M hS (by omega) (by omega) (by omega) (by omega) (by omega)
set_option maxHeartbeats 4000000 in
theorem takeM1G_2 {xs : List Int32} {e : Nat} {ac : Int} {M : nM} {q s g gd : Int} (hS : Sf 2 ac M M) (hq : LawAt q) (hs : -2147483648 ≤ s ∧ s ≤ 2147483647) (hg : M 3 15 = g) (hgd : M 112 0 = gd) : nW xs (e + 1) 36 0 [some (2, q), some (0, 1), some (0, s), some (2, 4), none, none] [] M (nPV fun M1 => Sf 2 ac M1 M1 ∧ (M1 3 15 = g) ∧ (M1 112 0 = gd)) := by
  have hd : (2 : Int) = 2 ∨ (2 : Int) = 3 := by decide
  have hac := hS.2.2.2.2
  refine n_aload_n c_36_0 rfl (n_iload_n c_36_1 rfl (n_putM (bi := 0) hS c_36_2 hq.c0.1.n rfl rfl rfl rfl (m_law hq (by omega) (by omega)) ?_))
  intro M1 eM1 hS1
  have g1_0 : M1 3 15 = M 3 15 := by rw [eM1]; exact nu_a (by unfold LawAt at *; omega)
  have g1_1 : M1 112 0 = M 112 0 := by rw [eM1]; exact nu_a (by unfold LawAt at *; omega)
  have g1_2 : M1 q 0 = 1 := by rw [eM1]; exact nu_s _ _ _ _
  refine n_aload_n c_36_5 rfl (n_iload_n c_36_6 rfl (n_putM (bi := 1) hS1 c_36_7 hq.c0.1.n rfl rfl rfl rfl (m_law hq (by omega) (by omega)) ?_))
  intro M2 eM2 hS2
  have g2_0 : M2 3 15 = M1 3 15 := by rw [eM2]; exact nu_a (by unfold LawAt at *; omega)
  have g2_1 : M2 112 0 = M1 112 0 := by rw [eM2]; exact nu_a (by unfold LawAt at *; omega)
  have g2_2 : M2 q 0 = M1 q 0 := by rw [eM2]; exact nu_i (by omega)
  have g2_3 : M2 q 1 = s := by rw [eM2]; exact nu_s _ _ _ _
  refine n_aload_n c_36_10 rfl (n_iconst c_36_11 (n_putM (bi := 2) hS2 c_36_12 hq.c0.1.n rfl rfl rfl rfl (m_law hq (by omega) (by omega)) ?_))
  intro M3 eM3 hS3
  have g3_0 : M3 3 15 = M2 3 15 := by rw [eM3]; exact nu_a (by unfold LawAt at *; omega)
  have g3_1 : M3 112 0 = M2 112 0 := by rw [eM3]; exact nu_a (by unfold LawAt at *; omega)
  have g3_2 : M3 q 0 = M2 q 0 := by rw [eM3]; exact nu_i (by omega)
  have g3_3 : M3 q 1 = M2 q 1 := by rw [eM3]; exact nu_i (by omega)
  have g3_4 : M3 q 2 = 0 := by rw [eM3]; exact nu_s _ _ _ _
  refine n_aload_n c_36_15 rfl (n_iconst c_36_16 (n_putM (bi := 3) hS3 c_36_17 hq.c0.1.n rfl rfl rfl rfl (m_law hq (by omega) (by omega)) ?_))
  intro M4 eM4 hS4
  have g4_0 : M4 3 15 = M3 3 15 := by rw [eM4]; exact nu_a (by unfold LawAt at *; omega)
  have g4_1 : M4 112 0 = M3 112 0 := by rw [eM4]; exact nu_a (by unfold LawAt at *; omega)
  have g4_2 : M4 q 0 = M3 q 0 := by rw [eM4]; exact nu_i (by omega)
  have g4_3 : M4 q 1 = M3 q 1 := by rw [eM4]; exact nu_i (by omega)
  have g4_4 : M4 q 2 = M3 q 2 := by rw [eM4]; exact nu_i (by omega)
  have g4_5 : M4 q 3 = 0 := by rw [eM4]; exact nu_s _ _ _ _
  refine n_aload_n c_36_20 rfl (n_iload_n c_36_21 rfl (n_v1I c_36_22 rfl sc_4.n rfl rfl rfl rfl (power1_2  hS4 ) ?_))
  intro z5 M6 hP7
  obtain ⟨eM, f7⟩ := hP7
  subst eM
  obtain rfl : z5 = 2 := by omega
  refine n_istore (L2 := [some (2, q), some (0, 1), some (0, s), some (2, 4), some (0, 2), none]) c_36_25 rfl rfl (n_iconst c_36_27 (n_istore (L2 := [some (2, q), some (0, 1), some (0, s), some (2, 4), some (0, 2), some (0, 0)]) c_36_28 rfl rfl (n_fg (le_s (le_s (le_s (le_s (le_s (le_s le_0)))))) ?_)))
  exact (takeM1G_2_c hS hq hs hg hgd 26).1 _ _ M4 hS4 (by omega) (by omega) (by omega) (by omega) (by omega)

set_option maxHeartbeats 4000000 in
theorem takeM2G_2_c {xs : List Int32} {e : Nat} {ac : Int} {M : nM} {q s g gd : Int} (hS : Sf 2 ac M M) (hq : LawAt q) (hs : -2147483648 ≤ s ∧ s ≤ 2147483647) (hg : M 3 15 = g) (hgd : M 112 0 = gd) : ∀ nn : Nat, (∀ (x4 x5 : Int) (M : nM), Sf 2 ac M M → (4 ≤ x4 ∧ x4 ≤ 4) → (0 ≤ x5 ∧ x5 ≤ 4) → (M 3 15 = g) → (M 112 0 = gd) → (4 - x5) * 2 + 2 < (nn : Int) → nW xs (e + 1) 36 30 [some (2, q), some (0, 2), some (0, s), some (2, 4), some (0, x4), some (0, x5)] [] M (nPV fun M1 => Sf 2 ac M1 M1 ∧ (M1 3 15 = g) ∧ (M1 112 0 = gd))) ∧ (∀ (x4 x5 : Int) (M : nM), Sf 2 ac M M → (4 ≤ x4 ∧ x4 ≤ 4) → (0 ≤ x5 ∧ x5 ≤ 3) → (M 3 15 = g) → (M 112 0 = gd) → (4 - x5) * 2 + 1 < (nn : Int) → nW xs (e + 1) 36 57 [some (2, q), some (0, 2), some (0, s), some (2, 4), some (0, x4), some (0, x5)] [] M (nPV fun M1 => Sf 2 ac M1 M1 ∧ (M1 3 15 = g) ∧ (M1 112 0 = gd))) := by
  have hd : (2 : Int) = 2 ∨ (2 : Int) = 3 := by decide
  have hac := hS.2.2.2.2
  intro nn
  induction nn with
  | zero => refine ⟨?_, ?_⟩ <;> (intros; omega)
  | succ nn ih =>
    refine ⟨?_, ?_⟩
    · intro x4 x5 M hS k4 k5 hgg hggd hnn
      refine n_iload c_36_30 rfl (n_iload c_36_32 rfl ?_)
      refine n_if2_ge c_36_34 (by omega) (by omega) ?_ ?_
      · intro h1
        exact n_rV c_36_63 rfl ⟨hS, by omega, by omega⟩
      · intro h2
        refine n_iload_n c_36_37 rfl (n_iload c_36_38 rfl (n_i_ishr c_36_40 rfl ?_))
        have f3 := n_shr_r s x5
        generalize (n_shr s x5) = z4 at f3 ⊢
        refine n_iconst c_36_41 (n_i_iand c_36_42 rfl ?_)
        have f5 := n_and_y (x := z4) (y := 1) (by omega)
        generalize (n_and z4 1) = z6 at f5 ⊢
        refine n_if0_eq c_36_43 (by omega) ?_ ?_
        · intro h7
          refine n_fg (le_s (le_s (le_s (le_s (le_s (le_s le_0)))))) ?_
          exact ih.2 _ _ M hS (by omega) (by omega) (by omega) (by omega) (by omega)
        · intro h8
          refine n_aload_n c_36_46 rfl (n_aload_n c_36_47 rfl (n_iload c_36_48 rfl (n_iload_n c_36_50 rfl (n_v2I c_36_51 rfl sc_4.n rfl rfl rfl rfl (widen2_2 (n := x5) hS (by omega)) ?_))))
          intro z9 M10 hP11
          obtain ⟨eM, f11⟩ := hP11
          subst eM
          refine n_v1V c_36_54 rfl hq.c0.1.n rfl rfl rfl rfl (addWideMG_2 (q := q) (r := z9) (g := (M 3 15)) (gd := (M 112 0)) hS hq (by omega) rfl rfl) ?_
          intro  M12 hP13
          obtain ⟨hS12, f13g0, f13g1⟩ := hP13
          refine n_fg (le_s (le_s (le_s (le_s (le_s (le_s le_0)))))) ?_
          exact ih.2 _ _ M12 hS12 (by omega) (by omega) (by omega) (by omega) (by omega)
    · intro x4 x5 M hS k4 k5 hgg hggd hnn
      refine n_iinc (L2 := [some (2, q), some (0, 2), some (0, s), some (2, 4), some (0, x4), some (0, (x5 + 1))]) c_36_57 rfl rfl rfl (n_goto c_36_60 (n_fg (le_s (le_s (le_s (le_s (le_s (le_s le_0)))))) ?_))
      exact ih.1 _ _ M hS (by omega) (by omega) (by omega) (by omega) (by omega)
set_option maxHeartbeats 4000000 in
theorem takeM2G_2 {xs : List Int32} {e : Nat} {ac : Int} {M : nM} {q s g gd : Int} (hS : Sf 2 ac M M) (hq : LawAt q) (hs : -2147483648 ≤ s ∧ s ≤ 2147483647) (hg : M 3 15 = g) (hgd : M 112 0 = gd) : nW xs (e + 1) 36 0 [some (2, q), some (0, 2), some (0, s), some (2, 4), none, none] [] M (nPV fun M1 => Sf 2 ac M1 M1 ∧ (M1 3 15 = g) ∧ (M1 112 0 = gd)) := by
  have hd : (2 : Int) = 2 ∨ (2 : Int) = 3 := by decide
  have hac := hS.2.2.2.2
  refine n_aload_n c_36_0 rfl (n_iload_n c_36_1 rfl (n_putM (bi := 0) hS c_36_2 hq.c0.1.n rfl rfl rfl rfl (m_law hq (by omega) (by omega)) ?_))
  intro M1 eM1 hS1
  have g1_0 : M1 3 15 = M 3 15 := by rw [eM1]; exact nu_a (by unfold LawAt at *; omega)
  have g1_1 : M1 112 0 = M 112 0 := by rw [eM1]; exact nu_a (by unfold LawAt at *; omega)
  have g1_2 : M1 q 0 = 2 := by rw [eM1]; exact nu_s _ _ _ _
  refine n_aload_n c_36_5 rfl (n_iload_n c_36_6 rfl (n_putM (bi := 1) hS1 c_36_7 hq.c0.1.n rfl rfl rfl rfl (m_law hq (by omega) (by omega)) ?_))
  intro M2 eM2 hS2
  have g2_0 : M2 3 15 = M1 3 15 := by rw [eM2]; exact nu_a (by unfold LawAt at *; omega)
  have g2_1 : M2 112 0 = M1 112 0 := by rw [eM2]; exact nu_a (by unfold LawAt at *; omega)
  have g2_2 : M2 q 0 = M1 q 0 := by rw [eM2]; exact nu_i (by omega)
  have g2_3 : M2 q 1 = s := by rw [eM2]; exact nu_s _ _ _ _
  refine n_aload_n c_36_10 rfl (n_iconst c_36_11 (n_putM (bi := 2) hS2 c_36_12 hq.c0.1.n rfl rfl rfl rfl (m_law hq (by omega) (by omega)) ?_))
  intro M3 eM3 hS3
  have g3_0 : M3 3 15 = M2 3 15 := by rw [eM3]; exact nu_a (by unfold LawAt at *; omega)
  have g3_1 : M3 112 0 = M2 112 0 := by rw [eM3]; exact nu_a (by unfold LawAt at *; omega)
  have g3_2 : M3 q 0 = M2 q 0 := by rw [eM3]; exact nu_i (by omega)
  have g3_3 : M3 q 1 = M2 q 1 := by rw [eM3]; exact nu_i (by omega)
  have g3_4 : M3 q 2 = 0 := by rw [eM3]; exact nu_s _ _ _ _
  refine n_aload_n c_36_15 rfl (n_iconst c_36_16 (n_putM (bi := 3) hS3 c_36_17 hq.c0.1.n rfl rfl rfl rfl (m_law hq (by omega) (by omega)) ?_))
  intro M4 eM4 hS4
  have g4_0 : M4 3 15 = M3 3 15 := by rw [eM4]; exact nu_a (by unfold LawAt at *; omega)
  have g4_1 : M4 112 0 = M3 112 0 := by rw [eM4]; exact nu_a (by unfold LawAt at *; omega)
  have g4_2 : M4 q 0 = M3 q 0 := by rw [eM4]; exact nu_i (by omega)
  have g4_3 : M4 q 1 = M3 q 1 := by rw [eM4]; exact nu_i (by omega)
  have g4_4 : M4 q 2 = M3 q 2 := by rw [eM4]; exact nu_i (by omega)
  have g4_5 : M4 q 3 = 0 := by rw [eM4]; exact nu_s _ _ _ _
  refine n_aload_n c_36_20 rfl (n_iload_n c_36_21 rfl (n_v1I c_36_22 rfl sc_4.n rfl rfl rfl rfl (power2_2  hS4 ) ?_))
  intro z5 M6 hP7
  obtain ⟨eM, f7⟩ := hP7
  subst eM
  obtain rfl : z5 = 4 := by omega
  refine n_istore (L2 := [some (2, q), some (0, 2), some (0, s), some (2, 4), some (0, 4), none]) c_36_25 rfl rfl (n_iconst c_36_27 (n_istore (L2 := [some (2, q), some (0, 2), some (0, s), some (2, 4), some (0, 4), some (0, 0)]) c_36_28 rfl rfl (n_fg (le_s (le_s (le_s (le_s (le_s (le_s le_0)))))) ?_)))
  exact (takeM2G_2_c hS hq hs hg hgd 34).1 _ _ M4 hS4 (by omega) (by omega) (by omega) (by omega) (by omega)

set_option maxHeartbeats 4000000 in
theorem takeM3G_2_c {xs : List Int32} {e : Nat} {ac : Int} {M : nM} {q s g gd : Int} (hS : Sf 2 ac M M) (hq : LawAt q) (hs : -2147483648 ≤ s ∧ s ≤ 2147483647) (hg : M 3 15 = g) (hgd : M 112 0 = gd) : ∀ nn : Nat, (∀ (x4 x5 : Int) (M : nM), Sf 2 ac M M → (8 ≤ x4 ∧ x4 ≤ 8) → (0 ≤ x5 ∧ x5 ≤ 8) → (M 3 15 = g) → (M 112 0 = gd) → (8 - x5) * 2 + 2 < (nn : Int) → nW xs (e + 1) 36 30 [some (2, q), some (0, 3), some (0, s), some (2, 4), some (0, x4), some (0, x5)] [] M (nPV fun M1 => Sf 2 ac M1 M1 ∧ (M1 3 15 = g) ∧ (M1 112 0 = gd))) ∧ (∀ (x4 x5 : Int) (M : nM), Sf 2 ac M M → (8 ≤ x4 ∧ x4 ≤ 8) → (0 ≤ x5 ∧ x5 ≤ 7) → (M 3 15 = g) → (M 112 0 = gd) → (8 - x5) * 2 + 1 < (nn : Int) → nW xs (e + 1) 36 57 [some (2, q), some (0, 3), some (0, s), some (2, 4), some (0, x4), some (0, x5)] [] M (nPV fun M1 => Sf 2 ac M1 M1 ∧ (M1 3 15 = g) ∧ (M1 112 0 = gd))) := by
  have hd : (2 : Int) = 2 ∨ (2 : Int) = 3 := by decide
  have hac := hS.2.2.2.2
  intro nn
  induction nn with
  | zero => refine ⟨?_, ?_⟩ <;> (intros; omega)
  | succ nn ih =>
    refine ⟨?_, ?_⟩
    · intro x4 x5 M hS k4 k5 hgg hggd hnn
      refine n_iload c_36_30 rfl (n_iload c_36_32 rfl ?_)
      refine n_if2_ge c_36_34 (by omega) (by omega) ?_ ?_
      · intro h1
        exact n_rV c_36_63 rfl ⟨hS, by omega, by omega⟩
      · intro h2
        refine n_iload_n c_36_37 rfl (n_iload c_36_38 rfl (n_i_ishr c_36_40 rfl ?_))
        have f3 := n_shr_r s x5
        generalize (n_shr s x5) = z4 at f3 ⊢
        refine n_iconst c_36_41 (n_i_iand c_36_42 rfl ?_)
        have f5 := n_and_y (x := z4) (y := 1) (by omega)
        generalize (n_and z4 1) = z6 at f5 ⊢
        refine n_if0_eq c_36_43 (by omega) ?_ ?_
        · intro h7
          refine n_fg (le_s (le_s (le_s (le_s (le_s (le_s le_0)))))) ?_
          exact ih.2 _ _ M hS (by omega) (by omega) (by omega) (by omega) (by omega)
        · intro h8
          refine n_aload_n c_36_46 rfl (n_aload_n c_36_47 rfl (n_iload c_36_48 rfl (n_iload_n c_36_50 rfl (n_v2I c_36_51 rfl sc_4.n rfl rfl rfl rfl (widen3_2 (n := x5) hS (by omega)) ?_))))
          intro z9 M10 hP11
          obtain ⟨eM, f11⟩ := hP11
          subst eM
          refine n_v1V c_36_54 rfl hq.c0.1.n rfl rfl rfl rfl (addWideMG_2 (q := q) (r := z9) (g := (M 3 15)) (gd := (M 112 0)) hS hq (by omega) rfl rfl) ?_
          intro  M12 hP13
          obtain ⟨hS12, f13g0, f13g1⟩ := hP13
          refine n_fg (le_s (le_s (le_s (le_s (le_s (le_s le_0)))))) ?_
          exact ih.2 _ _ M12 hS12 (by omega) (by omega) (by omega) (by omega) (by omega)
    · intro x4 x5 M hS k4 k5 hgg hggd hnn
      refine n_iinc (L2 := [some (2, q), some (0, 3), some (0, s), some (2, 4), some (0, x4), some (0, (x5 + 1))]) c_36_57 rfl rfl rfl (n_goto c_36_60 (n_fg (le_s (le_s (le_s (le_s (le_s (le_s le_0)))))) ?_))
      exact ih.1 _ _ M hS (by omega) (by omega) (by omega) (by omega) (by omega)
set_option maxHeartbeats 4000000 in
theorem takeM3G_2 {xs : List Int32} {e : Nat} {ac : Int} {M : nM} {q s g gd : Int} (hS : Sf 2 ac M M) (hq : LawAt q) (hs : -2147483648 ≤ s ∧ s ≤ 2147483647) (hg : M 3 15 = g) (hgd : M 112 0 = gd) : nW xs (e + 1) 36 0 [some (2, q), some (0, 3), some (0, s), some (2, 4), none, none] [] M (nPV fun M1 => Sf 2 ac M1 M1 ∧ (M1 3 15 = g) ∧ (M1 112 0 = gd)) := by
  have hd : (2 : Int) = 2 ∨ (2 : Int) = 3 := by decide
  have hac := hS.2.2.2.2
  refine n_aload_n c_36_0 rfl (n_iload_n c_36_1 rfl (n_putM (bi := 0) hS c_36_2 hq.c0.1.n rfl rfl rfl rfl (m_law hq (by omega) (by omega)) ?_))
  intro M1 eM1 hS1
  have g1_0 : M1 3 15 = M 3 15 := by rw [eM1]; exact nu_a (by unfold LawAt at *; omega)
  have g1_1 : M1 112 0 = M 112 0 := by rw [eM1]; exact nu_a (by unfold LawAt at *; omega)
  have g1_2 : M1 q 0 = 3 := by rw [eM1]; exact nu_s _ _ _ _
  refine n_aload_n c_36_5 rfl (n_iload_n c_36_6 rfl (n_putM (bi := 1) hS1 c_36_7 hq.c0.1.n rfl rfl rfl rfl (m_law hq (by omega) (by omega)) ?_))
  intro M2 eM2 hS2
  have g2_0 : M2 3 15 = M1 3 15 := by rw [eM2]; exact nu_a (by unfold LawAt at *; omega)
  have g2_1 : M2 112 0 = M1 112 0 := by rw [eM2]; exact nu_a (by unfold LawAt at *; omega)
  have g2_2 : M2 q 0 = M1 q 0 := by rw [eM2]; exact nu_i (by omega)
  have g2_3 : M2 q 1 = s := by rw [eM2]; exact nu_s _ _ _ _
  refine n_aload_n c_36_10 rfl (n_iconst c_36_11 (n_putM (bi := 2) hS2 c_36_12 hq.c0.1.n rfl rfl rfl rfl (m_law hq (by omega) (by omega)) ?_))
  intro M3 eM3 hS3
  have g3_0 : M3 3 15 = M2 3 15 := by rw [eM3]; exact nu_a (by unfold LawAt at *; omega)
  have g3_1 : M3 112 0 = M2 112 0 := by rw [eM3]; exact nu_a (by unfold LawAt at *; omega)
  have g3_2 : M3 q 0 = M2 q 0 := by rw [eM3]; exact nu_i (by omega)
  have g3_3 : M3 q 1 = M2 q 1 := by rw [eM3]; exact nu_i (by omega)
  have g3_4 : M3 q 2 = 0 := by rw [eM3]; exact nu_s _ _ _ _
  refine n_aload_n c_36_15 rfl (n_iconst c_36_16 (n_putM (bi := 3) hS3 c_36_17 hq.c0.1.n rfl rfl rfl rfl (m_law hq (by omega) (by omega)) ?_))
  intro M4 eM4 hS4
  have g4_0 : M4 3 15 = M3 3 15 := by rw [eM4]; exact nu_a (by unfold LawAt at *; omega)
  have g4_1 : M4 112 0 = M3 112 0 := by rw [eM4]; exact nu_a (by unfold LawAt at *; omega)
  have g4_2 : M4 q 0 = M3 q 0 := by rw [eM4]; exact nu_i (by omega)
  have g4_3 : M4 q 1 = M3 q 1 := by rw [eM4]; exact nu_i (by omega)
  have g4_4 : M4 q 2 = M3 q 2 := by rw [eM4]; exact nu_i (by omega)
  have g4_5 : M4 q 3 = 0 := by rw [eM4]; exact nu_s _ _ _ _
  refine n_aload_n c_36_20 rfl (n_iload_n c_36_21 rfl (n_v1I c_36_22 rfl sc_4.n rfl rfl rfl rfl (power3_2  hS4 ) ?_))
  intro z5 M6 hP7
  obtain ⟨eM, f7⟩ := hP7
  subst eM
  obtain rfl : z5 = 8 := by omega
  refine n_istore (L2 := [some (2, q), some (0, 3), some (0, s), some (2, 4), some (0, 8), none]) c_36_25 rfl rfl (n_iconst c_36_27 (n_istore (L2 := [some (2, q), some (0, 3), some (0, s), some (2, 4), some (0, 8), some (0, 0)]) c_36_28 rfl rfl (n_fg (le_s (le_s (le_s (le_s (le_s (le_s le_0)))))) ?_)))
  exact (takeM3G_2_c hS hq hs hg hgd 50).1 _ _ M4 hS4 (by omega) (by omega) (by omega) (by omega) (by omega)

set_option maxHeartbeats 4000000 in
theorem takeMG_2 {xs : List Int32} {e : Nat} {ac : Int} {M : nM} {q k s g gd : Int} (hS : Sf 2 ac M M) (hq : LawAt q) (hk : 1 ≤ k ∧ k ≤ 3) (hs : -2147483648 ≤ s ∧ s ≤ 2147483647) (hg : M 3 15 = g) (hgd : M 112 0 = gd) : nW xs (e + 1) 36 0 [some (2, q), some (0, k), some (0, s), some (2, 4), none, none] [] M (nPV fun M1 => Sf 2 ac M1 M1 ∧ (M1 3 15 = g) ∧ (M1 112 0 = gd)) := by
  rcases (show k = 1 ∨ k = 2 ∨ k = 3 by omega) with rfl | rfl | rfl
  · exact n_post (takeM1G_2 hS hq (by omega) hg hgd) (fun w M1 h => h)
  · exact n_post (takeM2G_2 hS hq (by omega) hg hgd) (fun w M1 h => h)
  · exact n_post (takeM3G_2 hS hq (by omega) hg hgd) (fun w M1 h => h)

set_option maxHeartbeats 4000000 in
theorem lawG_2_c {xs : List Int32} {e : Nat} {ac : Int} {M : nM} {k s gd : Int} (hS : Sf 2 ac M M) (hk : -2147483648 ≤ k ∧ k ≤ 2147483647) (hs : -2147483648 ≤ s ∧ s ≤ 2147483647) (hgd : M 112 0 = gd) : ∀ nn : Nat, (∀ (M : nM), Sf 2 ac M M → (M 112 0 = gd) → 1 < (nn : Int) → nW xs (e + 2) 98 19 [none, none, none, none] [] M (nPI fun z M1 => Sf 2 ac M1 M1 ∧ (-2147483648 ≤ z ∧ z ≤ 2147483647) ∧ (M1 112 0 = gd))) := by
  have hd : (2 : Int) = 2 ∨ (2 : Int) = 3 := by decide
  have hac := hS.2.2.2.2
  intro nn
  induction nn with
  | zero => intros; omega
  | succ nn ih =>
    intro M hS hggd hnn
    refine n_bipush c_98_19 rfl ?_
    exact n_rI c_98_21 rfl ⟨hS, by omega, by omega⟩
set_option maxHeartbeats 4000000 in
theorem lawG_2 {xs : List Int32} {e : Nat} {ac : Int} {M : nM} {k s gd : Int} (hS : Sf 2 ac M M) (hk : -2147483648 ≤ k ∧ k ≤ 2147483647) (hs : -2147483648 ≤ s ∧ s ≤ 2147483647) (hgd : M 112 0 = gd) : nW xs (e + 2) 98 0 [some (2, 3), some (0, k), some (0, s), none] [] M (nPI fun z M1 => Sf 2 ac M1 M1 ∧ (-2147483648 ≤ z ∧ z ≤ 2147483647) ∧ (M1 112 0 = gd)) := by
  have hd : (2 : Int) = 2 ∨ (2 : Int) = 3 := by decide
  have hac := hS.2.2.2.2
  refine n_aload_n c_98_0 rfl (n_getR c_98_1 sc_3.n rfl rfl rfl r_3_1 (n_iload_n c_98_4 rfl (n_v1I c_98_5 rfl sc_8.n rfl rfl rfl rfl (isSlot_2 (s := s) hS (by omega)) ?_)))
  intro z1 M2 hP3
  obtain ⟨eM, f3, f3p0⟩ := hP3
  subst eM
  refine n_if0_eq c_98_8 (by omega) ?_ ?_
  · intro h4
    refine n_fg (le_n (le_n (le_n (le_n le_0)))) ?_
    exact (lawG_2_c hS hk hs hgd 12)  M hS (by omega) (by omega)
  · intro h5
    refine n_aload_n c_98_11 rfl (n_iload_n c_98_12 rfl (n_v1I c_98_13 rfl sc_3.n rfl rfl rfl rfl (isPlaceCount_2 (k := k) hS (by omega)) ?_))
    intro z6 M7 hP8
    obtain ⟨eM, f8, f8p0⟩ := hP8
    subst eM
    refine n_if0_ne c_98_16 (by omega) ?_ ?_
    · intro h9
      refine n_aload_n c_98_22 rfl (n_getV (bi := 15) c_98_23 sc_3.n rfl rfl rfl (t_3_15 hS) ?_)
      intro z10 ez10 f11
      refine n_bipush c_98_26 rfl ?_
      refine n_if2_lt c_98_28 (by omega) (by omega) ?_ ?_
      · intro h12
        refine n_aload_n c_98_34 rfl (n_getR c_98_35 sc_3.n rfl rfl rfl r_3_1 (n_iload_n c_98_38 rfl (n_v1I c_98_39 rfl sc_8.n rfl rfl rfl rfl (hasRow_2 (s := s) hS (by omega)) ?_)))
        intro z13 M14 hP15
        obtain ⟨eM, f15, f15p0⟩ := hP15
        subst eM
        refine n_if0_ne c_98_42 (by omega) ?_ ?_
        · intro h16
          refine n_aload_n c_98_48 rfl (n_iload_n c_98_49 rfl (n_iload_n c_98_50 rfl (n_v2I c_98_51 rfl sc_3.n rfl rfl rfl rfl (readLaw_2 (k := k) (s := s) hS (by omega) (by omega)) ?_)))
          intro z17 M18 hP19
          obtain ⟨eM, f19⟩ := hP19
          subst eM
          refine n_istore_n (L2 := [some (2, 3), some (0, k), some (0, s), some (0, z17)]) c_98_54 rfl rfl (n_iload_n c_98_55 rfl ?_)
          refine n_if0_ge c_98_56 (by omega) ?_ ?_
          · intro h20
            refine n_aload_n c_98_61 rfl (n_getR c_98_62 sc_3.n rfl rfl rfl r_3_3 (n_aload_n c_98_65 rfl (n_getV (bi := 15) c_98_66 sc_3.n rfl rfl rfl (t_3_15 hS) ?_)))
            intro z21 ez21 f22
            refine n_aaload c_98_69 sc_13.n rfl rfl rfl (by omega) (r_laws _) ?_
            have q23 : LawAt (79 + 2 * z21) := by unfold LawAt; omega
            refine n_iload_n c_98_70 rfl (n_iload_n c_98_71 rfl (n_aload_n c_98_72 rfl (n_getR c_98_73 sc_3.n rfl rfl rfl r_3_0 (n_v3V c_98_76 rfl q23.c0.1.n rfl rfl rfl rfl (takeMG_2 (q := (79 + 2 * z21)) (k := k) (s := z17) (g := (M 3 15)) (gd := (M 112 0)) hS q23 (by omega) (by omega) rfl rfl) ?_))))
            intro  M24 hP25
            obtain ⟨hS24, f25g0, f25g1⟩ := hP25
            refine n_aload_n c_98_79 rfl (n_dup2 c_98_80 (n_getV (bi := 15) c_98_81 sc_3.n rfl rfl rfl (t_3_15 hS24) ?_))
            intro z26 ez26 f27
            refine n_dup_x102 c_98_84 (n_iconst c_98_85 (n_iadd c_98_86 rfl (n_putM (bi := 15) hS24 c_98_87 sc_3.n rfl rfl rfl rfl (m_3_15 (by omega)) ?_)))
            intro M28 eM28 hS28
            have g28_0 : M28 112 0 = M24 112 0 := by rw [eM28]; exact nu_a (by omega)
            have g28_1 : M28 3 15 = (z26 + 1) := by rw [eM28]; exact nu_s _ _ _ _
            exact n_rI c_98_90 rfl ⟨hS28, by omega, by omega⟩
          · intro h29
            refine n_iload_n c_98_59 rfl ?_
            exact n_rI c_98_60 rfl ⟨hS, by omega, by omega⟩
        · intro h30
          refine n_bipush c_98_45 rfl ?_
          exact n_rI c_98_47 rfl ⟨hS, by omega, by omega⟩
      · intro h31
        refine n_bipush c_98_31 rfl ?_
        exact n_rI c_98_33 rfl ⟨hS, by omega, by omega⟩
    · intro h32
      refine n_fg (le_n (le_n (le_n (le_n le_0)))) ?_
      exact (lawG_2_c hS hk hs hgd 12)  M hS (by omega) (by omega)

set_option maxHeartbeats 4000000 in
theorem mrowG_2_c {xs : List Int32} {e : Nat} {ac : Int} {M : nM} {s w n gd : Int} (hS : Sf 2 ac M M) (hdm : M 112 0 = 2) (hs : -2147483648 ≤ s ∧ s ≤ 2147483647) (hw : -2147483648 ≤ w ∧ w ≤ 2147483647) (hn : -2147483648 ≤ n ∧ n ≤ 2147483647) (hgd : M 112 0 = gd) : ∀ nn : Nat, (∀ (M : nM), Sf 2 ac M M → (M 112 0 = 2) → (M 112 0 = gd) → 43 < (nn : Int) → nW xs (e + 1) 144 22 [none, none, none, none, none] [] M (nPI fun z M1 => Sf 2 ac M1 M1 ∧ (-2147483648 ≤ z ∧ z ≤ 2147483647) ∧ (M1 112 0 = gd))) ∧ (∀ (x4 : Int) (M : nM), Sf 2 ac M M → (0 ≤ s ∧ s ≤ 7) → (0 ≤ n ∧ n ≤ 40) → (0 ≤ x4 ∧ x4 ≤ 40) → (M 112 0 = 2) → (M 112 0 = gd) → (40 - x4) * 1 + 1 < (nn : Int) → nW xs (e + 1) 144 51 [some (2, 112), some (0, s), none, some (0, n), some (0, x4)] [] M (nPI fun z M1 => Sf 2 ac M1 M1 ∧ (-2147483648 ≤ z ∧ z ≤ 2147483647) ∧ (M1 112 0 = gd))) := by
  have hd : (2 : Int) = 2 ∨ (2 : Int) = 3 := by decide
  have hac := hS.2.2.2.2
  intro nn
  induction nn with
  | zero => refine ⟨?_, ?_⟩ <;> (intros; omega)
  | succ nn ih =>
    refine ⟨?_, ?_⟩
    · intro M hS hdm hggd hnn
      refine n_bipush c_144_22 rfl ?_
      exact n_rI c_144_24 rfl ⟨hS, by omega, by omega⟩
    · intro x4 M hS k1 k3 k4 hdm hggd hnn
      refine n_iload c_144_51 rfl (n_iload_n c_144_53 rfl ?_)
      refine n_if2_ge c_144_54 (by omega) (by omega) ?_ ?_
      · intro h1
        refine n_iconst c_144_76 ?_
        exact n_rI c_144_77 rfl ⟨hS, by omega, by omega⟩
      · intro h2
        refine n_aload_n c_144_57 rfl (n_getR c_144_58 sc_112.n rfl rfl rfl r_112_3 (n_bipush c_144_61 rfl (n_iload_n c_144_63 rfl (n_imul c_144_64 rfl (n_iload c_144_65 rfl (n_iadd c_144_67 rfl (n_lconst (n := 0) c_144_68 rfl (n_lastoreM hS c_144_69 sc_115.n rfl (by omega) (m_115 (by omega) (by omega)) ?_))))))))
        intro M3 eM3 hS3
        have g3_0 : M3 112 0 = M 112 0 := by rw [eM3]; exact nu_a (by omega)
        refine n_iinc (L2 := [some (2, 112), some (0, s), none, some (0, n), some (0, (x4 + 1))]) c_144_70 rfl rfl rfl (n_goto c_144_73 (n_fg (le_s (le_s (le_n (le_s (le_s le_0))))) ?_))
        exact ih.2 _ M3 hS3 (by omega) (by omega) (by omega) (by omega) (by omega) (by omega)
set_option maxHeartbeats 4000000 in
theorem mrowG_2 {xs : List Int32} {e : Nat} {ac : Int} {M : nM} {s w n gd : Int} (hS : Sf 2 ac M M) (hdm : M 112 0 = 2) (hs : -2147483648 ≤ s ∧ s ≤ 2147483647) (hw : -2147483648 ≤ w ∧ w ≤ 2147483647) (hn : -2147483648 ≤ n ∧ n ≤ 2147483647) (hgd : M 112 0 = gd) : nW xs (e + 1) 144 0 [some (2, 112), some (0, s), some (0, w), some (0, n), none] [] M (nPI fun z M1 => Sf 2 ac M1 M1 ∧ (-2147483648 ≤ z ∧ z ≤ 2147483647) ∧ (M1 112 0 = gd)) := by
  have hd : (2 : Int) = 2 ∨ (2 : Int) = 3 := by decide
  have hac := hS.2.2.2.2
  refine n_iload_n c_144_0 rfl (n_s1I c_144_1 rfl rfl rfl rfl (misSlot_2 (s := s) hS (by omega)) ?_)
  intro z1 M2 hP3
  obtain ⟨eM, f3, f3p0⟩ := hP3
  subst eM
  refine n_if0_eq c_144_4 (by omega) ?_ ?_
  · intro h4
    refine n_fg (le_n (le_n (le_n (le_n (le_n le_0))))) ?_
    exact (mrowG_2_c hS hdm hs hw hn hgd 96).1  M hS (by omega) (by omega) (by omega)
  · intro h5
    refine n_iload_n c_144_7 rfl ?_
    refine n_if0_lt c_144_8 (by omega) ?_ ?_
    · intro h6
      refine n_fg (le_n (le_n (le_n (le_n (le_n le_0))))) ?_
      exact (mrowG_2_c hS hdm hs hw hn hgd 96).1  M hS (by omega) (by omega) (by omega)
    · intro h7
      refine n_iload_n c_144_11 rfl (n_iconst c_144_12 ?_)
      refine n_if2_gt c_144_13 (by omega) (by omega) ?_ ?_
      · intro h8
        refine n_fg (le_n (le_n (le_n (le_n (le_n le_0))))) ?_
        exact (mrowG_2_c hS hdm hs hw hn hgd 96).1  M hS (by omega) (by omega) (by omega)
      · intro h9
        refine n_iload_n c_144_16 rfl (n_bipush c_144_17 rfl ?_)
        refine n_if2_le c_144_19 (by omega) (by omega) ?_ ?_
        · intro h10
          refine n_iload_n c_144_25 rfl ?_
          refine n_if0_ge c_144_26 (by omega) ?_ ?_
          · intro h11
            refine n_aload_n c_144_32 rfl (n_getR c_144_33 sc_112.n rfl rfl rfl r_112_1 (n_iload_n c_144_36 rfl (n_iload_n c_144_37 rfl (n_iconst c_144_38 (n_iadd c_144_39 rfl (n_iastoreM hS c_144_40 sc_113.n rfl (by omega) (m_113 (by omega) (by omega)) ?_))))))
            intro M12 eM12 hS12
            have g12_0 : M12 112 0 = M 112 0 := by rw [eM12]; exact nu_a (by omega)
            refine n_aload_n c_144_41 rfl (n_getR c_144_42 sc_112.n rfl rfl rfl r_112_2 (n_iload_n c_144_45 rfl (n_iload_n c_144_46 rfl (n_iastoreM hS12 c_144_47 sc_114.n rfl (by omega) (m_114 (by omega) (by omega)) ?_))))
            intro M13 eM13 hS13
            have g13_0 : M13 112 0 = M12 112 0 := by rw [eM13]; exact nu_a (by omega)
            refine n_iconst c_144_48 (n_istore (L2 := [some (2, 112), some (0, s), some (0, w), some (0, n), some (0, 0)]) c_144_49 rfl rfl (n_fg (le_s (le_s (le_n (le_s (le_s le_0))))) ?_))
            exact (mrowG_2_c hS hdm hs hw hn hgd 96).2 _ M13 hS13 (by omega) (by omega) (by omega) (by omega) (by omega) (by omega)
          · intro h14
            refine n_bipush c_144_29 rfl ?_
            exact n_rI c_144_31 rfl ⟨hS, by omega, by omega⟩
        · intro h15
          refine n_fg (le_n (le_n (le_n (le_n (le_n le_0))))) ?_
          exact (mrowG_2_c hS hdm hs hw hn hgd 96).1  M hS (by omega) (by omega) (by omega)

set_option maxHeartbeats 4000000 in
theorem mtearG_2_c {xs : List Int32} {e : Nat} {ac : Int} {M : nM} {s gd : Int} (hS : Sf 2 ac M M) (hdm : M 112 0 = 2) (hs : -2147483648 ≤ s ∧ s ≤ 2147483647) (hgd : M 112 0 = gd) : ∀ nn : Nat, (∀ (M : nM), Sf 2 ac M M → (M 112 0 = 2) → (M 112 0 = gd) → 1 < (nn : Int) → nW xs (e + 1) 145 16 [none, none] [] M (nPI fun z M1 => Sf 2 ac M1 M1 ∧ (0 ≤ z ∧ z ≤ 1) ∧ (M1 112 0 = gd))) := by
  have hd : (2 : Int) = 2 ∨ (2 : Int) = 3 := by decide
  have hac := hS.2.2.2.2
  intro nn
  induction nn with
  | zero => intros; omega
  | succ nn ih =>
    intro M hS hdm hggd hnn
    refine n_iconst c_145_16 ?_
    exact n_rZ c_145_17 rfl (by omega) ⟨hS, by omega, by omega⟩
set_option maxHeartbeats 4000000 in
theorem mtearG_2 {xs : List Int32} {e : Nat} {ac : Int} {M : nM} {s gd : Int} (hS : Sf 2 ac M M) (hdm : M 112 0 = 2) (hs : -2147483648 ≤ s ∧ s ≤ 2147483647) (hgd : M 112 0 = gd) : nW xs (e + 1) 145 0 [some (2, 112), some (0, s)] [] M (nPI fun z M1 => Sf 2 ac M1 M1 ∧ (0 ≤ z ∧ z ≤ 1) ∧ (M1 112 0 = gd)) := by
  have hd : (2 : Int) = 2 ∨ (2 : Int) = 3 := by decide
  have hac := hS.2.2.2.2
  refine n_iload_n c_145_0 rfl (n_s1I c_145_1 rfl rfl rfl rfl (misSlot_2 (s := s) hS (by omega)) ?_)
  intro z1 M2 hP3
  obtain ⟨eM, f3, f3p0⟩ := hP3
  subst eM
  refine n_if0_eq c_145_4 (by omega) ?_ ?_
  · intro h4
    refine n_fg (le_n (le_n le_0)) ?_
    exact (mtearG_2_c hS hdm hs hgd 12)  M hS (by omega) (by omega) (by omega)
  · intro h5
    refine n_aload_n c_145_7 rfl (n_getR c_145_8 sc_112.n rfl rfl rfl r_112_1 (n_iload_n c_145_11 rfl (n_ialoadV c_145_12 sc_113.n rfl rfl rfl (by omega) (t_113 hS (by omega)) ?_)))
    intro z6 ez6 f7
    refine n_if0_ne c_145_13 (by omega) ?_ ?_
    · intro h8
      refine n_aload_n c_145_18 rfl (n_getR c_145_19 sc_112.n rfl rfl rfl r_112_1 (n_iload_n c_145_22 rfl (n_iconst c_145_23 (n_iastoreM hS c_145_24 sc_113.n rfl (by omega) (m_113 (by omega) (by omega)) ?_))))
      intro M9 eM9 hS9
      have g9_0 : M9 112 0 = M 112 0 := by rw [eM9]; exact nu_a (by omega)
      refine n_iconst c_145_25 ?_
      exact n_rZ c_145_26 rfl (by omega) ⟨hS9, by omega, by omega⟩
    · intro h10
      refine n_fg (le_n (le_n le_0)) ?_
      exact (mtearG_2_c hS hdm hs hgd 12)  M hS (by omega) (by omega) (by omega)

set_option maxHeartbeats 4000000 in
theorem mwriteG_2_c {xs : List Int32} {e : Nat} {ac : Int} {M : nM} {s i v gd : Int} (hS : Sf 2 ac M M) (hdm : M 112 0 = 2) (hs : -2147483648 ≤ s ∧ s ≤ 2147483647) (hi : -2147483648 ≤ i ∧ i ≤ 2147483647) (hv : -9223372036854775808 ≤ v ∧ v ≤ 9223372036854775807) (hgd : M 112 0 = gd) : ∀ nn : Nat, (∀ (M : nM), Sf 2 ac M M → (M 112 0 = 2) → (M 112 0 = gd) → 1 < (nn : Int) → nW xs (e + 1) 146 38 [none, none, none, none, none, none] [] M (nPI fun z M1 => Sf 2 ac M1 M1 ∧ (-2147483648 ≤ z ∧ z ≤ 2147483647) ∧ (M1 112 0 = gd))) := by
  have hd : (2 : Int) = 2 ∨ (2 : Int) = 3 := by decide
  have hac := hS.2.2.2.2
  intro nn
  induction nn with
  | zero => intros; omega
  | succ nn ih =>
    intro M hS hdm hggd hnn
    refine n_bipush c_146_38 rfl ?_
    exact n_rI c_146_40 rfl ⟨hS, by omega, by omega⟩
set_option maxHeartbeats 4000000 in
theorem mwriteG_2 {xs : List Int32} {e : Nat} {ac : Int} {M : nM} {s i v gd : Int} (hS : Sf 2 ac M M) (hdm : M 112 0 = 2) (hs : -2147483648 ≤ s ∧ s ≤ 2147483647) (hi : -2147483648 ≤ i ∧ i ≤ 2147483647) (hv : -9223372036854775808 ≤ v ∧ v ≤ 9223372036854775807) (hgd : M 112 0 = gd) : nW xs (e + 1) 146 0 [some (2, 112), some (0, s), some (0, i), some (1, v), none, none] [] M (nPI fun z M1 => Sf 2 ac M1 M1 ∧ (-2147483648 ≤ z ∧ z ≤ 2147483647) ∧ (M1 112 0 = gd)) := by
  have hd : (2 : Int) = 2 ∨ (2 : Int) = 3 := by decide
  have hac := hS.2.2.2.2
  refine n_iload_n c_146_0 rfl (n_s1I c_146_1 rfl rfl rfl rfl (misSlot_2 (s := s) hS (by omega)) ?_)
  intro z1 M2 hP3
  obtain ⟨eM, f3, f3p0⟩ := hP3
  subst eM
  refine n_if0_ne c_146_4 (by omega) ?_ ?_
  · intro h4
    refine n_aload_n c_146_10 rfl (n_getR c_146_11 sc_112.n rfl rfl rfl r_112_1 (n_iload_n c_146_14 rfl (n_ialoadV c_146_15 sc_113.n rfl rfl rfl (by omega) (t_113 hS (by omega)) ?_)))
    intro z5 ez5 f6
    refine n_if0_ne c_146_16 (by omega) ?_ ?_
    · intro h7
      refine n_iload_n c_146_22 rfl ?_
      refine n_if0_lt c_146_23 (by omega) ?_ ?_
      · intro h8
        refine n_fg (le_n (le_n (le_n (le_n (le_n (le_n le_0)))))) ?_
        exact (mwriteG_2_c hS hdm hs hi hv hgd 12)  M hS (by omega) (by omega) (by omega)
      · intro h9
        refine n_iload_n c_146_26 rfl (n_aload_n c_146_27 rfl (n_getR c_146_28 sc_112.n rfl rfl rfl r_112_1 (n_iload_n c_146_31 rfl (n_ialoadV c_146_32 sc_113.n rfl rfl rfl (by omega) (t_113 hS (by omega)) ?_))))
        intro z10 ez10 f11
        refine n_iconst c_146_33 (n_isub c_146_34 rfl ?_)
        refine n_if2_lt c_146_35 (by omega) (by omega) ?_ ?_
        · intro h12
          refine n_aload_n c_146_41 rfl (n_getR c_146_42 sc_112.n rfl rfl rfl r_112_2 (n_iload_n c_146_45 rfl (n_ialoadV c_146_46 sc_114.n rfl rfl rfl (by omega) (t_114 hS (by omega)) ?_)))
          intro z13 ez13 f14
          refine n_istore (L2 := [some (2, 112), some (0, s), some (0, i), some (1, v), none, some (0, z13)]) c_146_47 rfl rfl (n_aload_n c_146_49 rfl (n_getR c_146_50 sc_112.n rfl rfl rfl r_112_3 (n_bipush c_146_53 rfl (n_iload_n c_146_55 rfl (n_imul c_146_56 rfl (n_iload_n c_146_57 rfl (n_iadd c_146_58 rfl (n_iload c_146_59 rfl ?_))))))))
          refine n_if0_ne c_146_61 (by omega) ?_ ?_
          · intro h15
            refine n_iload c_146_71 rfl (n_iconst c_146_73 ?_)
            refine n_if2_ne c_146_74 (by omega) (by omega) ?_ ?_
            · intro h16
              refine n_iload c_146_84 rfl (n_iconst c_146_86 ?_)
              refine n_if2_ne c_146_87 (by omega) (by omega) ?_ ?_
              · intro h17
                refine n_lload_n c_146_96 rfl (n_lastoreM hS c_146_97 sc_115.n rfl (by omega) (m_115 (by omega) (by omega)) ?_)
                intro M18 eM18 hS18
                have g18_0 : M18 112 0 = M 112 0 := by rw [eM18]; exact nu_a (by omega)
                have g18_1 : M18 113 s = M 113 s := by rw [eM18]; exact nu_a (by omega)
                refine n_iconst c_146_98 ?_
                exact n_rI c_146_99 rfl ⟨hS18, by omega, by omega⟩
              · intro h19
                refine n_lload_n c_146_90 rfl (n_l2i c_146_91 (n_wrap ?_))
                have f20 := n_wr_r v
                generalize n_wr v = z21 at f20 ⊢
                refine n_i2l c_146_92 (by omega) ?_
                refine n_goto c_146_93 (n_lastoreM hS c_146_97 sc_115.n rfl (by omega) (m_115 (by omega) (by omega)) ?_)
                intro M22 eM22 hS22
                have g22_0 : M22 112 0 = M 112 0 := by rw [eM22]; exact nu_a (by omega)
                have g22_1 : M22 113 s = M 113 s := by rw [eM22]; exact nu_a (by omega)
                refine n_iconst c_146_98 ?_
                exact n_rI c_146_99 rfl ⟨hS22, by omega, by omega⟩
            · intro h23
              refine n_lload_n c_146_77 rfl (n_l2i c_146_78 (n_wrap ?_))
              have f24 := n_wr_r v
              generalize n_wr v = z25 at f24 ⊢
              refine n_i2s c_146_79 ?_
              have f26 := n_2s_r z25
              generalize n_2s z25 = z27 at f26 ⊢
              refine n_i2l c_146_80 (by omega) ?_
              refine n_goto c_146_81 (n_lastoreM hS c_146_97 sc_115.n rfl (by omega) (m_115 (by omega) (by omega)) ?_)
              intro M28 eM28 hS28
              have g28_0 : M28 112 0 = M 112 0 := by rw [eM28]; exact nu_a (by omega)
              have g28_1 : M28 113 s = M 113 s := by rw [eM28]; exact nu_a (by omega)
              refine n_iconst c_146_98 ?_
              exact n_rI c_146_99 rfl ⟨hS28, by omega, by omega⟩
          · intro h29
            refine n_lload_n c_146_64 rfl (n_l2i c_146_65 (n_wrap ?_))
            have f30 := n_wr_r v
            generalize n_wr v = z31 at f30 ⊢
            refine n_i2b c_146_66 ?_
            have f32 := n_2b_r z31
            generalize n_2b z31 = z33 at f32 ⊢
            refine n_i2l c_146_67 (by omega) ?_
            refine n_goto c_146_68 (n_lastoreM hS c_146_97 sc_115.n rfl (by omega) (m_115 (by omega) (by omega)) ?_)
            intro M34 eM34 hS34
            have g34_0 : M34 112 0 = M 112 0 := by rw [eM34]; exact nu_a (by omega)
            have g34_1 : M34 113 s = M 113 s := by rw [eM34]; exact nu_a (by omega)
            refine n_iconst c_146_98 ?_
            exact n_rI c_146_99 rfl ⟨hS34, by omega, by omega⟩
        · intro h35
          refine n_fg (le_n (le_n (le_n (le_n (le_n (le_n le_0)))))) ?_
          exact (mwriteG_2_c hS hdm hs hi hv hgd 12)  M hS (by omega) (by omega) (by omega)
    · intro h36
      refine n_bipush c_146_19 rfl ?_
      exact n_rI c_146_21 rfl ⟨hS, by omega, by omega⟩
  · intro h37
    refine n_bipush c_146_7 rfl ?_
    exact n_rI c_146_9 rfl ⟨hS, by omega, by omega⟩

set_option maxHeartbeats 4000000 in
theorem mactG_2_c {xs : List Int32} {e : Nat} {ac : Int} {M : nM} {k s gd : Int} (hS : Sf 2 ac M M) (hdm : M 112 0 = 2) (hk : -2147483648 ≤ k ∧ k ≤ 2147483647) (hs : -2147483648 ≤ s ∧ s ≤ 2147483647) (hgd : M 112 0 = gd) : ∀ nn : Nat, (∀ (M : nM), Sf 2 ac M M → (M 112 0 = 2) → (M 112 0 = gd) → 23 < (nn : Int) → nW xs (e + 1) 148 17 [none, none, none, none, none, none] [] M (nPI fun z M1 => Sf 2 ac M1 M1 ∧ (-2147483648 ≤ z ∧ z ≤ 2147483647) ∧ (M1 112 0 = gd))) ∧ (∀ (x3 x4 : Int) (M : nM), Sf 2 ac M M → (1 ≤ k ∧ k ≤ 3) → (0 ≤ s ∧ s ≤ 7) → (-2147483648 ≤ x3 ∧ x3 ≤ 2147483647) → (0 ≤ x4 ∧ x4 ≤ 8) → (M 112 0 = 2) → (M 112 0 = gd) → (8 - x4) * 1 + 13 < (nn : Int) → nW xs (e + 1) 148 25 [some (2, 112), some (0, k), some (0, s), some (0, x3), some (0, x4), none] [] M (nPI fun z M1 => Sf 2 ac M1 M1 ∧ (-2147483648 ≤ z ∧ z ≤ 2147483647) ∧ (M1 112 0 = gd))) ∧ (∀ (M : nM), Sf 2 ac M M → (M 112 0 = 2) → (M 112 0 = gd) → 12 < (nn : Int) → nW xs (e + 1) 148 78 [none, none, none, none, none, none] [] M (nPI fun z M1 => Sf 2 ac M1 M1 ∧ (-2147483648 ≤ z ∧ z ≤ 2147483647) ∧ (M1 112 0 = gd))) ∧ (∀ (M : nM), Sf 2 ac M M → (1 ≤ k ∧ k ≤ 3) → (0 ≤ s ∧ s ≤ 7) → (M 112 0 = 2) → (M 112 0 = gd) → (M 112 4 ≤ 7) → 11 < (nn : Int) → nW xs (e + 1) 148 81 [some (2, 112), some (0, k), some (0, s), none, none, none] [] M (nPI fun z M1 => Sf 2 ac M1 M1 ∧ (-2147483648 ≤ z ∧ z ≤ 2147483647) ∧ (M1 112 0 = gd))) ∧ (∀ (x4 x5 : Int) (M : nM), Sf 2 ac M M → (1 ≤ k ∧ k ≤ 3) → (0 ≤ s ∧ s ≤ 7) → (1 ≤ x4 ∧ x4 ≤ 8) → (0 ≤ x5 ∧ x5 ≤ 8) → (M 112 0 = 2) → (M 112 0 = gd) → (M 112 4 ≤ 7) → (8 - x5) * 1 + 1 < (nn : Int) → nW xs (e + 1) 148 106 [some (2, 112), some (0, k), some (0, s), none, some (0, x4), some (0, x5)] [] M (nPI fun z M1 => Sf 2 ac M1 M1 ∧ (-2147483648 ≤ z ∧ z ≤ 2147483647) ∧ (M1 112 0 = gd))) := by
  have hd : (2 : Int) = 2 ∨ (2 : Int) = 3 := by decide
  have hac := hS.2.2.2.2
  intro nn
  induction nn with
  | zero => refine ⟨?_, ?_, ?_, ?_, ?_⟩ <;> (intros; omega)
  | succ nn ih =>
    refine ⟨?_, ?_, ?_, ?_, ?_⟩
    · intro M hS hdm hggd hnn
      refine n_bipush c_148_17 rfl ?_
      exact n_rI c_148_19 rfl ⟨hS, by omega, by omega⟩
    · intro x3 x4 M hS k1 k2 k3 k4 hdm hggd hnn
      refine n_iload c_148_25 rfl (n_aload_n c_148_27 rfl (n_getV (bi := 4) c_148_28 sc_112.n rfl rfl rfl (t_112_4 hS) ?_))
      intro z1 ez1 f2
      refine n_if2_ge c_148_31 (by omega) (by omega) ?_ ?_
      · intro h3
        refine n_aload_n c_148_59 rfl (n_getV (bi := 4) c_148_60 sc_112.n rfl rfl rfl (t_112_4 hS) ?_)
        intro z4 ez4 f5
        refine n_bipush c_148_63 rfl ?_
        refine n_if2_eq c_148_65 (by omega) (by omega) ?_ ?_
        · intro h6
          refine n_fg (le_n (le_n (le_n (le_n (le_n (le_n le_0)))))) ?_
          exact ih.2.2.1  M hS (by omega) (by omega) (by omega)
        · intro h7
          refine n_iload_n c_148_68 rfl (n_iconst c_148_69 ?_)
          refine n_if2_ne c_148_70 (by omega) (by omega) ?_ ?_
          · intro h8
            refine n_fg (le_s (le_s (le_s (le_n (le_n (le_n le_0)))))) ?_
            exact ih.2.2.2.1  M hS (by omega) (by omega) (by omega) (by omega) (by omega) (by omega)
          · intro h9
            refine n_iload_n c_148_73 rfl (n_iconst c_148_74 ?_)
            refine n_if2_ne c_148_75 (by omega) (by omega) ?_ ?_
            · intro h10
              refine n_fg (le_s (le_s (le_s (le_n (le_n (le_n le_0)))))) ?_
              exact ih.2.2.2.1  M hS (by omega) (by omega) (by omega) (by omega) (by omega) (by omega)
            · intro h11
              refine n_fg (le_n (le_n (le_n (le_n (le_n (le_n le_0)))))) ?_
              exact ih.2.2.1  M hS (by omega) (by omega) (by omega)
      · intro h12
        refine n_iload_n c_148_34 rfl (n_aload_n c_148_35 rfl (n_getR c_148_36 sc_112.n rfl rfl rfl r_112_5 (n_iload c_148_39 rfl (n_ialoadV c_148_41 sc_116.n rfl rfl rfl (by omega) (t_116 hS (by omega)) ?_))))
        intro z13 ez13 f14
        refine n_iconst c_148_42 ?_
        refine n_if2_ne c_148_43 (by omega) (by omega) ?_ ?_
        · intro h15
          refine n_iconst c_148_50 (n_iadd c_148_51 rfl (n_istore_n (L2 := [some (2, 112), some (0, k), some (0, s), some (0, (x3 + 0)), some (0, x4), none]) c_148_52 rfl rfl (n_iinc (L2 := [some (2, 112), some (0, k), some (0, s), some (0, (x3 + 0)), some (0, (x4 + 1)), none]) c_148_53 rfl rfl rfl (n_goto c_148_56 (n_fg (le_s (le_s (le_s (le_s (le_s (le_n le_0)))))) ?_)))))
          exact ih.2.1 _ _ M hS (by omega) (by omega) (by omega) (by omega) (by omega) (by omega) (by omega)
        · intro h16
          refine n_iconst c_148_46 (n_goto c_148_47 (n_iadd c_148_51 rfl (n_wrap ?_)))
          have f17 := n_wr_r (x3 + 1)
          generalize n_wr (x3 + 1) = z18 at f17 ⊢
          refine n_istore_n (L2 := [some (2, 112), some (0, k), some (0, s), some (0, z18), some (0, x4), none]) c_148_52 rfl rfl (n_iinc (L2 := [some (2, 112), some (0, k), some (0, s), some (0, z18), some (0, (x4 + 1)), none]) c_148_53 rfl rfl rfl (n_goto c_148_56 (n_fg (le_s (le_s (le_s (le_s (le_s (le_n le_0)))))) ?_)))
          exact ih.2.1 _ _ M hS (by omega) (by omega) (by omega) (by omega) (by omega) (by omega) (by omega)
    · intro M hS hdm hggd hnn
      refine n_bipush c_148_78 rfl ?_
      exact n_rI c_148_80 rfl ⟨hS, by omega, by omega⟩
    · intro M hS k1 k2 hdm hggd v0 hnn
      refine n_aload_n c_148_81 rfl (n_getR c_148_82 sc_112.n rfl rfl rfl r_112_1 (n_iload_n c_148_85 rfl (n_ialoadV c_148_86 sc_113.n rfl rfl rfl (by omega) (t_113 hS (by omega)) ?_)))
      intro z1 ez1 f2
      refine n_if0_ne c_148_87 (by omega) ?_ ?_
      · intro h3
        refine n_aload_n c_148_93 rfl (n_getV (bi := 0) c_148_94 sc_112.n rfl rfl rfl (show 2 ≤ M 112 0 ∧ M 112 0 ≤ 2 by omega) ?_)
        intro z4 ez4 f5
        obtain rfl : z4 = 2 := by omega
        refine n_iload_n c_148_97 rfl (n_s2I c_148_98 rfl rfl rfl rfl (mpowerU3_2 (n := k) hS (by omega)) ?_)
        intro z6 M7 hP8
        obtain ⟨eM, f8⟩ := hP8
        subst eM
        refine n_istore (L2 := [some (2, 112), some (0, k), some (0, s), none, some (0, z6), none]) c_148_101 rfl rfl (n_iconst c_148_103 (n_istore (L2 := [some (2, 112), some (0, k), some (0, s), none, some (0, z6), some (0, 0)]) c_148_104 rfl rfl (n_fg (le_s (le_s (le_s (le_n (le_s (le_s le_0)))))) ?_)))
        exact ih.2.2.2.2 _ _ M hS (by omega) (by omega) (by omega) (by omega) (by omega) (by omega) (by omega) (by omega)
      · intro h9
        refine n_bipush c_148_90 rfl ?_
        exact n_rI c_148_92 rfl ⟨hS, by omega, by omega⟩
    · intro x4 x5 M hS k1 k2 k4 k5 hdm hggd v0 hnn
      refine n_iload c_148_106 rfl (n_iload c_148_108 rfl ?_)
      refine n_if2_ge c_148_110 (by omega) (by omega) ?_ ?_
      · intro h1
        refine n_aload_n c_148_185 rfl (n_getR c_148_186 sc_112.n rfl rfl rfl r_112_5 (n_aload_n c_148_189 rfl (n_getV (bi := 4) c_148_190 sc_112.n rfl rfl rfl (t_112_4 hS) ?_)))
        intro z2 ez2 f3
        refine n_iload_n c_148_193 rfl (n_iastoreM hS c_148_194 sc_116.n rfl (by omega) (m_116 (by omega) (by omega)) ?_)
        intro M4 eM4 hS4
        have g4_0 : M4 112 0 = M 112 0 := by rw [eM4]; exact nu_a (by omega)
        have g4_1 : M4 112 4 = M 112 4 := by rw [eM4]; exact nu_a (by omega)
        refine n_aload_n c_148_195 rfl (n_dup2 c_148_196 (n_getV (bi := 4) c_148_197 sc_112.n rfl rfl rfl (t_112_4 hS4) ?_))
        intro z5 ez5 f6
        refine n_iconst c_148_200 (n_iadd c_148_201 rfl (n_putM (bi := 4) hS4 c_148_202 sc_112.n rfl rfl rfl rfl (m_112_4 (by omega)) ?_))
        intro M7 eM7 hS7
        have g7_0 : M7 112 0 = M4 112 0 := by rw [eM7]; exact nu_i (by omega)
        have g7_1 : M7 112 4 = (z5 + 1) := by rw [eM7]; exact nu_s _ _ _ _
        refine n_aload_n c_148_205 rfl (n_v0V c_148_206 rfl sc_112.n rfl rfl rfl rfl (changed_2  hS7 (by omega)) ?_)
        intro  M8 hP9
        have hS8 := hP9
        have hS8c := hS8.2.2.2.1.1
        have hS8 := hS8.refl
        have hS8k0 := hS8c 112 0 (by unfold core; omega)
        have hS8k1 := hS8c 112 4 (by unfold core; omega)
        refine n_aload_n c_148_209 rfl (n_getV (bi := 4) c_148_210 sc_112.n rfl rfl rfl (t_112_4 hS8) ?_)
        intro z10 ez10 f11
        refine n_iconst c_148_213 (n_isub c_148_214 rfl ?_)
        exact n_rI c_148_215 rfl ⟨hS8, by omega, by omega⟩
      · intro h12
        refine n_iload c_148_113 rfl (n_aload_n c_148_115 rfl (n_getR c_148_116 sc_112.n rfl rfl rfl r_112_1 (n_iload_n c_148_119 rfl (n_ialoadV c_148_120 sc_113.n rfl rfl rfl (by omega) (t_113 hS (by omega)) ?_))))
        intro z13 ez13 f14
        refine n_iconst c_148_121 (n_isub c_148_122 rfl ?_)
        refine n_if2_lt c_148_123 (by omega) (by omega) ?_ ?_
        · intro h15
          refine n_aload_n c_148_129 rfl (n_aload_n c_148_130 rfl (n_getR c_148_131 sc_112.n rfl rfl rfl r_112_3 (n_bipush c_148_134 rfl (n_iload_n c_148_136 rfl (n_imul c_148_137 rfl (n_iload c_148_138 rfl (n_iadd c_148_140 rfl (n_laloadV c_148_141 sc_115.n rfl rfl rfl (by omega) (t_115 hS (by omega)) ?_))))))))
          intro z16 ez16 f17
          refine n_v1I c_148_142 rfl sc_112.n rfl rfl rfl rfl (misThing_2 (v := z16) hS (by omega) (by omega)) ?_
          intro z18 M19 hP20
          obtain ⟨eM, f20, f20p0⟩ := hP20
          subst eM
          refine n_if0_ne c_148_145 (by omega) ?_ ?_
          · intro h21
            refine n_aload_n c_148_151 rfl (n_getR c_148_152 sc_112.n rfl rfl rfl r_112_6 (n_bipush c_148_155 rfl (n_aload_n c_148_157 rfl (n_getV (bi := 4) c_148_158 sc_112.n rfl rfl rfl (t_112_4 hS) ?_))))
            intro z22 ez22 f23
            refine n_imul c_148_161 rfl (n_iload c_148_162 rfl (n_iadd c_148_164 rfl (n_aload_n c_148_165 rfl (n_getR c_148_166 sc_112.n rfl rfl rfl r_112_3 (n_bipush c_148_169 rfl (n_iload_n c_148_171 rfl (n_imul c_148_172 rfl (n_iload c_148_173 rfl (n_iadd c_148_175 rfl (n_laloadV c_148_176 sc_115.n rfl rfl rfl (by omega) (t_115 hS (by omega)) ?_))))))))))
            intro z24 ez24 f25
            refine n_l2i c_148_177 (n_iastoreM hS c_148_178 sc_117.n rfl (by omega) (m_117 (by omega) (by omega)) ?_)
            intro M26 eM26 hS26
            have g26_0 : M26 112 0 = M 112 0 := by rw [eM26]; exact nu_a (by omega)
            have g26_1 : M26 112 4 = M 112 4 := by rw [eM26]; exact nu_a (by omega)
            have g26_2 : M26 115 ((40 * s) + x5) = M 115 ((40 * s) + x5) := by rw [eM26]; exact nu_a (by omega)
            refine n_iinc (L2 := [some (2, 112), some (0, k), some (0, s), none, some (0, x4), some (0, (x5 + 1))]) c_148_179 rfl rfl rfl (n_goto c_148_182 (n_fg (le_s (le_s (le_s (le_n (le_s (le_s le_0)))))) ?_))
            exact ih.2.2.2.2 _ _ M26 hS26 (by omega) (by omega) (by omega) (by omega) (by omega) (by omega) (by omega) (by omega)
          · intro h27
            refine n_bipush c_148_148 rfl ?_
            exact n_rI c_148_150 rfl ⟨hS, by omega, by omega⟩
        · intro h28
          refine n_bipush c_148_126 rfl ?_
          exact n_rI c_148_128 rfl ⟨hS, by omega, by omega⟩
set_option maxHeartbeats 4000000 in
theorem mactG_2 {xs : List Int32} {e : Nat} {ac : Int} {M : nM} {k s gd : Int} (hS : Sf 2 ac M M) (hdm : M 112 0 = 2) (hk : -2147483648 ≤ k ∧ k ≤ 2147483647) (hs : -2147483648 ≤ s ∧ s ≤ 2147483647) (hgd : M 112 0 = gd) : nW xs (e + 1) 148 0 [some (2, 112), some (0, k), some (0, s), none, none, none] [] M (nPI fun z M1 => Sf 2 ac M1 M1 ∧ (-2147483648 ≤ z ∧ z ≤ 2147483647) ∧ (M1 112 0 = gd)) := by
  have hd : (2 : Int) = 2 ∨ (2 : Int) = 3 := by decide
  have hac := hS.2.2.2.2
  refine n_iload_n c_148_0 rfl (n_s1I c_148_1 rfl rfl rfl rfl (misSlot_2 (s := s) hS (by omega)) ?_)
  intro z1 M2 hP3
  obtain ⟨eM, f3, f3p0⟩ := hP3
  subst eM
  refine n_if0_eq c_148_4 (by omega) ?_ ?_
  · intro h4
    refine n_fg (le_n (le_n (le_n (le_n (le_n (le_n le_0)))))) ?_
    exact (mactG_2_c hS hdm hk hs hgd 56).1  M hS (by omega) (by omega) (by omega)
  · intro h5
    refine n_iload_n c_148_7 rfl (n_iconst c_148_8 ?_)
    refine n_if2_lt c_148_9 (by omega) (by omega) ?_ ?_
    · intro h6
      refine n_fg (le_n (le_n (le_n (le_n (le_n (le_n le_0)))))) ?_
      exact (mactG_2_c hS hdm hk hs hgd 56).1  M hS (by omega) (by omega) (by omega)
    · intro h7
      refine n_iload_n c_148_12 rfl (n_iconst c_148_13 ?_)
      refine n_if2_le c_148_14 (by omega) (by omega) ?_ ?_
      · intro h8
        refine n_iconst c_148_20 (n_istore_n (L2 := [some (2, 112), some (0, k), some (0, s), some (0, 0), none, none]) c_148_21 rfl rfl (n_iconst c_148_22 (n_istore (L2 := [some (2, 112), some (0, k), some (0, s), some (0, 0), some (0, 0), none]) c_148_23 rfl rfl (n_fg (le_s (le_s (le_s (le_s (le_s (le_n le_0)))))) ?_))))
        exact (mactG_2_c hS hdm hk hs hgd 56).2.1 _ _ M hS (by omega) (by omega) (by omega) (by omega) (by omega) (by omega) (by omega)
      · intro h9
        refine n_fg (le_n (le_n (le_n (le_n (le_n (le_n le_0)))))) ?_
        exact (mactG_2_c hS hdm hk hs hgd 56).1  M hS (by omega) (by omega) (by omega)

set_option maxHeartbeats 4000000 in
theorem fillW53_2_c {xs : List Int32} {e : Nat} {ac : Int} {M : nM} {Ms : nM} (hS : Sw 2 ac M) (hf : ∀ a i : Int, a ≠ 53 → M a i = Ms a i) : ∀ nn : Nat, (∀ (x2 x3 : Int) (M : nM), Sw 2 ac M → (0 ≤ x2 ∧ x2 ≤ 27) → (27 ≤ x3 ∧ x3 ≤ 27) → (∀ a i : Int, a ≠ 53 → M a i = Ms a i) → (27 - x2) * 1 + 1 < (nn : Int) → nW xs e 208 5 [some (2, 53), some (0, 0), some (0, x2), some (0, x3)] [] M (nPV fun M1 => Sw 2 ac M1 ∧ (∀ a i : Int, a ≠ 53 → M1 a i = Ms a i))) := by
  have hd : (2 : Int) = 2 ∨ (2 : Int) = 3 := by decide
  have hac := hS.2.2.2.2
  intro nn
  induction nn with
  | zero => intros; omega
  | succ nn ih =>
    intro x2 x3 M hS k2 k3 v0 hnn
    refine n_iload_n c_208_5 rfl (n_iload_n c_208_6 rfl ?_)
    refine n_if2_ge c_208_7 (by omega) (by omega) ?_ ?_
    · intro h1
      exact n_rV c_208_20 rfl ⟨hS, by assumption⟩
    · intro h2
      refine n_aload_n c_208_10 rfl (n_iload_n c_208_11 rfl (n_iload_n c_208_12 rfl (n_iastoreW hS c_208_13 sc_53.n rfl (by omega) (fun h => h.m (m_53 (by omega) (by omega))) ?_)))
      intro M3 eM3 hS3
      refine n_iinc (L2 := [some (2, 53), some (0, 0), some (0, (x2 + 1)), some (0, x3)]) c_208_14 rfl rfl rfl (n_goto c_208_17 (n_fg (le_s (le_s (le_s (le_s le_0)))) ?_))
      exact ih _ _ M3 hS3 (by omega) (by omega) (by exact fun a i ha => by rw [eM3, nu_a ha]; exact v0 a i ha) (by omega)
set_option maxHeartbeats 4000000 in
theorem fillW53_2 {xs : List Int32} {e : Nat} {ac : Int} {M : nM} {Ms : nM} (hS : Sw 2 ac M) (hf : ∀ a i : Int, a ≠ 53 → M a i = Ms a i) : nW xs e 208 0 [some (2, 53), some (0, 0), none, none] [] M (nPV fun M1 => Sw 2 ac M1 ∧ (∀ a i : Int, a ≠ 53 → M1 a i = Ms a i)) := by
  have hd : (2 : Int) = 2 ∨ (2 : Int) = 3 := by decide
  have hac := hS.2.2.2.2
  refine n_iconst c_208_0 (n_istore_n (L2 := [some (2, 53), some (0, 0), some (0, 0), none]) c_208_1 rfl rfl (n_aload_n c_208_2 rfl (n_alen c_208_3 sc_53.n rfl (n_istore_n (L2 := [some (2, 53), some (0, 0), some (0, 0), some (0, ((27 : Nat) : Int))]) c_208_4 rfl rfl (n_fg (le_s (le_s (le_s (le_s le_0)))) ?_)))))
  exact (fillW53_2_c hS hf 68) _ _ M hS (by omega) (by omega) (by exact hf) (by omega)

set_option maxHeartbeats 4000000 in
theorem forgetW_2_c {xs : List Int32} {e : Nat} {ac : Int} {M : nM} {Ms : nM} (hS : Sw 2 ac M) (hf : ∀ a i : Int, (a < 103 ∨ 111 < a) → M a i = Ms a i) : ∀ nn : Nat, (∀ (x1 : Int) (M : nM), Sw 2 ac M → (0 ≤ x1 ∧ x1 ≤ 3) → (∀ a i : Int, (a < 103 ∨ 111 < a) → M a i = Ms a i) → (3 - x1) * 1 + 1 < (nn : Int) → nW xs e 123 2 [some (2, 3), some (0, x1)] [] M (nPV fun M1 => Sw 2 ac M1 ∧ (∀ a i : Int, (a < 103 ∨ 111 < a) → M1 a i = Ms a i))) := by
  have hd : (2 : Int) = 2 ∨ (2 : Int) = 3 := by decide
  have hac := hS.2.2.2.2
  intro nn
  induction nn with
  | zero => intros; omega
  | succ nn ih =>
    intro x1 M hS k1 v0 hnn
    refine n_iload_n c_123_2 rfl (n_iconst c_123_3 ?_)
    refine n_if2_ge c_123_4 (by omega) (by omega) ?_ ?_
    · intro h1
      exact n_rV c_123_23 rfl ⟨hS, by assumption⟩
    · intro h2
      refine n_aload_n c_123_7 rfl (n_getR c_123_8 sc_3.n rfl rfl rfl r_3_4 (n_iload_n c_123_11 rfl (n_aaload c_123_12 sc_14.n rfl rfl rfl (by omega) (r_made _) ?_)))
      have q3 : MadeAt (103 + 3 * x1) := by unfold MadeAt; omega
      refine n_iconst c_123_13 (n_putZW (bi := 0) hS c_123_14 q3.c0.1.n rfl rfl rfl (by omega) rfl (fun h => h.m (mok_made q3 (by omega) (by omega))) ?_)
      intro M4 eM4 hS4
      have g4_0 : M4 (103 + 3 * x1) 0 = 0 := by rw [eM4]; exact nu_s _ _ _ _
      refine n_iinc (L2 := [some (2, 3), some (0, (x1 + 1))]) c_123_17 rfl rfl rfl (n_goto c_123_20 (n_fg (le_s (le_s le_0)) ?_))
      exact ih _ M4 hS4 (by omega) (by exact fun a i ha => by rw [eM4, nu_a (by omega)]; exact v0 a i ha) (by omega)
set_option maxHeartbeats 4000000 in
theorem forgetW_2 {xs : List Int32} {e : Nat} {ac : Int} {M : nM} {Ms : nM} (hS : Sw 2 ac M) (hf : ∀ a i : Int, (a < 103 ∨ 111 < a) → M a i = Ms a i) : nW xs e 123 0 [some (2, 3), none] [] M (nPV fun M1 => Sw 2 ac M1 ∧ (∀ a i : Int, (a < 103 ∨ 111 < a) → M1 a i = Ms a i)) := by
  have hd : (2 : Int) = 2 ∨ (2 : Int) = 3 := by decide
  have hac := hS.2.2.2.2
  refine n_iconst c_123_0 (n_istore_n (L2 := [some (2, 3), some (0, 0)]) c_123_1 rfl rfl (n_fg (le_s (le_s le_0)) ?_))
  exact (forgetW_2_c hS hf 20) _ M hS (by omega) (by exact hf) (by omega)

set_option maxHeartbeats 4000000 in
theorem rstartW_2 {xs : List Int32} {e : Nat} {ac : Int} {M : nM} (hS : Sw 2 ac M)  : nW xs e 74 0 [some (2, 32), some (0, 1)] [] M (nPV fun M1 => Sw 2 ac M1 ∧ (∀ a i : Int, a ≠ 32 → M1 a i = M a i)) := by
  have hd : (2 : Int) = 2 ∨ (2 : Int) = 3 := by decide
  have hac := hS.2.2.2.2
  refine n_aload_n c_74_0 rfl (n_iload_n c_74_1 rfl (n_putW (bi := 0) hS c_74_2 sc_32.n rfl rfl rfl rfl (fun h => h.m (m_32_0 (by omega))) ?_))
  intro M1 eM1 hS1
  have g1_0 : M1 32 0 = 1 := by rw [eM1]; exact nu_s _ _ _ _
  refine n_aload_n c_74_5 rfl (n_iconst c_74_6 (n_putW (bi := 1) hS1 c_74_7 sc_32.n rfl rfl rfl rfl (fun h => h.m (m_32_1 (by omega))) ?_))
  intro M2 eM2 hS2
  have g2_0 : M2 32 0 = M1 32 0 := by rw [eM2]; exact nu_i (by omega)
  have g2_1 : M2 32 1 = 0 := by rw [eM2]; exact nu_s _ _ _ _
  exact n_rV c_74_10 rfl ⟨hS2, by exact fun a i ha => by rw [eM2, nu_a ha, eM1, nu_a ha]⟩

set_option maxHeartbeats 4000000 in
theorem baseSet2_2_c {xs : List Int32} {e : Nat} {ac : Int} {M : nM} {Ms : nM} (hS : Sw 2 ac M) (hb3 : B3 M) (hms : M = Ms) : ∀ nn : Nat, (∀ (x2 x3 : Int) (M : nM), Sw 2 ac M → (0 ≤ x2 ∧ x2 ≤ 8) → (0 ≤ x3 ∧ x3 ≤ 2) → (BS 2 x2 Ms M) → (x2 = 4 * x3) → (2 - x3) * 21 + 21 < (nn : Int) → nW xs e 11 27 [some (2, 4), none, some (0, x2), some (0, x3), none, none] [] M (nPV fun M1 => Sw 2 ac M1 ∧ (BS 2 (2 * 2 * 2) Ms M1))) ∧ (∀ (x2 x3 x4 : Int) (M : nM), Sw 2 ac M → (0 ≤ x2 ∧ x2 ≤ 8) → (0 ≤ x3 ∧ x3 ≤ 1) → (0 ≤ x4 ∧ x4 ≤ 2) → (BS 2 x2 Ms M) → (x2 = 4 * x3 + 2 * x4) → (2 - x3) * 21 + (2 - x4) * 5 + 5 < (nn : Int) → nW xs e 11 38 [some (2, 4), none, some (0, x2), some (0, x3), some (0, x4), none] [] M (nPV fun M1 => Sw 2 ac M1 ∧ (BS 2 (2 * 2 * 2) Ms M1))) ∧ (∀ (x2 x3 x4 x5 : Int) (M : nM), Sw 2 ac M → (0 ≤ x2 ∧ x2 ≤ 8) → (0 ≤ x3 ∧ x3 ≤ 1) → (0 ≤ x4 ∧ x4 ≤ 1) → (0 ≤ x5 ∧ x5 ≤ 2) → (BS 2 x2 Ms M) → (x2 = 4 * x3 + 2 * x4 + x5) → (2 - x3) * 21 + (2 - x4) * 5 + (2 - x5) * 1 + 1 < (nn : Int) → nW xs e 11 50 [some (2, 4), none, some (0, x2), some (0, x3), some (0, x4), some (0, x5)] [] M (nPV fun M1 => Sw 2 ac M1 ∧ (BS 2 (2 * 2 * 2) Ms M1))) := by
  have hd : (2 : Int) = 2 ∨ (2 : Int) = 3 := by decide
  have hac := hS.2.2.2.2
  intro nn
  induction nn with
  | zero => refine ⟨?_, ?_, ?_⟩ <;> (intros; omega)
  | succ nn ih =>
    refine ⟨?_, ?_, ?_⟩
    · intro x2 x3 M hS k2 k3 v0 v1 hnn
      have hb4 := v0.1
      refine n_iload_n c_11_27 rfl (n_aload_n c_11_28 rfl (n_getV (bi := 0) c_11_29 sc_4.n rfl rfl rfl (show 2 ≤ M 4 0 ∧ M 4 0 ≤ 2 by omega) ?_))
      intro z1 ez1 f2
      obtain rfl : z1 = 2 := by omega
      refine n_if2_ge c_11_32 (by omega) (by omega) ?_ ?_
      · intro h3
        exact n_rV c_11_103 rfl ⟨hS, by have q : x2 = 2 * 2 * 2 := (by omega); rw [q] at v0; exact v0⟩
      · intro h4
        refine n_iconst c_11_35 (n_istore (L2 := [some (2, 4), none, some (0, x2), some (0, x3), some (0, 0), none]) c_11_36 rfl rfl (n_fg (le_s (le_n (le_s (le_s (le_s (le_n le_0)))))) ?_))
        exact ih.2.1 _ _ _ M hS (by omega) (by omega) (by omega) (by exact v0) (by omega) (by omega)
    · intro x2 x3 x4 M hS k2 k3 k4 v0 v1 hnn
      have hb4 := v0.1
      refine n_iload c_11_38 rfl (n_aload_n c_11_40 rfl (n_getV (bi := 0) c_11_41 sc_4.n rfl rfl rfl (show 2 ≤ M 4 0 ∧ M 4 0 ≤ 2 by omega) ?_))
      intro z1 ez1 f2
      obtain rfl : z1 = 2 := by omega
      refine n_if2_ge c_11_44 (by omega) (by omega) ?_ ?_
      · intro h3
        refine n_iinc (L2 := [some (2, 4), none, some (0, x2), some (0, (x3 + 1)), some (0, x4), none]) c_11_97 rfl rfl rfl (n_goto c_11_100 (n_fg (le_s (le_n (le_s (le_s (le_n (le_n le_0)))))) ?_))
        exact ih.1 _ _ M hS (by omega) (by omega) (by exact v0) (by omega) (by omega)
      · intro h4
        refine n_iconst c_11_47 (n_istore (L2 := [some (2, 4), none, some (0, x2), some (0, x3), some (0, x4), some (0, 0)]) c_11_48 rfl rfl (n_fg (le_s (le_n (le_s (le_s (le_s (le_s le_0)))))) ?_))
        exact ih.2.2 _ _ _ _ M hS (by omega) (by omega) (by omega) (by omega) (by exact v0) (by omega) (by omega)
    · intro x2 x3 x4 x5 M hS k2 k3 k4 k5 v0 v1 hnn
      have hb4 := v0.1
      refine n_iload c_11_50 rfl (n_aload_n c_11_52 rfl (n_getV (bi := 0) c_11_53 sc_4.n rfl rfl rfl (show 2 ≤ M 4 0 ∧ M 4 0 ≤ 2 by omega) ?_))
      intro z1 ez1 f2
      obtain rfl : z1 = 2 := by omega
      refine n_if2_ge c_11_56 (by omega) (by omega) ?_ ?_
      · intro h3
        refine n_iinc (L2 := [some (2, 4), none, some (0, x2), some (0, x3), some (0, (x4 + 1)), some (0, x5)]) c_11_91 rfl rfl rfl (n_goto c_11_94 (n_fg (le_s (le_n (le_s (le_s (le_s (le_n le_0)))))) ?_))
        exact ih.2.1 _ _ _ M hS (by omega) (by omega) (by omega) (by exact v0) (by omega) (by omega)
      · intro h4
        refine n_aload_n c_11_59 rfl (n_getR c_11_60 sc_4.n rfl rfl rfl r_4_2 (n_iload_n c_11_63 rfl (n_iload_n c_11_64 rfl ?_)))
        refine n_iastoreW hS c_11_65 sc_5.n rfl (by omega) (fun h => h.s (by unfold sp; omega)) ?_
        intro M5 eM5 hS5
        have g5_0 : M5 4 0 = M 4 0 := by rw [eM5]; exact nu_a (by omega)
        refine n_aload_n c_11_66 rfl (n_getR c_11_67 sc_4.n rfl rfl rfl r_4_3 (n_iload_n c_11_70 rfl (n_iload c_11_71 rfl ?_)))
        refine n_iastoreW hS5 c_11_73 sc_6.n rfl (by omega) (fun h => h.s (by unfold sp; omega)) ?_
        intro M6 eM6 hS6
        have g6_0 : M6 4 0 = M5 4 0 := by rw [eM6]; exact nu_a (by omega)
        refine n_aload_n c_11_74 rfl (n_getR c_11_75 sc_4.n rfl rfl rfl r_4_4 (n_iload_n c_11_78 rfl (n_iload c_11_79 rfl ?_)))
        refine n_iastoreW hS6 c_11_81 sc_7.n rfl (by omega) (fun h => h.s (by unfold sp; omega)) ?_
        intro M7 eM7 hS7
        have g7_0 : M7 4 0 = M6 4 0 := by rw [eM7]; exact nu_a (by omega)
        refine n_iinc (L2 := [some (2, 4), none, some (0, (x2 + 1)), some (0, x3), some (0, x4), some (0, x5)]) c_11_82 rfl rfl rfl (n_iinc (L2 := [some (2, 4), none, some (0, (x2 + 1)), some (0, x3), some (0, x4), some (0, (x5 + 1))]) c_11_85 rfl rfl rfl (n_goto c_11_88 (n_fg (le_s (le_n (le_s (le_s (le_s (le_s le_0)))))) ?_)))
        exact ih.2.2 _ _ _ _ M7 hS7 (by omega) (by omega) (by omega) (by omega) (by exact BS.step v0 eM5 eM6 eM7 (by omega) (by omega) (by omega) (by omega) (by omega) (by omega)) (by omega) (by omega)
set_option maxHeartbeats 4000000 in
theorem baseSet2_2 {xs : List Int32} {e : Nat} {ac : Int} {M : nM} {Ms : nM} (hS : Sw 2 ac M) (hb3 : B3 M) (hms : M = Ms) : nW xs e 11 0 [some (2, 4), some (0, 2), none, none, none, none] [] M (nPV fun M1 => Sw 2 ac M1 ∧ (BS 2 (2 * 2 * 2) Ms M1)) := by
  have hd : (2 : Int) = 2 ∨ (2 : Int) = 3 := by decide
  have hac := hS.2.2.2.2
  refine n_aload_n c_11_0 rfl (n_iload_n c_11_1 rfl ?_)
  refine n_putW (bi := 0) hS c_11_2 sc_4.n rfl rfl rfl rfl (fun h => h.s (by unfold sp; omega)) ?_
  intro M1 eM1 hS1
  have g1_0 : M1 4 0 = 2 := by rw [eM1]; exact nu_s _ _ _ _
  refine n_aload_n c_11_5 rfl (n_aload_n c_11_6 rfl (n_getV (bi := 0) c_11_7 sc_4.n rfl rfl rfl (show 2 ≤ M1 4 0 ∧ M1 4 0 ≤ 2 by omega) ?_))
  intro z2 ez2 f3
  obtain rfl : z2 = 2 := by omega
  refine n_aload_n c_11_10 rfl (n_getV (bi := 0) c_11_11 sc_4.n rfl rfl rfl (show 2 ≤ M1 4 0 ∧ M1 4 0 ≤ 2 by omega) ?_)
  intro z4 ez4 f5
  obtain rfl : z4 = 2 := by omega
  refine n_imul c_11_14 rfl (n_aload_n c_11_15 rfl (n_getV (bi := 0) c_11_16 sc_4.n rfl rfl rfl (show 2 ≤ M1 4 0 ∧ M1 4 0 ≤ 2 by omega) ?_))
  intro z6 ez6 f7
  obtain rfl : z6 = 2 := by omega
  refine n_imul c_11_19 rfl ?_
  refine n_putW (bi := 1) hS1 c_11_20 sc_4.n rfl rfl rfl rfl (fun h => h.s (by unfold sp; omega)) ?_
  intro M8 eM8 hS8
  have g8_0 : M8 4 0 = M1 4 0 := by rw [eM8]; exact nu_i (by omega)
  have g8_1 : M8 4 1 = ((2 * 2) * 2) := by rw [eM8]; exact nu_s _ _ _ _
  refine n_iconst c_11_23 (n_istore_n (L2 := [some (2, 4), some (0, 2), some (0, 0), none, none, none]) c_11_24 rfl rfl (n_iconst c_11_25 (n_istore_n (L2 := [some (2, 4), some (0, 2), some (0, 0), some (0, 0), none, none]) c_11_26 rfl rfl (n_fg (le_s (le_n (le_s (le_s (le_n (le_n le_0)))))) ?_))))
  exact (baseSet2_2_c hS hb3 hms 178).1 _ _ M8 hS8 (by omega) (by omega) (by subst hms; exact BS.init hb3 eM1 eM8) (by omega) (by omega)

set_option maxHeartbeats 4000000 in
theorem weighW2_2 {xs : List Int32} {e : Nat} {ac : Int} {M : nM} {Ms : nM} (hS : Sw 2 ac M) (hf : ∀ a i : Int, a ≠ 52 → a ≠ 53 → M a i = Ms a i) (hf5 : ∀ i : Int, M 52 i = Ms 52 i) : nW xs (e + 1) 44 0 [some (2, 52), some (0, 4), some (0, 2), some (0, 1)] [] M (nPV fun M1 => Sw 2 ac M1 ∧ (∀ a i : Int, a ≠ 52 → a ≠ 53 → M1 a i = Ms a i) ∧ (M1 52 1 = 4 ∧ M1 52 2 = 2 ∧ M1 52 3 = 1) ∧ (∀ i : Int, i ≠ 1 → i ≠ 2 → i ≠ 3 → M1 52 i = Ms 52 i)) := by
  have hd : (2 : Int) = 2 ∨ (2 : Int) = 3 := by decide
  have hac := hS.2.2.2.2
  refine n_aload_n c_44_0 rfl (n_iload_n c_44_1 rfl ?_)
  refine n_putW (bi := 1) hS c_44_2 sc_52.n rfl rfl rfl rfl (fun h => h.s (by unfold sp; omega)) ?_
  intro M1 eM1 hS1
  have g1_0 : M1 52 1 = 4 := by rw [eM1]; exact nu_s _ _ _ _
  refine n_aload_n c_44_5 rfl (n_iload_n c_44_6 rfl ?_)
  refine n_putW (bi := 2) hS1 c_44_7 sc_52.n rfl rfl rfl rfl (fun h => h.s (by unfold sp; omega)) ?_
  intro M2 eM2 hS2
  have g2_0 : M2 52 1 = M1 52 1 := by rw [eM2]; exact nu_i (by omega)
  have g2_1 : M2 52 2 = 2 := by rw [eM2]; exact nu_s _ _ _ _
  refine n_aload_n c_44_10 rfl (n_iload_n c_44_11 rfl ?_)
  refine n_putW (bi := 3) hS2 c_44_12 sc_52.n rfl rfl rfl rfl (fun h => h.s (by unfold sp; omega)) ?_
  intro M3 eM3 hS3
  have g3_0 : M3 52 1 = M2 52 1 := by rw [eM3]; exact nu_i (by omega)
  have g3_1 : M3 52 2 = M2 52 2 := by rw [eM3]; exact nu_i (by omega)
  have g3_2 : M3 52 3 = 1 := by rw [eM3]; exact nu_s _ _ _ _
  refine n_aload_n c_44_15 rfl (n_getR c_44_16 sc_52.n rfl rfl rfl r_52_0 (n_iconst c_44_19 (n_s2V c_44_20 rfl rfl rfl rfl (fillW53_2 (Ms := M3) hS3 (by exact fun _ _ _ => rfl)) ?_)))
  intro  M4 hP5
  obtain ⟨hS4, f5p0⟩ := hP5
  exact n_rV c_44_23 rfl ⟨hS4, by exact fun a i h1 h2 => by rw [f5p0 a i h2]; simp only [eM3, eM2, eM1]; rw [nu_a h1, nu_a h1, nu_a h1]; exact hf a i h1 h2, by exact ⟨(by rw [f5p0 52 1 (by omega)]; simp only [eM3, eM2, eM1]; rw [nu_i (by omega), nu_i (by omega), nu_s]), (by rw [f5p0 52 2 (by omega)]; simp only [eM3, eM2, eM1]; rw [nu_i (by omega), nu_s]), (by rw [f5p0 52 3 (by omega)]; simp only [eM3, eM2, eM1]; rw [nu_s])⟩, by exact fun i h1 h2 h3 => by rw [f5p0 52 i (by omega)]; simp only [eM3, eM2, eM1]; rw [nu_i h3, nu_i h2, nu_i h1]; exact hf5 i⟩

set_option maxHeartbeats 4000000 in
theorem startOver2_2 {xs : List Int32} {e : Nat} {ac : Int} {M : nM} (hSf : Sf 2 ac M M)  : nW xs (e + 2) 122 0 [some (2, 3), some (0, 2)] [] M (nPV fun M1 => Sf 2 0 M1 M1 ∧ (M1 112 0 = M 112 0)) := by
  have hS := hSf.sw
  have hd : (2 : Int) = 2 ∨ (2 : Int) = 3 := by decide
  have hac := hS.2.2.2.2
  refine n_aload_n c_122_0 rfl (n_getR c_122_1 sc_3.n rfl rfl rfl r_3_0 (n_iload_n c_122_4 rfl (n_v1V c_122_5 rfl sc_4.n rfl rfl rfl rfl (baseSet2_2 (Ms := M) hS (by exact hSf.b3 hd) (by rfl)) ?_)))
  intro  M1 hP2
  obtain ⟨hS1, f2p0⟩ := hP2
  refine n_aload_n c_122_8 rfl (n_getR c_122_9 sc_3.n rfl rfl rfl r_3_12 (n_iload_n c_122_12 rfl (n_iload_n c_122_13 rfl (n_imul c_122_14 rfl (n_iload_n c_122_15 rfl (n_iconst c_122_16 ?_))))))
  have hcst : ((2 * 2) : Int) = 4 := by omega
  rw [hcst]
  refine n_v3V c_122_17 rfl sc_52.n rfl rfl rfl rfl (weighW2_2 (Ms := M1) hS1 (by exact fun _ _ _ _ => rfl) (by exact fun _ => rfl)) ?_
  intro  M3 hP4
  obtain ⟨hS3, f4p0, f4p1, f4p2⟩ := hP4
  refine n_aload_n c_122_20 rfl (n_iconst c_122_21 ?_)
  refine n_putW (bi := 14) hS3 c_122_22 sc_3.n rfl rfl rfl rfl (fun h => h.s (by unfold sp; omega)) ?_
  intro M5 eM5 hS5
  have g5_0 : M5 3 14 = 0 := by rw [eM5]; exact nu_s _ _ _ _
  refine n_aload_n c_122_25 rfl (n_iconst c_122_26 (n_putW (bi := 15) hS5 c_122_27 sc_3.n rfl rfl rfl rfl (fun h => h.m (m_3_15 (by omega))) ?_))
  intro M6 eM6 hS6
  have g6_0 : M6 3 14 = M5 3 14 := by rw [eM6]; exact nu_i (by omega)
  have g6_1 : M6 3 15 = 0 := by rw [eM6]; exact nu_s _ _ _ _
  refine n_aload_n c_122_30 rfl (n_v0V c_122_31 rfl sc_3.n rfl rfl rfl rfl (forgetW_2 (Ms := M6) hS6 (by exact fun _ _ _ => rfl)) ?_)
  intro  M7 hP8
  obtain ⟨hS7, f8p0⟩ := hP8
  refine n_aload_n c_122_34 rfl (n_iconst c_122_35 (n_putW (bi := 17) hS7 c_122_36 sc_3.n rfl rfl rfl rfl (fun h => h.m (m_3_17 (by omega))) ?_))
  intro M9 eM9 hS9
  have g9_0 : M9 3 17 = 0 := by rw [eM9]; exact nu_s _ _ _ _
  refine n_aload_n c_122_39 rfl (n_getR c_122_40 sc_3.n rfl rfl rfl r_3_6 (n_iconst c_122_43 (n_v1V c_122_44 rfl sc_32.n rfl rfl rfl rfl (rstartW_2  hS9 ) ?_)))
  intro  M10 hP11
  obtain ⟨hS10, f11p0⟩ := hP11
  refine n_aload_n c_122_47 rfl (n_iconst c_122_48 (n_putZW (bi := 18) hS10 c_122_49 sc_3.n rfl rfl rfl (by omega) rfl (fun h => h.m (m_3_18 (by omega))) ?_))
  intro M12 eM12 hS12
  have g12_0 : M12 3 18 = 0 := by rw [eM12]; exact nu_s _ _ _ _
  refine n_jk (v := 2 * 2 * 2) ?_
  intro My fy jy
  have A : ∀ a i : Int, a ≠ 3 → a ≠ 32 → (a < 103 ∨ 111 < a) → M12 a i = M3 a i := fun a i h1 h2 h3 => by rw [eM12, nu_a h1, f11p0 a i h2, eM9, nu_a h1, f8p0 a i h3, eM6, nu_a h1, eM5, nu_a h1]
  have B := f2p0.fr (M2 := My) (fun a i h1 h2 h3 => by rw [fy a i h3, A a i (by omega) (by omega) (by omega), f4p0 a i (by omega) (by omega)])
  have C52 : ∀ i : Int, My 52 i = M3 52 i := fun i => by rw [fy 52 i (by omega), A 52 i (by omega) (by omega) (by omega)]
  have C3 : My 3 14 = 0 := by rw [fy 3 14 (by omega), eM12, nu_i (by omega), f11p0 3 14 (by omega), eM9, nu_i (by omega), f8p0 3 14 (by omega), eM6, nu_i (by omega), eM5, nu_s]
  have C112 : My 112 0 = M 112 0 := by rw [fy 112 0 (by omega), A 112 0 (by omega) (by omega) (by omega), f4p0 112 0 (by omega) (by omega), f2p0.2.2.2.2 112 0 (by omega)]
  have C5 : ∀ i : Int, 0 ≤ i → i ≠ 1 → i ≠ 2 → My 52 i = 1 := fun i h0 h1 h2 => by
    rw [C52 i]
    by_cases h3 : i = 3
    · rw [h3]; exact f4p1.2.2
    · rw [f4p2 i h1 h2 h3, f2p0.2.2.2.2 52 i (by omega)]
      have t := hSf.1 52 i h0
      have u : tb 2 ac 52 i = if i = 1 then (2 * 2, 2 * 2) else if i = 2 then (2, 2) else (1, 1) := rfl
      rw [u, if_neg h1, if_neg h2] at t
      have t1 : (1 : Int) ≤ M 52 i := t.1
      have t2 : M 52 i ≤ (1 : Int) := t.2
      omega
  have D : Sf 2 0 My My := Sf.fromW (hS12.of (fun a i q => fy a i (fun w => q (by unfold sp; omega)))) hd B jy (by rw [C52]; have := f4p1.1; omega) (by rw [C52]; exact f4p1.2.1) C5 C3
  exact n_rV c_122_52 rfl ⟨D, C112⟩

set_option maxHeartbeats 4000000 in
theorem fresh2_2_c {xs : List Int32} {e : Nat} {ac : Int} {M : nM} (hS : Sf 2 ac M M)  : ∀ nn : Nat, (∀ (M : nM), Sf 2 ac M M → 1 < (nn : Int) → nW xs (e + 3) 93 12 [some (2, 3), some (0, 2)] [] M (nPI fun z M1 => Sf 2 0 M1 M1 ∧ (1 ≤ z ∧ z ≤ 1) ∧ (M1 112 0 = M 112 0))) := by
  have hd : (2 : Int) = 2 ∨ (2 : Int) = 3 := by decide
  have hac := hS.2.2.2.2
  intro nn
  induction nn with
  | zero => intros; omega
  | succ nn ih =>
    intro M hS hnn
    refine n_aload_n c_93_12 rfl (n_iload_n c_93_13 rfl (n_v1V c_93_14 rfl sc_3.n rfl rfl rfl rfl (startOver2_2  hS ) ?_))
    intro  M1 hP2
    obtain ⟨hS1, f2p0⟩ := hP2
    refine n_iconst c_93_17 ?_
    exact n_rZ c_93_18 rfl (by omega) ⟨hS1, by omega, by omega⟩
set_option maxHeartbeats 4000000 in
theorem fresh2_2 {xs : List Int32} {e : Nat} {ac : Int} {M : nM} (hS : Sf 2 ac M M)  : nW xs (e + 3) 93 0 [some (2, 3), some (0, 2)] [] M (nPI fun z M1 => Sf 2 0 M1 M1 ∧ (1 ≤ z ∧ z ≤ 1) ∧ (M1 112 0 = M 112 0)) := by
  have hd : (2 : Int) = 2 ∨ (2 : Int) = 3 := by decide
  have hac := hS.2.2.2.2
  refine n_iload_n c_93_0 rfl (n_iconst c_93_1 ?_)
  refine n_if2_eq c_93_2 (by omega) (by omega) ?_ ?_
  · intro h1
    refine n_fg (le_s (le_s le_0)) ?_
    exact (fresh2_2_c hS  12)  M hS  (by omega)
  · intro h2
    exfalso; omega

set_option maxHeartbeats 4000000 in
theorem baseSet3_2_c {xs : List Int32} {e : Nat} {ac : Int} {M : nM} {Ms : nM} (hS : Sw 2 ac M) (hb3 : B3 M) (hms : M = Ms) : ∀ nn : Nat, (∀ (x2 x3 : Int) (M : nM), Sw 2 ac M → (0 ≤ x2 ∧ x2 ≤ 27) → (0 ≤ x3 ∧ x3 ≤ 3) → (BS 3 x2 Ms M) → (x2 = 9 * x3) → (3 - x3) * 31 + 31 < (nn : Int) → nW xs e 11 27 [some (2, 4), none, some (0, x2), some (0, x3), none, none] [] M (nPV fun M1 => Sw 2 ac M1 ∧ (BS 3 (3 * 3 * 3) Ms M1))) ∧ (∀ (x2 x3 x4 : Int) (M : nM), Sw 2 ac M → (0 ≤ x2 ∧ x2 ≤ 27) → (0 ≤ x3 ∧ x3 ≤ 2) → (0 ≤ x4 ∧ x4 ≤ 3) → (BS 3 x2 Ms M) → (x2 = 9 * x3 + 3 * x4) → (3 - x3) * 31 + (3 - x4) * 6 + 6 < (nn : Int) → nW xs e 11 38 [some (2, 4), none, some (0, x2), some (0, x3), some (0, x4), none] [] M (nPV fun M1 => Sw 2 ac M1 ∧ (BS 3 (3 * 3 * 3) Ms M1))) ∧ (∀ (x2 x3 x4 x5 : Int) (M : nM), Sw 2 ac M → (0 ≤ x2 ∧ x2 ≤ 27) → (0 ≤ x3 ∧ x3 ≤ 2) → (0 ≤ x4 ∧ x4 ≤ 2) → (0 ≤ x5 ∧ x5 ≤ 3) → (BS 3 x2 Ms M) → (x2 = 9 * x3 + 3 * x4 + x5) → (3 - x3) * 31 + (3 - x4) * 6 + (3 - x5) * 1 + 1 < (nn : Int) → nW xs e 11 50 [some (2, 4), none, some (0, x2), some (0, x3), some (0, x4), some (0, x5)] [] M (nPV fun M1 => Sw 2 ac M1 ∧ (BS 3 (3 * 3 * 3) Ms M1))) := by
  have hd : (2 : Int) = 2 ∨ (2 : Int) = 3 := by decide
  have hac := hS.2.2.2.2
  intro nn
  induction nn with
  | zero => refine ⟨?_, ?_, ?_⟩ <;> (intros; omega)
  | succ nn ih =>
    refine ⟨?_, ?_, ?_⟩
    · intro x2 x3 M hS k2 k3 v0 v1 hnn
      have hb4 := v0.1
      refine n_iload_n c_11_27 rfl (n_aload_n c_11_28 rfl (n_getV (bi := 0) c_11_29 sc_4.n rfl rfl rfl (show 3 ≤ M 4 0 ∧ M 4 0 ≤ 3 by omega) ?_))
      intro z1 ez1 f2
      obtain rfl : z1 = 3 := by omega
      refine n_if2_ge c_11_32 (by omega) (by omega) ?_ ?_
      · intro h3
        exact n_rV c_11_103 rfl ⟨hS, by have q : x2 = 3 * 3 * 3 := (by omega); rw [q] at v0; exact v0⟩
      · intro h4
        refine n_iconst c_11_35 (n_istore (L2 := [some (2, 4), none, some (0, x2), some (0, x3), some (0, 0), none]) c_11_36 rfl rfl (n_fg (le_s (le_n (le_s (le_s (le_s (le_n le_0)))))) ?_))
        exact ih.2.1 _ _ _ M hS (by omega) (by omega) (by omega) (by exact v0) (by omega) (by omega)
    · intro x2 x3 x4 M hS k2 k3 k4 v0 v1 hnn
      have hb4 := v0.1
      refine n_iload c_11_38 rfl (n_aload_n c_11_40 rfl (n_getV (bi := 0) c_11_41 sc_4.n rfl rfl rfl (show 3 ≤ M 4 0 ∧ M 4 0 ≤ 3 by omega) ?_))
      intro z1 ez1 f2
      obtain rfl : z1 = 3 := by omega
      refine n_if2_ge c_11_44 (by omega) (by omega) ?_ ?_
      · intro h3
        refine n_iinc (L2 := [some (2, 4), none, some (0, x2), some (0, (x3 + 1)), some (0, x4), none]) c_11_97 rfl rfl rfl (n_goto c_11_100 (n_fg (le_s (le_n (le_s (le_s (le_n (le_n le_0)))))) ?_))
        exact ih.1 _ _ M hS (by omega) (by omega) (by exact v0) (by omega) (by omega)
      · intro h4
        refine n_iconst c_11_47 (n_istore (L2 := [some (2, 4), none, some (0, x2), some (0, x3), some (0, x4), some (0, 0)]) c_11_48 rfl rfl (n_fg (le_s (le_n (le_s (le_s (le_s (le_s le_0)))))) ?_))
        exact ih.2.2 _ _ _ _ M hS (by omega) (by omega) (by omega) (by omega) (by exact v0) (by omega) (by omega)
    · intro x2 x3 x4 x5 M hS k2 k3 k4 k5 v0 v1 hnn
      have hb4 := v0.1
      refine n_iload c_11_50 rfl (n_aload_n c_11_52 rfl (n_getV (bi := 0) c_11_53 sc_4.n rfl rfl rfl (show 3 ≤ M 4 0 ∧ M 4 0 ≤ 3 by omega) ?_))
      intro z1 ez1 f2
      obtain rfl : z1 = 3 := by omega
      refine n_if2_ge c_11_56 (by omega) (by omega) ?_ ?_
      · intro h3
        refine n_iinc (L2 := [some (2, 4), none, some (0, x2), some (0, x3), some (0, (x4 + 1)), some (0, x5)]) c_11_91 rfl rfl rfl (n_goto c_11_94 (n_fg (le_s (le_n (le_s (le_s (le_s (le_n le_0)))))) ?_))
        exact ih.2.1 _ _ _ M hS (by omega) (by omega) (by omega) (by exact v0) (by omega) (by omega)
      · intro h4
        refine n_aload_n c_11_59 rfl (n_getR c_11_60 sc_4.n rfl rfl rfl r_4_2 (n_iload_n c_11_63 rfl (n_iload_n c_11_64 rfl ?_)))
        refine n_iastoreW hS c_11_65 sc_5.n rfl (by omega) (fun h => h.s (by unfold sp; omega)) ?_
        intro M5 eM5 hS5
        have g5_0 : M5 4 0 = M 4 0 := by rw [eM5]; exact nu_a (by omega)
        refine n_aload_n c_11_66 rfl (n_getR c_11_67 sc_4.n rfl rfl rfl r_4_3 (n_iload_n c_11_70 rfl (n_iload c_11_71 rfl ?_)))
        refine n_iastoreW hS5 c_11_73 sc_6.n rfl (by omega) (fun h => h.s (by unfold sp; omega)) ?_
        intro M6 eM6 hS6
        have g6_0 : M6 4 0 = M5 4 0 := by rw [eM6]; exact nu_a (by omega)
        refine n_aload_n c_11_74 rfl (n_getR c_11_75 sc_4.n rfl rfl rfl r_4_4 (n_iload_n c_11_78 rfl (n_iload c_11_79 rfl ?_)))
        refine n_iastoreW hS6 c_11_81 sc_7.n rfl (by omega) (fun h => h.s (by unfold sp; omega)) ?_
        intro M7 eM7 hS7
        have g7_0 : M7 4 0 = M6 4 0 := by rw [eM7]; exact nu_a (by omega)
        refine n_iinc (L2 := [some (2, 4), none, some (0, (x2 + 1)), some (0, x3), some (0, x4), some (0, x5)]) c_11_82 rfl rfl rfl (n_iinc (L2 := [some (2, 4), none, some (0, (x2 + 1)), some (0, x3), some (0, x4), some (0, (x5 + 1))]) c_11_85 rfl rfl rfl (n_goto c_11_88 (n_fg (le_s (le_n (le_s (le_s (le_s (le_s le_0)))))) ?_)))
        exact ih.2.2 _ _ _ _ M7 hS7 (by omega) (by omega) (by omega) (by omega) (by exact BS.step v0 eM5 eM6 eM7 (by omega) (by omega) (by omega) (by omega) (by omega) (by omega)) (by omega) (by omega)
set_option maxHeartbeats 4000000 in
theorem baseSet3_2 {xs : List Int32} {e : Nat} {ac : Int} {M : nM} {Ms : nM} (hS : Sw 2 ac M) (hb3 : B3 M) (hms : M = Ms) : nW xs e 11 0 [some (2, 4), some (0, 3), none, none, none, none] [] M (nPV fun M1 => Sw 2 ac M1 ∧ (BS 3 (3 * 3 * 3) Ms M1)) := by
  have hd : (2 : Int) = 2 ∨ (2 : Int) = 3 := by decide
  have hac := hS.2.2.2.2
  refine n_aload_n c_11_0 rfl (n_iload_n c_11_1 rfl ?_)
  refine n_putW (bi := 0) hS c_11_2 sc_4.n rfl rfl rfl rfl (fun h => h.s (by unfold sp; omega)) ?_
  intro M1 eM1 hS1
  have g1_0 : M1 4 0 = 3 := by rw [eM1]; exact nu_s _ _ _ _
  refine n_aload_n c_11_5 rfl (n_aload_n c_11_6 rfl (n_getV (bi := 0) c_11_7 sc_4.n rfl rfl rfl (show 3 ≤ M1 4 0 ∧ M1 4 0 ≤ 3 by omega) ?_))
  intro z2 ez2 f3
  obtain rfl : z2 = 3 := by omega
  refine n_aload_n c_11_10 rfl (n_getV (bi := 0) c_11_11 sc_4.n rfl rfl rfl (show 3 ≤ M1 4 0 ∧ M1 4 0 ≤ 3 by omega) ?_)
  intro z4 ez4 f5
  obtain rfl : z4 = 3 := by omega
  refine n_imul c_11_14 rfl (n_aload_n c_11_15 rfl (n_getV (bi := 0) c_11_16 sc_4.n rfl rfl rfl (show 3 ≤ M1 4 0 ∧ M1 4 0 ≤ 3 by omega) ?_))
  intro z6 ez6 f7
  obtain rfl : z6 = 3 := by omega
  refine n_imul c_11_19 rfl ?_
  refine n_putW (bi := 1) hS1 c_11_20 sc_4.n rfl rfl rfl rfl (fun h => h.s (by unfold sp; omega)) ?_
  intro M8 eM8 hS8
  have g8_0 : M8 4 0 = M1 4 0 := by rw [eM8]; exact nu_i (by omega)
  have g8_1 : M8 4 1 = ((3 * 3) * 3) := by rw [eM8]; exact nu_s _ _ _ _
  refine n_iconst c_11_23 (n_istore_n (L2 := [some (2, 4), some (0, 3), some (0, 0), none, none, none]) c_11_24 rfl rfl (n_iconst c_11_25 (n_istore_n (L2 := [some (2, 4), some (0, 3), some (0, 0), some (0, 0), none, none]) c_11_26 rfl rfl (n_fg (le_s (le_n (le_s (le_s (le_n (le_n le_0)))))) ?_))))
  exact (baseSet3_2_c hS hb3 hms 320).1 _ _ M8 hS8 (by omega) (by omega) (by subst hms; exact BS.init hb3 eM1 eM8) (by omega) (by omega)

/-! The methods, by program. -/
set_option maxHeartbeats 4000000 in
theorem weighW3_2 {xs : List Int32} {e : Nat} {ac : Int} {M : nM} {Ms : nM} (hS : Sw 2 ac M) (hf : ∀ a i : Int, a ≠ 52 → a ≠ 53 → M a i = Ms a i) (hf5 : ∀ i : Int, M 52 i = Ms 52 i) : nW xs (e + 1) 44 0 [some (2, 52), some (0, 9), some (0, 3), some (0, 1)] [] M (nPV fun M1 => Sw 2 ac M1 ∧ (∀ a i : Int, a ≠ 52 → a ≠ 53 → M1 a i = Ms a i) ∧ (M1 52 1 = 9 ∧ M1 52 2 = 3 ∧ M1 52 3 = 1) ∧ (∀ i : Int, i ≠ 1 → i ≠ 2 → i ≠ 3 → M1 52 i = Ms 52 i)) := by
  have hd : (2 : Int) = 2 ∨ (2 : Int) = 3 := by decide
  have hac := hS.2.2.2.2
  refine n_aload_n c_44_0 rfl (n_iload_n c_44_1 rfl ?_)
  refine n_putW (bi := 1) hS c_44_2 sc_52.n rfl rfl rfl rfl (fun h => h.s (by unfold sp; omega)) ?_
  intro M1 eM1 hS1
  have g1_0 : M1 52 1 = 9 := by rw [eM1]; exact nu_s _ _ _ _
  refine n_aload_n c_44_5 rfl (n_iload_n c_44_6 rfl ?_)
  refine n_putW (bi := 2) hS1 c_44_7 sc_52.n rfl rfl rfl rfl (fun h => h.s (by unfold sp; omega)) ?_
  intro M2 eM2 hS2
  have g2_0 : M2 52 1 = M1 52 1 := by rw [eM2]; exact nu_i (by omega)
  have g2_1 : M2 52 2 = 3 := by rw [eM2]; exact nu_s _ _ _ _
  refine n_aload_n c_44_10 rfl (n_iload_n c_44_11 rfl ?_)
  refine n_putW (bi := 3) hS2 c_44_12 sc_52.n rfl rfl rfl rfl (fun h => h.s (by unfold sp; omega)) ?_
  intro M3 eM3 hS3
  have g3_0 : M3 52 1 = M2 52 1 := by rw [eM3]; exact nu_i (by omega)
  have g3_1 : M3 52 2 = M2 52 2 := by rw [eM3]; exact nu_i (by omega)
  have g3_2 : M3 52 3 = 1 := by rw [eM3]; exact nu_s _ _ _ _
  refine n_aload_n c_44_15 rfl (n_getR c_44_16 sc_52.n rfl rfl rfl r_52_0 (n_iconst c_44_19 (n_s2V c_44_20 rfl rfl rfl rfl (fillW53_2 (Ms := M3) hS3 (by exact fun _ _ _ => rfl)) ?_)))
  intro  M4 hP5
  obtain ⟨hS4, f5p0⟩ := hP5
  exact n_rV c_44_23 rfl ⟨hS4, by exact fun a i h1 h2 => by rw [f5p0 a i h2]; simp only [eM3, eM2, eM1]; rw [nu_a h1, nu_a h1, nu_a h1]; exact hf a i h1 h2, by exact ⟨(by rw [f5p0 52 1 (by omega)]; simp only [eM3, eM2, eM1]; rw [nu_i (by omega), nu_i (by omega), nu_s]), (by rw [f5p0 52 2 (by omega)]; simp only [eM3, eM2, eM1]; rw [nu_i (by omega), nu_s]), (by rw [f5p0 52 3 (by omega)]; simp only [eM3, eM2, eM1]; rw [nu_s])⟩, by exact fun i h1 h2 h3 => by rw [f5p0 52 i (by omega)]; simp only [eM3, eM2, eM1]; rw [nu_i h3, nu_i h2, nu_i h1]; exact hf5 i⟩

set_option maxHeartbeats 4000000 in
theorem startOver3_2 {xs : List Int32} {e : Nat} {ac : Int} {M : nM} (hSf : Sf 2 ac M M)  : nW xs (e + 2) 122 0 [some (2, 3), some (0, 3)] [] M (nPV fun M1 => Sf 3 0 M1 M1 ∧ (M1 112 0 = M 112 0)) := by
  have hS := hSf.sw
  have hd : (2 : Int) = 2 ∨ (2 : Int) = 3 := by decide
  have hac := hS.2.2.2.2
  refine n_aload_n c_122_0 rfl (n_getR c_122_1 sc_3.n rfl rfl rfl r_3_0 (n_iload_n c_122_4 rfl (n_v1V c_122_5 rfl sc_4.n rfl rfl rfl rfl (baseSet3_2 (Ms := M) hS (by exact hSf.b3 hd) (by rfl)) ?_)))
  intro  M1 hP2
  obtain ⟨hS1, f2p0⟩ := hP2
  refine n_aload_n c_122_8 rfl (n_getR c_122_9 sc_3.n rfl rfl rfl r_3_12 (n_iload_n c_122_12 rfl (n_iload_n c_122_13 rfl (n_imul c_122_14 rfl (n_iload_n c_122_15 rfl (n_iconst c_122_16 ?_))))))
  have hcst : ((3 * 3) : Int) = 9 := by omega
  rw [hcst]
  refine n_v3V c_122_17 rfl sc_52.n rfl rfl rfl rfl (weighW3_2 (Ms := M1) hS1 (by exact fun _ _ _ _ => rfl) (by exact fun _ => rfl)) ?_
  intro  M3 hP4
  obtain ⟨hS3, f4p0, f4p1, f4p2⟩ := hP4
  refine n_aload_n c_122_20 rfl (n_iconst c_122_21 ?_)
  refine n_putW (bi := 14) hS3 c_122_22 sc_3.n rfl rfl rfl rfl (fun h => h.s (by unfold sp; omega)) ?_
  intro M5 eM5 hS5
  have g5_0 : M5 3 14 = 0 := by rw [eM5]; exact nu_s _ _ _ _
  refine n_aload_n c_122_25 rfl (n_iconst c_122_26 (n_putW (bi := 15) hS5 c_122_27 sc_3.n rfl rfl rfl rfl (fun h => h.m (m_3_15 (by omega))) ?_))
  intro M6 eM6 hS6
  have g6_0 : M6 3 14 = M5 3 14 := by rw [eM6]; exact nu_i (by omega)
  have g6_1 : M6 3 15 = 0 := by rw [eM6]; exact nu_s _ _ _ _
  refine n_aload_n c_122_30 rfl (n_v0V c_122_31 rfl sc_3.n rfl rfl rfl rfl (forgetW_2 (Ms := M6) hS6 (by exact fun _ _ _ => rfl)) ?_)
  intro  M7 hP8
  obtain ⟨hS7, f8p0⟩ := hP8
  refine n_aload_n c_122_34 rfl (n_iconst c_122_35 (n_putW (bi := 17) hS7 c_122_36 sc_3.n rfl rfl rfl rfl (fun h => h.m (m_3_17 (by omega))) ?_))
  intro M9 eM9 hS9
  have g9_0 : M9 3 17 = 0 := by rw [eM9]; exact nu_s _ _ _ _
  refine n_aload_n c_122_39 rfl (n_getR c_122_40 sc_3.n rfl rfl rfl r_3_6 (n_iconst c_122_43 (n_v1V c_122_44 rfl sc_32.n rfl rfl rfl rfl (rstartW_2  hS9 ) ?_)))
  intro  M10 hP11
  obtain ⟨hS10, f11p0⟩ := hP11
  refine n_aload_n c_122_47 rfl (n_iconst c_122_48 (n_putZW (bi := 18) hS10 c_122_49 sc_3.n rfl rfl rfl (by omega) rfl (fun h => h.m (m_3_18 (by omega))) ?_))
  intro M12 eM12 hS12
  have g12_0 : M12 3 18 = 0 := by rw [eM12]; exact nu_s _ _ _ _
  refine n_jk (v := 3 * 3 * 3) ?_
  intro My fy jy
  have A : ∀ a i : Int, a ≠ 3 → a ≠ 32 → (a < 103 ∨ 111 < a) → M12 a i = M3 a i := fun a i h1 h2 h3 => by rw [eM12, nu_a h1, f11p0 a i h2, eM9, nu_a h1, f8p0 a i h3, eM6, nu_a h1, eM5, nu_a h1]
  have B := f2p0.fr (M2 := My) (fun a i h1 h2 h3 => by rw [fy a i h3, A a i (by omega) (by omega) (by omega), f4p0 a i (by omega) (by omega)])
  have C52 : ∀ i : Int, My 52 i = M3 52 i := fun i => by rw [fy 52 i (by omega), A 52 i (by omega) (by omega) (by omega)]
  have C3 : My 3 14 = 0 := by rw [fy 3 14 (by omega), eM12, nu_i (by omega), f11p0 3 14 (by omega), eM9, nu_i (by omega), f8p0 3 14 (by omega), eM6, nu_i (by omega), eM5, nu_s]
  have C112 : My 112 0 = M 112 0 := by rw [fy 112 0 (by omega), A 112 0 (by omega) (by omega) (by omega), f4p0 112 0 (by omega) (by omega), f2p0.2.2.2.2 112 0 (by omega)]
  have C5 : ∀ i : Int, 0 ≤ i → i ≠ 1 → i ≠ 2 → My 52 i = 1 := fun i h0 h1 h2 => by
    rw [C52 i]
    by_cases h3 : i = 3
    · rw [h3]; exact f4p1.2.2
    · rw [f4p2 i h1 h2 h3, f2p0.2.2.2.2 52 i (by omega)]
      have t := hSf.1 52 i h0
      have u : tb 2 ac 52 i = if i = 1 then (2 * 2, 2 * 2) else if i = 2 then (2, 2) else (1, 1) := rfl
      rw [u, if_neg h1, if_neg h2] at t
      have t1 : (1 : Int) ≤ M 52 i := t.1
      have t2 : M 52 i ≤ (1 : Int) := t.2
      omega
  have D : Sf 3 0 My My := Sf.fromW (hS12.of (fun a i q => fy a i (fun w => q (by unfold sp; omega)))) hd B jy (by rw [C52]; have := f4p1.1; omega) (by rw [C52]; exact f4p1.2.1) C5 C3
  exact n_rV c_122_52 rfl ⟨D, C112⟩

set_option maxHeartbeats 4000000 in
theorem fresh3_2_c {xs : List Int32} {e : Nat} {ac : Int} {M : nM} (hS : Sf 2 ac M M)  : ∀ nn : Nat, (∀ (M : nM), Sf 2 ac M M → 1 < (nn : Int) → nW xs (e + 3) 93 12 [some (2, 3), some (0, 3)] [] M (nPI fun z M1 => Sf 3 0 M1 M1 ∧ (1 ≤ z ∧ z ≤ 1) ∧ (M1 112 0 = M 112 0))) := by
  have hd : (2 : Int) = 2 ∨ (2 : Int) = 3 := by decide
  have hac := hS.2.2.2.2
  intro nn
  induction nn with
  | zero => intros; omega
  | succ nn ih =>
    intro M hS hnn
    refine n_aload_n c_93_12 rfl (n_iload_n c_93_13 rfl (n_v1V c_93_14 rfl sc_3.n rfl rfl rfl rfl (startOver3_2  hS ) ?_))
    intro  M1 hP2
    obtain ⟨hS1, f2p0⟩ := hP2
    refine n_iconst c_93_17 ?_
    exact n_rZ c_93_18 rfl (by omega) ⟨hS1, by omega, by omega⟩
set_option maxHeartbeats 4000000 in
theorem fresh3_2 {xs : List Int32} {e : Nat} {ac : Int} {M : nM} (hS : Sf 2 ac M M)  : nW xs (e + 3) 93 0 [some (2, 3), some (0, 3)] [] M (nPI fun z M1 => Sf 3 0 M1 M1 ∧ (1 ≤ z ∧ z ≤ 1) ∧ (M1 112 0 = M 112 0)) := by
  have hd : (2 : Int) = 2 ∨ (2 : Int) = 3 := by decide
  have hac := hS.2.2.2.2
  refine n_iload_n c_93_0 rfl (n_iconst c_93_1 ?_)
  refine n_if2_eq c_93_2 (by omega) (by omega) ?_ ?_
  · intro h1
    exfalso; omega
  · intro h2
    refine n_iload_n c_93_5 rfl (n_iconst c_93_6 ?_)
    refine n_if2_eq c_93_7 (by omega) (by omega) ?_ ?_
    · intro h3
      refine n_fg (le_s (le_s le_0)) ?_
      exact (fresh3_2_c hS  12)  M hS  (by omega)
    · intro h4
      exfalso; omega

set_option maxHeartbeats 4000000 in
theorem freshL_2 {xs : List Int32} {e : Nat} {ac : Int} {M0 M : nM} {a : Int} (hS : Sf 2 ac M0 M) (ha : -2147483648 ≤ a ∧ a ≤ 1) : nW xs (e + 3) 93 0 [some (2, 3), some (0, a)] [] M (nPI fun z M1 => M = M1 ∧ (0 ≤ z ∧ z ≤ 0)) := by
  have hd : (2 : Int) = 2 ∨ (2 : Int) = 3 := by decide
  have hac := hS.2.2.2.2
  refine n_iload_n c_93_0 rfl (n_iconst c_93_1 ?_)
  refine n_if2_eq c_93_2 (by omega) (by omega) ?_ ?_
  · intro h1
    exfalso; omega
  · intro h2
    refine n_iload_n c_93_5 rfl (n_iconst c_93_6 ?_)
    refine n_if2_eq c_93_7 (by omega) (by omega) ?_ ?_
    · intro h3
      exfalso; omega
    · intro h4
      refine n_iconst c_93_10 ?_
      exact n_rZ c_93_11 rfl (by omega) ⟨rfl, by omega⟩

set_option maxHeartbeats 4000000 in
theorem freshH_2 {xs : List Int32} {e : Nat} {ac : Int} {M0 M : nM} {a : Int} (hS : Sf 2 ac M0 M) (ha : 4 ≤ a ∧ a ≤ 2147483647) : nW xs (e + 3) 93 0 [some (2, 3), some (0, a)] [] M (nPI fun z M1 => M = M1 ∧ (0 ≤ z ∧ z ≤ 0)) := by
  have hd : (2 : Int) = 2 ∨ (2 : Int) = 3 := by decide
  have hac := hS.2.2.2.2
  refine n_iload_n c_93_0 rfl (n_iconst c_93_1 ?_)
  refine n_if2_eq c_93_2 (by omega) (by omega) ?_ ?_
  · intro h1
    exfalso; omega
  · intro h2
    refine n_iload_n c_93_5 rfl (n_iconst c_93_6 ?_)
    refine n_if2_eq c_93_7 (by omega) (by omega) ?_ ?_
    · intro h3
      exfalso; omega
    · intro h4
      refine n_iconst c_93_10 ?_
      exact n_rZ c_93_11 rfl (by omega) ⟨rfl, by omega⟩

set_option maxHeartbeats 4000000 in
theorem actTake1_2_c {xs : List Int32} {e : Nat} {ac : Int} {M : nM} {p gd : Int} (hS : Sf 2 ac M M) (hp : ActAt p) (hpl : p = 55 + 3 * ac) (hgd : M 112 0 = gd) (ht : ∀ i : Int, 0 ≤ i → i < 2 → M 54 i ≤ 1) : ∀ nn : Nat, (∀ (x4 x5 : Int) (M : nM), Sf 2 ac M M → (0 ≤ x4 ∧ x4 ≤ 1) → (0 ≤ x5 ∧ x5 ≤ 8) → (M 112 0 = gd) → (M p 0 = 1) → (M p 1 = 2) → (∀ i : Int, 0 ≤ i → i < 2 → M 54 i ≤ 1) → (∀ i : Int, 0 ≤ i → i < x5 → M (p + 1) i ≤ 1) → (8 - x5) * 1 + 11 < (nn : Int) → nW xs (e + 1) 2 20 [some (2, p), none, some (2, 54), some (2, 4), some (0, x4), some (0, x5), none] [] M (nPV fun M1 => Sf 2 ac M1 M1 ∧ (M1 112 0 = gd) ∧ (M1 p 0 = 1 ∧ M1 p 1 = 2 ∧ ∀ i : Int, 0 ≤ i → i < 8 → M1 (p + 1) i ≤ 1 ∧ M1 (p + 2) i ≤ 1))) ∧ (∀ (x5 : Int) (M : nM), Sf 2 ac M M → (0 ≤ x5 ∧ x5 ≤ 8) → (M 112 0 = gd) → (M p 0 = 1) → (M p 1 = 2) → (∀ i : Int, 0 ≤ i → i < 8 → M (p + 1) i ≤ 1) → (∀ i : Int, 0 ≤ i → i < x5 → M (p + 2) i ≤ 1) → (8 - x5) * 1 + 1 < (nn : Int) → nW xs (e + 1) 2 70 [some (2, p), none, none, some (2, 4), none, some (0, x5), none] [] M (nPV fun M1 => Sf 2 ac M1 M1 ∧ (M1 112 0 = gd) ∧ (M1 p 0 = 1 ∧ M1 p 1 = 2 ∧ ∀ i : Int, 0 ≤ i → i < 8 → M1 (p + 1) i ≤ 1 ∧ M1 (p + 2) i ≤ 1))) := by
  have hd : (2 : Int) = 2 ∨ (2 : Int) = 3 := by decide
  have hac := hS.2.2.2.2
  have hpb := hp.1
  intro nn
  induction nn with
  | zero => refine ⟨?_, ?_⟩ <;> (intros; omega)
  | succ nn ih =>
    refine ⟨?_, ?_⟩
    · intro x4 x5 M hS k4 k5 hggd v0 v1 v2 v3 hnn
      refine n_iload c_2_20 rfl (n_aload_n c_2_22 rfl (n_getV (bi := 1) c_2_23 sc_4.n rfl rfl rfl (t_4_1 hS) ?_))
      intro z1 ez1 f2
      obtain rfl : z1 = 8 := by omega
      refine n_if2_ge c_2_26 (by omega) (by omega) ?_ ?_
      · intro h3
        refine n_iconst c_2_67 (n_istore (L2 := [some (2, p), none, some (2, 54), some (2, 4), some (0, x4), some (0, 0), none]) c_2_68 rfl rfl (n_fg (le_s (le_n (le_n (le_s (le_n (le_s (le_n le_0))))))) ?_))
        exact ih.2 _ M hS (by omega) (by omega) (by exact v0) (by exact v1) (by exact fun i h0 h1 => v3 i h0 (by omega)) (by exact fun i h0 h1 => by omega) (by omega)
      · intro h4
        refine n_aload_n c_2_29 rfl (n_getR c_2_30 hp.c0.1.n rfl rfl rfl hp.r.1 (n_iload c_2_33 rfl (n_aload_n c_2_35 rfl (n_iload c_2_36 rfl (n_ialoadV c_2_38 sc_54.n rfl rfl rfl (by omega) (t_54 hS (by omega)) ?_)))))
        intro z5 ez5 f6
        have t38 := v2 x4 (by omega) (by omega)
        refine n_iastoreM hS c_2_39 hp.c0.2.1.n rfl (by omega) (m_actnr hp hpl (Or.inl rfl) (by omega) (by omega)) ?_
        intro M7 eM7 hS7
        have g7_0 : M7 112 0 = M 112 0 := by rw [eM7]; exact nu_a (by omega)
        have g7_1 : M7 p 1 = M p 1 := by rw [eM7]; exact nu_a (by omega)
        refine n_iload c_2_40 rfl (n_iconst c_2_42 (n_iadd c_2_43 rfl (n_aload_n c_2_44 rfl (n_getV (bi := 1) c_2_45 hp.c0.1.n rfl rfl rfl (show 2 ≤ M7 p 1 ∧ M7 p 1 ≤ 2 by omega) ?_))))
        intro z8 ez8 f9
        obtain rfl : z8 = 2 := by omega
        refine n_if2_ge c_2_48 (by omega) (by omega) ?_ ?_
        · intro h10
          refine n_iconst c_2_58 (n_istore (L2 := [some (2, p), none, some (2, 54), some (2, 4), some (0, 0), some (0, x5), none]) c_2_59 rfl rfl (n_iinc (L2 := [some (2, p), none, some (2, 54), some (2, 4), some (0, 0), some (0, (x5 + 1)), none]) c_2_61 rfl rfl rfl (n_goto c_2_64 (n_fg (le_s (le_n (le_s (le_s (le_s (le_s (le_n le_0))))))) ?_))))
          exact ih.1 _ _ M7 hS7 (by omega) (by omega) (by omega) (by rw [eM7, nu_a (by omega)]; exact v0) (by rw [eM7, nu_a (by omega)]; exact v1) (by exact fun i h0 h1 => by rw [eM7, nu_a (by omega)]; exact v2 i h0 h1) (by exact fun i h0 h1 => by rw [eM7, nu_e]; split <;> first | omega | exact v3 i h0 (by omega)) (by omega)
        · intro h11
          refine n_iload c_2_51 rfl (n_iconst c_2_53 (n_iadd c_2_54 rfl (n_goto c_2_55 (n_istore (L2 := [some (2, p), none, some (2, 54), some (2, 4), some (0, (x4 + 1)), some (0, x5), none]) c_2_59 rfl rfl (n_iinc (L2 := [some (2, p), none, some (2, 54), some (2, 4), some (0, (x4 + 1)), some (0, (x5 + 1)), none]) c_2_61 rfl rfl rfl (n_goto c_2_64 (n_fg (le_s (le_n (le_s (le_s (le_s (le_s (le_n le_0))))))) ?_)))))))
          exact ih.1 _ _ M7 hS7 (by omega) (by omega) (by omega) (by rw [eM7, nu_a (by omega)]; exact v0) (by rw [eM7, nu_a (by omega)]; exact v1) (by exact fun i h0 h1 => by rw [eM7, nu_a (by omega)]; exact v2 i h0 h1) (by exact fun i h0 h1 => by rw [eM7, nu_e]; split <;> first | omega | exact v3 i h0 (by omega)) (by omega)
    · intro x5 M hS k5 hggd v0 v1 v2 v3 hnn
      refine n_iload c_2_70 rfl (n_aload_n c_2_72 rfl (n_getV (bi := 1) c_2_73 sc_4.n rfl rfl rfl (t_4_1 hS) ?_))
      intro z1 ez1 f2
      obtain rfl : z1 = 8 := by omega
      refine n_if2_ge c_2_76 (by omega) (by omega) ?_ ?_
      · intro h3
        exact n_rV c_2_134 rfl ⟨hS, by omega, by exact ⟨v0, v1, fun i h0 h1 => ⟨v2 i h0 (by omega), v3 i h0 (by omega)⟩⟩⟩
      · intro h4
        refine n_aload_n c_2_79 rfl (n_getR c_2_80 sc_4.n rfl rfl rfl r_4_2 (n_iload c_2_83 rfl (n_ialoadV c_2_85 sc_5.n rfl rfl rfl (by omega) (t_5d hS hd (by omega) (by omega)) ?_)))
        intro z5 ez5 f6
        refine n_aload_n c_2_86 rfl (n_getV (bi := 0) c_2_87 sc_4.n rfl rfl rfl (t_4_0 hS) ?_)
        intro z7 ez7 f8
        obtain rfl : z7 = 2 := by omega
        refine n_imul c_2_90 rfl (n_aload_n c_2_91 rfl (n_getR c_2_92 sc_4.n rfl rfl rfl r_4_4 (n_iload c_2_95 rfl (n_ialoadV c_2_97 sc_7.n rfl rfl rfl (by omega) (t_7d hS hd (by omega) (by omega)) ?_))))
        intro z9 ez9 f10
        refine n_iadd c_2_98 rfl (n_aload_n c_2_99 rfl (n_getV (bi := 0) c_2_100 sc_4.n rfl rfl rfl (t_4_0 hS) ?_))
        intro z11 ez11 f12
        obtain rfl : z11 = 2 := by omega
        refine n_imul c_2_103 rfl (n_aload_n c_2_104 rfl (n_getR c_2_105 sc_4.n rfl rfl rfl r_4_3 (n_iload c_2_108 rfl (n_ialoadV c_2_110 sc_6.n rfl rfl rfl (by omega) (t_6d hS hd (by omega) (by omega)) ?_))))
        intro z13 ez13 f14
        refine n_iadd c_2_111 rfl (n_istore (L2 := [some (2, p), none, none, some (2, 4), none, some (0, x5), some (0, ((((z5 * 2) + z9) * 2) + z13))]) c_2_112 rfl rfl (n_aload_n c_2_114 rfl (n_getR c_2_115 hp.c0.1.n rfl rfl rfl hp.r.2 (n_iload c_2_118 rfl (n_aload_n c_2_120 rfl (n_getR c_2_121 hp.c0.1.n rfl rfl rfl hp.r.1 (n_iload c_2_124 rfl (n_ialoadV c_2_126 hp.c0.2.1.n rfl rfl rfl (by omega) (t_actr hS hd hp (Or.inl rfl) (by omega)) ?_))))))))
        intro z15 ez15 f16
        have t126 := v2 ((((z5 * 2) + z9) * 2) + z13) (by omega) (by omega)
        refine n_iastoreM hS c_2_127 hp.c0.2.2.n rfl (by omega) (m_actnr hp hpl (Or.inr rfl) (by omega) (by omega)) ?_
        intro M17 eM17 hS17
        have g17_0 : M17 112 0 = M 112 0 := by rw [eM17]; exact nu_a (by omega)
        have g17_1 : M17 p 1 = M p 1 := by rw [eM17]; exact nu_a (by omega)
        refine n_iinc (L2 := [some (2, p), none, none, some (2, 4), none, some (0, (x5 + 1)), some (0, ((((z5 * 2) + z9) * 2) + z13))]) c_2_128 rfl rfl rfl (n_goto c_2_131 (n_fg (le_s (le_n (le_n (le_s (le_n (le_s (le_n le_0))))))) ?_))
        exact ih.2 _ M17 hS17 (by omega) (by omega) (by rw [eM17, nu_a (by omega)]; exact v0) (by rw [eM17, nu_a (by omega)]; exact v1) (by exact fun i h0 h1 => by rw [eM17, nu_a (by omega)]; exact v2 i h0 h1) (by exact fun i h0 h1 => by rw [eM17, nu_e]; split <;> first | omega | exact v3 i h0 (by omega)) (by omega)
set_option maxHeartbeats 4000000 in
theorem actTake1_2 {xs : List Int32} {e : Nat} {ac : Int} {M : nM} {p gd : Int} (hS : Sf 2 ac M M) (hp : ActAt p) (hpl : p = 55 + 3 * ac) (hgd : M 112 0 = gd) (ht : ∀ i : Int, 0 ≤ i → i < 2 → M 54 i ≤ 1) : nW xs (e + 1) 2 0 [some (2, p), some (0, 1), some (2, 54), some (2, 4), none, none, none] [] M (nPV fun M1 => Sf 2 ac M1 M1 ∧ (M1 112 0 = gd) ∧ (M1 p 0 = 1 ∧ M1 p 1 = 2 ∧ ∀ i : Int, 0 ≤ i → i < 8 → M1 (p + 1) i ≤ 1 ∧ M1 (p + 2) i ≤ 1)) := by
  have hd : (2 : Int) = 2 ∨ (2 : Int) = 3 := by decide
  have hac := hS.2.2.2.2
  have hpb := hp.1
  refine n_aload_n c_2_0 rfl (n_iload_n c_2_1 rfl (n_putM (bi := 0) hS c_2_2 hp.c0.1.n rfl rfl rfl rfl (m_actn hp hpl (by omega) (by omega)) ?_))
  intro M1 eM1 hS1
  have g1_0 : M1 112 0 = M 112 0 := by rw [eM1]; exact nu_a (by omega)
  have g1_1 : M1 p 0 = 1 := by rw [eM1]; exact nu_s _ _ _ _
  refine n_aload_n c_2_5 rfl (n_aload_n c_2_6 rfl (n_iload_n c_2_7 rfl (n_v1I c_2_8 rfl sc_4.n rfl rfl rfl rfl (power1_2  hS1 ) ?_)))
  intro z2 M3 hP4
  obtain ⟨eM, f4⟩ := hP4
  subst eM
  obtain rfl : z2 = 2 := by omega
  refine n_putM (bi := 1) hS1 c_2_11 hp.c0.1.n rfl rfl rfl rfl (m_actn hp hpl (by omega) (by omega)) ?_
  intro M5 eM5 hS5
  have g5_0 : M5 112 0 = M1 112 0 := by rw [eM5]; exact nu_a (by omega)
  have g5_1 : M5 p 0 = M1 p 0 := by rw [eM5]; exact nu_i (by omega)
  have g5_2 : M5 p 1 = 2 := by rw [eM5]; exact nu_s _ _ _ _
  refine n_iconst c_2_14 (n_istore (L2 := [some (2, p), some (0, 1), some (2, 54), some (2, 4), some (0, 0), none, none]) c_2_15 rfl rfl (n_iconst c_2_17 (n_istore (L2 := [some (2, p), some (0, 1), some (2, 54), some (2, 4), some (0, 0), some (0, 0), none]) c_2_18 rfl rfl (n_fg (le_s (le_n (le_s (le_s (le_s (le_s (le_n le_0))))))) ?_))))
  exact (actTake1_2_c hS hp hpl hgd ht 50).1 _ _ M5 hS5 (by omega) (by omega) (by omega) (by omega) (by omega) (by exact fun i h0 h1 => by rw [eM5, nu_a (by omega), eM1, nu_a (by omega)]; exact ht i h0 h1) (by exact fun i h0 h1 => by omega) (by omega)

set_option maxHeartbeats 4000000 in
theorem act1_2_c {xs : List Int32} {e : Nat} {ac : Int} {M : nM} {s gd : Int} (hS : Sf 2 ac M M) (hs : -2147483648 ≤ s ∧ s ≤ 2147483647) (hgd : M 112 0 = gd) : ∀ nn : Nat, (∀ (M : nM), Sf 2 ac M M → (M 112 0 = gd) → 8 < (nn : Int) → nW xs (e + 2) 97 19 [none, none, none, none, none, none] [] M (nPI fun z M1 => (∃ ac2, Sf 2 ac2 M1 M1) ∧ (-2147483648 ≤ z ∧ z ≤ 2147483647) ∧ (M1 112 0 = gd))) ∧ (∀ (M : nM), Sf 2 ac M M → (M 112 0 = gd) → 7 < (nn : Int) → nW xs (e + 2) 97 44 [none, none, none, none, none, none] [] M (nPI fun z M1 => (∃ ac2, Sf 2 ac2 M1 M1) ∧ (-2147483648 ≤ z ∧ z ≤ 2147483647) ∧ (M1 112 0 = gd))) ∧ (∀ (M : nM), Sf 2 ac M M → (0 ≤ s ∧ s ≤ 7) → (M 112 0 = gd) → (M 3 14 ≤ 7) → 6 < (nn : Int) → nW xs (e + 2) 97 47 [some (2, 3), some (0, 1), some (0, s), none, none, none] [] M (nPI fun z M1 => (∃ ac2, Sf 2 ac2 M1 M1) ∧ (-2147483648 ≤ z ∧ z ≤ 2147483647) ∧ (M1 112 0 = gd))) ∧ (∀ (x3 x4 : Int) (M : nM), Sf 2 ac M M → (0 ≤ s ∧ s ≤ 7) → (2 ≤ x3 ∧ x3 ≤ 2) → (0 ≤ x4 ∧ x4 ≤ 2) → (M 112 0 = gd) → (∀ i : Int, 0 ≤ i → i < x4 → M 54 i ≤ 1) → (M 3 14 ≤ 7) → (2 - x4) * 1 + 2 < (nn : Int) → nW xs (e + 2) 97 73 [some (2, 3), some (0, 1), some (0, s), some (0, x3), some (0, x4), none] [] M (nPI fun z M1 => (∃ ac2, Sf 2 ac2 M1 M1) ∧ (-2147483648 ≤ z ∧ z ≤ 2147483647) ∧ (M1 112 0 = gd))) ∧ (∀ (M : nM), Sf 2 ac M M → (M 112 0 = gd) → (∀ i : Int, 0 ≤ i → i < 2 → M 54 i ≤ 1) → (M 3 14 ≤ 7) → 1 < (nn : Int) → nW xs (e + 2) 97 130 [some (2, 3), some (0, 1), none, none, none, none] [] M (nPI fun z M1 => (∃ ac2, Sf 2 ac2 M1 M1) ∧ (-2147483648 ≤ z ∧ z ≤ 2147483647) ∧ (M1 112 0 = gd))) := by
  have hd : (2 : Int) = 2 ∨ (2 : Int) = 3 := by decide
  have hac := hS.2.2.2.2
  intro nn
  induction nn with
  | zero => refine ⟨?_, ?_, ?_, ?_, ?_⟩ <;> (intros; omega)
  | succ nn ih =>
    refine ⟨?_, ?_, ?_, ?_, ?_⟩
    · intro M hS hggd hnn
      refine n_bipush c_97_19 rfl ?_
      exact n_rI c_97_21 rfl ⟨⟨_, hS⟩, by omega, by omega⟩
    · intro M hS hggd hnn
      refine n_bipush c_97_44 rfl ?_
      exact n_rI c_97_46 rfl ⟨⟨_, hS⟩, by omega, by omega⟩
    · intro M hS k2 hggd v0 hnn
      refine n_aload_n c_97_47 rfl (n_getR c_97_48 sc_3.n rfl rfl rfl r_3_1 (n_iload_n c_97_51 rfl (n_v1I c_97_52 rfl sc_8.n rfl rfl rfl rfl (hasRow_2 (s := s) hS (by omega)) ?_)))
      intro z1 M2 hP3
      obtain ⟨eM, f3, f3p0⟩ := hP3
      subst eM
      refine n_if0_ne c_97_55 (by omega) ?_ ?_
      · intro h4
        refine n_aload_n c_97_61 rfl (n_getR c_97_62 sc_3.n rfl rfl rfl r_3_0 (n_iload_n c_97_65 rfl (n_v1I c_97_66 rfl sc_4.n rfl rfl rfl rfl (power1_2  hS ) ?_)))
        intro z5 M6 hP7
        obtain ⟨eM, f7⟩ := hP7
        subst eM
        obtain rfl : z5 = 2 := by omega
        refine n_istore_n (L2 := [some (2, 3), some (0, 1), some (0, s), some (0, 2), none, none]) c_97_69 rfl rfl (n_iconst c_97_70 (n_istore (L2 := [some (2, 3), some (0, 1), some (0, s), some (0, 2), some (0, 0), none]) c_97_71 rfl rfl (n_fg (le_s (le_s (le_s (le_s (le_s (le_n le_0)))))) ?_)))
        exact ih.2.2.2.1 _ _ M hS (by omega) (by omega) (by omega) (by omega) (by exact fun i h0 h1 => by omega) (by omega) (by omega)
      · intro h8
        refine n_bipush c_97_58 rfl ?_
        exact n_rI c_97_60 rfl ⟨⟨_, hS⟩, by omega, by omega⟩
    · intro x3 x4 M hS k2 k3 k4 hggd v0 v1 hnn
      refine n_iload c_97_73 rfl (n_iload_n c_97_75 rfl ?_)
      refine n_if2_ge c_97_76 (by omega) (by omega) ?_ ?_
      · intro h1
        refine n_fg (le_s (le_s (le_n (le_n (le_n (le_n le_0)))))) ?_
        exact ih.2.2.2.2  M hS (by omega) (by exact fun i h0 h1 => v0 i h0 (by omega)) (by omega) (by omega)
      · intro h2
        refine n_iload c_97_79 rfl (n_bipush c_97_81 rfl ?_)
        refine n_if2_ge c_97_83 (by omega) (by omega) ?_ ?_
        · intro h3
          exfalso; omega
        · intro h4
          refine n_aload_n c_97_86 rfl (n_getR c_97_87 sc_3.n rfl rfl rfl r_3_1 (n_iload_n c_97_90 rfl (n_iload c_97_91 rfl (n_aload_n c_97_93 rfl (n_getR c_97_94 sc_3.n rfl rfl rfl r_3_0 (n_getV (bi := 0) c_97_97 sc_4.n rfl rfl rfl (t_4_0 hS) ?_))))))
          intro z5 ez5 f6
          obtain rfl : z5 = 2 := by omega
          refine n_iconst c_97_100 (n_isub c_97_101 rfl ?_)
          have hcst : ((2 - 1) : Int) = 1 := by omega
          rw [hcst]
          refine n_v3I c_97_102 rfl sc_8.n rfl rfl rfl rfl (read1_2 (s := s) (i := x4) hS (by omega) (by omega)) ?_
          intro z7 M8 hP9
          obtain ⟨eM, f9⟩ := hP9
          subst eM
          refine n_istore (L2 := [some (2, 3), some (0, 1), some (0, s), some (0, x3), some (0, x4), some (0, z7)]) c_97_105 rfl rfl (n_iload c_97_107 rfl ?_)
          refine n_if0_ge c_97_109 (by omega) ?_ ?_
          · intro h10
            refine n_aload_n c_97_115 rfl (n_getR c_97_116 sc_3.n rfl rfl rfl r_3_13 (n_iload c_97_119 rfl (n_iload c_97_121 rfl (n_iastoreM hS c_97_123 sc_54.n rfl (by omega) (m_54 (by omega) (by omega)) ?_))))
            intro M11 eM11 hS11
            have g11_0 : M11 112 0 = M 112 0 := by rw [eM11]; exact nu_a (by omega)
            have g11_1 : M11 3 14 = M 3 14 := by rw [eM11]; exact nu_a (by omega)
            refine n_iinc (L2 := [some (2, 3), some (0, 1), some (0, s), some (0, x3), some (0, (x4 + 1)), some (0, z7)]) c_97_124 rfl rfl rfl (n_goto c_97_127 (n_fg (le_s (le_s (le_s (le_s (le_s (le_n le_0)))))) ?_))
            exact ih.2.2.2.1 _ _ M11 hS11 (by omega) (by omega) (by omega) (by omega) (by exact fun i h0 h1 => by rw [eM11, nu_e]; split <;> first | omega | exact v0 i h0 (by omega)) (by omega) (by omega)
          · intro h12
            refine n_iload c_97_112 rfl ?_
            exact n_rI c_97_114 rfl ⟨⟨_, hS⟩, by omega, by omega⟩
    · intro M hS hggd v0 v1 hnn
      refine n_aload_n c_97_130 rfl (n_getR c_97_131 sc_3.n rfl rfl rfl r_3_2 (n_aload_n c_97_134 rfl (n_getV (bi := 14) c_97_135 sc_3.n rfl rfl rfl (t_3_14x hS) ?_)))
      intro z1 ez1 f2
      have f2a := t_ac hS
      refine n_aaload c_97_138 sc_12.n rfl rfl rfl (by omega) (r_acts _) ?_
      have q3 : ActAt (55 + 3 * z1) := by unfold ActAt; omega
      have q3l : (55 + 3 * z1) = 55 + 3 * ac := by omega
      refine n_iload_n c_97_139 rfl (n_aload_n c_97_140 rfl (n_getR c_97_141 sc_3.n rfl rfl rfl r_3_13 (n_aload_n c_97_144 rfl (n_getR c_97_145 sc_3.n rfl rfl rfl r_3_0 (n_v3V c_97_148 rfl q3.c0.1.n rfl rfl rfl rfl (actTake1_2 (p := (55 + 3 * z1)) (gd := (M 112 0)) hS q3 q3l rfl (by exact fun i h0 h1 => v0 i h0 (by omega))) ?_)))))
      intro  M4 hP5
      obtain ⟨hS4, f5g0, f5p0⟩ := hP5
      refine n_aload_n c_97_151 rfl (n_v0V c_97_152 rfl sc_3.n rfl rfl rfl rfl (forgetMade_2  hS4 ) ?_)
      intro  M6 hP7
      have hS6 := hP7
      have hS6c := hS6.2.2.2.1.1
      have hS6 := hS6.refl
      have hS6k0 := hS6c 112 0 (by unfold core; omega)
      have na0 : M6 (55 + 3 * z1) 0 = 1 := (hS6c (55 + 3 * z1) 0 (by unfold core; omega)).trans f5p0.1
      have na1 : M6 (55 + 3 * z1) 1 = 2 := (hS6c (55 + 3 * z1) 1 (by unfold core; omega)).trans f5p0.2.1
      have na2 : ∀ i : Int, 0 ≤ i → i < 8 → M6 ((55 + 3 * z1) + 1) i ≤ 1 ∧ M6 ((55 + 3 * z1) + 2) i ≤ 1 := fun i h0 h1 => by rw [hS6c ((55 + 3 * z1) + 1) i (by unfold core; omega), hS6c ((55 + 3 * z1) + 2) i (by unfold core; omega)]; exact f5p0.2.2 i h0 h1
      refine n_aload_n c_97_155 rfl (n_dup2 c_97_156 (n_getV (bi := 14) c_97_157 sc_3.n rfl rfl rfl (t_3_14x hS6) ?_))
      intro z8 ez8 f9
      have f9a := t_ac hS6
      refine n_dup_x102 c_97_160 (n_iconst c_97_161 (n_iadd c_97_162 rfl (n_jka (p := (55 + 3 * z1)) (v := 2) q3 ?_)))
      intro My fy jy
      have hSy := Sf.jka hS6 q3 (by omega) fy jy (by omega)
      have hNA : NA 2 1 2 (55 + 3 * z1) My := ⟨(fy _ _ (by omega)).trans na0, na_mk fy jy na1, fun i h0 h1 => by rw [fy _ i (by omega), fy _ i (by omega)]; exact na2 i h0 (by omega)⟩
      have hey : My 112 0 = M6 112 0 := fy 112 0 (by omega)
      have hUp := Sf.actUp hSy (by omega) (by omega) (by omega) (by omega) (by omega) hNA
      have hUe : ((z8 + 1) : Int) = ac + 1 := by omega
      refine n_putG (P := fun M2 => Sf 2 (ac + 1) M2 M2) (bi := 14) c_97_163 sc_3.n rfl rfl rfl rfl (by rw [hUe]; exact hUp) ?_
      intro M10 eM10 hS10
      have hgz : M10 112 0 = My 112 0 := by rw [eM10]; exact nu_a (by omega)
      exact n_rI c_97_166 rfl ⟨⟨_, hS10⟩, by omega, by omega⟩
set_option maxHeartbeats 4000000 in
theorem act1_2 {xs : List Int32} {e : Nat} {ac : Int} {M : nM} {s gd : Int} (hS : Sf 2 ac M M) (hs : -2147483648 ≤ s ∧ s ≤ 2147483647) (hgd : M 112 0 = gd) : nW xs (e + 2) 97 0 [some (2, 3), some (0, 1), some (0, s), none, none, none] [] M (nPI fun z M1 => (∃ ac2, Sf 2 ac2 M1 M1) ∧ (-2147483648 ≤ z ∧ z ≤ 2147483647) ∧ (M1 112 0 = gd)) := by
  have hd : (2 : Int) = 2 ∨ (2 : Int) = 3 := by decide
  have hac := hS.2.2.2.2
  refine n_aload_n c_97_0 rfl (n_getR c_97_1 sc_3.n rfl rfl rfl r_3_1 (n_iload_n c_97_4 rfl (n_v1I c_97_5 rfl sc_8.n rfl rfl rfl rfl (isSlot_2 (s := s) hS (by omega)) ?_)))
  intro z1 M2 hP3
  obtain ⟨eM, f3, f3p0⟩ := hP3
  subst eM
  refine n_if0_eq c_97_8 (by omega) ?_ ?_
  · intro h4
    refine n_fg (le_n (le_n (le_n (le_n (le_n (le_n le_0)))))) ?_
    exact (act1_2_c hS hs hgd 26).1  M hS (by omega) (by omega)
  · intro h5
    refine n_aload_n c_97_11 rfl (n_iload_n c_97_12 rfl (n_v1I c_97_13 rfl sc_3.n rfl rfl rfl rfl (isPlaceCount_2 (k := 1) hS (by omega)) ?_))
    intro z6 M7 hP8
    obtain ⟨eM, f8, f8p0⟩ := hP8
    subst eM
    refine n_if0_ne c_97_16 (by omega) ?_ ?_
    · intro h9
      refine n_aload_n c_97_22 rfl (n_getV (bi := 14) c_97_23 sc_3.n rfl rfl rfl (t_3_14x hS) ?_)
      intro z10 ez10 f11
      have f11a := t_ac hS
      refine n_bipush c_97_26 rfl ?_
      refine n_if2_ge c_97_28 (by omega) (by omega) ?_ ?_
      · intro h12
        refine n_fg (le_n (le_n (le_n (le_n (le_n (le_n le_0)))))) ?_
        exact (act1_2_c hS hs hgd 26).2.1  M hS (by omega) (by omega)
      · intro h13
        refine n_iload_n c_97_31 rfl (n_iconst c_97_32 ?_)
        refine n_if2_ne c_97_33 (by omega) (by omega) ?_ ?_
        · intro h14
          refine n_fg (le_s (le_s (le_s (le_n (le_n (le_n le_0)))))) ?_
          exact (act1_2_c hS hs hgd 26).2.2.1  M hS (by omega) (by omega) (by omega) (by omega)
        · intro h15
          exfalso; omega
    · intro h16
      refine n_fg (le_n (le_n (le_n (le_n (le_n (le_n le_0)))))) ?_
      exact (act1_2_c hS hs hgd 26).1  M hS (by omega) (by omega)

set_option maxHeartbeats 4000000 in
theorem actTake2_2_c {xs : List Int32} {e : Nat} {ac : Int} {M : nM} {p gd : Int} (hS : Sf 2 ac M M) (hp : ActAt p) (hpl : p = 55 + 3 * ac) (hgd : M 112 0 = gd) (ht : ∀ i : Int, 0 ≤ i → i < 4 → M 54 i ≤ 1) : ∀ nn : Nat, (∀ (x4 x5 : Int) (M : nM), Sf 2 ac M M → (0 ≤ x4 ∧ x4 ≤ 3) → (0 ≤ x5 ∧ x5 ≤ 8) → (M 112 0 = gd) → (M p 0 = 2) → (M p 1 = 4) → (∀ i : Int, 0 ≤ i → i < 4 → M 54 i ≤ 1) → (∀ i : Int, 0 ≤ i → i < x5 → M (p + 1) i ≤ 1) → (8 - x5) * 1 + 11 < (nn : Int) → nW xs (e + 1) 2 20 [some (2, p), none, some (2, 54), some (2, 4), some (0, x4), some (0, x5), none] [] M (nPV fun M1 => Sf 2 ac M1 M1 ∧ (M1 112 0 = gd) ∧ (M1 p 0 = 2 ∧ M1 p 1 = 4 ∧ ∀ i : Int, 0 ≤ i → i < 8 → M1 (p + 1) i ≤ 1 ∧ M1 (p + 2) i ≤ 1))) ∧ (∀ (x5 : Int) (M : nM), Sf 2 ac M M → (0 ≤ x5 ∧ x5 ≤ 8) → (M 112 0 = gd) → (M p 0 = 2) → (M p 1 = 4) → (∀ i : Int, 0 ≤ i → i < 8 → M (p + 1) i ≤ 1) → (∀ i : Int, 0 ≤ i → i < x5 → M (p + 2) i ≤ 1) → (8 - x5) * 1 + 1 < (nn : Int) → nW xs (e + 1) 2 70 [some (2, p), none, none, some (2, 4), none, some (0, x5), none] [] M (nPV fun M1 => Sf 2 ac M1 M1 ∧ (M1 112 0 = gd) ∧ (M1 p 0 = 2 ∧ M1 p 1 = 4 ∧ ∀ i : Int, 0 ≤ i → i < 8 → M1 (p + 1) i ≤ 1 ∧ M1 (p + 2) i ≤ 1))) := by
  have hd : (2 : Int) = 2 ∨ (2 : Int) = 3 := by decide
  have hac := hS.2.2.2.2
  have hpb := hp.1
  intro nn
  induction nn with
  | zero => refine ⟨?_, ?_⟩ <;> (intros; omega)
  | succ nn ih =>
    refine ⟨?_, ?_⟩
    · intro x4 x5 M hS k4 k5 hggd v0 v1 v2 v3 hnn
      refine n_iload c_2_20 rfl (n_aload_n c_2_22 rfl (n_getV (bi := 1) c_2_23 sc_4.n rfl rfl rfl (t_4_1 hS) ?_))
      intro z1 ez1 f2
      obtain rfl : z1 = 8 := by omega
      refine n_if2_ge c_2_26 (by omega) (by omega) ?_ ?_
      · intro h3
        refine n_iconst c_2_67 (n_istore (L2 := [some (2, p), none, some (2, 54), some (2, 4), some (0, x4), some (0, 0), none]) c_2_68 rfl rfl (n_fg (le_s (le_n (le_n (le_s (le_n (le_s (le_n le_0))))))) ?_))
        exact ih.2 _ M hS (by omega) (by omega) (by exact v0) (by exact v1) (by exact fun i h0 h1 => v3 i h0 (by omega)) (by exact fun i h0 h1 => by omega) (by omega)
      · intro h4
        refine n_aload_n c_2_29 rfl (n_getR c_2_30 hp.c0.1.n rfl rfl rfl hp.r.1 (n_iload c_2_33 rfl (n_aload_n c_2_35 rfl (n_iload c_2_36 rfl (n_ialoadV c_2_38 sc_54.n rfl rfl rfl (by omega) (t_54 hS (by omega)) ?_)))))
        intro z5 ez5 f6
        have t38 := v2 x4 (by omega) (by omega)
        refine n_iastoreM hS c_2_39 hp.c0.2.1.n rfl (by omega) (m_actnr hp hpl (Or.inl rfl) (by omega) (by omega)) ?_
        intro M7 eM7 hS7
        have g7_0 : M7 112 0 = M 112 0 := by rw [eM7]; exact nu_a (by omega)
        have g7_1 : M7 p 1 = M p 1 := by rw [eM7]; exact nu_a (by omega)
        refine n_iload c_2_40 rfl (n_iconst c_2_42 (n_iadd c_2_43 rfl (n_aload_n c_2_44 rfl (n_getV (bi := 1) c_2_45 hp.c0.1.n rfl rfl rfl (show 4 ≤ M7 p 1 ∧ M7 p 1 ≤ 4 by omega) ?_))))
        intro z8 ez8 f9
        obtain rfl : z8 = 4 := by omega
        refine n_if2_ge c_2_48 (by omega) (by omega) ?_ ?_
        · intro h10
          refine n_iconst c_2_58 (n_istore (L2 := [some (2, p), none, some (2, 54), some (2, 4), some (0, 0), some (0, x5), none]) c_2_59 rfl rfl (n_iinc (L2 := [some (2, p), none, some (2, 54), some (2, 4), some (0, 0), some (0, (x5 + 1)), none]) c_2_61 rfl rfl rfl (n_goto c_2_64 (n_fg (le_s (le_n (le_s (le_s (le_s (le_s (le_n le_0))))))) ?_))))
          exact ih.1 _ _ M7 hS7 (by omega) (by omega) (by omega) (by rw [eM7, nu_a (by omega)]; exact v0) (by rw [eM7, nu_a (by omega)]; exact v1) (by exact fun i h0 h1 => by rw [eM7, nu_a (by omega)]; exact v2 i h0 h1) (by exact fun i h0 h1 => by rw [eM7, nu_e]; split <;> first | omega | exact v3 i h0 (by omega)) (by omega)
        · intro h11
          refine n_iload c_2_51 rfl (n_iconst c_2_53 (n_iadd c_2_54 rfl (n_goto c_2_55 (n_istore (L2 := [some (2, p), none, some (2, 54), some (2, 4), some (0, (x4 + 1)), some (0, x5), none]) c_2_59 rfl rfl (n_iinc (L2 := [some (2, p), none, some (2, 54), some (2, 4), some (0, (x4 + 1)), some (0, (x5 + 1)), none]) c_2_61 rfl rfl rfl (n_goto c_2_64 (n_fg (le_s (le_n (le_s (le_s (le_s (le_s (le_n le_0))))))) ?_)))))))
          exact ih.1 _ _ M7 hS7 (by omega) (by omega) (by omega) (by rw [eM7, nu_a (by omega)]; exact v0) (by rw [eM7, nu_a (by omega)]; exact v1) (by exact fun i h0 h1 => by rw [eM7, nu_a (by omega)]; exact v2 i h0 h1) (by exact fun i h0 h1 => by rw [eM7, nu_e]; split <;> first | omega | exact v3 i h0 (by omega)) (by omega)
    · intro x5 M hS k5 hggd v0 v1 v2 v3 hnn
      refine n_iload c_2_70 rfl (n_aload_n c_2_72 rfl (n_getV (bi := 1) c_2_73 sc_4.n rfl rfl rfl (t_4_1 hS) ?_))
      intro z1 ez1 f2
      obtain rfl : z1 = 8 := by omega
      refine n_if2_ge c_2_76 (by omega) (by omega) ?_ ?_
      · intro h3
        exact n_rV c_2_134 rfl ⟨hS, by omega, by exact ⟨v0, v1, fun i h0 h1 => ⟨v2 i h0 (by omega), v3 i h0 (by omega)⟩⟩⟩
      · intro h4
        refine n_aload_n c_2_79 rfl (n_getR c_2_80 sc_4.n rfl rfl rfl r_4_2 (n_iload c_2_83 rfl (n_ialoadV c_2_85 sc_5.n rfl rfl rfl (by omega) (t_5d hS hd (by omega) (by omega)) ?_)))
        intro z5 ez5 f6
        refine n_aload_n c_2_86 rfl (n_getV (bi := 0) c_2_87 sc_4.n rfl rfl rfl (t_4_0 hS) ?_)
        intro z7 ez7 f8
        obtain rfl : z7 = 2 := by omega
        refine n_imul c_2_90 rfl (n_aload_n c_2_91 rfl (n_getR c_2_92 sc_4.n rfl rfl rfl r_4_4 (n_iload c_2_95 rfl (n_ialoadV c_2_97 sc_7.n rfl rfl rfl (by omega) (t_7d hS hd (by omega) (by omega)) ?_))))
        intro z9 ez9 f10
        refine n_iadd c_2_98 rfl (n_aload_n c_2_99 rfl (n_getV (bi := 0) c_2_100 sc_4.n rfl rfl rfl (t_4_0 hS) ?_))
        intro z11 ez11 f12
        obtain rfl : z11 = 2 := by omega
        refine n_imul c_2_103 rfl (n_aload_n c_2_104 rfl (n_getR c_2_105 sc_4.n rfl rfl rfl r_4_3 (n_iload c_2_108 rfl (n_ialoadV c_2_110 sc_6.n rfl rfl rfl (by omega) (t_6d hS hd (by omega) (by omega)) ?_))))
        intro z13 ez13 f14
        refine n_iadd c_2_111 rfl (n_istore (L2 := [some (2, p), none, none, some (2, 4), none, some (0, x5), some (0, ((((z5 * 2) + z9) * 2) + z13))]) c_2_112 rfl rfl (n_aload_n c_2_114 rfl (n_getR c_2_115 hp.c0.1.n rfl rfl rfl hp.r.2 (n_iload c_2_118 rfl (n_aload_n c_2_120 rfl (n_getR c_2_121 hp.c0.1.n rfl rfl rfl hp.r.1 (n_iload c_2_124 rfl (n_ialoadV c_2_126 hp.c0.2.1.n rfl rfl rfl (by omega) (t_actr hS hd hp (Or.inl rfl) (by omega)) ?_))))))))
        intro z15 ez15 f16
        have t126 := v2 ((((z5 * 2) + z9) * 2) + z13) (by omega) (by omega)
        refine n_iastoreM hS c_2_127 hp.c0.2.2.n rfl (by omega) (m_actnr hp hpl (Or.inr rfl) (by omega) (by omega)) ?_
        intro M17 eM17 hS17
        have g17_0 : M17 112 0 = M 112 0 := by rw [eM17]; exact nu_a (by omega)
        have g17_1 : M17 p 1 = M p 1 := by rw [eM17]; exact nu_a (by omega)
        refine n_iinc (L2 := [some (2, p), none, none, some (2, 4), none, some (0, (x5 + 1)), some (0, ((((z5 * 2) + z9) * 2) + z13))]) c_2_128 rfl rfl rfl (n_goto c_2_131 (n_fg (le_s (le_n (le_n (le_s (le_n (le_s (le_n le_0))))))) ?_))
        exact ih.2 _ M17 hS17 (by omega) (by omega) (by rw [eM17, nu_a (by omega)]; exact v0) (by rw [eM17, nu_a (by omega)]; exact v1) (by exact fun i h0 h1 => by rw [eM17, nu_a (by omega)]; exact v2 i h0 h1) (by exact fun i h0 h1 => by rw [eM17, nu_e]; split <;> first | omega | exact v3 i h0 (by omega)) (by omega)
set_option maxHeartbeats 4000000 in
theorem actTake2_2 {xs : List Int32} {e : Nat} {ac : Int} {M : nM} {p gd : Int} (hS : Sf 2 ac M M) (hp : ActAt p) (hpl : p = 55 + 3 * ac) (hgd : M 112 0 = gd) (ht : ∀ i : Int, 0 ≤ i → i < 4 → M 54 i ≤ 1) : nW xs (e + 1) 2 0 [some (2, p), some (0, 2), some (2, 54), some (2, 4), none, none, none] [] M (nPV fun M1 => Sf 2 ac M1 M1 ∧ (M1 112 0 = gd) ∧ (M1 p 0 = 2 ∧ M1 p 1 = 4 ∧ ∀ i : Int, 0 ≤ i → i < 8 → M1 (p + 1) i ≤ 1 ∧ M1 (p + 2) i ≤ 1)) := by
  have hd : (2 : Int) = 2 ∨ (2 : Int) = 3 := by decide
  have hac := hS.2.2.2.2
  have hpb := hp.1
  refine n_aload_n c_2_0 rfl (n_iload_n c_2_1 rfl (n_putM (bi := 0) hS c_2_2 hp.c0.1.n rfl rfl rfl rfl (m_actn hp hpl (by omega) (by omega)) ?_))
  intro M1 eM1 hS1
  have g1_0 : M1 112 0 = M 112 0 := by rw [eM1]; exact nu_a (by omega)
  have g1_1 : M1 p 0 = 2 := by rw [eM1]; exact nu_s _ _ _ _
  refine n_aload_n c_2_5 rfl (n_aload_n c_2_6 rfl (n_iload_n c_2_7 rfl (n_v1I c_2_8 rfl sc_4.n rfl rfl rfl rfl (power2_2  hS1 ) ?_)))
  intro z2 M3 hP4
  obtain ⟨eM, f4⟩ := hP4
  subst eM
  obtain rfl : z2 = 4 := by omega
  refine n_putM (bi := 1) hS1 c_2_11 hp.c0.1.n rfl rfl rfl rfl (m_actn hp hpl (by omega) (by omega)) ?_
  intro M5 eM5 hS5
  have g5_0 : M5 112 0 = M1 112 0 := by rw [eM5]; exact nu_a (by omega)
  have g5_1 : M5 p 0 = M1 p 0 := by rw [eM5]; exact nu_i (by omega)
  have g5_2 : M5 p 1 = 4 := by rw [eM5]; exact nu_s _ _ _ _
  refine n_iconst c_2_14 (n_istore (L2 := [some (2, p), some (0, 2), some (2, 54), some (2, 4), some (0, 0), none, none]) c_2_15 rfl rfl (n_iconst c_2_17 (n_istore (L2 := [some (2, p), some (0, 2), some (2, 54), some (2, 4), some (0, 0), some (0, 0), none]) c_2_18 rfl rfl (n_fg (le_s (le_n (le_s (le_s (le_s (le_s (le_n le_0))))))) ?_))))
  exact (actTake2_2_c hS hp hpl hgd ht 50).1 _ _ M5 hS5 (by omega) (by omega) (by omega) (by omega) (by omega) (by exact fun i h0 h1 => by rw [eM5, nu_a (by omega), eM1, nu_a (by omega)]; exact ht i h0 h1) (by exact fun i h0 h1 => by omega) (by omega)

set_option maxHeartbeats 4000000 in
theorem act2_2_c {xs : List Int32} {e : Nat} {ac : Int} {M : nM} {s gd : Int} (hS : Sf 2 ac M M) (hs : -2147483648 ≤ s ∧ s ≤ 2147483647) (hgd : M 112 0 = gd) : ∀ nn : Nat, (∀ (M : nM), Sf 2 ac M M → (M 112 0 = gd) → 10 < (nn : Int) → nW xs (e + 2) 97 19 [none, none, none, none, none, none] [] M (nPI fun z M1 => (∃ ac2, Sf 2 ac2 M1 M1) ∧ (-2147483648 ≤ z ∧ z ≤ 2147483647) ∧ (M1 112 0 = gd))) ∧ (∀ (M : nM), Sf 2 ac M M → (M 112 0 = gd) → 9 < (nn : Int) → nW xs (e + 2) 97 44 [none, none, none, none, none, none] [] M (nPI fun z M1 => (∃ ac2, Sf 2 ac2 M1 M1) ∧ (-2147483648 ≤ z ∧ z ≤ 2147483647) ∧ (M1 112 0 = gd))) ∧ (∀ (M : nM), Sf 2 ac M M → (0 ≤ s ∧ s ≤ 7) → (M 112 0 = gd) → (M 3 14 ≤ 7) → 8 < (nn : Int) → nW xs (e + 2) 97 47 [some (2, 3), some (0, 2), some (0, s), none, none, none] [] M (nPI fun z M1 => (∃ ac2, Sf 2 ac2 M1 M1) ∧ (-2147483648 ≤ z ∧ z ≤ 2147483647) ∧ (M1 112 0 = gd))) ∧ (∀ (x3 x4 : Int) (M : nM), Sf 2 ac M M → (0 ≤ s ∧ s ≤ 7) → (4 ≤ x3 ∧ x3 ≤ 4) → (0 ≤ x4 ∧ x4 ≤ 4) → (M 112 0 = gd) → (∀ i : Int, 0 ≤ i → i < x4 → M 54 i ≤ 1) → (M 3 14 ≤ 7) → (4 - x4) * 1 + 2 < (nn : Int) → nW xs (e + 2) 97 73 [some (2, 3), some (0, 2), some (0, s), some (0, x3), some (0, x4), none] [] M (nPI fun z M1 => (∃ ac2, Sf 2 ac2 M1 M1) ∧ (-2147483648 ≤ z ∧ z ≤ 2147483647) ∧ (M1 112 0 = gd))) ∧ (∀ (M : nM), Sf 2 ac M M → (M 112 0 = gd) → (∀ i : Int, 0 ≤ i → i < 4 → M 54 i ≤ 1) → (M 3 14 ≤ 7) → 1 < (nn : Int) → nW xs (e + 2) 97 130 [some (2, 3), some (0, 2), none, none, none, none] [] M (nPI fun z M1 => (∃ ac2, Sf 2 ac2 M1 M1) ∧ (-2147483648 ≤ z ∧ z ≤ 2147483647) ∧ (M1 112 0 = gd))) := by
  have hd : (2 : Int) = 2 ∨ (2 : Int) = 3 := by decide
  have hac := hS.2.2.2.2
  intro nn
  induction nn with
  | zero => refine ⟨?_, ?_, ?_, ?_, ?_⟩ <;> (intros; omega)
  | succ nn ih =>
    refine ⟨?_, ?_, ?_, ?_, ?_⟩
    · intro M hS hggd hnn
      refine n_bipush c_97_19 rfl ?_
      exact n_rI c_97_21 rfl ⟨⟨_, hS⟩, by omega, by omega⟩
    · intro M hS hggd hnn
      refine n_bipush c_97_44 rfl ?_
      exact n_rI c_97_46 rfl ⟨⟨_, hS⟩, by omega, by omega⟩
    · intro M hS k2 hggd v0 hnn
      refine n_aload_n c_97_47 rfl (n_getR c_97_48 sc_3.n rfl rfl rfl r_3_1 (n_iload_n c_97_51 rfl (n_v1I c_97_52 rfl sc_8.n rfl rfl rfl rfl (hasRow_2 (s := s) hS (by omega)) ?_)))
      intro z1 M2 hP3
      obtain ⟨eM, f3, f3p0⟩ := hP3
      subst eM
      refine n_if0_ne c_97_55 (by omega) ?_ ?_
      · intro h4
        refine n_aload_n c_97_61 rfl (n_getR c_97_62 sc_3.n rfl rfl rfl r_3_0 (n_iload_n c_97_65 rfl (n_v1I c_97_66 rfl sc_4.n rfl rfl rfl rfl (power2_2  hS ) ?_)))
        intro z5 M6 hP7
        obtain ⟨eM, f7⟩ := hP7
        subst eM
        obtain rfl : z5 = 4 := by omega
        refine n_istore_n (L2 := [some (2, 3), some (0, 2), some (0, s), some (0, 4), none, none]) c_97_69 rfl rfl (n_iconst c_97_70 (n_istore (L2 := [some (2, 3), some (0, 2), some (0, s), some (0, 4), some (0, 0), none]) c_97_71 rfl rfl (n_fg (le_s (le_s (le_s (le_s (le_s (le_n le_0)))))) ?_)))
        exact ih.2.2.2.1 _ _ M hS (by omega) (by omega) (by omega) (by omega) (by exact fun i h0 h1 => by omega) (by omega) (by omega)
      · intro h8
        refine n_bipush c_97_58 rfl ?_
        exact n_rI c_97_60 rfl ⟨⟨_, hS⟩, by omega, by omega⟩
    · intro x3 x4 M hS k2 k3 k4 hggd v0 v1 hnn
      refine n_iload c_97_73 rfl (n_iload_n c_97_75 rfl ?_)
      refine n_if2_ge c_97_76 (by omega) (by omega) ?_ ?_
      · intro h1
        refine n_fg (le_s (le_s (le_n (le_n (le_n (le_n le_0)))))) ?_
        exact ih.2.2.2.2  M hS (by omega) (by exact fun i h0 h1 => v0 i h0 (by omega)) (by omega) (by omega)
      · intro h2
        refine n_iload c_97_79 rfl (n_bipush c_97_81 rfl ?_)
        refine n_if2_ge c_97_83 (by omega) (by omega) ?_ ?_
        · intro h3
          exfalso; omega
        · intro h4
          refine n_aload_n c_97_86 rfl (n_getR c_97_87 sc_3.n rfl rfl rfl r_3_1 (n_iload_n c_97_90 rfl (n_iload c_97_91 rfl (n_aload_n c_97_93 rfl (n_getR c_97_94 sc_3.n rfl rfl rfl r_3_0 (n_getV (bi := 0) c_97_97 sc_4.n rfl rfl rfl (t_4_0 hS) ?_))))))
          intro z5 ez5 f6
          obtain rfl : z5 = 2 := by omega
          refine n_iconst c_97_100 (n_isub c_97_101 rfl ?_)
          have hcst : ((2 - 1) : Int) = 1 := by omega
          rw [hcst]
          refine n_v3I c_97_102 rfl sc_8.n rfl rfl rfl rfl (read1_2 (s := s) (i := x4) hS (by omega) (by omega)) ?_
          intro z7 M8 hP9
          obtain ⟨eM, f9⟩ := hP9
          subst eM
          refine n_istore (L2 := [some (2, 3), some (0, 2), some (0, s), some (0, x3), some (0, x4), some (0, z7)]) c_97_105 rfl rfl (n_iload c_97_107 rfl ?_)
          refine n_if0_ge c_97_109 (by omega) ?_ ?_
          · intro h10
            refine n_aload_n c_97_115 rfl (n_getR c_97_116 sc_3.n rfl rfl rfl r_3_13 (n_iload c_97_119 rfl (n_iload c_97_121 rfl (n_iastoreM hS c_97_123 sc_54.n rfl (by omega) (m_54 (by omega) (by omega)) ?_))))
            intro M11 eM11 hS11
            have g11_0 : M11 112 0 = M 112 0 := by rw [eM11]; exact nu_a (by omega)
            have g11_1 : M11 3 14 = M 3 14 := by rw [eM11]; exact nu_a (by omega)
            refine n_iinc (L2 := [some (2, 3), some (0, 2), some (0, s), some (0, x3), some (0, (x4 + 1)), some (0, z7)]) c_97_124 rfl rfl rfl (n_goto c_97_127 (n_fg (le_s (le_s (le_s (le_s (le_s (le_n le_0)))))) ?_))
            exact ih.2.2.2.1 _ _ M11 hS11 (by omega) (by omega) (by omega) (by omega) (by exact fun i h0 h1 => by rw [eM11, nu_e]; split <;> first | omega | exact v0 i h0 (by omega)) (by omega) (by omega)
          · intro h12
            refine n_iload c_97_112 rfl ?_
            exact n_rI c_97_114 rfl ⟨⟨_, hS⟩, by omega, by omega⟩
    · intro M hS hggd v0 v1 hnn
      refine n_aload_n c_97_130 rfl (n_getR c_97_131 sc_3.n rfl rfl rfl r_3_2 (n_aload_n c_97_134 rfl (n_getV (bi := 14) c_97_135 sc_3.n rfl rfl rfl (t_3_14x hS) ?_)))
      intro z1 ez1 f2
      have f2a := t_ac hS
      refine n_aaload c_97_138 sc_12.n rfl rfl rfl (by omega) (r_acts _) ?_
      have q3 : ActAt (55 + 3 * z1) := by unfold ActAt; omega
      have q3l : (55 + 3 * z1) = 55 + 3 * ac := by omega
      refine n_iload_n c_97_139 rfl (n_aload_n c_97_140 rfl (n_getR c_97_141 sc_3.n rfl rfl rfl r_3_13 (n_aload_n c_97_144 rfl (n_getR c_97_145 sc_3.n rfl rfl rfl r_3_0 (n_v3V c_97_148 rfl q3.c0.1.n rfl rfl rfl rfl (actTake2_2 (p := (55 + 3 * z1)) (gd := (M 112 0)) hS q3 q3l rfl (by exact fun i h0 h1 => v0 i h0 (by omega))) ?_)))))
      intro  M4 hP5
      obtain ⟨hS4, f5g0, f5p0⟩ := hP5
      refine n_aload_n c_97_151 rfl (n_v0V c_97_152 rfl sc_3.n rfl rfl rfl rfl (forgetMade_2  hS4 ) ?_)
      intro  M6 hP7
      have hS6 := hP7
      have hS6c := hS6.2.2.2.1.1
      have hS6 := hS6.refl
      have hS6k0 := hS6c 112 0 (by unfold core; omega)
      have na0 : M6 (55 + 3 * z1) 0 = 2 := (hS6c (55 + 3 * z1) 0 (by unfold core; omega)).trans f5p0.1
      have na1 : M6 (55 + 3 * z1) 1 = 4 := (hS6c (55 + 3 * z1) 1 (by unfold core; omega)).trans f5p0.2.1
      have na2 : ∀ i : Int, 0 ≤ i → i < 8 → M6 ((55 + 3 * z1) + 1) i ≤ 1 ∧ M6 ((55 + 3 * z1) + 2) i ≤ 1 := fun i h0 h1 => by rw [hS6c ((55 + 3 * z1) + 1) i (by unfold core; omega), hS6c ((55 + 3 * z1) + 2) i (by unfold core; omega)]; exact f5p0.2.2 i h0 h1
      refine n_aload_n c_97_155 rfl (n_dup2 c_97_156 (n_getV (bi := 14) c_97_157 sc_3.n rfl rfl rfl (t_3_14x hS6) ?_))
      intro z8 ez8 f9
      have f9a := t_ac hS6
      refine n_dup_x102 c_97_160 (n_iconst c_97_161 (n_iadd c_97_162 rfl (n_jka (p := (55 + 3 * z1)) (v := 4) q3 ?_)))
      intro My fy jy
      have hSy := Sf.jka hS6 q3 (by omega) fy jy (by omega)
      have hNA : NA 2 2 4 (55 + 3 * z1) My := ⟨(fy _ _ (by omega)).trans na0, na_mk fy jy na1, fun i h0 h1 => by rw [fy _ i (by omega), fy _ i (by omega)]; exact na2 i h0 (by omega)⟩
      have hey : My 112 0 = M6 112 0 := fy 112 0 (by omega)
      have hUp := Sf.actUp hSy (by omega) (by omega) (by omega) (by omega) (by omega) hNA
      have hUe : ((z8 + 1) : Int) = ac + 1 := by omega
      refine n_putG (P := fun M2 => Sf 2 (ac + 1) M2 M2) (bi := 14) c_97_163 sc_3.n rfl rfl rfl rfl (by rw [hUe]; exact hUp) ?_
      intro M10 eM10 hS10
      have hgz : M10 112 0 = My 112 0 := by rw [eM10]; exact nu_a (by omega)
      exact n_rI c_97_166 rfl ⟨⟨_, hS10⟩, by omega, by omega⟩
set_option maxHeartbeats 4000000 in
theorem act2_2 {xs : List Int32} {e : Nat} {ac : Int} {M : nM} {s gd : Int} (hS : Sf 2 ac M M) (hs : -2147483648 ≤ s ∧ s ≤ 2147483647) (hgd : M 112 0 = gd) : nW xs (e + 2) 97 0 [some (2, 3), some (0, 2), some (0, s), none, none, none] [] M (nPI fun z M1 => (∃ ac2, Sf 2 ac2 M1 M1) ∧ (-2147483648 ≤ z ∧ z ≤ 2147483647) ∧ (M1 112 0 = gd)) := by
  have hd : (2 : Int) = 2 ∨ (2 : Int) = 3 := by decide
  have hac := hS.2.2.2.2
  refine n_aload_n c_97_0 rfl (n_getR c_97_1 sc_3.n rfl rfl rfl r_3_1 (n_iload_n c_97_4 rfl (n_v1I c_97_5 rfl sc_8.n rfl rfl rfl rfl (isSlot_2 (s := s) hS (by omega)) ?_)))
  intro z1 M2 hP3
  obtain ⟨eM, f3, f3p0⟩ := hP3
  subst eM
  refine n_if0_eq c_97_8 (by omega) ?_ ?_
  · intro h4
    refine n_fg (le_n (le_n (le_n (le_n (le_n (le_n le_0)))))) ?_
    exact (act2_2_c hS hs hgd 30).1  M hS (by omega) (by omega)
  · intro h5
    refine n_aload_n c_97_11 rfl (n_iload_n c_97_12 rfl (n_v1I c_97_13 rfl sc_3.n rfl rfl rfl rfl (isPlaceCount_2 (k := 2) hS (by omega)) ?_))
    intro z6 M7 hP8
    obtain ⟨eM, f8, f8p0⟩ := hP8
    subst eM
    refine n_if0_ne c_97_16 (by omega) ?_ ?_
    · intro h9
      refine n_aload_n c_97_22 rfl (n_getV (bi := 14) c_97_23 sc_3.n rfl rfl rfl (t_3_14x hS) ?_)
      intro z10 ez10 f11
      have f11a := t_ac hS
      refine n_bipush c_97_26 rfl ?_
      refine n_if2_ge c_97_28 (by omega) (by omega) ?_ ?_
      · intro h12
        refine n_fg (le_n (le_n (le_n (le_n (le_n (le_n le_0)))))) ?_
        exact (act2_2_c hS hs hgd 30).2.1  M hS (by omega) (by omega)
      · intro h13
        refine n_iload_n c_97_31 rfl (n_iconst c_97_32 ?_)
        refine n_if2_ne c_97_33 (by omega) (by omega) ?_ ?_
        · intro h14
          refine n_fg (le_s (le_s (le_s (le_n (le_n (le_n le_0)))))) ?_
          exact (act2_2_c hS hs hgd 30).2.2.1  M hS (by omega) (by omega) (by omega) (by omega)
        · intro h15
          exfalso; omega
    · intro h16
      refine n_fg (le_n (le_n (le_n (le_n (le_n (le_n le_0)))))) ?_
      exact (act2_2_c hS hs hgd 30).1  M hS (by omega) (by omega)

set_option maxHeartbeats 4000000 in
theorem actTake3_2_c {xs : List Int32} {e : Nat} {ac : Int} {M : nM} {p gd : Int} (hS : Sf 2 ac M M) (hp : ActAt p) (hpl : p = 55 + 3 * ac) (hgd : M 112 0 = gd) (ht : ∀ i : Int, 0 ≤ i → i < 8 → M 54 i ≤ 1) : ∀ nn : Nat, (∀ (x4 x5 : Int) (M : nM), Sf 2 ac M M → (0 ≤ x4 ∧ x4 ≤ 7) → (0 ≤ x5 ∧ x5 ≤ 8) → (M 112 0 = gd) → (M p 0 = 3) → (M p 1 = 8) → (∀ i : Int, 0 ≤ i → i < 8 → M 54 i ≤ 1) → (∀ i : Int, 0 ≤ i → i < x5 → M (p + 1) i ≤ 1) → (8 - x5) * 1 + 11 < (nn : Int) → nW xs (e + 1) 2 20 [some (2, p), none, some (2, 54), some (2, 4), some (0, x4), some (0, x5), none] [] M (nPV fun M1 => Sf 2 ac M1 M1 ∧ (M1 112 0 = gd) ∧ (M1 p 0 = 3 ∧ M1 p 1 = 8 ∧ ∀ i : Int, 0 ≤ i → i < 8 → M1 (p + 1) i ≤ 1 ∧ M1 (p + 2) i ≤ 1))) ∧ (∀ (x5 : Int) (M : nM), Sf 2 ac M M → (0 ≤ x5 ∧ x5 ≤ 8) → (M 112 0 = gd) → (M p 0 = 3) → (M p 1 = 8) → (∀ i : Int, 0 ≤ i → i < 8 → M (p + 1) i ≤ 1) → (∀ i : Int, 0 ≤ i → i < x5 → M (p + 2) i ≤ 1) → (8 - x5) * 1 + 1 < (nn : Int) → nW xs (e + 1) 2 70 [some (2, p), none, none, some (2, 4), none, some (0, x5), none] [] M (nPV fun M1 => Sf 2 ac M1 M1 ∧ (M1 112 0 = gd) ∧ (M1 p 0 = 3 ∧ M1 p 1 = 8 ∧ ∀ i : Int, 0 ≤ i → i < 8 → M1 (p + 1) i ≤ 1 ∧ M1 (p + 2) i ≤ 1))) := by
  have hd : (2 : Int) = 2 ∨ (2 : Int) = 3 := by decide
  have hac := hS.2.2.2.2
  have hpb := hp.1
  intro nn
  induction nn with
  | zero => refine ⟨?_, ?_⟩ <;> (intros; omega)
  | succ nn ih =>
    refine ⟨?_, ?_⟩
    · intro x4 x5 M hS k4 k5 hggd v0 v1 v2 v3 hnn
      refine n_iload c_2_20 rfl (n_aload_n c_2_22 rfl (n_getV (bi := 1) c_2_23 sc_4.n rfl rfl rfl (t_4_1 hS) ?_))
      intro z1 ez1 f2
      obtain rfl : z1 = 8 := by omega
      refine n_if2_ge c_2_26 (by omega) (by omega) ?_ ?_
      · intro h3
        refine n_iconst c_2_67 (n_istore (L2 := [some (2, p), none, some (2, 54), some (2, 4), some (0, x4), some (0, 0), none]) c_2_68 rfl rfl (n_fg (le_s (le_n (le_n (le_s (le_n (le_s (le_n le_0))))))) ?_))
        exact ih.2 _ M hS (by omega) (by omega) (by exact v0) (by exact v1) (by exact fun i h0 h1 => v3 i h0 (by omega)) (by exact fun i h0 h1 => by omega) (by omega)
      · intro h4
        refine n_aload_n c_2_29 rfl (n_getR c_2_30 hp.c0.1.n rfl rfl rfl hp.r.1 (n_iload c_2_33 rfl (n_aload_n c_2_35 rfl (n_iload c_2_36 rfl (n_ialoadV c_2_38 sc_54.n rfl rfl rfl (by omega) (t_54 hS (by omega)) ?_)))))
        intro z5 ez5 f6
        have t38 := v2 x4 (by omega) (by omega)
        refine n_iastoreM hS c_2_39 hp.c0.2.1.n rfl (by omega) (m_actnr hp hpl (Or.inl rfl) (by omega) (by omega)) ?_
        intro M7 eM7 hS7
        have g7_0 : M7 112 0 = M 112 0 := by rw [eM7]; exact nu_a (by omega)
        have g7_1 : M7 p 1 = M p 1 := by rw [eM7]; exact nu_a (by omega)
        refine n_iload c_2_40 rfl (n_iconst c_2_42 (n_iadd c_2_43 rfl (n_aload_n c_2_44 rfl (n_getV (bi := 1) c_2_45 hp.c0.1.n rfl rfl rfl (show 8 ≤ M7 p 1 ∧ M7 p 1 ≤ 8 by omega) ?_))))
        intro z8 ez8 f9
        obtain rfl : z8 = 8 := by omega
        refine n_if2_ge c_2_48 (by omega) (by omega) ?_ ?_
        · intro h10
          refine n_iconst c_2_58 (n_istore (L2 := [some (2, p), none, some (2, 54), some (2, 4), some (0, 0), some (0, x5), none]) c_2_59 rfl rfl (n_iinc (L2 := [some (2, p), none, some (2, 54), some (2, 4), some (0, 0), some (0, (x5 + 1)), none]) c_2_61 rfl rfl rfl (n_goto c_2_64 (n_fg (le_s (le_n (le_s (le_s (le_s (le_s (le_n le_0))))))) ?_))))
          exact ih.1 _ _ M7 hS7 (by omega) (by omega) (by omega) (by rw [eM7, nu_a (by omega)]; exact v0) (by rw [eM7, nu_a (by omega)]; exact v1) (by exact fun i h0 h1 => by rw [eM7, nu_a (by omega)]; exact v2 i h0 h1) (by exact fun i h0 h1 => by rw [eM7, nu_e]; split <;> first | omega | exact v3 i h0 (by omega)) (by omega)
        · intro h11
          refine n_iload c_2_51 rfl (n_iconst c_2_53 (n_iadd c_2_54 rfl (n_goto c_2_55 (n_istore (L2 := [some (2, p), none, some (2, 54), some (2, 4), some (0, (x4 + 1)), some (0, x5), none]) c_2_59 rfl rfl (n_iinc (L2 := [some (2, p), none, some (2, 54), some (2, 4), some (0, (x4 + 1)), some (0, (x5 + 1)), none]) c_2_61 rfl rfl rfl (n_goto c_2_64 (n_fg (le_s (le_n (le_s (le_s (le_s (le_s (le_n le_0))))))) ?_)))))))
          exact ih.1 _ _ M7 hS7 (by omega) (by omega) (by omega) (by rw [eM7, nu_a (by omega)]; exact v0) (by rw [eM7, nu_a (by omega)]; exact v1) (by exact fun i h0 h1 => by rw [eM7, nu_a (by omega)]; exact v2 i h0 h1) (by exact fun i h0 h1 => by rw [eM7, nu_e]; split <;> first | omega | exact v3 i h0 (by omega)) (by omega)
    · intro x5 M hS k5 hggd v0 v1 v2 v3 hnn
      refine n_iload c_2_70 rfl (n_aload_n c_2_72 rfl (n_getV (bi := 1) c_2_73 sc_4.n rfl rfl rfl (t_4_1 hS) ?_))
      intro z1 ez1 f2
      obtain rfl : z1 = 8 := by omega
      refine n_if2_ge c_2_76 (by omega) (by omega) ?_ ?_
      · intro h3
        exact n_rV c_2_134 rfl ⟨hS, by omega, by exact ⟨v0, v1, fun i h0 h1 => ⟨v2 i h0 (by omega), v3 i h0 (by omega)⟩⟩⟩
      · intro h4
        refine n_aload_n c_2_79 rfl (n_getR c_2_80 sc_4.n rfl rfl rfl r_4_2 (n_iload c_2_83 rfl (n_ialoadV c_2_85 sc_5.n rfl rfl rfl (by omega) (t_5d hS hd (by omega) (by omega)) ?_)))
        intro z5 ez5 f6
        refine n_aload_n c_2_86 rfl (n_getV (bi := 0) c_2_87 sc_4.n rfl rfl rfl (t_4_0 hS) ?_)
        intro z7 ez7 f8
        obtain rfl : z7 = 2 := by omega
        refine n_imul c_2_90 rfl (n_aload_n c_2_91 rfl (n_getR c_2_92 sc_4.n rfl rfl rfl r_4_4 (n_iload c_2_95 rfl (n_ialoadV c_2_97 sc_7.n rfl rfl rfl (by omega) (t_7d hS hd (by omega) (by omega)) ?_))))
        intro z9 ez9 f10
        refine n_iadd c_2_98 rfl (n_aload_n c_2_99 rfl (n_getV (bi := 0) c_2_100 sc_4.n rfl rfl rfl (t_4_0 hS) ?_))
        intro z11 ez11 f12
        obtain rfl : z11 = 2 := by omega
        refine n_imul c_2_103 rfl (n_aload_n c_2_104 rfl (n_getR c_2_105 sc_4.n rfl rfl rfl r_4_3 (n_iload c_2_108 rfl (n_ialoadV c_2_110 sc_6.n rfl rfl rfl (by omega) (t_6d hS hd (by omega) (by omega)) ?_))))
        intro z13 ez13 f14
        refine n_iadd c_2_111 rfl (n_istore (L2 := [some (2, p), none, none, some (2, 4), none, some (0, x5), some (0, ((((z5 * 2) + z9) * 2) + z13))]) c_2_112 rfl rfl (n_aload_n c_2_114 rfl (n_getR c_2_115 hp.c0.1.n rfl rfl rfl hp.r.2 (n_iload c_2_118 rfl (n_aload_n c_2_120 rfl (n_getR c_2_121 hp.c0.1.n rfl rfl rfl hp.r.1 (n_iload c_2_124 rfl (n_ialoadV c_2_126 hp.c0.2.1.n rfl rfl rfl (by omega) (t_actr hS hd hp (Or.inl rfl) (by omega)) ?_))))))))
        intro z15 ez15 f16
        have t126 := v2 ((((z5 * 2) + z9) * 2) + z13) (by omega) (by omega)
        refine n_iastoreM hS c_2_127 hp.c0.2.2.n rfl (by omega) (m_actnr hp hpl (Or.inr rfl) (by omega) (by omega)) ?_
        intro M17 eM17 hS17
        have g17_0 : M17 112 0 = M 112 0 := by rw [eM17]; exact nu_a (by omega)
        have g17_1 : M17 p 1 = M p 1 := by rw [eM17]; exact nu_a (by omega)
        refine n_iinc (L2 := [some (2, p), none, none, some (2, 4), none, some (0, (x5 + 1)), some (0, ((((z5 * 2) + z9) * 2) + z13))]) c_2_128 rfl rfl rfl (n_goto c_2_131 (n_fg (le_s (le_n (le_n (le_s (le_n (le_s (le_n le_0))))))) ?_))
        exact ih.2 _ M17 hS17 (by omega) (by omega) (by rw [eM17, nu_a (by omega)]; exact v0) (by rw [eM17, nu_a (by omega)]; exact v1) (by exact fun i h0 h1 => by rw [eM17, nu_a (by omega)]; exact v2 i h0 h1) (by exact fun i h0 h1 => by rw [eM17, nu_e]; split <;> first | omega | exact v3 i h0 (by omega)) (by omega)
set_option maxHeartbeats 4000000 in
theorem actTake3_2 {xs : List Int32} {e : Nat} {ac : Int} {M : nM} {p gd : Int} (hS : Sf 2 ac M M) (hp : ActAt p) (hpl : p = 55 + 3 * ac) (hgd : M 112 0 = gd) (ht : ∀ i : Int, 0 ≤ i → i < 8 → M 54 i ≤ 1) : nW xs (e + 1) 2 0 [some (2, p), some (0, 3), some (2, 54), some (2, 4), none, none, none] [] M (nPV fun M1 => Sf 2 ac M1 M1 ∧ (M1 112 0 = gd) ∧ (M1 p 0 = 3 ∧ M1 p 1 = 8 ∧ ∀ i : Int, 0 ≤ i → i < 8 → M1 (p + 1) i ≤ 1 ∧ M1 (p + 2) i ≤ 1)) := by
  have hd : (2 : Int) = 2 ∨ (2 : Int) = 3 := by decide
  have hac := hS.2.2.2.2
  have hpb := hp.1
  refine n_aload_n c_2_0 rfl (n_iload_n c_2_1 rfl (n_putM (bi := 0) hS c_2_2 hp.c0.1.n rfl rfl rfl rfl (m_actn hp hpl (by omega) (by omega)) ?_))
  intro M1 eM1 hS1
  have g1_0 : M1 112 0 = M 112 0 := by rw [eM1]; exact nu_a (by omega)
  have g1_1 : M1 p 0 = 3 := by rw [eM1]; exact nu_s _ _ _ _
  refine n_aload_n c_2_5 rfl (n_aload_n c_2_6 rfl (n_iload_n c_2_7 rfl (n_v1I c_2_8 rfl sc_4.n rfl rfl rfl rfl (power3_2  hS1 ) ?_)))
  intro z2 M3 hP4
  obtain ⟨eM, f4⟩ := hP4
  subst eM
  obtain rfl : z2 = 8 := by omega
  refine n_putM (bi := 1) hS1 c_2_11 hp.c0.1.n rfl rfl rfl rfl (m_actn hp hpl (by omega) (by omega)) ?_
  intro M5 eM5 hS5
  have g5_0 : M5 112 0 = M1 112 0 := by rw [eM5]; exact nu_a (by omega)
  have g5_1 : M5 p 0 = M1 p 0 := by rw [eM5]; exact nu_i (by omega)
  have g5_2 : M5 p 1 = 8 := by rw [eM5]; exact nu_s _ _ _ _
  refine n_iconst c_2_14 (n_istore (L2 := [some (2, p), some (0, 3), some (2, 54), some (2, 4), some (0, 0), none, none]) c_2_15 rfl rfl (n_iconst c_2_17 (n_istore (L2 := [some (2, p), some (0, 3), some (2, 54), some (2, 4), some (0, 0), some (0, 0), none]) c_2_18 rfl rfl (n_fg (le_s (le_n (le_s (le_s (le_s (le_s (le_n le_0))))))) ?_))))
  exact (actTake3_2_c hS hp hpl hgd ht 50).1 _ _ M5 hS5 (by omega) (by omega) (by omega) (by omega) (by omega) (by exact fun i h0 h1 => by rw [eM5, nu_a (by omega), eM1, nu_a (by omega)]; exact ht i h0 h1) (by exact fun i h0 h1 => by omega) (by omega)

set_option maxHeartbeats 4000000 in
theorem act3_2_c {xs : List Int32} {e : Nat} {ac : Int} {M : nM} {s gd : Int} (hS : Sf 2 ac M M) (hs : -2147483648 ≤ s ∧ s ≤ 2147483647) (hgd : M 112 0 = gd) : ∀ nn : Nat, (∀ (M : nM), Sf 2 ac M M → (M 112 0 = gd) → 14 < (nn : Int) → nW xs (e + 2) 97 19 [none, none, none, none, none, none] [] M (nPI fun z M1 => (∃ ac2, Sf 2 ac2 M1 M1) ∧ (-2147483648 ≤ z ∧ z ≤ 2147483647) ∧ (M1 112 0 = gd))) ∧ (∀ (M : nM), Sf 2 ac M M → (M 112 0 = gd) → 13 < (nn : Int) → nW xs (e + 2) 97 44 [none, none, none, none, none, none] [] M (nPI fun z M1 => (∃ ac2, Sf 2 ac2 M1 M1) ∧ (-2147483648 ≤ z ∧ z ≤ 2147483647) ∧ (M1 112 0 = gd))) ∧ (∀ (M : nM), Sf 2 ac M M → (0 ≤ s ∧ s ≤ 7) → (M 112 0 = gd) → (M 3 14 ≤ 7) → 12 < (nn : Int) → nW xs (e + 2) 97 47 [some (2, 3), some (0, 3), some (0, s), none, none, none] [] M (nPI fun z M1 => (∃ ac2, Sf 2 ac2 M1 M1) ∧ (-2147483648 ≤ z ∧ z ≤ 2147483647) ∧ (M1 112 0 = gd))) ∧ (∀ (x3 x4 : Int) (M : nM), Sf 2 ac M M → (0 ≤ s ∧ s ≤ 7) → (8 ≤ x3 ∧ x3 ≤ 8) → (0 ≤ x4 ∧ x4 ≤ 8) → (M 112 0 = gd) → (∀ i : Int, 0 ≤ i → i < x4 → M 54 i ≤ 1) → (M 3 14 ≤ 7) → (8 - x4) * 1 + 2 < (nn : Int) → nW xs (e + 2) 97 73 [some (2, 3), some (0, 3), some (0, s), some (0, x3), some (0, x4), none] [] M (nPI fun z M1 => (∃ ac2, Sf 2 ac2 M1 M1) ∧ (-2147483648 ≤ z ∧ z ≤ 2147483647) ∧ (M1 112 0 = gd))) ∧ (∀ (M : nM), Sf 2 ac M M → (M 112 0 = gd) → (∀ i : Int, 0 ≤ i → i < 8 → M 54 i ≤ 1) → (M 3 14 ≤ 7) → 1 < (nn : Int) → nW xs (e + 2) 97 130 [some (2, 3), some (0, 3), none, none, none, none] [] M (nPI fun z M1 => (∃ ac2, Sf 2 ac2 M1 M1) ∧ (-2147483648 ≤ z ∧ z ≤ 2147483647) ∧ (M1 112 0 = gd))) := by
  have hd : (2 : Int) = 2 ∨ (2 : Int) = 3 := by decide
  have hac := hS.2.2.2.2
  intro nn
  induction nn with
  | zero => refine ⟨?_, ?_, ?_, ?_, ?_⟩ <;> (intros; omega)
  | succ nn ih =>
    refine ⟨?_, ?_, ?_, ?_, ?_⟩
    · intro M hS hggd hnn
      refine n_bipush c_97_19 rfl ?_
      exact n_rI c_97_21 rfl ⟨⟨_, hS⟩, by omega, by omega⟩
    · intro M hS hggd hnn
      refine n_bipush c_97_44 rfl ?_
      exact n_rI c_97_46 rfl ⟨⟨_, hS⟩, by omega, by omega⟩
    · intro M hS k2 hggd v0 hnn
      refine n_aload_n c_97_47 rfl (n_getR c_97_48 sc_3.n rfl rfl rfl r_3_1 (n_iload_n c_97_51 rfl (n_v1I c_97_52 rfl sc_8.n rfl rfl rfl rfl (hasRow_2 (s := s) hS (by omega)) ?_)))
      intro z1 M2 hP3
      obtain ⟨eM, f3, f3p0⟩ := hP3
      subst eM
      refine n_if0_ne c_97_55 (by omega) ?_ ?_
      · intro h4
        refine n_aload_n c_97_61 rfl (n_getR c_97_62 sc_3.n rfl rfl rfl r_3_0 (n_iload_n c_97_65 rfl (n_v1I c_97_66 rfl sc_4.n rfl rfl rfl rfl (power3_2  hS ) ?_)))
        intro z5 M6 hP7
        obtain ⟨eM, f7⟩ := hP7
        subst eM
        obtain rfl : z5 = 8 := by omega
        refine n_istore_n (L2 := [some (2, 3), some (0, 3), some (0, s), some (0, 8), none, none]) c_97_69 rfl rfl (n_iconst c_97_70 (n_istore (L2 := [some (2, 3), some (0, 3), some (0, s), some (0, 8), some (0, 0), none]) c_97_71 rfl rfl (n_fg (le_s (le_s (le_s (le_s (le_s (le_n le_0)))))) ?_)))
        exact ih.2.2.2.1 _ _ M hS (by omega) (by omega) (by omega) (by omega) (by exact fun i h0 h1 => by omega) (by omega) (by omega)
      · intro h8
        refine n_bipush c_97_58 rfl ?_
        exact n_rI c_97_60 rfl ⟨⟨_, hS⟩, by omega, by omega⟩
    · intro x3 x4 M hS k2 k3 k4 hggd v0 v1 hnn
      refine n_iload c_97_73 rfl (n_iload_n c_97_75 rfl ?_)
      refine n_if2_ge c_97_76 (by omega) (by omega) ?_ ?_
      · intro h1
        refine n_fg (le_s (le_s (le_n (le_n (le_n (le_n le_0)))))) ?_
        exact ih.2.2.2.2  M hS (by omega) (by exact fun i h0 h1 => v0 i h0 (by omega)) (by omega) (by omega)
      · intro h2
        refine n_iload c_97_79 rfl (n_bipush c_97_81 rfl ?_)
        refine n_if2_ge c_97_83 (by omega) (by omega) ?_ ?_
        · intro h3
          exfalso; omega
        · intro h4
          refine n_aload_n c_97_86 rfl (n_getR c_97_87 sc_3.n rfl rfl rfl r_3_1 (n_iload_n c_97_90 rfl (n_iload c_97_91 rfl (n_aload_n c_97_93 rfl (n_getR c_97_94 sc_3.n rfl rfl rfl r_3_0 (n_getV (bi := 0) c_97_97 sc_4.n rfl rfl rfl (t_4_0 hS) ?_))))))
          intro z5 ez5 f6
          obtain rfl : z5 = 2 := by omega
          refine n_iconst c_97_100 (n_isub c_97_101 rfl ?_)
          have hcst : ((2 - 1) : Int) = 1 := by omega
          rw [hcst]
          refine n_v3I c_97_102 rfl sc_8.n rfl rfl rfl rfl (read1_2 (s := s) (i := x4) hS (by omega) (by omega)) ?_
          intro z7 M8 hP9
          obtain ⟨eM, f9⟩ := hP9
          subst eM
          refine n_istore (L2 := [some (2, 3), some (0, 3), some (0, s), some (0, x3), some (0, x4), some (0, z7)]) c_97_105 rfl rfl (n_iload c_97_107 rfl ?_)
          refine n_if0_ge c_97_109 (by omega) ?_ ?_
          · intro h10
            refine n_aload_n c_97_115 rfl (n_getR c_97_116 sc_3.n rfl rfl rfl r_3_13 (n_iload c_97_119 rfl (n_iload c_97_121 rfl (n_iastoreM hS c_97_123 sc_54.n rfl (by omega) (m_54 (by omega) (by omega)) ?_))))
            intro M11 eM11 hS11
            have g11_0 : M11 112 0 = M 112 0 := by rw [eM11]; exact nu_a (by omega)
            have g11_1 : M11 3 14 = M 3 14 := by rw [eM11]; exact nu_a (by omega)
            refine n_iinc (L2 := [some (2, 3), some (0, 3), some (0, s), some (0, x3), some (0, (x4 + 1)), some (0, z7)]) c_97_124 rfl rfl rfl (n_goto c_97_127 (n_fg (le_s (le_s (le_s (le_s (le_s (le_n le_0)))))) ?_))
            exact ih.2.2.2.1 _ _ M11 hS11 (by omega) (by omega) (by omega) (by omega) (by exact fun i h0 h1 => by rw [eM11, nu_e]; split <;> first | omega | exact v0 i h0 (by omega)) (by omega) (by omega)
          · intro h12
            refine n_iload c_97_112 rfl ?_
            exact n_rI c_97_114 rfl ⟨⟨_, hS⟩, by omega, by omega⟩
    · intro M hS hggd v0 v1 hnn
      refine n_aload_n c_97_130 rfl (n_getR c_97_131 sc_3.n rfl rfl rfl r_3_2 (n_aload_n c_97_134 rfl (n_getV (bi := 14) c_97_135 sc_3.n rfl rfl rfl (t_3_14x hS) ?_)))
      intro z1 ez1 f2
      have f2a := t_ac hS
      refine n_aaload c_97_138 sc_12.n rfl rfl rfl (by omega) (r_acts _) ?_
      have q3 : ActAt (55 + 3 * z1) := by unfold ActAt; omega
      have q3l : (55 + 3 * z1) = 55 + 3 * ac := by omega
      refine n_iload_n c_97_139 rfl (n_aload_n c_97_140 rfl (n_getR c_97_141 sc_3.n rfl rfl rfl r_3_13 (n_aload_n c_97_144 rfl (n_getR c_97_145 sc_3.n rfl rfl rfl r_3_0 (n_v3V c_97_148 rfl q3.c0.1.n rfl rfl rfl rfl (actTake3_2 (p := (55 + 3 * z1)) (gd := (M 112 0)) hS q3 q3l rfl (by exact fun i h0 h1 => v0 i h0 (by omega))) ?_)))))
      intro  M4 hP5
      obtain ⟨hS4, f5g0, f5p0⟩ := hP5
      refine n_aload_n c_97_151 rfl (n_v0V c_97_152 rfl sc_3.n rfl rfl rfl rfl (forgetMade_2  hS4 ) ?_)
      intro  M6 hP7
      have hS6 := hP7
      have hS6c := hS6.2.2.2.1.1
      have hS6 := hS6.refl
      have hS6k0 := hS6c 112 0 (by unfold core; omega)
      have na0 : M6 (55 + 3 * z1) 0 = 3 := (hS6c (55 + 3 * z1) 0 (by unfold core; omega)).trans f5p0.1
      have na1 : M6 (55 + 3 * z1) 1 = 8 := (hS6c (55 + 3 * z1) 1 (by unfold core; omega)).trans f5p0.2.1
      have na2 : ∀ i : Int, 0 ≤ i → i < 8 → M6 ((55 + 3 * z1) + 1) i ≤ 1 ∧ M6 ((55 + 3 * z1) + 2) i ≤ 1 := fun i h0 h1 => by rw [hS6c ((55 + 3 * z1) + 1) i (by unfold core; omega), hS6c ((55 + 3 * z1) + 2) i (by unfold core; omega)]; exact f5p0.2.2 i h0 h1
      refine n_aload_n c_97_155 rfl (n_dup2 c_97_156 (n_getV (bi := 14) c_97_157 sc_3.n rfl rfl rfl (t_3_14x hS6) ?_))
      intro z8 ez8 f9
      have f9a := t_ac hS6
      refine n_dup_x102 c_97_160 (n_iconst c_97_161 (n_iadd c_97_162 rfl (n_jka (p := (55 + 3 * z1)) (v := 8) q3 ?_)))
      intro My fy jy
      have hSy := Sf.jka hS6 q3 (by omega) fy jy (by omega)
      have hNA : NA 2 3 8 (55 + 3 * z1) My := ⟨(fy _ _ (by omega)).trans na0, na_mk fy jy na1, fun i h0 h1 => by rw [fy _ i (by omega), fy _ i (by omega)]; exact na2 i h0 (by omega)⟩
      have hey : My 112 0 = M6 112 0 := fy 112 0 (by omega)
      have hUp := Sf.actUp hSy (by omega) (by omega) (by omega) (by omega) (by omega) hNA
      have hUe : ((z8 + 1) : Int) = ac + 1 := by omega
      refine n_putG (P := fun M2 => Sf 2 (ac + 1) M2 M2) (bi := 14) c_97_163 sc_3.n rfl rfl rfl rfl (by rw [hUe]; exact hUp) ?_
      intro M10 eM10 hS10
      have hgz : M10 112 0 = My 112 0 := by rw [eM10]; exact nu_a (by omega)
      exact n_rI c_97_166 rfl ⟨⟨_, hS10⟩, by omega, by omega⟩
set_option maxHeartbeats 4000000 in
theorem act3_2 {xs : List Int32} {e : Nat} {ac : Int} {M : nM} {s gd : Int} (hS : Sf 2 ac M M) (hs : -2147483648 ≤ s ∧ s ≤ 2147483647) (hgd : M 112 0 = gd) : nW xs (e + 2) 97 0 [some (2, 3), some (0, 3), some (0, s), none, none, none] [] M (nPI fun z M1 => (∃ ac2, Sf 2 ac2 M1 M1) ∧ (-2147483648 ≤ z ∧ z ≤ 2147483647) ∧ (M1 112 0 = gd)) := by
  have hd : (2 : Int) = 2 ∨ (2 : Int) = 3 := by decide
  have hac := hS.2.2.2.2
  refine n_aload_n c_97_0 rfl (n_getR c_97_1 sc_3.n rfl rfl rfl r_3_1 (n_iload_n c_97_4 rfl (n_v1I c_97_5 rfl sc_8.n rfl rfl rfl rfl (isSlot_2 (s := s) hS (by omega)) ?_)))
  intro z1 M2 hP3
  obtain ⟨eM, f3, f3p0⟩ := hP3
  subst eM
  refine n_if0_eq c_97_8 (by omega) ?_ ?_
  · intro h4
    refine n_fg (le_n (le_n (le_n (le_n (le_n (le_n le_0)))))) ?_
    exact (act3_2_c hS hs hgd 38).1  M hS (by omega) (by omega)
  · intro h5
    refine n_aload_n c_97_11 rfl (n_iload_n c_97_12 rfl (n_v1I c_97_13 rfl sc_3.n rfl rfl rfl rfl (isPlaceCount_2 (k := 3) hS (by omega)) ?_))
    intro z6 M7 hP8
    obtain ⟨eM, f8, f8p0⟩ := hP8
    subst eM
    refine n_if0_ne c_97_16 (by omega) ?_ ?_
    · intro h9
      refine n_aload_n c_97_22 rfl (n_getV (bi := 14) c_97_23 sc_3.n rfl rfl rfl (t_3_14x hS) ?_)
      intro z10 ez10 f11
      have f11a := t_ac hS
      refine n_bipush c_97_26 rfl ?_
      refine n_if2_ge c_97_28 (by omega) (by omega) ?_ ?_
      · intro h12
        refine n_fg (le_n (le_n (le_n (le_n (le_n (le_n le_0)))))) ?_
        exact (act3_2_c hS hs hgd 38).2.1  M hS (by omega) (by omega)
      · intro h13
        refine n_iload_n c_97_31 rfl (n_iconst c_97_32 ?_)
        refine n_if2_ne c_97_33 (by omega) (by omega) ?_ ?_
        · intro h14
          exfalso; omega
        · intro h15
          refine n_aload_n c_97_36 rfl (n_v0I c_97_37 rfl sc_3.n rfl rfl rfl rfl (actsOfThree_2  hS ) ?_)
          intro z16 M17 hP18
          obtain ⟨eM, f18⟩ := hP18
          subst eM
          refine n_iconst c_97_40 ?_
          refine n_if2_lt c_97_41 (by omega) (by omega) ?_ ?_
          · intro h19
            refine n_fg (le_s (le_s (le_s (le_n (le_n (le_n le_0)))))) ?_
            exact (act3_2_c hS hs hgd 38).2.2.1  M hS (by omega) (by omega) (by omega) (by omega)
          · intro h20
            refine n_fg (le_n (le_n (le_n (le_n (le_n (le_n le_0)))))) ?_
            exact (act3_2_c hS hs hgd 38).2.1  M hS (by omega) (by omega)
    · intro h21
      refine n_fg (le_n (le_n (le_n (le_n (le_n (le_n le_0)))))) ?_
      exact (act3_2_c hS hs hgd 38).1  M hS (by omega) (by omega)

set_option maxHeartbeats 4000000 in
theorem actL_2_c {xs : List Int32} {e : Nat} {ac : Int} {M0 M : nM} {k s : Int} (hS : Sf 2 ac M0 M) (hk : -2147483648 ≤ k ∧ k ≤ 0) (hs : -2147483648 ≤ s ∧ s ≤ 2147483647) : ∀ nn : Nat, (1 < (nn : Int) → nW xs (e + 2) 97 19 [none, none, none, none, none, none] [] M (nPI fun z M1 => M = M1 ∧ (-2147483648 ≤ z ∧ z ≤ 2147483647))) := by
  have hd : (2 : Int) = 2 ∨ (2 : Int) = 3 := by decide
  have hac := hS.2.2.2.2
  intro nn
  induction nn with
  | zero => intros; omega
  | succ nn ih =>
    intro hnn
    refine n_bipush c_97_19 rfl ?_
    exact n_rI c_97_21 rfl ⟨rfl, by omega⟩
set_option maxHeartbeats 4000000 in
theorem actL_2 {xs : List Int32} {e : Nat} {ac : Int} {M0 M : nM} {k s : Int} (hS : Sf 2 ac M0 M) (hk : -2147483648 ≤ k ∧ k ≤ 0) (hs : -2147483648 ≤ s ∧ s ≤ 2147483647) : nW xs (e + 2) 97 0 [some (2, 3), some (0, k), some (0, s), none, none, none] [] M (nPI fun z M1 => M = M1 ∧ (-2147483648 ≤ z ∧ z ≤ 2147483647)) := by
  have hd : (2 : Int) = 2 ∨ (2 : Int) = 3 := by decide
  have hac := hS.2.2.2.2
  refine n_aload_n c_97_0 rfl (n_getR c_97_1 sc_3.n rfl rfl rfl r_3_1 (n_iload_n c_97_4 rfl (n_v1I c_97_5 rfl sc_8.n rfl rfl rfl rfl (isSlot_2 (s := s) hS (by omega)) ?_)))
  intro z1 M2 hP3
  obtain ⟨eM, f3, f3p0⟩ := hP3
  subst eM
  refine n_if0_eq c_97_8 (by omega) ?_ ?_
  · intro h4
    refine n_fg (le_n (le_n (le_n (le_n (le_n (le_n le_0)))))) ?_
    exact (actL_2_c hS hk hs 12)   (by omega)
  · intro h5
    refine n_aload_n c_97_11 rfl (n_iload_n c_97_12 rfl (n_v1I c_97_13 rfl sc_3.n rfl rfl rfl rfl (isPlaceCount_2 (k := k) hS (by omega)) ?_))
    intro z6 M7 hP8
    obtain ⟨eM, f8, f8p0⟩ := hP8
    subst eM
    refine n_if0_ne c_97_16 (by omega) ?_ ?_
    · intro h9
      exfalso; omega
    · intro h10
      refine n_fg (le_n (le_n (le_n (le_n (le_n (le_n le_0)))))) ?_
      exact (actL_2_c hS hk hs 12)   (by omega)

set_option maxHeartbeats 4000000 in
theorem actH_2_c {xs : List Int32} {e : Nat} {ac : Int} {M0 M : nM} {k s : Int} (hS : Sf 2 ac M0 M) (hk : 4 ≤ k ∧ k ≤ 2147483647) (hs : -2147483648 ≤ s ∧ s ≤ 2147483647) : ∀ nn : Nat, (1 < (nn : Int) → nW xs (e + 2) 97 19 [none, none, none, none, none, none] [] M (nPI fun z M1 => M = M1 ∧ (-2147483648 ≤ z ∧ z ≤ 2147483647))) := by
  have hd : (2 : Int) = 2 ∨ (2 : Int) = 3 := by decide
  have hac := hS.2.2.2.2
  intro nn
  induction nn with
  | zero => intros; omega
  | succ nn ih =>
    intro hnn
    refine n_bipush c_97_19 rfl ?_
    exact n_rI c_97_21 rfl ⟨rfl, by omega⟩
set_option maxHeartbeats 4000000 in
theorem actH_2 {xs : List Int32} {e : Nat} {ac : Int} {M0 M : nM} {k s : Int} (hS : Sf 2 ac M0 M) (hk : 4 ≤ k ∧ k ≤ 2147483647) (hs : -2147483648 ≤ s ∧ s ≤ 2147483647) : nW xs (e + 2) 97 0 [some (2, 3), some (0, k), some (0, s), none, none, none] [] M (nPI fun z M1 => M = M1 ∧ (-2147483648 ≤ z ∧ z ≤ 2147483647)) := by
  have hd : (2 : Int) = 2 ∨ (2 : Int) = 3 := by decide
  have hac := hS.2.2.2.2
  refine n_aload_n c_97_0 rfl (n_getR c_97_1 sc_3.n rfl rfl rfl r_3_1 (n_iload_n c_97_4 rfl (n_v1I c_97_5 rfl sc_8.n rfl rfl rfl rfl (isSlot_2 (s := s) hS (by omega)) ?_)))
  intro z1 M2 hP3
  obtain ⟨eM, f3, f3p0⟩ := hP3
  subst eM
  refine n_if0_eq c_97_8 (by omega) ?_ ?_
  · intro h4
    refine n_fg (le_n (le_n (le_n (le_n (le_n (le_n le_0)))))) ?_
    exact (actH_2_c hS hk hs 12)   (by omega)
  · intro h5
    refine n_aload_n c_97_11 rfl (n_iload_n c_97_12 rfl (n_v1I c_97_13 rfl sc_3.n rfl rfl rfl rfl (isPlaceCount_2 (k := k) hS (by omega)) ?_))
    intro z6 M7 hP8
    obtain ⟨eM, f8, f8p0⟩ := hP8
    subst eM
    refine n_if0_ne c_97_16 (by omega) ?_ ?_
    · intro h9
      exfalso; omega
    · intro h10
      refine n_fg (le_n (le_n (le_n (le_n (le_n (le_n le_0)))))) ?_
      exact (actH_2_c hS hk hs 12)   (by omega)

set_option maxHeartbeats 4000000 in
theorem mfresh_2 {xs : List Int32} {e : Nat} {ac : Int} {M : nM} (hS : Sf 2 ac M M)  : nW xs (e + 1) 142 0 [some (2, 112), some (0, 2)] [] M (nPI fun z M1 => Sf 2 ac M1 M1 ∧ (1 ≤ z ∧ z ≤ 1) ∧ (M1 112 0 = 2)) := by
  have hd : (2 : Int) = 2 ∨ (2 : Int) = 3 := by decide
  have hac := hS.2.2.2.2
  refine n_iload_n c_142_0 rfl (n_iconst c_142_1 ?_)
  refine n_if2_lt c_142_2 (by omega) (by omega) ?_ ?_
  · intro h1
    exfalso; omega
  · intro h2
    refine n_iload_n c_142_5 rfl (n_iconst c_142_6 ?_)
    refine n_if2_le c_142_7 (by omega) (by omega) ?_ ?_
    · intro h3
      refine n_aload_n c_142_12 rfl (n_iload_n c_142_13 rfl (n_putM (bi := 0) hS c_142_14 sc_112.n rfl rfl rfl rfl (m_112_0 (by omega)) ?_))
      intro M4 eM4 hS4
      have g4_0 : M4 112 0 = 2 := by rw [eM4]; exact nu_s _ _ _ _
      refine n_aload_n c_142_17 rfl (n_iconst c_142_18 (n_putM (bi := 4) hS4 c_142_19 sc_112.n rfl rfl rfl rfl (m_112_4 (by omega)) ?_))
      intro M5 eM5 hS5
      have g5_0 : M5 112 0 = M4 112 0 := by rw [eM5]; exact nu_i (by omega)
      have g5_1 : M5 112 4 = 0 := by rw [eM5]; exact nu_s _ _ _ _
      refine n_aload_n c_142_22 rfl (n_iconst c_142_23 (n_putG (P := Sq 2 ac) (bi := 7) c_142_24 sc_112.n rfl rfl rfl rfl (hS5.sq.u (by omega) (show (0 : Int) ≤ 0 ∧ 0 ≤ (12 : Int) by omega)) ?_))
      intro M6 eM6 hQ6
      have g6_0 : M6 112 0 = M5 112 0 := by rw [eM6]; exact nu_i (by omega)
      have g6_1 : M6 112 4 = M5 112 4 := by rw [eM6]; exact nu_i (by omega)
      have g6_2 : M6 112 7 = 0 := by rw [eM6]; exact nu_s _ _ _ _
      refine n_aload_n c_142_27 rfl (n_iconst c_142_28 (n_putG (P := Sq 2 ac) (bi := 10) c_142_29 sc_112.n rfl rfl rfl rfl (hQ6.u (by omega) (show (1 : Int) ≤ 1 ∧ 1 ≤ (8 : Int) by omega)) ?_))
      intro M7 eM7 hQ7
      have g7_0 : M7 112 0 = M6 112 0 := by rw [eM7]; exact nu_i (by omega)
      have g7_1 : M7 112 4 = M6 112 4 := by rw [eM7]; exact nu_i (by omega)
      have g7_2 : M7 112 7 = M6 112 7 := by rw [eM7]; exact nu_i (by omega)
      have g7_3 : M7 112 10 = 1 := by rw [eM7]; exact nu_s _ _ _ _
      refine n_aload_n c_142_32 rfl (n_iconst c_142_33 (n_putG (P := Sq 2 ac) (bi := 11) c_142_34 sc_112.n rfl rfl rfl rfl (hQ7.u (by omega) (show (0 : Int) ≤ 0 ∧ 0 ≤ (30 : Int) by omega)) ?_))
      intro M8 eM8 hQ8
      have g8_0 : M8 112 0 = M7 112 0 := by rw [eM8]; exact nu_i (by omega)
      have g8_1 : M8 112 4 = M7 112 4 := by rw [eM8]; exact nu_i (by omega)
      have g8_2 : M8 112 7 = M7 112 7 := by rw [eM8]; exact nu_i (by omega)
      have g8_3 : M8 112 10 = M7 112 10 := by rw [eM8]; exact nu_i (by omega)
      have g8_4 : M8 112 11 = 0 := by rw [eM8]; exact nu_s _ _ _ _
      have hS8 := hQ8.sf (AK.none (by omega))
      refine n_aload_n c_142_37 rfl (n_v0V c_142_38 rfl sc_112.n rfl rfl rfl rfl (changed_2  hS8 (by omega)) ?_)
      intro  M9 hP10
      have hS9 := hP10
      have hS9c := hS9.2.2.2.1.1
      have hS9 := hS9.refl
      have hS9k0 := hS9c 112 0 (by unfold core; omega)
      have hS9k1 := hS9c 112 4 (by unfold core; omega)
      have hS9k2 := hS9c 112 7 (by unfold core; omega)
      have hS9k3 := hS9c 112 10 (by unfold core; omega)
      have hS9k4 := hS9c 112 11 (by unfold core; omega)
      refine n_aload_n c_142_41 rfl (n_iconst c_142_42 (n_putM (bi := 20) hS9 c_142_43 sc_112.n rfl rfl rfl rfl (m_112_20 (by omega)) ?_))
      intro M11 eM11 hS11
      have g11_0 : M11 112 0 = M9 112 0 := by rw [eM11]; exact nu_i (by omega)
      have g11_1 : M11 112 4 = M9 112 4 := by rw [eM11]; exact nu_i (by omega)
      have g11_2 : M11 112 7 = M9 112 7 := by rw [eM11]; exact nu_i (by omega)
      have g11_3 : M11 112 10 = M9 112 10 := by rw [eM11]; exact nu_i (by omega)
      have g11_4 : M11 112 11 = M9 112 11 := by rw [eM11]; exact nu_i (by omega)
      have g11_5 : M11 112 20 = (-1) := by rw [eM11]; exact nu_s _ _ _ _
      refine n_iconst c_142_46 ?_
      exact n_rZ c_142_47 rfl (by omega) ⟨hS11, by omega, by omega⟩
    · intro h12
      exfalso; omega

set_option maxHeartbeats 4000000 in
theorem mfreshL_2_c {xs : List Int32} {e : Nat} {ac : Int} {M0 M : nM} {a : Int} (hS : Sf 2 ac M0 M) (ha : -2147483648 ≤ a ∧ a ≤ 1) : ∀ nn : Nat, (1 < (nn : Int) → nW xs (e + 1) 142 10 [none, none] [] M (nPI fun z M1 => M = M1 ∧ (0 ≤ z ∧ z ≤ 0))) := by
  have hd : (2 : Int) = 2 ∨ (2 : Int) = 3 := by decide
  have hac := hS.2.2.2.2
  intro nn
  induction nn with
  | zero => intros; omega
  | succ nn ih =>
    intro hnn
    refine n_iconst c_142_10 ?_
    exact n_rZ c_142_11 rfl (by omega) ⟨rfl, by omega⟩
set_option maxHeartbeats 4000000 in
theorem mfreshL_2 {xs : List Int32} {e : Nat} {ac : Int} {M0 M : nM} {a : Int} (hS : Sf 2 ac M0 M) (ha : -2147483648 ≤ a ∧ a ≤ 1) : nW xs (e + 1) 142 0 [some (2, 112), some (0, a)] [] M (nPI fun z M1 => M = M1 ∧ (0 ≤ z ∧ z ≤ 0)) := by
  have hd : (2 : Int) = 2 ∨ (2 : Int) = 3 := by decide
  have hac := hS.2.2.2.2
  refine n_iload_n c_142_0 rfl (n_iconst c_142_1 ?_)
  refine n_if2_lt c_142_2 (by omega) (by omega) ?_ ?_
  · intro h1
    refine n_fg (le_n (le_n le_0)) ?_
    exact (mfreshL_2_c hS ha 12)   (by omega)
  · intro h2
    exfalso; omega

set_option maxHeartbeats 4000000 in
theorem mfreshH_2_c {xs : List Int32} {e : Nat} {ac : Int} {M0 M : nM} {a : Int} (hS : Sf 2 ac M0 M) (ha : 4 ≤ a ∧ a ≤ 2147483647) : ∀ nn : Nat, (1 < (nn : Int) → nW xs (e + 1) 142 10 [none, none] [] M (nPI fun z M1 => M = M1 ∧ (0 ≤ z ∧ z ≤ 0))) := by
  have hd : (2 : Int) = 2 ∨ (2 : Int) = 3 := by decide
  have hac := hS.2.2.2.2
  intro nn
  induction nn with
  | zero => intros; omega
  | succ nn ih =>
    intro hnn
    refine n_iconst c_142_10 ?_
    exact n_rZ c_142_11 rfl (by omega) ⟨rfl, by omega⟩
set_option maxHeartbeats 4000000 in
theorem mfreshH_2 {xs : List Int32} {e : Nat} {ac : Int} {M0 M : nM} {a : Int} (hS : Sf 2 ac M0 M) (ha : 4 ≤ a ∧ a ≤ 2147483647) : nW xs (e + 1) 142 0 [some (2, 112), some (0, a)] [] M (nPI fun z M1 => M = M1 ∧ (0 ≤ z ∧ z ≤ 0)) := by
  have hd : (2 : Int) = 2 ∨ (2 : Int) = 3 := by decide
  have hac := hS.2.2.2.2
  refine n_iload_n c_142_0 rfl (n_iconst c_142_1 ?_)
  refine n_if2_lt c_142_2 (by omega) (by omega) ?_ ?_
  · intro h1
    exfalso; omega
  · intro h2
    refine n_iload_n c_142_5 rfl (n_iconst c_142_6 ?_)
    refine n_if2_le c_142_7 (by omega) (by omega) ?_ ?_
    · intro h3
      exfalso; omega
    · intro h4
      refine n_fg (le_n (le_n le_0)) ?_
      exact (mfreshH_2_c hS ha 12)   (by omega)

set_option maxHeartbeats 4000000 in
theorem mriddle_2_c {xs : List Int32} {e : Nat} {ac : Int} {M : nM} {u gd : Int} (hS : Sf 2 ac M M) (hdm : M 112 0 = 2) (hu : -2147483648 ≤ u ∧ u ≤ 2147483647) (hgd : M 112 0 = gd) : ∀ nn : Nat, (∀ (M : nM), Sf 2 ac M M → (M 112 0 = 2) → (M 112 0 = gd) → 1 < (nn : Int) → nW xs e 187 11 [none, none] [] M (nPI fun z M1 => Sf 2 ac M1 M1 ∧ (0 ≤ z ∧ z ≤ 1) ∧ (M1 112 0 = gd))) := by
  have hd : (2 : Int) = 2 ∨ (2 : Int) = 3 := by decide
  have hac := hS.2.2.2.2
  intro nn
  induction nn with
  | zero => intros; omega
  | succ nn ih =>
    intro M hS hdm hggd hnn
    refine n_iconst c_187_11 ?_
    exact n_rZ c_187_12 rfl (by omega) ⟨hS, by omega, by omega⟩
set_option maxHeartbeats 4000000 in
theorem mriddle_2 {xs : List Int32} {e : Nat} {ac : Int} {M : nM} {u gd : Int} (hS : Sf 2 ac M M) (hdm : M 112 0 = 2) (hu : -2147483648 ≤ u ∧ u ≤ 2147483647) (hgd : M 112 0 = gd) : nW xs e 187 0 [some (2, 112), some (0, u)] [] M (nPI fun z M1 => Sf 2 ac M1 M1 ∧ (0 ≤ z ∧ z ≤ 1) ∧ (M1 112 0 = gd)) := by
  have hd : (2 : Int) = 2 ∨ (2 : Int) = 3 := by decide
  have hac := hS.2.2.2.2
  refine n_iload_n c_187_0 rfl (n_iconst c_187_1 ?_)
  refine n_if2_lt c_187_2 (by omega) (by omega) ?_ ?_
  · intro h1
    refine n_fg (le_n (le_n le_0)) ?_
    exact (mriddle_2_c hS hdm hu hgd 12)  M hS (by omega) (by omega) (by omega)
  · intro h2
    refine n_iload_n c_187_5 rfl (n_bipush c_187_6 rfl ?_)
    refine n_if2_le c_187_8 (by omega) (by omega) ?_ ?_
    · intro h3
      refine n_aload_n c_187_13 rfl (n_iload_n c_187_14 rfl (n_putG (P := Sq 2 ac) (bi := 10) c_187_15 sc_112.n rfl rfl rfl rfl (hS.sq.u (by omega) (show (1 : Int) ≤ u ∧ u ≤ (8 : Int) by omega)) ?_))
      intro M4 eM4 hQ4
      have g4_0 : M4 112 0 = M 112 0 := by rw [eM4]; exact nu_i (by omega)
      have g4_1 : M4 112 10 = u := by rw [eM4]; exact nu_s _ _ _ _
      refine n_aload_n c_187_18 rfl (n_iconst c_187_19 (n_putG (P := Sq 2 ac) (bi := 11) c_187_20 sc_112.n rfl rfl rfl rfl (hQ4.u (by omega) (show (0 : Int) ≤ 0 ∧ 0 ≤ (30 : Int) by omega)) ?_))
      intro M5 eM5 hQ5
      have g5_0 : M5 112 0 = M4 112 0 := by rw [eM5]; exact nu_i (by omega)
      have g5_1 : M5 112 10 = M4 112 10 := by rw [eM5]; exact nu_i (by omega)
      have g5_2 : M5 112 11 = 0 := by rw [eM5]; exact nu_s _ _ _ _
      have hS5 := hQ5.sf (AK.none (by omega))
      refine n_iconst c_187_23 ?_
      exact n_rZ c_187_24 rfl (by omega) ⟨hS5, by omega, by omega⟩
    · intro h6
      refine n_fg (le_n (le_n le_0)) ?_
      exact (mriddle_2_c hS hdm hu hgd 12)  M hS (by omega) (by omega) (by omega)

set_option maxHeartbeats 4000000 in
theorem mlaw1_2_c {xs : List Int32} {e : Nat} {ac : Int} {M : nM} {s gd : Int} (hS : Sf 2 ac M M) (hdm : M 112 0 = 2) (hs : -2147483648 ≤ s ∧ s ≤ 2147483647) (hgd : M 112 0 = gd) : ∀ nn : Nat, (∀ (M : nM), Sf 2 ac M M → (M 112 0 = 2) → (M 112 0 = gd) → 31 < (nn : Int) → nW xs (e + 1) 149 17 [none, none, none, none, none, none, none, none, none, none, none, none] [] M (nPI fun z M1 => Sf 2 ac M1 M1 ∧ (-2147483648 ≤ z ∧ z ≤ 2147483647) ∧ (M1 112 0 = gd))) ∧ (∀ (M : nM), Sf 2 ac M M → (M 112 0 = 2) → (M 112 0 = gd) → 30 < (nn : Int) → nW xs (e + 1) 149 87 [none, none, none, none, none, none, none, none, none, none, none, none] [] M (nPI fun z M1 => Sf 2 ac M1 M1 ∧ (-2147483648 ≤ z ∧ z ≤ 2147483647) ∧ (M1 112 0 = gd))) ∧ (∀ (x3 x4 x6 x8 x9 : Int) (M : nM), Sf 2 ac M M → (0 ≤ s ∧ s ≤ 7) → (1 ≤ x3 ∧ x3 ≤ 40) → (0 ≤ x4 ∧ x4 ≤ 27) → (0 ≤ x6 ∧ x6 ≤ 134217727) → (1 ≤ x8 ∧ x8 ≤ 40) → (0 ≤ x9 ∧ x9 ≤ 27) → (M 112 0 = 2) → (M 112 0 = gd) → (M 112 7 ≤ 11) → (27 - x9) * 1 + 1 < (nn : Int) → nW xs (e + 1) 149 99 [some (2, 112), some (0, 1), some (0, s), some (0, x3), some (1, x4), none, some (1, x6), none, some (0, x8), some (0, x9), none, none] [] M (nPI fun z M1 => Sf 2 ac M1 M1 ∧ (-2147483648 ≤ z ∧ z ≤ 2147483647) ∧ (M1 112 0 = gd))) := by
  have hd : (2 : Int) = 2 ∨ (2 : Int) = 3 := by decide
  have hac := hS.2.2.2.2
  intro nn
  induction nn with
  | zero => refine ⟨?_, ?_, ?_⟩ <;> (intros; omega)
  | succ nn ih =>
    refine ⟨?_, ?_, ?_⟩
    · intro M hS hdm hggd hnn
      refine n_bipush c_149_17 rfl ?_
      exact n_rI c_149_19 rfl ⟨hS, by omega, by omega⟩
    · intro M hS hdm hggd hnn
      refine n_bipush c_149_87 rfl ?_
      exact n_rI c_149_89 rfl ⟨hS, by omega, by omega⟩
    · intro x3 x4 x6 x8 x9 M hS k2 k3 k4 k6 k8 k9 hdm hggd v0 hnn
      refine n_iload c_149_99 rfl (n_i2l c_149_101 (by omega) ?_)
      refine n_lload c_149_102 rfl (n_lcmp c_149_104 ?_)
      refine n_lif_ge c_149_105 (by omega) (by omega) ?_ ?_
      · intro h1
        refine n_aload_n c_149_198 rfl (n_getR c_149_199 sc_112.n rfl rfl rfl r_112_8 (n_aload_n c_149_202 rfl (n_getV (bi := 7) c_149_203 sc_112.n rfl rfl rfl (t_112_7 hS) ?_)))
        intro z2 ez2 f3
        refine n_iload_n c_149_206 rfl (n_iastoreG c_149_207 sc_118.n rfl (by omega) (hS.w118 (by omega) (by omega)) ?_)
        intro M4 eM4 hS4
        have g4_0 : M4 112 0 = M 112 0 := by rw [eM4]; exact nu_a (by omega)
        have g4_1 : M4 112 7 = M 112 7 := by rw [eM4]; exact nu_a (by omega)
        have g4_2 : M4 118 z2 = 1 := by rw [eM4]; exact nu_s _ _ _ _
        refine n_aload_n c_149_208 rfl (n_getR c_149_209 sc_112.n rfl rfl rfl r_112_9 (n_aload_n c_149_212 rfl (n_getV (bi := 7) c_149_213 sc_112.n rfl rfl rfl (t_112_7 hS4) ?_)))
        intro z5 ez5 f6
        refine n_lload c_149_216 rfl (n_lastoreM hS4 c_149_218 sc_119.n rfl (by omega) (m_119 (by omega) (by omega)) ?_)
        intro M7 eM7 hS7
        have g7_0 : M7 112 0 = M4 112 0 := by rw [eM7]; exact nu_a (by omega)
        have g7_1 : M7 112 7 = M4 112 7 := by rw [eM7]; exact nu_a (by omega)
        have g7_2 : M7 118 z2 = M4 118 z2 := by rw [eM7]; exact nu_a (by omega)
        refine n_aload_n c_149_219 rfl (n_dup2 c_149_220 (n_getV (bi := 7) c_149_221 sc_112.n rfl rfl rfl (t_112_7 hS7) ?_))
        intro z8 ez8 f9
        refine n_iconst c_149_224 (n_iadd c_149_225 rfl (n_putG (P := fun M2 => Sf 2 ac M2 M2) (bi := 7) c_149_226 sc_112.n rfl rfl rfl rfl (hS7.w112_7 (by omega) (by omega)) ?_))
        intro M10 eM10 hS10
        have g10_0 : M10 112 0 = M7 112 0 := by rw [eM10]; exact nu_i (by omega)
        have g10_1 : M10 118 z2 = M7 118 z2 := by rw [eM10]; exact nu_a (by omega)
        have g10_2 : M10 112 7 = (z8 + 1) := by rw [eM10]; exact nu_s _ _ _ _
        refine n_aload_n c_149_229 rfl (n_getV (bi := 7) c_149_230 sc_112.n rfl rfl rfl (t_112_7 hS10) ?_)
        intro z11 ez11 f12
        refine n_iconst c_149_233 (n_isub c_149_234 rfl ?_)
        exact n_rI c_149_235 rfl ⟨hS10, by omega, by omega⟩
      · intro h13
        refine n_iconst c_149_108 (n_istore (L2 := [some (2, 112), some (0, 1), some (0, s), some (0, x3), some (1, x4), none, some (1, x6), none, some (0, x8), some (0, x9), some (0, 0), none]) c_149_109 rfl rfl (n_iconst c_149_111 (n_istore (L2 := [some (2, 112), some (0, 1), some (0, s), some (0, x3), some (1, x4), none, some (1, x6), none, some (0, x8), some (0, x9), some (0, 0), some (0, 0)]) c_149_112 rfl rfl (n_iload c_149_114 rfl (n_iload_n c_149_116 rfl ?_)))))
        refine n_if2_ge c_149_117 (by omega) (by omega) ?_ ?_
        · intro h14
          exfalso; omega
        · intro h15
          refine n_iload c_149_120 rfl (n_iload_n c_149_122 rfl ?_)
          refine n_if2_lt c_149_123 (by omega) (by omega) ?_ ?_
          · intro h16
            refine n_aload_n c_149_129 rfl (n_aload_n c_149_130 rfl (n_getR c_149_131 sc_112.n rfl rfl rfl r_112_3 (n_bipush c_149_134 rfl (n_iload_n c_149_136 rfl (n_imul c_149_137 rfl (n_iload c_149_138 rfl (n_iadd c_149_140 rfl (n_laloadV c_149_141 sc_115.n rfl rfl rfl (by omega) (t_115 hS (by omega)) ?_))))))))
            intro z17 ez17 f18
            refine n_v1I c_149_142 rfl sc_112.n rfl rfl rfl rfl (misThing_2 (v := z17) hS (by omega) (by omega)) ?_
            intro z19 M20 hP21
            obtain ⟨eM, f21, f21p0⟩ := hP21
            subst eM
            refine n_if0_ne c_149_145 (by omega) ?_ ?_
            · intro h22
              refine n_iload c_149_151 rfl (n_aload_n c_149_153 rfl (n_getV (bi := 0) c_149_154 sc_112.n rfl rfl rfl (show 2 ≤ M 112 0 ∧ M 112 0 ≤ 2 by omega) ?_))
              intro z23 ez23 f24
              obtain rfl : z23 = 2 := by omega
              refine n_imul c_149_157 rfl (n_aload_n c_149_158 rfl (n_getR c_149_159 sc_112.n rfl rfl rfl r_112_3 (n_bipush c_149_162 rfl (n_iload_n c_149_164 rfl (n_imul c_149_165 rfl (n_iload c_149_166 rfl (n_iadd c_149_168 rfl (n_laloadV c_149_169 sc_115.n rfl rfl rfl (by omega) (t_115 hS (by omega)) ?_))))))))
              intro z25 ez25 f26
              refine n_l2i c_149_170 (n_iadd c_149_171 rfl (n_istore (L2 := [some (2, 112), some (0, 1), some (0, s), some (0, x3), some (1, x4), none, some (1, x6), none, some (0, x8), some (0, x9), some (0, ((0 * 2) + z25)), some (0, 0)]) c_149_172 rfl rfl (n_iinc (L2 := [some (2, 112), some (0, 1), some (0, s), some (0, x3), some (1, x4), none, some (1, x6), none, some (0, (x8 + 1)), some (0, x9), some (0, ((0 * 2) + z25)), some (0, 0)]) c_149_174 rfl rfl rfl (n_iinc (L2 := [some (2, 112), some (0, 1), some (0, s), some (0, x3), some (1, x4), none, some (1, x6), none, some (0, (x8 + 1)), some (0, x9), some (0, ((0 * 2) + z25)), some (0, (0 + 1))]) c_149_177 rfl rfl rfl (n_goto c_149_180 (n_iload c_149_114 rfl (n_iload_n c_149_116 rfl ?_)))))))
              refine n_if2_ge c_149_117 (by omega) (by omega) ?_ ?_
              · intro h27
                refine n_lload c_149_183 rfl (n_lconst (n := 1) c_149_185 rfl (n_iload c_149_186 rfl (n_i_lshl c_149_188 rfl (n_i_lor c_149_189 rfl ?_))))
                have f28 := n_lor_bit27 (s := x6) (r := ((0 * 2) + z25)) (by omega) (by omega)
                refine n_lstore (L2 := [some (2, 112), some (0, 1), some (0, s), some (0, x3), some (1, x4), none, some (1, (n_lor x6 (n_lshl 1 ((0 * 2) + z25)))), none, some (0, (x8 + 1)), some (0, x9), some (0, ((0 * 2) + z25)), some (0, (0 + 1))]) c_149_190 rfl rfl (n_iinc (L2 := [some (2, 112), some (0, 1), some (0, s), some (0, x3), some (1, x4), none, some (1, (n_lor x6 (n_lshl 1 ((0 * 2) + z25)))), none, some (0, (x8 + 1)), some (0, (x9 + 1)), some (0, ((0 * 2) + z25)), some (0, (0 + 1))]) c_149_192 rfl rfl rfl (n_goto c_149_195 (n_fg (le_s (le_s (le_s (le_s (le_s (le_n (le_s (le_n (le_s (le_s (le_n (le_n le_0)))))))))))) ?_)))
                exact ih.2.2 _ _ _ _ _ M hS (by omega) (by omega) (by omega) (by omega) (by omega) (by omega) (by omega) (by omega) (by omega) (by omega)
              · intro h29
                exfalso; omega
            · intro h30
              refine n_bipush c_149_148 rfl ?_
              exact n_rI c_149_150 rfl ⟨hS, by omega, by omega⟩
          · intro h31
            refine n_bipush c_149_126 rfl ?_
            exact n_rI c_149_128 rfl ⟨hS, by omega, by omega⟩
set_option maxHeartbeats 4000000 in
theorem mlaw1_2 {xs : List Int32} {e : Nat} {ac : Int} {M : nM} {s gd : Int} (hS : Sf 2 ac M M) (hdm : M 112 0 = 2) (hs : -2147483648 ≤ s ∧ s ≤ 2147483647) (hgd : M 112 0 = gd) : nW xs (e + 1) 149 0 [some (2, 112), some (0, 1), some (0, s), none, none, none, none, none, none, none, none, none] [] M (nPI fun z M1 => Sf 2 ac M1 M1 ∧ (-2147483648 ≤ z ∧ z ≤ 2147483647) ∧ (M1 112 0 = gd)) := by
  have hd : (2 : Int) = 2 ∨ (2 : Int) = 3 := by decide
  have hac := hS.2.2.2.2
  refine n_iload_n c_149_0 rfl (n_s1I c_149_1 rfl rfl rfl rfl (misSlot_2 (s := s) hS (by omega)) ?_)
  intro z1 M2 hP3
  obtain ⟨eM, f3, f3p0⟩ := hP3
  subst eM
  refine n_if0_eq c_149_4 (by omega) ?_ ?_
  · intro h4
    refine n_fg (le_n (le_n (le_n (le_n (le_n (le_n (le_n (le_n (le_n (le_n (le_n (le_n le_0)))))))))))) ?_
    exact (mlaw1_2_c hS hdm hs hgd 72).1  M hS (by omega) (by omega) (by omega)
  · intro h5
    refine n_iload_n c_149_7 rfl (n_iconst c_149_8 ?_)
    refine n_if2_lt c_149_9 (by omega) (by omega) ?_ ?_
    · intro h6
      exfalso; omega
    · intro h7
      refine n_iload_n c_149_12 rfl (n_iconst c_149_13 ?_)
      refine n_if2_le c_149_14 (by omega) (by omega) ?_ ?_
      · intro h8
        refine n_aload_n c_149_20 rfl (n_getV (bi := 7) c_149_21 sc_112.n rfl rfl rfl (t_112_7 hS) ?_)
        intro z9 ez9 f10
        refine n_bipush c_149_24 rfl ?_
        refine n_if2_ne c_149_26 (by omega) (by omega) ?_ ?_
        · intro h11
          refine n_aload_n c_149_32 rfl (n_getR c_149_33 sc_112.n rfl rfl rfl r_112_1 (n_iload_n c_149_36 rfl (n_ialoadV c_149_37 sc_113.n rfl rfl rfl (by omega) (t_113 hS (by omega)) ?_)))
          intro z12 ez12 f13
          refine n_if0_ne c_149_38 (by omega) ?_ ?_
          · intro h14
            refine n_aload_n c_149_44 rfl (n_getR c_149_45 sc_112.n rfl rfl rfl r_112_1 (n_iload_n c_149_48 rfl (n_ialoadV c_149_49 sc_113.n rfl rfl rfl (by omega) (t_113 hS (by omega)) ?_)))
            intro z15 ez15 f16
            refine n_iconst c_149_50 (n_isub c_149_51 rfl (n_istore_n (L2 := [some (2, 112), some (0, 1), some (0, s), some (0, (z15 - 1)), none, none, none, none, none, none, none, none]) c_149_52 rfl rfl (n_iload_n c_149_53 rfl ?_)))
            refine n_if0_ne c_149_54 (by omega) ?_ ?_
            · intro h17
              refine n_aload_n c_149_60 rfl (n_getR c_149_61 sc_112.n rfl rfl rfl r_112_3 (n_bipush c_149_64 rfl (n_iload_n c_149_66 rfl (n_imul c_149_67 rfl (n_laloadV c_149_68 sc_115.n rfl rfl rfl (by omega) (t_115 hS (by omega)) ?_)))))
              intro z18 ez18 f19
              refine n_lstore (L2 := [some (2, 112), some (0, 1), some (0, s), some (0, (z15 - 1)), some (1, z18), none, none, none, none, none, none, none]) c_149_69 rfl rfl (n_lload c_149_71 rfl (n_lconst (n := 0) c_149_73 rfl (n_lcmp c_149_74 ?_)))
              refine n_lif_lt c_149_75 (by omega) (by omega) ?_ ?_
              · intro h20
                refine n_fg (le_n (le_n (le_n (le_n (le_n (le_n (le_n (le_n (le_n (le_n (le_n (le_n le_0)))))))))))) ?_
                exact (mlaw1_2_c hS hdm hs hgd 72).2.1  M hS (by omega) (by omega) (by omega)
              · intro h21
                refine n_lload c_149_78 rfl (n_ldc2 (n := 27) c_149_80 rfl (n_lcmp c_149_83 ?_))
                refine n_lif_le c_149_84 (by omega) (by omega) ?_ ?_
                · intro h22
                  refine n_lconst (n := 0) c_149_90 rfl (n_lstore (L2 := [some (2, 112), some (0, 1), some (0, s), some (0, (z15 - 1)), some (1, z18), none, some (1, 0), none, none, none, none, none]) c_149_91 rfl rfl (n_iconst c_149_93 (n_istore (L2 := [some (2, 112), some (0, 1), some (0, s), some (0, (z15 - 1)), some (1, z18), none, some (1, 0), none, some (0, 1), none, none, none]) c_149_94 rfl rfl (n_iconst c_149_96 (n_istore (L2 := [some (2, 112), some (0, 1), some (0, s), some (0, (z15 - 1)), some (1, z18), none, some (1, 0), none, some (0, 1), some (0, 0), none, none]) c_149_97 rfl rfl (n_fg (le_s (le_s (le_s (le_s (le_s (le_n (le_s (le_n (le_s (le_s (le_n (le_n le_0)))))))))))) ?_))))))
                  exact (mlaw1_2_c hS hdm hs hgd 72).2.2 _ _ _ _ _ M hS (by omega) (by omega) (by omega) (by omega) (by omega) (by omega) (by omega) (by omega) (by omega) (by omega)
                · intro h23
                  refine n_fg (le_n (le_n (le_n (le_n (le_n (le_n (le_n (le_n (le_n (le_n (le_n (le_n le_0)))))))))))) ?_
                  exact (mlaw1_2_c hS hdm hs hgd 72).2.1  M hS (by omega) (by omega) (by omega)
            · intro h24
              refine n_bipush c_149_57 rfl ?_
              exact n_rI c_149_59 rfl ⟨hS, by omega, by omega⟩
          · intro h25
            refine n_bipush c_149_41 rfl ?_
            exact n_rI c_149_43 rfl ⟨hS, by omega, by omega⟩
        · intro h26
          refine n_bipush c_149_29 rfl ?_
          exact n_rI c_149_31 rfl ⟨hS, by omega, by omega⟩
      · intro h27
        exfalso; omega

set_option maxHeartbeats 4000000 in
theorem mlaw2_2_c {xs : List Int32} {e : Nat} {ac : Int} {M : nM} {s gd : Int} (hS : Sf 2 ac M M) (hdm : M 112 0 = 2) (hs : -2147483648 ≤ s ∧ s ≤ 2147483647) (hgd : M 112 0 = gd) : ∀ nn : Nat, (∀ (M : nM), Sf 2 ac M M → (M 112 0 = 2) → (M 112 0 = gd) → 31 < (nn : Int) → nW xs (e + 1) 149 17 [none, none, none, none, none, none, none, none, none, none, none, none] [] M (nPI fun z M1 => Sf 2 ac M1 M1 ∧ (-2147483648 ≤ z ∧ z ≤ 2147483647) ∧ (M1 112 0 = gd))) ∧ (∀ (M : nM), Sf 2 ac M M → (M 112 0 = 2) → (M 112 0 = gd) → 30 < (nn : Int) → nW xs (e + 1) 149 87 [none, none, none, none, none, none, none, none, none, none, none, none] [] M (nPI fun z M1 => Sf 2 ac M1 M1 ∧ (-2147483648 ≤ z ∧ z ≤ 2147483647) ∧ (M1 112 0 = gd))) ∧ (∀ (x3 x4 x6 x8 x9 : Int) (M : nM), Sf 2 ac M M → (0 ≤ s ∧ s ≤ 7) → (1 ≤ x3 ∧ x3 ≤ 40) → (0 ≤ x4 ∧ x4 ≤ 27) → (0 ≤ x6 ∧ x6 ≤ 134217727) → (1 ≤ x8 ∧ x8 ≤ 40) → (0 ≤ x9 ∧ x9 ≤ 27) → (M 112 0 = 2) → (M 112 0 = gd) → (M 112 7 ≤ 11) → (27 - x9) * 1 + 1 < (nn : Int) → nW xs (e + 1) 149 99 [some (2, 112), some (0, 2), some (0, s), some (0, x3), some (1, x4), none, some (1, x6), none, some (0, x8), some (0, x9), none, none] [] M (nPI fun z M1 => Sf 2 ac M1 M1 ∧ (-2147483648 ≤ z ∧ z ≤ 2147483647) ∧ (M1 112 0 = gd))) := by
  have hd : (2 : Int) = 2 ∨ (2 : Int) = 3 := by decide
  have hac := hS.2.2.2.2
  intro nn
  induction nn with
  | zero => refine ⟨?_, ?_, ?_⟩ <;> (intros; omega)
  | succ nn ih =>
    refine ⟨?_, ?_, ?_⟩
    · intro M hS hdm hggd hnn
      refine n_bipush c_149_17 rfl ?_
      exact n_rI c_149_19 rfl ⟨hS, by omega, by omega⟩
    · intro M hS hdm hggd hnn
      refine n_bipush c_149_87 rfl ?_
      exact n_rI c_149_89 rfl ⟨hS, by omega, by omega⟩
    · intro x3 x4 x6 x8 x9 M hS k2 k3 k4 k6 k8 k9 hdm hggd v0 hnn
      refine n_iload c_149_99 rfl (n_i2l c_149_101 (by omega) ?_)
      refine n_lload c_149_102 rfl (n_lcmp c_149_104 ?_)
      refine n_lif_ge c_149_105 (by omega) (by omega) ?_ ?_
      · intro h1
        refine n_aload_n c_149_198 rfl (n_getR c_149_199 sc_112.n rfl rfl rfl r_112_8 (n_aload_n c_149_202 rfl (n_getV (bi := 7) c_149_203 sc_112.n rfl rfl rfl (t_112_7 hS) ?_)))
        intro z2 ez2 f3
        refine n_iload_n c_149_206 rfl (n_iastoreG c_149_207 sc_118.n rfl (by omega) (hS.w118 (by omega) (by omega)) ?_)
        intro M4 eM4 hS4
        have g4_0 : M4 112 0 = M 112 0 := by rw [eM4]; exact nu_a (by omega)
        have g4_1 : M4 112 7 = M 112 7 := by rw [eM4]; exact nu_a (by omega)
        have g4_2 : M4 118 z2 = 2 := by rw [eM4]; exact nu_s _ _ _ _
        refine n_aload_n c_149_208 rfl (n_getR c_149_209 sc_112.n rfl rfl rfl r_112_9 (n_aload_n c_149_212 rfl (n_getV (bi := 7) c_149_213 sc_112.n rfl rfl rfl (t_112_7 hS4) ?_)))
        intro z5 ez5 f6
        refine n_lload c_149_216 rfl (n_lastoreM hS4 c_149_218 sc_119.n rfl (by omega) (m_119 (by omega) (by omega)) ?_)
        intro M7 eM7 hS7
        have g7_0 : M7 112 0 = M4 112 0 := by rw [eM7]; exact nu_a (by omega)
        have g7_1 : M7 112 7 = M4 112 7 := by rw [eM7]; exact nu_a (by omega)
        have g7_2 : M7 118 z2 = M4 118 z2 := by rw [eM7]; exact nu_a (by omega)
        refine n_aload_n c_149_219 rfl (n_dup2 c_149_220 (n_getV (bi := 7) c_149_221 sc_112.n rfl rfl rfl (t_112_7 hS7) ?_))
        intro z8 ez8 f9
        refine n_iconst c_149_224 (n_iadd c_149_225 rfl (n_putG (P := fun M2 => Sf 2 ac M2 M2) (bi := 7) c_149_226 sc_112.n rfl rfl rfl rfl (hS7.w112_7 (by omega) (by omega)) ?_))
        intro M10 eM10 hS10
        have g10_0 : M10 112 0 = M7 112 0 := by rw [eM10]; exact nu_i (by omega)
        have g10_1 : M10 118 z2 = M7 118 z2 := by rw [eM10]; exact nu_a (by omega)
        have g10_2 : M10 112 7 = (z8 + 1) := by rw [eM10]; exact nu_s _ _ _ _
        refine n_aload_n c_149_229 rfl (n_getV (bi := 7) c_149_230 sc_112.n rfl rfl rfl (t_112_7 hS10) ?_)
        intro z11 ez11 f12
        refine n_iconst c_149_233 (n_isub c_149_234 rfl ?_)
        exact n_rI c_149_235 rfl ⟨hS10, by omega, by omega⟩
      · intro h13
        refine n_iconst c_149_108 (n_istore (L2 := [some (2, 112), some (0, 2), some (0, s), some (0, x3), some (1, x4), none, some (1, x6), none, some (0, x8), some (0, x9), some (0, 0), none]) c_149_109 rfl rfl (n_iconst c_149_111 (n_istore (L2 := [some (2, 112), some (0, 2), some (0, s), some (0, x3), some (1, x4), none, some (1, x6), none, some (0, x8), some (0, x9), some (0, 0), some (0, 0)]) c_149_112 rfl rfl (n_iload c_149_114 rfl (n_iload_n c_149_116 rfl ?_)))))
        refine n_if2_ge c_149_117 (by omega) (by omega) ?_ ?_
        · intro h14
          exfalso; omega
        · intro h15
          refine n_iload c_149_120 rfl (n_iload_n c_149_122 rfl ?_)
          refine n_if2_lt c_149_123 (by omega) (by omega) ?_ ?_
          · intro h16
            refine n_aload_n c_149_129 rfl (n_aload_n c_149_130 rfl (n_getR c_149_131 sc_112.n rfl rfl rfl r_112_3 (n_bipush c_149_134 rfl (n_iload_n c_149_136 rfl (n_imul c_149_137 rfl (n_iload c_149_138 rfl (n_iadd c_149_140 rfl (n_laloadV c_149_141 sc_115.n rfl rfl rfl (by omega) (t_115 hS (by omega)) ?_))))))))
            intro z17 ez17 f18
            refine n_v1I c_149_142 rfl sc_112.n rfl rfl rfl rfl (misThing_2 (v := z17) hS (by omega) (by omega)) ?_
            intro z19 M20 hP21
            obtain ⟨eM, f21, f21p0⟩ := hP21
            subst eM
            refine n_if0_ne c_149_145 (by omega) ?_ ?_
            · intro h22
              refine n_iload c_149_151 rfl (n_aload_n c_149_153 rfl (n_getV (bi := 0) c_149_154 sc_112.n rfl rfl rfl (show 2 ≤ M 112 0 ∧ M 112 0 ≤ 2 by omega) ?_))
              intro z23 ez23 f24
              obtain rfl : z23 = 2 := by omega
              refine n_imul c_149_157 rfl (n_aload_n c_149_158 rfl (n_getR c_149_159 sc_112.n rfl rfl rfl r_112_3 (n_bipush c_149_162 rfl (n_iload_n c_149_164 rfl (n_imul c_149_165 rfl (n_iload c_149_166 rfl (n_iadd c_149_168 rfl (n_laloadV c_149_169 sc_115.n rfl rfl rfl (by omega) (t_115 hS (by omega)) ?_))))))))
              intro z25 ez25 f26
              refine n_l2i c_149_170 (n_iadd c_149_171 rfl (n_istore (L2 := [some (2, 112), some (0, 2), some (0, s), some (0, x3), some (1, x4), none, some (1, x6), none, some (0, x8), some (0, x9), some (0, ((0 * 2) + z25)), some (0, 0)]) c_149_172 rfl rfl (n_iinc (L2 := [some (2, 112), some (0, 2), some (0, s), some (0, x3), some (1, x4), none, some (1, x6), none, some (0, (x8 + 1)), some (0, x9), some (0, ((0 * 2) + z25)), some (0, 0)]) c_149_174 rfl rfl rfl (n_iinc (L2 := [some (2, 112), some (0, 2), some (0, s), some (0, x3), some (1, x4), none, some (1, x6), none, some (0, (x8 + 1)), some (0, x9), some (0, ((0 * 2) + z25)), some (0, (0 + 1))]) c_149_177 rfl rfl rfl (n_goto c_149_180 (n_iload c_149_114 rfl (n_iload_n c_149_116 rfl ?_)))))))
              refine n_if2_ge c_149_117 (by omega) (by omega) ?_ ?_
              · intro h27
                exfalso; omega
              · intro h28
                refine n_iload c_149_120 rfl (n_iload_n c_149_122 rfl ?_)
                refine n_if2_lt c_149_123 (by omega) (by omega) ?_ ?_
                · intro h29
                  refine n_aload_n c_149_129 rfl (n_aload_n c_149_130 rfl (n_getR c_149_131 sc_112.n rfl rfl rfl r_112_3 (n_bipush c_149_134 rfl (n_iload_n c_149_136 rfl (n_imul c_149_137 rfl (n_iload c_149_138 rfl (n_iadd c_149_140 rfl (n_laloadV c_149_141 sc_115.n rfl rfl rfl (by omega) (t_115 hS (by omega)) ?_))))))))
                  intro z30 ez30 f31
                  refine n_v1I c_149_142 rfl sc_112.n rfl rfl rfl rfl (misThing_2 (v := z30) hS (by omega) (by omega)) ?_
                  intro z32 M33 hP34
                  obtain ⟨eM, f34, f34p0⟩ := hP34
                  subst eM
                  refine n_if0_ne c_149_145 (by omega) ?_ ?_
                  · intro h35
                    refine n_iload c_149_151 rfl (n_aload_n c_149_153 rfl (n_getV (bi := 0) c_149_154 sc_112.n rfl rfl rfl (show 2 ≤ M 112 0 ∧ M 112 0 ≤ 2 by omega) ?_))
                    intro z36 ez36 f37
                    obtain rfl : z36 = 2 := by omega
                    refine n_imul c_149_157 rfl (n_aload_n c_149_158 rfl (n_getR c_149_159 sc_112.n rfl rfl rfl r_112_3 (n_bipush c_149_162 rfl (n_iload_n c_149_164 rfl (n_imul c_149_165 rfl (n_iload c_149_166 rfl (n_iadd c_149_168 rfl (n_laloadV c_149_169 sc_115.n rfl rfl rfl (by omega) (t_115 hS (by omega)) ?_))))))))
                    intro z38 ez38 f39
                    refine n_l2i c_149_170 (n_iadd c_149_171 rfl (n_istore (L2 := [some (2, 112), some (0, 2), some (0, s), some (0, x3), some (1, x4), none, some (1, x6), none, some (0, (x8 + 1)), some (0, x9), some (0, ((((0 * 2) + z25) * 2) + z38)), some (0, (0 + 1))]) c_149_172 rfl rfl (n_iinc (L2 := [some (2, 112), some (0, 2), some (0, s), some (0, x3), some (1, x4), none, some (1, x6), none, some (0, ((x8 + 1) + 1)), some (0, x9), some (0, ((((0 * 2) + z25) * 2) + z38)), some (0, (0 + 1))]) c_149_174 rfl rfl rfl (n_iinc (L2 := [some (2, 112), some (0, 2), some (0, s), some (0, x3), some (1, x4), none, some (1, x6), none, some (0, ((x8 + 1) + 1)), some (0, x9), some (0, ((((0 * 2) + z25) * 2) + z38)), some (0, ((0 + 1) + 1))]) c_149_177 rfl rfl rfl (n_goto c_149_180 (n_iload c_149_114 rfl (n_iload_n c_149_116 rfl ?_)))))))
                    refine n_if2_ge c_149_117 (by omega) (by omega) ?_ ?_
                    · intro h40
                      refine n_lload c_149_183 rfl (n_lconst (n := 1) c_149_185 rfl (n_iload c_149_186 rfl (n_i_lshl c_149_188 rfl (n_i_lor c_149_189 rfl ?_))))
                      have f41 := n_lor_bit27 (s := x6) (r := ((((0 * 2) + z25) * 2) + z38)) (by omega) (by omega)
                      refine n_lstore (L2 := [some (2, 112), some (0, 2), some (0, s), some (0, x3), some (1, x4), none, some (1, (n_lor x6 (n_lshl 1 ((((0 * 2) + z25) * 2) + z38)))), none, some (0, ((x8 + 1) + 1)), some (0, x9), some (0, ((((0 * 2) + z25) * 2) + z38)), some (0, ((0 + 1) + 1))]) c_149_190 rfl rfl (n_iinc (L2 := [some (2, 112), some (0, 2), some (0, s), some (0, x3), some (1, x4), none, some (1, (n_lor x6 (n_lshl 1 ((((0 * 2) + z25) * 2) + z38)))), none, some (0, ((x8 + 1) + 1)), some (0, (x9 + 1)), some (0, ((((0 * 2) + z25) * 2) + z38)), some (0, ((0 + 1) + 1))]) c_149_192 rfl rfl rfl (n_goto c_149_195 (n_fg (le_s (le_s (le_s (le_s (le_s (le_n (le_s (le_n (le_s (le_s (le_n (le_n le_0)))))))))))) ?_)))
                      exact ih.2.2 _ _ _ _ _ M hS (by omega) (by omega) (by omega) (by omega) (by omega) (by omega) (by omega) (by omega) (by omega) (by omega)
                    · intro h42
                      exfalso; omega
                  · intro h43
                    refine n_bipush c_149_148 rfl ?_
                    exact n_rI c_149_150 rfl ⟨hS, by omega, by omega⟩
                · intro h44
                  refine n_bipush c_149_126 rfl ?_
                  exact n_rI c_149_128 rfl ⟨hS, by omega, by omega⟩
            · intro h45
              refine n_bipush c_149_148 rfl ?_
              exact n_rI c_149_150 rfl ⟨hS, by omega, by omega⟩
          · intro h46
            refine n_bipush c_149_126 rfl ?_
            exact n_rI c_149_128 rfl ⟨hS, by omega, by omega⟩
set_option maxHeartbeats 4000000 in
theorem mlaw2_2 {xs : List Int32} {e : Nat} {ac : Int} {M : nM} {s gd : Int} (hS : Sf 2 ac M M) (hdm : M 112 0 = 2) (hs : -2147483648 ≤ s ∧ s ≤ 2147483647) (hgd : M 112 0 = gd) : nW xs (e + 1) 149 0 [some (2, 112), some (0, 2), some (0, s), none, none, none, none, none, none, none, none, none] [] M (nPI fun z M1 => Sf 2 ac M1 M1 ∧ (-2147483648 ≤ z ∧ z ≤ 2147483647) ∧ (M1 112 0 = gd)) := by
  have hd : (2 : Int) = 2 ∨ (2 : Int) = 3 := by decide
  have hac := hS.2.2.2.2
  refine n_iload_n c_149_0 rfl (n_s1I c_149_1 rfl rfl rfl rfl (misSlot_2 (s := s) hS (by omega)) ?_)
  intro z1 M2 hP3
  obtain ⟨eM, f3, f3p0⟩ := hP3
  subst eM
  refine n_if0_eq c_149_4 (by omega) ?_ ?_
  · intro h4
    refine n_fg (le_n (le_n (le_n (le_n (le_n (le_n (le_n (le_n (le_n (le_n (le_n (le_n le_0)))))))))))) ?_
    exact (mlaw2_2_c hS hdm hs hgd 72).1  M hS (by omega) (by omega) (by omega)
  · intro h5
    refine n_iload_n c_149_7 rfl (n_iconst c_149_8 ?_)
    refine n_if2_lt c_149_9 (by omega) (by omega) ?_ ?_
    · intro h6
      exfalso; omega
    · intro h7
      refine n_iload_n c_149_12 rfl (n_iconst c_149_13 ?_)
      refine n_if2_le c_149_14 (by omega) (by omega) ?_ ?_
      · intro h8
        refine n_aload_n c_149_20 rfl (n_getV (bi := 7) c_149_21 sc_112.n rfl rfl rfl (t_112_7 hS) ?_)
        intro z9 ez9 f10
        refine n_bipush c_149_24 rfl ?_
        refine n_if2_ne c_149_26 (by omega) (by omega) ?_ ?_
        · intro h11
          refine n_aload_n c_149_32 rfl (n_getR c_149_33 sc_112.n rfl rfl rfl r_112_1 (n_iload_n c_149_36 rfl (n_ialoadV c_149_37 sc_113.n rfl rfl rfl (by omega) (t_113 hS (by omega)) ?_)))
          intro z12 ez12 f13
          refine n_if0_ne c_149_38 (by omega) ?_ ?_
          · intro h14
            refine n_aload_n c_149_44 rfl (n_getR c_149_45 sc_112.n rfl rfl rfl r_112_1 (n_iload_n c_149_48 rfl (n_ialoadV c_149_49 sc_113.n rfl rfl rfl (by omega) (t_113 hS (by omega)) ?_)))
            intro z15 ez15 f16
            refine n_iconst c_149_50 (n_isub c_149_51 rfl (n_istore_n (L2 := [some (2, 112), some (0, 2), some (0, s), some (0, (z15 - 1)), none, none, none, none, none, none, none, none]) c_149_52 rfl rfl (n_iload_n c_149_53 rfl ?_)))
            refine n_if0_ne c_149_54 (by omega) ?_ ?_
            · intro h17
              refine n_aload_n c_149_60 rfl (n_getR c_149_61 sc_112.n rfl rfl rfl r_112_3 (n_bipush c_149_64 rfl (n_iload_n c_149_66 rfl (n_imul c_149_67 rfl (n_laloadV c_149_68 sc_115.n rfl rfl rfl (by omega) (t_115 hS (by omega)) ?_)))))
              intro z18 ez18 f19
              refine n_lstore (L2 := [some (2, 112), some (0, 2), some (0, s), some (0, (z15 - 1)), some (1, z18), none, none, none, none, none, none, none]) c_149_69 rfl rfl (n_lload c_149_71 rfl (n_lconst (n := 0) c_149_73 rfl (n_lcmp c_149_74 ?_)))
              refine n_lif_lt c_149_75 (by omega) (by omega) ?_ ?_
              · intro h20
                refine n_fg (le_n (le_n (le_n (le_n (le_n (le_n (le_n (le_n (le_n (le_n (le_n (le_n le_0)))))))))))) ?_
                exact (mlaw2_2_c hS hdm hs hgd 72).2.1  M hS (by omega) (by omega) (by omega)
              · intro h21
                refine n_lload c_149_78 rfl (n_ldc2 (n := 27) c_149_80 rfl (n_lcmp c_149_83 ?_))
                refine n_lif_le c_149_84 (by omega) (by omega) ?_ ?_
                · intro h22
                  refine n_lconst (n := 0) c_149_90 rfl (n_lstore (L2 := [some (2, 112), some (0, 2), some (0, s), some (0, (z15 - 1)), some (1, z18), none, some (1, 0), none, none, none, none, none]) c_149_91 rfl rfl (n_iconst c_149_93 (n_istore (L2 := [some (2, 112), some (0, 2), some (0, s), some (0, (z15 - 1)), some (1, z18), none, some (1, 0), none, some (0, 1), none, none, none]) c_149_94 rfl rfl (n_iconst c_149_96 (n_istore (L2 := [some (2, 112), some (0, 2), some (0, s), some (0, (z15 - 1)), some (1, z18), none, some (1, 0), none, some (0, 1), some (0, 0), none, none]) c_149_97 rfl rfl (n_fg (le_s (le_s (le_s (le_s (le_s (le_n (le_s (le_n (le_s (le_s (le_n (le_n le_0)))))))))))) ?_))))))
                  exact (mlaw2_2_c hS hdm hs hgd 72).2.2 _ _ _ _ _ M hS (by omega) (by omega) (by omega) (by omega) (by omega) (by omega) (by omega) (by omega) (by omega) (by omega)
                · intro h23
                  refine n_fg (le_n (le_n (le_n (le_n (le_n (le_n (le_n (le_n (le_n (le_n (le_n (le_n le_0)))))))))))) ?_
                  exact (mlaw2_2_c hS hdm hs hgd 72).2.1  M hS (by omega) (by omega) (by omega)
            · intro h24
              refine n_bipush c_149_57 rfl ?_
              exact n_rI c_149_59 rfl ⟨hS, by omega, by omega⟩
          · intro h25
            refine n_bipush c_149_41 rfl ?_
            exact n_rI c_149_43 rfl ⟨hS, by omega, by omega⟩
        · intro h26
          refine n_bipush c_149_29 rfl ?_
          exact n_rI c_149_31 rfl ⟨hS, by omega, by omega⟩
      · intro h27
        exfalso; omega

set_option maxHeartbeats 4000000 in
theorem mlaw3_2_c {xs : List Int32} {e : Nat} {ac : Int} {M : nM} {s gd : Int} (hS : Sf 2 ac M M) (hdm : M 112 0 = 2) (hs : -2147483648 ≤ s ∧ s ≤ 2147483647) (hgd : M 112 0 = gd) : ∀ nn : Nat, (∀ (M : nM), Sf 2 ac M M → (M 112 0 = 2) → (M 112 0 = gd) → 31 < (nn : Int) → nW xs (e + 1) 149 17 [none, none, none, none, none, none, none, none, none, none, none, none] [] M (nPI fun z M1 => Sf 2 ac M1 M1 ∧ (-2147483648 ≤ z ∧ z ≤ 2147483647) ∧ (M1 112 0 = gd))) ∧ (∀ (M : nM), Sf 2 ac M M → (M 112 0 = 2) → (M 112 0 = gd) → 30 < (nn : Int) → nW xs (e + 1) 149 87 [none, none, none, none, none, none, none, none, none, none, none, none] [] M (nPI fun z M1 => Sf 2 ac M1 M1 ∧ (-2147483648 ≤ z ∧ z ≤ 2147483647) ∧ (M1 112 0 = gd))) ∧ (∀ (x3 x4 x6 x8 x9 : Int) (M : nM), Sf 2 ac M M → (0 ≤ s ∧ s ≤ 7) → (1 ≤ x3 ∧ x3 ≤ 40) → (0 ≤ x4 ∧ x4 ≤ 27) → (0 ≤ x6 ∧ x6 ≤ 134217727) → (1 ≤ x8 ∧ x8 ≤ 40) → (0 ≤ x9 ∧ x9 ≤ 27) → (M 112 0 = 2) → (M 112 0 = gd) → (M 112 7 ≤ 11) → (27 - x9) * 1 + 1 < (nn : Int) → nW xs (e + 1) 149 99 [some (2, 112), some (0, 3), some (0, s), some (0, x3), some (1, x4), none, some (1, x6), none, some (0, x8), some (0, x9), none, none] [] M (nPI fun z M1 => Sf 2 ac M1 M1 ∧ (-2147483648 ≤ z ∧ z ≤ 2147483647) ∧ (M1 112 0 = gd))) := by
  have hd : (2 : Int) = 2 ∨ (2 : Int) = 3 := by decide
  have hac := hS.2.2.2.2
  intro nn
  induction nn with
  | zero => refine ⟨?_, ?_, ?_⟩ <;> (intros; omega)
  | succ nn ih =>
    refine ⟨?_, ?_, ?_⟩
    · intro M hS hdm hggd hnn
      refine n_bipush c_149_17 rfl ?_
      exact n_rI c_149_19 rfl ⟨hS, by omega, by omega⟩
    · intro M hS hdm hggd hnn
      refine n_bipush c_149_87 rfl ?_
      exact n_rI c_149_89 rfl ⟨hS, by omega, by omega⟩
    · intro x3 x4 x6 x8 x9 M hS k2 k3 k4 k6 k8 k9 hdm hggd v0 hnn
      refine n_iload c_149_99 rfl (n_i2l c_149_101 (by omega) ?_)
      refine n_lload c_149_102 rfl (n_lcmp c_149_104 ?_)
      refine n_lif_ge c_149_105 (by omega) (by omega) ?_ ?_
      · intro h1
        refine n_aload_n c_149_198 rfl (n_getR c_149_199 sc_112.n rfl rfl rfl r_112_8 (n_aload_n c_149_202 rfl (n_getV (bi := 7) c_149_203 sc_112.n rfl rfl rfl (t_112_7 hS) ?_)))
        intro z2 ez2 f3
        refine n_iload_n c_149_206 rfl (n_iastoreG c_149_207 sc_118.n rfl (by omega) (hS.w118 (by omega) (by omega)) ?_)
        intro M4 eM4 hS4
        have g4_0 : M4 112 0 = M 112 0 := by rw [eM4]; exact nu_a (by omega)
        have g4_1 : M4 112 7 = M 112 7 := by rw [eM4]; exact nu_a (by omega)
        have g4_2 : M4 118 z2 = 3 := by rw [eM4]; exact nu_s _ _ _ _
        refine n_aload_n c_149_208 rfl (n_getR c_149_209 sc_112.n rfl rfl rfl r_112_9 (n_aload_n c_149_212 rfl (n_getV (bi := 7) c_149_213 sc_112.n rfl rfl rfl (t_112_7 hS4) ?_)))
        intro z5 ez5 f6
        refine n_lload c_149_216 rfl (n_lastoreM hS4 c_149_218 sc_119.n rfl (by omega) (m_119 (by omega) (by omega)) ?_)
        intro M7 eM7 hS7
        have g7_0 : M7 112 0 = M4 112 0 := by rw [eM7]; exact nu_a (by omega)
        have g7_1 : M7 112 7 = M4 112 7 := by rw [eM7]; exact nu_a (by omega)
        have g7_2 : M7 118 z2 = M4 118 z2 := by rw [eM7]; exact nu_a (by omega)
        refine n_aload_n c_149_219 rfl (n_dup2 c_149_220 (n_getV (bi := 7) c_149_221 sc_112.n rfl rfl rfl (t_112_7 hS7) ?_))
        intro z8 ez8 f9
        refine n_iconst c_149_224 (n_iadd c_149_225 rfl (n_putG (P := fun M2 => Sf 2 ac M2 M2) (bi := 7) c_149_226 sc_112.n rfl rfl rfl rfl (hS7.w112_7 (by omega) (by omega)) ?_))
        intro M10 eM10 hS10
        have g10_0 : M10 112 0 = M7 112 0 := by rw [eM10]; exact nu_i (by omega)
        have g10_1 : M10 118 z2 = M7 118 z2 := by rw [eM10]; exact nu_a (by omega)
        have g10_2 : M10 112 7 = (z8 + 1) := by rw [eM10]; exact nu_s _ _ _ _
        refine n_aload_n c_149_229 rfl (n_getV (bi := 7) c_149_230 sc_112.n rfl rfl rfl (t_112_7 hS10) ?_)
        intro z11 ez11 f12
        refine n_iconst c_149_233 (n_isub c_149_234 rfl ?_)
        exact n_rI c_149_235 rfl ⟨hS10, by omega, by omega⟩
      · intro h13
        refine n_iconst c_149_108 (n_istore (L2 := [some (2, 112), some (0, 3), some (0, s), some (0, x3), some (1, x4), none, some (1, x6), none, some (0, x8), some (0, x9), some (0, 0), none]) c_149_109 rfl rfl (n_iconst c_149_111 (n_istore (L2 := [some (2, 112), some (0, 3), some (0, s), some (0, x3), some (1, x4), none, some (1, x6), none, some (0, x8), some (0, x9), some (0, 0), some (0, 0)]) c_149_112 rfl rfl (n_iload c_149_114 rfl (n_iload_n c_149_116 rfl ?_)))))
        refine n_if2_ge c_149_117 (by omega) (by omega) ?_ ?_
        · intro h14
          exfalso; omega
        · intro h15
          refine n_iload c_149_120 rfl (n_iload_n c_149_122 rfl ?_)
          refine n_if2_lt c_149_123 (by omega) (by omega) ?_ ?_
          · intro h16
            refine n_aload_n c_149_129 rfl (n_aload_n c_149_130 rfl (n_getR c_149_131 sc_112.n rfl rfl rfl r_112_3 (n_bipush c_149_134 rfl (n_iload_n c_149_136 rfl (n_imul c_149_137 rfl (n_iload c_149_138 rfl (n_iadd c_149_140 rfl (n_laloadV c_149_141 sc_115.n rfl rfl rfl (by omega) (t_115 hS (by omega)) ?_))))))))
            intro z17 ez17 f18
            refine n_v1I c_149_142 rfl sc_112.n rfl rfl rfl rfl (misThing_2 (v := z17) hS (by omega) (by omega)) ?_
            intro z19 M20 hP21
            obtain ⟨eM, f21, f21p0⟩ := hP21
            subst eM
            refine n_if0_ne c_149_145 (by omega) ?_ ?_
            · intro h22
              refine n_iload c_149_151 rfl (n_aload_n c_149_153 rfl (n_getV (bi := 0) c_149_154 sc_112.n rfl rfl rfl (show 2 ≤ M 112 0 ∧ M 112 0 ≤ 2 by omega) ?_))
              intro z23 ez23 f24
              obtain rfl : z23 = 2 := by omega
              refine n_imul c_149_157 rfl (n_aload_n c_149_158 rfl (n_getR c_149_159 sc_112.n rfl rfl rfl r_112_3 (n_bipush c_149_162 rfl (n_iload_n c_149_164 rfl (n_imul c_149_165 rfl (n_iload c_149_166 rfl (n_iadd c_149_168 rfl (n_laloadV c_149_169 sc_115.n rfl rfl rfl (by omega) (t_115 hS (by omega)) ?_))))))))
              intro z25 ez25 f26
              refine n_l2i c_149_170 (n_iadd c_149_171 rfl (n_istore (L2 := [some (2, 112), some (0, 3), some (0, s), some (0, x3), some (1, x4), none, some (1, x6), none, some (0, x8), some (0, x9), some (0, ((0 * 2) + z25)), some (0, 0)]) c_149_172 rfl rfl (n_iinc (L2 := [some (2, 112), some (0, 3), some (0, s), some (0, x3), some (1, x4), none, some (1, x6), none, some (0, (x8 + 1)), some (0, x9), some (0, ((0 * 2) + z25)), some (0, 0)]) c_149_174 rfl rfl rfl (n_iinc (L2 := [some (2, 112), some (0, 3), some (0, s), some (0, x3), some (1, x4), none, some (1, x6), none, some (0, (x8 + 1)), some (0, x9), some (0, ((0 * 2) + z25)), some (0, (0 + 1))]) c_149_177 rfl rfl rfl (n_goto c_149_180 (n_iload c_149_114 rfl (n_iload_n c_149_116 rfl ?_)))))))
              refine n_if2_ge c_149_117 (by omega) (by omega) ?_ ?_
              · intro h27
                exfalso; omega
              · intro h28
                refine n_iload c_149_120 rfl (n_iload_n c_149_122 rfl ?_)
                refine n_if2_lt c_149_123 (by omega) (by omega) ?_ ?_
                · intro h29
                  refine n_aload_n c_149_129 rfl (n_aload_n c_149_130 rfl (n_getR c_149_131 sc_112.n rfl rfl rfl r_112_3 (n_bipush c_149_134 rfl (n_iload_n c_149_136 rfl (n_imul c_149_137 rfl (n_iload c_149_138 rfl (n_iadd c_149_140 rfl (n_laloadV c_149_141 sc_115.n rfl rfl rfl (by omega) (t_115 hS (by omega)) ?_))))))))
                  intro z30 ez30 f31
                  refine n_v1I c_149_142 rfl sc_112.n rfl rfl rfl rfl (misThing_2 (v := z30) hS (by omega) (by omega)) ?_
                  intro z32 M33 hP34
                  obtain ⟨eM, f34, f34p0⟩ := hP34
                  subst eM
                  refine n_if0_ne c_149_145 (by omega) ?_ ?_
                  · intro h35
                    refine n_iload c_149_151 rfl (n_aload_n c_149_153 rfl (n_getV (bi := 0) c_149_154 sc_112.n rfl rfl rfl (show 2 ≤ M 112 0 ∧ M 112 0 ≤ 2 by omega) ?_))
                    intro z36 ez36 f37
                    obtain rfl : z36 = 2 := by omega
                    refine n_imul c_149_157 rfl (n_aload_n c_149_158 rfl (n_getR c_149_159 sc_112.n rfl rfl rfl r_112_3 (n_bipush c_149_162 rfl (n_iload_n c_149_164 rfl (n_imul c_149_165 rfl (n_iload c_149_166 rfl (n_iadd c_149_168 rfl (n_laloadV c_149_169 sc_115.n rfl rfl rfl (by omega) (t_115 hS (by omega)) ?_))))))))
                    intro z38 ez38 f39
                    refine n_l2i c_149_170 (n_iadd c_149_171 rfl (n_istore (L2 := [some (2, 112), some (0, 3), some (0, s), some (0, x3), some (1, x4), none, some (1, x6), none, some (0, (x8 + 1)), some (0, x9), some (0, ((((0 * 2) + z25) * 2) + z38)), some (0, (0 + 1))]) c_149_172 rfl rfl (n_iinc (L2 := [some (2, 112), some (0, 3), some (0, s), some (0, x3), some (1, x4), none, some (1, x6), none, some (0, ((x8 + 1) + 1)), some (0, x9), some (0, ((((0 * 2) + z25) * 2) + z38)), some (0, (0 + 1))]) c_149_174 rfl rfl rfl (n_iinc (L2 := [some (2, 112), some (0, 3), some (0, s), some (0, x3), some (1, x4), none, some (1, x6), none, some (0, ((x8 + 1) + 1)), some (0, x9), some (0, ((((0 * 2) + z25) * 2) + z38)), some (0, ((0 + 1) + 1))]) c_149_177 rfl rfl rfl (n_goto c_149_180 (n_iload c_149_114 rfl (n_iload_n c_149_116 rfl ?_)))))))
                    refine n_if2_ge c_149_117 (by omega) (by omega) ?_ ?_
                    · intro h40
                      exfalso; omega
                    · intro h41
                      refine n_iload c_149_120 rfl (n_iload_n c_149_122 rfl ?_)
                      refine n_if2_lt c_149_123 (by omega) (by omega) ?_ ?_
                      · intro h42
                        refine n_aload_n c_149_129 rfl (n_aload_n c_149_130 rfl (n_getR c_149_131 sc_112.n rfl rfl rfl r_112_3 (n_bipush c_149_134 rfl (n_iload_n c_149_136 rfl (n_imul c_149_137 rfl (n_iload c_149_138 rfl (n_iadd c_149_140 rfl (n_laloadV c_149_141 sc_115.n rfl rfl rfl (by omega) (t_115 hS (by omega)) ?_))))))))
                        intro z43 ez43 f44
                        refine n_v1I c_149_142 rfl sc_112.n rfl rfl rfl rfl (misThing_2 (v := z43) hS (by omega) (by omega)) ?_
                        intro z45 M46 hP47
                        obtain ⟨eM, f47, f47p0⟩ := hP47
                        subst eM
                        refine n_if0_ne c_149_145 (by omega) ?_ ?_
                        · intro h48
                          refine n_iload c_149_151 rfl (n_aload_n c_149_153 rfl (n_getV (bi := 0) c_149_154 sc_112.n rfl rfl rfl (show 2 ≤ M 112 0 ∧ M 112 0 ≤ 2 by omega) ?_))
                          intro z49 ez49 f50
                          obtain rfl : z49 = 2 := by omega
                          refine n_imul c_149_157 rfl (n_aload_n c_149_158 rfl (n_getR c_149_159 sc_112.n rfl rfl rfl r_112_3 (n_bipush c_149_162 rfl (n_iload_n c_149_164 rfl (n_imul c_149_165 rfl (n_iload c_149_166 rfl (n_iadd c_149_168 rfl (n_laloadV c_149_169 sc_115.n rfl rfl rfl (by omega) (t_115 hS (by omega)) ?_))))))))
                          intro z51 ez51 f52
                          refine n_l2i c_149_170 (n_iadd c_149_171 rfl (n_istore (L2 := [some (2, 112), some (0, 3), some (0, s), some (0, x3), some (1, x4), none, some (1, x6), none, some (0, ((x8 + 1) + 1)), some (0, x9), some (0, ((((((0 * 2) + z25) * 2) + z38) * 2) + z51)), some (0, ((0 + 1) + 1))]) c_149_172 rfl rfl (n_iinc (L2 := [some (2, 112), some (0, 3), some (0, s), some (0, x3), some (1, x4), none, some (1, x6), none, some (0, (((x8 + 1) + 1) + 1)), some (0, x9), some (0, ((((((0 * 2) + z25) * 2) + z38) * 2) + z51)), some (0, ((0 + 1) + 1))]) c_149_174 rfl rfl rfl (n_iinc (L2 := [some (2, 112), some (0, 3), some (0, s), some (0, x3), some (1, x4), none, some (1, x6), none, some (0, (((x8 + 1) + 1) + 1)), some (0, x9), some (0, ((((((0 * 2) + z25) * 2) + z38) * 2) + z51)), some (0, (((0 + 1) + 1) + 1))]) c_149_177 rfl rfl rfl (n_goto c_149_180 (n_iload c_149_114 rfl (n_iload_n c_149_116 rfl ?_)))))))
                          refine n_if2_ge c_149_117 (by omega) (by omega) ?_ ?_
                          · intro h53
                            refine n_lload c_149_183 rfl (n_lconst (n := 1) c_149_185 rfl (n_iload c_149_186 rfl (n_i_lshl c_149_188 rfl (n_i_lor c_149_189 rfl ?_))))
                            have f54 := n_lor_bit27 (s := x6) (r := ((((((0 * 2) + z25) * 2) + z38) * 2) + z51)) (by omega) (by omega)
                            refine n_lstore (L2 := [some (2, 112), some (0, 3), some (0, s), some (0, x3), some (1, x4), none, some (1, (n_lor x6 (n_lshl 1 ((((((0 * 2) + z25) * 2) + z38) * 2) + z51)))), none, some (0, (((x8 + 1) + 1) + 1)), some (0, x9), some (0, ((((((0 * 2) + z25) * 2) + z38) * 2) + z51)), some (0, (((0 + 1) + 1) + 1))]) c_149_190 rfl rfl (n_iinc (L2 := [some (2, 112), some (0, 3), some (0, s), some (0, x3), some (1, x4), none, some (1, (n_lor x6 (n_lshl 1 ((((((0 * 2) + z25) * 2) + z38) * 2) + z51)))), none, some (0, (((x8 + 1) + 1) + 1)), some (0, (x9 + 1)), some (0, ((((((0 * 2) + z25) * 2) + z38) * 2) + z51)), some (0, (((0 + 1) + 1) + 1))]) c_149_192 rfl rfl rfl (n_goto c_149_195 (n_fg (le_s (le_s (le_s (le_s (le_s (le_n (le_s (le_n (le_s (le_s (le_n (le_n le_0)))))))))))) ?_)))
                            exact ih.2.2 _ _ _ _ _ M hS (by omega) (by omega) (by omega) (by omega) (by omega) (by omega) (by omega) (by omega) (by omega) (by omega)
                          · intro h55
                            exfalso; omega
                        · intro h56
                          refine n_bipush c_149_148 rfl ?_
                          exact n_rI c_149_150 rfl ⟨hS, by omega, by omega⟩
                      · intro h57
                        refine n_bipush c_149_126 rfl ?_
                        exact n_rI c_149_128 rfl ⟨hS, by omega, by omega⟩
                  · intro h58
                    refine n_bipush c_149_148 rfl ?_
                    exact n_rI c_149_150 rfl ⟨hS, by omega, by omega⟩
                · intro h59
                  refine n_bipush c_149_126 rfl ?_
                  exact n_rI c_149_128 rfl ⟨hS, by omega, by omega⟩
            · intro h60
              refine n_bipush c_149_148 rfl ?_
              exact n_rI c_149_150 rfl ⟨hS, by omega, by omega⟩
          · intro h61
            refine n_bipush c_149_126 rfl ?_
            exact n_rI c_149_128 rfl ⟨hS, by omega, by omega⟩
set_option maxHeartbeats 4000000 in
theorem mlaw3_2 {xs : List Int32} {e : Nat} {ac : Int} {M : nM} {s gd : Int} (hS : Sf 2 ac M M) (hdm : M 112 0 = 2) (hs : -2147483648 ≤ s ∧ s ≤ 2147483647) (hgd : M 112 0 = gd) : nW xs (e + 1) 149 0 [some (2, 112), some (0, 3), some (0, s), none, none, none, none, none, none, none, none, none] [] M (nPI fun z M1 => Sf 2 ac M1 M1 ∧ (-2147483648 ≤ z ∧ z ≤ 2147483647) ∧ (M1 112 0 = gd)) := by
  have hd : (2 : Int) = 2 ∨ (2 : Int) = 3 := by decide
  have hac := hS.2.2.2.2
  refine n_iload_n c_149_0 rfl (n_s1I c_149_1 rfl rfl rfl rfl (misSlot_2 (s := s) hS (by omega)) ?_)
  intro z1 M2 hP3
  obtain ⟨eM, f3, f3p0⟩ := hP3
  subst eM
  refine n_if0_eq c_149_4 (by omega) ?_ ?_
  · intro h4
    refine n_fg (le_n (le_n (le_n (le_n (le_n (le_n (le_n (le_n (le_n (le_n (le_n (le_n le_0)))))))))))) ?_
    exact (mlaw3_2_c hS hdm hs hgd 72).1  M hS (by omega) (by omega) (by omega)
  · intro h5
    refine n_iload_n c_149_7 rfl (n_iconst c_149_8 ?_)
    refine n_if2_lt c_149_9 (by omega) (by omega) ?_ ?_
    · intro h6
      exfalso; omega
    · intro h7
      refine n_iload_n c_149_12 rfl (n_iconst c_149_13 ?_)
      refine n_if2_le c_149_14 (by omega) (by omega) ?_ ?_
      · intro h8
        refine n_aload_n c_149_20 rfl (n_getV (bi := 7) c_149_21 sc_112.n rfl rfl rfl (t_112_7 hS) ?_)
        intro z9 ez9 f10
        refine n_bipush c_149_24 rfl ?_
        refine n_if2_ne c_149_26 (by omega) (by omega) ?_ ?_
        · intro h11
          refine n_aload_n c_149_32 rfl (n_getR c_149_33 sc_112.n rfl rfl rfl r_112_1 (n_iload_n c_149_36 rfl (n_ialoadV c_149_37 sc_113.n rfl rfl rfl (by omega) (t_113 hS (by omega)) ?_)))
          intro z12 ez12 f13
          refine n_if0_ne c_149_38 (by omega) ?_ ?_
          · intro h14
            refine n_aload_n c_149_44 rfl (n_getR c_149_45 sc_112.n rfl rfl rfl r_112_1 (n_iload_n c_149_48 rfl (n_ialoadV c_149_49 sc_113.n rfl rfl rfl (by omega) (t_113 hS (by omega)) ?_)))
            intro z15 ez15 f16
            refine n_iconst c_149_50 (n_isub c_149_51 rfl (n_istore_n (L2 := [some (2, 112), some (0, 3), some (0, s), some (0, (z15 - 1)), none, none, none, none, none, none, none, none]) c_149_52 rfl rfl (n_iload_n c_149_53 rfl ?_)))
            refine n_if0_ne c_149_54 (by omega) ?_ ?_
            · intro h17
              refine n_aload_n c_149_60 rfl (n_getR c_149_61 sc_112.n rfl rfl rfl r_112_3 (n_bipush c_149_64 rfl (n_iload_n c_149_66 rfl (n_imul c_149_67 rfl (n_laloadV c_149_68 sc_115.n rfl rfl rfl (by omega) (t_115 hS (by omega)) ?_)))))
              intro z18 ez18 f19
              refine n_lstore (L2 := [some (2, 112), some (0, 3), some (0, s), some (0, (z15 - 1)), some (1, z18), none, none, none, none, none, none, none]) c_149_69 rfl rfl (n_lload c_149_71 rfl (n_lconst (n := 0) c_149_73 rfl (n_lcmp c_149_74 ?_)))
              refine n_lif_lt c_149_75 (by omega) (by omega) ?_ ?_
              · intro h20
                refine n_fg (le_n (le_n (le_n (le_n (le_n (le_n (le_n (le_n (le_n (le_n (le_n (le_n le_0)))))))))))) ?_
                exact (mlaw3_2_c hS hdm hs hgd 72).2.1  M hS (by omega) (by omega) (by omega)
              · intro h21
                refine n_lload c_149_78 rfl (n_ldc2 (n := 27) c_149_80 rfl (n_lcmp c_149_83 ?_))
                refine n_lif_le c_149_84 (by omega) (by omega) ?_ ?_
                · intro h22
                  refine n_lconst (n := 0) c_149_90 rfl (n_lstore (L2 := [some (2, 112), some (0, 3), some (0, s), some (0, (z15 - 1)), some (1, z18), none, some (1, 0), none, none, none, none, none]) c_149_91 rfl rfl (n_iconst c_149_93 (n_istore (L2 := [some (2, 112), some (0, 3), some (0, s), some (0, (z15 - 1)), some (1, z18), none, some (1, 0), none, some (0, 1), none, none, none]) c_149_94 rfl rfl (n_iconst c_149_96 (n_istore (L2 := [some (2, 112), some (0, 3), some (0, s), some (0, (z15 - 1)), some (1, z18), none, some (1, 0), none, some (0, 1), some (0, 0), none, none]) c_149_97 rfl rfl (n_fg (le_s (le_s (le_s (le_s (le_s (le_n (le_s (le_n (le_s (le_s (le_n (le_n le_0)))))))))))) ?_))))))
                  exact (mlaw3_2_c hS hdm hs hgd 72).2.2 _ _ _ _ _ M hS (by omega) (by omega) (by omega) (by omega) (by omega) (by omega) (by omega) (by omega) (by omega) (by omega)
                · intro h23
                  refine n_fg (le_n (le_n (le_n (le_n (le_n (le_n (le_n (le_n (le_n (le_n (le_n (le_n le_0)))))))))))) ?_
                  exact (mlaw3_2_c hS hdm hs hgd 72).2.1  M hS (by omega) (by omega) (by omega)
            · intro h24
              refine n_bipush c_149_57 rfl ?_
              exact n_rI c_149_59 rfl ⟨hS, by omega, by omega⟩
          · intro h25
            refine n_bipush c_149_41 rfl ?_
            exact n_rI c_149_43 rfl ⟨hS, by omega, by omega⟩
        · intro h26
          refine n_bipush c_149_29 rfl ?_
          exact n_rI c_149_31 rfl ⟨hS, by omega, by omega⟩
      · intro h27
        exfalso; omega

/-! The methods, by program. -/
set_option maxHeartbeats 4000000 in
theorem mlawL_2_c {xs : List Int32} {e : Nat} {ac : Int} {M0 M : nM} {k s : Int} (hS : Sf 2 ac M0 M) (hdm : M0 112 0 = 2) (hk : -2147483648 ≤ k ∧ k ≤ 0) (hs : -2147483648 ≤ s ∧ s ≤ 2147483647) : ∀ nn : Nat, (1 < (nn : Int) → nW xs (e + 1) 149 17 [none, none, none, none, none, none, none, none, none, none, none, none] [] M (nPI fun z M1 => M = M1 ∧ (-2147483648 ≤ z ∧ z ≤ 2147483647))) := by
  have hd : (2 : Int) = 2 ∨ (2 : Int) = 3 := by decide
  have hac := hS.2.2.2.2
  intro nn
  induction nn with
  | zero => intros; omega
  | succ nn ih =>
    intro hnn
    refine n_bipush c_149_17 rfl ?_
    exact n_rI c_149_19 rfl ⟨rfl, by omega⟩
set_option maxHeartbeats 4000000 in
theorem mlawL_2 {xs : List Int32} {e : Nat} {ac : Int} {M0 M : nM} {k s : Int} (hS : Sf 2 ac M0 M) (hdm : M0 112 0 = 2) (hk : -2147483648 ≤ k ∧ k ≤ 0) (hs : -2147483648 ≤ s ∧ s ≤ 2147483647) : nW xs (e + 1) 149 0 [some (2, 112), some (0, k), some (0, s), none, none, none, none, none, none, none, none, none] [] M (nPI fun z M1 => M = M1 ∧ (-2147483648 ≤ z ∧ z ≤ 2147483647)) := by
  have hd : (2 : Int) = 2 ∨ (2 : Int) = 3 := by decide
  have hac := hS.2.2.2.2
  refine n_iload_n c_149_0 rfl (n_s1I c_149_1 rfl rfl rfl rfl (misSlot_2 (s := s) hS (by omega)) ?_)
  intro z1 M2 hP3
  obtain ⟨eM, f3, f3p0⟩ := hP3
  subst eM
  refine n_if0_eq c_149_4 (by omega) ?_ ?_
  · intro h4
    refine n_fg (le_n (le_n (le_n (le_n (le_n (le_n (le_n (le_n (le_n (le_n (le_n (le_n le_0)))))))))))) ?_
    exact (mlawL_2_c hS hdm hk hs 12)   (by omega)
  · intro h5
    refine n_iload_n c_149_7 rfl (n_iconst c_149_8 ?_)
    refine n_if2_lt c_149_9 (by omega) (by omega) ?_ ?_
    · intro h6
      refine n_fg (le_n (le_n (le_n (le_n (le_n (le_n (le_n (le_n (le_n (le_n (le_n (le_n le_0)))))))))))) ?_
      exact (mlawL_2_c hS hdm hk hs 12)   (by omega)
    · intro h7
      exfalso; omega

set_option maxHeartbeats 4000000 in
theorem mlawH_2_c {xs : List Int32} {e : Nat} {ac : Int} {M0 M : nM} {k s : Int} (hS : Sf 2 ac M0 M) (hdm : M0 112 0 = 2) (hk : 4 ≤ k ∧ k ≤ 2147483647) (hs : -2147483648 ≤ s ∧ s ≤ 2147483647) : ∀ nn : Nat, (1 < (nn : Int) → nW xs (e + 1) 149 17 [none, none, none, none, none, none, none, none, none, none, none, none] [] M (nPI fun z M1 => M = M1 ∧ (-2147483648 ≤ z ∧ z ≤ 2147483647))) := by
  have hd : (2 : Int) = 2 ∨ (2 : Int) = 3 := by decide
  have hac := hS.2.2.2.2
  intro nn
  induction nn with
  | zero => intros; omega
  | succ nn ih =>
    intro hnn
    refine n_bipush c_149_17 rfl ?_
    exact n_rI c_149_19 rfl ⟨rfl, by omega⟩
set_option maxHeartbeats 4000000 in
theorem mlawH_2 {xs : List Int32} {e : Nat} {ac : Int} {M0 M : nM} {k s : Int} (hS : Sf 2 ac M0 M) (hdm : M0 112 0 = 2) (hk : 4 ≤ k ∧ k ≤ 2147483647) (hs : -2147483648 ≤ s ∧ s ≤ 2147483647) : nW xs (e + 1) 149 0 [some (2, 112), some (0, k), some (0, s), none, none, none, none, none, none, none, none, none] [] M (nPI fun z M1 => M = M1 ∧ (-2147483648 ≤ z ∧ z ≤ 2147483647)) := by
  have hd : (2 : Int) = 2 ∨ (2 : Int) = 3 := by decide
  have hac := hS.2.2.2.2
  refine n_iload_n c_149_0 rfl (n_s1I c_149_1 rfl rfl rfl rfl (misSlot_2 (s := s) hS (by omega)) ?_)
  intro z1 M2 hP3
  obtain ⟨eM, f3, f3p0⟩ := hP3
  subst eM
  refine n_if0_eq c_149_4 (by omega) ?_ ?_
  · intro h4
    refine n_fg (le_n (le_n (le_n (le_n (le_n (le_n (le_n (le_n (le_n (le_n (le_n (le_n le_0)))))))))))) ?_
    exact (mlawH_2_c hS hdm hk hs 12)   (by omega)
  · intro h5
    refine n_iload_n c_149_7 rfl (n_iconst c_149_8 ?_)
    refine n_if2_lt c_149_9 (by omega) (by omega) ?_ ?_
    · intro h6
      exfalso; omega
    · intro h7
      refine n_iload_n c_149_12 rfl (n_iconst c_149_13 ?_)
      refine n_if2_le c_149_14 (by omega) (by omega) ?_ ?_
      · intro h8
        exfalso; omega
      · intro h9
        refine n_fg (le_n (le_n (le_n (le_n (le_n (le_n (le_n (le_n (le_n (le_n (le_n (le_n le_0)))))))))))) ?_
        exact (mlawH_2_c hS hdm hk hs 12)   (by omega)

set_option maxHeartbeats 4000000 in
theorem misUnknownX_2_c {xs : List Int32} {e : Nat} {ac : Int} {M0 M : nM} {u : Int} (hS : Sf 2 ac M0 M) (hdm : M0 112 0 = 2) (hu : -2147483648 ≤ u ∧ u ≤ 2147483647) : ∀ nn : Nat, (1 < (nn : Int) → nW xs e 188 16 [none, none] [] M (nPI fun z M1 => M = M1 ∧ (0 ≤ z ∧ z ≤ 1) ∧ (z = 0 ∨ (0 ≤ u ∧ u < M 112 10)))) := by
  have hd : (2 : Int) = 2 ∨ (2 : Int) = 3 := by decide
  have hac := hS.2.2.2.2
  intro nn
  induction nn with
  | zero => intros; omega
  | succ nn ih =>
    intro hnn
    refine n_iconst c_188_16 ?_
    exact n_rZ c_188_17 rfl (by omega) ⟨rfl, by omega, by omega⟩
set_option maxHeartbeats 4000000 in
theorem misUnknownX_2 {xs : List Int32} {e : Nat} {ac : Int} {M0 M : nM} {u : Int} (hS : Sf 2 ac M0 M) (hdm : M0 112 0 = 2) (hu : -2147483648 ≤ u ∧ u ≤ 2147483647) : nW xs e 188 0 [some (2, 112), some (0, u)] [] M (nPI fun z M1 => M = M1 ∧ (0 ≤ z ∧ z ≤ 1) ∧ (z = 0 ∨ (0 ≤ u ∧ u < M 112 10))) := by
  have hd : (2 : Int) = 2 ∨ (2 : Int) = 3 := by decide
  have hac := hS.2.2.2.2
  refine n_iload_n c_188_0 rfl ?_
  refine n_if0_lt c_188_1 (by omega) ?_ ?_
  · intro h1
    refine n_fg (le_n (le_n le_0)) ?_
    exact (misUnknownX_2_c hS hdm hu 12)   (by omega)
  · intro h2
    refine n_iload_n c_188_4 rfl (n_aload_n c_188_5 rfl (n_getV (bi := 10) c_188_6 sc_112.n rfl rfl rfl (t_112_10 hS) ?_))
    intro z3 ez3 f4
    refine n_if2_ge c_188_9 (by omega) (by omega) ?_ ?_
    · intro h5
      refine n_fg (le_n (le_n le_0)) ?_
      exact (misUnknownX_2_c hS hdm hu 12)   (by omega)
    · intro h6
      refine n_iconst c_188_12 (n_goto c_188_13 ?_)
      exact n_rZ c_188_17 rfl (by omega) ⟨rfl, by omega, by omega⟩

set_option maxHeartbeats 4000000 in
theorem mask_2 {xs : List Int32} {e : Nat} {ac : Int} {M : nM} {l x y w gd : Int} (hS : Sf 2 ac M M) (hdm : M 112 0 = 2) (hl : -2147483648 ≤ l ∧ l ≤ 2147483647) (hx : -2147483648 ≤ x ∧ x ≤ 2147483647) (hy : -2147483648 ≤ y ∧ y ≤ 2147483647) (hw : -2147483648 ≤ w ∧ w ≤ 2147483647) (hgd : M 112 0 = gd) : nW xs (e + 1) 189 0 [some (2, 112), some (0, l), some (0, x), some (0, y), some (0, w)] [] M (nPI fun z M1 => Sf 2 ac M1 M1 ∧ (-2147483648 ≤ z ∧ z ≤ 2147483647) ∧ (M1 112 0 = gd)) := by
  have hd : (2 : Int) = 2 ∨ (2 : Int) = 3 := by decide
  have hac := hS.2.2.2.2
  refine n_iload_n c_189_0 rfl ?_
  refine n_if0_lt c_189_1 (by omega) ?_ ?_
  · intro h1
    refine n_bipush c_189_57 rfl ?_
    exact n_rI c_189_59 rfl ⟨hS, by omega, by omega⟩
  · intro h2
    refine n_iload_n c_189_4 rfl (n_aload_n c_189_5 rfl (n_getV (bi := 7) c_189_6 sc_112.n rfl rfl rfl (t_112_7 hS) ?_))
    intro z3 ez3 f4
    refine n_if2_ge c_189_9 (by omega) (by omega) ?_ ?_
    · intro h5
      refine n_bipush c_189_57 rfl ?_
      exact n_rI c_189_59 rfl ⟨hS, by omega, by omega⟩
    · intro h6
      refine n_aload_n c_189_12 rfl (n_iload_n c_189_13 rfl (n_v1I c_189_14 rfl sc_112.n rfl rfl rfl rfl (misUnknownX_2 (u := x) hS (by omega) (by omega)) ?_))
      intro z7 M8 hP9
      obtain ⟨eM, f9, f9p0⟩ := hP9
      subst eM
      refine n_if0_eq c_189_17 (by omega) ?_ ?_
      · intro h10
        refine n_bipush c_189_57 rfl ?_
        exact n_rI c_189_59 rfl ⟨hS, by omega, by omega⟩
      · intro h11
        refine n_aload_n c_189_20 rfl (n_getR c_189_21 sc_112.n rfl rfl rfl r_112_8 (n_iload_n c_189_24 rfl (n_ialoadV c_189_25 sc_118.n rfl rfl rfl (by omega) (t_118 hS (by omega)) ?_)))
        intro z12 ez12 f13
        refine n_iconst c_189_26 ?_
        refine n_if2_le c_189_27 (by omega) (by omega) ?_ ?_
        · intro h14
          refine n_aload_n c_189_38 rfl (n_getR c_189_39 sc_112.n rfl rfl rfl r_112_8 (n_iload_n c_189_42 rfl (n_ialoadV c_189_43 sc_118.n rfl rfl rfl (by omega) (t_118 hS (by omega)) ?_)))
          intro z15 ez15 f16
          refine n_iconst c_189_44 ?_
          refine n_if2_le c_189_45 (by omega) (by omega) ?_ ?_
          · intro h17
            refine n_aload_n c_189_60 rfl (n_getV (bi := 11) c_189_61 sc_112.n rfl rfl rfl (t_112_11 hS) ?_)
            intro z18 ez18 f19
            refine n_bipush c_189_64 rfl ?_
            refine n_if2_ne c_189_66 (by omega) (by omega) ?_ ?_
            · intro h20
              refine n_aload_n c_189_72 rfl (n_getR c_189_73 sc_112.n rfl rfl rfl r_112_12 (n_aload_n c_189_76 rfl (n_getV (bi := 11) c_189_77 sc_112.n rfl rfl rfl (t_112_11 hS) ?_)))
              intro z21 ez21 f22
              obtain rfl : z18 = z21 := by omega
              refine n_iload_n c_189_80 rfl (n_iastoreG c_189_81 sc_120.n rfl (by omega) (hS.w120 (by omega) (by omega)) ?_)
              intro M23 eM23 hS23
              have g23_0 : M23 112 0 = M 112 0 := by rw [eM23]; exact nu_a (by omega)
              have g23_1 : M23 112 11 = M 112 11 := by rw [eM23]; exact nu_a (by omega)
              have g23_2 : M23 112 7 = M 112 7 := by rw [eM23]; exact nu_a (by omega)
              have g23_3 : M23 112 10 = M 112 10 := by rw [eM23]; exact nu_a (by omega)
              have g23_4 : M23 118 l = M 118 l := by rw [eM23]; exact nu_a (by omega)
              have g23_5 : M23 120 z18 = l := by rw [eM23]; exact nu_s _ _ _ _
              refine n_aload_n c_189_82 rfl (n_getR c_189_83 sc_112.n rfl rfl rfl r_112_13 (n_iconst c_189_86 (n_aload_n c_189_87 rfl (n_getV (bi := 11) c_189_88 sc_112.n rfl rfl rfl (t_112_11 hS23) ?_))))
              intro z24 ez24 f25
              obtain rfl : z18 = z24 := by omega
              refine n_imul c_189_91 rfl (n_iload_n c_189_92 rfl (n_iastoreG c_189_93 sc_121.n rfl (by omega) (hS23.w121 (by omega) (by omega)) ?_))
              intro M26 eM26 hS26
              have g26_0 : M26 112 0 = M23 112 0 := by rw [eM26]; exact nu_a (by omega)
              have g26_1 : M26 112 11 = M23 112 11 := by rw [eM26]; exact nu_a (by omega)
              have g26_2 : M26 112 7 = M23 112 7 := by rw [eM26]; exact nu_a (by omega)
              have g26_3 : M26 112 10 = M23 112 10 := by rw [eM26]; exact nu_a (by omega)
              have g26_4 : M26 118 l = M23 118 l := by rw [eM26]; exact nu_a (by omega)
              have g26_5 : M26 120 z18 = M23 120 z18 := by rw [eM26]; exact nu_a (by omega)
              have g26_6 : M26 121 (3 * z18) = x := by rw [eM26]; exact nu_s _ _ _ _
              refine n_aload_n c_189_94 rfl (n_getR c_189_95 sc_112.n rfl rfl rfl r_112_13 (n_iconst c_189_98 (n_aload_n c_189_99 rfl (n_getV (bi := 11) c_189_100 sc_112.n rfl rfl rfl (t_112_11 hS26) ?_))))
              intro z27 ez27 f28
              obtain rfl : z18 = z27 := by omega
              refine n_imul c_189_103 rfl (n_iconst c_189_104 (n_iadd c_189_105 rfl (n_iload_n c_189_106 rfl (n_iastoreG c_189_107 sc_121.n rfl (by omega) (hS26.w121 (by omega) (by omega)) ?_))))
              intro M29 eM29 hS29
              have g29_0 : M29 112 0 = M26 112 0 := by rw [eM29]; exact nu_a (by omega)
              have g29_1 : M29 112 11 = M26 112 11 := by rw [eM29]; exact nu_a (by omega)
              have g29_2 : M29 112 7 = M26 112 7 := by rw [eM29]; exact nu_a (by omega)
              have g29_3 : M29 112 10 = M26 112 10 := by rw [eM29]; exact nu_a (by omega)
              have g29_4 : M29 118 l = M26 118 l := by rw [eM29]; exact nu_a (by omega)
              have g29_5 : M29 120 z18 = M26 120 z18 := by rw [eM29]; exact nu_a (by omega)
              have g29_6 : M29 121 (3 * z18) = M26 121 (3 * z18) := by rw [eM29]; exact nu_i (by omega)
              have g29_7 : M29 121 ((3 * z18) + 1) = y := by rw [eM29]; exact nu_s _ _ _ _
              refine n_aload_n c_189_108 rfl (n_getR c_189_109 sc_112.n rfl rfl rfl r_112_13 (n_iconst c_189_112 (n_aload_n c_189_113 rfl (n_getV (bi := 11) c_189_114 sc_112.n rfl rfl rfl (t_112_11 hS29) ?_))))
              intro z30 ez30 f31
              obtain rfl : z18 = z30 := by omega
              refine n_imul c_189_117 rfl (n_iconst c_189_118 (n_iadd c_189_119 rfl (n_iload c_189_120 rfl (n_iastoreG c_189_122 sc_121.n rfl (by omega) (hS29.w121 (by omega) (by omega)) ?_))))
              intro M32 eM32 hS32
              have g32_0 : M32 112 0 = M29 112 0 := by rw [eM32]; exact nu_a (by omega)
              have g32_1 : M32 112 11 = M29 112 11 := by rw [eM32]; exact nu_a (by omega)
              have g32_2 : M32 112 7 = M29 112 7 := by rw [eM32]; exact nu_a (by omega)
              have g32_3 : M32 112 10 = M29 112 10 := by rw [eM32]; exact nu_a (by omega)
              have g32_4 : M32 118 l = M29 118 l := by rw [eM32]; exact nu_a (by omega)
              have g32_5 : M32 120 z18 = M29 120 z18 := by rw [eM32]; exact nu_a (by omega)
              have g32_6 : M32 121 (3 * z18) = M29 121 (3 * z18) := by rw [eM32]; exact nu_i (by omega)
              have g32_7 : M32 121 ((3 * z18) + 1) = M29 121 ((3 * z18) + 1) := by rw [eM32]; exact nu_i (by omega)
              have g32_8 : M32 121 ((3 * z18) + 2) = w := by rw [eM32]; exact nu_s _ _ _ _
              refine n_aload_n c_189_123 rfl (n_dup2 c_189_124 (n_getV (bi := 11) c_189_125 sc_112.n rfl rfl rfl (t_112_11 hS32) ?_))
              intro z33 ez33 f34
              obtain rfl : z18 = z33 := by omega
              refine n_iconst c_189_128 (n_iadd c_189_129 rfl ?_)
              refine n_putG (P := fun M2 => Sf 2 ac M2 M2) (bi := 11) c_189_130 sc_112.n rfl rfl rfl rfl (hS32.w112_11 (q := z18) (l := l) (by omega) (by omega) (by omega) (by omega) (fun j b1 b2 => by
                have t118 := t_118 hS32 (i := l) (by omega)
                rcases (show j = 0 ∨ j = 1 ∨ j = 2 by omega) with rfl | rfl | rfl
                · rw [show 3 * z18 + 0 = 3 * z18 by omega]; omega
                · omega
                · omega)) ?_
              intro M35 eM35 hS35
              have hgz : M35 112 0 = M32 112 0 := by rw [eM35]; exact nu_i (by omega)
              refine n_aload_n c_189_133 rfl (n_getV (bi := 11) c_189_134 sc_112.n rfl rfl rfl (t_112_11 hS35) ?_)
              intro z36 ez36 f37
              refine n_iconst c_189_137 (n_isub c_189_138 rfl ?_)
              exact n_rI c_189_139 rfl ⟨hS35, by omega, by omega⟩
            · intro h38
              refine n_bipush c_189_69 rfl ?_
              exact n_rI c_189_71 rfl ⟨hS, by omega, by omega⟩
          · intro h39
            exfalso; omega
        · intro h40
          refine n_aload_n c_189_30 rfl (n_iload_n c_189_31 rfl (n_v1I c_189_32 rfl sc_112.n rfl rfl rfl rfl (misUnknownX_2 (u := y) hS (by omega) (by omega)) ?_))
          intro z41 M42 hP43
          obtain ⟨eM, f43, f43p0⟩ := hP43
          subst eM
          refine n_if0_eq c_189_35 (by omega) ?_ ?_
          · intro h44
            refine n_bipush c_189_57 rfl ?_
            exact n_rI c_189_59 rfl ⟨hS, by omega, by omega⟩
          · intro h45
            refine n_aload_n c_189_38 rfl (n_getR c_189_39 sc_112.n rfl rfl rfl r_112_8 (n_iload_n c_189_42 rfl (n_ialoadV c_189_43 sc_118.n rfl rfl rfl (by omega) (t_118 hS (by omega)) ?_)))
            intro z46 ez46 f47
            refine n_iconst c_189_44 ?_
            refine n_if2_le c_189_45 (by omega) (by omega) ?_ ?_
            · intro h48
              refine n_aload_n c_189_60 rfl (n_getV (bi := 11) c_189_61 sc_112.n rfl rfl rfl (t_112_11 hS) ?_)
              intro z49 ez49 f50
              refine n_bipush c_189_64 rfl ?_
              refine n_if2_ne c_189_66 (by omega) (by omega) ?_ ?_
              · intro h51
                refine n_aload_n c_189_72 rfl (n_getR c_189_73 sc_112.n rfl rfl rfl r_112_12 (n_aload_n c_189_76 rfl (n_getV (bi := 11) c_189_77 sc_112.n rfl rfl rfl (t_112_11 hS) ?_)))
                intro z52 ez52 f53
                obtain rfl : z49 = z52 := by omega
                refine n_iload_n c_189_80 rfl (n_iastoreG c_189_81 sc_120.n rfl (by omega) (hS.w120 (by omega) (by omega)) ?_)
                intro M54 eM54 hS54
                have g54_0 : M54 112 0 = M 112 0 := by rw [eM54]; exact nu_a (by omega)
                have g54_1 : M54 112 11 = M 112 11 := by rw [eM54]; exact nu_a (by omega)
                have g54_2 : M54 112 7 = M 112 7 := by rw [eM54]; exact nu_a (by omega)
                have g54_3 : M54 112 10 = M 112 10 := by rw [eM54]; exact nu_a (by omega)
                have g54_4 : M54 118 l = M 118 l := by rw [eM54]; exact nu_a (by omega)
                have g54_5 : M54 120 z49 = l := by rw [eM54]; exact nu_s _ _ _ _
                refine n_aload_n c_189_82 rfl (n_getR c_189_83 sc_112.n rfl rfl rfl r_112_13 (n_iconst c_189_86 (n_aload_n c_189_87 rfl (n_getV (bi := 11) c_189_88 sc_112.n rfl rfl rfl (t_112_11 hS54) ?_))))
                intro z55 ez55 f56
                obtain rfl : z49 = z55 := by omega
                refine n_imul c_189_91 rfl (n_iload_n c_189_92 rfl (n_iastoreG c_189_93 sc_121.n rfl (by omega) (hS54.w121 (by omega) (by omega)) ?_))
                intro M57 eM57 hS57
                have g57_0 : M57 112 0 = M54 112 0 := by rw [eM57]; exact nu_a (by omega)
                have g57_1 : M57 112 11 = M54 112 11 := by rw [eM57]; exact nu_a (by omega)
                have g57_2 : M57 112 7 = M54 112 7 := by rw [eM57]; exact nu_a (by omega)
                have g57_3 : M57 112 10 = M54 112 10 := by rw [eM57]; exact nu_a (by omega)
                have g57_4 : M57 118 l = M54 118 l := by rw [eM57]; exact nu_a (by omega)
                have g57_5 : M57 120 z49 = M54 120 z49 := by rw [eM57]; exact nu_a (by omega)
                have g57_6 : M57 121 (3 * z49) = x := by rw [eM57]; exact nu_s _ _ _ _
                refine n_aload_n c_189_94 rfl (n_getR c_189_95 sc_112.n rfl rfl rfl r_112_13 (n_iconst c_189_98 (n_aload_n c_189_99 rfl (n_getV (bi := 11) c_189_100 sc_112.n rfl rfl rfl (t_112_11 hS57) ?_))))
                intro z58 ez58 f59
                obtain rfl : z49 = z58 := by omega
                refine n_imul c_189_103 rfl (n_iconst c_189_104 (n_iadd c_189_105 rfl (n_iload_n c_189_106 rfl (n_iastoreG c_189_107 sc_121.n rfl (by omega) (hS57.w121 (by omega) (by omega)) ?_))))
                intro M60 eM60 hS60
                have g60_0 : M60 112 0 = M57 112 0 := by rw [eM60]; exact nu_a (by omega)
                have g60_1 : M60 112 11 = M57 112 11 := by rw [eM60]; exact nu_a (by omega)
                have g60_2 : M60 112 7 = M57 112 7 := by rw [eM60]; exact nu_a (by omega)
                have g60_3 : M60 112 10 = M57 112 10 := by rw [eM60]; exact nu_a (by omega)
                have g60_4 : M60 118 l = M57 118 l := by rw [eM60]; exact nu_a (by omega)
                have g60_5 : M60 120 z49 = M57 120 z49 := by rw [eM60]; exact nu_a (by omega)
                have g60_6 : M60 121 (3 * z49) = M57 121 (3 * z49) := by rw [eM60]; exact nu_i (by omega)
                have g60_7 : M60 121 ((3 * z49) + 1) = y := by rw [eM60]; exact nu_s _ _ _ _
                refine n_aload_n c_189_108 rfl (n_getR c_189_109 sc_112.n rfl rfl rfl r_112_13 (n_iconst c_189_112 (n_aload_n c_189_113 rfl (n_getV (bi := 11) c_189_114 sc_112.n rfl rfl rfl (t_112_11 hS60) ?_))))
                intro z61 ez61 f62
                obtain rfl : z49 = z61 := by omega
                refine n_imul c_189_117 rfl (n_iconst c_189_118 (n_iadd c_189_119 rfl (n_iload c_189_120 rfl (n_iastoreG c_189_122 sc_121.n rfl (by omega) (hS60.w121 (by omega) (by omega)) ?_))))
                intro M63 eM63 hS63
                have g63_0 : M63 112 0 = M60 112 0 := by rw [eM63]; exact nu_a (by omega)
                have g63_1 : M63 112 11 = M60 112 11 := by rw [eM63]; exact nu_a (by omega)
                have g63_2 : M63 112 7 = M60 112 7 := by rw [eM63]; exact nu_a (by omega)
                have g63_3 : M63 112 10 = M60 112 10 := by rw [eM63]; exact nu_a (by omega)
                have g63_4 : M63 118 l = M60 118 l := by rw [eM63]; exact nu_a (by omega)
                have g63_5 : M63 120 z49 = M60 120 z49 := by rw [eM63]; exact nu_a (by omega)
                have g63_6 : M63 121 (3 * z49) = M60 121 (3 * z49) := by rw [eM63]; exact nu_i (by omega)
                have g63_7 : M63 121 ((3 * z49) + 1) = M60 121 ((3 * z49) + 1) := by rw [eM63]; exact nu_i (by omega)
                have g63_8 : M63 121 ((3 * z49) + 2) = w := by rw [eM63]; exact nu_s _ _ _ _
                refine n_aload_n c_189_123 rfl (n_dup2 c_189_124 (n_getV (bi := 11) c_189_125 sc_112.n rfl rfl rfl (t_112_11 hS63) ?_))
                intro z64 ez64 f65
                obtain rfl : z49 = z64 := by omega
                refine n_iconst c_189_128 (n_iadd c_189_129 rfl ?_)
                refine n_putG (P := fun M2 => Sf 2 ac M2 M2) (bi := 11) c_189_130 sc_112.n rfl rfl rfl rfl (hS63.w112_11 (q := z49) (l := l) (by omega) (by omega) (by omega) (by omega) (fun j b1 b2 => by
                  have t118 := t_118 hS63 (i := l) (by omega)
                  rcases (show j = 0 ∨ j = 1 ∨ j = 2 by omega) with rfl | rfl | rfl
                  · rw [show 3 * z49 + 0 = 3 * z49 by omega]; omega
                  · omega
                  · omega)) ?_
                intro M66 eM66 hS66
                have hgz : M66 112 0 = M63 112 0 := by rw [eM66]; exact nu_i (by omega)
                refine n_aload_n c_189_133 rfl (n_getV (bi := 11) c_189_134 sc_112.n rfl rfl rfl (t_112_11 hS66) ?_)
                intro z67 ez67 f68
                refine n_iconst c_189_137 (n_isub c_189_138 rfl ?_)
                exact n_rI c_189_139 rfl ⟨hS66, by omega, by omega⟩
              · intro h69
                refine n_bipush c_189_69 rfl ?_
                exact n_rI c_189_71 rfl ⟨hS, by omega, by omega⟩
            · intro h70
              refine n_aload_n c_189_48 rfl (n_iload c_189_49 rfl (n_v1I c_189_51 rfl sc_112.n rfl rfl rfl rfl (misUnknownX_2 (u := w) hS (by omega) (by omega)) ?_))
              intro z71 M72 hP73
              obtain ⟨eM, f73, f73p0⟩ := hP73
              subst eM
              refine n_if0_ne c_189_54 (by omega) ?_ ?_
              · intro h74
                refine n_aload_n c_189_60 rfl (n_getV (bi := 11) c_189_61 sc_112.n rfl rfl rfl (t_112_11 hS) ?_)
                intro z75 ez75 f76
                refine n_bipush c_189_64 rfl ?_
                refine n_if2_ne c_189_66 (by omega) (by omega) ?_ ?_
                · intro h77
                  refine n_aload_n c_189_72 rfl (n_getR c_189_73 sc_112.n rfl rfl rfl r_112_12 (n_aload_n c_189_76 rfl (n_getV (bi := 11) c_189_77 sc_112.n rfl rfl rfl (t_112_11 hS) ?_)))
                  intro z78 ez78 f79
                  obtain rfl : z75 = z78 := by omega
                  refine n_iload_n c_189_80 rfl (n_iastoreG c_189_81 sc_120.n rfl (by omega) (hS.w120 (by omega) (by omega)) ?_)
                  intro M80 eM80 hS80
                  have g80_0 : M80 112 0 = M 112 0 := by rw [eM80]; exact nu_a (by omega)
                  have g80_1 : M80 112 11 = M 112 11 := by rw [eM80]; exact nu_a (by omega)
                  have g80_2 : M80 112 7 = M 112 7 := by rw [eM80]; exact nu_a (by omega)
                  have g80_3 : M80 112 10 = M 112 10 := by rw [eM80]; exact nu_a (by omega)
                  have g80_4 : M80 118 l = M 118 l := by rw [eM80]; exact nu_a (by omega)
                  have g80_5 : M80 120 z75 = l := by rw [eM80]; exact nu_s _ _ _ _
                  refine n_aload_n c_189_82 rfl (n_getR c_189_83 sc_112.n rfl rfl rfl r_112_13 (n_iconst c_189_86 (n_aload_n c_189_87 rfl (n_getV (bi := 11) c_189_88 sc_112.n rfl rfl rfl (t_112_11 hS80) ?_))))
                  intro z81 ez81 f82
                  obtain rfl : z75 = z81 := by omega
                  refine n_imul c_189_91 rfl (n_iload_n c_189_92 rfl (n_iastoreG c_189_93 sc_121.n rfl (by omega) (hS80.w121 (by omega) (by omega)) ?_))
                  intro M83 eM83 hS83
                  have g83_0 : M83 112 0 = M80 112 0 := by rw [eM83]; exact nu_a (by omega)
                  have g83_1 : M83 112 11 = M80 112 11 := by rw [eM83]; exact nu_a (by omega)
                  have g83_2 : M83 112 7 = M80 112 7 := by rw [eM83]; exact nu_a (by omega)
                  have g83_3 : M83 112 10 = M80 112 10 := by rw [eM83]; exact nu_a (by omega)
                  have g83_4 : M83 118 l = M80 118 l := by rw [eM83]; exact nu_a (by omega)
                  have g83_5 : M83 120 z75 = M80 120 z75 := by rw [eM83]; exact nu_a (by omega)
                  have g83_6 : M83 121 (3 * z75) = x := by rw [eM83]; exact nu_s _ _ _ _
                  refine n_aload_n c_189_94 rfl (n_getR c_189_95 sc_112.n rfl rfl rfl r_112_13 (n_iconst c_189_98 (n_aload_n c_189_99 rfl (n_getV (bi := 11) c_189_100 sc_112.n rfl rfl rfl (t_112_11 hS83) ?_))))
                  intro z84 ez84 f85
                  obtain rfl : z75 = z84 := by omega
                  refine n_imul c_189_103 rfl (n_iconst c_189_104 (n_iadd c_189_105 rfl (n_iload_n c_189_106 rfl (n_iastoreG c_189_107 sc_121.n rfl (by omega) (hS83.w121 (by omega) (by omega)) ?_))))
                  intro M86 eM86 hS86
                  have g86_0 : M86 112 0 = M83 112 0 := by rw [eM86]; exact nu_a (by omega)
                  have g86_1 : M86 112 11 = M83 112 11 := by rw [eM86]; exact nu_a (by omega)
                  have g86_2 : M86 112 7 = M83 112 7 := by rw [eM86]; exact nu_a (by omega)
                  have g86_3 : M86 112 10 = M83 112 10 := by rw [eM86]; exact nu_a (by omega)
                  have g86_4 : M86 118 l = M83 118 l := by rw [eM86]; exact nu_a (by omega)
                  have g86_5 : M86 120 z75 = M83 120 z75 := by rw [eM86]; exact nu_a (by omega)
                  have g86_6 : M86 121 (3 * z75) = M83 121 (3 * z75) := by rw [eM86]; exact nu_i (by omega)
                  have g86_7 : M86 121 ((3 * z75) + 1) = y := by rw [eM86]; exact nu_s _ _ _ _
                  refine n_aload_n c_189_108 rfl (n_getR c_189_109 sc_112.n rfl rfl rfl r_112_13 (n_iconst c_189_112 (n_aload_n c_189_113 rfl (n_getV (bi := 11) c_189_114 sc_112.n rfl rfl rfl (t_112_11 hS86) ?_))))
                  intro z87 ez87 f88
                  obtain rfl : z75 = z87 := by omega
                  refine n_imul c_189_117 rfl (n_iconst c_189_118 (n_iadd c_189_119 rfl (n_iload c_189_120 rfl (n_iastoreG c_189_122 sc_121.n rfl (by omega) (hS86.w121 (by omega) (by omega)) ?_))))
                  intro M89 eM89 hS89
                  have g89_0 : M89 112 0 = M86 112 0 := by rw [eM89]; exact nu_a (by omega)
                  have g89_1 : M89 112 11 = M86 112 11 := by rw [eM89]; exact nu_a (by omega)
                  have g89_2 : M89 112 7 = M86 112 7 := by rw [eM89]; exact nu_a (by omega)
                  have g89_3 : M89 112 10 = M86 112 10 := by rw [eM89]; exact nu_a (by omega)
                  have g89_4 : M89 118 l = M86 118 l := by rw [eM89]; exact nu_a (by omega)
                  have g89_5 : M89 120 z75 = M86 120 z75 := by rw [eM89]; exact nu_a (by omega)
                  have g89_6 : M89 121 (3 * z75) = M86 121 (3 * z75) := by rw [eM89]; exact nu_i (by omega)
                  have g89_7 : M89 121 ((3 * z75) + 1) = M86 121 ((3 * z75) + 1) := by rw [eM89]; exact nu_i (by omega)
                  have g89_8 : M89 121 ((3 * z75) + 2) = w := by rw [eM89]; exact nu_s _ _ _ _
                  refine n_aload_n c_189_123 rfl (n_dup2 c_189_124 (n_getV (bi := 11) c_189_125 sc_112.n rfl rfl rfl (t_112_11 hS89) ?_))
                  intro z90 ez90 f91
                  obtain rfl : z75 = z90 := by omega
                  refine n_iconst c_189_128 (n_iadd c_189_129 rfl ?_)
                  refine n_putG (P := fun M2 => Sf 2 ac M2 M2) (bi := 11) c_189_130 sc_112.n rfl rfl rfl rfl (hS89.w112_11 (q := z75) (l := l) (by omega) (by omega) (by omega) (by omega) (fun j b1 b2 => by
                    have t118 := t_118 hS89 (i := l) (by omega)
                    rcases (show j = 0 ∨ j = 1 ∨ j = 2 by omega) with rfl | rfl | rfl
                    · rw [show 3 * z75 + 0 = 3 * z75 by omega]; omega
                    · omega
                    · omega)) ?_
                  intro M92 eM92 hS92
                  have hgz : M92 112 0 = M89 112 0 := by rw [eM92]; exact nu_i (by omega)
                  refine n_aload_n c_189_133 rfl (n_getV (bi := 11) c_189_134 sc_112.n rfl rfl rfl (t_112_11 hS92) ?_)
                  intro z93 ez93 f94
                  refine n_iconst c_189_137 (n_isub c_189_138 rfl ?_)
                  exact n_rI c_189_139 rfl ⟨hS92, by omega, by omega⟩
                · intro h95
                  refine n_bipush c_189_69 rfl ?_
                  exact n_rI c_189_71 rfl ⟨hS, by omega, by omega⟩
              · intro h96
                refine n_bipush c_189_57 rfl ?_
                exact n_rI c_189_59 rfl ⟨hS, by omega, by omega⟩
