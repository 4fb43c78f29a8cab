/-! What the methods do to the core. -/
set_option maxHeartbeats 4000000 in
theorem freshX3_3_c {xs : List Int32} {e : Nat} {ac : Int} {M : nM} (hS : Sf 3 ac M M)  : ∀ nn : Nat, (∀ (M : nM), Sf 3 ac M M → 1 < (nn : Int) → nW xs (e + 3) 93 12 [some (2, 3), some (0, 3)] [] M (nPI fun z M1 => Sf 3 0 M1 M1 ∧ (1 ≤ z ∧ z ≤ 1) ∧ (M1 112 0 = M 112 0) ∧ (cFre M M1))) := by
  have hd : (3 : Int) = 2 ∨ (3 : Int) = 3 := by decide
  have hac := hS.2.2.2.2
  intro nn
  induction nn with
  | zero => intros; omega
  | succ nn ih =>
    intro M hS hnn
    refine n_aload_n c_93_12 rfl ?_
    refine n_iload_n c_93_13 rfl ?_
    refine n_v1V c_93_14 rfl sc_3.n rfl rfl rfl rfl (startOverX3_3  hS ) ?_
    intro  M1 hP2
    obtain ⟨hS1, f2p0, f2p1⟩ := hP2
    refine n_iconst c_93_17 ?_
    exact n_rZ c_93_18 rfl (by omega) ⟨hS1, by omega, by omega, by exact f2p1⟩
set_option maxHeartbeats 4000000 in
theorem freshX3_3 {xs : List Int32} {e : Nat} {ac : Int} {M : nM} (hS : Sf 3 ac M M)  : nW xs (e + 3) 93 0 [some (2, 3), some (0, 3)] [] M (nPI fun z M1 => Sf 3 0 M1 M1 ∧ (1 ≤ z ∧ z ≤ 1) ∧ (M1 112 0 = M 112 0) ∧ (cFre M M1)) := by
  have hd : (3 : Int) = 2 ∨ (3 : Int) = 3 := by decide
  have hac := hS.2.2.2.2
  refine n_iload_n c_93_0 rfl ?_
  refine n_iconst c_93_1 ?_
  refine n_if2_eq c_93_2 (by omega) (by omega) ?_ ?_
  · intro h1
    exfalso; omega
  · intro h2
    refine n_iload_n c_93_5 rfl ?_
    refine n_iconst c_93_6 ?_
    refine n_if2_eq c_93_7 (by omega) (by omega) ?_ ?_
    · intro h3
      refine n_fg (le_s (le_s le_0)) ?_
      exact (freshX3_3_c hS  12)  M hS  (by omega)
    · intro h4
      exfalso; omega

set_option maxHeartbeats 4000000 in
theorem mfreshX_3 {xs : List Int32} {e : Nat} {ac : Int} {M : nM} (hS : Sf 3 ac M M)  : nW xs (e + 1) 142 0 [some (2, 112), some (0, 3)] [] M (nPI fun z M1 => Sf 3 ac M1 M1 ∧ (1 ≤ z ∧ z ≤ 1) ∧ (M1 112 0 = 3) ∧ (mFre M M1)) := by
  have hd : (3 : Int) = 2 ∨ (3 : Int) = 3 := by decide
  have hac := hS.2.2.2.2
  refine n_iload_n c_142_0 rfl ?_
  refine n_iconst c_142_1 ?_
  refine n_if2_lt c_142_2 (by omega) (by omega) ?_ ?_
  · intro h1
    exfalso; omega
  · intro h2
    refine n_iload_n c_142_5 rfl ?_
    refine n_iconst c_142_6 ?_
    refine n_if2_le c_142_7 (by omega) (by omega) ?_ ?_
    · intro h3
      refine n_aload_n c_142_12 rfl ?_
      refine n_iload_n c_142_13 rfl ?_
      refine n_putM (bi := 0) hS c_142_14 sc_112.n rfl rfl rfl rfl (m_112_0 (by omega)) ?_
      intro M4 eM4 hS4
      have g4_0 : M4 112 0 = 3 := by rw [eM4]; exact nu_s _ _ _ _
      refine n_aload_n c_142_17 rfl ?_
      refine n_iconst c_142_18 ?_
      refine n_putM (bi := 4) hS4 c_142_19 sc_112.n rfl rfl rfl rfl (m_112_4 (by omega)) ?_
      intro M5 eM5 hS5
      have g5_0 : M5 112 0 = M4 112 0 := by rw [eM5]; exact nu_i (by omega)
      have g5_1 : M5 112 4 = 0 := by rw [eM5]; exact nu_s _ _ _ _
      refine n_aload_n c_142_22 rfl ?_
      refine n_iconst c_142_23 ?_
      refine n_putG (P := Sq 3 ac) (bi := 7) c_142_24 sc_112.n rfl rfl rfl rfl (hS5.sq.u (by omega) (show (0 : Int) ≤ 0 ∧ 0 ≤ (12 : Int) by omega)) ?_
      intro M6 eM6 hQ6
      have g6_0 : M6 112 0 = M5 112 0 := by rw [eM6]; exact nu_i (by omega)
      have g6_1 : M6 112 4 = M5 112 4 := by rw [eM6]; exact nu_i (by omega)
      have g6_2 : M6 112 7 = 0 := by rw [eM6]; exact nu_s _ _ _ _
      refine n_aload_n c_142_27 rfl ?_
      refine n_iconst c_142_28 ?_
      refine n_putG (P := Sq 3 ac) (bi := 10) c_142_29 sc_112.n rfl rfl rfl rfl (hQ6.u (by omega) (show (1 : Int) ≤ 1 ∧ 1 ≤ (8 : Int) by omega)) ?_
      intro M7 eM7 hQ7
      have g7_0 : M7 112 0 = M6 112 0 := by rw [eM7]; exact nu_i (by omega)
      have g7_1 : M7 112 4 = M6 112 4 := by rw [eM7]; exact nu_i (by omega)
      have g7_2 : M7 112 7 = M6 112 7 := by rw [eM7]; exact nu_i (by omega)
      have g7_3 : M7 112 10 = 1 := by rw [eM7]; exact nu_s _ _ _ _
      refine n_aload_n c_142_32 rfl ?_
      refine n_iconst c_142_33 ?_
      refine n_putG (P := Sq 3 ac) (bi := 11) c_142_34 sc_112.n rfl rfl rfl rfl (hQ7.u (by omega) (show (0 : Int) ≤ 0 ∧ 0 ≤ (30 : Int) by omega)) ?_
      intro M8 eM8 hQ8
      have g8_0 : M8 112 0 = M7 112 0 := by rw [eM8]; exact nu_i (by omega)
      have g8_1 : M8 112 4 = M7 112 4 := by rw [eM8]; exact nu_i (by omega)
      have g8_2 : M8 112 7 = M7 112 7 := by rw [eM8]; exact nu_i (by omega)
      have g8_3 : M8 112 10 = M7 112 10 := by rw [eM8]; exact nu_i (by omega)
      have g8_4 : M8 112 11 = 0 := by rw [eM8]; exact nu_s _ _ _ _
      have hS8 := hQ8.sf (AK.none (by omega))
      refine n_aload_n c_142_37 rfl ?_
      refine n_v0V c_142_38 rfl sc_112.n rfl rfl rfl rfl (changed_3  hS8 (by omega)) ?_
      intro  M9 hP10
      have hS9 := hP10
      have hS9c := hS9.2.2.2.1.1
      have hS9 := hS9.refl
      have hS9k0 := hS9c 112 0 (by unfold core; omega)
      have hS9k1 := hS9c 112 4 (by unfold core; omega)
      have hS9k2 := hS9c 112 7 (by unfold core; omega)
      have hS9k3 := hS9c 112 10 (by unfold core; omega)
      have hS9k4 := hS9c 112 11 (by unfold core; omega)
      refine n_aload_n c_142_41 rfl ?_
      refine n_iconst c_142_42 ?_
      refine n_putM (bi := 20) hS9 c_142_43 sc_112.n rfl rfl rfl rfl (m_112_20 (by omega)) ?_
      intro M11 eM11 hS11
      have g11_0 : M11 112 0 = M9 112 0 := by rw [eM11]; exact nu_i (by omega)
      have g11_1 : M11 112 4 = M9 112 4 := by rw [eM11]; exact nu_i (by omega)
      have g11_2 : M11 112 7 = M9 112 7 := by rw [eM11]; exact nu_i (by omega)
      have g11_3 : M11 112 10 = M9 112 10 := by rw [eM11]; exact nu_i (by omega)
      have g11_4 : M11 112 11 = M9 112 11 := by rw [eM11]; exact nu_i (by omega)
      have g11_5 : M11 112 20 = (-1) := by rw [eM11]; exact nu_s _ _ _ _
      refine n_iconst c_142_46 ?_
      exact n_rZ c_142_47 rfl (by omega) ⟨hS11, by omega, by omega, by exact ⟨by omega, by omega, by omega, by omega, fun a i hc q => by rw [eM11, nu_a q, hS9c a i hc, eM8, nu_a q, eM7, nu_a q, eM6, nu_a q, eM5, nu_a q, eM4, nu_a q]⟩⟩
    · intro h12
      exfalso; omega

set_option maxHeartbeats 4000000 in
theorem isLawF_3 {xs : List Int32} {e : Nat} {ac : Int} {M0 M : nM} {l : Int} (hS : Sf 3 ac M0 M) (hl : -2147483648 ≤ l ∧ l ≤ 2147483647) : nW xs e 126 0 [some (2, 3), some (0, l)] [] M (nPI fun z M1 => M = M1 ∧ (0 ≤ z ∧ z ≤ 1) ∧ ((z = 1 ∧ 0 ≤ l ∧ l < M 3 15 ∧ l ≤ 11) ∨ (z = 0 ∧ (l < 0 ∨ M 3 15 ≤ l)))) := by
  have hd : (3 : Int) = 2 ∨ (3 : Int) = 3 := by decide
  have hac := hS.2.2.2.2
  refine n_iload_n c_126_0 rfl ?_
  refine n_if0_lt c_126_1 (by omega) ?_ ?_
  · intro h1
    refine n_iconst c_126_16 ?_
    exact n_rZ c_126_17 rfl (by omega) ⟨rfl, by omega, by omega⟩
  · intro h2
    refine n_iload_n c_126_4 rfl ?_
    refine n_aload_n c_126_5 rfl ?_
    refine n_getV (bi := 15) c_126_6 sc_3.n rfl rfl rfl (t_3_15 hS) ?_
    intro z3 ez3 f4
    refine n_if2_ge c_126_9 (by omega) (by omega) ?_ ?_
    · intro h5
      refine n_iconst c_126_16 ?_
      exact n_rZ c_126_17 rfl (by omega) ⟨rfl, by omega, by omega⟩
    · intro h6
      refine n_iconst c_126_12 ?_
      refine n_goto c_126_13 ?_
      exact n_rZ c_126_17 rfl (by omega) ⟨rfl, by omega, by omega⟩

set_option maxHeartbeats 4000000 in
theorem isUnknownF_3 {xs : List Int32} {e : Nat} {ac : Int} {M0 M : nM} {u : Int} (hS : Sf 3 ac M0 M) (hu : -2147483648 ≤ u ∧ u ≤ 2147483647) : nW xs e 75 0 [some (2, 32), some (0, u)] [] M (nPI fun z M1 => M = M1 ∧ (0 ≤ z ∧ z ≤ 1) ∧ ((z = 1 ∧ 0 ≤ u ∧ u < M 32 0 ∧ u ≤ 7) ∨ (z = 0 ∧ (u < 0 ∨ M 32 0 ≤ u)))) := by
  have hd : (3 : Int) = 2 ∨ (3 : Int) = 3 := by decide
  have hac := hS.2.2.2.2
  refine n_iload_n c_75_0 rfl ?_
  refine n_if0_lt c_75_1 (by omega) ?_ ?_
  · intro h1
    refine n_iconst c_75_16 ?_
    exact n_rZ c_75_17 rfl (by omega) ⟨rfl, by omega, by omega⟩
  · intro h2
    refine n_iload_n c_75_4 rfl ?_
    refine n_aload_n c_75_5 rfl ?_
    refine n_getV (bi := 0) c_75_6 sc_32.n rfl rfl rfl (t_32_0 hS) ?_
    intro z3 ez3 f4
    refine n_if2_ge c_75_9 (by omega) (by omega) ?_ ?_
    · intro h5
      refine n_iconst c_75_16 ?_
      exact n_rZ c_75_17 rfl (by omega) ⟨rfl, by omega, by omega⟩
    · intro h6
      refine n_iconst c_75_12 ?_
      refine n_goto c_75_13 ?_
      exact n_rZ c_75_17 rfl (by omega) ⟨rfl, by omega, by omega⟩

set_option maxHeartbeats 4000000 in
theorem raddX_3 {xs : List Int32} {e : Nat} {ac : Int} {M : nM} {l x y w gd : Int} (hS : Sf 3 ac M M) (hl : 0 ≤ l ∧ l ≤ 11) (hx : 0 ≤ x ∧ x ≤ 7) (hy : 0 ≤ y ∧ y ≤ 7) (hw : 0 ≤ w ∧ w ≤ 7) (hgd : M 112 0 = gd) (hc : M 32 1 ≤ 29) : nW xs e 76 0 [some (2, 32), some (0, l), some (0, x), some (0, y), some (0, w)] [] M (nPI fun z M1 => Sf 3 ac M1 M1 ∧ (-2147483648 ≤ z ∧ z ≤ 2147483647) ∧ (M1 112 0 = gd) ∧ (z = M 32 1 ∧ M1 32 1 = M 32 1 + 1 ∧ ∀ a i : Int, core a i → ¬ (a = 32 ∧ i = 1) → ¬ (33 ≤ a ∧ a ≤ 36 ∧ i = M 32 1) → M1 a i = M a i)) := by
  have hd : (3 : Int) = 2 ∨ (3 : Int) = 3 := by decide
  have hac := hS.2.2.2.2
  refine n_aload_n c_76_0 rfl ?_
  refine n_getR c_76_1 sc_32.n rfl rfl rfl r_32_2 ?_
  refine n_aload_n c_76_4 rfl ?_
  refine n_getV (bi := 1) c_76_5 sc_32.n rfl rfl rfl (t_32_1 hS) ?_
  intro z1 ez1 f2
  refine n_iload_n c_76_8 rfl ?_
  refine n_iastoreM hS c_76_9 sc_33.n rfl (by omega) (m_33 (by omega) (by omega)) ?_
  intro M3 eM3 hS3
  have g3_0 : M3 112 0 = M 112 0 := by rw [eM3]; exact nu_a (by omega)
  have g3_1 : M3 32 1 = M 32 1 := by rw [eM3]; exact nu_a (by omega)
  refine n_aload_n c_76_10 rfl ?_
  refine n_getR c_76_11 sc_32.n rfl rfl rfl r_32_3 ?_
  refine n_aload_n c_76_14 rfl ?_
  refine n_getV (bi := 1) c_76_15 sc_32.n rfl rfl rfl (t_32_1 hS3) ?_
  intro z4 ez4 f5
  refine n_iload_n c_76_18 rfl ?_
  refine n_iastoreM hS3 c_76_19 sc_34.n rfl (by omega) (m_34 (by omega) (by omega)) ?_
  intro M6 eM6 hS6
  have g6_0 : M6 112 0 = M3 112 0 := by rw [eM6]; exact nu_a (by omega)
  have g6_1 : M6 32 1 = M3 32 1 := by rw [eM6]; exact nu_a (by omega)
  refine n_aload_n c_76_20 rfl ?_
  refine n_getR c_76_21 sc_32.n rfl rfl rfl r_32_4 ?_
  refine n_aload_n c_76_24 rfl ?_
  refine n_getV (bi := 1) c_76_25 sc_32.n rfl rfl rfl (t_32_1 hS6) ?_
  intro z7 ez7 f8
  refine n_iload_n c_76_28 rfl ?_
  refine n_iastoreM hS6 c_76_29 sc_35.n rfl (by omega) (m_35 (by omega) (by omega)) ?_
  intro M9 eM9 hS9
  have g9_0 : M9 112 0 = M6 112 0 := by rw [eM9]; exact nu_a (by omega)
  have g9_1 : M9 32 1 = M6 32 1 := by rw [eM9]; exact nu_a (by omega)
  refine n_aload_n c_76_30 rfl ?_
  refine n_getR c_76_31 sc_32.n rfl rfl rfl r_32_5 ?_
  refine n_aload_n c_76_34 rfl ?_
  refine n_getV (bi := 1) c_76_35 sc_32.n rfl rfl rfl (t_32_1 hS9) ?_
  intro z10 ez10 f11
  refine n_iload c_76_38 rfl ?_
  refine n_iastoreM hS9 c_76_40 sc_36.n rfl (by omega) (m_36 (by omega) (by omega)) ?_
  intro M12 eM12 hS12
  have g12_0 : M12 112 0 = M9 112 0 := by rw [eM12]; exact nu_a (by omega)
  have g12_1 : M12 32 1 = M9 32 1 := by rw [eM12]; exact nu_a (by omega)
  refine n_aload_n c_76_41 rfl ?_
  refine n_dup2 c_76_42 ?_
  refine n_getV (bi := 1) c_76_43 sc_32.n rfl rfl rfl (t_32_1 hS12) ?_
  intro z13 ez13 f14
  refine n_dup_x102 c_76_46 ?_
  refine n_iconst c_76_47 ?_
  refine n_iadd c_76_48 rfl ?_
  refine n_putM (bi := 1) hS12 c_76_49 sc_32.n rfl rfl rfl rfl (m_32_1 (by omega)) ?_
  intro M15 eM15 hS15
  have g15_0 : M15 112 0 = M12 112 0 := by rw [eM15]; exact nu_a (by omega)
  have g15_1 : M15 32 1 = (z13 + 1) := by rw [eM15]; exact nu_s _ _ _ _
  exact n_rI c_76_52 rfl ⟨hS15, by omega, by omega, by exact ⟨by omega, by omega, fun a i hc w1 w2 => by rw [eM15, nu_e, if_neg (by omega), eM12, nu_e, if_neg (by omega), eM9, nu_e, if_neg (by omega), eM6, nu_e, if_neg (by omega), eM3, nu_e, if_neg (by omega)]⟩⟩

set_option maxHeartbeats 4000000 in
theorem askX_3 {xs : List Int32} {e : Nat} {ac : Int} {M : nM} {l x y w gd : Int} (hS : Sf 3 ac M M) (hl : -2147483648 ≤ l ∧ l ≤ 2147483647) (hx : -2147483648 ≤ x ∧ x ≤ 2147483647) (hy : -2147483648 ≤ y ∧ y ≤ 2147483647) (hw : -2147483648 ≤ w ∧ w ≤ 2147483647) (hgd : M 112 0 = gd) : nW xs (e + 1) 116 0 [some (2, 3), some (0, l), some (0, x), some (0, y), some (0, w), none, none, none] [] M (nPI fun z M1 => Sf 3 ac M1 M1 ∧ (-2147483648 ≤ z ∧ z ≤ 2147483647) ∧ (M1 112 0 = gd) ∧ (cAsk l x y w z M M1)) := by
  have hd : (3 : Int) = 2 ∨ (3 : Int) = 3 := by decide
  have hac := hS.2.2.2.2
  refine n_aload_n c_116_0 rfl ?_
  refine n_iload_n c_116_1 rfl ?_
  refine n_v1I c_116_2 rfl sc_3.n rfl rfl rfl rfl (isLawF_3 (l := l) hS (by omega)) ?_
  intro z1 M2 hP3
  obtain ⟨eM, f3, f3p0⟩ := hP3
  subst eM
  refine n_if0_ne c_116_5 (by omega) ?_ ?_
  · intro h4
    refine n_aload_n c_116_11 rfl ?_
    refine n_getR c_116_12 sc_3.n rfl rfl rfl r_3_3 ?_
    refine n_iload_n c_116_15 rfl ?_
    refine n_aaload c_116_16 sc_13.n rfl rfl rfl (by omega) (r_laws _) ?_
    have q5 : LawAt (79 + 2 * l) := by unfold LawAt; omega
    refine n_getV (bi := 0) c_116_17 q5.c0.1.n rfl rfl rfl (t_law hS q5).1 ?_
    intro z6 ez6 f7
    refine n_istore (L2 := [some (2, 3), some (0, l), some (0, x), some (0, y), some (0, w), some (0, z6), none, none]) c_116_20 rfl rfl ?_
    refine n_iload c_116_22 rfl ?_
    refine n_iconst c_116_24 ?_
    refine n_if2_le c_116_25 (by omega) (by omega) ?_ ?_
    · intro h8
      refine n_iload_n c_116_32 rfl ?_
      refine n_istore (L2 := [some (2, 3), some (0, l), some (0, x), some (0, y), some (0, w), some (0, z6), some (0, x), none]) c_116_33 rfl rfl ?_
      refine n_iload c_116_35 rfl ?_
      refine n_iconst c_116_37 ?_
      refine n_if2_le c_116_38 (by omega) (by omega) ?_ ?_
      · intro h9
        refine n_iload c_116_46 rfl ?_
        refine n_istore (L2 := [some (2, 3), some (0, l), some (0, x), some (0, y), some (0, w), some (0, z6), some (0, x), some (0, x)]) c_116_48 rfl rfl ?_
        refine n_aload_n c_116_50 rfl ?_
        refine n_getR c_116_51 sc_3.n rfl rfl rfl r_3_6 ?_
        refine n_iload_n c_116_54 rfl ?_
        refine n_v1I c_116_55 rfl sc_32.n rfl rfl rfl rfl (isUnknownF_3 (u := x) hS (by omega)) ?_
        intro z10 M11 hP12
        obtain ⟨eM, f12, f12p0⟩ := hP12
        subst eM
        refine n_if0_eq c_116_58 (by omega) ?_ ?_
        · intro h13
          refine n_bipush c_116_85 rfl ?_
          exact n_rI c_116_87 rfl ⟨hS, by omega, by omega, by exact Or.inl ⟨Or.inr (Or.inr (fun q => by obtain ⟨⟨q1, q2⟩, q3, q4⟩ := q; have q3 : 1 < M (79 + 2 * l) 0 → (0 ≤ y ∧ y < M 32 0) := q3; have q4 : 2 < M (79 + 2 * l) 0 → (0 ≤ w ∧ w < M 32 0) := q4; omega)), rfl, fun _ _ _ => rfl⟩⟩
        · intro h14
          refine n_aload_n c_116_61 rfl ?_
          refine n_getR c_116_62 sc_3.n rfl rfl rfl r_3_6 ?_
          refine n_iload c_116_65 rfl ?_
          refine n_v1I c_116_67 rfl sc_32.n rfl rfl rfl rfl (isUnknownF_3 (u := x) hS (by omega)) ?_
          intro z15 M16 hP17
          obtain ⟨eM, f17, f17p0⟩ := hP17
          subst eM
          refine n_if0_eq c_116_70 (by omega) ?_ ?_
          · intro h18
            refine n_bipush c_116_85 rfl ?_
            exact n_rI c_116_87 rfl ⟨hS, by omega, by omega, by exact Or.inl ⟨Or.inr (Or.inr (fun q => by obtain ⟨⟨q1, q2⟩, q3, q4⟩ := q; have q3 : 1 < M (79 + 2 * l) 0 → (0 ≤ y ∧ y < M 32 0) := q3; have q4 : 2 < M (79 + 2 * l) 0 → (0 ≤ w ∧ w < M 32 0) := q4; omega)), rfl, fun _ _ _ => rfl⟩⟩
          · intro h19
            refine n_aload_n c_116_73 rfl ?_
            refine n_getR c_116_74 sc_3.n rfl rfl rfl r_3_6 ?_
            refine n_iload c_116_77 rfl ?_
            refine n_v1I c_116_79 rfl sc_32.n rfl rfl rfl rfl (isUnknownF_3 (u := x) hS (by omega)) ?_
            intro z20 M21 hP22
            obtain ⟨eM, f22, f22p0⟩ := hP22
            subst eM
            refine n_if0_ne c_116_82 (by omega) ?_ ?_
            · intro h23
              refine n_aload_n c_116_88 rfl ?_
              refine n_getR c_116_89 sc_3.n rfl rfl rfl r_3_6 ?_
              refine n_getV (bi := 1) c_116_92 sc_32.n rfl rfl rfl (t_32_1 hS) ?_
              intro z24 ez24 f25
              refine n_bipush c_116_95 rfl ?_
              refine n_if2_lt c_116_97 (by omega) (by omega) ?_ ?_
              · intro h26
                refine n_aload_n c_116_103 rfl ?_
                refine n_iconst c_116_104 ?_
                refine n_putZM (bi := 18) hS c_116_105 sc_3.n rfl rfl rfl (by omega) rfl (m_3_18 (by omega)) ?_
                intro M27 eM27 hS27
                have g27_0 : M27 112 0 = M 112 0 := by rw [eM27]; exact nu_a (by omega)
                have g27_1 : M27 32 1 = M 32 1 := by rw [eM27]; exact nu_a (by omega)
                have g27_2 : M27 3 18 = 0 := by rw [eM27]; exact nu_s _ _ _ _
                refine n_aload_n c_116_108 rfl ?_
                refine n_getR c_116_109 sc_3.n rfl rfl rfl r_3_6 ?_
                refine n_iload_n c_116_112 rfl ?_
                refine n_iload_n c_116_113 rfl ?_
                refine n_iload c_116_114 rfl ?_
                refine n_iload c_116_116 rfl ?_
                refine n_v4I c_116_118 rfl sc_32.n rfl rfl rfl rfl (raddX_3 (l := l) (x := x) (y := x) (w := x) (gd := (M27 112 0)) hS27 (by omega) (by omega) (by omega) (by omega) rfl (by omega)) ?_
                intro z28 M29 hP30
                obtain ⟨hS29, f30, f30g0, f30p0⟩ := hP30
                exact n_rI c_116_121 rfl ⟨hS29, by omega, by omega, by have ec : ∀ a i : Int, core a i → M27 a i = M a i := fun a i hc => (by rw [eM27, nu_e, if_neg (by unfold core at hc; omega)]); have e1 := ec 32 1 (by unfold core; omega); obtain ⟨u1, u2, u3⟩ := f30p0; exact Or.inr (Or.inr ⟨by omega, by omega, ⟨⟨by omega, by omega⟩, fun h => ⟨by omega, by omega⟩, fun h => ⟨by omega, by omega⟩⟩, by omega, by omega, by omega, fun a i hc w1 w2 => by rw [u3 a i hc w1 (by omega), ec a i hc]⟩)⟩
              · intro h31
                refine n_bipush c_116_100 rfl ?_
                exact n_rI c_116_102 rfl ⟨hS, by omega, by omega, by exact Or.inr (Or.inl ⟨by omega, by omega, ⟨⟨by omega, by omega⟩, fun h => ⟨by omega, by omega⟩, fun h => ⟨by omega, by omega⟩⟩, by omega, rfl, fun _ _ _ => rfl⟩)⟩
            · intro h32
              refine n_bipush c_116_85 rfl ?_
              exact n_rI c_116_87 rfl ⟨hS, by omega, by omega, by exact Or.inl ⟨Or.inr (Or.inr (fun q => by obtain ⟨⟨q1, q2⟩, q3, q4⟩ := q; have q3 : 1 < M (79 + 2 * l) 0 → (0 ≤ y ∧ y < M 32 0) := q3; have q4 : 2 < M (79 + 2 * l) 0 → (0 ≤ w ∧ w < M 32 0) := q4; omega)), rfl, fun _ _ _ => rfl⟩⟩
      · intro h33
        exfalso; omega
    · intro h34
      refine n_iload_n c_116_28 rfl ?_
      refine n_goto c_116_29 ?_
      refine n_istore (L2 := [some (2, 3), some (0, l), some (0, x), some (0, y), some (0, w), some (0, z6), some (0, y), none]) c_116_33 rfl rfl ?_
      refine n_iload c_116_35 rfl ?_
      refine n_iconst c_116_37 ?_
      refine n_if2_le c_116_38 (by omega) (by omega) ?_ ?_
      · intro h35
        refine n_iload c_116_46 rfl ?_
        refine n_istore (L2 := [some (2, 3), some (0, l), some (0, x), some (0, y), some (0, w), some (0, z6), some (0, y), some (0, y)]) c_116_48 rfl rfl ?_
        refine n_aload_n c_116_50 rfl ?_
        refine n_getR c_116_51 sc_3.n rfl rfl rfl r_3_6 ?_
        refine n_iload_n c_116_54 rfl ?_
        refine n_v1I c_116_55 rfl sc_32.n rfl rfl rfl rfl (isUnknownF_3 (u := x) hS (by omega)) ?_
        intro z36 M37 hP38
        obtain ⟨eM, f38, f38p0⟩ := hP38
        subst eM
        refine n_if0_eq c_116_58 (by omega) ?_ ?_
        · intro h39
          refine n_bipush c_116_85 rfl ?_
          exact n_rI c_116_87 rfl ⟨hS, by omega, by omega, by exact Or.inl ⟨Or.inr (Or.inr (fun q => by obtain ⟨⟨q1, q2⟩, q3, q4⟩ := q; have q3 : 1 < M (79 + 2 * l) 0 → (0 ≤ y ∧ y < M 32 0) := q3; have q4 : 2 < M (79 + 2 * l) 0 → (0 ≤ w ∧ w < M 32 0) := q4; omega)), rfl, fun _ _ _ => rfl⟩⟩
        · intro h40
          refine n_aload_n c_116_61 rfl ?_
          refine n_getR c_116_62 sc_3.n rfl rfl rfl r_3_6 ?_
          refine n_iload c_116_65 rfl ?_
          refine n_v1I c_116_67 rfl sc_32.n rfl rfl rfl rfl (isUnknownF_3 (u := y) hS (by omega)) ?_
          intro z41 M42 hP43
          obtain ⟨eM, f43, f43p0⟩ := hP43
          subst eM
          refine n_if0_eq c_116_70 (by omega) ?_ ?_
          · intro h44
            refine n_bipush c_116_85 rfl ?_
            exact n_rI c_116_87 rfl ⟨hS, by omega, by omega, by exact Or.inl ⟨Or.inr (Or.inr (fun q => by obtain ⟨⟨q1, q2⟩, q3, q4⟩ := q; have q3 : 1 < M (79 + 2 * l) 0 → (0 ≤ y ∧ y < M 32 0) := q3; have q4 : 2 < M (79 + 2 * l) 0 → (0 ≤ w ∧ w < M 32 0) := q4; omega)), rfl, fun _ _ _ => rfl⟩⟩
          · intro h45
            refine n_aload_n c_116_73 rfl ?_
            refine n_getR c_116_74 sc_3.n rfl rfl rfl r_3_6 ?_
            refine n_iload c_116_77 rfl ?_
            refine n_v1I c_116_79 rfl sc_32.n rfl rfl rfl rfl (isUnknownF_3 (u := y) hS (by omega)) ?_
            intro z46 M47 hP48
            obtain ⟨eM, f48, f48p0⟩ := hP48
            subst eM
            refine n_if0_ne c_116_82 (by omega) ?_ ?_
            · intro h49
              refine n_aload_n c_116_88 rfl ?_
              refine n_getR c_116_89 sc_3.n rfl rfl rfl r_3_6 ?_
              refine n_getV (bi := 1) c_116_92 sc_32.n rfl rfl rfl (t_32_1 hS) ?_
              intro z50 ez50 f51
              refine n_bipush c_116_95 rfl ?_
              refine n_if2_lt c_116_97 (by omega) (by omega) ?_ ?_
              · intro h52
                refine n_aload_n c_116_103 rfl ?_
                refine n_iconst c_116_104 ?_
                refine n_putZM (bi := 18) hS c_116_105 sc_3.n rfl rfl rfl (by omega) rfl (m_3_18 (by omega)) ?_
                intro M53 eM53 hS53
                have g53_0 : M53 112 0 = M 112 0 := by rw [eM53]; exact nu_a (by omega)
                have g53_1 : M53 32 1 = M 32 1 := by rw [eM53]; exact nu_a (by omega)
                have g53_2 : M53 3 18 = 0 := by rw [eM53]; exact nu_s _ _ _ _
                refine n_aload_n c_116_108 rfl ?_
                refine n_getR c_116_109 sc_3.n rfl rfl rfl r_3_6 ?_
                refine n_iload_n c_116_112 rfl ?_
                refine n_iload_n c_116_113 rfl ?_
                refine n_iload c_116_114 rfl ?_
                refine n_iload c_116_116 rfl ?_
                refine n_v4I c_116_118 rfl sc_32.n rfl rfl rfl rfl (raddX_3 (l := l) (x := x) (y := y) (w := y) (gd := (M53 112 0)) hS53 (by omega) (by omega) (by omega) (by omega) rfl (by omega)) ?_
                intro z54 M55 hP56
                obtain ⟨hS55, f56, f56g0, f56p0⟩ := hP56
                exact n_rI c_116_121 rfl ⟨hS55, by omega, by omega, by have ec : ∀ a i : Int, core a i → M53 a i = M a i := fun a i hc => (by rw [eM53, nu_e, if_neg (by unfold core at hc; omega)]); have e1 := ec 32 1 (by unfold core; omega); obtain ⟨u1, u2, u3⟩ := f56p0; exact Or.inr (Or.inr ⟨by omega, by omega, ⟨⟨by omega, by omega⟩, fun h => ⟨by omega, by omega⟩, fun h => ⟨by omega, by omega⟩⟩, by omega, by omega, by omega, fun a i hc w1 w2 => by rw [u3 a i hc w1 (by omega), ec a i hc]⟩)⟩
              · intro h57
                refine n_bipush c_116_100 rfl ?_
                exact n_rI c_116_102 rfl ⟨hS, by omega, by omega, by exact Or.inr (Or.inl ⟨by omega, by omega, ⟨⟨by omega, by omega⟩, fun h => ⟨by omega, by omega⟩, fun h => ⟨by omega, by omega⟩⟩, by omega, rfl, fun _ _ _ => rfl⟩)⟩
            · intro h58
              refine n_bipush c_116_85 rfl ?_
              exact n_rI c_116_87 rfl ⟨hS, by omega, by omega, by exact Or.inl ⟨Or.inr (Or.inr (fun q => by obtain ⟨⟨q1, q2⟩, q3, q4⟩ := q; have q3 : 1 < M (79 + 2 * l) 0 → (0 ≤ y ∧ y < M 32 0) := q3; have q4 : 2 < M (79 + 2 * l) 0 → (0 ≤ w ∧ w < M 32 0) := q4; omega)), rfl, fun _ _ _ => rfl⟩⟩
      · intro h59
        refine n_iload c_116_41 rfl ?_
        refine n_goto c_116_43 ?_
        refine n_istore (L2 := [some (2, 3), some (0, l), some (0, x), some (0, y), some (0, w), some (0, z6), some (0, y), some (0, w)]) c_116_48 rfl rfl ?_
        refine n_aload_n c_116_50 rfl ?_
        refine n_getR c_116_51 sc_3.n rfl rfl rfl r_3_6 ?_
        refine n_iload_n c_116_54 rfl ?_
        refine n_v1I c_116_55 rfl sc_32.n rfl rfl rfl rfl (isUnknownF_3 (u := x) hS (by omega)) ?_
        intro z60 M61 hP62
        obtain ⟨eM, f62, f62p0⟩ := hP62
        subst eM
        refine n_if0_eq c_116_58 (by omega) ?_ ?_
        · intro h63
          refine n_bipush c_116_85 rfl ?_
          exact n_rI c_116_87 rfl ⟨hS, by omega, by omega, by exact Or.inl ⟨Or.inr (Or.inr (fun q => by obtain ⟨⟨q1, q2⟩, q3, q4⟩ := q; have q3 : 1 < M (79 + 2 * l) 0 → (0 ≤ y ∧ y < M 32 0) := q3; have q4 : 2 < M (79 + 2 * l) 0 → (0 ≤ w ∧ w < M 32 0) := q4; omega)), rfl, fun _ _ _ => rfl⟩⟩
        · intro h64
          refine n_aload_n c_116_61 rfl ?_
          refine n_getR c_116_62 sc_3.n rfl rfl rfl r_3_6 ?_
          refine n_iload c_116_65 rfl ?_
          refine n_v1I c_116_67 rfl sc_32.n rfl rfl rfl rfl (isUnknownF_3 (u := y) hS (by omega)) ?_
          intro z65 M66 hP67
          obtain ⟨eM, f67, f67p0⟩ := hP67
          subst eM
          refine n_if0_eq c_116_70 (by omega) ?_ ?_
          · intro h68
            refine n_bipush c_116_85 rfl ?_
            exact n_rI c_116_87 rfl ⟨hS, by omega, by omega, by exact Or.inl ⟨Or.inr (Or.inr (fun q => by obtain ⟨⟨q1, q2⟩, q3, q4⟩ := q; have q3 : 1 < M (79 + 2 * l) 0 → (0 ≤ y ∧ y < M 32 0) := q3; have q4 : 2 < M (79 + 2 * l) 0 → (0 ≤ w ∧ w < M 32 0) := q4; omega)), rfl, fun _ _ _ => rfl⟩⟩
          · intro h69
            refine n_aload_n c_116_73 rfl ?_
            refine n_getR c_116_74 sc_3.n rfl rfl rfl r_3_6 ?_
            refine n_iload c_116_77 rfl ?_
            refine n_v1I c_116_79 rfl sc_32.n rfl rfl rfl rfl (isUnknownF_3 (u := w) hS (by omega)) ?_
            intro z70 M71 hP72
            obtain ⟨eM, f72, f72p0⟩ := hP72
            subst eM
            refine n_if0_ne c_116_82 (by omega) ?_ ?_
            · intro h73
              refine n_aload_n c_116_88 rfl ?_
              refine n_getR c_116_89 sc_3.n rfl rfl rfl r_3_6 ?_
              refine n_getV (bi := 1) c_116_92 sc_32.n rfl rfl rfl (t_32_1 hS) ?_
              intro z74 ez74 f75
              refine n_bipush c_116_95 rfl ?_
              refine n_if2_lt c_116_97 (by omega) (by omega) ?_ ?_
              · intro h76
                refine n_aload_n c_116_103 rfl ?_
                refine n_iconst c_116_104 ?_
                refine n_putZM (bi := 18) hS c_116_105 sc_3.n rfl rfl rfl (by omega) rfl (m_3_18 (by omega)) ?_
                intro M77 eM77 hS77
                have g77_0 : M77 112 0 = M 112 0 := by rw [eM77]; exact nu_a (by omega)
                have g77_1 : M77 32 1 = M 32 1 := by rw [eM77]; exact nu_a (by omega)
                have g77_2 : M77 3 18 = 0 := by rw [eM77]; exact nu_s _ _ _ _
                refine n_aload_n c_116_108 rfl ?_
                refine n_getR c_116_109 sc_3.n rfl rfl rfl r_3_6 ?_
                refine n_iload_n c_116_112 rfl ?_
                refine n_iload_n c_116_113 rfl ?_
                refine n_iload c_116_114 rfl ?_
                refine n_iload c_116_116 rfl ?_
                refine n_v4I c_116_118 rfl sc_32.n rfl rfl rfl rfl (raddX_3 (l := l) (x := x) (y := y) (w := w) (gd := (M77 112 0)) hS77 (by omega) (by omega) (by omega) (by omega) rfl (by omega)) ?_
                intro z78 M79 hP80
                obtain ⟨hS79, f80, f80g0, f80p0⟩ := hP80
                exact n_rI c_116_121 rfl ⟨hS79, by omega, by omega, by have ec : ∀ a i : Int, core a i → M77 a i = M a i := fun a i hc => (by rw [eM77, nu_e, if_neg (by unfold core at hc; omega)]); have e1 := ec 32 1 (by unfold core; omega); obtain ⟨u1, u2, u3⟩ := f80p0; exact Or.inr (Or.inr ⟨by omega, by omega, ⟨⟨by omega, by omega⟩, fun h => ⟨by omega, by omega⟩, fun h => ⟨by omega, by omega⟩⟩, by omega, by omega, by omega, fun a i hc w1 w2 => by rw [u3 a i hc w1 (by omega), ec a i hc]⟩)⟩
              · intro h81
                refine n_bipush c_116_100 rfl ?_
                exact n_rI c_116_102 rfl ⟨hS, by omega, by omega, by exact Or.inr (Or.inl ⟨by omega, by omega, ⟨⟨by omega, by omega⟩, fun h => ⟨by omega, by omega⟩, fun h => ⟨by omega, by omega⟩⟩, by omega, rfl, fun _ _ _ => rfl⟩)⟩
            · intro h82
              refine n_bipush c_116_85 rfl ?_
              exact n_rI c_116_87 rfl ⟨hS, by omega, by omega, by exact Or.inl ⟨Or.inr (Or.inr (fun q => by obtain ⟨⟨q1, q2⟩, q3, q4⟩ := q; have q3 : 1 < M (79 + 2 * l) 0 → (0 ≤ y ∧ y < M 32 0) := q3; have q4 : 2 < M (79 + 2 * l) 0 → (0 ≤ w ∧ w < M 32 0) := q4; omega)), rfl, fun _ _ _ => rfl⟩⟩
  · intro h83
    refine n_bipush c_116_8 rfl ?_
    exact n_rI c_116_10 rfl ⟨hS, by omega, by omega, by exact Or.inl ⟨by omega, rfl, fun _ _ _ => rfl⟩⟩

set_option maxHeartbeats 4000000 in
theorem misUnknownF_3 {xs : List Int32} {e : Nat} {ac : Int} {M0 M : nM} {u : Int} (hS : Sf 3 ac M0 M) (hdm : M0 112 0 = 3) (hu : -2147483648 ≤ u ∧ u ≤ 2147483647) : nW xs e 188 0 [some (2, 112), some (0, u)] [] M (nPI fun z M1 => M = M1 ∧ (0 ≤ z ∧ z ≤ 1) ∧ ((z = 1 ∧ 0 ≤ u ∧ u < M 112 10) ∨ (z = 0 ∧ (u < 0 ∨ M 112 10 ≤ u)))) := by
  have hd : (3 : Int) = 2 ∨ (3 : Int) = 3 := by decide
  have hac := hS.2.2.2.2
  refine n_iload_n c_188_0 rfl ?_
  refine n_if0_lt c_188_1 (by omega) ?_ ?_
  · intro h1
    refine n_iconst c_188_16 ?_
    exact n_rZ c_188_17 rfl (by omega) ⟨rfl, by omega, by omega⟩
  · intro h2
    refine n_iload_n c_188_4 rfl ?_
    refine n_aload_n c_188_5 rfl ?_
    refine n_getV (bi := 10) c_188_6 sc_112.n rfl rfl rfl (t_112_10 hS) ?_
    intro z3 ez3 f4
    refine n_if2_ge c_188_9 (by omega) (by omega) ?_ ?_
    · intro h5
      refine n_iconst c_188_16 ?_
      exact n_rZ c_188_17 rfl (by omega) ⟨rfl, by omega, by omega⟩
    · intro h6
      refine n_iconst c_188_12 ?_
      refine n_goto c_188_13 ?_
      exact n_rZ c_188_17 rfl (by omega) ⟨rfl, by omega, by omega⟩

set_option maxHeartbeats 4000000 in
theorem maskX_3 {xs : List Int32} {e : Nat} {ac : Int} {M : nM} {l x y w gd : Int} (hS : Sf 3 ac M M) (hdm : M 112 0 = 3) (hl : -2147483648 ≤ l ∧ l ≤ 2147483647) (hx : -2147483648 ≤ x ∧ x ≤ 2147483647) (hy : -2147483648 ≤ y ∧ y ≤ 2147483647) (hw : -2147483648 ≤ w ∧ w ≤ 2147483647) (hgd : M 112 0 = gd) : nW xs (e + 1) 189 0 [some (2, 112), some (0, l), some (0, x), some (0, y), some (0, w)] [] M (nPI fun z M1 => Sf 3 ac M1 M1 ∧ (-2147483648 ≤ z ∧ z ≤ 2147483647) ∧ (M1 112 0 = gd) ∧ (mAsk l x y w z M M1)) := by
  have hd : (3 : Int) = 2 ∨ (3 : Int) = 3 := by decide
  have hac := hS.2.2.2.2
  refine n_iload_n c_189_0 rfl ?_
  refine n_if0_lt c_189_1 (by omega) ?_ ?_
  · intro h1
    refine n_bipush c_189_57 rfl ?_
    exact n_rI c_189_59 rfl ⟨hS, by omega, by omega, by first | exact Or.inl ⟨by omega, rfl, fun _ _ _ => rfl⟩ | exact Or.inl ⟨Or.inr (Or.inr (fun q => by obtain ⟨⟨q1, q2⟩, q3, q4⟩ := q; have q3 : 1 < M 118 l → (0 ≤ y ∧ y < M 112 10) := q3; have q4 : 2 < M 118 l → (0 ≤ w ∧ w < M 112 10) := q4; omega)), rfl, fun _ _ _ => rfl⟩⟩
  · intro h2
    refine n_iload_n c_189_4 rfl ?_
    refine n_aload_n c_189_5 rfl ?_
    refine n_getV (bi := 7) c_189_6 sc_112.n rfl rfl rfl (t_112_7 hS) ?_
    intro z3 ez3 f4
    refine n_if2_ge c_189_9 (by omega) (by omega) ?_ ?_
    · intro h5
      refine n_bipush c_189_57 rfl ?_
      exact n_rI c_189_59 rfl ⟨hS, by omega, by omega, by first | exact Or.inl ⟨by omega, rfl, fun _ _ _ => rfl⟩ | exact Or.inl ⟨Or.inr (Or.inr (fun q => by obtain ⟨⟨q1, q2⟩, q3, q4⟩ := q; have q3 : 1 < M 118 l → (0 ≤ y ∧ y < M 112 10) := q3; have q4 : 2 < M 118 l → (0 ≤ w ∧ w < M 112 10) := q4; omega)), rfl, fun _ _ _ => rfl⟩⟩
    · intro h6
      refine n_aload_n c_189_12 rfl ?_
      refine n_iload_n c_189_13 rfl ?_
      refine n_v1I c_189_14 rfl sc_112.n rfl rfl rfl rfl (misUnknownF_3 (u := x) hS (by omega) (by omega)) ?_
      intro z7 M8 hP9
      obtain ⟨eM, f9, f9p0⟩ := hP9
      subst eM
      refine n_if0_eq c_189_17 (by omega) ?_ ?_
      · intro h10
        refine n_bipush c_189_57 rfl ?_
        exact n_rI c_189_59 rfl ⟨hS, by omega, by omega, by first | exact Or.inl ⟨by omega, rfl, fun _ _ _ => rfl⟩ | exact Or.inl ⟨Or.inr (Or.inr (fun q => by obtain ⟨⟨q1, q2⟩, q3, q4⟩ := q; have q3 : 1 < M 118 l → (0 ≤ y ∧ y < M 112 10) := q3; have q4 : 2 < M 118 l → (0 ≤ w ∧ w < M 112 10) := q4; omega)), rfl, fun _ _ _ => rfl⟩⟩
      · intro h11
        refine n_aload_n c_189_20 rfl ?_
        refine n_getR c_189_21 sc_112.n rfl rfl rfl r_112_8 ?_
        refine n_iload_n c_189_24 rfl ?_
        refine n_ialoadV c_189_25 sc_118.n rfl rfl rfl (by omega) (t_118 hS (by omega)) ?_
        intro z12 ez12 f13
        refine n_iconst c_189_26 ?_
        refine n_if2_le c_189_27 (by omega) (by omega) ?_ ?_
        · intro h14
          refine n_aload_n c_189_38 rfl ?_
          refine n_getR c_189_39 sc_112.n rfl rfl rfl r_112_8 ?_
          refine n_iload_n c_189_42 rfl ?_
          refine n_ialoadV c_189_43 sc_118.n rfl rfl rfl (by omega) (t_118 hS (by omega)) ?_
          intro z15 ez15 f16
          refine n_iconst c_189_44 ?_
          refine n_if2_le c_189_45 (by omega) (by omega) ?_ ?_
          · intro h17
            refine n_aload_n c_189_60 rfl ?_
            refine n_getV (bi := 11) c_189_61 sc_112.n rfl rfl rfl (t_112_11 hS) ?_
            intro z18 ez18 f19
            refine n_bipush c_189_64 rfl ?_
            refine n_if2_ne c_189_66 (by omega) (by omega) ?_ ?_
            · intro h20
              refine n_aload_n c_189_72 rfl ?_
              refine n_getR c_189_73 sc_112.n rfl rfl rfl r_112_12 ?_
              refine n_aload_n c_189_76 rfl ?_
              refine n_getV (bi := 11) c_189_77 sc_112.n rfl rfl rfl (t_112_11 hS) ?_
              intro z21 ez21 f22
              obtain rfl : z18 = z21 := by omega
              refine n_iload_n c_189_80 rfl ?_
              refine n_iastoreG c_189_81 sc_120.n rfl (by omega) (hS.w120 (by omega) (by omega)) ?_
              intro M23 eM23 hS23
              have g23_0 : M23 112 0 = M 112 0 := by rw [eM23]; exact nu_a (by omega)
              have g23_1 : M23 112 11 = M 112 11 := by rw [eM23]; exact nu_a (by omega)
              have g23_2 : M23 112 7 = M 112 7 := by rw [eM23]; exact nu_a (by omega)
              have g23_3 : M23 112 10 = M 112 10 := by rw [eM23]; exact nu_a (by omega)
              have g23_4 : M23 118 l = M 118 l := by rw [eM23]; exact nu_a (by omega)
              have g23_5 : M23 120 z18 = l := by rw [eM23]; exact nu_s _ _ _ _
              refine n_aload_n c_189_82 rfl ?_
              refine n_getR c_189_83 sc_112.n rfl rfl rfl r_112_13 ?_
              refine n_iconst c_189_86 ?_
              refine n_aload_n c_189_87 rfl ?_
              refine n_getV (bi := 11) c_189_88 sc_112.n rfl rfl rfl (t_112_11 hS23) ?_
              intro z24 ez24 f25
              obtain rfl : z18 = z24 := by omega
              refine n_imul c_189_91 rfl ?_
              refine n_iload_n c_189_92 rfl ?_
              refine n_iastoreG c_189_93 sc_121.n rfl (by omega) (hS23.w121 (by omega) (by omega)) ?_
              intro M26 eM26 hS26
              have g26_0 : M26 112 0 = M23 112 0 := by rw [eM26]; exact nu_a (by omega)
              have g26_1 : M26 112 11 = M23 112 11 := by rw [eM26]; exact nu_a (by omega)
              have g26_2 : M26 112 7 = M23 112 7 := by rw [eM26]; exact nu_a (by omega)
              have g26_3 : M26 112 10 = M23 112 10 := by rw [eM26]; exact nu_a (by omega)
              have g26_4 : M26 118 l = M23 118 l := by rw [eM26]; exact nu_a (by omega)
              have g26_5 : M26 120 z18 = M23 120 z18 := by rw [eM26]; exact nu_a (by omega)
              have g26_6 : M26 121 (3 * z18) = x := by rw [eM26]; exact nu_s _ _ _ _
              refine n_aload_n c_189_94 rfl ?_
              refine n_getR c_189_95 sc_112.n rfl rfl rfl r_112_13 ?_
              refine n_iconst c_189_98 ?_
              refine n_aload_n c_189_99 rfl ?_
              refine n_getV (bi := 11) c_189_100 sc_112.n rfl rfl rfl (t_112_11 hS26) ?_
              intro z27 ez27 f28
              obtain rfl : z18 = z27 := by omega
              refine n_imul c_189_103 rfl ?_
              refine n_iconst c_189_104 ?_
              refine n_iadd c_189_105 rfl ?_
              refine n_iload_n c_189_106 rfl ?_
              refine n_iastoreG c_189_107 sc_121.n rfl (by omega) (hS26.w121 (by omega) (by omega)) ?_
              intro M29 eM29 hS29
              have g29_0 : M29 112 0 = M26 112 0 := by rw [eM29]; exact nu_a (by omega)
              have g29_1 : M29 112 11 = M26 112 11 := by rw [eM29]; exact nu_a (by omega)
              have g29_2 : M29 112 7 = M26 112 7 := by rw [eM29]; exact nu_a (by omega)
              have g29_3 : M29 112 10 = M26 112 10 := by rw [eM29]; exact nu_a (by omega)
              have g29_4 : M29 118 l = M26 118 l := by rw [eM29]; exact nu_a (by omega)
              have g29_5 : M29 120 z18 = M26 120 z18 := by rw [eM29]; exact nu_a (by omega)
              have g29_6 : M29 121 (3 * z18) = M26 121 (3 * z18) := by rw [eM29]; exact nu_i (by omega)
              have g29_7 : M29 121 ((3 * z18) + 1) = y := by rw [eM29]; exact nu_s _ _ _ _
              refine n_aload_n c_189_108 rfl ?_
              refine n_getR c_189_109 sc_112.n rfl rfl rfl r_112_13 ?_
              refine n_iconst c_189_112 ?_
              refine n_aload_n c_189_113 rfl ?_
              refine n_getV (bi := 11) c_189_114 sc_112.n rfl rfl rfl (t_112_11 hS29) ?_
              intro z30 ez30 f31
              obtain rfl : z18 = z30 := by omega
              refine n_imul c_189_117 rfl ?_
              refine n_iconst c_189_118 ?_
              refine n_iadd c_189_119 rfl ?_
              refine n_iload c_189_120 rfl ?_
              refine n_iastoreG c_189_122 sc_121.n rfl (by omega) (hS29.w121 (by omega) (by omega)) ?_
              intro M32 eM32 hS32
              have g32_0 : M32 112 0 = M29 112 0 := by rw [eM32]; exact nu_a (by omega)
              have g32_1 : M32 112 11 = M29 112 11 := by rw [eM32]; exact nu_a (by omega)
              have g32_2 : M32 112 7 = M29 112 7 := by rw [eM32]; exact nu_a (by omega)
              have g32_3 : M32 112 10 = M29 112 10 := by rw [eM32]; exact nu_a (by omega)
              have g32_4 : M32 118 l = M29 118 l := by rw [eM32]; exact nu_a (by omega)
              have g32_5 : M32 120 z18 = M29 120 z18 := by rw [eM32]; exact nu_a (by omega)
              have g32_6 : M32 121 (3 * z18) = M29 121 (3 * z18) := by rw [eM32]; exact nu_i (by omega)
              have g32_7 : M32 121 ((3 * z18) + 1) = M29 121 ((3 * z18) + 1) := by rw [eM32]; exact nu_i (by omega)
              have g32_8 : M32 121 ((3 * z18) + 2) = w := by rw [eM32]; exact nu_s _ _ _ _
              refine n_aload_n c_189_123 rfl ?_
              refine n_dup2 c_189_124 ?_
              refine n_getV (bi := 11) c_189_125 sc_112.n rfl rfl rfl (t_112_11 hS32) ?_
              intro z33 ez33 f34
              obtain rfl : z18 = z33 := by omega
              refine n_iconst c_189_128 ?_
              refine n_iadd c_189_129 rfl ?_
              refine n_putG (P := fun M2 => Sf 3 ac M2 M2) (bi := 11) c_189_130 sc_112.n rfl rfl rfl rfl (hS32.w112_11 (q := z18) (l := l) (by omega) (by omega) (by omega) (by omega) (fun j b1 b2 => by
                have t118 := t_118 hS32 (i := l) (by omega)
                rcases (show j = 0 ∨ j = 1 ∨ j = 2 by omega) with rfl | rfl | rfl
                · rw [show 3 * z18 + 0 = 3 * z18 by omega]; omega
                · omega
                · omega)) ?_
              intro M35 eM35 hS35
              have hgz : M35 112 0 = M32 112 0 := by rw [eM35]; exact nu_i (by omega)
              have hgy : M35 112 11 = (z18 + 1) := by rw [eM35]; exact nu_s _ _ _ _
              refine n_aload_n c_189_133 rfl ?_
              refine n_getV (bi := 11) c_189_134 sc_112.n rfl rfl rfl (t_112_11 hS35) ?_
              intro z36 ez36 f37
              refine n_iconst c_189_137 ?_
              refine n_isub c_189_138 rfl ?_
              exact n_rI c_189_139 rfl ⟨hS35, by omega, by omega, by exact Or.inr (Or.inr ⟨by omega, by omega, ⟨⟨by omega, by omega⟩, fun h => ⟨by omega, by omega⟩, fun h => ⟨by omega, by omega⟩⟩, by omega, by omega, by rw [eM35, nu_s]; omega, fun a i hc w1 w2 w3 => by rw [eM35, nu_e, if_neg (by omega), eM32, nu_e, if_neg (by omega), eM29, nu_e, if_neg (by omega), eM26, nu_e, if_neg (by omega), eM23, nu_e, if_neg (by omega)]⟩)⟩
            · intro h38
              refine n_bipush c_189_69 rfl ?_
              exact n_rI c_189_71 rfl ⟨hS, by omega, by omega, by exact Or.inr (Or.inl ⟨by omega, by omega, ⟨⟨by omega, by omega⟩, fun h => ⟨by omega, by omega⟩, fun h => ⟨by omega, by omega⟩⟩, by omega, rfl, fun _ _ _ => rfl⟩)⟩
          · intro h39
            exfalso; omega
        · intro h40
          refine n_aload_n c_189_30 rfl ?_
          refine n_iload_n c_189_31 rfl ?_
          refine n_v1I c_189_32 rfl sc_112.n rfl rfl rfl rfl (misUnknownF_3 (u := y) hS (by omega) (by omega)) ?_
          intro z41 M42 hP43
          obtain ⟨eM, f43, f43p0⟩ := hP43
          subst eM
          refine n_if0_eq c_189_35 (by omega) ?_ ?_
          · intro h44
            refine n_bipush c_189_57 rfl ?_
            exact n_rI c_189_59 rfl ⟨hS, by omega, by omega, by first | exact Or.inl ⟨by omega, rfl, fun _ _ _ => rfl⟩ | exact Or.inl ⟨Or.inr (Or.inr (fun q => by obtain ⟨⟨q1, q2⟩, q3, q4⟩ := q; have q3 : 1 < M 118 l → (0 ≤ y ∧ y < M 112 10) := q3; have q4 : 2 < M 118 l → (0 ≤ w ∧ w < M 112 10) := q4; omega)), rfl, fun _ _ _ => rfl⟩⟩
          · intro h45
            refine n_aload_n c_189_38 rfl ?_
            refine n_getR c_189_39 sc_112.n rfl rfl rfl r_112_8 ?_
            refine n_iload_n c_189_42 rfl ?_
            refine n_ialoadV c_189_43 sc_118.n rfl rfl rfl (by omega) (t_118 hS (by omega)) ?_
            intro z46 ez46 f47
            refine n_iconst c_189_44 ?_
            refine n_if2_le c_189_45 (by omega) (by omega) ?_ ?_
            · intro h48
              refine n_aload_n c_189_60 rfl ?_
              refine n_getV (bi := 11) c_189_61 sc_112.n rfl rfl rfl (t_112_11 hS) ?_
              intro z49 ez49 f50
              refine n_bipush c_189_64 rfl ?_
              refine n_if2_ne c_189_66 (by omega) (by omega) ?_ ?_
              · intro h51
                refine n_aload_n c_189_72 rfl ?_
                refine n_getR c_189_73 sc_112.n rfl rfl rfl r_112_12 ?_
                refine n_aload_n c_189_76 rfl ?_
                refine n_getV (bi := 11) c_189_77 sc_112.n rfl rfl rfl (t_112_11 hS) ?_
                intro z52 ez52 f53
                obtain rfl : z49 = z52 := by omega
                refine n_iload_n c_189_80 rfl ?_
                refine n_iastoreG c_189_81 sc_120.n rfl (by omega) (hS.w120 (by omega) (by omega)) ?_
                intro M54 eM54 hS54
                have g54_0 : M54 112 0 = M 112 0 := by rw [eM54]; exact nu_a (by omega)
                have g54_1 : M54 112 11 = M 112 11 := by rw [eM54]; exact nu_a (by omega)
                have g54_2 : M54 112 7 = M 112 7 := by rw [eM54]; exact nu_a (by omega)
                have g54_3 : M54 112 10 = M 112 10 := by rw [eM54]; exact nu_a (by omega)
                have g54_4 : M54 118 l = M 118 l := by rw [eM54]; exact nu_a (by omega)
                have g54_5 : M54 120 z49 = l := by rw [eM54]; exact nu_s _ _ _ _
                refine n_aload_n c_189_82 rfl ?_
                refine n_getR c_189_83 sc_112.n rfl rfl rfl r_112_13 ?_
                refine n_iconst c_189_86 ?_
                refine n_aload_n c_189_87 rfl ?_
                refine n_getV (bi := 11) c_189_88 sc_112.n rfl rfl rfl (t_112_11 hS54) ?_
                intro z55 ez55 f56
                obtain rfl : z49 = z55 := by omega
                refine n_imul c_189_91 rfl ?_
                refine n_iload_n c_189_92 rfl ?_
                refine n_iastoreG c_189_93 sc_121.n rfl (by omega) (hS54.w121 (by omega) (by omega)) ?_
                intro M57 eM57 hS57
                have g57_0 : M57 112 0 = M54 112 0 := by rw [eM57]; exact nu_a (by omega)
                have g57_1 : M57 112 11 = M54 112 11 := by rw [eM57]; exact nu_a (by omega)
                have g57_2 : M57 112 7 = M54 112 7 := by rw [eM57]; exact nu_a (by omega)
                have g57_3 : M57 112 10 = M54 112 10 := by rw [eM57]; exact nu_a (by omega)
                have g57_4 : M57 118 l = M54 118 l := by rw [eM57]; exact nu_a (by omega)
                have g57_5 : M57 120 z49 = M54 120 z49 := by rw [eM57]; exact nu_a (by omega)
                have g57_6 : M57 121 (3 * z49) = x := by rw [eM57]; exact nu_s _ _ _ _
                refine n_aload_n c_189_94 rfl ?_
                refine n_getR c_189_95 sc_112.n rfl rfl rfl r_112_13 ?_
                refine n_iconst c_189_98 ?_
                refine n_aload_n c_189_99 rfl ?_
                refine n_getV (bi := 11) c_189_100 sc_112.n rfl rfl rfl (t_112_11 hS57) ?_
                intro z58 ez58 f59
                obtain rfl : z49 = z58 := by omega
                refine n_imul c_189_103 rfl ?_
                refine n_iconst c_189_104 ?_
                refine n_iadd c_189_105 rfl ?_
                refine n_iload_n c_189_106 rfl ?_
                refine n_iastoreG c_189_107 sc_121.n rfl (by omega) (hS57.w121 (by omega) (by omega)) ?_
                intro M60 eM60 hS60
                have g60_0 : M60 112 0 = M57 112 0 := by rw [eM60]; exact nu_a (by omega)
                have g60_1 : M60 112 11 = M57 112 11 := by rw [eM60]; exact nu_a (by omega)
                have g60_2 : M60 112 7 = M57 112 7 := by rw [eM60]; exact nu_a (by omega)
                have g60_3 : M60 112 10 = M57 112 10 := by rw [eM60]; exact nu_a (by omega)
                have g60_4 : M60 118 l = M57 118 l := by rw [eM60]; exact nu_a (by omega)
                have g60_5 : M60 120 z49 = M57 120 z49 := by rw [eM60]; exact nu_a (by omega)
                have g60_6 : M60 121 (3 * z49) = M57 121 (3 * z49) := by rw [eM60]; exact nu_i (by omega)
                have g60_7 : M60 121 ((3 * z49) + 1) = y := by rw [eM60]; exact nu_s _ _ _ _
                refine n_aload_n c_189_108 rfl ?_
                refine n_getR c_189_109 sc_112.n rfl rfl rfl r_112_13 ?_
                refine n_iconst c_189_112 ?_
                refine n_aload_n c_189_113 rfl ?_
                refine n_getV (bi := 11) c_189_114 sc_112.n rfl rfl rfl (t_112_11 hS60) ?_
                intro z61 ez61 f62
                obtain rfl : z49 = z61 := by omega
                refine n_imul c_189_117 rfl ?_
                refine n_iconst c_189_118 ?_
                refine n_iadd c_189_119 rfl ?_
                refine n_iload c_189_120 rfl ?_
                refine n_iastoreG c_189_122 sc_121.n rfl (by omega) (hS60.w121 (by omega) (by omega)) ?_
                intro M63 eM63 hS63
                have g63_0 : M63 112 0 = M60 112 0 := by rw [eM63]; exact nu_a (by omega)
                have g63_1 : M63 112 11 = M60 112 11 := by rw [eM63]; exact nu_a (by omega)
                have g63_2 : M63 112 7 = M60 112 7 := by rw [eM63]; exact nu_a (by omega)
                have g63_3 : M63 112 10 = M60 112 10 := by rw [eM63]; exact nu_a (by omega)
                have g63_4 : M63 118 l = M60 118 l := by rw [eM63]; exact nu_a (by omega)
                have g63_5 : M63 120 z49 = M60 120 z49 := by rw [eM63]; exact nu_a (by omega)
                have g63_6 : M63 121 (3 * z49) = M60 121 (3 * z49) := by rw [eM63]; exact nu_i (by omega)
                have g63_7 : M63 121 ((3 * z49) + 1) = M60 121 ((3 * z49) + 1) := by rw [eM63]; exact nu_i (by omega)
                have g63_8 : M63 121 ((3 * z49) + 2) = w := by rw [eM63]; exact nu_s _ _ _ _
                refine n_aload_n c_189_123 rfl ?_
                refine n_dup2 c_189_124 ?_
                refine n_getV (bi := 11) c_189_125 sc_112.n rfl rfl rfl (t_112_11 hS63) ?_
                intro z64 ez64 f65
                obtain rfl : z49 = z64 := by omega
                refine n_iconst c_189_128 ?_
                refine n_iadd c_189_129 rfl ?_
                refine n_putG (P := fun M2 => Sf 3 ac M2 M2) (bi := 11) c_189_130 sc_112.n rfl rfl rfl rfl (hS63.w112_11 (q := z49) (l := l) (by omega) (by omega) (by omega) (by omega) (fun j b1 b2 => by
                  have t118 := t_118 hS63 (i := l) (by omega)
                  rcases (show j = 0 ∨ j = 1 ∨ j = 2 by omega) with rfl | rfl | rfl
                  · rw [show 3 * z49 + 0 = 3 * z49 by omega]; omega
                  · omega
                  · omega)) ?_
                intro M66 eM66 hS66
                have hgz : M66 112 0 = M63 112 0 := by rw [eM66]; exact nu_i (by omega)
                have hgy : M66 112 11 = (z49 + 1) := by rw [eM66]; exact nu_s _ _ _ _
                refine n_aload_n c_189_133 rfl ?_
                refine n_getV (bi := 11) c_189_134 sc_112.n rfl rfl rfl (t_112_11 hS66) ?_
                intro z67 ez67 f68
                refine n_iconst c_189_137 ?_
                refine n_isub c_189_138 rfl ?_
                exact n_rI c_189_139 rfl ⟨hS66, by omega, by omega, by exact Or.inr (Or.inr ⟨by omega, by omega, ⟨⟨by omega, by omega⟩, fun h => ⟨by omega, by omega⟩, fun h => ⟨by omega, by omega⟩⟩, by omega, by omega, by rw [eM66, nu_s]; omega, fun a i hc w1 w2 w3 => by rw [eM66, nu_e, if_neg (by omega), eM63, nu_e, if_neg (by omega), eM60, nu_e, if_neg (by omega), eM57, nu_e, if_neg (by omega), eM54, nu_e, if_neg (by omega)]⟩)⟩
              · intro h69
                refine n_bipush c_189_69 rfl ?_
                exact n_rI c_189_71 rfl ⟨hS, by omega, by omega, by exact Or.inr (Or.inl ⟨by omega, by omega, ⟨⟨by omega, by omega⟩, fun h => ⟨by omega, by omega⟩, fun h => ⟨by omega, by omega⟩⟩, by omega, rfl, fun _ _ _ => rfl⟩)⟩
            · intro h70
              refine n_aload_n c_189_48 rfl ?_
              refine n_iload c_189_49 rfl ?_
              refine n_v1I c_189_51 rfl sc_112.n rfl rfl rfl rfl (misUnknownF_3 (u := w) hS (by omega) (by omega)) ?_
              intro z71 M72 hP73
              obtain ⟨eM, f73, f73p0⟩ := hP73
              subst eM
              refine n_if0_ne c_189_54 (by omega) ?_ ?_
              · intro h74
                refine n_aload_n c_189_60 rfl ?_
                refine n_getV (bi := 11) c_189_61 sc_112.n rfl rfl rfl (t_112_11 hS) ?_
                intro z75 ez75 f76
                refine n_bipush c_189_64 rfl ?_
                refine n_if2_ne c_189_66 (by omega) (by omega) ?_ ?_
                · intro h77
                  refine n_aload_n c_189_72 rfl ?_
                  refine n_getR c_189_73 sc_112.n rfl rfl rfl r_112_12 ?_
                  refine n_aload_n c_189_76 rfl ?_
                  refine n_getV (bi := 11) c_189_77 sc_112.n rfl rfl rfl (t_112_11 hS) ?_
                  intro z78 ez78 f79
                  obtain rfl : z75 = z78 := by omega
                  refine n_iload_n c_189_80 rfl ?_
                  refine n_iastoreG c_189_81 sc_120.n rfl (by omega) (hS.w120 (by omega) (by omega)) ?_
                  intro M80 eM80 hS80
                  have g80_0 : M80 112 0 = M 112 0 := by rw [eM80]; exact nu_a (by omega)
                  have g80_1 : M80 112 11 = M 112 11 := by rw [eM80]; exact nu_a (by omega)
                  have g80_2 : M80 112 7 = M 112 7 := by rw [eM80]; exact nu_a (by omega)
                  have g80_3 : M80 112 10 = M 112 10 := by rw [eM80]; exact nu_a (by omega)
                  have g80_4 : M80 118 l = M 118 l := by rw [eM80]; exact nu_a (by omega)
                  have g80_5 : M80 120 z75 = l := by rw [eM80]; exact nu_s _ _ _ _
                  refine n_aload_n c_189_82 rfl ?_
                  refine n_getR c_189_83 sc_112.n rfl rfl rfl r_112_13 ?_
                  refine n_iconst c_189_86 ?_
                  refine n_aload_n c_189_87 rfl ?_
                  refine n_getV (bi := 11) c_189_88 sc_112.n rfl rfl rfl (t_112_11 hS80) ?_
                  intro z81 ez81 f82
                  obtain rfl : z75 = z81 := by omega
                  refine n_imul c_189_91 rfl ?_
                  refine n_iload_n c_189_92 rfl ?_
                  refine n_iastoreG c_189_93 sc_121.n rfl (by omega) (hS80.w121 (by omega) (by omega)) ?_
                  intro M83 eM83 hS83
                  have g83_0 : M83 112 0 = M80 112 0 := by rw [eM83]; exact nu_a (by omega)
                  have g83_1 : M83 112 11 = M80 112 11 := by rw [eM83]; exact nu_a (by omega)
                  have g83_2 : M83 112 7 = M80 112 7 := by rw [eM83]; exact nu_a (by omega)
                  have g83_3 : M83 112 10 = M80 112 10 := by rw [eM83]; exact nu_a (by omega)
                  have g83_4 : M83 118 l = M80 118 l := by rw [eM83]; exact nu_a (by omega)
                  have g83_5 : M83 120 z75 = M80 120 z75 := by rw [eM83]; exact nu_a (by omega)
                  have g83_6 : M83 121 (3 * z75) = x := by rw [eM83]; exact nu_s _ _ _ _
                  refine n_aload_n c_189_94 rfl ?_
                  refine n_getR c_189_95 sc_112.n rfl rfl rfl r_112_13 ?_
                  refine n_iconst c_189_98 ?_
                  refine n_aload_n c_189_99 rfl ?_
                  refine n_getV (bi := 11) c_189_100 sc_112.n rfl rfl rfl (t_112_11 hS83) ?_
                  intro z84 ez84 f85
                  obtain rfl : z75 = z84 := by omega
                  refine n_imul c_189_103 rfl ?_
                  refine n_iconst c_189_104 ?_
                  refine n_iadd c_189_105 rfl ?_
                  refine n_iload_n c_189_106 rfl ?_
                  refine n_iastoreG c_189_107 sc_121.n rfl (by omega) (hS83.w121 (by omega) (by omega)) ?_
                  intro M86 eM86 hS86
                  have g86_0 : M86 112 0 = M83 112 0 := by rw [eM86]; exact nu_a (by omega)
                  have g86_1 : M86 112 11 = M83 112 11 := by rw [eM86]; exact nu_a (by omega)
                  have g86_2 : M86 112 7 = M83 112 7 := by rw [eM86]; exact nu_a (by omega)
                  have g86_3 : M86 112 10 = M83 112 10 := by rw [eM86]; exact nu_a (by omega)
                  have g86_4 : M86 118 l = M83 118 l := by rw [eM86]; exact nu_a (by omega)
                  have g86_5 : M86 120 z75 = M83 120 z75 := by rw [eM86]; exact nu_a (by omega)
                  have g86_6 : M86 121 (3 * z75) = M83 121 (3 * z75) := by rw [eM86]; exact nu_i (by omega)
                  have g86_7 : M86 121 ((3 * z75) + 1) = y := by rw [eM86]; exact nu_s _ _ _ _
                  refine n_aload_n c_189_108 rfl ?_
                  refine n_getR c_189_109 sc_112.n rfl rfl rfl r_112_13 ?_
                  refine n_iconst c_189_112 ?_
                  refine n_aload_n c_189_113 rfl ?_
                  refine n_getV (bi := 11) c_189_114 sc_112.n rfl rfl rfl (t_112_11 hS86) ?_
                  intro z87 ez87 f88
                  obtain rfl : z75 = z87 := by omega
                  refine n_imul c_189_117 rfl ?_
                  refine n_iconst c_189_118 ?_
                  refine n_iadd c_189_119 rfl ?_
                  refine n_iload c_189_120 rfl ?_
                  refine n_iastoreG c_189_122 sc_121.n rfl (by omega) (hS86.w121 (by omega) (by omega)) ?_
                  intro M89 eM89 hS89
                  have g89_0 : M89 112 0 = M86 112 0 := by rw [eM89]; exact nu_a (by omega)
                  have g89_1 : M89 112 11 = M86 112 11 := by rw [eM89]; exact nu_a (by omega)
                  have g89_2 : M89 112 7 = M86 112 7 := by rw [eM89]; exact nu_a (by omega)
                  have g89_3 : M89 112 10 = M86 112 10 := by rw [eM89]; exact nu_a (by omega)
                  have g89_4 : M89 118 l = M86 118 l := by rw [eM89]; exact nu_a (by omega)
                  have g89_5 : M89 120 z75 = M86 120 z75 := by rw [eM89]; exact nu_a (by omega)
                  have g89_6 : M89 121 (3 * z75) = M86 121 (3 * z75) := by rw [eM89]; exact nu_i (by omega)
                  have g89_7 : M89 121 ((3 * z75) + 1) = M86 121 ((3 * z75) + 1) := by rw [eM89]; exact nu_i (by omega)
                  have g89_8 : M89 121 ((3 * z75) + 2) = w := by rw [eM89]; exact nu_s _ _ _ _
                  refine n_aload_n c_189_123 rfl ?_
                  refine n_dup2 c_189_124 ?_
                  refine n_getV (bi := 11) c_189_125 sc_112.n rfl rfl rfl (t_112_11 hS89) ?_
                  intro z90 ez90 f91
                  obtain rfl : z75 = z90 := by omega
                  refine n_iconst c_189_128 ?_
                  refine n_iadd c_189_129 rfl ?_
                  refine n_putG (P := fun M2 => Sf 3 ac M2 M2) (bi := 11) c_189_130 sc_112.n rfl rfl rfl rfl (hS89.w112_11 (q := z75) (l := l) (by omega) (by omega) (by omega) (by omega) (fun j b1 b2 => by
                    have t118 := t_118 hS89 (i := l) (by omega)
                    rcases (show j = 0 ∨ j = 1 ∨ j = 2 by omega) with rfl | rfl | rfl
                    · rw [show 3 * z75 + 0 = 3 * z75 by omega]; omega
                    · omega
                    · omega)) ?_
                  intro M92 eM92 hS92
                  have hgz : M92 112 0 = M89 112 0 := by rw [eM92]; exact nu_i (by omega)
                  have hgy : M92 112 11 = (z75 + 1) := by rw [eM92]; exact nu_s _ _ _ _
                  refine n_aload_n c_189_133 rfl ?_
                  refine n_getV (bi := 11) c_189_134 sc_112.n rfl rfl rfl (t_112_11 hS92) ?_
                  intro z93 ez93 f94
                  refine n_iconst c_189_137 ?_
                  refine n_isub c_189_138 rfl ?_
                  exact n_rI c_189_139 rfl ⟨hS92, by omega, by omega, by exact Or.inr (Or.inr ⟨by omega, by omega, ⟨⟨by omega, by omega⟩, fun h => ⟨by omega, by omega⟩, fun h => ⟨by omega, by omega⟩⟩, by omega, by omega, by rw [eM92, nu_s]; omega, fun a i hc w1 w2 w3 => by rw [eM92, nu_e, if_neg (by omega), eM89, nu_e, if_neg (by omega), eM86, nu_e, if_neg (by omega), eM83, nu_e, if_neg (by omega), eM80, nu_e, if_neg (by omega)]⟩)⟩
                · intro h95
                  refine n_bipush c_189_69 rfl ?_
                  exact n_rI c_189_71 rfl ⟨hS, by omega, by omega, by exact Or.inr (Or.inl ⟨by omega, by omega, ⟨⟨by omega, by omega⟩, fun h => ⟨by omega, by omega⟩, fun h => ⟨by omega, by omega⟩⟩, by omega, rfl, fun _ _ _ => rfl⟩)⟩
              · intro h96
                refine n_bipush c_189_57 rfl ?_
                exact n_rI c_189_59 rfl ⟨hS, by omega, by omega, by first | exact Or.inl ⟨by omega, rfl, fun _ _ _ => rfl⟩ | exact Or.inl ⟨Or.inr (Or.inr (fun q => by obtain ⟨⟨q1, q2⟩, q3, q4⟩ := q; have q3 : 1 < M 118 l → (0 ≤ y ∧ y < M 112 10) := q3; have q4 : 2 < M 118 l → (0 ≤ w ∧ w < M 112 10) := q4; omega)), rfl, fun _ _ _ => rfl⟩⟩

set_option maxHeartbeats 4000000 in
theorem isActF_3 {xs : List Int32} {e : Nat} {ac : Int} {M0 M : nM} {a : Int} (hS : Sf 3 ac M0 M) (ha : -2147483648 ≤ a ∧ a ≤ 2147483647) : nW xs e 125 0 [some (2, 3), some (0, a)] [] M (nPI fun z M1 => M = M1 ∧ (0 ≤ z ∧ z ≤ 1) ∧ ((z = 1 ∧ 0 ≤ a ∧ a < ac) ∨ (z = 0 ∧ (a < 0 ∨ ac ≤ a)))) := by
  have hd : (3 : Int) = 2 ∨ (3 : Int) = 3 := by decide
  have hac := hS.2.2.2.2
  refine n_iload_n c_125_0 rfl ?_
  refine n_if0_lt c_125_1 (by omega) ?_ ?_
  · intro h1
    refine n_iconst c_125_16 ?_
    exact n_rZ c_125_17 rfl (by omega) ⟨rfl, by omega, by omega⟩
  · intro h2
    refine n_iload_n c_125_4 rfl ?_
    refine n_aload_n c_125_5 rfl ?_
    refine n_getV (bi := 14) c_125_6 sc_3.n rfl rfl rfl (t_3_14x hS) ?_
    intro z3 ez3 f4
    have f4a := t_ac hS
    refine n_if2_ge c_125_9 (by omega) (by omega) ?_ ?_
    · intro h5
      refine n_iconst c_125_16 ?_
      exact n_rZ c_125_17 rfl (by omega) ⟨rfl, by omega, by omega⟩
    · intro h6
      refine n_iconst c_125_12 ?_
      refine n_goto c_125_13 ?_
      exact n_rZ c_125_17 rfl (by omega) ⟨rfl, by omega, by omega⟩

set_option maxHeartbeats 4000000 in
theorem atX_3 {xs : List Int32} {e : Nat} {ac : Int} {M0 M : nM} {a r : Int} (hS : Sf 3 ac M0 M) (ha : -2147483648 ≤ a ∧ a ≤ 2147483647) (hr : -2147483648 ≤ r ∧ r ≤ 2147483647) : nW xs (e + 1) 99 0 [some (2, 3), some (0, a), some (0, r)] [] M (nPI fun z M1 => M = M1 ∧ (-2147483648 ≤ z ∧ z ≤ 2147483647) ∧ (cAt a r z M)) := by
  have hd : (3 : Int) = 2 ∨ (3 : Int) = 3 := by decide
  have hac := hS.2.2.2.2
  refine n_aload_n c_99_0 rfl ?_
  refine n_iload_n c_99_1 rfl ?_
  refine n_v1I c_99_2 rfl sc_3.n rfl rfl rfl rfl (isActF_3 (a := a) hS (by omega)) ?_
  intro z1 M2 hP3
  obtain ⟨eM, f3, f3p0⟩ := hP3
  subst eM
  refine n_if0_eq c_99_5 (by omega) ?_ ?_
  · intro h4
    refine n_iconst c_99_25 ?_
    exact n_rI c_99_26 rfl ⟨rfl, by omega, by have t14 := t_ac hS; exact Or.inl ⟨by omega, rfl⟩⟩
  · intro h5
    refine n_iload_n c_99_8 rfl ?_
    refine n_if0_lt c_99_9 (by omega) ?_ ?_
    · intro h6
      refine n_iconst c_99_25 ?_
      exact n_rI c_99_26 rfl ⟨rfl, by omega, by have t14 := t_ac hS; exact Or.inl ⟨by omega, rfl⟩⟩
    · intro h7
      refine n_iload_n c_99_12 rfl ?_
      refine n_aload_n c_99_13 rfl ?_
      refine n_getR c_99_14 sc_3.n rfl rfl rfl r_3_2 ?_
      refine n_iload_n c_99_17 rfl ?_
      refine n_aaload c_99_18 sc_12.n rfl rfl rfl (by omega) (r_acts _) ?_
      have q8 : ActAt (55 + 3 * a) := by unfold ActAt; omega
      have q8l : (55 + 3 * a) < 55 + 3 * ac := by omega
      refine n_getV (bi := 1) c_99_19 q8.c0.1.n rfl rfl rfl (t_actl hS q8 q8l).2 ?_
      intro z9 ez9 f10
      refine n_if2_lt c_99_22 (by omega) (by omega) ?_ ?_
      · intro h11
        refine n_aload_n c_99_27 rfl ?_
        refine n_getR c_99_28 sc_3.n rfl rfl rfl r_3_2 ?_
        refine n_iload_n c_99_31 rfl ?_
        refine n_aaload c_99_32 sc_12.n rfl rfl rfl (by omega) (r_acts _) ?_
        have q12 : ActAt (55 + 3 * a) := by unfold ActAt; omega
        have q12l : (55 + 3 * a) < 55 + 3 * ac := by omega
        refine n_getR c_99_33 q12.c0.1.n rfl rfl rfl q12.r.1 ?_
        refine n_iload_n c_99_36 rfl ?_
        refine n_ialoadV c_99_37 q12.c0.2.1.n rfl rfl rfl (by omega) (t_actrl hS q12 q12l (Or.inl rfl) (by omega) (by omega)) ?_
        intro z13 ez13 f14
        exact n_rI c_99_38 rfl ⟨rfl, by omega, by have t14 := t_ac hS; exact Or.inr ⟨by omega, by omega, by omega, by omega, by omega⟩⟩
      · intro h15
        refine n_iconst c_99_25 ?_
        exact n_rI c_99_26 rfl ⟨rfl, by omega, by have t14 := t_ac hS; exact Or.inl ⟨by omega, rfl⟩⟩

set_option maxHeartbeats 4000000 in
theorem mpowF0_3 {xs : List Int32} {e : Nat} {ac : Int} {M0 M : nM} (hS : Sf 3 ac M0 M)  : nW xs e 140 0 [some (0, 3), some (0, 0), none, none] [] M (nPI fun z M1 => M = M1 ∧ (1 ≤ z ∧ z ≤ 1) ∧ (z = pwr 3 0)) := by
  have hd : (3 : Int) = 2 ∨ (3 : Int) = 3 := by decide
  have hac := hS.2.2.2.2
  refine n_iconst c_140_0 ?_
  refine n_istore_n (L2 := [some (0, 3), some (0, 0), some (0, 1), none]) c_140_1 rfl rfl ?_
  refine n_iconst c_140_2 ?_
  refine n_istore_n (L2 := [some (0, 3), some (0, 0), some (0, 1), some (0, 0)]) c_140_3 rfl rfl ?_
  refine n_iload_n c_140_4 rfl ?_
  refine n_iload_n c_140_5 rfl ?_
  refine n_if2_ge c_140_6 (by omega) (by omega) ?_ ?_
  · intro h1
    refine n_iload_n c_140_19 rfl ?_
    exact n_rI c_140_20 rfl ⟨rfl, by omega, by rfl⟩
  · intro h2
    exfalso; omega

set_option maxHeartbeats 4000000 in
theorem mpowF1_3 {xs : List Int32} {e : Nat} {ac : Int} {M0 M : nM} (hS : Sf 3 ac M0 M)  : nW xs e 140 0 [some (0, 3), some (0, 1), none, none] [] M (nPI fun z M1 => M = M1 ∧ (3 ≤ z ∧ z ≤ 3) ∧ (z = pwr 3 1)) := by
  have hd : (3 : Int) = 2 ∨ (3 : Int) = 3 := by decide
  have hac := hS.2.2.2.2
  refine n_iconst c_140_0 ?_
  refine n_istore_n (L2 := [some (0, 3), some (0, 1), some (0, 1), none]) c_140_1 rfl rfl ?_
  refine n_iconst c_140_2 ?_
  refine n_istore_n (L2 := [some (0, 3), some (0, 1), some (0, 1), some (0, 0)]) c_140_3 rfl rfl ?_
  refine n_iload_n c_140_4 rfl ?_
  refine n_iload_n c_140_5 rfl ?_
  refine n_if2_ge c_140_6 (by omega) (by omega) ?_ ?_
  · intro h1
    exfalso; omega
  · intro h2
    refine n_iload_n c_140_9 rfl ?_
    refine n_iload_n c_140_10 rfl ?_
    refine n_imul c_140_11 rfl ?_
    refine n_istore_n (L2 := [some (0, 3), some (0, 1), some (0, (1 * 3)), some (0, 0)]) c_140_12 rfl rfl ?_
    refine n_iinc (L2 := [some (0, 3), some (0, 1), some (0, (1 * 3)), some (0, (0 + 1))]) c_140_13 rfl rfl rfl ?_
    refine n_goto c_140_16 ?_
    refine n_iload_n c_140_4 rfl ?_
    refine n_iload_n c_140_5 rfl ?_
    refine n_if2_ge c_140_6 (by omega) (by omega) ?_ ?_
    · intro h3
      refine n_iload_n c_140_19 rfl ?_
      exact n_rI c_140_20 rfl ⟨rfl, by omega, by rfl⟩
    · intro h4
      exfalso; omega

set_option maxHeartbeats 4000000 in
theorem mpowF2_3 {xs : List Int32} {e : Nat} {ac : Int} {M0 M : nM} (hS : Sf 3 ac M0 M)  : nW xs e 140 0 [some (0, 3), some (0, 2), none, none] [] M (nPI fun z M1 => M = M1 ∧ (9 ≤ z ∧ z ≤ 9) ∧ (z = pwr 3 2)) := by
  have hd : (3 : Int) = 2 ∨ (3 : Int) = 3 := by decide
  have hac := hS.2.2.2.2
  refine n_iconst c_140_0 ?_
  refine n_istore_n (L2 := [some (0, 3), some (0, 2), some (0, 1), none]) c_140_1 rfl rfl ?_
  refine n_iconst c_140_2 ?_
  refine n_istore_n (L2 := [some (0, 3), some (0, 2), some (0, 1), some (0, 0)]) c_140_3 rfl rfl ?_
  refine n_iload_n c_140_4 rfl ?_
  refine n_iload_n c_140_5 rfl ?_
  refine n_if2_ge c_140_6 (by omega) (by omega) ?_ ?_
  · intro h1
    exfalso; omega
  · intro h2
    refine n_iload_n c_140_9 rfl ?_
    refine n_iload_n c_140_10 rfl ?_
    refine n_imul c_140_11 rfl ?_
    refine n_istore_n (L2 := [some (0, 3), some (0, 2), some (0, (1 * 3)), some (0, 0)]) c_140_12 rfl rfl ?_
    refine n_iinc (L2 := [some (0, 3), some (0, 2), some (0, (1 * 3)), some (0, (0 + 1))]) c_140_13 rfl rfl rfl ?_
    refine n_goto c_140_16 ?_
    refine n_iload_n c_140_4 rfl ?_
    refine n_iload_n c_140_5 rfl ?_
    refine n_if2_ge c_140_6 (by omega) (by omega) ?_ ?_
    · intro h3
      exfalso; omega
    · intro h4
      refine n_iload_n c_140_9 rfl ?_
      refine n_iload_n c_140_10 rfl ?_
      refine n_imul c_140_11 rfl ?_
      refine n_istore_n (L2 := [some (0, 3), some (0, 2), some (0, ((1 * 3) * 3)), some (0, (0 + 1))]) c_140_12 rfl rfl ?_
      refine n_iinc (L2 := [some (0, 3), some (0, 2), some (0, ((1 * 3) * 3)), some (0, ((0 + 1) + 1))]) c_140_13 rfl rfl rfl ?_
      refine n_goto c_140_16 ?_
      refine n_iload_n c_140_4 rfl ?_
      refine n_iload_n c_140_5 rfl ?_
      refine n_if2_ge c_140_6 (by omega) (by omega) ?_ ?_
      · intro h5
        refine n_iload_n c_140_19 rfl ?_
        exact n_rI c_140_20 rfl ⟨rfl, by omega, by rfl⟩
      · intro h6
        exfalso; omega

set_option maxHeartbeats 4000000 in
theorem mpowF3_3 {xs : List Int32} {e : Nat} {ac : Int} {M0 M : nM} (hS : Sf 3 ac M0 M)  : nW xs e 140 0 [some (0, 3), some (0, 3), none, none] [] M (nPI fun z M1 => M = M1 ∧ (27 ≤ z ∧ z ≤ 27) ∧ (z = pwr 3 3)) := by
  have hd : (3 : Int) = 2 ∨ (3 : Int) = 3 := by decide
  have hac := hS.2.2.2.2
  refine n_iconst c_140_0 ?_
  refine n_istore_n (L2 := [some (0, 3), some (0, 3), some (0, 1), none]) c_140_1 rfl rfl ?_
  refine n_iconst c_140_2 ?_
  refine n_istore_n (L2 := [some (0, 3), some (0, 3), some (0, 1), some (0, 0)]) c_140_3 rfl rfl ?_
  refine n_iload_n c_140_4 rfl ?_
  refine n_iload_n c_140_5 rfl ?_
  refine n_if2_ge c_140_6 (by omega) (by omega) ?_ ?_
  · intro h1
    exfalso; omega
  · intro h2
    refine n_iload_n c_140_9 rfl ?_
    refine n_iload_n c_140_10 rfl ?_
    refine n_imul c_140_11 rfl ?_
    refine n_istore_n (L2 := [some (0, 3), some (0, 3), some (0, (1 * 3)), some (0, 0)]) c_140_12 rfl rfl ?_
    refine n_iinc (L2 := [some (0, 3), some (0, 3), some (0, (1 * 3)), some (0, (0 + 1))]) c_140_13 rfl rfl rfl ?_
    refine n_goto c_140_16 ?_
    refine n_iload_n c_140_4 rfl ?_
    refine n_iload_n c_140_5 rfl ?_
    refine n_if2_ge c_140_6 (by omega) (by omega) ?_ ?_
    · intro h3
      exfalso; omega
    · intro h4
      refine n_iload_n c_140_9 rfl ?_
      refine n_iload_n c_140_10 rfl ?_
      refine n_imul c_140_11 rfl ?_
      refine n_istore_n (L2 := [some (0, 3), some (0, 3), some (0, ((1 * 3) * 3)), some (0, (0 + 1))]) c_140_12 rfl rfl ?_
      refine n_iinc (L2 := [some (0, 3), some (0, 3), some (0, ((1 * 3) * 3)), some (0, ((0 + 1) + 1))]) c_140_13 rfl rfl rfl ?_
      refine n_goto c_140_16 ?_
      refine n_iload_n c_140_4 rfl ?_
      refine n_iload_n c_140_5 rfl ?_
      refine n_if2_ge c_140_6 (by omega) (by omega) ?_ ?_
      · intro h5
        exfalso; omega
      · intro h6
        refine n_iload_n c_140_9 rfl ?_
        refine n_iload_n c_140_10 rfl ?_
        refine n_imul c_140_11 rfl ?_
        refine n_istore_n (L2 := [some (0, 3), some (0, 3), some (0, (((1 * 3) * 3) * 3)), some (0, ((0 + 1) + 1))]) c_140_12 rfl rfl ?_
        refine n_iinc (L2 := [some (0, 3), some (0, 3), some (0, (((1 * 3) * 3) * 3)), some (0, (((0 + 1) + 1) + 1))]) c_140_13 rfl rfl rfl ?_
        refine n_goto c_140_16 ?_
        refine n_iload_n c_140_4 rfl ?_
        refine n_iload_n c_140_5 rfl ?_
        refine n_if2_ge c_140_6 (by omega) (by omega) ?_ ?_
        · intro h7
          refine n_iload_n c_140_19 rfl ?_
          exact n_rI c_140_20 rfl ⟨rfl, by omega, by rfl⟩
        · intro h8
          exfalso; omega

set_option maxHeartbeats 4000000 in
theorem mpowF_3 {xs : List Int32} {e : Nat} {ac : Int} {M0 M : nM} {n : Int} (hS : Sf 3 ac M0 M) (hn : 0 ≤ n ∧ n ≤ 3) : nW xs e 140 0 [some (0, 3), some (0, n), none, none] [] M (nPI fun z M1 => M = M1 ∧ (1 ≤ z ∧ z ≤ 27) ∧ (z = pwr 3 n)) := by
  rcases (show n = 0 ∨ n = 1 ∨ n = 2 ∨ n = 3 by omega) with rfl | rfl | rfl | rfl
  · exact n_post (mpowF0_3 hS ) (fun w M1 h => by obtain ⟨z, rfl, h1, h2, h3⟩ := h; exact ⟨z, rfl, h1, by omega, h3⟩)
  · exact n_post (mpowF1_3 hS ) (fun w M1 h => by obtain ⟨z, rfl, h1, h2, h3⟩ := h; exact ⟨z, rfl, h1, by omega, h3⟩)
  · exact n_post (mpowF2_3 hS ) (fun w M1 h => by obtain ⟨z, rfl, h1, h2, h3⟩ := h; exact ⟨z, rfl, h1, by omega, h3⟩)
  · exact n_post (mpowF3_3 hS ) (fun w M1 h => by obtain ⟨z, rfl, h1, h2, h3⟩ := h; exact ⟨z, rfl, h1, by omega, h3⟩)

set_option maxHeartbeats 4000000 in
theorem matX_3 {xs : List Int32} {e : Nat} {ac : Int} {M0 M : nM} {a r : Int} (hS : Sf 3 ac M0 M) (hdm : M0 112 0 = 3) (ha : -2147483648 ≤ a ∧ a ≤ 2147483647) (hr : -2147483648 ≤ r ∧ r ≤ 2147483647) : nW xs (e + 1) 150 0 [some (2, 112), some (0, a), some (0, r)] [] M (nPI fun z M1 => M = M1 ∧ (-2147483648 ≤ z ∧ z ≤ 2147483647) ∧ (mAt 3 a r z M)) := by
  have hd : (3 : Int) = 2 ∨ (3 : Int) = 3 := by decide
  have hac := hS.2.2.2.2
  refine n_iload_n c_150_0 rfl ?_
  refine n_if0_lt c_150_1 (by omega) ?_ ?_
  · intro h1
    refine n_iconst c_150_33 ?_
    refine n_goto c_150_34 ?_
    exact n_rI c_150_48 rfl ⟨rfl, by omega, by first | exact Or.inl ⟨by omega, rfl⟩ | exact Or.inr ⟨by omega, by omega, by omega, by omega, by omega⟩⟩
  · intro h2
    refine n_iload_n c_150_4 rfl ?_
    refine n_aload_n c_150_5 rfl ?_
    refine n_getV (bi := 4) c_150_6 sc_112.n rfl rfl rfl (t_112_4 hS) ?_
    intro z3 ez3 f4
    refine n_if2_ge c_150_9 (by omega) (by omega) ?_ ?_
    · intro h5
      refine n_iconst c_150_33 ?_
      refine n_goto c_150_34 ?_
      exact n_rI c_150_48 rfl ⟨rfl, by omega, by first | exact Or.inl ⟨by omega, rfl⟩ | exact Or.inr ⟨by omega, by omega, by omega, by omega, by omega⟩⟩
    · intro h6
      refine n_iload_n c_150_12 rfl ?_
      refine n_if0_lt c_150_13 (by omega) ?_ ?_
      · intro h7
        refine n_iconst c_150_33 ?_
        refine n_goto c_150_34 ?_
        exact n_rI c_150_48 rfl ⟨rfl, by omega, by first | exact Or.inl ⟨by omega, rfl⟩ | exact Or.inr ⟨by omega, by omega, by omega, by omega, by omega⟩⟩
      · intro h8
        refine n_iload_n c_150_16 rfl ?_
        refine n_aload_n c_150_17 rfl ?_
        refine n_getV (bi := 0) c_150_18 sc_112.n rfl rfl rfl (t_dm hS hdm) ?_
        intro z9 ez9 f10
        obtain rfl : z9 = 3 := by omega
        refine n_aload_n c_150_21 rfl ?_
        refine n_getR c_150_22 sc_112.n rfl rfl rfl r_112_5 ?_
        refine n_iload_n c_150_25 rfl ?_
        refine n_ialoadV c_150_26 sc_116.n rfl rfl rfl (by omega) (t_116 hS (by omega)) ?_
        intro z11 ez11 f12
        refine n_s2I c_150_27 rfl rfl rfl rfl (mpowF_3 (n := z11) hS (by omega)) ?_
        intro z13 M14 hP15
        obtain ⟨eM, f15, f15p0⟩ := hP15
        subst eM
        refine n_if2_lt c_150_30 (by omega) (by omega) ?_ ?_
        · intro h16
          refine n_aload_n c_150_37 rfl ?_
          refine n_getR c_150_38 sc_112.n rfl rfl rfl r_112_6 ?_
          refine n_bipush c_150_41 rfl ?_
          refine n_iload_n c_150_43 rfl ?_
          refine n_imul c_150_44 rfl ?_
          refine n_iload_n c_150_45 rfl ?_
          refine n_iadd c_150_46 rfl ?_
          refine n_ialoadV c_150_47 sc_117.n rfl rfl rfl (by omega) (t_117 hS (by omega)) ?_
          intro z17 ez17 f18
          exact n_rI c_150_48 rfl ⟨rfl, by omega, by have hpw := f15p0; rw [ez11] at hpw; first | exact Or.inl ⟨by omega, rfl⟩ | exact Or.inr ⟨by omega, by omega, by omega, by omega, by omega⟩⟩
        · intro h19
          refine n_iconst c_150_33 ?_
          refine n_goto c_150_34 ?_
          exact n_rI c_150_48 rfl ⟨rfl, by omega, by have hpw := f15p0; rw [ez11] at hpw; first | exact Or.inl ⟨by omega, rfl⟩ | exact Or.inr ⟨by omega, by omega, by omega, by omega, by omega⟩⟩

set_option maxHeartbeats 4000000 in
theorem lawOfX_3 {xs : List Int32} {e : Nat} {ac : Int} {M0 M : nM} {l : Int} (hS : Sf 3 ac M0 M) (hl : -2147483648 ≤ l ∧ l ≤ 2147483647) : nW xs (e + 1) 100 0 [some (2, 3), some (0, l)] [] M (nPJ fun z M1 => M = M1 ∧ (-9223372036854775808 ≤ z ∧ z ≤ 9223372036854775807) ∧ (cLof l z M)) := by
  have hd : (3 : Int) = 2 ∨ (3 : Int) = 3 := by decide
  have hac := hS.2.2.2.2
  refine n_aload_n c_100_0 rfl ?_
  refine n_iload_n c_100_1 rfl ?_
  refine n_v1I c_100_2 rfl sc_3.n rfl rfl rfl rfl (isLawF_3 (l := l) hS (by omega)) ?_
  intro z1 M2 hP3
  obtain ⟨eM, f3, f3p0⟩ := hP3
  subst eM
  refine n_if0_eq c_100_5 (by omega) ?_ ?_
  · intro h4
    refine n_ldc2 (n := (-1)) c_100_21 rfl ?_
    exact n_rJ c_100_24 rfl ⟨rfl, by omega, by first | exact Or.inl ⟨by omega, rfl⟩ | exact Or.inr ⟨by omega, by omega, by omega⟩⟩
  · intro h5
    refine n_aload_n c_100_8 rfl ?_
    refine n_getR c_100_9 sc_3.n rfl rfl rfl r_3_3 ?_
    refine n_iload_n c_100_12 rfl ?_
    refine n_aaload c_100_13 sc_13.n rfl rfl rfl (by omega) (r_laws _) ?_
    have q6 : LawAt (79 + 2 * l) := by unfold LawAt; omega
    refine n_getV (bi := 1) c_100_14 q6.c0.1.n rfl rfl rfl (t_law hS q6).2.1 ?_
    intro z7 ez7 f8
    refine n_i2l c_100_17 (by omega) ?_
    refine n_goto c_100_18 ?_
    exact n_rJ c_100_24 rfl ⟨rfl, by omega, by first | exact Or.inl ⟨by omega, rfl⟩ | exact Or.inr ⟨by omega, by omega, by omega⟩⟩

set_option maxHeartbeats 4000000 in
theorem mlawOfX_3 {xs : List Int32} {e : Nat} {ac : Int} {M0 M : nM} {l : Int} (hS : Sf 3 ac M0 M) (hdm : M0 112 0 = 3) (hl : -2147483648 ≤ l ∧ l ≤ 2147483647) : nW xs e 151 0 [some (2, 112), some (0, l)] [] M (nPJ fun z M1 => M = M1 ∧ (-9223372036854775808 ≤ z ∧ z ≤ 9223372036854775807) ∧ (mLof l z M)) := by
  have hd : (3 : Int) = 2 ∨ (3 : Int) = 3 := by decide
  have hac := hS.2.2.2.2
  refine n_iload_n c_151_0 rfl ?_
  refine n_if0_lt c_151_1 (by omega) ?_ ?_
  · intro h1
    refine n_ldc2 (n := (-1)) c_151_12 rfl ?_
    refine n_goto c_151_15 ?_
    exact n_rJ c_151_24 rfl ⟨rfl, by omega, by first | exact Or.inl ⟨by omega, rfl⟩ | exact Or.inr ⟨by omega, by omega, by omega⟩⟩
  · intro h2
    refine n_iload_n c_151_4 rfl ?_
    refine n_aload_n c_151_5 rfl ?_
    refine n_getV (bi := 7) c_151_6 sc_112.n rfl rfl rfl (t_112_7 hS) ?_
    intro z3 ez3 f4
    refine n_if2_lt c_151_9 (by omega) (by omega) ?_ ?_
    · intro h5
      refine n_aload_n c_151_18 rfl ?_
      refine n_getR c_151_19 sc_112.n rfl rfl rfl r_112_9 ?_
      refine n_iload_n c_151_22 rfl ?_
      refine n_laloadV c_151_23 sc_119.n rfl rfl rfl (by omega) (t_119 hS (by omega)) ?_
      intro z6 ez6 f7
      exact n_rJ c_151_24 rfl ⟨rfl, by omega, by first | exact Or.inl ⟨by omega, rfl⟩ | exact Or.inr ⟨by omega, by omega, by omega⟩⟩
    · intro h8
      refine n_ldc2 (n := (-1)) c_151_12 rfl ?_
      refine n_goto c_151_15 ?_
      exact n_rJ c_151_24 rfl ⟨rfl, by omega, by first | exact Or.inl ⟨by omega, rfl⟩ | exact Or.inr ⟨by omega, by omega, by omega⟩⟩

set_option maxHeartbeats 4000000 in
theorem filledX_3_c {xs : List Int32} {e : Nat} {ac : Int} {M0 M : nM} (hS : Sf 3 ac M0 M)  : ∀ nn : Nat, (∀ (x1 x2 : Int), (0 ≤ x1 ∧ x1 ≤ 8) → (0 ≤ x2 ∧ x2 ≤ 8) → (x1 ≤ x2) → (x1 = cf (fun s => if 0 ≤ M 11 s then 1 else 0) x2.toNat) → (8 - x2) * 1 + 1 < (nn : Int) → nW xs e 90 4 [some (2, 8), some (0, x1), some (0, x2)] [] M (nPI fun z M1 => M = M1 ∧ (0 ≤ z ∧ z ≤ 8) ∧ (z = cf (fun s => if 0 ≤ M 11 s then 1 else 0) 8))) := by
  have hd : (3 : Int) = 2 ∨ (3 : Int) = 3 := by decide
  have hac := hS.2.2.2.2
  intro nn
  induction nn with
  | zero => intros; omega
  | succ nn ih =>
    intro x1 x2 k1 k2 v0 v1 hnn
    refine n_iload_n c_90_4 rfl ?_
    refine n_bipush c_90_5 rfl ?_
    refine n_if2_ge c_90_7 (by omega) (by omega) ?_ ?_
    · intro h1
      refine n_iload_n c_90_28 rfl ?_
      exact n_rI c_90_29 rfl ⟨rfl, by omega, by have q : x2 = 8 := (by omega); rw [q] at v1; exact v1⟩
    · intro h2
      refine n_aload_n c_90_10 rfl ?_
      refine n_getR c_90_11 sc_8.n rfl rfl rfl r_8_2 ?_
      refine n_iload_n c_90_14 rfl ?_
      refine n_ialoadV c_90_15 sc_11.n rfl rfl rfl (by omega) (t_11 hS (by omega)) ?_
      intro z3 ez3 f4
      refine n_if0_lt c_90_16 (by omega) ?_ ?_
      · intro h5
        refine n_iinc (L2 := [some (2, 8), some (0, x1), some (0, (x2 + 1))]) c_90_22 rfl rfl rfl ?_
        refine n_goto c_90_25 ?_
        refine n_fg (le_s (le_s (le_s le_0))) ?_
        exact ih _ _ (by omega) (by omega) (by omega) (by rw [cf_step (by omega)]; show _ = _ + (if 0 ≤ M 11 x2 then 1 else 0); split <;> omega) (by omega)
      · intro h6
        refine n_iinc (L2 := [some (2, 8), some (0, (x1 + 1)), some (0, x2)]) c_90_19 rfl rfl rfl ?_
        refine n_iinc (L2 := [some (2, 8), some (0, (x1 + 1)), some (0, (x2 + 1))]) c_90_22 rfl rfl rfl ?_
        refine n_goto c_90_25 ?_
        refine n_fg (le_s (le_s (le_s le_0))) ?_
        exact ih _ _ (by omega) (by omega) (by omega) (by rw [cf_step (by omega)]; show _ = _ + (if 0 ≤ M 11 x2 then 1 else 0); split <;> omega) (by omega)
set_option maxHeartbeats 4000000 in
theorem filledX_3 {xs : List Int32} {e : Nat} {ac : Int} {M0 M : nM} (hS : Sf 3 ac M0 M)  : nW xs e 90 0 [some (2, 8), none, none] [] M (nPI fun z M1 => M = M1 ∧ (0 ≤ z ∧ z ≤ 8) ∧ (z = cf (fun s => if 0 ≤ M 11 s then 1 else 0) 8)) := by
  have hd : (3 : Int) = 2 ∨ (3 : Int) = 3 := by decide
  have hac := hS.2.2.2.2
  refine n_iconst c_90_0 ?_
  refine n_istore_n (L2 := [some (2, 8), some (0, 0), none]) c_90_1 rfl rfl ?_
  refine n_iconst c_90_2 ?_
  refine n_istore_n (L2 := [some (2, 8), some (0, 0), some (0, 0)]) c_90_3 rfl rfl ?_
  refine n_fg (le_s (le_s (le_s le_0))) ?_
  exact (filledX_3_c hS  30) _ _ (by omega) (by omega) (by omega) (by rfl) (by omega)

set_option maxHeartbeats 4000000 in
theorem countX_3 {xs : List Int32} {e : Nat} {ac : Int} {M0 M : nM} {w : Int} (hS : Sf 3 ac M0 M) (hw : -2147483648 ≤ w ∧ w ≤ 2147483647) : nW xs (e + 1) 121 0 [some (2, 3), some (0, w)] [] M (nPI fun z M1 => M = M1 ∧ (-2147483648 ≤ z ∧ z ≤ 2147483647) ∧ (cCnt 3 w z M)) := by
  have hd : (3 : Int) = 2 ∨ (3 : Int) = 3 := by decide
  have hac := hS.2.2.2.2
  refine n_iload_n c_121_0 rfl ?_
  refine n_sw c_121_1 (by omega) (by decide) ?_ ?_
  · intro h1
    refine n_pc (k2 := 82) rfl ?_
    refine n_iconst c_121_82 ?_
    exact n_rI c_121_83 rfl ⟨rfl, by omega, by unfold cCnt; omega⟩
  · intro h2 h2b
    rcases (show w = 0 ∨ w = 1 ∨ w = 2 ∨ w = 3 ∨ w = 4 ∨ w = 5 by omega) with h2c | h2c | h2c | h2c | h2c | h2c
    · refine ⟨_, by rw [h2c]; rfl, by decide, ?_⟩
      refine n_pc (k2 := 40) rfl ?_
      refine n_aload_n c_121_40 rfl ?_
      refine n_getR c_121_41 sc_3.n rfl rfl rfl r_3_0 ?_
      refine n_getV (bi := 0) c_121_44 sc_4.n rfl rfl rfl (t_4_0 hS) ?_
      intro z3 ez3 f4
      obtain rfl : z3 = 3 := by omega
      exact n_rI c_121_47 rfl ⟨rfl, by omega, by unfold cCnt; omega⟩
    · refine ⟨_, by rw [h2c]; rfl, by decide, ?_⟩
      refine n_pc (k2 := 48) rfl ?_
      refine n_aload_n c_121_48 rfl ?_
      refine n_getV (bi := 14) c_121_49 sc_3.n rfl rfl rfl (t_3_14x hS) ?_
      intro z5 ez5 f6
      have f6a := t_ac hS
      exact n_rI c_121_52 rfl ⟨rfl, by omega, by unfold cCnt; omega⟩
    · refine ⟨_, by rw [h2c]; rfl, by decide, ?_⟩
      refine n_pc (k2 := 53) rfl ?_
      refine n_aload_n c_121_53 rfl ?_
      refine n_getV (bi := 15) c_121_54 sc_3.n rfl rfl rfl (t_3_15 hS) ?_
      intro z7 ez7 f8
      exact n_rI c_121_57 rfl ⟨rfl, by omega, by unfold cCnt; omega⟩
    · refine ⟨_, by rw [h2c]; rfl, by decide, ?_⟩
      refine n_pc (k2 := 58) rfl ?_
      refine n_aload_n c_121_58 rfl ?_
      refine n_getR c_121_59 sc_3.n rfl rfl rfl r_3_6 ?_
      refine n_getV (bi := 0) c_121_62 sc_32.n rfl rfl rfl (t_32_0 hS) ?_
      intro z9 ez9 f10
      exact n_rI c_121_65 rfl ⟨rfl, by omega, by unfold cCnt; omega⟩
    · refine ⟨_, by rw [h2c]; rfl, by decide, ?_⟩
      refine n_pc (k2 := 66) rfl ?_
      refine n_aload_n c_121_66 rfl ?_
      refine n_getR c_121_67 sc_3.n rfl rfl rfl r_3_6 ?_
      refine n_getV (bi := 1) c_121_70 sc_32.n rfl rfl rfl (t_32_1 hS) ?_
      intro z11 ez11 f12
      exact n_rI c_121_73 rfl ⟨rfl, by omega, by unfold cCnt; omega⟩
    · refine ⟨_, by rw [h2c]; rfl, by decide, ?_⟩
      refine n_pc (k2 := 74) rfl ?_
      refine n_aload_n c_121_74 rfl ?_
      refine n_getR c_121_75 sc_3.n rfl rfl rfl r_3_1 ?_
      refine n_v0I c_121_78 rfl sc_8.n rfl rfl rfl rfl (filledX_3  hS ) ?_
      intro z13 M14 hP15
      obtain ⟨eM, f15, f15p0⟩ := hP15
      subst eM
      exact n_rI c_121_81 rfl ⟨rfl, by omega, by unfold cCnt; omega⟩

set_option maxHeartbeats 4000000 in
theorem mcountX_3_c {xs : List Int32} {e : Nat} {ac : Int} {M0 M : nM} {w : Int} (hS : Sf 3 ac M0 M) (hdm : M0 112 0 = 3) (hw : -2147483648 ≤ w ∧ w ≤ 2147483647) : ∀ nn : Nat, (∀ (x2 x3 : Int), (0 ≤ x2 ∧ x2 ≤ 8) → (0 ≤ x3 ∧ x3 ≤ 8) → (x2 ≤ x3) → (x2 = cf (fun s => if M 113 s = 0 then 0 else 1) x3.toNat) → (w = 5) → (8 - x3) * 1 + 1 < (nn : Int) → nW xs e 201 69 [some (2, 112), none, some (0, x2), some (0, x3)] [] M (nPI fun z M1 => M = M1 ∧ (-2147483648 ≤ z ∧ z ≤ 2147483647) ∧ (mCnt 3 w z M))) := by
  have hd : (3 : Int) = 2 ∨ (3 : Int) = 3 := by decide
  have hac := hS.2.2.2.2
  intro nn
  induction nn with
  | zero => intros; omega
  | succ nn ih =>
    intro x2 x3 k2 k3 v0 v1 v2 hnn
    refine n_iload_n c_201_69 rfl ?_
    refine n_bipush c_201_70 rfl ?_
    refine n_if2_ge c_201_72 (by omega) (by omega) ?_ ?_
    · intro h1
      refine n_iload_n c_201_98 rfl ?_
      exact n_rI c_201_99 rfl ⟨rfl, by omega, by have q : x3 = 8 := (by omega); rw [q] at v1; have v1 : x2 = cf (fun s => if M 113 s = 0 then 0 else 1) 8 := v1; unfold mCnt; omega⟩
    · intro h2
      refine n_iload_n c_201_75 rfl ?_
      refine n_aload_n c_201_76 rfl ?_
      refine n_getR c_201_77 sc_112.n rfl rfl rfl r_112_1 ?_
      refine n_iload_n c_201_80 rfl ?_
      refine n_ialoadV c_201_81 sc_113.n rfl rfl rfl (by omega) (t_113 hS (by omega)) ?_
      intro z3 ez3 f4
      refine n_if0_ne c_201_82 (by omega) ?_ ?_
      · intro h5
        refine n_iconst c_201_89 ?_
        refine n_iadd c_201_90 rfl ?_
        refine n_istore_n (L2 := [some (2, 112), none, some (0, (x2 + 1)), some (0, x3)]) c_201_91 rfl rfl ?_
        refine n_iinc (L2 := [some (2, 112), none, some (0, (x2 + 1)), some (0, (x3 + 1))]) c_201_92 rfl rfl rfl ?_
        refine n_goto c_201_95 ?_
        refine n_fg (le_s (le_n (le_s (le_s le_0)))) ?_
        exact ih _ _ (by omega) (by omega) (by omega) (by rw [cf_step (by omega)]; show _ = _ + (if M 113 x3 = 0 then 0 else 1); split <;> omega) (by omega) (by omega)
      · intro h6
        refine n_iconst c_201_85 ?_
        refine n_goto c_201_86 ?_
        refine n_iadd c_201_90 rfl ?_
        refine n_istore_n (L2 := [some (2, 112), none, some (0, (x2 + 0)), some (0, x3)]) c_201_91 rfl rfl ?_
        refine n_iinc (L2 := [some (2, 112), none, some (0, (x2 + 0)), some (0, (x3 + 1))]) c_201_92 rfl rfl rfl ?_
        refine n_goto c_201_95 ?_
        refine n_fg (le_s (le_n (le_s (le_s le_0)))) ?_
        exact ih _ _ (by omega) (by omega) (by omega) (by rw [cf_step (by omega)]; show _ = _ + (if M 113 x3 = 0 then 0 else 1); split <;> omega) (by omega) (by omega)
set_option maxHeartbeats 4000000 in
theorem mcountX_3 {xs : List Int32} {e : Nat} {ac : Int} {M0 M : nM} {w : Int} (hS : Sf 3 ac M0 M) (hdm : M0 112 0 = 3) (hw : -2147483648 ≤ w ∧ w ≤ 2147483647) : nW xs e 201 0 [some (2, 112), some (0, w), none, none] [] M (nPI fun z M1 => M = M1 ∧ (-2147483648 ≤ z ∧ z ≤ 2147483647) ∧ (mCnt 3 w z M)) := by
  have hd : (3 : Int) = 2 ∨ (3 : Int) = 3 := by decide
  have hac := hS.2.2.2.2
  refine n_iload_n c_201_0 rfl ?_
  refine n_sw c_201_1 (by omega) (by decide) ?_ ?_
  · intro h1
    refine n_pc (k2 := 100) rfl ?_
    refine n_iconst c_201_100 ?_
    exact n_rI c_201_101 rfl ⟨rfl, by omega, by unfold mCnt; omega⟩
  · intro h2 h2b
    rcases (show w = 0 ∨ w = 1 ∨ w = 2 ∨ w = 3 ∨ w = 4 ∨ w = 5 by omega) with h2c | h2c | h2c | h2c | h2c | h2c
    · refine ⟨_, by rw [h2c]; rfl, by decide, ?_⟩
      refine n_pc (k2 := 40) rfl ?_
      refine n_aload_n c_201_40 rfl ?_
      refine n_getV (bi := 0) c_201_41 sc_112.n rfl rfl rfl (t_dm hS hdm) ?_
      intro z3 ez3 f4
      obtain rfl : z3 = 3 := by omega
      exact n_rI c_201_44 rfl ⟨rfl, by omega, by unfold mCnt; omega⟩
    · refine ⟨_, by rw [h2c]; rfl, by decide, ?_⟩
      refine n_pc (k2 := 45) rfl ?_
      refine n_aload_n c_201_45 rfl ?_
      refine n_getV (bi := 4) c_201_46 sc_112.n rfl rfl rfl (t_112_4 hS) ?_
      intro z5 ez5 f6
      exact n_rI c_201_49 rfl ⟨rfl, by omega, by unfold mCnt; omega⟩
    · refine ⟨_, by rw [h2c]; rfl, by decide, ?_⟩
      refine n_pc (k2 := 50) rfl ?_
      refine n_aload_n c_201_50 rfl ?_
      refine n_getV (bi := 7) c_201_51 sc_112.n rfl rfl rfl (t_112_7 hS) ?_
      intro z7 ez7 f8
      exact n_rI c_201_54 rfl ⟨rfl, by omega, by unfold mCnt; omega⟩
    · refine ⟨_, by rw [h2c]; rfl, by decide, ?_⟩
      refine n_pc (k2 := 55) rfl ?_
      refine n_aload_n c_201_55 rfl ?_
      refine n_getV (bi := 10) c_201_56 sc_112.n rfl rfl rfl (t_112_10 hS) ?_
      intro z9 ez9 f10
      exact n_rI c_201_59 rfl ⟨rfl, by omega, by unfold mCnt; omega⟩
    · refine ⟨_, by rw [h2c]; rfl, by decide, ?_⟩
      refine n_pc (k2 := 60) rfl ?_
      refine n_aload_n c_201_60 rfl ?_
      refine n_getV (bi := 11) c_201_61 sc_112.n rfl rfl rfl (t_112_11 hS) ?_
      intro z11 ez11 f12
      exact n_rI c_201_64 rfl ⟨rfl, by omega, by unfold mCnt; omega⟩
    · refine ⟨_, by rw [h2c]; rfl, by decide, ?_⟩
      refine n_pc (k2 := 65) rfl ?_
      refine n_iconst c_201_65 ?_
      refine n_istore_n (L2 := [some (2, 112), some (0, w), some (0, 0), none]) c_201_66 rfl rfl ?_
      refine n_iconst c_201_67 ?_
      refine n_istore_n (L2 := [some (2, 112), some (0, w), some (0, 0), some (0, 0)]) c_201_68 rfl rfl ?_
      refine n_fg (le_s (le_n (le_s (le_s le_0)))) ?_
      exact (mcountX_3_c hS hdm hw 30) _ _ (by omega) (by omega) (by omega) (by rfl) (by omega) (by omega)

set_option maxHeartbeats 4000000 in
theorem actXL_3 {xs : List Int32} {e : Nat} {ac : Int} {M0 M : nM} {k s : Int} (hS : Sf 3 ac M0 M) (hk : -2147483648 ≤ k ∧ k ≤ 0) (hs : -2147483648 ≤ s ∧ s ≤ 2147483647) : nW xs (e + 2) 97 0 [some (2, 3), some (0, k), some (0, s), none, none, none] [] M (nPI fun z M1 => M = M1 ∧ (-2 ≤ z ∧ z ≤ -2)) := by
  have hd : (3 : Int) = 2 ∨ (3 : Int) = 3 := by decide
  have hac := hS.2.2.2.2
  refine n_aload_n c_97_0 rfl ?_
  refine n_getR c_97_1 sc_3.n rfl rfl rfl r_3_1 ?_
  refine n_iload_n c_97_4 rfl ?_
  refine n_v1I c_97_5 rfl sc_8.n rfl rfl rfl rfl (isSlotF_3 (s := s) hS (by omega)) ?_
  intro z1 M2 hP3
  obtain ⟨eM, f3, f3p0⟩ := hP3
  subst eM
  refine n_if0_eq c_97_8 (by omega) ?_ ?_
  · intro h4
    refine n_bipush c_97_19 rfl ?_
    exact n_rI c_97_21 rfl ⟨rfl, by omega⟩
  · intro h5
    refine n_aload_n c_97_11 rfl ?_
    refine n_iload_n c_97_12 rfl ?_
    refine n_v1I c_97_13 rfl sc_3.n rfl rfl rfl rfl (isPlaceCountF_3 (k := k) hS (by omega)) ?_
    intro z6 M7 hP8
    obtain ⟨eM, f8, f8p0⟩ := hP8
    subst eM
    refine n_if0_ne c_97_16 (by omega) ?_ ?_
    · intro h9
      exfalso; omega
    · intro h10
      refine n_bipush c_97_19 rfl ?_
      exact n_rI c_97_21 rfl ⟨rfl, by omega⟩

set_option maxHeartbeats 4000000 in
theorem actXH_3 {xs : List Int32} {e : Nat} {ac : Int} {M0 M : nM} {k s : Int} (hS : Sf 3 ac M0 M) (hk : 4 ≤ k ∧ k ≤ 2147483647) (hs : -2147483648 ≤ s ∧ s ≤ 2147483647) : nW xs (e + 2) 97 0 [some (2, 3), some (0, k), some (0, s), none, none, none] [] M (nPI fun z M1 => M = M1 ∧ (-2 ≤ z ∧ z ≤ -2)) := by
  have hd : (3 : Int) = 2 ∨ (3 : Int) = 3 := by decide
  have hac := hS.2.2.2.2
  refine n_aload_n c_97_0 rfl ?_
  refine n_getR c_97_1 sc_3.n rfl rfl rfl r_3_1 ?_
  refine n_iload_n c_97_4 rfl ?_
  refine n_v1I c_97_5 rfl sc_8.n rfl rfl rfl rfl (isSlotF_3 (s := s) hS (by omega)) ?_
  intro z1 M2 hP3
  obtain ⟨eM, f3, f3p0⟩ := hP3
  subst eM
  refine n_if0_eq c_97_8 (by omega) ?_ ?_
  · intro h4
    refine n_bipush c_97_19 rfl ?_
    exact n_rI c_97_21 rfl ⟨rfl, by omega⟩
  · intro h5
    refine n_aload_n c_97_11 rfl ?_
    refine n_iload_n c_97_12 rfl ?_
    refine n_v1I c_97_13 rfl sc_3.n rfl rfl rfl rfl (isPlaceCountF_3 (k := k) hS (by omega)) ?_
    intro z6 M7 hP8
    obtain ⟨eM, f8, f8p0⟩ := hP8
    subst eM
    refine n_if0_ne c_97_16 (by omega) ?_ ?_
    · intro h9
      exfalso; omega
    · intro h10
      refine n_bipush c_97_19 rfl ?_
      exact n_rI c_97_21 rfl ⟨rfl, by omega⟩

set_option maxHeartbeats 4000000 in
theorem mactXL_3 {xs : List Int32} {e : Nat} {ac : Int} {M0 M : nM} {k s : Int} (hS : Sf 3 ac M0 M) (hdm : M0 112 0 = 3) (hk : -2147483648 ≤ k ∧ k ≤ 0) (hs : -2147483648 ≤ s ∧ s ≤ 2147483647) : nW xs (e + 1) 148 0 [some (2, 112), some (0, k), some (0, s), none, none, none] [] M (nPI fun z M1 => M = M1 ∧ (-2 ≤ z ∧ z ≤ -2)) := by
  have hd : (3 : Int) = 2 ∨ (3 : Int) = 3 := by decide
  have hac := hS.2.2.2.2
  refine n_iload_n c_148_0 rfl ?_
  refine n_s1I c_148_1 rfl rfl rfl rfl (misSlotF_3 (s := s) hS (by omega)) ?_
  intro z1 M2 hP3
  obtain ⟨eM, f3, f3p0⟩ := hP3
  subst eM
  refine n_if0_eq c_148_4 (by omega) ?_ ?_
  · intro h4
    refine n_bipush c_148_17 rfl ?_
    exact n_rI c_148_19 rfl ⟨rfl, by omega⟩
  · intro h5
    refine n_iload_n c_148_7 rfl ?_
    refine n_iconst c_148_8 ?_
    refine n_if2_lt c_148_9 (by omega) (by omega) ?_ ?_
    · intro h6
      refine n_bipush c_148_17 rfl ?_
      exact n_rI c_148_19 rfl ⟨rfl, by omega⟩
    · intro h7
      exfalso; omega

set_option maxHeartbeats 4000000 in
theorem mactXH_3 {xs : List Int32} {e : Nat} {ac : Int} {M0 M : nM} {k s : Int} (hS : Sf 3 ac M0 M) (hdm : M0 112 0 = 3) (hk : 4 ≤ k ∧ k ≤ 2147483647) (hs : -2147483648 ≤ s ∧ s ≤ 2147483647) : nW xs (e + 1) 148 0 [some (2, 112), some (0, k), some (0, s), none, none, none] [] M (nPI fun z M1 => M = M1 ∧ (-2 ≤ z ∧ z ≤ -2)) := by
  have hd : (3 : Int) = 2 ∨ (3 : Int) = 3 := by decide
  have hac := hS.2.2.2.2
  refine n_iload_n c_148_0 rfl ?_
  refine n_s1I c_148_1 rfl rfl rfl rfl (misSlotF_3 (s := s) hS (by omega)) ?_
  intro z1 M2 hP3
  obtain ⟨eM, f3, f3p0⟩ := hP3
  subst eM
  refine n_if0_eq c_148_4 (by omega) ?_ ?_
  · intro h4
    refine n_bipush c_148_17 rfl ?_
    exact n_rI c_148_19 rfl ⟨rfl, by omega⟩
  · intro h5
    refine n_iload_n c_148_7 rfl ?_
    refine n_iconst c_148_8 ?_
    refine n_if2_lt c_148_9 (by omega) (by omega) ?_ ?_
    · intro h6
      exfalso; omega
    · intro h7
      refine n_iload_n c_148_12 rfl ?_
      refine n_iconst c_148_13 ?_
      refine n_if2_le c_148_14 (by omega) (by omega) ?_ ?_
      · intro h8
        exfalso; omega
      · intro h9
        refine n_bipush c_148_17 rfl ?_
        exact n_rI c_148_19 rfl ⟨rfl, by omega⟩

set_option maxHeartbeats 4000000 in
theorem lawXL_3 {xs : List Int32} {e : Nat} {ac : Int} {M0 M : nM} {k s : Int} (hS : Sf 3 ac M0 M) (hk : -2147483648 ≤ k ∧ k ≤ 0) (hs : -2147483648 ≤ s ∧ s ≤ 2147483647) : nW xs (e + 2) 98 0 [some (2, 3), some (0, k), some (0, s), none] [] M (nPI fun z M1 => M = M1 ∧ (-2 ≤ z ∧ z ≤ -2)) := by
  have hd : (3 : Int) = 2 ∨ (3 : Int) = 3 := by decide
  have hac := hS.2.2.2.2
  refine n_aload_n c_98_0 rfl ?_
  refine n_getR c_98_1 sc_3.n rfl rfl rfl r_3_1 ?_
  refine n_iload_n c_98_4 rfl ?_
  refine n_v1I c_98_5 rfl sc_8.n rfl rfl rfl rfl (isSlotF_3 (s := s) hS (by omega)) ?_
  intro z1 M2 hP3
  obtain ⟨eM, f3, f3p0⟩ := hP3
  subst eM
  refine n_if0_eq c_98_8 (by omega) ?_ ?_
  · intro h4
    refine n_bipush c_98_19 rfl ?_
    exact n_rI c_98_21 rfl ⟨rfl, by omega⟩
  · intro h5
    refine n_aload_n c_98_11 rfl ?_
    refine n_iload_n c_98_12 rfl ?_
    refine n_v1I c_98_13 rfl sc_3.n rfl rfl rfl rfl (isPlaceCountF_3 (k := k) hS (by omega)) ?_
    intro z6 M7 hP8
    obtain ⟨eM, f8, f8p0⟩ := hP8
    subst eM
    refine n_if0_ne c_98_16 (by omega) ?_ ?_
    · intro h9
      exfalso; omega
    · intro h10
      refine n_bipush c_98_19 rfl ?_
      exact n_rI c_98_21 rfl ⟨rfl, by omega⟩
