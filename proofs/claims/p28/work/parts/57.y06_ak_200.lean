/-! What the methods tell. -/
set_option maxHeartbeats 4000000 in
theorem raddY_2 {xs : List Int32} {e : Nat} {ac : Int} {M : nM} {l x y w gd : Int} (hS : Sf 2 ac M M) (hl : 0 ≤ l ∧ l ≤ 11) (hx : 0 ≤ x ∧ x ≤ 7) (hy : 0 ≤ y ∧ y ≤ 7) (hw : 0 ≤ w ∧ w ≤ 7) (hgd : M 112 0 = gd) (hc : M 32 1 ≤ 29) : nW xs e 76 0 [some (2, 32), some (0, l), some (0, x), some (0, y), some (0, w)] [] M (nPI fun z M1 => Sf 2 ac M1 M1 ∧ (-2147483648 ≤ z ∧ z ≤ 2147483647) ∧ (M1 112 0 = gd) ∧ (z = M 32 1 ∧ M1 32 1 = M 32 1 + 1 ∧ ∀ a i : Int, core a i → ¬ ((a = 32 ∧ i = 1) ∨ (a = 3 ∧ i = 18)) → ¬ (33 ≤ a ∧ a ≤ 36 ∧ i = M 32 1) → M1 a i = M a i) ∧ (M1 33 (M 32 1) = l ∧ M1 34 (M 32 1) = x ∧ M1 35 (M 32 1) = y ∧ M1 36 (M 32 1) = w) ∧ (∀ a i : Int, a = 3 → M1 a i = M a i)) := by
  have hd : (2 : Int) = 2 ∨ (2 : Int) = 3 := by decide
  have hac := hS.2.2.2.2
  refine n_aload_n c_76_0 rfl (n_getR c_76_1 sc_32.n rfl rfl rfl r_32_2 (n_aload_n c_76_4 rfl (n_getV (bi := 1) c_76_5 sc_32.n rfl rfl rfl (t_32_1 hS) ?_)))
  intro z1 ez1 f2
  refine n_iload_n c_76_8 rfl (n_iastoreM hS c_76_9 sc_33.n rfl (by omega) (m_33 (by omega) (by omega)) ?_)
  intro M3 eM3 hS3
  have g3_0 : M3 112 0 = M 112 0 := by rw [eM3]; exact nu_a (by omega)
  have g3_1 : M3 32 1 = M 32 1 := by rw [eM3]; exact nu_a (by omega)
  refine n_aload_n c_76_10 rfl (n_getR c_76_11 sc_32.n rfl rfl rfl r_32_3 (n_aload_n c_76_14 rfl (n_getV (bi := 1) c_76_15 sc_32.n rfl rfl rfl (t_32_1 hS3) ?_)))
  intro z4 ez4 f5
  refine n_iload_n c_76_18 rfl (n_iastoreM hS3 c_76_19 sc_34.n rfl (by omega) (m_34 (by omega) (by omega)) ?_)
  intro M6 eM6 hS6
  have g6_0 : M6 112 0 = M3 112 0 := by rw [eM6]; exact nu_a (by omega)
  have g6_1 : M6 32 1 = M3 32 1 := by rw [eM6]; exact nu_a (by omega)
  refine n_aload_n c_76_20 rfl (n_getR c_76_21 sc_32.n rfl rfl rfl r_32_4 (n_aload_n c_76_24 rfl (n_getV (bi := 1) c_76_25 sc_32.n rfl rfl rfl (t_32_1 hS6) ?_)))
  intro z7 ez7 f8
  refine n_iload_n c_76_28 rfl (n_iastoreM hS6 c_76_29 sc_35.n rfl (by omega) (m_35 (by omega) (by omega)) ?_)
  intro M9 eM9 hS9
  have g9_0 : M9 112 0 = M6 112 0 := by rw [eM9]; exact nu_a (by omega)
  have g9_1 : M9 32 1 = M6 32 1 := by rw [eM9]; exact nu_a (by omega)
  refine n_aload_n c_76_30 rfl (n_getR c_76_31 sc_32.n rfl rfl rfl r_32_5 (n_aload_n c_76_34 rfl (n_getV (bi := 1) c_76_35 sc_32.n rfl rfl rfl (t_32_1 hS9) ?_)))
  intro z10 ez10 f11
  refine n_iload c_76_38 rfl (n_iastoreM hS9 c_76_40 sc_36.n rfl (by omega) (m_36 (by omega) (by omega)) ?_)
  intro M12 eM12 hS12
  have g12_0 : M12 112 0 = M9 112 0 := by rw [eM12]; exact nu_a (by omega)
  have g12_1 : M12 32 1 = M9 32 1 := by rw [eM12]; exact nu_a (by omega)
  refine n_aload_n c_76_41 rfl (n_dup2 c_76_42 (n_getV (bi := 1) c_76_43 sc_32.n rfl rfl rfl (t_32_1 hS12) ?_))
  intro z13 ez13 f14
  refine n_dup_x102 c_76_46 (n_iconst c_76_47 (n_iadd c_76_48 rfl (n_putM (bi := 1) hS12 c_76_49 sc_32.n rfl rfl rfl rfl (m_32_1 (by omega)) ?_)))
  intro M15 eM15 hS15
  have g15_0 : M15 112 0 = M12 112 0 := by rw [eM15]; exact nu_a (by omega)
  have g15_1 : M15 32 1 = (z13 + 1) := by rw [eM15]; exact nu_s _ _ _ _
  exact n_rI c_76_52 rfl ⟨hS15, by omega, by omega, by exact ⟨by omega, by omega, fun a i hc w1 w2 => by rw [eM15, nu_e, if_neg (by omega), eM12, nu_e, if_neg (by omega), eM9, nu_e, if_neg (by omega), eM6, nu_e, if_neg (by omega), eM3, nu_e, if_neg (by omega)]⟩, by exact ⟨by rw [eM15, nu_a (by omega), eM12, nu_a (by omega), eM9, nu_a (by omega), eM6, nu_a (by omega), eM3, nu_e, if_pos (by omega)], by rw [eM15, nu_a (by omega), eM12, nu_a (by omega), eM9, nu_a (by omega), eM6, nu_e, if_pos (by omega)], by rw [eM15, nu_a (by omega), eM12, nu_a (by omega), eM9, nu_e, if_pos (by omega)], by rw [eM15, nu_a (by omega), eM12, nu_e, if_pos (by omega)]⟩, by exact fun a i h3 => by rw [eM15, nu_a (by omega), eM12, nu_a (by omega), eM9, nu_a (by omega), eM6, nu_a (by omega), eM3, nu_a (by omega)]⟩

set_option maxHeartbeats 4000000 in
theorem askY_2 {xs : List Int32} {e : Nat} {ac : Int} {M : nM} {l x y w gd : Int} (hS : Sf 2 ac M M) (hl : -2147483648 ≤ l ∧ l ≤ 2147483647) (hx : -2147483648 ≤ x ∧ x ≤ 2147483647) (hy : -2147483648 ≤ y ∧ y ≤ 2147483647) (hw : -2147483648 ≤ w ∧ w ≤ 2147483647) (hgd : M 112 0 = gd) : nW xs (e + 1) 116 0 [some (2, 3), some (0, l), some (0, x), some (0, y), some (0, w), none, none, none] [] M (nPI fun z M1 => Sf 2 ac M1 M1 ∧ (-2147483648 ≤ z ∧ z ≤ 2147483647) ∧ (M1 112 0 = gd) ∧ (cAsk l x y w z M M1) ∧ (cAskR l x y w z M M1)) := by
  have hd : (2 : Int) = 2 ∨ (2 : Int) = 3 := by decide
  have hac := hS.2.2.2.2
  refine n_aload_n c_116_0 rfl (n_iload_n c_116_1 rfl (n_v1I c_116_2 rfl sc_3.n rfl rfl rfl rfl (isLawF_2 (l := l) hS (by omega)) ?_))
  intro z1 M2 hP3
  obtain ⟨eM, f3, f3p0⟩ := hP3
  subst eM
  refine n_if0_ne c_116_5 (by omega) ?_ ?_
  · intro h4
    refine n_aload_n c_116_11 rfl (n_getR c_116_12 sc_3.n rfl rfl rfl r_3_3 (n_iload_n c_116_15 rfl (n_aaload c_116_16 sc_13.n rfl rfl rfl (by omega) (r_laws _) ?_)))
    have q5 : LawAt (79 + 2 * l) := by unfold LawAt; omega
    refine n_getV (bi := 0) c_116_17 q5.c0.1.n rfl rfl rfl (t_law hS q5).1 ?_
    intro z6 ez6 f7
    refine n_istore (L2 := [some (2, 3), some (0, l), some (0, x), some (0, y), some (0, w), some (0, z6), none, none]) c_116_20 rfl rfl (n_iload c_116_22 rfl (n_iconst c_116_24 ?_))
    refine n_if2_le c_116_25 (by omega) (by omega) ?_ ?_
    · intro h8
      refine n_iload_n c_116_32 rfl (n_istore (L2 := [some (2, 3), some (0, l), some (0, x), some (0, y), some (0, w), some (0, z6), some (0, x), none]) c_116_33 rfl rfl (n_iload c_116_35 rfl (n_iconst c_116_37 ?_)))
      refine n_if2_le c_116_38 (by omega) (by omega) ?_ ?_
      · intro h9
        refine n_iload c_116_46 rfl (n_istore (L2 := [some (2, 3), some (0, l), some (0, x), some (0, y), some (0, w), some (0, z6), some (0, x), some (0, x)]) c_116_48 rfl rfl (n_aload_n c_116_50 rfl (n_getR c_116_51 sc_3.n rfl rfl rfl r_3_6 (n_iload_n c_116_54 rfl (n_v1I c_116_55 rfl sc_32.n rfl rfl rfl rfl (isUnknownF_2 (u := x) hS (by omega)) ?_)))))
        intro z10 M11 hP12
        obtain ⟨eM, f12, f12p0⟩ := hP12
        subst eM
        refine n_if0_eq c_116_58 (by omega) ?_ ?_
        · intro h13
          refine n_bipush c_116_85 rfl ?_
          exact n_rI c_116_87 rfl ⟨hS, by omega, by omega, by exact Or.inl ⟨Or.inr (Or.inr (fun q => by obtain ⟨⟨q1, q2⟩, q3, q4⟩ := q; have q3 : 1 < M (79 + 2 * l) 0 → (0 ≤ y ∧ y < M 32 0) := q3; have q4 : 2 < M (79 + 2 * l) 0 → (0 ≤ w ∧ w < M 32 0) := q4; omega)), rfl, fun _ _ _ => rfl⟩, by exact fun u => by omega⟩
        · intro h14
          refine n_aload_n c_116_61 rfl (n_getR c_116_62 sc_3.n rfl rfl rfl r_3_6 (n_iload c_116_65 rfl (n_v1I c_116_67 rfl sc_32.n rfl rfl rfl rfl (isUnknownF_2 (u := x) hS (by omega)) ?_)))
          intro z15 M16 hP17
          obtain ⟨eM, f17, f17p0⟩ := hP17
          subst eM
          refine n_if0_eq c_116_70 (by omega) ?_ ?_
          · intro h18
            refine n_bipush c_116_85 rfl ?_
            exact n_rI c_116_87 rfl ⟨hS, by omega, by omega, by exact Or.inl ⟨Or.inr (Or.inr (fun q => by obtain ⟨⟨q1, q2⟩, q3, q4⟩ := q; have q3 : 1 < M (79 + 2 * l) 0 → (0 ≤ y ∧ y < M 32 0) := q3; have q4 : 2 < M (79 + 2 * l) 0 → (0 ≤ w ∧ w < M 32 0) := q4; omega)), rfl, fun _ _ _ => rfl⟩, by exact fun u => by omega⟩
          · intro h19
            refine n_aload_n c_116_73 rfl (n_getR c_116_74 sc_3.n rfl rfl rfl r_3_6 (n_iload c_116_77 rfl (n_v1I c_116_79 rfl sc_32.n rfl rfl rfl rfl (isUnknownF_2 (u := x) hS (by omega)) ?_)))
            intro z20 M21 hP22
            obtain ⟨eM, f22, f22p0⟩ := hP22
            subst eM
            refine n_if0_ne c_116_82 (by omega) ?_ ?_
            · intro h23
              refine n_aload_n c_116_88 rfl (n_getR c_116_89 sc_3.n rfl rfl rfl r_3_6 (n_getV (bi := 1) c_116_92 sc_32.n rfl rfl rfl (t_32_1 hS) ?_))
              intro z24 ez24 f25
              refine n_bipush c_116_95 rfl ?_
              refine n_if2_lt c_116_97 (by omega) (by omega) ?_ ?_
              · intro h26
                refine n_aload_n c_116_103 rfl (n_iconst c_116_104 (n_putZM (bi := 18) hS c_116_105 sc_3.n rfl rfl rfl (by omega) rfl (m_3_18 (by omega)) ?_))
                intro M27 eM27 hS27
                have g27_0 : M27 112 0 = M 112 0 := by rw [eM27]; exact nu_a (by omega)
                have g27_1 : M27 32 1 = M 32 1 := by rw [eM27]; exact nu_a (by omega)
                have g27_2 : M27 3 18 = 0 := by rw [eM27]; exact nu_s _ _ _ _
                refine n_aload_n c_116_108 rfl (n_getR c_116_109 sc_3.n rfl rfl rfl r_3_6 (n_iload_n c_116_112 rfl (n_iload_n c_116_113 rfl (n_iload c_116_114 rfl (n_iload c_116_116 rfl (n_v4I c_116_118 rfl sc_32.n rfl rfl rfl rfl (raddY_2 (l := l) (x := x) (y := x) (w := x) (gd := (M27 112 0)) hS27 (by omega) (by omega) (by omega) (by omega) rfl (by omega)) ?_))))))
                intro z28 M29 hP30
                obtain ⟨hS29, f30, f30g0, f30p0, f30p1, f30p2⟩ := hP30
                exact n_rI c_116_121 rfl ⟨hS29, by omega, by omega, by have ec : ∀ a i : Int, core a i → ¬ (a = 3 ∧ i = 18) → M27 a i = M a i := fun a i hc h18 => (by rw [eM27, nu_e, if_neg (by omega)]); have e1 := ec 32 1 (by unfold core; omega) (by omega); obtain ⟨u1, u2, u3⟩ := f30p0; exact Or.inr (Or.inr ⟨by omega, by omega, ⟨⟨by omega, by omega⟩, fun h => ⟨by omega, by omega⟩, fun h => ⟨by omega, by omega⟩⟩, by omega, by omega, by omega, fun a i hc w1 w2 => by rw [u3 a i hc w1 (by omega), ec a i hc (by unfold core at hc; omega)]⟩), by intro _; have e1 : M27 32 1 = M 32 1 := (by rw [eM27, nu_a (by omega)]); obtain ⟨k1, k2, k3⟩ := f30p0; obtain ⟨u1, u2, u3, u4⟩ := f30p1; rw [e1] at k1 u1 u2 u3 u4; subst k1; exact ⟨u1, u2, by rw [u3]; split <;> omega, by rw [u4]; repeat (first | omega | split)⟩⟩
              · intro h31
                refine n_bipush c_116_100 rfl ?_
                exact n_rI c_116_102 rfl ⟨hS, by omega, by omega, by exact Or.inr (Or.inl ⟨by omega, by omega, ⟨⟨by omega, by omega⟩, fun h => ⟨by omega, by omega⟩, fun h => ⟨by omega, by omega⟩⟩, by omega, rfl, fun _ _ _ => rfl⟩), by exact fun u => by omega⟩
            · intro h32
              refine n_bipush c_116_85 rfl ?_
              exact n_rI c_116_87 rfl ⟨hS, by omega, by omega, by exact Or.inl ⟨Or.inr (Or.inr (fun q => by obtain ⟨⟨q1, q2⟩, q3, q4⟩ := q; have q3 : 1 < M (79 + 2 * l) 0 → (0 ≤ y ∧ y < M 32 0) := q3; have q4 : 2 < M (79 + 2 * l) 0 → (0 ≤ w ∧ w < M 32 0) := q4; omega)), rfl, fun _ _ _ => rfl⟩, by exact fun u => by omega⟩
      · intro h33
        exfalso; omega
    · intro h34
      refine n_iload_n c_116_28 rfl (n_goto c_116_29 (n_istore (L2 := [some (2, 3), some (0, l), some (0, x), some (0, y), some (0, w), some (0, z6), some (0, y), none]) c_116_33 rfl rfl (n_iload c_116_35 rfl (n_iconst c_116_37 ?_))))
      refine n_if2_le c_116_38 (by omega) (by omega) ?_ ?_
      · intro h35
        refine n_iload c_116_46 rfl (n_istore (L2 := [some (2, 3), some (0, l), some (0, x), some (0, y), some (0, w), some (0, z6), some (0, y), some (0, y)]) c_116_48 rfl rfl (n_aload_n c_116_50 rfl (n_getR c_116_51 sc_3.n rfl rfl rfl r_3_6 (n_iload_n c_116_54 rfl (n_v1I c_116_55 rfl sc_32.n rfl rfl rfl rfl (isUnknownF_2 (u := x) hS (by omega)) ?_)))))
        intro z36 M37 hP38
        obtain ⟨eM, f38, f38p0⟩ := hP38
        subst eM
        refine n_if0_eq c_116_58 (by omega) ?_ ?_
        · intro h39
          refine n_bipush c_116_85 rfl ?_
          exact n_rI c_116_87 rfl ⟨hS, by omega, by omega, by exact Or.inl ⟨Or.inr (Or.inr (fun q => by obtain ⟨⟨q1, q2⟩, q3, q4⟩ := q; have q3 : 1 < M (79 + 2 * l) 0 → (0 ≤ y ∧ y < M 32 0) := q3; have q4 : 2 < M (79 + 2 * l) 0 → (0 ≤ w ∧ w < M 32 0) := q4; omega)), rfl, fun _ _ _ => rfl⟩, by exact fun u => by omega⟩
        · intro h40
          refine n_aload_n c_116_61 rfl (n_getR c_116_62 sc_3.n rfl rfl rfl r_3_6 (n_iload c_116_65 rfl (n_v1I c_116_67 rfl sc_32.n rfl rfl rfl rfl (isUnknownF_2 (u := y) hS (by omega)) ?_)))
          intro z41 M42 hP43
          obtain ⟨eM, f43, f43p0⟩ := hP43
          subst eM
          refine n_if0_eq c_116_70 (by omega) ?_ ?_
          · intro h44
            refine n_bipush c_116_85 rfl ?_
            exact n_rI c_116_87 rfl ⟨hS, by omega, by omega, by exact Or.inl ⟨Or.inr (Or.inr (fun q => by obtain ⟨⟨q1, q2⟩, q3, q4⟩ := q; have q3 : 1 < M (79 + 2 * l) 0 → (0 ≤ y ∧ y < M 32 0) := q3; have q4 : 2 < M (79 + 2 * l) 0 → (0 ≤ w ∧ w < M 32 0) := q4; omega)), rfl, fun _ _ _ => rfl⟩, by exact fun u => by omega⟩
          · intro h45
            refine n_aload_n c_116_73 rfl (n_getR c_116_74 sc_3.n rfl rfl rfl r_3_6 (n_iload c_116_77 rfl (n_v1I c_116_79 rfl sc_32.n rfl rfl rfl rfl (isUnknownF_2 (u := y) hS (by omega)) ?_)))
            intro z46 M47 hP48
            obtain ⟨eM, f48, f48p0⟩ := hP48
            subst eM
            refine n_if0_ne c_116_82 (by omega) ?_ ?_
            · intro h49
              refine n_aload_n c_116_88 rfl (n_getR c_116_89 sc_3.n rfl rfl rfl r_3_6 (n_getV (bi := 1) c_116_92 sc_32.n rfl rfl rfl (t_32_1 hS) ?_))
              intro z50 ez50 f51
              refine n_bipush c_116_95 rfl ?_
              refine n_if2_lt c_116_97 (by omega) (by omega) ?_ ?_
              · intro h52
                refine n_aload_n c_116_103 rfl (n_iconst c_116_104 (n_putZM (bi := 18) hS c_116_105 sc_3.n rfl rfl rfl (by omega) rfl (m_3_18 (by omega)) ?_))
                intro M53 eM53 hS53
                have g53_0 : M53 112 0 = M 112 0 := by rw [eM53]; exact nu_a (by omega)
                have g53_1 : M53 32 1 = M 32 1 := by rw [eM53]; exact nu_a (by omega)
                have g53_2 : M53 3 18 = 0 := by rw [eM53]; exact nu_s _ _ _ _
                refine n_aload_n c_116_108 rfl (n_getR c_116_109 sc_3.n rfl rfl rfl r_3_6 (n_iload_n c_116_112 rfl (n_iload_n c_116_113 rfl (n_iload c_116_114 rfl (n_iload c_116_116 rfl (n_v4I c_116_118 rfl sc_32.n rfl rfl rfl rfl (raddY_2 (l := l) (x := x) (y := y) (w := y) (gd := (M53 112 0)) hS53 (by omega) (by omega) (by omega) (by omega) rfl (by omega)) ?_))))))
                intro z54 M55 hP56
                obtain ⟨hS55, f56, f56g0, f56p0, f56p1, f56p2⟩ := hP56
                exact n_rI c_116_121 rfl ⟨hS55, by omega, by omega, by have ec : ∀ a i : Int, core a i → ¬ (a = 3 ∧ i = 18) → M53 a i = M a i := fun a i hc h18 => (by rw [eM53, nu_e, if_neg (by omega)]); have e1 := ec 32 1 (by unfold core; omega) (by omega); obtain ⟨u1, u2, u3⟩ := f56p0; exact Or.inr (Or.inr ⟨by omega, by omega, ⟨⟨by omega, by omega⟩, fun h => ⟨by omega, by omega⟩, fun h => ⟨by omega, by omega⟩⟩, by omega, by omega, by omega, fun a i hc w1 w2 => by rw [u3 a i hc w1 (by omega), ec a i hc (by unfold core at hc; omega)]⟩), by intro _; have e1 : M53 32 1 = M 32 1 := (by rw [eM53, nu_a (by omega)]); obtain ⟨k1, k2, k3⟩ := f56p0; obtain ⟨u1, u2, u3, u4⟩ := f56p1; rw [e1] at k1 u1 u2 u3 u4; subst k1; exact ⟨u1, u2, by rw [u3]; split <;> omega, by rw [u4]; repeat (first | omega | split)⟩⟩
              · intro h57
                refine n_bipush c_116_100 rfl ?_
                exact n_rI c_116_102 rfl ⟨hS, by omega, by omega, by exact Or.inr (Or.inl ⟨by omega, by omega, ⟨⟨by omega, by omega⟩, fun h => ⟨by omega, by omega⟩, fun h => ⟨by omega, by omega⟩⟩, by omega, rfl, fun _ _ _ => rfl⟩), by exact fun u => by omega⟩
            · intro h58
              refine n_bipush c_116_85 rfl ?_
              exact n_rI c_116_87 rfl ⟨hS, by omega, by omega, by exact Or.inl ⟨Or.inr (Or.inr (fun q => by obtain ⟨⟨q1, q2⟩, q3, q4⟩ := q; have q3 : 1 < M (79 + 2 * l) 0 → (0 ≤ y ∧ y < M 32 0) := q3; have q4 : 2 < M (79 + 2 * l) 0 → (0 ≤ w ∧ w < M 32 0) := q4; omega)), rfl, fun _ _ _ => rfl⟩, by exact fun u => by omega⟩
      · intro h59
        refine n_iload c_116_41 rfl (n_goto c_116_43 (n_istore (L2 := [some (2, 3), some (0, l), some (0, x), some (0, y), some (0, w), some (0, z6), some (0, y), some (0, w)]) c_116_48 rfl rfl (n_aload_n c_116_50 rfl (n_getR c_116_51 sc_3.n rfl rfl rfl r_3_6 (n_iload_n c_116_54 rfl (n_v1I c_116_55 rfl sc_32.n rfl rfl rfl rfl (isUnknownF_2 (u := x) hS (by omega)) ?_))))))
        intro z60 M61 hP62
        obtain ⟨eM, f62, f62p0⟩ := hP62
        subst eM
        refine n_if0_eq c_116_58 (by omega) ?_ ?_
        · intro h63
          refine n_bipush c_116_85 rfl ?_
          exact n_rI c_116_87 rfl ⟨hS, by omega, by omega, by exact Or.inl ⟨Or.inr (Or.inr (fun q => by obtain ⟨⟨q1, q2⟩, q3, q4⟩ := q; have q3 : 1 < M (79 + 2 * l) 0 → (0 ≤ y ∧ y < M 32 0) := q3; have q4 : 2 < M (79 + 2 * l) 0 → (0 ≤ w ∧ w < M 32 0) := q4; omega)), rfl, fun _ _ _ => rfl⟩, by exact fun u => by omega⟩
        · intro h64
          refine n_aload_n c_116_61 rfl (n_getR c_116_62 sc_3.n rfl rfl rfl r_3_6 (n_iload c_116_65 rfl (n_v1I c_116_67 rfl sc_32.n rfl rfl rfl rfl (isUnknownF_2 (u := y) hS (by omega)) ?_)))
          intro z65 M66 hP67
          obtain ⟨eM, f67, f67p0⟩ := hP67
          subst eM
          refine n_if0_eq c_116_70 (by omega) ?_ ?_
          · intro h68
            refine n_bipush c_116_85 rfl ?_
            exact n_rI c_116_87 rfl ⟨hS, by omega, by omega, by exact Or.inl ⟨Or.inr (Or.inr (fun q => by obtain ⟨⟨q1, q2⟩, q3, q4⟩ := q; have q3 : 1 < M (79 + 2 * l) 0 → (0 ≤ y ∧ y < M 32 0) := q3; have q4 : 2 < M (79 + 2 * l) 0 → (0 ≤ w ∧ w < M 32 0) := q4; omega)), rfl, fun _ _ _ => rfl⟩, by exact fun u => by omega⟩
          · intro h69
            refine n_aload_n c_116_73 rfl (n_getR c_116_74 sc_3.n rfl rfl rfl r_3_6 (n_iload c_116_77 rfl (n_v1I c_116_79 rfl sc_32.n rfl rfl rfl rfl (isUnknownF_2 (u := w) hS (by omega)) ?_)))
            intro z70 M71 hP72
            obtain ⟨eM, f72, f72p0⟩ := hP72
            subst eM
            refine n_if0_ne c_116_82 (by omega) ?_ ?_
            · intro h73
              refine n_aload_n c_116_88 rfl (n_getR c_116_89 sc_3.n rfl rfl rfl r_3_6 (n_getV (bi := 1) c_116_92 sc_32.n rfl rfl rfl (t_32_1 hS) ?_))
              intro z74 ez74 f75
              refine n_bipush c_116_95 rfl ?_
              refine n_if2_lt c_116_97 (by omega) (by omega) ?_ ?_
              · intro h76
                refine n_aload_n c_116_103 rfl (n_iconst c_116_104 (n_putZM (bi := 18) hS c_116_105 sc_3.n rfl rfl rfl (by omega) rfl (m_3_18 (by omega)) ?_))
                intro M77 eM77 hS77
                have g77_0 : M77 112 0 = M 112 0 := by rw [eM77]; exact nu_a (by omega)
                have g77_1 : M77 32 1 = M 32 1 := by rw [eM77]; exact nu_a (by omega)
                have g77_2 : M77 3 18 = 0 := by rw [eM77]; exact nu_s _ _ _ _
                refine n_aload_n c_116_108 rfl (n_getR c_116_109 sc_3.n rfl rfl rfl r_3_6 (n_iload_n c_116_112 rfl (n_iload_n c_116_113 rfl (n_iload c_116_114 rfl (n_iload c_116_116 rfl (n_v4I c_116_118 rfl sc_32.n rfl rfl rfl rfl (raddY_2 (l := l) (x := x) (y := y) (w := w) (gd := (M77 112 0)) hS77 (by omega) (by omega) (by omega) (by omega) rfl (by omega)) ?_))))))
                intro z78 M79 hP80
                obtain ⟨hS79, f80, f80g0, f80p0, f80p1, f80p2⟩ := hP80
                exact n_rI c_116_121 rfl ⟨hS79, by omega, by omega, by have ec : ∀ a i : Int, core a i → ¬ (a = 3 ∧ i = 18) → M77 a i = M a i := fun a i hc h18 => (by rw [eM77, nu_e, if_neg (by omega)]); have e1 := ec 32 1 (by unfold core; omega) (by omega); obtain ⟨u1, u2, u3⟩ := f80p0; exact Or.inr (Or.inr ⟨by omega, by omega, ⟨⟨by omega, by omega⟩, fun h => ⟨by omega, by omega⟩, fun h => ⟨by omega, by omega⟩⟩, by omega, by omega, by omega, fun a i hc w1 w2 => by rw [u3 a i hc w1 (by omega), ec a i hc (by unfold core at hc; omega)]⟩), by intro _; have e1 : M77 32 1 = M 32 1 := (by rw [eM77, nu_a (by omega)]); obtain ⟨k1, k2, k3⟩ := f80p0; obtain ⟨u1, u2, u3, u4⟩ := f80p1; rw [e1] at k1 u1 u2 u3 u4; subst k1; exact ⟨u1, u2, by rw [u3]; split <;> omega, by rw [u4]; repeat (first | omega | split)⟩⟩
              · intro h81
                refine n_bipush c_116_100 rfl ?_
                exact n_rI c_116_102 rfl ⟨hS, by omega, by omega, by exact Or.inr (Or.inl ⟨by omega, by omega, ⟨⟨by omega, by omega⟩, fun h => ⟨by omega, by omega⟩, fun h => ⟨by omega, by omega⟩⟩, by omega, rfl, fun _ _ _ => rfl⟩), by exact fun u => by omega⟩
            · intro h82
              refine n_bipush c_116_85 rfl ?_
              exact n_rI c_116_87 rfl ⟨hS, by omega, by omega, by exact Or.inl ⟨Or.inr (Or.inr (fun q => by obtain ⟨⟨q1, q2⟩, q3, q4⟩ := q; have q3 : 1 < M (79 + 2 * l) 0 → (0 ≤ y ∧ y < M 32 0) := q3; have q4 : 2 < M (79 + 2 * l) 0 → (0 ≤ w ∧ w < M 32 0) := q4; omega)), rfl, fun _ _ _ => rfl⟩, by exact fun u => by omega⟩
  · intro h83
    refine n_bipush c_116_8 rfl ?_
    exact n_rI c_116_10 rfl ⟨hS, by omega, by omega, by exact Or.inl ⟨by omega, rfl, fun _ _ _ => rfl⟩, by exact fun u => by omega⟩

set_option maxHeartbeats 4000000 in
theorem maskY_2 {xs : List Int32} {e : Nat} {ac : Int} {M : nM} {l x y w gd : Int} (hS : Sf 2 ac M M) (hdm : M 112 0 = 2) (hl : -2147483648 ≤ l ∧ l ≤ 2147483647) (hx : -2147483648 ≤ x ∧ x ≤ 2147483647) (hy : -2147483648 ≤ y ∧ y ≤ 2147483647) (hw : -2147483648 ≤ w ∧ w ≤ 2147483647) (hgd : M 112 0 = gd) : nW xs (e + 1) 189 0 [some (2, 112), some (0, l), some (0, x), some (0, y), some (0, w)] [] M (nPI fun z M1 => Sf 2 ac M1 M1 ∧ (-2147483648 ≤ z ∧ z ≤ 2147483647) ∧ (M1 112 0 = gd) ∧ (mAsk l x y w z M M1) ∧ (mAskR l x y w z M1)) := by
  have hd : (2 : Int) = 2 ∨ (2 : Int) = 3 := by decide
  have hac := hS.2.2.2.2
  refine n_iload_n c_189_0 rfl ?_
  refine n_if0_lt c_189_1 (by omega) ?_ ?_
  · intro h1
    refine n_bipush c_189_57 rfl ?_
    exact n_rI c_189_59 rfl ⟨hS, by omega, by omega, by first | exact Or.inl ⟨by omega, rfl, fun _ _ _ => rfl⟩ | exact Or.inl ⟨Or.inr (Or.inr (fun q => by obtain ⟨⟨q1, q2⟩, q3, q4⟩ := q; have q3 : 1 < M 118 l → (0 ≤ y ∧ y < M 112 10) := q3; have q4 : 2 < M 118 l → (0 ≤ w ∧ w < M 112 10) := q4; omega)), rfl, fun _ _ _ => rfl⟩, by exact fun u => by omega⟩
  · intro h2
    refine n_iload_n c_189_4 rfl (n_aload_n c_189_5 rfl (n_getV (bi := 7) c_189_6 sc_112.n rfl rfl rfl (t_112_7 hS) ?_))
    intro z3 ez3 f4
    refine n_if2_ge c_189_9 (by omega) (by omega) ?_ ?_
    · intro h5
      refine n_bipush c_189_57 rfl ?_
      exact n_rI c_189_59 rfl ⟨hS, by omega, by omega, by first | exact Or.inl ⟨by omega, rfl, fun _ _ _ => rfl⟩ | exact Or.inl ⟨Or.inr (Or.inr (fun q => by obtain ⟨⟨q1, q2⟩, q3, q4⟩ := q; have q3 : 1 < M 118 l → (0 ≤ y ∧ y < M 112 10) := q3; have q4 : 2 < M 118 l → (0 ≤ w ∧ w < M 112 10) := q4; omega)), rfl, fun _ _ _ => rfl⟩, by exact fun u => by omega⟩
    · intro h6
      refine n_aload_n c_189_12 rfl (n_iload_n c_189_13 rfl (n_v1I c_189_14 rfl sc_112.n rfl rfl rfl rfl (misUnknownF_2 (u := x) hS (by omega) (by omega)) ?_))
      intro z7 M8 hP9
      obtain ⟨eM, f9, f9p0⟩ := hP9
      subst eM
      refine n_if0_eq c_189_17 (by omega) ?_ ?_
      · intro h10
        refine n_bipush c_189_57 rfl ?_
        exact n_rI c_189_59 rfl ⟨hS, by omega, by omega, by first | exact Or.inl ⟨by omega, rfl, fun _ _ _ => rfl⟩ | exact Or.inl ⟨Or.inr (Or.inr (fun q => by obtain ⟨⟨q1, q2⟩, q3, q4⟩ := q; have q3 : 1 < M 118 l → (0 ≤ y ∧ y < M 112 10) := q3; have q4 : 2 < M 118 l → (0 ≤ w ∧ w < M 112 10) := q4; omega)), rfl, fun _ _ _ => rfl⟩, by exact fun u => by omega⟩
      · intro h11
        refine n_aload_n c_189_20 rfl (n_getR c_189_21 sc_112.n rfl rfl rfl r_112_8 (n_iload_n c_189_24 rfl (n_ialoadV c_189_25 sc_118.n rfl rfl rfl (by omega) (t_118 hS (by omega)) ?_)))
        intro z12 ez12 f13
        refine n_iconst c_189_26 ?_
        refine n_if2_le c_189_27 (by omega) (by omega) ?_ ?_
        · intro h14
          refine n_aload_n c_189_38 rfl (n_getR c_189_39 sc_112.n rfl rfl rfl r_112_8 (n_iload_n c_189_42 rfl (n_ialoadV c_189_43 sc_118.n rfl rfl rfl (by omega) (t_118 hS (by omega)) ?_)))
          intro z15 ez15 f16
          refine n_iconst c_189_44 ?_
          refine n_if2_le c_189_45 (by omega) (by omega) ?_ ?_
          · intro h17
            refine n_aload_n c_189_60 rfl (n_getV (bi := 11) c_189_61 sc_112.n rfl rfl rfl (t_112_11 hS) ?_)
            intro z18 ez18 f19
            refine n_bipush c_189_64 rfl ?_
            refine n_if2_ne c_189_66 (by omega) (by omega) ?_ ?_
            · intro h20
              refine n_aload_n c_189_72 rfl (n_getR c_189_73 sc_112.n rfl rfl rfl r_112_12 (n_aload_n c_189_76 rfl (n_getV (bi := 11) c_189_77 sc_112.n rfl rfl rfl (t_112_11 hS) ?_)))
              intro z21 ez21 f22
              obtain rfl : z18 = z21 := by omega
              refine n_iload_n c_189_80 rfl (n_iastoreG c_189_81 sc_120.n rfl (by omega) (hS.w120 (by omega) (by omega)) ?_)
              intro M23 eM23 hS23
              have g23_0 : M23 112 0 = M 112 0 := by rw [eM23]; exact nu_a (by omega)
              have g23_1 : M23 112 11 = M 112 11 := by rw [eM23]; exact nu_a (by omega)
              have g23_2 : M23 112 7 = M 112 7 := by rw [eM23]; exact nu_a (by omega)
              have g23_3 : M23 112 10 = M 112 10 := by rw [eM23]; exact nu_a (by omega)
              have g23_4 : M23 118 l = M 118 l := by rw [eM23]; exact nu_a (by omega)
              have g23_5 : M23 120 z18 = l := by rw [eM23]; exact nu_s _ _ _ _
              refine n_aload_n c_189_82 rfl (n_getR c_189_83 sc_112.n rfl rfl rfl r_112_13 (n_iconst c_189_86 (n_aload_n c_189_87 rfl (n_getV (bi := 11) c_189_88 sc_112.n rfl rfl rfl (t_112_11 hS23) ?_))))
              intro z24 ez24 f25
              obtain rfl : z18 = z24 := by omega
              refine n_imul c_189_91 rfl (n_iload_n c_189_92 rfl (n_iastoreG c_189_93 sc_121.n rfl (by omega) (hS23.w121 (by omega) (by omega)) ?_))
              intro M26 eM26 hS26
              have g26_0 : M26 112 0 = M23 112 0 := by rw [eM26]; exact nu_a (by omega)
              have g26_1 : M26 112 11 = M23 112 11 := by rw [eM26]; exact nu_a (by omega)
              have g26_2 : M26 112 7 = M23 112 7 := by rw [eM26]; exact nu_a (by omega)
              have g26_3 : M26 112 10 = M23 112 10 := by rw [eM26]; exact nu_a (by omega)
              have g26_4 : M26 118 l = M23 118 l := by rw [eM26]; exact nu_a (by omega)
              have g26_5 : M26 120 z18 = M23 120 z18 := by rw [eM26]; exact nu_a (by omega)
              have g26_6 : M26 121 (3 * z18) = x := by rw [eM26]; exact nu_s _ _ _ _
              refine n_aload_n c_189_94 rfl (n_getR c_189_95 sc_112.n rfl rfl rfl r_112_13 (n_iconst c_189_98 (n_aload_n c_189_99 rfl (n_getV (bi := 11) c_189_100 sc_112.n rfl rfl rfl (t_112_11 hS26) ?_))))
              intro z27 ez27 f28
              obtain rfl : z18 = z27 := by omega
              refine n_imul c_189_103 rfl (n_iconst c_189_104 (n_iadd c_189_105 rfl (n_iload_n c_189_106 rfl (n_iastoreG c_189_107 sc_121.n rfl (by omega) (hS26.w121 (by omega) (by omega)) ?_))))
              intro M29 eM29 hS29
              have g29_0 : M29 112 0 = M26 112 0 := by rw [eM29]; exact nu_a (by omega)
              have g29_1 : M29 112 11 = M26 112 11 := by rw [eM29]; exact nu_a (by omega)
              have g29_2 : M29 112 7 = M26 112 7 := by rw [eM29]; exact nu_a (by omega)
              have g29_3 : M29 112 10 = M26 112 10 := by rw [eM29]; exact nu_a (by omega)
              have g29_4 : M29 118 l = M26 118 l := by rw [eM29]; exact nu_a (by omega)
              have g29_5 : M29 120 z18 = M26 120 z18 := by rw [eM29]; exact nu_a (by omega)
              have g29_6 : M29 121 (3 * z18) = M26 121 (3 * z18) := by rw [eM29]; exact nu_i (by omega)
              have g29_7 : M29 121 ((3 * z18) + 1) = y := by rw [eM29]; exact nu_s _ _ _ _
              refine n_aload_n c_189_108 rfl (n_getR c_189_109 sc_112.n rfl rfl rfl r_112_13 (n_iconst c_189_112 (n_aload_n c_189_113 rfl (n_getV (bi := 11) c_189_114 sc_112.n rfl rfl rfl (t_112_11 hS29) ?_))))
              intro z30 ez30 f31
              obtain rfl : z18 = z30 := by omega
              refine n_imul c_189_117 rfl (n_iconst c_189_118 (n_iadd c_189_119 rfl (n_iload c_189_120 rfl (n_iastoreG c_189_122 sc_121.n rfl (by omega) (hS29.w121 (by omega) (by omega)) ?_))))
              intro M32 eM32 hS32
              have g32_0 : M32 112 0 = M29 112 0 := by rw [eM32]; exact nu_a (by omega)
              have g32_1 : M32 112 11 = M29 112 11 := by rw [eM32]; exact nu_a (by omega)
              have g32_2 : M32 112 7 = M29 112 7 := by rw [eM32]; exact nu_a (by omega)
              have g32_3 : M32 112 10 = M29 112 10 := by rw [eM32]; exact nu_a (by omega)
              have g32_4 : M32 118 l = M29 118 l := by rw [eM32]; exact nu_a (by omega)
              have g32_5 : M32 120 z18 = M29 120 z18 := by rw [eM32]; exact nu_a (by omega)
              have g32_6 : M32 121 (3 * z18) = M29 121 (3 * z18) := by rw [eM32]; exact nu_i (by omega)
              have g32_7 : M32 121 ((3 * z18) + 1) = M29 121 ((3 * z18) + 1) := by rw [eM32]; exact nu_i (by omega)
              have g32_8 : M32 121 ((3 * z18) + 2) = w := by rw [eM32]; exact nu_s _ _ _ _
              refine n_aload_n c_189_123 rfl (n_dup2 c_189_124 (n_getV (bi := 11) c_189_125 sc_112.n rfl rfl rfl (t_112_11 hS32) ?_))
              intro z33 ez33 f34
              obtain rfl : z18 = z33 := by omega
              refine n_iconst c_189_128 (n_iadd c_189_129 rfl ?_)
              refine n_putG (P := fun M2 => Sf 2 ac M2 M2) (bi := 11) c_189_130 sc_112.n rfl rfl rfl rfl (hS32.w112_11 (q := z18) (l := l) (by omega) (by omega) (by omega) (by omega) (fun j b1 b2 => by
                have t118 := t_118 hS32 (i := l) (by omega)
                rcases (show j = 0 ∨ j = 1 ∨ j = 2 by omega) with rfl | rfl | rfl
                · rw [show 3 * z18 + 0 = 3 * z18 by omega]; omega
                · omega
                · omega)) ?_
              intro M35 eM35 hS35
              have hgz : M35 112 0 = M32 112 0 := by rw [eM35]; exact nu_i (by omega)
              have hgy : M35 112 11 = (z18 + 1) := by rw [eM35]; exact nu_s _ _ _ _
              refine n_aload_n c_189_133 rfl (n_getV (bi := 11) c_189_134 sc_112.n rfl rfl rfl (t_112_11 hS35) ?_)
              intro z36 ez36 f37
              refine n_iconst c_189_137 (n_isub c_189_138 rfl ?_)
              exact n_rI c_189_139 rfl ⟨hS35, by omega, by omega, by exact Or.inr (Or.inr ⟨by omega, by omega, ⟨⟨by omega, by omega⟩, fun h => ⟨by omega, by omega⟩, fun h => ⟨by omega, by omega⟩⟩, by omega, by omega, by rw [eM35, nu_s]; omega, fun a i hc w1 w2 w3 => by rw [eM35, nu_e, if_neg (by omega), eM32, nu_e, if_neg (by omega), eM29, nu_e, if_neg (by omega), eM26, nu_e, if_neg (by omega), eM23, nu_e, if_neg (by omega)]⟩), by intro _; exact ⟨by rw [eM35, nu_e, if_neg (by omega), eM32, nu_e, if_neg (by omega), eM29, nu_e, if_neg (by omega), eM26, nu_e, if_neg (by omega), eM23, nu_e, if_pos (by omega)], by rw [eM35, nu_e, if_neg (by omega), eM32, nu_e, if_neg (by omega), eM29, nu_e, if_neg (by omega), eM26, nu_e, if_pos (by omega)], by rw [eM35, nu_e, if_neg (by omega), eM32, nu_e, if_neg (by omega), eM29, nu_e, if_pos (by omega)], by rw [eM35, nu_e, if_neg (by omega), eM32, nu_e, if_pos (by omega)]⟩⟩
            · intro h38
              refine n_bipush c_189_69 rfl ?_
              exact n_rI c_189_71 rfl ⟨hS, by omega, by omega, by exact Or.inr (Or.inl ⟨by omega, by omega, ⟨⟨by omega, by omega⟩, fun h => ⟨by omega, by omega⟩, fun h => ⟨by omega, by omega⟩⟩, by omega, rfl, fun _ _ _ => rfl⟩), by exact fun u => by omega⟩
          · intro h39
            exfalso; omega
        · intro h40
          refine n_aload_n c_189_30 rfl (n_iload_n c_189_31 rfl (n_v1I c_189_32 rfl sc_112.n rfl rfl rfl rfl (misUnknownF_2 (u := y) hS (by omega) (by omega)) ?_))
          intro z41 M42 hP43
          obtain ⟨eM, f43, f43p0⟩ := hP43
          subst eM
          refine n_if0_eq c_189_35 (by omega) ?_ ?_
          · intro h44
            refine n_bipush c_189_57 rfl ?_
            exact n_rI c_189_59 rfl ⟨hS, by omega, by omega, by first | exact Or.inl ⟨by omega, rfl, fun _ _ _ => rfl⟩ | exact Or.inl ⟨Or.inr (Or.inr (fun q => by obtain ⟨⟨q1, q2⟩, q3, q4⟩ := q; have q3 : 1 < M 118 l → (0 ≤ y ∧ y < M 112 10) := q3; have q4 : 2 < M 118 l → (0 ≤ w ∧ w < M 112 10) := q4; omega)), rfl, fun _ _ _ => rfl⟩, by exact fun u => by omega⟩
          · intro h45
            refine n_aload_n c_189_38 rfl (n_getR c_189_39 sc_112.n rfl rfl rfl r_112_8 (n_iload_n c_189_42 rfl (n_ialoadV c_189_43 sc_118.n rfl rfl rfl (by omega) (t_118 hS (by omega)) ?_)))
            intro z46 ez46 f47
            refine n_iconst c_189_44 ?_
            refine n_if2_le c_189_45 (by omega) (by omega) ?_ ?_
            · intro h48
              refine n_aload_n c_189_60 rfl (n_getV (bi := 11) c_189_61 sc_112.n rfl rfl rfl (t_112_11 hS) ?_)
              intro z49 ez49 f50
              refine n_bipush c_189_64 rfl ?_
              refine n_if2_ne c_189_66 (by omega) (by omega) ?_ ?_
              · intro h51
                refine n_aload_n c_189_72 rfl (n_getR c_189_73 sc_112.n rfl rfl rfl r_112_12 (n_aload_n c_189_76 rfl (n_getV (bi := 11) c_189_77 sc_112.n rfl rfl rfl (t_112_11 hS) ?_)))
                intro z52 ez52 f53
                obtain rfl : z49 = z52 := by omega
                refine n_iload_n c_189_80 rfl (n_iastoreG c_189_81 sc_120.n rfl (by omega) (hS.w120 (by omega) (by omega)) ?_)
                intro M54 eM54 hS54
                have g54_0 : M54 112 0 = M 112 0 := by rw [eM54]; exact nu_a (by omega)
                have g54_1 : M54 112 11 = M 112 11 := by rw [eM54]; exact nu_a (by omega)
                have g54_2 : M54 112 7 = M 112 7 := by rw [eM54]; exact nu_a (by omega)
                have g54_3 : M54 112 10 = M 112 10 := by rw [eM54]; exact nu_a (by omega)
                have g54_4 : M54 118 l = M 118 l := by rw [eM54]; exact nu_a (by omega)
                have g54_5 : M54 120 z49 = l := by rw [eM54]; exact nu_s _ _ _ _
                refine n_aload_n c_189_82 rfl (n_getR c_189_83 sc_112.n rfl rfl rfl r_112_13 (n_iconst c_189_86 (n_aload_n c_189_87 rfl (n_getV (bi := 11) c_189_88 sc_112.n rfl rfl rfl (t_112_11 hS54) ?_))))
                intro z55 ez55 f56
                obtain rfl : z49 = z55 := by omega
                refine n_imul c_189_91 rfl (n_iload_n c_189_92 rfl (n_iastoreG c_189_93 sc_121.n rfl (by omega) (hS54.w121 (by omega) (by omega)) ?_))
                intro M57 eM57 hS57
                have g57_0 : M57 112 0 = M54 112 0 := by rw [eM57]; exact nu_a (by omega)
                have g57_1 : M57 112 11 = M54 112 11 := by rw [eM57]; exact nu_a (by omega)
                have g57_2 : M57 112 7 = M54 112 7 := by rw [eM57]; exact nu_a (by omega)
                have g57_3 : M57 112 10 = M54 112 10 := by rw [eM57]; exact nu_a (by omega)
                have g57_4 : M57 118 l = M54 118 l := by rw [eM57]; exact nu_a (by omega)
                have g57_5 : M57 120 z49 = M54 120 z49 := by rw [eM57]; exact nu_a (by omega)
                have g57_6 : M57 121 (3 * z49) = x := by rw [eM57]; exact nu_s _ _ _ _
                refine n_aload_n c_189_94 rfl (n_getR c_189_95 sc_112.n rfl rfl rfl r_112_13 (n_iconst c_189_98 (n_aload_n c_189_99 rfl (n_getV (bi := 11) c_189_100 sc_112.n rfl rfl rfl (t_112_11 hS57) ?_))))
                intro z58 ez58 f59
                obtain rfl : z49 = z58 := by omega
                refine n_imul c_189_103 rfl (n_iconst c_189_104 (n_iadd c_189_105 rfl (n_iload_n c_189_106 rfl (n_iastoreG c_189_107 sc_121.n rfl (by omega) (hS57.w121 (by omega) (by omega)) ?_))))
                intro M60 eM60 hS60
                have g60_0 : M60 112 0 = M57 112 0 := by rw [eM60]; exact nu_a (by omega)
                have g60_1 : M60 112 11 = M57 112 11 := by rw [eM60]; exact nu_a (by omega)
                have g60_2 : M60 112 7 = M57 112 7 := by rw [eM60]; exact nu_a (by omega)
                have g60_3 : M60 112 10 = M57 112 10 := by rw [eM60]; exact nu_a (by omega)
                have g60_4 : M60 118 l = M57 118 l := by rw [eM60]; exact nu_a (by omega)
                have g60_5 : M60 120 z49 = M57 120 z49 := by rw [eM60]; exact nu_a (by omega)
                have g60_6 : M60 121 (3 * z49) = M57 121 (3 * z49) := by rw [eM60]; exact nu_i (by omega)
                have g60_7 : M60 121 ((3 * z49) + 1) = y := by rw [eM60]; exact nu_s _ _ _ _
                refine n_aload_n c_189_108 rfl (n_getR c_189_109 sc_112.n rfl rfl rfl r_112_13 (n_iconst c_189_112 (n_aload_n c_189_113 rfl (n_getV (bi := 11) c_189_114 sc_112.n rfl rfl rfl (t_112_11 hS60) ?_))))
                intro z61 ez61 f62
                obtain rfl : z49 = z61 := by omega
                refine n_imul c_189_117 rfl (n_iconst c_189_118 (n_iadd c_189_119 rfl (n_iload c_189_120 rfl (n_iastoreG c_189_122 sc_121.n rfl (by omega) (hS60.w121 (by omega) (by omega)) ?_))))
                intro M63 eM63 hS63
                have g63_0 : M63 112 0 = M60 112 0 := by rw [eM63]; exact nu_a (by omega)
                have g63_1 : M63 112 11 = M60 112 11 := by rw [eM63]; exact nu_a (by omega)
                have g63_2 : M63 112 7 = M60 112 7 := by rw [eM63]; exact nu_a (by omega)
                have g63_3 : M63 112 10 = M60 112 10 := by rw [eM63]; exact nu_a (by omega)
                have g63_4 : M63 118 l = M60 118 l := by rw [eM63]; exact nu_a (by omega)
                have g63_5 : M63 120 z49 = M60 120 z49 := by rw [eM63]; exact nu_a (by omega)
                have g63_6 : M63 121 (3 * z49) = M60 121 (3 * z49) := by rw [eM63]; exact nu_i (by omega)
                have g63_7 : M63 121 ((3 * z49) + 1) = M60 121 ((3 * z49) + 1) := by rw [eM63]; exact nu_i (by omega)
                have g63_8 : M63 121 ((3 * z49) + 2) = w := by rw [eM63]; exact nu_s _ _ _ _
                refine n_aload_n c_189_123 rfl (n_dup2 c_189_124 (n_getV (bi := 11) c_189_125 sc_112.n rfl rfl rfl (t_112_11 hS63) ?_))
                intro z64 ez64 f65
                obtain rfl : z49 = z64 := by omega
                refine n_iconst c_189_128 (n_iadd c_189_129 rfl ?_)
                refine n_putG (P := fun M2 => Sf 2 ac M2 M2) (bi := 11) c_189_130 sc_112.n rfl rfl rfl rfl (hS63.w112_11 (q := z49) (l := l) (by omega) (by omega) (by omega) (by omega) (fun j b1 b2 => by
                  have t118 := t_118 hS63 (i := l) (by omega)
                  rcases (show j = 0 ∨ j = 1 ∨ j = 2 by omega) with rfl | rfl | rfl
                  · rw [show 3 * z49 + 0 = 3 * z49 by omega]; omega
                  · omega
                  · omega)) ?_
                intro M66 eM66 hS66
                have hgz : M66 112 0 = M63 112 0 := by rw [eM66]; exact nu_i (by omega)
                have hgy : M66 112 11 = (z49 + 1) := by rw [eM66]; exact nu_s _ _ _ _
                refine n_aload_n c_189_133 rfl (n_getV (bi := 11) c_189_134 sc_112.n rfl rfl rfl (t_112_11 hS66) ?_)
                intro z67 ez67 f68
                refine n_iconst c_189_137 (n_isub c_189_138 rfl ?_)
                exact n_rI c_189_139 rfl ⟨hS66, by omega, by omega, by exact Or.inr (Or.inr ⟨by omega, by omega, ⟨⟨by omega, by omega⟩, fun h => ⟨by omega, by omega⟩, fun h => ⟨by omega, by omega⟩⟩, by omega, by omega, by rw [eM66, nu_s]; omega, fun a i hc w1 w2 w3 => by rw [eM66, nu_e, if_neg (by omega), eM63, nu_e, if_neg (by omega), eM60, nu_e, if_neg (by omega), eM57, nu_e, if_neg (by omega), eM54, nu_e, if_neg (by omega)]⟩), by intro _; exact ⟨by rw [eM66, nu_e, if_neg (by omega), eM63, nu_e, if_neg (by omega), eM60, nu_e, if_neg (by omega), eM57, nu_e, if_neg (by omega), eM54, nu_e, if_pos (by omega)], by rw [eM66, nu_e, if_neg (by omega), eM63, nu_e, if_neg (by omega), eM60, nu_e, if_neg (by omega), eM57, nu_e, if_pos (by omega)], by rw [eM66, nu_e, if_neg (by omega), eM63, nu_e, if_neg (by omega), eM60, nu_e, if_pos (by omega)], by rw [eM66, nu_e, if_neg (by omega), eM63, nu_e, if_pos (by omega)]⟩⟩
              · intro h69
                refine n_bipush c_189_69 rfl ?_
                exact n_rI c_189_71 rfl ⟨hS, by omega, by omega, by exact Or.inr (Or.inl ⟨by omega, by omega, ⟨⟨by omega, by omega⟩, fun h => ⟨by omega, by omega⟩, fun h => ⟨by omega, by omega⟩⟩, by omega, rfl, fun _ _ _ => rfl⟩), by exact fun u => by omega⟩
            · intro h70
              refine n_aload_n c_189_48 rfl (n_iload c_189_49 rfl (n_v1I c_189_51 rfl sc_112.n rfl rfl rfl rfl (misUnknownF_2 (u := w) hS (by omega) (by omega)) ?_))
              intro z71 M72 hP73
              obtain ⟨eM, f73, f73p0⟩ := hP73
              subst eM
              refine n_if0_ne c_189_54 (by omega) ?_ ?_
              · intro h74
                refine n_aload_n c_189_60 rfl (n_getV (bi := 11) c_189_61 sc_112.n rfl rfl rfl (t_112_11 hS) ?_)
                intro z75 ez75 f76
                refine n_bipush c_189_64 rfl ?_
                refine n_if2_ne c_189_66 (by omega) (by omega) ?_ ?_
                · intro h77
                  refine n_aload_n c_189_72 rfl (n_getR c_189_73 sc_112.n rfl rfl rfl r_112_12 (n_aload_n c_189_76 rfl (n_getV (bi := 11) c_189_77 sc_112.n rfl rfl rfl (t_112_11 hS) ?_)))
                  intro z78 ez78 f79
                  obtain rfl : z75 = z78 := by omega
                  refine n_iload_n c_189_80 rfl (n_iastoreG c_189_81 sc_120.n rfl (by omega) (hS.w120 (by omega) (by omega)) ?_)
                  intro M80 eM80 hS80
                  have g80_0 : M80 112 0 = M 112 0 := by rw [eM80]; exact nu_a (by omega)
                  have g80_1 : M80 112 11 = M 112 11 := by rw [eM80]; exact nu_a (by omega)
                  have g80_2 : M80 112 7 = M 112 7 := by rw [eM80]; exact nu_a (by omega)
                  have g80_3 : M80 112 10 = M 112 10 := by rw [eM80]; exact nu_a (by omega)
                  have g80_4 : M80 118 l = M 118 l := by rw [eM80]; exact nu_a (by omega)
                  have g80_5 : M80 120 z75 = l := by rw [eM80]; exact nu_s _ _ _ _
                  refine n_aload_n c_189_82 rfl (n_getR c_189_83 sc_112.n rfl rfl rfl r_112_13 (n_iconst c_189_86 (n_aload_n c_189_87 rfl (n_getV (bi := 11) c_189_88 sc_112.n rfl rfl rfl (t_112_11 hS80) ?_))))
                  intro z81 ez81 f82
                  obtain rfl : z75 = z81 := by omega
                  refine n_imul c_189_91 rfl (n_iload_n c_189_92 rfl (n_iastoreG c_189_93 sc_121.n rfl (by omega) (hS80.w121 (by omega) (by omega)) ?_))
                  intro M83 eM83 hS83
                  have g83_0 : M83 112 0 = M80 112 0 := by rw [eM83]; exact nu_a (by omega)
                  have g83_1 : M83 112 11 = M80 112 11 := by rw [eM83]; exact nu_a (by omega)
                  have g83_2 : M83 112 7 = M80 112 7 := by rw [eM83]; exact nu_a (by omega)
                  have g83_3 : M83 112 10 = M80 112 10 := by rw [eM83]; exact nu_a (by omega)
                  have g83_4 : M83 118 l = M80 118 l := by rw [eM83]; exact nu_a (by omega)
                  have g83_5 : M83 120 z75 = M80 120 z75 := by rw [eM83]; exact nu_a (by omega)
                  have g83_6 : M83 121 (3 * z75) = x := by rw [eM83]; exact nu_s _ _ _ _
                  refine n_aload_n c_189_94 rfl (n_getR c_189_95 sc_112.n rfl rfl rfl r_112_13 (n_iconst c_189_98 (n_aload_n c_189_99 rfl (n_getV (bi := 11) c_189_100 sc_112.n rfl rfl rfl (t_112_11 hS83) ?_))))
                  intro z84 ez84 f85
                  obtain rfl : z75 = z84 := by omega
                  refine n_imul c_189_103 rfl (n_iconst c_189_104 (n_iadd c_189_105 rfl (n_iload_n c_189_106 rfl (n_iastoreG c_189_107 sc_121.n rfl (by omega) (hS83.w121 (by omega) (by omega)) ?_))))
                  intro M86 eM86 hS86
                  have g86_0 : M86 112 0 = M83 112 0 := by rw [eM86]; exact nu_a (by omega)
                  have g86_1 : M86 112 11 = M83 112 11 := by rw [eM86]; exact nu_a (by omega)
                  have g86_2 : M86 112 7 = M83 112 7 := by rw [eM86]; exact nu_a (by omega)
                  have g86_3 : M86 112 10 = M83 112 10 := by rw [eM86]; exact nu_a (by omega)
                  have g86_4 : M86 118 l = M83 118 l := by rw [eM86]; exact nu_a (by omega)
                  have g86_5 : M86 120 z75 = M83 120 z75 := by rw [eM86]; exact nu_a (by omega)
                  have g86_6 : M86 121 (3 * z75) = M83 121 (3 * z75) := by rw [eM86]; exact nu_i (by omega)
                  have g86_7 : M86 121 ((3 * z75) + 1) = y := by rw [eM86]; exact nu_s _ _ _ _
                  refine n_aload_n c_189_108 rfl (n_getR c_189_109 sc_112.n rfl rfl rfl r_112_13 (n_iconst c_189_112 (n_aload_n c_189_113 rfl (n_getV (bi := 11) c_189_114 sc_112.n rfl rfl rfl (t_112_11 hS86) ?_))))
                  intro z87 ez87 f88
                  obtain rfl : z75 = z87 := by omega
                  refine n_imul c_189_117 rfl (n_iconst c_189_118 (n_iadd c_189_119 rfl (n_iload c_189_120 rfl (n_iastoreG c_189_122 sc_121.n rfl (by omega) (hS86.w121 (by omega) (by omega)) ?_))))
                  intro M89 eM89 hS89
                  have g89_0 : M89 112 0 = M86 112 0 := by rw [eM89]; exact nu_a (by omega)
                  have g89_1 : M89 112 11 = M86 112 11 := by rw [eM89]; exact nu_a (by omega)
                  have g89_2 : M89 112 7 = M86 112 7 := by rw [eM89]; exact nu_a (by omega)
                  have g89_3 : M89 112 10 = M86 112 10 := by rw [eM89]; exact nu_a (by omega)
                  have g89_4 : M89 118 l = M86 118 l := by rw [eM89]; exact nu_a (by omega)
                  have g89_5 : M89 120 z75 = M86 120 z75 := by rw [eM89]; exact nu_a (by omega)
                  have g89_6 : M89 121 (3 * z75) = M86 121 (3 * z75) := by rw [eM89]; exact nu_i (by omega)
                  have g89_7 : M89 121 ((3 * z75) + 1) = M86 121 ((3 * z75) + 1) := by rw [eM89]; exact nu_i (by omega)
                  have g89_8 : M89 121 ((3 * z75) + 2) = w := by rw [eM89]; exact nu_s _ _ _ _
                  refine n_aload_n c_189_123 rfl (n_dup2 c_189_124 (n_getV (bi := 11) c_189_125 sc_112.n rfl rfl rfl (t_112_11 hS89) ?_))
                  intro z90 ez90 f91
                  obtain rfl : z75 = z90 := by omega
                  refine n_iconst c_189_128 (n_iadd c_189_129 rfl ?_)
                  refine n_putG (P := fun M2 => Sf 2 ac M2 M2) (bi := 11) c_189_130 sc_112.n rfl rfl rfl rfl (hS89.w112_11 (q := z75) (l := l) (by omega) (by omega) (by omega) (by omega) (fun j b1 b2 => by
                    have t118 := t_118 hS89 (i := l) (by omega)
                    rcases (show j = 0 ∨ j = 1 ∨ j = 2 by omega) with rfl | rfl | rfl
                    · rw [show 3 * z75 + 0 = 3 * z75 by omega]; omega
                    · omega
                    · omega)) ?_
                  intro M92 eM92 hS92
                  have hgz : M92 112 0 = M89 112 0 := by rw [eM92]; exact nu_i (by omega)
                  have hgy : M92 112 11 = (z75 + 1) := by rw [eM92]; exact nu_s _ _ _ _
                  refine n_aload_n c_189_133 rfl (n_getV (bi := 11) c_189_134 sc_112.n rfl rfl rfl (t_112_11 hS92) ?_)
                  intro z93 ez93 f94
                  refine n_iconst c_189_137 (n_isub c_189_138 rfl ?_)
                  exact n_rI c_189_139 rfl ⟨hS92, by omega, by omega, by exact Or.inr (Or.inr ⟨by omega, by omega, ⟨⟨by omega, by omega⟩, fun h => ⟨by omega, by omega⟩, fun h => ⟨by omega, by omega⟩⟩, by omega, by omega, by rw [eM92, nu_s]; omega, fun a i hc w1 w2 w3 => by rw [eM92, nu_e, if_neg (by omega), eM89, nu_e, if_neg (by omega), eM86, nu_e, if_neg (by omega), eM83, nu_e, if_neg (by omega), eM80, nu_e, if_neg (by omega)]⟩), by intro _; exact ⟨by rw [eM92, nu_e, if_neg (by omega), eM89, nu_e, if_neg (by omega), eM86, nu_e, if_neg (by omega), eM83, nu_e, if_neg (by omega), eM80, nu_e, if_pos (by omega)], by rw [eM92, nu_e, if_neg (by omega), eM89, nu_e, if_neg (by omega), eM86, nu_e, if_neg (by omega), eM83, nu_e, if_pos (by omega)], by rw [eM92, nu_e, if_neg (by omega), eM89, nu_e, if_neg (by omega), eM86, nu_e, if_pos (by omega)], by rw [eM92, nu_e, if_neg (by omega), eM89, nu_e, if_pos (by omega)]⟩⟩
                · intro h95
                  refine n_bipush c_189_69 rfl ?_
                  exact n_rI c_189_71 rfl ⟨hS, by omega, by omega, by exact Or.inr (Or.inl ⟨by omega, by omega, ⟨⟨by omega, by omega⟩, fun h => ⟨by omega, by omega⟩, fun h => ⟨by omega, by omega⟩⟩, by omega, rfl, fun _ _ _ => rfl⟩), by exact fun u => by omega⟩
              · intro h96
                refine n_bipush c_189_57 rfl ?_
                exact n_rI c_189_59 rfl ⟨hS, by omega, by omega, by first | exact Or.inl ⟨by omega, rfl, fun _ _ _ => rfl⟩ | exact Or.inl ⟨Or.inr (Or.inr (fun q => by obtain ⟨⟨q1, q2⟩, q3, q4⟩ := q; have q3 : 1 < M 118 l → (0 ≤ y ∧ y < M 112 10) := q3; have q4 : 2 < M 118 l → (0 ≤ w ∧ w < M 112 10) := q4; omega)), rfl, fun _ _ _ => rfl⟩, by exact fun u => by omega⟩
