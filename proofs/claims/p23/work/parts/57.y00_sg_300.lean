/-! What the methods tell. -/
set_option maxHeartbeats 4000000 in
theorem signsX_3 {xs : List Int32} {e : Nat} {ac : Int} {M0 M : nM} {a : Int} (hS : Sf 3 ac M0 M) (ha : -2147483648 ≤ a ∧ a ≤ 2147483647) : nW xs (e + 2) 113 0 [some (2, 3), some (0, a)] [] M (nPI fun z M1 => M = M1 ∧ (-2147483648 ≤ z ∧ z ≤ 2147483647) ∧ (cSg 3 a z M)) := by
  have hd : (3 : Int) = 2 ∨ (3 : Int) = 3 := by decide
  have hac := hS.2.2.2.2
  refine n_aload_n c_113_0 rfl (n_iload_n c_113_1 rfl (n_v1I c_113_2 rfl sc_3.n rfl rfl rfl rfl (isActF_3 (a := a) hS (by omega)) ?_))
  intro z1 M2 hP3
  obtain ⟨eM, f3, f3p0⟩ := hP3
  subst eM
  refine n_if0_eq c_113_5 (by omega) ?_ ?_
  · intro h4
    refine n_iconst c_113_19 ?_
    exact n_rI c_113_20 rfl ⟨rfl, by omega, by have t14 := t_ac hS; exact Or.inl ⟨by omega, rfl⟩⟩
  · intro h5
    refine n_aload_n c_113_8 rfl (n_getR c_113_9 sc_3.n rfl rfl rfl r_3_0 (n_getV (bi := 0) c_113_12 sc_4.n rfl rfl rfl (t_4_0 hS) ?_))
    intro z6 ez6 f7
    obtain rfl : z6 = 3 := by omega
    refine n_iconst c_113_15 ?_
    refine n_if2_ne c_113_16 (by omega) (by omega) ?_ ?_
    · intro h8
      exfalso; omega
    · intro h9
      refine n_iconst c_113_19 ?_
      exact n_rI c_113_20 rfl ⟨rfl, by omega, by have t14 := t_ac hS; exact Or.inl ⟨by omega, rfl⟩⟩

set_option maxHeartbeats 4000000 in
theorem wholeX_3 {xs : List Int32} {e : Nat} {ac : Int} {M0 M : nM} (hS : Sf 3 ac M0 M)  : nW xs (e + 2) 114 0 [some (2, 3), none, none] [] M (nPI fun z M1 => M = M1 ∧ (-2147483648 ≤ z ∧ z ≤ 2147483647) ∧ (cWh 3 z M)) := by
  have hd : (3 : Int) = 2 ∨ (3 : Int) = 3 := by decide
  have hac := hS.2.2.2.2
  refine n_aload_n c_114_0 rfl (n_getR c_114_1 sc_3.n rfl rfl rfl r_3_0 (n_getV (bi := 0) c_114_4 sc_4.n rfl rfl rfl (t_4_0 hS) ?_))
  intro z1 ez1 f2
  obtain rfl : z1 = 3 := by omega
  refine n_iconst c_114_7 ?_
  refine n_if2_ne c_114_8 (by omega) (by omega) ?_ ?_
  · intro h3
    exfalso; omega
  · intro h4
    refine n_iconst c_114_11 ?_
    exact n_rI c_114_12 rfl ⟨rfl, by omega, by exact Or.inl ⟨rfl, rfl⟩⟩

set_option maxHeartbeats 4000000 in
theorem msignsX_3 {xs : List Int32} {e : Nat} {ac : Int} {M0 M : nM} {a : Int} (hS : Sf 3 ac M0 M) (hdm : M0 112 0 = 3) (ha : -2147483648 ≤ a ∧ a ≤ 2147483647) : nW xs (e + 1) 185 0 [some (2, 112), some (0, a), none, none] [] M (nPI fun z M1 => M = M1 ∧ (-2147483648 ≤ z ∧ z ≤ 2147483647) ∧ (mSg 3 a z M) ∧ (z ≤ 31)) := by
  have hd : (3 : Int) = 2 ∨ (3 : Int) = 3 := by decide
  have hac := hS.2.2.2.2
  refine n_iload_n c_185_0 rfl ?_
  refine n_if0_lt c_185_1 (by omega) ?_ ?_
  · intro h1
    refine n_iconst c_185_20 ?_
    exact n_rI c_185_21 rfl ⟨rfl, by omega, by exact Or.inl ⟨by omega, rfl⟩, by omega⟩
  · intro h2
    refine n_iload_n c_185_4 rfl (n_aload_n c_185_5 rfl (n_getV (bi := 4) c_185_6 sc_112.n rfl rfl rfl (t_112_4 hS) ?_))
    intro z3 ez3 f4
    refine n_if2_ge c_185_9 (by omega) (by omega) ?_ ?_
    · intro h5
      refine n_iconst c_185_20 ?_
      exact n_rI c_185_21 rfl ⟨rfl, by omega, by exact Or.inl ⟨by omega, rfl⟩, by omega⟩
    · intro h6
      refine n_aload_n c_185_12 rfl (n_getV (bi := 0) c_185_13 sc_112.n rfl rfl rfl (t_dm hS hdm) ?_)
      intro z7 ez7 f8
      obtain rfl : z7 = 3 := by omega
      refine n_iconst c_185_16 ?_
      refine n_if2_ne c_185_17 (by omega) (by omega) ?_ ?_
      · intro h9
        exfalso; omega
      · intro h10
        refine n_iconst c_185_20 ?_
        exact n_rI c_185_21 rfl ⟨rfl, by omega, by exact Or.inl ⟨by omega, rfl⟩, by omega⟩

set_option maxHeartbeats 4000000 in
theorem mwholeX_3 {xs : List Int32} {e : Nat} {ac : Int} {M0 M : nM} (hS : Sf 3 ac M0 M) (hdm : M0 112 0 = 3) : nW xs (e + 2) 186 0 [some (2, 112), none, none] [] M (nPI fun z M1 => M = M1 ∧ (-2147483648 ≤ z ∧ z ≤ 2147483647) ∧ (mWh 3 z M)) := by
  have hd : (3 : Int) = 2 ∨ (3 : Int) = 3 := by decide
  have hac := hS.2.2.2.2
  refine n_aload_n c_186_0 rfl (n_getV (bi := 0) c_186_1 sc_112.n rfl rfl rfl (t_dm hS hdm) ?_)
  intro z1 ez1 f2
  obtain rfl : z1 = 3 := by omega
  refine n_iconst c_186_4 ?_
  refine n_if2_ne c_186_5 (by omega) (by omega) ?_ ?_
  · intro h3
    exfalso; omega
  · intro h4
    refine n_iconst c_186_8 ?_
    exact n_rI c_186_9 rfl ⟨rfl, by omega, by exact Or.inl ⟨rfl, rfl⟩⟩
