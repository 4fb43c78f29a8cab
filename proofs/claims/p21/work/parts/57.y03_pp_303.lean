/-! What the methods tell. -/
set_option maxHeartbeats 4000000 in
theorem misPairX10_3 {xs : List Int32} {e : Nat} {ac : Int} {M0 M : nM} (hS : Sf 3 ac M0 M) (hdm : M0 112 0 = 3) (hp : ∀ a : Int, 0 ≤ a → a < M 112 4 → 1 ≤ M 116 a) : nW xs (e + 5) 179 0 [some (2, 112), some (0, 10), none, none, none, none] [] M (nPI fun z M1 => M = M1 ∧ (0 ≤ z ∧ z ≤ 1) ∧ (z = pg3 M 10)) := by
  have hd : (3 : Int) = 2 ∨ (3 : Int) = 3 := by decide
  have hac := hS.2.2.2.2
  refine n_aload_n c_179_0 rfl (n_iload_n c_179_1 rfl (n_v1I c_179_2 rfl sc_112.n rfl rfl rfl rfl (misPartX10_3  hS hdm) ?_))
  intro z1 M2 hP3
  obtain ⟨eM, f3⟩ := hP3
  subst eM
  obtain rfl : z1 = 0 := by omega
  refine n_if0_ne c_179_5 (by omega) ?_ ?_
  · intro h4
    exfalso; omega
  · intro h5
    refine n_iconst c_179_8 ?_
    exact n_rZ c_179_9 rfl (by omega) ⟨rfl, by omega, by rfl⟩

set_option maxHeartbeats 4000000 in
theorem misPartX11_3 {xs : List Int32} {e : Nat} {ac : Int} {M0 M : nM} (hS : Sf 3 ac M0 M) (hdm : M0 112 0 = 3) : nW xs e 178 0 [some (2, 112), some (0, 11), none, none] [] M (nPI fun z M1 => M = M1 ∧ (0 ≤ z ∧ z ≤ 0)) := by
  have hd : (3 : Int) = 2 ∨ (3 : Int) = 3 := by decide
  have hac := hS.2.2.2.2
  refine n_iconst c_178_0 (n_istore_n (L2 := [some (2, 112), some (0, 11), some (0, 0), none]) c_178_1 rfl rfl (n_iload_n c_178_2 rfl (n_aload_n c_178_3 rfl (n_getV (bi := 0) c_178_4 sc_112.n rfl rfl rfl (t_dm hS hdm) ?_))))
  intro z1 ez1 f2
  obtain rfl : z1 = 3 := by omega
  refine n_if2_ge c_178_7 (by omega) (by omega) ?_ ?_
  · intro h3
    exfalso; omega
  · intro h4
    refine n_iload_n c_178_10 rfl (n_iconst c_178_11 (n_iload_n c_178_12 rfl (n_imul c_178_13 rfl (n_i_ishr (z := 11) c_178_14 (by decide) ?_))))
    refine n_iconst c_178_15 (n_i_iand (z := 3) c_178_16 (by decide) ?_)
    refine n_istore_n (L2 := [some (2, 112), some (0, 11), some (0, 0), some (0, 3)]) c_178_17 rfl rfl (n_iload_n c_178_18 rfl (n_iload_n c_178_19 rfl ?_))
    refine n_if2_gt c_178_20 (by omega) (by omega) ?_ ?_
    · intro h5
      refine n_iconst c_178_34 ?_
      exact n_rZ c_178_35 rfl (by omega) ⟨rfl, by omega⟩
    · intro h6
      exfalso; omega

set_option maxHeartbeats 4000000 in
theorem misPairX11_3 {xs : List Int32} {e : Nat} {ac : Int} {M0 M : nM} (hS : Sf 3 ac M0 M) (hdm : M0 112 0 = 3) (hp : ∀ a : Int, 0 ≤ a → a < M 112 4 → 1 ≤ M 116 a) : nW xs (e + 5) 179 0 [some (2, 112), some (0, 11), none, none, none, none] [] M (nPI fun z M1 => M = M1 ∧ (0 ≤ z ∧ z ≤ 1) ∧ (z = pg3 M 11)) := by
  have hd : (3 : Int) = 2 ∨ (3 : Int) = 3 := by decide
  have hac := hS.2.2.2.2
  refine n_aload_n c_179_0 rfl (n_iload_n c_179_1 rfl (n_v1I c_179_2 rfl sc_112.n rfl rfl rfl rfl (misPartX11_3  hS hdm) ?_))
  intro z1 M2 hP3
  obtain ⟨eM, f3⟩ := hP3
  subst eM
  obtain rfl : z1 = 0 := by omega
  refine n_if0_ne c_179_5 (by omega) ?_ ?_
  · intro h4
    exfalso; omega
  · intro h5
    refine n_iconst c_179_8 ?_
    exact n_rZ c_179_9 rfl (by omega) ⟨rfl, by omega, by rfl⟩

set_option maxHeartbeats 4000000 in
theorem misPartX12_3 {xs : List Int32} {e : Nat} {ac : Int} {M0 M : nM} (hS : Sf 3 ac M0 M) (hdm : M0 112 0 = 3) : nW xs e 178 0 [some (2, 112), some (0, 12), none, none] [] M (nPI fun z M1 => M = M1 ∧ (0 ≤ z ∧ z ≤ 0)) := by
  have hd : (3 : Int) = 2 ∨ (3 : Int) = 3 := by decide
  have hac := hS.2.2.2.2
  refine n_iconst c_178_0 (n_istore_n (L2 := [some (2, 112), some (0, 12), some (0, 0), none]) c_178_1 rfl rfl (n_iload_n c_178_2 rfl (n_aload_n c_178_3 rfl (n_getV (bi := 0) c_178_4 sc_112.n rfl rfl rfl (t_dm hS hdm) ?_))))
  intro z1 ez1 f2
  obtain rfl : z1 = 3 := by omega
  refine n_if2_ge c_178_7 (by omega) (by omega) ?_ ?_
  · intro h3
    exfalso; omega
  · intro h4
    refine n_iload_n c_178_10 rfl (n_iconst c_178_11 (n_iload_n c_178_12 rfl (n_imul c_178_13 rfl (n_i_ishr (z := 12) c_178_14 (by decide) ?_))))
    refine n_iconst c_178_15 (n_i_iand (z := 0) c_178_16 (by decide) ?_)
    refine n_istore_n (L2 := [some (2, 112), some (0, 12), some (0, 0), some (0, 0)]) c_178_17 rfl rfl (n_iload_n c_178_18 rfl (n_iload_n c_178_19 rfl ?_))
    refine n_if2_gt c_178_20 (by omega) (by omega) ?_ ?_
    · intro h5
      exfalso; omega
    · intro h6
      refine n_iload_n c_178_23 rfl (n_iconst c_178_24 (n_iload_n c_178_25 rfl (n_imul c_178_26 rfl (n_i_ishr (z := 12) c_178_27 (by decide) ?_))))
      refine n_iconst c_178_28 (n_i_iand (z := 0) c_178_29 (by decide) ?_)
      refine n_iload_n c_178_30 rfl ?_
      refine n_if2_eq c_178_31 (by omega) (by omega) ?_ ?_
      · intro h7
        refine n_iinc (L2 := [some (2, 112), some (0, 12), some (0, (0 + 1)), some (0, 0)]) c_178_36 rfl rfl rfl (n_goto c_178_39 (n_iload_n c_178_2 rfl (n_aload_n c_178_3 rfl (n_getV (bi := 0) c_178_4 sc_112.n rfl rfl rfl (t_dm hS hdm) ?_))))
        intro z8 ez8 f9
        obtain rfl : z8 = 3 := by omega
        refine n_if2_ge c_178_7 (by omega) (by omega) ?_ ?_
        · intro h10
          exfalso; omega
        · intro h11
          refine n_iload_n c_178_10 rfl (n_iconst c_178_11 (n_iload_n c_178_12 rfl (n_imul c_178_13 rfl (n_i_ishr (z := 3) c_178_14 (by decide) ?_))))
          refine n_iconst c_178_15 (n_i_iand (z := 3) c_178_16 (by decide) ?_)
          refine n_istore_n (L2 := [some (2, 112), some (0, 12), some (0, (0 + 1)), some (0, 3)]) c_178_17 rfl rfl (n_iload_n c_178_18 rfl (n_iload_n c_178_19 rfl ?_))
          refine n_if2_gt c_178_20 (by omega) (by omega) ?_ ?_
          · intro h12
            refine n_iconst c_178_34 ?_
            exact n_rZ c_178_35 rfl (by omega) ⟨rfl, by omega⟩
          · intro h13
            exfalso; omega
      · intro h14
        exfalso; omega

set_option maxHeartbeats 4000000 in
theorem misPairX12_3 {xs : List Int32} {e : Nat} {ac : Int} {M0 M : nM} (hS : Sf 3 ac M0 M) (hdm : M0 112 0 = 3) (hp : ∀ a : Int, 0 ≤ a → a < M 112 4 → 1 ≤ M 116 a) : nW xs (e + 5) 179 0 [some (2, 112), some (0, 12), none, none, none, none] [] M (nPI fun z M1 => M = M1 ∧ (0 ≤ z ∧ z ≤ 1) ∧ (z = pg3 M 12)) := by
  have hd : (3 : Int) = 2 ∨ (3 : Int) = 3 := by decide
  have hac := hS.2.2.2.2
  refine n_aload_n c_179_0 rfl (n_iload_n c_179_1 rfl (n_v1I c_179_2 rfl sc_112.n rfl rfl rfl rfl (misPartX12_3  hS hdm) ?_))
  intro z1 M2 hP3
  obtain ⟨eM, f3⟩ := hP3
  subst eM
  obtain rfl : z1 = 0 := by omega
  refine n_if0_ne c_179_5 (by omega) ?_ ?_
  · intro h4
    exfalso; omega
  · intro h5
    refine n_iconst c_179_8 ?_
    exact n_rZ c_179_9 rfl (by omega) ⟨rfl, by omega, by rfl⟩

set_option maxHeartbeats 4000000 in
theorem misPartX13_3 {xs : List Int32} {e : Nat} {ac : Int} {M0 M : nM} (hS : Sf 3 ac M0 M) (hdm : M0 112 0 = 3) : nW xs e 178 0 [some (2, 112), some (0, 13), none, none] [] M (nPI fun z M1 => M = M1 ∧ (0 ≤ z ∧ z ≤ 0)) := by
  have hd : (3 : Int) = 2 ∨ (3 : Int) = 3 := by decide
  have hac := hS.2.2.2.2
  refine n_iconst c_178_0 (n_istore_n (L2 := [some (2, 112), some (0, 13), some (0, 0), none]) c_178_1 rfl rfl (n_iload_n c_178_2 rfl (n_aload_n c_178_3 rfl (n_getV (bi := 0) c_178_4 sc_112.n rfl rfl rfl (t_dm hS hdm) ?_))))
  intro z1 ez1 f2
  obtain rfl : z1 = 3 := by omega
  refine n_if2_ge c_178_7 (by omega) (by omega) ?_ ?_
  · intro h3
    exfalso; omega
  · intro h4
    refine n_iload_n c_178_10 rfl (n_iconst c_178_11 (n_iload_n c_178_12 rfl (n_imul c_178_13 rfl (n_i_ishr (z := 13) c_178_14 (by decide) ?_))))
    refine n_iconst c_178_15 (n_i_iand (z := 1) c_178_16 (by decide) ?_)
    refine n_istore_n (L2 := [some (2, 112), some (0, 13), some (0, 0), some (0, 1)]) c_178_17 rfl rfl (n_iload_n c_178_18 rfl (n_iload_n c_178_19 rfl ?_))
    refine n_if2_gt c_178_20 (by omega) (by omega) ?_ ?_
    · intro h5
      refine n_iconst c_178_34 ?_
      exact n_rZ c_178_35 rfl (by omega) ⟨rfl, by omega⟩
    · intro h6
      exfalso; omega

set_option maxHeartbeats 4000000 in
theorem misPairX13_3 {xs : List Int32} {e : Nat} {ac : Int} {M0 M : nM} (hS : Sf 3 ac M0 M) (hdm : M0 112 0 = 3) (hp : ∀ a : Int, 0 ≤ a → a < M 112 4 → 1 ≤ M 116 a) : nW xs (e + 5) 179 0 [some (2, 112), some (0, 13), none, none, none, none] [] M (nPI fun z M1 => M = M1 ∧ (0 ≤ z ∧ z ≤ 1) ∧ (z = pg3 M 13)) := by
  have hd : (3 : Int) = 2 ∨ (3 : Int) = 3 := by decide
  have hac := hS.2.2.2.2
  refine n_aload_n c_179_0 rfl (n_iload_n c_179_1 rfl (n_v1I c_179_2 rfl sc_112.n rfl rfl rfl rfl (misPartX13_3  hS hdm) ?_))
  intro z1 M2 hP3
  obtain ⟨eM, f3⟩ := hP3
  subst eM
  obtain rfl : z1 = 0 := by omega
  refine n_if0_ne c_179_5 (by omega) ?_ ?_
  · intro h4
    exfalso; omega
  · intro h5
    refine n_iconst c_179_8 ?_
    exact n_rZ c_179_9 rfl (by omega) ⟨rfl, by omega, by rfl⟩

set_option maxHeartbeats 4000000 in
theorem misPartX14_3 {xs : List Int32} {e : Nat} {ac : Int} {M0 M : nM} (hS : Sf 3 ac M0 M) (hdm : M0 112 0 = 3) : nW xs e 178 0 [some (2, 112), some (0, 14), none, none] [] M (nPI fun z M1 => M = M1 ∧ (0 ≤ z ∧ z ≤ 0)) := by
  have hd : (3 : Int) = 2 ∨ (3 : Int) = 3 := by decide
  have hac := hS.2.2.2.2
  refine n_iconst c_178_0 (n_istore_n (L2 := [some (2, 112), some (0, 14), some (0, 0), none]) c_178_1 rfl rfl (n_iload_n c_178_2 rfl (n_aload_n c_178_3 rfl (n_getV (bi := 0) c_178_4 sc_112.n rfl rfl rfl (t_dm hS hdm) ?_))))
  intro z1 ez1 f2
  obtain rfl : z1 = 3 := by omega
  refine n_if2_ge c_178_7 (by omega) (by omega) ?_ ?_
  · intro h3
    exfalso; omega
  · intro h4
    refine n_iload_n c_178_10 rfl (n_iconst c_178_11 (n_iload_n c_178_12 rfl (n_imul c_178_13 rfl (n_i_ishr (z := 14) c_178_14 (by decide) ?_))))
    refine n_iconst c_178_15 (n_i_iand (z := 2) c_178_16 (by decide) ?_)
    refine n_istore_n (L2 := [some (2, 112), some (0, 14), some (0, 0), some (0, 2)]) c_178_17 rfl rfl (n_iload_n c_178_18 rfl (n_iload_n c_178_19 rfl ?_))
    refine n_if2_gt c_178_20 (by omega) (by omega) ?_ ?_
    · intro h5
      refine n_iconst c_178_34 ?_
      exact n_rZ c_178_35 rfl (by omega) ⟨rfl, by omega⟩
    · intro h6
      exfalso; omega

set_option maxHeartbeats 4000000 in
theorem misPairX14_3 {xs : List Int32} {e : Nat} {ac : Int} {M0 M : nM} (hS : Sf 3 ac M0 M) (hdm : M0 112 0 = 3) (hp : ∀ a : Int, 0 ≤ a → a < M 112 4 → 1 ≤ M 116 a) : nW xs (e + 5) 179 0 [some (2, 112), some (0, 14), none, none, none, none] [] M (nPI fun z M1 => M = M1 ∧ (0 ≤ z ∧ z ≤ 1) ∧ (z = pg3 M 14)) := by
  have hd : (3 : Int) = 2 ∨ (3 : Int) = 3 := by decide
  have hac := hS.2.2.2.2
  refine n_aload_n c_179_0 rfl (n_iload_n c_179_1 rfl (n_v1I c_179_2 rfl sc_112.n rfl rfl rfl rfl (misPartX14_3  hS hdm) ?_))
  intro z1 M2 hP3
  obtain ⟨eM, f3⟩ := hP3
  subst eM
  obtain rfl : z1 = 0 := by omega
  refine n_if0_ne c_179_5 (by omega) ?_ ?_
  · intro h4
    exfalso; omega
  · intro h5
    refine n_iconst c_179_8 ?_
    exact n_rZ c_179_9 rfl (by omega) ⟨rfl, by omega, by rfl⟩

set_option maxHeartbeats 4000000 in
theorem misPartX15_3 {xs : List Int32} {e : Nat} {ac : Int} {M0 M : nM} (hS : Sf 3 ac M0 M) (hdm : M0 112 0 = 3) : nW xs e 178 0 [some (2, 112), some (0, 15), none, none] [] M (nPI fun z M1 => M = M1 ∧ (0 ≤ z ∧ z ≤ 0)) := by
  have hd : (3 : Int) = 2 ∨ (3 : Int) = 3 := by decide
  have hac := hS.2.2.2.2
  refine n_iconst c_178_0 (n_istore_n (L2 := [some (2, 112), some (0, 15), some (0, 0), none]) c_178_1 rfl rfl (n_iload_n c_178_2 rfl (n_aload_n c_178_3 rfl (n_getV (bi := 0) c_178_4 sc_112.n rfl rfl rfl (t_dm hS hdm) ?_))))
  intro z1 ez1 f2
  obtain rfl : z1 = 3 := by omega
  refine n_if2_ge c_178_7 (by omega) (by omega) ?_ ?_
  · intro h3
    exfalso; omega
  · intro h4
    refine n_iload_n c_178_10 rfl (n_iconst c_178_11 (n_iload_n c_178_12 rfl (n_imul c_178_13 rfl (n_i_ishr (z := 15) c_178_14 (by decide) ?_))))
    refine n_iconst c_178_15 (n_i_iand (z := 3) c_178_16 (by decide) ?_)
    refine n_istore_n (L2 := [some (2, 112), some (0, 15), some (0, 0), some (0, 3)]) c_178_17 rfl rfl (n_iload_n c_178_18 rfl (n_iload_n c_178_19 rfl ?_))
    refine n_if2_gt c_178_20 (by omega) (by omega) ?_ ?_
    · intro h5
      refine n_iconst c_178_34 ?_
      exact n_rZ c_178_35 rfl (by omega) ⟨rfl, by omega⟩
    · intro h6
      exfalso; omega

set_option maxHeartbeats 4000000 in
theorem misPairX15_3 {xs : List Int32} {e : Nat} {ac : Int} {M0 M : nM} (hS : Sf 3 ac M0 M) (hdm : M0 112 0 = 3) (hp : ∀ a : Int, 0 ≤ a → a < M 112 4 → 1 ≤ M 116 a) : nW xs (e + 5) 179 0 [some (2, 112), some (0, 15), none, none, none, none] [] M (nPI fun z M1 => M = M1 ∧ (0 ≤ z ∧ z ≤ 1) ∧ (z = pg3 M 15)) := by
  have hd : (3 : Int) = 2 ∨ (3 : Int) = 3 := by decide
  have hac := hS.2.2.2.2
  refine n_aload_n c_179_0 rfl (n_iload_n c_179_1 rfl (n_v1I c_179_2 rfl sc_112.n rfl rfl rfl rfl (misPartX15_3  hS hdm) ?_))
  intro z1 M2 hP3
  obtain ⟨eM, f3⟩ := hP3
  subst eM
  obtain rfl : z1 = 0 := by omega
  refine n_if0_ne c_179_5 (by omega) ?_ ?_
  · intro h4
    exfalso; omega
  · intro h5
    refine n_iconst c_179_8 ?_
    exact n_rZ c_179_9 rfl (by omega) ⟨rfl, by omega, by rfl⟩

set_option maxHeartbeats 4000000 in
theorem misPartX16_3 {xs : List Int32} {e : Nat} {ac : Int} {M0 M : nM} (hS : Sf 3 ac M0 M) (hdm : M0 112 0 = 3) : nW xs e 178 0 [some (2, 112), some (0, 16), none, none] [] M (nPI fun z M1 => M = M1 ∧ (0 ≤ z ∧ z ≤ 0)) := by
  have hd : (3 : Int) = 2 ∨ (3 : Int) = 3 := by decide
  have hac := hS.2.2.2.2
  refine n_iconst c_178_0 (n_istore_n (L2 := [some (2, 112), some (0, 16), some (0, 0), none]) c_178_1 rfl rfl (n_iload_n c_178_2 rfl (n_aload_n c_178_3 rfl (n_getV (bi := 0) c_178_4 sc_112.n rfl rfl rfl (t_dm hS hdm) ?_))))
  intro z1 ez1 f2
  obtain rfl : z1 = 3 := by omega
  refine n_if2_ge c_178_7 (by omega) (by omega) ?_ ?_
  · intro h3
    exfalso; omega
  · intro h4
    refine n_iload_n c_178_10 rfl (n_iconst c_178_11 (n_iload_n c_178_12 rfl (n_imul c_178_13 rfl (n_i_ishr (z := 16) c_178_14 (by decide) ?_))))
    refine n_iconst c_178_15 (n_i_iand (z := 0) c_178_16 (by decide) ?_)
    refine n_istore_n (L2 := [some (2, 112), some (0, 16), some (0, 0), some (0, 0)]) c_178_17 rfl rfl (n_iload_n c_178_18 rfl (n_iload_n c_178_19 rfl ?_))
    refine n_if2_gt c_178_20 (by omega) (by omega) ?_ ?_
    · intro h5
      exfalso; omega
    · intro h6
      refine n_iload_n c_178_23 rfl (n_iconst c_178_24 (n_iload_n c_178_25 rfl (n_imul c_178_26 rfl (n_i_ishr (z := 16) c_178_27 (by decide) ?_))))
      refine n_iconst c_178_28 (n_i_iand (z := 0) c_178_29 (by decide) ?_)
      refine n_iload_n c_178_30 rfl ?_
      refine n_if2_eq c_178_31 (by omega) (by omega) ?_ ?_
      · intro h7
        refine n_iinc (L2 := [some (2, 112), some (0, 16), some (0, (0 + 1)), some (0, 0)]) c_178_36 rfl rfl rfl (n_goto c_178_39 (n_iload_n c_178_2 rfl (n_aload_n c_178_3 rfl (n_getV (bi := 0) c_178_4 sc_112.n rfl rfl rfl (t_dm hS hdm) ?_))))
        intro z8 ez8 f9
        obtain rfl : z8 = 3 := by omega
        refine n_if2_ge c_178_7 (by omega) (by omega) ?_ ?_
        · intro h10
          exfalso; omega
        · intro h11
          refine n_iload_n c_178_10 rfl (n_iconst c_178_11 (n_iload_n c_178_12 rfl (n_imul c_178_13 rfl (n_i_ishr (z := 4) c_178_14 (by decide) ?_))))
          refine n_iconst c_178_15 (n_i_iand (z := 0) c_178_16 (by decide) ?_)
          refine n_istore_n (L2 := [some (2, 112), some (0, 16), some (0, (0 + 1)), some (0, 0)]) c_178_17 rfl rfl (n_iload_n c_178_18 rfl (n_iload_n c_178_19 rfl ?_))
          refine n_if2_gt c_178_20 (by omega) (by omega) ?_ ?_
          · intro h12
            exfalso; omega
          · intro h13
            refine n_iload_n c_178_23 rfl (n_iconst c_178_24 (n_iload_n c_178_25 rfl (n_imul c_178_26 rfl (n_i_ishr (z := 16) c_178_27 (by decide) ?_))))
            refine n_iconst c_178_28 (n_i_iand (z := 0) c_178_29 (by decide) ?_)
            refine n_iload_n c_178_30 rfl ?_
            refine n_if2_eq c_178_31 (by omega) (by omega) ?_ ?_
            · intro h14
              refine n_iinc (L2 := [some (2, 112), some (0, 16), some (0, ((0 + 1) + 1)), some (0, 0)]) c_178_36 rfl rfl rfl (n_goto c_178_39 (n_iload_n c_178_2 rfl (n_aload_n c_178_3 rfl (n_getV (bi := 0) c_178_4 sc_112.n rfl rfl rfl (t_dm hS hdm) ?_))))
              intro z15 ez15 f16
              obtain rfl : z15 = 3 := by omega
              refine n_if2_ge c_178_7 (by omega) (by omega) ?_ ?_
              · intro h17
                exfalso; omega
              · intro h18
                refine n_iload_n c_178_10 rfl (n_iconst c_178_11 (n_iload_n c_178_12 rfl (n_imul c_178_13 rfl (n_i_ishr (z := 1) c_178_14 (by decide) ?_))))
                refine n_iconst c_178_15 (n_i_iand (z := 1) c_178_16 (by decide) ?_)
                refine n_istore_n (L2 := [some (2, 112), some (0, 16), some (0, ((0 + 1) + 1)), some (0, 1)]) c_178_17 rfl rfl (n_iload_n c_178_18 rfl (n_iload_n c_178_19 rfl ?_))
                refine n_if2_gt c_178_20 (by omega) (by omega) ?_ ?_
                · intro h19
                  exfalso; omega
                · intro h20
                  refine n_iload_n c_178_23 rfl (n_iconst c_178_24 (n_iload_n c_178_25 rfl (n_imul c_178_26 rfl (n_i_ishr (z := 4) c_178_27 (by decide) ?_))))
                  refine n_iconst c_178_28 (n_i_iand (z := 0) c_178_29 (by decide) ?_)
                  refine n_iload_n c_178_30 rfl ?_
                  refine n_if2_eq c_178_31 (by omega) (by omega) ?_ ?_
                  · intro h21
                    exfalso; omega
                  · intro h22
                    refine n_iconst c_178_34 ?_
                    exact n_rZ c_178_35 rfl (by omega) ⟨rfl, by omega⟩
            · intro h23
              exfalso; omega
      · intro h24
        exfalso; omega

set_option maxHeartbeats 4000000 in
theorem misPairX16_3 {xs : List Int32} {e : Nat} {ac : Int} {M0 M : nM} (hS : Sf 3 ac M0 M) (hdm : M0 112 0 = 3) (hp : ∀ a : Int, 0 ≤ a → a < M 112 4 → 1 ≤ M 116 a) : nW xs (e + 5) 179 0 [some (2, 112), some (0, 16), none, none, none, none] [] M (nPI fun z M1 => M = M1 ∧ (0 ≤ z ∧ z ≤ 1) ∧ (z = pg3 M 16)) := by
  have hd : (3 : Int) = 2 ∨ (3 : Int) = 3 := by decide
  have hac := hS.2.2.2.2
  refine n_aload_n c_179_0 rfl (n_iload_n c_179_1 rfl (n_v1I c_179_2 rfl sc_112.n rfl rfl rfl rfl (misPartX16_3  hS hdm) ?_))
  intro z1 M2 hP3
  obtain ⟨eM, f3⟩ := hP3
  subst eM
  obtain rfl : z1 = 0 := by omega
  refine n_if0_ne c_179_5 (by omega) ?_ ?_
  · intro h4
    exfalso; omega
  · intro h5
    refine n_iconst c_179_8 ?_
    exact n_rZ c_179_9 rfl (by omega) ⟨rfl, by omega, by rfl⟩

set_option maxHeartbeats 4000000 in
theorem misPartX17_3 {xs : List Int32} {e : Nat} {ac : Int} {M0 M : nM} (hS : Sf 3 ac M0 M) (hdm : M0 112 0 = 3) : nW xs e 178 0 [some (2, 112), some (0, 17), none, none] [] M (nPI fun z M1 => M = M1 ∧ (0 ≤ z ∧ z ≤ 0)) := by
  have hd : (3 : Int) = 2 ∨ (3 : Int) = 3 := by decide
  have hac := hS.2.2.2.2
  refine n_iconst c_178_0 (n_istore_n (L2 := [some (2, 112), some (0, 17), some (0, 0), none]) c_178_1 rfl rfl (n_iload_n c_178_2 rfl (n_aload_n c_178_3 rfl (n_getV (bi := 0) c_178_4 sc_112.n rfl rfl rfl (t_dm hS hdm) ?_))))
  intro z1 ez1 f2
  obtain rfl : z1 = 3 := by omega
  refine n_if2_ge c_178_7 (by omega) (by omega) ?_ ?_
  · intro h3
    exfalso; omega
  · intro h4
    refine n_iload_n c_178_10 rfl (n_iconst c_178_11 (n_iload_n c_178_12 rfl (n_imul c_178_13 rfl (n_i_ishr (z := 17) c_178_14 (by decide) ?_))))
    refine n_iconst c_178_15 (n_i_iand (z := 1) c_178_16 (by decide) ?_)
    refine n_istore_n (L2 := [some (2, 112), some (0, 17), some (0, 0), some (0, 1)]) c_178_17 rfl rfl (n_iload_n c_178_18 rfl (n_iload_n c_178_19 rfl ?_))
    refine n_if2_gt c_178_20 (by omega) (by omega) ?_ ?_
    · intro h5
      refine n_iconst c_178_34 ?_
      exact n_rZ c_178_35 rfl (by omega) ⟨rfl, by omega⟩
    · intro h6
      exfalso; omega

set_option maxHeartbeats 4000000 in
theorem misPairX17_3 {xs : List Int32} {e : Nat} {ac : Int} {M0 M : nM} (hS : Sf 3 ac M0 M) (hdm : M0 112 0 = 3) (hp : ∀ a : Int, 0 ≤ a → a < M 112 4 → 1 ≤ M 116 a) : nW xs (e + 5) 179 0 [some (2, 112), some (0, 17), none, none, none, none] [] M (nPI fun z M1 => M = M1 ∧ (0 ≤ z ∧ z ≤ 1) ∧ (z = pg3 M 17)) := by
  have hd : (3 : Int) = 2 ∨ (3 : Int) = 3 := by decide
  have hac := hS.2.2.2.2
  refine n_aload_n c_179_0 rfl (n_iload_n c_179_1 rfl (n_v1I c_179_2 rfl sc_112.n rfl rfl rfl rfl (misPartX17_3  hS hdm) ?_))
  intro z1 M2 hP3
  obtain ⟨eM, f3⟩ := hP3
  subst eM
  obtain rfl : z1 = 0 := by omega
  refine n_if0_ne c_179_5 (by omega) ?_ ?_
  · intro h4
    exfalso; omega
  · intro h5
    refine n_iconst c_179_8 ?_
    exact n_rZ c_179_9 rfl (by omega) ⟨rfl, by omega, by rfl⟩

set_option maxHeartbeats 4000000 in
theorem misPartX18_3 {xs : List Int32} {e : Nat} {ac : Int} {M0 M : nM} (hS : Sf 3 ac M0 M) (hdm : M0 112 0 = 3) : nW xs e 178 0 [some (2, 112), some (0, 18), none, none] [] M (nPI fun z M1 => M = M1 ∧ (0 ≤ z ∧ z ≤ 0)) := by
  have hd : (3 : Int) = 2 ∨ (3 : Int) = 3 := by decide
  have hac := hS.2.2.2.2
  refine n_iconst c_178_0 (n_istore_n (L2 := [some (2, 112), some (0, 18), some (0, 0), none]) c_178_1 rfl rfl (n_iload_n c_178_2 rfl (n_aload_n c_178_3 rfl (n_getV (bi := 0) c_178_4 sc_112.n rfl rfl rfl (t_dm hS hdm) ?_))))
  intro z1 ez1 f2
  obtain rfl : z1 = 3 := by omega
  refine n_if2_ge c_178_7 (by omega) (by omega) ?_ ?_
  · intro h3
    exfalso; omega
  · intro h4
    refine n_iload_n c_178_10 rfl (n_iconst c_178_11 (n_iload_n c_178_12 rfl (n_imul c_178_13 rfl (n_i_ishr (z := 18) c_178_14 (by decide) ?_))))
    refine n_iconst c_178_15 (n_i_iand (z := 2) c_178_16 (by decide) ?_)
    refine n_istore_n (L2 := [some (2, 112), some (0, 18), some (0, 0), some (0, 2)]) c_178_17 rfl rfl (n_iload_n c_178_18 rfl (n_iload_n c_178_19 rfl ?_))
    refine n_if2_gt c_178_20 (by omega) (by omega) ?_ ?_
    · intro h5
      refine n_iconst c_178_34 ?_
      exact n_rZ c_178_35 rfl (by omega) ⟨rfl, by omega⟩
    · intro h6
      exfalso; omega

set_option maxHeartbeats 4000000 in
theorem misPairX18_3 {xs : List Int32} {e : Nat} {ac : Int} {M0 M : nM} (hS : Sf 3 ac M0 M) (hdm : M0 112 0 = 3) (hp : ∀ a : Int, 0 ≤ a → a < M 112 4 → 1 ≤ M 116 a) : nW xs (e + 5) 179 0 [some (2, 112), some (0, 18), none, none, none, none] [] M (nPI fun z M1 => M = M1 ∧ (0 ≤ z ∧ z ≤ 1) ∧ (z = pg3 M 18)) := by
  have hd : (3 : Int) = 2 ∨ (3 : Int) = 3 := by decide
  have hac := hS.2.2.2.2
  refine n_aload_n c_179_0 rfl (n_iload_n c_179_1 rfl (n_v1I c_179_2 rfl sc_112.n rfl rfl rfl rfl (misPartX18_3  hS hdm) ?_))
  intro z1 M2 hP3
  obtain ⟨eM, f3⟩ := hP3
  subst eM
  obtain rfl : z1 = 0 := by omega
  refine n_if0_ne c_179_5 (by omega) ?_ ?_
  · intro h4
    exfalso; omega
  · intro h5
    refine n_iconst c_179_8 ?_
    exact n_rZ c_179_9 rfl (by omega) ⟨rfl, by omega, by rfl⟩

set_option maxHeartbeats 4000000 in
theorem misPartX19_3 {xs : List Int32} {e : Nat} {ac : Int} {M0 M : nM} (hS : Sf 3 ac M0 M) (hdm : M0 112 0 = 3) : nW xs e 178 0 [some (2, 112), some (0, 19), none, none] [] M (nPI fun z M1 => M = M1 ∧ (0 ≤ z ∧ z ≤ 0)) := by
  have hd : (3 : Int) = 2 ∨ (3 : Int) = 3 := by decide
  have hac := hS.2.2.2.2
  refine n_iconst c_178_0 (n_istore_n (L2 := [some (2, 112), some (0, 19), some (0, 0), none]) c_178_1 rfl rfl (n_iload_n c_178_2 rfl (n_aload_n c_178_3 rfl (n_getV (bi := 0) c_178_4 sc_112.n rfl rfl rfl (t_dm hS hdm) ?_))))
  intro z1 ez1 f2
  obtain rfl : z1 = 3 := by omega
  refine n_if2_ge c_178_7 (by omega) (by omega) ?_ ?_
  · intro h3
    exfalso; omega
  · intro h4
    refine n_iload_n c_178_10 rfl (n_iconst c_178_11 (n_iload_n c_178_12 rfl (n_imul c_178_13 rfl (n_i_ishr (z := 19) c_178_14 (by decide) ?_))))
    refine n_iconst c_178_15 (n_i_iand (z := 3) c_178_16 (by decide) ?_)
    refine n_istore_n (L2 := [some (2, 112), some (0, 19), some (0, 0), some (0, 3)]) c_178_17 rfl rfl (n_iload_n c_178_18 rfl (n_iload_n c_178_19 rfl ?_))
    refine n_if2_gt c_178_20 (by omega) (by omega) ?_ ?_
    · intro h5
      refine n_iconst c_178_34 ?_
      exact n_rZ c_178_35 rfl (by omega) ⟨rfl, by omega⟩
    · intro h6
      exfalso; omega

set_option maxHeartbeats 4000000 in
theorem misPairX19_3 {xs : List Int32} {e : Nat} {ac : Int} {M0 M : nM} (hS : Sf 3 ac M0 M) (hdm : M0 112 0 = 3) (hp : ∀ a : Int, 0 ≤ a → a < M 112 4 → 1 ≤ M 116 a) : nW xs (e + 5) 179 0 [some (2, 112), some (0, 19), none, none, none, none] [] M (nPI fun z M1 => M = M1 ∧ (0 ≤ z ∧ z ≤ 1) ∧ (z = pg3 M 19)) := by
  have hd : (3 : Int) = 2 ∨ (3 : Int) = 3 := by decide
  have hac := hS.2.2.2.2
  refine n_aload_n c_179_0 rfl (n_iload_n c_179_1 rfl (n_v1I c_179_2 rfl sc_112.n rfl rfl rfl rfl (misPartX19_3  hS hdm) ?_))
  intro z1 M2 hP3
  obtain ⟨eM, f3⟩ := hP3
  subst eM
  obtain rfl : z1 = 0 := by omega
  refine n_if0_ne c_179_5 (by omega) ?_ ?_
  · intro h4
    exfalso; omega
  · intro h5
    refine n_iconst c_179_8 ?_
    exact n_rZ c_179_9 rfl (by omega) ⟨rfl, by omega, by rfl⟩

set_option maxHeartbeats 4000000 in
theorem misPartX20_3 {xs : List Int32} {e : Nat} {ac : Int} {M0 M : nM} (hS : Sf 3 ac M0 M) (hdm : M0 112 0 = 3) : nW xs e 178 0 [some (2, 112), some (0, 20), none, none] [] M (nPI fun z M1 => M = M1 ∧ (1 ≤ z ∧ z ≤ 1)) := by
  have hd : (3 : Int) = 2 ∨ (3 : Int) = 3 := by decide
  have hac := hS.2.2.2.2
  refine n_iconst c_178_0 (n_istore_n (L2 := [some (2, 112), some (0, 20), some (0, 0), none]) c_178_1 rfl rfl (n_iload_n c_178_2 rfl (n_aload_n c_178_3 rfl (n_getV (bi := 0) c_178_4 sc_112.n rfl rfl rfl (t_dm hS hdm) ?_))))
  intro z1 ez1 f2
  obtain rfl : z1 = 3 := by omega
  refine n_if2_ge c_178_7 (by omega) (by omega) ?_ ?_
  · intro h3
    exfalso; omega
  · intro h4
    refine n_iload_n c_178_10 rfl (n_iconst c_178_11 (n_iload_n c_178_12 rfl (n_imul c_178_13 rfl (n_i_ishr (z := 20) c_178_14 (by decide) ?_))))
    refine n_iconst c_178_15 (n_i_iand (z := 0) c_178_16 (by decide) ?_)
    refine n_istore_n (L2 := [some (2, 112), some (0, 20), some (0, 0), some (0, 0)]) c_178_17 rfl rfl (n_iload_n c_178_18 rfl (n_iload_n c_178_19 rfl ?_))
    refine n_if2_gt c_178_20 (by omega) (by omega) ?_ ?_
    · intro h5
      exfalso; omega
    · intro h6
      refine n_iload_n c_178_23 rfl (n_iconst c_178_24 (n_iload_n c_178_25 rfl (n_imul c_178_26 rfl (n_i_ishr (z := 20) c_178_27 (by decide) ?_))))
      refine n_iconst c_178_28 (n_i_iand (z := 0) c_178_29 (by decide) ?_)
      refine n_iload_n c_178_30 rfl ?_
      refine n_if2_eq c_178_31 (by omega) (by omega) ?_ ?_
      · intro h7
        refine n_iinc (L2 := [some (2, 112), some (0, 20), some (0, (0 + 1)), some (0, 0)]) c_178_36 rfl rfl rfl (n_goto c_178_39 (n_iload_n c_178_2 rfl (n_aload_n c_178_3 rfl (n_getV (bi := 0) c_178_4 sc_112.n rfl rfl rfl (t_dm hS hdm) ?_))))
        intro z8 ez8 f9
        obtain rfl : z8 = 3 := by omega
        refine n_if2_ge c_178_7 (by omega) (by omega) ?_ ?_
        · intro h10
          exfalso; omega
        · intro h11
          refine n_iload_n c_178_10 rfl (n_iconst c_178_11 (n_iload_n c_178_12 rfl (n_imul c_178_13 rfl (n_i_ishr (z := 5) c_178_14 (by decide) ?_))))
          refine n_iconst c_178_15 (n_i_iand (z := 1) c_178_16 (by decide) ?_)
          refine n_istore_n (L2 := [some (2, 112), some (0, 20), some (0, (0 + 1)), some (0, 1)]) c_178_17 rfl rfl (n_iload_n c_178_18 rfl (n_iload_n c_178_19 rfl ?_))
          refine n_if2_gt c_178_20 (by omega) (by omega) ?_ ?_
          · intro h12
            exfalso; omega
          · intro h13
            refine n_iload_n c_178_23 rfl (n_iconst c_178_24 (n_iload_n c_178_25 rfl (n_imul c_178_26 rfl (n_i_ishr (z := 5) c_178_27 (by decide) ?_))))
            refine n_iconst c_178_28 (n_i_iand (z := 1) c_178_29 (by decide) ?_)
            refine n_iload_n c_178_30 rfl ?_
            refine n_if2_eq c_178_31 (by omega) (by omega) ?_ ?_
            · intro h14
              refine n_iinc (L2 := [some (2, 112), some (0, 20), some (0, ((0 + 1) + 1)), some (0, 1)]) c_178_36 rfl rfl rfl (n_goto c_178_39 (n_iload_n c_178_2 rfl (n_aload_n c_178_3 rfl (n_getV (bi := 0) c_178_4 sc_112.n rfl rfl rfl (t_dm hS hdm) ?_))))
              intro z15 ez15 f16
              obtain rfl : z15 = 3 := by omega
              refine n_if2_ge c_178_7 (by omega) (by omega) ?_ ?_
              · intro h17
                exfalso; omega
              · intro h18
                refine n_iload_n c_178_10 rfl (n_iconst c_178_11 (n_iload_n c_178_12 rfl (n_imul c_178_13 rfl (n_i_ishr (z := 1) c_178_14 (by decide) ?_))))
                refine n_iconst c_178_15 (n_i_iand (z := 1) c_178_16 (by decide) ?_)
                refine n_istore_n (L2 := [some (2, 112), some (0, 20), some (0, ((0 + 1) + 1)), some (0, 1)]) c_178_17 rfl rfl (n_iload_n c_178_18 rfl (n_iload_n c_178_19 rfl ?_))
                refine n_if2_gt c_178_20 (by omega) (by omega) ?_ ?_
                · intro h19
                  exfalso; omega
                · intro h20
                  refine n_iload_n c_178_23 rfl (n_iconst c_178_24 (n_iload_n c_178_25 rfl (n_imul c_178_26 rfl (n_i_ishr (z := 5) c_178_27 (by decide) ?_))))
                  refine n_iconst c_178_28 (n_i_iand (z := 1) c_178_29 (by decide) ?_)
                  refine n_iload_n c_178_30 rfl ?_
                  refine n_if2_eq c_178_31 (by omega) (by omega) ?_ ?_
                  · intro h21
                    refine n_iinc (L2 := [some (2, 112), some (0, 20), some (0, (((0 + 1) + 1) + 1)), some (0, 1)]) c_178_36 rfl rfl rfl (n_goto c_178_39 (n_iload_n c_178_2 rfl (n_aload_n c_178_3 rfl (n_getV (bi := 0) c_178_4 sc_112.n rfl rfl rfl (t_dm hS hdm) ?_))))
                    intro z22 ez22 f23
                    obtain rfl : z22 = 3 := by omega
                    refine n_if2_ge c_178_7 (by omega) (by omega) ?_ ?_
                    · intro h24
                      refine n_iconst c_178_42 ?_
                      exact n_rZ c_178_43 rfl (by omega) ⟨rfl, by omega⟩
                    · intro h25
                      exfalso; omega
                  · intro h26
                    exfalso; omega
            · intro h27
              exfalso; omega
      · intro h28
        exfalso; omega

set_option maxHeartbeats 4000000 in
theorem misPairX20_3 {xs : List Int32} {e : Nat} {ac : Int} {M0 M : nM} (hS : Sf 3 ac M0 M) (hdm : M0 112 0 = 3) (hp : ∀ a : Int, 0 ≤ a → a < M 112 4 → 1 ≤ M 116 a) : nW xs (e + 5) 179 0 [some (2, 112), some (0, 20), none, none, none, none] [] M (nPI fun z M1 => M = M1 ∧ (0 ≤ z ∧ z ≤ 1) ∧ (z = pg3 M 20)) := by
  have hd : (3 : Int) = 2 ∨ (3 : Int) = 3 := by decide
  have hac := hS.2.2.2.2
  refine n_aload_n c_179_0 rfl (n_iload_n c_179_1 rfl (n_v1I c_179_2 rfl sc_112.n rfl rfl rfl rfl (misPartX20_3  hS hdm) ?_))
  intro z1 M2 hP3
  obtain ⟨eM, f3⟩ := hP3
  subst eM
  obtain rfl : z1 = 1 := by omega
  refine n_if0_ne c_179_5 (by omega) ?_ ?_
  · intro h4
    refine n_lconst (n := 0) c_179_10 rfl (n_lstore_n (L2 := [some (2, 112), some (0, 20), some (1, 0), none, none, none]) c_179_11 rfl rfl (n_iconst c_179_12 (n_istore (L2 := [some (2, 112), some (0, 20), some (1, 0), none, some (0, 0), none]) c_179_13 rfl rfl (n_iload c_179_15 rfl (n_aload_n c_179_17 rfl (n_getV (bi := 0) c_179_18 sc_112.n rfl rfl rfl (t_dm hS hdm) ?_))))))
    intro z5 ez5 f6
    obtain rfl : z5 = 3 := by omega
    refine n_if2_ge c_179_21 (by omega) (by omega) ?_ ?_
    · intro h7
      exfalso; omega
    · intro h8
      refine n_iconst c_179_24 (n_istore (L2 := [some (2, 112), some (0, 20), some (1, 0), none, some (0, 0), some (0, 0)]) c_179_25 rfl rfl (n_iload c_179_27 rfl (n_aload_n c_179_29 rfl (n_getV (bi := 0) c_179_30 sc_112.n rfl rfl rfl (t_dm hS hdm) ?_))))
      intro z9 ez9 f10
      obtain rfl : z9 = 3 := by omega
      refine n_if2_ge c_179_33 (by omega) (by omega) ?_ ?_
      · intro h11
        exfalso; omega
      · intro h12
        refine n_lload_n c_179_36 rfl (n_iload_n c_179_37 rfl (n_iconst c_179_38 (n_iload c_179_39 rfl (n_imul c_179_41 rfl (n_i_ishr (z := 20) c_179_42 (by decide) ?_)))))
        refine n_iconst c_179_43 (n_i_iand (z := 0) c_179_44 (by decide) ?_)
        refine n_iload_n c_179_45 rfl (n_iconst c_179_46 (n_iload c_179_47 rfl (n_imul c_179_49 rfl (n_i_ishr (z := 20) c_179_50 (by decide) ?_))))
        refine n_iconst c_179_51 (n_i_iand (z := 0) c_179_52 (by decide) ?_)
        refine n_if2_ne c_179_53 (by omega) (by omega) ?_ ?_
        · intro h13
          exfalso; omega
        · intro h14
          refine n_lconst (n := 1) c_179_56 rfl (n_iload c_179_57 rfl (n_aload_n c_179_59 rfl (n_getV (bi := 0) c_179_60 sc_112.n rfl rfl rfl (t_dm hS hdm) ?_)))
          intro z15 ez15 f16
          obtain rfl : z15 = 3 := by omega
          refine n_imul c_179_63 rfl (n_iload c_179_64 rfl (n_iadd c_179_66 rfl (n_i_lshl (z := 1) c_179_67 (by decide) ?_)))
          refine n_goto c_179_68 (n_i_lor (z := 1) c_179_72 (by decide) ?_)
          refine n_lstore_n (L2 := [some (2, 112), some (0, 20), some (1, 1), none, some (0, 0), some (0, 0)]) c_179_73 rfl rfl (n_iinc (L2 := [some (2, 112), some (0, 20), some (1, 1), none, some (0, 0), some (0, (0 + 1))]) c_179_74 rfl rfl rfl (n_goto c_179_77 (n_iload c_179_27 rfl (n_aload_n c_179_29 rfl (n_getV (bi := 0) c_179_30 sc_112.n rfl rfl rfl (t_dm hS hdm) ?_)))))
          intro z17 ez17 f18
          obtain rfl : z17 = 3 := by omega
          refine n_if2_ge c_179_33 (by omega) (by omega) ?_ ?_
          · intro h19
            exfalso; omega
          · intro h20
            refine n_lload_n c_179_36 rfl (n_iload_n c_179_37 rfl (n_iconst c_179_38 (n_iload c_179_39 rfl (n_imul c_179_41 rfl (n_i_ishr (z := 20) c_179_42 (by decide) ?_)))))
            refine n_iconst c_179_43 (n_i_iand (z := 0) c_179_44 (by decide) ?_)
            refine n_iload_n c_179_45 rfl (n_iconst c_179_46 (n_iload c_179_47 rfl (n_imul c_179_49 rfl (n_i_ishr (z := 5) c_179_50 (by decide) ?_))))
            refine n_iconst c_179_51 (n_i_iand (z := 1) c_179_52 (by decide) ?_)
            refine n_if2_ne c_179_53 (by omega) (by omega) ?_ ?_
            · intro h21
              refine n_lconst (n := 0) c_179_71 rfl (n_i_lor (z := 1) c_179_72 (by decide) ?_)
              refine n_lstore_n (L2 := [some (2, 112), some (0, 20), some (1, 1), none, some (0, 0), some (0, (0 + 1))]) c_179_73 rfl rfl (n_iinc (L2 := [some (2, 112), some (0, 20), some (1, 1), none, some (0, 0), some (0, ((0 + 1) + 1))]) c_179_74 rfl rfl rfl (n_goto c_179_77 (n_iload c_179_27 rfl (n_aload_n c_179_29 rfl (n_getV (bi := 0) c_179_30 sc_112.n rfl rfl rfl (t_dm hS hdm) ?_)))))
              intro z22 ez22 f23
              obtain rfl : z22 = 3 := by omega
              refine n_if2_ge c_179_33 (by omega) (by omega) ?_ ?_
              · intro h24
                exfalso; omega
              · intro h25
                refine n_lload_n c_179_36 rfl (n_iload_n c_179_37 rfl (n_iconst c_179_38 (n_iload c_179_39 rfl (n_imul c_179_41 rfl (n_i_ishr (z := 20) c_179_42 (by decide) ?_)))))
                refine n_iconst c_179_43 (n_i_iand (z := 0) c_179_44 (by decide) ?_)
                refine n_iload_n c_179_45 rfl (n_iconst c_179_46 (n_iload c_179_47 rfl (n_imul c_179_49 rfl (n_i_ishr (z := 1) c_179_50 (by decide) ?_))))
                refine n_iconst c_179_51 (n_i_iand (z := 1) c_179_52 (by decide) ?_)
                refine n_if2_ne c_179_53 (by omega) (by omega) ?_ ?_
                · intro h26
                  refine n_lconst (n := 0) c_179_71 rfl (n_i_lor (z := 1) c_179_72 (by decide) ?_)
                  refine n_lstore_n (L2 := [some (2, 112), some (0, 20), some (1, 1), none, some (0, 0), some (0, ((0 + 1) + 1))]) c_179_73 rfl rfl (n_iinc (L2 := [some (2, 112), some (0, 20), some (1, 1), none, some (0, 0), some (0, (((0 + 1) + 1) + 1))]) c_179_74 rfl rfl rfl (n_goto c_179_77 (n_iload c_179_27 rfl (n_aload_n c_179_29 rfl (n_getV (bi := 0) c_179_30 sc_112.n rfl rfl rfl (t_dm hS hdm) ?_)))))
                  intro z27 ez27 f28
                  obtain rfl : z27 = 3 := by omega
                  refine n_if2_ge c_179_33 (by omega) (by omega) ?_ ?_
                  · intro h29
                    refine n_iinc (L2 := [some (2, 112), some (0, 20), some (1, 1), none, some (0, (0 + 1)), some (0, (((0 + 1) + 1) + 1))]) c_179_80 rfl rfl rfl (n_goto c_179_83 (n_iload c_179_15 rfl (n_aload_n c_179_17 rfl (n_getV (bi := 0) c_179_18 sc_112.n rfl rfl rfl (t_dm hS hdm) ?_))))
                    intro z30 ez30 f31
                    obtain rfl : z30 = 3 := by omega
                    refine n_if2_ge c_179_21 (by omega) (by omega) ?_ ?_
                    · intro h32
                      exfalso; omega
                    · intro h33
                      refine n_iconst c_179_24 (n_istore (L2 := [some (2, 112), some (0, 20), some (1, 1), none, some (0, (0 + 1)), some (0, 0)]) c_179_25 rfl rfl (n_iload c_179_27 rfl (n_aload_n c_179_29 rfl (n_getV (bi := 0) c_179_30 sc_112.n rfl rfl rfl (t_dm hS hdm) ?_))))
                      intro z34 ez34 f35
                      obtain rfl : z34 = 3 := by omega
                      refine n_if2_ge c_179_33 (by omega) (by omega) ?_ ?_
                      · intro h36
                        exfalso; omega
                      · intro h37
                        refine n_lload_n c_179_36 rfl (n_iload_n c_179_37 rfl (n_iconst c_179_38 (n_iload c_179_39 rfl (n_imul c_179_41 rfl (n_i_ishr (z := 5) c_179_42 (by decide) ?_)))))
                        refine n_iconst c_179_43 (n_i_iand (z := 1) c_179_44 (by decide) ?_)
                        refine n_iload_n c_179_45 rfl (n_iconst c_179_46 (n_iload c_179_47 rfl (n_imul c_179_49 rfl (n_i_ishr (z := 20) c_179_50 (by decide) ?_))))
                        refine n_iconst c_179_51 (n_i_iand (z := 0) c_179_52 (by decide) ?_)
                        refine n_if2_ne c_179_53 (by omega) (by omega) ?_ ?_
                        · intro h38
                          refine n_lconst (n := 0) c_179_71 rfl (n_i_lor (z := 1) c_179_72 (by decide) ?_)
                          refine n_lstore_n (L2 := [some (2, 112), some (0, 20), some (1, 1), none, some (0, (0 + 1)), some (0, 0)]) c_179_73 rfl rfl (n_iinc (L2 := [some (2, 112), some (0, 20), some (1, 1), none, some (0, (0 + 1)), some (0, (0 + 1))]) c_179_74 rfl rfl rfl (n_goto c_179_77 (n_iload c_179_27 rfl (n_aload_n c_179_29 rfl (n_getV (bi := 0) c_179_30 sc_112.n rfl rfl rfl (t_dm hS hdm) ?_)))))
                          intro z39 ez39 f40
                          obtain rfl : z39 = 3 := by omega
                          refine n_if2_ge c_179_33 (by omega) (by omega) ?_ ?_
                          · intro h41
                            exfalso; omega
                          · intro h42
                            refine n_lload_n c_179_36 rfl (n_iload_n c_179_37 rfl (n_iconst c_179_38 (n_iload c_179_39 rfl (n_imul c_179_41 rfl (n_i_ishr (z := 5) c_179_42 (by decide) ?_)))))
                            refine n_iconst c_179_43 (n_i_iand (z := 1) c_179_44 (by decide) ?_)
                            refine n_iload_n c_179_45 rfl (n_iconst c_179_46 (n_iload c_179_47 rfl (n_imul c_179_49 rfl (n_i_ishr (z := 5) c_179_50 (by decide) ?_))))
                            refine n_iconst c_179_51 (n_i_iand (z := 1) c_179_52 (by decide) ?_)
                            refine n_if2_ne c_179_53 (by omega) (by omega) ?_ ?_
                            · intro h43
                              exfalso; omega
                            · intro h44
                              refine n_lconst (n := 1) c_179_56 rfl (n_iload c_179_57 rfl (n_aload_n c_179_59 rfl (n_getV (bi := 0) c_179_60 sc_112.n rfl rfl rfl (t_dm hS hdm) ?_)))
                              intro z45 ez45 f46
                              obtain rfl : z45 = 3 := by omega
                              refine n_imul c_179_63 rfl (n_iload c_179_64 rfl (n_iadd c_179_66 rfl (n_i_lshl (z := 16) c_179_67 (by decide) ?_)))
                              refine n_goto c_179_68 (n_i_lor (z := 17) c_179_72 (by decide) ?_)
                              refine n_lstore_n (L2 := [some (2, 112), some (0, 20), some (1, 17), none, some (0, (0 + 1)), some (0, (0 + 1))]) c_179_73 rfl rfl (n_iinc (L2 := [some (2, 112), some (0, 20), some (1, 17), none, some (0, (0 + 1)), some (0, ((0 + 1) + 1))]) c_179_74 rfl rfl rfl (n_goto c_179_77 (n_iload c_179_27 rfl (n_aload_n c_179_29 rfl (n_getV (bi := 0) c_179_30 sc_112.n rfl rfl rfl (t_dm hS hdm) ?_)))))
                              intro z47 ez47 f48
                              obtain rfl : z47 = 3 := by omega
                              refine n_if2_ge c_179_33 (by omega) (by omega) ?_ ?_
                              · intro h49
                                exfalso; omega
                              · intro h50
                                refine n_lload_n c_179_36 rfl (n_iload_n c_179_37 rfl (n_iconst c_179_38 (n_iload c_179_39 rfl (n_imul c_179_41 rfl (n_i_ishr (z := 5) c_179_42 (by decide) ?_)))))
                                refine n_iconst c_179_43 (n_i_iand (z := 1) c_179_44 (by decide) ?_)
                                refine n_iload_n c_179_45 rfl (n_iconst c_179_46 (n_iload c_179_47 rfl (n_imul c_179_49 rfl (n_i_ishr (z := 1) c_179_50 (by decide) ?_))))
                                refine n_iconst c_179_51 (n_i_iand (z := 1) c_179_52 (by decide) ?_)
                                refine n_if2_ne c_179_53 (by omega) (by omega) ?_ ?_
                                · intro h51
                                  exfalso; omega
                                · intro h52
                                  refine n_lconst (n := 1) c_179_56 rfl (n_iload c_179_57 rfl (n_aload_n c_179_59 rfl (n_getV (bi := 0) c_179_60 sc_112.n rfl rfl rfl (t_dm hS hdm) ?_)))
                                  intro z53 ez53 f54
                                  obtain rfl : z53 = 3 := by omega
                                  refine n_imul c_179_63 rfl (n_iload c_179_64 rfl (n_iadd c_179_66 rfl (n_i_lshl (z := 32) c_179_67 (by decide) ?_)))
                                  refine n_goto c_179_68 (n_i_lor (z := 49) c_179_72 (by decide) ?_)
                                  refine n_lstore_n (L2 := [some (2, 112), some (0, 20), some (1, 49), none, some (0, (0 + 1)), some (0, ((0 + 1) + 1))]) c_179_73 rfl rfl (n_iinc (L2 := [some (2, 112), some (0, 20), some (1, 49), none, some (0, (0 + 1)), some (0, (((0 + 1) + 1) + 1))]) c_179_74 rfl rfl rfl (n_goto c_179_77 (n_iload c_179_27 rfl (n_aload_n c_179_29 rfl (n_getV (bi := 0) c_179_30 sc_112.n rfl rfl rfl (t_dm hS hdm) ?_)))))
                                  intro z55 ez55 f56
                                  obtain rfl : z55 = 3 := by omega
                                  refine n_if2_ge c_179_33 (by omega) (by omega) ?_ ?_
                                  · intro h57
                                    refine n_iinc (L2 := [some (2, 112), some (0, 20), some (1, 49), none, some (0, ((0 + 1) + 1)), some (0, (((0 + 1) + 1) + 1))]) c_179_80 rfl rfl rfl (n_goto c_179_83 (n_iload c_179_15 rfl (n_aload_n c_179_17 rfl (n_getV (bi := 0) c_179_18 sc_112.n rfl rfl rfl (t_dm hS hdm) ?_))))
                                    intro z58 ez58 f59
                                    obtain rfl : z58 = 3 := by omega
                                    refine n_if2_ge c_179_21 (by omega) (by omega) ?_ ?_
                                    · intro h60
                                      exfalso; omega
                                    · intro h61
                                      refine n_iconst c_179_24 (n_istore (L2 := [some (2, 112), some (0, 20), some (1, 49), none, some (0, ((0 + 1) + 1)), some (0, 0)]) c_179_25 rfl rfl (n_iload c_179_27 rfl (n_aload_n c_179_29 rfl (n_getV (bi := 0) c_179_30 sc_112.n rfl rfl rfl (t_dm hS hdm) ?_))))
                                      intro z62 ez62 f63
                                      obtain rfl : z62 = 3 := by omega
                                      refine n_if2_ge c_179_33 (by omega) (by omega) ?_ ?_
                                      · intro h64
                                        exfalso; omega
                                      · intro h65
                                        refine n_lload_n c_179_36 rfl (n_iload_n c_179_37 rfl (n_iconst c_179_38 (n_iload c_179_39 rfl (n_imul c_179_41 rfl (n_i_ishr (z := 1) c_179_42 (by decide) ?_)))))
                                        refine n_iconst c_179_43 (n_i_iand (z := 1) c_179_44 (by decide) ?_)
                                        refine n_iload_n c_179_45 rfl (n_iconst c_179_46 (n_iload c_179_47 rfl (n_imul c_179_49 rfl (n_i_ishr (z := 20) c_179_50 (by decide) ?_))))
                                        refine n_iconst c_179_51 (n_i_iand (z := 0) c_179_52 (by decide) ?_)
                                        refine n_if2_ne c_179_53 (by omega) (by omega) ?_ ?_
                                        · intro h66
                                          refine n_lconst (n := 0) c_179_71 rfl (n_i_lor (z := 49) c_179_72 (by decide) ?_)
                                          refine n_lstore_n (L2 := [some (2, 112), some (0, 20), some (1, 49), none, some (0, ((0 + 1) + 1)), some (0, 0)]) c_179_73 rfl rfl (n_iinc (L2 := [some (2, 112), some (0, 20), some (1, 49), none, some (0, ((0 + 1) + 1)), some (0, (0 + 1))]) c_179_74 rfl rfl rfl (n_goto c_179_77 (n_iload c_179_27 rfl (n_aload_n c_179_29 rfl (n_getV (bi := 0) c_179_30 sc_112.n rfl rfl rfl (t_dm hS hdm) ?_)))))
                                          intro z67 ez67 f68
                                          obtain rfl : z67 = 3 := by omega
                                          refine n_if2_ge c_179_33 (by omega) (by omega) ?_ ?_
                                          · intro h69
                                            exfalso; omega
                                          · intro h70
                                            refine n_lload_n c_179_36 rfl (n_iload_n c_179_37 rfl (n_iconst c_179_38 (n_iload c_179_39 rfl (n_imul c_179_41 rfl (n_i_ishr (z := 1) c_179_42 (by decide) ?_)))))
                                            refine n_iconst c_179_43 (n_i_iand (z := 1) c_179_44 (by decide) ?_)
                                            refine n_iload_n c_179_45 rfl (n_iconst c_179_46 (n_iload c_179_47 rfl (n_imul c_179_49 rfl (n_i_ishr (z := 5) c_179_50 (by decide) ?_))))
                                            refine n_iconst c_179_51 (n_i_iand (z := 1) c_179_52 (by decide) ?_)
                                            refine n_if2_ne c_179_53 (by omega) (by omega) ?_ ?_
                                            · intro h71
                                              exfalso; omega
                                            · intro h72
                                              refine n_lconst (n := 1) c_179_56 rfl (n_iload c_179_57 rfl (n_aload_n c_179_59 rfl (n_getV (bi := 0) c_179_60 sc_112.n rfl rfl rfl (t_dm hS hdm) ?_)))
                                              intro z73 ez73 f74
                                              obtain rfl : z73 = 3 := by omega
                                              refine n_imul c_179_63 rfl (n_iload c_179_64 rfl (n_iadd c_179_66 rfl (n_i_lshl (z := 128) c_179_67 (by decide) ?_)))
                                              refine n_goto c_179_68 (n_i_lor (z := 177) c_179_72 (by decide) ?_)
                                              refine n_lstore_n (L2 := [some (2, 112), some (0, 20), some (1, 177), none, some (0, ((0 + 1) + 1)), some (0, (0 + 1))]) c_179_73 rfl rfl (n_iinc (L2 := [some (2, 112), some (0, 20), some (1, 177), none, some (0, ((0 + 1) + 1)), some (0, ((0 + 1) + 1))]) c_179_74 rfl rfl rfl (n_goto c_179_77 (n_iload c_179_27 rfl (n_aload_n c_179_29 rfl (n_getV (bi := 0) c_179_30 sc_112.n rfl rfl rfl (t_dm hS hdm) ?_)))))
                                              intro z75 ez75 f76
                                              obtain rfl : z75 = 3 := by omega
                                              refine n_if2_ge c_179_33 (by omega) (by omega) ?_ ?_
                                              · intro h77
                                                exfalso; omega
                                              · intro h78
                                                refine n_lload_n c_179_36 rfl (n_iload_n c_179_37 rfl (n_iconst c_179_38 (n_iload c_179_39 rfl (n_imul c_179_41 rfl (n_i_ishr (z := 1) c_179_42 (by decide) ?_)))))
                                                refine n_iconst c_179_43 (n_i_iand (z := 1) c_179_44 (by decide) ?_)
                                                refine n_iload_n c_179_45 rfl (n_iconst c_179_46 (n_iload c_179_47 rfl (n_imul c_179_49 rfl (n_i_ishr (z := 1) c_179_50 (by decide) ?_))))
                                                refine n_iconst c_179_51 (n_i_iand (z := 1) c_179_52 (by decide) ?_)
                                                refine n_if2_ne c_179_53 (by omega) (by omega) ?_ ?_
                                                · intro h79
                                                  exfalso; omega
                                                · intro h80
                                                  refine n_lconst (n := 1) c_179_56 rfl (n_iload c_179_57 rfl (n_aload_n c_179_59 rfl (n_getV (bi := 0) c_179_60 sc_112.n rfl rfl rfl (t_dm hS hdm) ?_)))
                                                  intro z81 ez81 f82
                                                  obtain rfl : z81 = 3 := by omega
                                                  refine n_imul c_179_63 rfl (n_iload c_179_64 rfl (n_iadd c_179_66 rfl (n_i_lshl (z := 256) c_179_67 (by decide) ?_)))
                                                  refine n_goto c_179_68 (n_i_lor (z := 433) c_179_72 (by decide) ?_)
                                                  refine n_lstore_n (L2 := [some (2, 112), some (0, 20), some (1, 433), none, some (0, ((0 + 1) + 1)), some (0, ((0 + 1) + 1))]) c_179_73 rfl rfl (n_iinc (L2 := [some (2, 112), some (0, 20), some (1, 433), none, some (0, ((0 + 1) + 1)), some (0, (((0 + 1) + 1) + 1))]) c_179_74 rfl rfl rfl (n_goto c_179_77 (n_iload c_179_27 rfl (n_aload_n c_179_29 rfl (n_getV (bi := 0) c_179_30 sc_112.n rfl rfl rfl (t_dm hS hdm) ?_)))))
                                                  intro z83 ez83 f84
                                                  obtain rfl : z83 = 3 := by omega
                                                  refine n_if2_ge c_179_33 (by omega) (by omega) ?_ ?_
                                                  · intro h85
                                                    refine n_iinc (L2 := [some (2, 112), some (0, 20), some (1, 433), none, some (0, (((0 + 1) + 1) + 1)), some (0, (((0 + 1) + 1) + 1))]) c_179_80 rfl rfl rfl (n_goto c_179_83 (n_iload c_179_15 rfl (n_aload_n c_179_17 rfl (n_getV (bi := 0) c_179_18 sc_112.n rfl rfl rfl (t_dm hS hdm) ?_))))
                                                    intro z86 ez86 f87
                                                    obtain rfl : z86 = 3 := by omega
                                                    refine n_if2_ge c_179_21 (by omega) (by omega) ?_ ?_
                                                    · intro h88
                                                      refine n_aload_n c_179_86 rfl (n_iconst c_179_87 (n_lload_n c_179_88 rfl (n_v2I c_179_89 rfl sc_112.n rfl rfl rfl rfl (mallKeepX_3 (k := 2) (s := 433) hS hdm (by omega) (by omega) (by exact hp)) ?_)))
                                                      intro z89 M90 hP91
                                                      obtain ⟨eM, f91, f91p0⟩ := hP91
                                                      subst eM
                                                      exact n_rZ c_179_92 rfl (by omega) ⟨rfl, by omega, by exact f91p0⟩
                                                    · intro h92
                                                      exfalso; omega
                                                  · intro h93
                                                    exfalso; omega
                                        · intro h94
                                          exfalso; omega
                                  · intro h95
                                    exfalso; omega
                        · intro h96
                          exfalso; omega
                  · intro h97
                    exfalso; omega
                · intro h98
                  exfalso; omega
            · intro h99
              exfalso; omega
  · intro h100
    exfalso; omega

set_option maxHeartbeats 4000000 in
theorem misPartX21_3 {xs : List Int32} {e : Nat} {ac : Int} {M0 M : nM} (hS : Sf 3 ac M0 M) (hdm : M0 112 0 = 3) : nW xs e 178 0 [some (2, 112), some (0, 21), none, none] [] M (nPI fun z M1 => M = M1 ∧ (0 ≤ z ∧ z ≤ 0)) := by
  have hd : (3 : Int) = 2 ∨ (3 : Int) = 3 := by decide
  have hac := hS.2.2.2.2
  refine n_iconst c_178_0 (n_istore_n (L2 := [some (2, 112), some (0, 21), some (0, 0), none]) c_178_1 rfl rfl (n_iload_n c_178_2 rfl (n_aload_n c_178_3 rfl (n_getV (bi := 0) c_178_4 sc_112.n rfl rfl rfl (t_dm hS hdm) ?_))))
  intro z1 ez1 f2
  obtain rfl : z1 = 3 := by omega
  refine n_if2_ge c_178_7 (by omega) (by omega) ?_ ?_
  · intro h3
    exfalso; omega
  · intro h4
    refine n_iload_n c_178_10 rfl (n_iconst c_178_11 (n_iload_n c_178_12 rfl (n_imul c_178_13 rfl (n_i_ishr (z := 21) c_178_14 (by decide) ?_))))
    refine n_iconst c_178_15 (n_i_iand (z := 1) c_178_16 (by decide) ?_)
    refine n_istore_n (L2 := [some (2, 112), some (0, 21), some (0, 0), some (0, 1)]) c_178_17 rfl rfl (n_iload_n c_178_18 rfl (n_iload_n c_178_19 rfl ?_))
    refine n_if2_gt c_178_20 (by omega) (by omega) ?_ ?_
    · intro h5
      refine n_iconst c_178_34 ?_
      exact n_rZ c_178_35 rfl (by omega) ⟨rfl, by omega⟩
    · intro h6
      exfalso; omega

set_option maxHeartbeats 4000000 in
theorem misPairX21_3 {xs : List Int32} {e : Nat} {ac : Int} {M0 M : nM} (hS : Sf 3 ac M0 M) (hdm : M0 112 0 = 3) (hp : ∀ a : Int, 0 ≤ a → a < M 112 4 → 1 ≤ M 116 a) : nW xs (e + 5) 179 0 [some (2, 112), some (0, 21), none, none, none, none] [] M (nPI fun z M1 => M = M1 ∧ (0 ≤ z ∧ z ≤ 1) ∧ (z = pg3 M 21)) := by
  have hd : (3 : Int) = 2 ∨ (3 : Int) = 3 := by decide
  have hac := hS.2.2.2.2
  refine n_aload_n c_179_0 rfl (n_iload_n c_179_1 rfl (n_v1I c_179_2 rfl sc_112.n rfl rfl rfl rfl (misPartX21_3  hS hdm) ?_))
  intro z1 M2 hP3
  obtain ⟨eM, f3⟩ := hP3
  subst eM
  obtain rfl : z1 = 0 := by omega
  refine n_if0_ne c_179_5 (by omega) ?_ ?_
  · intro h4
    exfalso; omega
  · intro h5
    refine n_iconst c_179_8 ?_
    exact n_rZ c_179_9 rfl (by omega) ⟨rfl, by omega, by rfl⟩

set_option maxHeartbeats 4000000 in
theorem misPartX22_3 {xs : List Int32} {e : Nat} {ac : Int} {M0 M : nM} (hS : Sf 3 ac M0 M) (hdm : M0 112 0 = 3) : nW xs e 178 0 [some (2, 112), some (0, 22), none, none] [] M (nPI fun z M1 => M = M1 ∧ (0 ≤ z ∧ z ≤ 0)) := by
  have hd : (3 : Int) = 2 ∨ (3 : Int) = 3 := by decide
  have hac := hS.2.2.2.2
  refine n_iconst c_178_0 (n_istore_n (L2 := [some (2, 112), some (0, 22), some (0, 0), none]) c_178_1 rfl rfl (n_iload_n c_178_2 rfl (n_aload_n c_178_3 rfl (n_getV (bi := 0) c_178_4 sc_112.n rfl rfl rfl (t_dm hS hdm) ?_))))
  intro z1 ez1 f2
  obtain rfl : z1 = 3 := by omega
  refine n_if2_ge c_178_7 (by omega) (by omega) ?_ ?_
  · intro h3
    exfalso; omega
  · intro h4
    refine n_iload_n c_178_10 rfl (n_iconst c_178_11 (n_iload_n c_178_12 rfl (n_imul c_178_13 rfl (n_i_ishr (z := 22) c_178_14 (by decide) ?_))))
    refine n_iconst c_178_15 (n_i_iand (z := 2) c_178_16 (by decide) ?_)
    refine n_istore_n (L2 := [some (2, 112), some (0, 22), some (0, 0), some (0, 2)]) c_178_17 rfl rfl (n_iload_n c_178_18 rfl (n_iload_n c_178_19 rfl ?_))
    refine n_if2_gt c_178_20 (by omega) (by omega) ?_ ?_
    · intro h5
      refine n_iconst c_178_34 ?_
      exact n_rZ c_178_35 rfl (by omega) ⟨rfl, by omega⟩
    · intro h6
      exfalso; omega

set_option maxHeartbeats 4000000 in
theorem misPairX22_3 {xs : List Int32} {e : Nat} {ac : Int} {M0 M : nM} (hS : Sf 3 ac M0 M) (hdm : M0 112 0 = 3) (hp : ∀ a : Int, 0 ≤ a → a < M 112 4 → 1 ≤ M 116 a) : nW xs (e + 5) 179 0 [some (2, 112), some (0, 22), none, none, none, none] [] M (nPI fun z M1 => M = M1 ∧ (0 ≤ z ∧ z ≤ 1) ∧ (z = pg3 M 22)) := by
  have hd : (3 : Int) = 2 ∨ (3 : Int) = 3 := by decide
  have hac := hS.2.2.2.2
  refine n_aload_n c_179_0 rfl (n_iload_n c_179_1 rfl (n_v1I c_179_2 rfl sc_112.n rfl rfl rfl rfl (misPartX22_3  hS hdm) ?_))
  intro z1 M2 hP3
  obtain ⟨eM, f3⟩ := hP3
  subst eM
  obtain rfl : z1 = 0 := by omega
  refine n_if0_ne c_179_5 (by omega) ?_ ?_
  · intro h4
    exfalso; omega
  · intro h5
    refine n_iconst c_179_8 ?_
    exact n_rZ c_179_9 rfl (by omega) ⟨rfl, by omega, by rfl⟩

set_option maxHeartbeats 4000000 in
theorem misPartX23_3 {xs : List Int32} {e : Nat} {ac : Int} {M0 M : nM} (hS : Sf 3 ac M0 M) (hdm : M0 112 0 = 3) : nW xs e 178 0 [some (2, 112), some (0, 23), none, none] [] M (nPI fun z M1 => M = M1 ∧ (0 ≤ z ∧ z ≤ 0)) := by
  have hd : (3 : Int) = 2 ∨ (3 : Int) = 3 := by decide
  have hac := hS.2.2.2.2
  refine n_iconst c_178_0 (n_istore_n (L2 := [some (2, 112), some (0, 23), some (0, 0), none]) c_178_1 rfl rfl (n_iload_n c_178_2 rfl (n_aload_n c_178_3 rfl (n_getV (bi := 0) c_178_4 sc_112.n rfl rfl rfl (t_dm hS hdm) ?_))))
  intro z1 ez1 f2
  obtain rfl : z1 = 3 := by omega
  refine n_if2_ge c_178_7 (by omega) (by omega) ?_ ?_
  · intro h3
    exfalso; omega
  · intro h4
    refine n_iload_n c_178_10 rfl (n_iconst c_178_11 (n_iload_n c_178_12 rfl (n_imul c_178_13 rfl (n_i_ishr (z := 23) c_178_14 (by decide) ?_))))
    refine n_iconst c_178_15 (n_i_iand (z := 3) c_178_16 (by decide) ?_)
    refine n_istore_n (L2 := [some (2, 112), some (0, 23), some (0, 0), some (0, 3)]) c_178_17 rfl rfl (n_iload_n c_178_18 rfl (n_iload_n c_178_19 rfl ?_))
    refine n_if2_gt c_178_20 (by omega) (by omega) ?_ ?_
    · intro h5
      refine n_iconst c_178_34 ?_
      exact n_rZ c_178_35 rfl (by omega) ⟨rfl, by omega⟩
    · intro h6
      exfalso; omega

set_option maxHeartbeats 4000000 in
theorem misPairX23_3 {xs : List Int32} {e : Nat} {ac : Int} {M0 M : nM} (hS : Sf 3 ac M0 M) (hdm : M0 112 0 = 3) (hp : ∀ a : Int, 0 ≤ a → a < M 112 4 → 1 ≤ M 116 a) : nW xs (e + 5) 179 0 [some (2, 112), some (0, 23), none, none, none, none] [] M (nPI fun z M1 => M = M1 ∧ (0 ≤ z ∧ z ≤ 1) ∧ (z = pg3 M 23)) := by
  have hd : (3 : Int) = 2 ∨ (3 : Int) = 3 := by decide
  have hac := hS.2.2.2.2
  refine n_aload_n c_179_0 rfl (n_iload_n c_179_1 rfl (n_v1I c_179_2 rfl sc_112.n rfl rfl rfl rfl (misPartX23_3  hS hdm) ?_))
  intro z1 M2 hP3
  obtain ⟨eM, f3⟩ := hP3
  subst eM
  obtain rfl : z1 = 0 := by omega
  refine n_if0_ne c_179_5 (by omega) ?_ ?_
  · intro h4
    exfalso; omega
  · intro h5
    refine n_iconst c_179_8 ?_
    exact n_rZ c_179_9 rfl (by omega) ⟨rfl, by omega, by rfl⟩

set_option maxHeartbeats 4000000 in
theorem misPartX24_3 {xs : List Int32} {e : Nat} {ac : Int} {M0 M : nM} (hS : Sf 3 ac M0 M) (hdm : M0 112 0 = 3) : nW xs e 178 0 [some (2, 112), some (0, 24), none, none] [] M (nPI fun z M1 => M = M1 ∧ (0 ≤ z ∧ z ≤ 0)) := by
  have hd : (3 : Int) = 2 ∨ (3 : Int) = 3 := by decide
  have hac := hS.2.2.2.2
  refine n_iconst c_178_0 (n_istore_n (L2 := [some (2, 112), some (0, 24), some (0, 0), none]) c_178_1 rfl rfl (n_iload_n c_178_2 rfl (n_aload_n c_178_3 rfl (n_getV (bi := 0) c_178_4 sc_112.n rfl rfl rfl (t_dm hS hdm) ?_))))
  intro z1 ez1 f2
  obtain rfl : z1 = 3 := by omega
  refine n_if2_ge c_178_7 (by omega) (by omega) ?_ ?_
  · intro h3
    exfalso; omega
  · intro h4
    refine n_iload_n c_178_10 rfl (n_iconst c_178_11 (n_iload_n c_178_12 rfl (n_imul c_178_13 rfl (n_i_ishr (z := 24) c_178_14 (by decide) ?_))))
    refine n_iconst c_178_15 (n_i_iand (z := 0) c_178_16 (by decide) ?_)
    refine n_istore_n (L2 := [some (2, 112), some (0, 24), some (0, 0), some (0, 0)]) c_178_17 rfl rfl (n_iload_n c_178_18 rfl (n_iload_n c_178_19 rfl ?_))
    refine n_if2_gt c_178_20 (by omega) (by omega) ?_ ?_
    · intro h5
      exfalso; omega
    · intro h6
      refine n_iload_n c_178_23 rfl (n_iconst c_178_24 (n_iload_n c_178_25 rfl (n_imul c_178_26 rfl (n_i_ishr (z := 24) c_178_27 (by decide) ?_))))
      refine n_iconst c_178_28 (n_i_iand (z := 0) c_178_29 (by decide) ?_)
      refine n_iload_n c_178_30 rfl ?_
      refine n_if2_eq c_178_31 (by omega) (by omega) ?_ ?_
      · intro h7
        refine n_iinc (L2 := [some (2, 112), some (0, 24), some (0, (0 + 1)), some (0, 0)]) c_178_36 rfl rfl rfl (n_goto c_178_39 (n_iload_n c_178_2 rfl (n_aload_n c_178_3 rfl (n_getV (bi := 0) c_178_4 sc_112.n rfl rfl rfl (t_dm hS hdm) ?_))))
        intro z8 ez8 f9
        obtain rfl : z8 = 3 := by omega
        refine n_if2_ge c_178_7 (by omega) (by omega) ?_ ?_
        · intro h10
          exfalso; omega
        · intro h11
          refine n_iload_n c_178_10 rfl (n_iconst c_178_11 (n_iload_n c_178_12 rfl (n_imul c_178_13 rfl (n_i_ishr (z := 6) c_178_14 (by decide) ?_))))
          refine n_iconst c_178_15 (n_i_iand (z := 2) c_178_16 (by decide) ?_)
          refine n_istore_n (L2 := [some (2, 112), some (0, 24), some (0, (0 + 1)), some (0, 2)]) c_178_17 rfl rfl (n_iload_n c_178_18 rfl (n_iload_n c_178_19 rfl ?_))
          refine n_if2_gt c_178_20 (by omega) (by omega) ?_ ?_
          · intro h12
            refine n_iconst c_178_34 ?_
            exact n_rZ c_178_35 rfl (by omega) ⟨rfl, by omega⟩
          · intro h13
            exfalso; omega
      · intro h14
        exfalso; omega

set_option maxHeartbeats 4000000 in
theorem misPairX24_3 {xs : List Int32} {e : Nat} {ac : Int} {M0 M : nM} (hS : Sf 3 ac M0 M) (hdm : M0 112 0 = 3) (hp : ∀ a : Int, 0 ≤ a → a < M 112 4 → 1 ≤ M 116 a) : nW xs (e + 5) 179 0 [some (2, 112), some (0, 24), none, none, none, none] [] M (nPI fun z M1 => M = M1 ∧ (0 ≤ z ∧ z ≤ 1) ∧ (z = pg3 M 24)) := by
  have hd : (3 : Int) = 2 ∨ (3 : Int) = 3 := by decide
  have hac := hS.2.2.2.2
  refine n_aload_n c_179_0 rfl (n_iload_n c_179_1 rfl (n_v1I c_179_2 rfl sc_112.n rfl rfl rfl rfl (misPartX24_3  hS hdm) ?_))
  intro z1 M2 hP3
  obtain ⟨eM, f3⟩ := hP3
  subst eM
  obtain rfl : z1 = 0 := by omega
  refine n_if0_ne c_179_5 (by omega) ?_ ?_
  · intro h4
    exfalso; omega
  · intro h5
    refine n_iconst c_179_8 ?_
    exact n_rZ c_179_9 rfl (by omega) ⟨rfl, by omega, by rfl⟩

set_option maxHeartbeats 4000000 in
theorem misPartX25_3 {xs : List Int32} {e : Nat} {ac : Int} {M0 M : nM} (hS : Sf 3 ac M0 M) (hdm : M0 112 0 = 3) : nW xs e 178 0 [some (2, 112), some (0, 25), none, none] [] M (nPI fun z M1 => M = M1 ∧ (0 ≤ z ∧ z ≤ 0)) := by
  have hd : (3 : Int) = 2 ∨ (3 : Int) = 3 := by decide
  have hac := hS.2.2.2.2
  refine n_iconst c_178_0 (n_istore_n (L2 := [some (2, 112), some (0, 25), some (0, 0), none]) c_178_1 rfl rfl (n_iload_n c_178_2 rfl (n_aload_n c_178_3 rfl (n_getV (bi := 0) c_178_4 sc_112.n rfl rfl rfl (t_dm hS hdm) ?_))))
  intro z1 ez1 f2
  obtain rfl : z1 = 3 := by omega
  refine n_if2_ge c_178_7 (by omega) (by omega) ?_ ?_
  · intro h3
    exfalso; omega
  · intro h4
    refine n_iload_n c_178_10 rfl (n_iconst c_178_11 (n_iload_n c_178_12 rfl (n_imul c_178_13 rfl (n_i_ishr (z := 25) c_178_14 (by decide) ?_))))
    refine n_iconst c_178_15 (n_i_iand (z := 1) c_178_16 (by decide) ?_)
    refine n_istore_n (L2 := [some (2, 112), some (0, 25), some (0, 0), some (0, 1)]) c_178_17 rfl rfl (n_iload_n c_178_18 rfl (n_iload_n c_178_19 rfl ?_))
    refine n_if2_gt c_178_20 (by omega) (by omega) ?_ ?_
    · intro h5
      refine n_iconst c_178_34 ?_
      exact n_rZ c_178_35 rfl (by omega) ⟨rfl, by omega⟩
    · intro h6
      exfalso; omega

set_option maxHeartbeats 4000000 in
theorem misPairX25_3 {xs : List Int32} {e : Nat} {ac : Int} {M0 M : nM} (hS : Sf 3 ac M0 M) (hdm : M0 112 0 = 3) (hp : ∀ a : Int, 0 ≤ a → a < M 112 4 → 1 ≤ M 116 a) : nW xs (e + 5) 179 0 [some (2, 112), some (0, 25), none, none, none, none] [] M (nPI fun z M1 => M = M1 ∧ (0 ≤ z ∧ z ≤ 1) ∧ (z = pg3 M 25)) := by
  have hd : (3 : Int) = 2 ∨ (3 : Int) = 3 := by decide
  have hac := hS.2.2.2.2
  refine n_aload_n c_179_0 rfl (n_iload_n c_179_1 rfl (n_v1I c_179_2 rfl sc_112.n rfl rfl rfl rfl (misPartX25_3  hS hdm) ?_))
  intro z1 M2 hP3
  obtain ⟨eM, f3⟩ := hP3
  subst eM
  obtain rfl : z1 = 0 := by omega
  refine n_if0_ne c_179_5 (by omega) ?_ ?_
  · intro h4
    exfalso; omega
  · intro h5
    refine n_iconst c_179_8 ?_
    exact n_rZ c_179_9 rfl (by omega) ⟨rfl, by omega, by rfl⟩

set_option maxHeartbeats 4000000 in
theorem misPartX26_3 {xs : List Int32} {e : Nat} {ac : Int} {M0 M : nM} (hS : Sf 3 ac M0 M) (hdm : M0 112 0 = 3) : nW xs e 178 0 [some (2, 112), some (0, 26), none, none] [] M (nPI fun z M1 => M = M1 ∧ (0 ≤ z ∧ z ≤ 0)) := by
  have hd : (3 : Int) = 2 ∨ (3 : Int) = 3 := by decide
  have hac := hS.2.2.2.2
  refine n_iconst c_178_0 (n_istore_n (L2 := [some (2, 112), some (0, 26), some (0, 0), none]) c_178_1 rfl rfl (n_iload_n c_178_2 rfl (n_aload_n c_178_3 rfl (n_getV (bi := 0) c_178_4 sc_112.n rfl rfl rfl (t_dm hS hdm) ?_))))
  intro z1 ez1 f2
  obtain rfl : z1 = 3 := by omega
  refine n_if2_ge c_178_7 (by omega) (by omega) ?_ ?_
  · intro h3
    exfalso; omega
  · intro h4
    refine n_iload_n c_178_10 rfl (n_iconst c_178_11 (n_iload_n c_178_12 rfl (n_imul c_178_13 rfl (n_i_ishr (z := 26) c_178_14 (by decide) ?_))))
    refine n_iconst c_178_15 (n_i_iand (z := 2) c_178_16 (by decide) ?_)
    refine n_istore_n (L2 := [some (2, 112), some (0, 26), some (0, 0), some (0, 2)]) c_178_17 rfl rfl (n_iload_n c_178_18 rfl (n_iload_n c_178_19 rfl ?_))
    refine n_if2_gt c_178_20 (by omega) (by omega) ?_ ?_
    · intro h5
      refine n_iconst c_178_34 ?_
      exact n_rZ c_178_35 rfl (by omega) ⟨rfl, by omega⟩
    · intro h6
      exfalso; omega

set_option maxHeartbeats 4000000 in
theorem misPairX26_3 {xs : List Int32} {e : Nat} {ac : Int} {M0 M : nM} (hS : Sf 3 ac M0 M) (hdm : M0 112 0 = 3) (hp : ∀ a : Int, 0 ≤ a → a < M 112 4 → 1 ≤ M 116 a) : nW xs (e + 5) 179 0 [some (2, 112), some (0, 26), none, none, none, none] [] M (nPI fun z M1 => M = M1 ∧ (0 ≤ z ∧ z ≤ 1) ∧ (z = pg3 M 26)) := by
  have hd : (3 : Int) = 2 ∨ (3 : Int) = 3 := by decide
  have hac := hS.2.2.2.2
  refine n_aload_n c_179_0 rfl (n_iload_n c_179_1 rfl (n_v1I c_179_2 rfl sc_112.n rfl rfl rfl rfl (misPartX26_3  hS hdm) ?_))
  intro z1 M2 hP3
  obtain ⟨eM, f3⟩ := hP3
  subst eM
  obtain rfl : z1 = 0 := by omega
  refine n_if0_ne c_179_5 (by omega) ?_ ?_
  · intro h4
    exfalso; omega
  · intro h5
    refine n_iconst c_179_8 ?_
    exact n_rZ c_179_9 rfl (by omega) ⟨rfl, by omega, by rfl⟩

set_option maxHeartbeats 4000000 in
theorem misPartX27_3 {xs : List Int32} {e : Nat} {ac : Int} {M0 M : nM} (hS : Sf 3 ac M0 M) (hdm : M0 112 0 = 3) : nW xs e 178 0 [some (2, 112), some (0, 27), none, none] [] M (nPI fun z M1 => M = M1 ∧ (0 ≤ z ∧ z ≤ 0)) := by
  have hd : (3 : Int) = 2 ∨ (3 : Int) = 3 := by decide
  have hac := hS.2.2.2.2
  refine n_iconst c_178_0 (n_istore_n (L2 := [some (2, 112), some (0, 27), some (0, 0), none]) c_178_1 rfl rfl (n_iload_n c_178_2 rfl (n_aload_n c_178_3 rfl (n_getV (bi := 0) c_178_4 sc_112.n rfl rfl rfl (t_dm hS hdm) ?_))))
  intro z1 ez1 f2
  obtain rfl : z1 = 3 := by omega
  refine n_if2_ge c_178_7 (by omega) (by omega) ?_ ?_
  · intro h3
    exfalso; omega
  · intro h4
    refine n_iload_n c_178_10 rfl (n_iconst c_178_11 (n_iload_n c_178_12 rfl (n_imul c_178_13 rfl (n_i_ishr (z := 27) c_178_14 (by decide) ?_))))
    refine n_iconst c_178_15 (n_i_iand (z := 3) c_178_16 (by decide) ?_)
    refine n_istore_n (L2 := [some (2, 112), some (0, 27), some (0, 0), some (0, 3)]) c_178_17 rfl rfl (n_iload_n c_178_18 rfl (n_iload_n c_178_19 rfl ?_))
    refine n_if2_gt c_178_20 (by omega) (by omega) ?_ ?_
    · intro h5
      refine n_iconst c_178_34 ?_
      exact n_rZ c_178_35 rfl (by omega) ⟨rfl, by omega⟩
    · intro h6
      exfalso; omega
