/-! What the methods tell. -/
set_option maxHeartbeats 4000000 in
theorem misPairX27_3 {xs : List Int32} {e : Nat} {ac : Int} {M0 M : nM} (hS : Sf 3 ac M0 M) (hdm : M0 112 0 = 3) (hp : ∀ a : Int, 0 ≤ a → a < M 112 4 → 1 ≤ M 116 a) : nW xs (e + 5) 179 0 [some (2, 112), some (0, 27), none, none, none, none] [] M (nPI fun z M1 => M = M1 ∧ (0 ≤ z ∧ z ≤ 1) ∧ (z = pg3 M 27)) := by
  have hd : (3 : Int) = 2 ∨ (3 : Int) = 3 := by decide
  have hac := hS.2.2.2.2
  refine n_aload_n c_179_0 rfl (n_iload_n c_179_1 rfl (n_v1I c_179_2 rfl sc_112.n rfl rfl rfl rfl (misPartX27_3  hS hdm) ?_))
  intro z1 M2 hP3
  obtain ⟨eM, f3⟩ := hP3
  subst eM
  obtain rfl : z1 = 0 := by omega
  refine n_if0_ne c_179_5 (by omega) ?_ ?_
  · intro h4
    exfalso; omega
  · intro h5
    refine n_iconst c_179_8 ?_
    exact n_rZ c_179_9 rfl (by omega) ⟨rfl, by omega, by rfl⟩

set_option maxHeartbeats 4000000 in
theorem misPartX28_3 {xs : List Int32} {e : Nat} {ac : Int} {M0 M : nM} (hS : Sf 3 ac M0 M) (hdm : M0 112 0 = 3) : nW xs e 178 0 [some (2, 112), some (0, 28), none, none] [] M (nPI fun z M1 => M = M1 ∧ (0 ≤ z ∧ z ≤ 0)) := by
  have hd : (3 : Int) = 2 ∨ (3 : Int) = 3 := by decide
  have hac := hS.2.2.2.2
  refine n_iconst c_178_0 (n_istore_n (L2 := [some (2, 112), some (0, 28), some (0, 0), none]) c_178_1 rfl rfl (n_iload_n c_178_2 rfl (n_aload_n c_178_3 rfl (n_getV (bi := 0) c_178_4 sc_112.n rfl rfl rfl (t_dm hS hdm) ?_))))
  intro z1 ez1 f2
  obtain rfl : z1 = 3 := by omega
  refine n_if2_ge c_178_7 (by omega) (by omega) ?_ ?_
  · intro h3
    exfalso; omega
  · intro h4
    refine n_iload_n c_178_10 rfl (n_iconst c_178_11 (n_iload_n c_178_12 rfl (n_imul c_178_13 rfl (n_i_ishr (z := 28) c_178_14 (by decide) ?_))))
    refine n_iconst c_178_15 (n_i_iand (z := 0) c_178_16 (by decide) ?_)
    refine n_istore_n (L2 := [some (2, 112), some (0, 28), some (0, 0), some (0, 0)]) c_178_17 rfl rfl (n_iload_n c_178_18 rfl (n_iload_n c_178_19 rfl ?_))
    refine n_if2_gt c_178_20 (by omega) (by omega) ?_ ?_
    · intro h5
      exfalso; omega
    · intro h6
      refine n_iload_n c_178_23 rfl (n_iconst c_178_24 (n_iload_n c_178_25 rfl (n_imul c_178_26 rfl (n_i_ishr (z := 28) c_178_27 (by decide) ?_))))
      refine n_iconst c_178_28 (n_i_iand (z := 0) c_178_29 (by decide) ?_)
      refine n_iload_n c_178_30 rfl ?_
      refine n_if2_eq c_178_31 (by omega) (by omega) ?_ ?_
      · intro h7
        refine n_iinc (L2 := [some (2, 112), some (0, 28), some (0, (0 + 1)), some (0, 0)]) c_178_36 rfl rfl rfl (n_goto c_178_39 (n_iload_n c_178_2 rfl (n_aload_n c_178_3 rfl (n_getV (bi := 0) c_178_4 sc_112.n rfl rfl rfl (t_dm hS hdm) ?_))))
        intro z8 ez8 f9
        obtain rfl : z8 = 3 := by omega
        refine n_if2_ge c_178_7 (by omega) (by omega) ?_ ?_
        · intro h10
          exfalso; omega
        · intro h11
          refine n_iload_n c_178_10 rfl (n_iconst c_178_11 (n_iload_n c_178_12 rfl (n_imul c_178_13 rfl (n_i_ishr (z := 7) c_178_14 (by decide) ?_))))
          refine n_iconst c_178_15 (n_i_iand (z := 3) c_178_16 (by decide) ?_)
          refine n_istore_n (L2 := [some (2, 112), some (0, 28), some (0, (0 + 1)), some (0, 3)]) c_178_17 rfl rfl (n_iload_n c_178_18 rfl (n_iload_n c_178_19 rfl ?_))
          refine n_if2_gt c_178_20 (by omega) (by omega) ?_ ?_
          · intro h12
            refine n_iconst c_178_34 ?_
            exact n_rZ c_178_35 rfl (by omega) ⟨rfl, by omega⟩
          · intro h13
            exfalso; omega
      · intro h14
        exfalso; omega

set_option maxHeartbeats 4000000 in
theorem misPairX28_3 {xs : List Int32} {e : Nat} {ac : Int} {M0 M : nM} (hS : Sf 3 ac M0 M) (hdm : M0 112 0 = 3) (hp : ∀ a : Int, 0 ≤ a → a < M 112 4 → 1 ≤ M 116 a) : nW xs (e + 5) 179 0 [some (2, 112), some (0, 28), none, none, none, none] [] M (nPI fun z M1 => M = M1 ∧ (0 ≤ z ∧ z ≤ 1) ∧ (z = pg3 M 28)) := by
  have hd : (3 : Int) = 2 ∨ (3 : Int) = 3 := by decide
  have hac := hS.2.2.2.2
  refine n_aload_n c_179_0 rfl (n_iload_n c_179_1 rfl (n_v1I c_179_2 rfl sc_112.n rfl rfl rfl rfl (misPartX28_3  hS hdm) ?_))
  intro z1 M2 hP3
  obtain ⟨eM, f3⟩ := hP3
  subst eM
  obtain rfl : z1 = 0 := by omega
  refine n_if0_ne c_179_5 (by omega) ?_ ?_
  · intro h4
    exfalso; omega
  · intro h5
    refine n_iconst c_179_8 ?_
    exact n_rZ c_179_9 rfl (by omega) ⟨rfl, by omega, by rfl⟩

set_option maxHeartbeats 4000000 in
theorem misPartX29_3 {xs : List Int32} {e : Nat} {ac : Int} {M0 M : nM} (hS : Sf 3 ac M0 M) (hdm : M0 112 0 = 3) : nW xs e 178 0 [some (2, 112), some (0, 29), none, none] [] M (nPI fun z M1 => M = M1 ∧ (0 ≤ z ∧ z ≤ 0)) := by
  have hd : (3 : Int) = 2 ∨ (3 : Int) = 3 := by decide
  have hac := hS.2.2.2.2
  refine n_iconst c_178_0 (n_istore_n (L2 := [some (2, 112), some (0, 29), some (0, 0), none]) c_178_1 rfl rfl (n_iload_n c_178_2 rfl (n_aload_n c_178_3 rfl (n_getV (bi := 0) c_178_4 sc_112.n rfl rfl rfl (t_dm hS hdm) ?_))))
  intro z1 ez1 f2
  obtain rfl : z1 = 3 := by omega
  refine n_if2_ge c_178_7 (by omega) (by omega) ?_ ?_
  · intro h3
    exfalso; omega
  · intro h4
    refine n_iload_n c_178_10 rfl (n_iconst c_178_11 (n_iload_n c_178_12 rfl (n_imul c_178_13 rfl (n_i_ishr (z := 29) c_178_14 (by decide) ?_))))
    refine n_iconst c_178_15 (n_i_iand (z := 1) c_178_16 (by decide) ?_)
    refine n_istore_n (L2 := [some (2, 112), some (0, 29), some (0, 0), some (0, 1)]) c_178_17 rfl rfl (n_iload_n c_178_18 rfl (n_iload_n c_178_19 rfl ?_))
    refine n_if2_gt c_178_20 (by omega) (by omega) ?_ ?_
    · intro h5
      refine n_iconst c_178_34 ?_
      exact n_rZ c_178_35 rfl (by omega) ⟨rfl, by omega⟩
    · intro h6
      exfalso; omega

set_option maxHeartbeats 4000000 in
theorem misPairX29_3 {xs : List Int32} {e : Nat} {ac : Int} {M0 M : nM} (hS : Sf 3 ac M0 M) (hdm : M0 112 0 = 3) (hp : ∀ a : Int, 0 ≤ a → a < M 112 4 → 1 ≤ M 116 a) : nW xs (e + 5) 179 0 [some (2, 112), some (0, 29), none, none, none, none] [] M (nPI fun z M1 => M = M1 ∧ (0 ≤ z ∧ z ≤ 1) ∧ (z = pg3 M 29)) := by
  have hd : (3 : Int) = 2 ∨ (3 : Int) = 3 := by decide
  have hac := hS.2.2.2.2
  refine n_aload_n c_179_0 rfl (n_iload_n c_179_1 rfl (n_v1I c_179_2 rfl sc_112.n rfl rfl rfl rfl (misPartX29_3  hS hdm) ?_))
  intro z1 M2 hP3
  obtain ⟨eM, f3⟩ := hP3
  subst eM
  obtain rfl : z1 = 0 := by omega
  refine n_if0_ne c_179_5 (by omega) ?_ ?_
  · intro h4
    exfalso; omega
  · intro h5
    refine n_iconst c_179_8 ?_
    exact n_rZ c_179_9 rfl (by omega) ⟨rfl, by omega, by rfl⟩

set_option maxHeartbeats 4000000 in
theorem misPartX30_3 {xs : List Int32} {e : Nat} {ac : Int} {M0 M : nM} (hS : Sf 3 ac M0 M) (hdm : M0 112 0 = 3) : nW xs e 178 0 [some (2, 112), some (0, 30), none, none] [] M (nPI fun z M1 => M = M1 ∧ (0 ≤ z ∧ z ≤ 0)) := by
  have hd : (3 : Int) = 2 ∨ (3 : Int) = 3 := by decide
  have hac := hS.2.2.2.2
  refine n_iconst c_178_0 (n_istore_n (L2 := [some (2, 112), some (0, 30), some (0, 0), none]) c_178_1 rfl rfl (n_iload_n c_178_2 rfl (n_aload_n c_178_3 rfl (n_getV (bi := 0) c_178_4 sc_112.n rfl rfl rfl (t_dm hS hdm) ?_))))
  intro z1 ez1 f2
  obtain rfl : z1 = 3 := by omega
  refine n_if2_ge c_178_7 (by omega) (by omega) ?_ ?_
  · intro h3
    exfalso; omega
  · intro h4
    refine n_iload_n c_178_10 rfl (n_iconst c_178_11 (n_iload_n c_178_12 rfl (n_imul c_178_13 rfl (n_i_ishr (z := 30) c_178_14 (by decide) ?_))))
    refine n_iconst c_178_15 (n_i_iand (z := 2) c_178_16 (by decide) ?_)
    refine n_istore_n (L2 := [some (2, 112), some (0, 30), some (0, 0), some (0, 2)]) c_178_17 rfl rfl (n_iload_n c_178_18 rfl (n_iload_n c_178_19 rfl ?_))
    refine n_if2_gt c_178_20 (by omega) (by omega) ?_ ?_
    · intro h5
      refine n_iconst c_178_34 ?_
      exact n_rZ c_178_35 rfl (by omega) ⟨rfl, by omega⟩
    · intro h6
      exfalso; omega

set_option maxHeartbeats 4000000 in
theorem misPairX30_3 {xs : List Int32} {e : Nat} {ac : Int} {M0 M : nM} (hS : Sf 3 ac M0 M) (hdm : M0 112 0 = 3) (hp : ∀ a : Int, 0 ≤ a → a < M 112 4 → 1 ≤ M 116 a) : nW xs (e + 5) 179 0 [some (2, 112), some (0, 30), none, none, none, none] [] M (nPI fun z M1 => M = M1 ∧ (0 ≤ z ∧ z ≤ 1) ∧ (z = pg3 M 30)) := by
  have hd : (3 : Int) = 2 ∨ (3 : Int) = 3 := by decide
  have hac := hS.2.2.2.2
  refine n_aload_n c_179_0 rfl (n_iload_n c_179_1 rfl (n_v1I c_179_2 rfl sc_112.n rfl rfl rfl rfl (misPartX30_3  hS hdm) ?_))
  intro z1 M2 hP3
  obtain ⟨eM, f3⟩ := hP3
  subst eM
  obtain rfl : z1 = 0 := by omega
  refine n_if0_ne c_179_5 (by omega) ?_ ?_
  · intro h4
    exfalso; omega
  · intro h5
    refine n_iconst c_179_8 ?_
    exact n_rZ c_179_9 rfl (by omega) ⟨rfl, by omega, by rfl⟩

set_option maxHeartbeats 4000000 in
theorem misPartX31_3 {xs : List Int32} {e : Nat} {ac : Int} {M0 M : nM} (hS : Sf 3 ac M0 M) (hdm : M0 112 0 = 3) : nW xs e 178 0 [some (2, 112), some (0, 31), none, none] [] M (nPI fun z M1 => M = M1 ∧ (0 ≤ z ∧ z ≤ 0)) := by
  have hd : (3 : Int) = 2 ∨ (3 : Int) = 3 := by decide
  have hac := hS.2.2.2.2
  refine n_iconst c_178_0 (n_istore_n (L2 := [some (2, 112), some (0, 31), some (0, 0), none]) c_178_1 rfl rfl (n_iload_n c_178_2 rfl (n_aload_n c_178_3 rfl (n_getV (bi := 0) c_178_4 sc_112.n rfl rfl rfl (t_dm hS hdm) ?_))))
  intro z1 ez1 f2
  obtain rfl : z1 = 3 := by omega
  refine n_if2_ge c_178_7 (by omega) (by omega) ?_ ?_
  · intro h3
    exfalso; omega
  · intro h4
    refine n_iload_n c_178_10 rfl (n_iconst c_178_11 (n_iload_n c_178_12 rfl (n_imul c_178_13 rfl (n_i_ishr (z := 31) c_178_14 (by decide) ?_))))
    refine n_iconst c_178_15 (n_i_iand (z := 3) c_178_16 (by decide) ?_)
    refine n_istore_n (L2 := [some (2, 112), some (0, 31), some (0, 0), some (0, 3)]) c_178_17 rfl rfl (n_iload_n c_178_18 rfl (n_iload_n c_178_19 rfl ?_))
    refine n_if2_gt c_178_20 (by omega) (by omega) ?_ ?_
    · intro h5
      refine n_iconst c_178_34 ?_
      exact n_rZ c_178_35 rfl (by omega) ⟨rfl, by omega⟩
    · intro h6
      exfalso; omega

set_option maxHeartbeats 4000000 in
theorem misPairX31_3 {xs : List Int32} {e : Nat} {ac : Int} {M0 M : nM} (hS : Sf 3 ac M0 M) (hdm : M0 112 0 = 3) (hp : ∀ a : Int, 0 ≤ a → a < M 112 4 → 1 ≤ M 116 a) : nW xs (e + 5) 179 0 [some (2, 112), some (0, 31), none, none, none, none] [] M (nPI fun z M1 => M = M1 ∧ (0 ≤ z ∧ z ≤ 1) ∧ (z = pg3 M 31)) := by
  have hd : (3 : Int) = 2 ∨ (3 : Int) = 3 := by decide
  have hac := hS.2.2.2.2
  refine n_aload_n c_179_0 rfl (n_iload_n c_179_1 rfl (n_v1I c_179_2 rfl sc_112.n rfl rfl rfl rfl (misPartX31_3  hS hdm) ?_))
  intro z1 M2 hP3
  obtain ⟨eM, f3⟩ := hP3
  subst eM
  obtain rfl : z1 = 0 := by omega
  refine n_if0_ne c_179_5 (by omega) ?_ ?_
  · intro h4
    exfalso; omega
  · intro h5
    refine n_iconst c_179_8 ?_
    exact n_rZ c_179_9 rfl (by omega) ⟨rfl, by omega, by rfl⟩

set_option maxHeartbeats 4000000 in
theorem misPartX32_3 {xs : List Int32} {e : Nat} {ac : Int} {M0 M : nM} (hS : Sf 3 ac M0 M) (hdm : M0 112 0 = 3) : nW xs e 178 0 [some (2, 112), some (0, 32), none, none] [] M (nPI fun z M1 => M = M1 ∧ (1 ≤ z ∧ z ≤ 1)) := by
  have hd : (3 : Int) = 2 ∨ (3 : Int) = 3 := by decide
  have hac := hS.2.2.2.2
  refine n_iconst c_178_0 (n_istore_n (L2 := [some (2, 112), some (0, 32), some (0, 0), none]) c_178_1 rfl rfl (n_iload_n c_178_2 rfl (n_aload_n c_178_3 rfl (n_getV (bi := 0) c_178_4 sc_112.n rfl rfl rfl (t_dm hS hdm) ?_))))
  intro z1 ez1 f2
  obtain rfl : z1 = 3 := by omega
  refine n_if2_ge c_178_7 (by omega) (by omega) ?_ ?_
  · intro h3
    exfalso; omega
  · intro h4
    refine n_iload_n c_178_10 rfl (n_iconst c_178_11 (n_iload_n c_178_12 rfl (n_imul c_178_13 rfl (n_i_ishr (z := 32) c_178_14 (by decide) ?_))))
    refine n_iconst c_178_15 (n_i_iand (z := 0) c_178_16 (by decide) ?_)
    refine n_istore_n (L2 := [some (2, 112), some (0, 32), some (0, 0), some (0, 0)]) c_178_17 rfl rfl (n_iload_n c_178_18 rfl (n_iload_n c_178_19 rfl ?_))
    refine n_if2_gt c_178_20 (by omega) (by omega) ?_ ?_
    · intro h5
      exfalso; omega
    · intro h6
      refine n_iload_n c_178_23 rfl (n_iconst c_178_24 (n_iload_n c_178_25 rfl (n_imul c_178_26 rfl (n_i_ishr (z := 32) c_178_27 (by decide) ?_))))
      refine n_iconst c_178_28 (n_i_iand (z := 0) c_178_29 (by decide) ?_)
      refine n_iload_n c_178_30 rfl ?_
      refine n_if2_eq c_178_31 (by omega) (by omega) ?_ ?_
      · intro h7
        refine n_iinc (L2 := [some (2, 112), some (0, 32), some (0, (0 + 1)), some (0, 0)]) c_178_36 rfl rfl rfl (n_goto c_178_39 (n_iload_n c_178_2 rfl (n_aload_n c_178_3 rfl (n_getV (bi := 0) c_178_4 sc_112.n rfl rfl rfl (t_dm hS hdm) ?_))))
        intro z8 ez8 f9
        obtain rfl : z8 = 3 := by omega
        refine n_if2_ge c_178_7 (by omega) (by omega) ?_ ?_
        · intro h10
          exfalso; omega
        · intro h11
          refine n_iload_n c_178_10 rfl (n_iconst c_178_11 (n_iload_n c_178_12 rfl (n_imul c_178_13 rfl (n_i_ishr (z := 8) c_178_14 (by decide) ?_))))
          refine n_iconst c_178_15 (n_i_iand (z := 0) c_178_16 (by decide) ?_)
          refine n_istore_n (L2 := [some (2, 112), some (0, 32), some (0, (0 + 1)), some (0, 0)]) c_178_17 rfl rfl (n_iload_n c_178_18 rfl (n_iload_n c_178_19 rfl ?_))
          refine n_if2_gt c_178_20 (by omega) (by omega) ?_ ?_
          · intro h12
            exfalso; omega
          · intro h13
            refine n_iload_n c_178_23 rfl (n_iconst c_178_24 (n_iload_n c_178_25 rfl (n_imul c_178_26 rfl (n_i_ishr (z := 32) c_178_27 (by decide) ?_))))
            refine n_iconst c_178_28 (n_i_iand (z := 0) c_178_29 (by decide) ?_)
            refine n_iload_n c_178_30 rfl ?_
            refine n_if2_eq c_178_31 (by omega) (by omega) ?_ ?_
            · intro h14
              refine n_iinc (L2 := [some (2, 112), some (0, 32), some (0, ((0 + 1) + 1)), some (0, 0)]) c_178_36 rfl rfl rfl (n_goto c_178_39 (n_iload_n c_178_2 rfl (n_aload_n c_178_3 rfl (n_getV (bi := 0) c_178_4 sc_112.n rfl rfl rfl (t_dm hS hdm) ?_))))
              intro z15 ez15 f16
              obtain rfl : z15 = 3 := by omega
              refine n_if2_ge c_178_7 (by omega) (by omega) ?_ ?_
              · intro h17
                exfalso; omega
              · intro h18
                refine n_iload_n c_178_10 rfl (n_iconst c_178_11 (n_iload_n c_178_12 rfl (n_imul c_178_13 rfl (n_i_ishr (z := 2) c_178_14 (by decide) ?_))))
                refine n_iconst c_178_15 (n_i_iand (z := 2) c_178_16 (by decide) ?_)
                refine n_istore_n (L2 := [some (2, 112), some (0, 32), some (0, ((0 + 1) + 1)), some (0, 2)]) c_178_17 rfl rfl (n_iload_n c_178_18 rfl (n_iload_n c_178_19 rfl ?_))
                refine n_if2_gt c_178_20 (by omega) (by omega) ?_ ?_
                · intro h19
                  exfalso; omega
                · intro h20
                  refine n_iload_n c_178_23 rfl (n_iconst c_178_24 (n_iload_n c_178_25 rfl (n_imul c_178_26 rfl (n_i_ishr (z := 2) c_178_27 (by decide) ?_))))
                  refine n_iconst c_178_28 (n_i_iand (z := 2) c_178_29 (by decide) ?_)
                  refine n_iload_n c_178_30 rfl ?_
                  refine n_if2_eq c_178_31 (by omega) (by omega) ?_ ?_
                  · intro h21
                    refine n_iinc (L2 := [some (2, 112), some (0, 32), some (0, (((0 + 1) + 1) + 1)), some (0, 2)]) c_178_36 rfl rfl rfl (n_goto c_178_39 (n_iload_n c_178_2 rfl (n_aload_n c_178_3 rfl (n_getV (bi := 0) c_178_4 sc_112.n rfl rfl rfl (t_dm hS hdm) ?_))))
                    intro z22 ez22 f23
                    obtain rfl : z22 = 3 := by omega
                    refine n_if2_ge c_178_7 (by omega) (by omega) ?_ ?_
                    · intro h24
                      refine n_iconst c_178_42 ?_
                      exact n_rZ c_178_43 rfl (by omega) ⟨rfl, by omega⟩
                    · intro h25
                      exfalso; omega
                  · intro h26
                    exfalso; omega
            · intro h27
              exfalso; omega
      · intro h28
        exfalso; omega

set_option maxHeartbeats 4000000 in
theorem misPairX32_3 {xs : List Int32} {e : Nat} {ac : Int} {M0 M : nM} (hS : Sf 3 ac M0 M) (hdm : M0 112 0 = 3) (hp : ∀ a : Int, 0 ≤ a → a < M 112 4 → 1 ≤ M 116 a) : nW xs (e + 5) 179 0 [some (2, 112), some (0, 32), none, none, none, none] [] M (nPI fun z M1 => M = M1 ∧ (0 ≤ z ∧ z ≤ 1) ∧ (z = pg3 M 32)) := by
  have hd : (3 : Int) = 2 ∨ (3 : Int) = 3 := by decide
  have hac := hS.2.2.2.2
  refine n_aload_n c_179_0 rfl (n_iload_n c_179_1 rfl (n_v1I c_179_2 rfl sc_112.n rfl rfl rfl rfl (misPartX32_3  hS hdm) ?_))
  intro z1 M2 hP3
  obtain ⟨eM, f3⟩ := hP3
  subst eM
  obtain rfl : z1 = 1 := by omega
  refine n_if0_ne c_179_5 (by omega) ?_ ?_
  · intro h4
    refine n_lconst (n := 0) c_179_10 rfl (n_lstore_n (L2 := [some (2, 112), some (0, 32), some (1, 0), none, none, none]) c_179_11 rfl rfl (n_iconst c_179_12 (n_istore (L2 := [some (2, 112), some (0, 32), some (1, 0), none, some (0, 0), none]) c_179_13 rfl rfl (n_iload c_179_15 rfl (n_aload_n c_179_17 rfl (n_getV (bi := 0) c_179_18 sc_112.n rfl rfl rfl (t_dm hS hdm) ?_))))))
    intro z5 ez5 f6
    obtain rfl : z5 = 3 := by omega
    refine n_if2_ge c_179_21 (by omega) (by omega) ?_ ?_
    · intro h7
      exfalso; omega
    · intro h8
      refine n_iconst c_179_24 (n_istore (L2 := [some (2, 112), some (0, 32), some (1, 0), none, some (0, 0), some (0, 0)]) c_179_25 rfl rfl (n_iload c_179_27 rfl (n_aload_n c_179_29 rfl (n_getV (bi := 0) c_179_30 sc_112.n rfl rfl rfl (t_dm hS hdm) ?_))))
      intro z9 ez9 f10
      obtain rfl : z9 = 3 := by omega
      refine n_if2_ge c_179_33 (by omega) (by omega) ?_ ?_
      · intro h11
        exfalso; omega
      · intro h12
        refine n_lload_n c_179_36 rfl (n_iload_n c_179_37 rfl (n_iconst c_179_38 (n_iload c_179_39 rfl (n_imul c_179_41 rfl (n_i_ishr (z := 32) c_179_42 (by decide) ?_)))))
        refine n_iconst c_179_43 (n_i_iand (z := 0) c_179_44 (by decide) ?_)
        refine n_iload_n c_179_45 rfl (n_iconst c_179_46 (n_iload c_179_47 rfl (n_imul c_179_49 rfl (n_i_ishr (z := 32) c_179_50 (by decide) ?_))))
        refine n_iconst c_179_51 (n_i_iand (z := 0) c_179_52 (by decide) ?_)
        refine n_if2_ne c_179_53 (by omega) (by omega) ?_ ?_
        · intro h13
          exfalso; omega
        · intro h14
          refine n_lconst (n := 1) c_179_56 rfl (n_iload c_179_57 rfl (n_aload_n c_179_59 rfl (n_getV (bi := 0) c_179_60 sc_112.n rfl rfl rfl (t_dm hS hdm) ?_)))
          intro z15 ez15 f16
          obtain rfl : z15 = 3 := by omega
          refine n_imul c_179_63 rfl (n_iload c_179_64 rfl (n_iadd c_179_66 rfl (n_i_lshl (z := 1) c_179_67 (by decide) ?_)))
          refine n_goto c_179_68 (n_i_lor (z := 1) c_179_72 (by decide) ?_)
          refine n_lstore_n (L2 := [some (2, 112), some (0, 32), some (1, 1), none, some (0, 0), some (0, 0)]) c_179_73 rfl rfl (n_iinc (L2 := [some (2, 112), some (0, 32), some (1, 1), none, some (0, 0), some (0, (0 + 1))]) c_179_74 rfl rfl rfl (n_goto c_179_77 (n_iload c_179_27 rfl (n_aload_n c_179_29 rfl (n_getV (bi := 0) c_179_30 sc_112.n rfl rfl rfl (t_dm hS hdm) ?_)))))
          intro z17 ez17 f18
          obtain rfl : z17 = 3 := by omega
          refine n_if2_ge c_179_33 (by omega) (by omega) ?_ ?_
          · intro h19
            exfalso; omega
          · intro h20
            refine n_lload_n c_179_36 rfl (n_iload_n c_179_37 rfl (n_iconst c_179_38 (n_iload c_179_39 rfl (n_imul c_179_41 rfl (n_i_ishr (z := 32) c_179_42 (by decide) ?_)))))
            refine n_iconst c_179_43 (n_i_iand (z := 0) c_179_44 (by decide) ?_)
            refine n_iload_n c_179_45 rfl (n_iconst c_179_46 (n_iload c_179_47 rfl (n_imul c_179_49 rfl (n_i_ishr (z := 8) c_179_50 (by decide) ?_))))
            refine n_iconst c_179_51 (n_i_iand (z := 0) c_179_52 (by decide) ?_)
            refine n_if2_ne c_179_53 (by omega) (by omega) ?_ ?_
            · intro h21
              exfalso; omega
            · intro h22
              refine n_lconst (n := 1) c_179_56 rfl (n_iload c_179_57 rfl (n_aload_n c_179_59 rfl (n_getV (bi := 0) c_179_60 sc_112.n rfl rfl rfl (t_dm hS hdm) ?_)))
              intro z23 ez23 f24
              obtain rfl : z23 = 3 := by omega
              refine n_imul c_179_63 rfl (n_iload c_179_64 rfl (n_iadd c_179_66 rfl (n_i_lshl (z := 2) c_179_67 (by decide) ?_)))
              refine n_goto c_179_68 (n_i_lor (z := 3) c_179_72 (by decide) ?_)
              refine n_lstore_n (L2 := [some (2, 112), some (0, 32), some (1, 3), none, some (0, 0), some (0, (0 + 1))]) c_179_73 rfl rfl (n_iinc (L2 := [some (2, 112), some (0, 32), some (1, 3), none, some (0, 0), some (0, ((0 + 1) + 1))]) c_179_74 rfl rfl rfl (n_goto c_179_77 (n_iload c_179_27 rfl (n_aload_n c_179_29 rfl (n_getV (bi := 0) c_179_30 sc_112.n rfl rfl rfl (t_dm hS hdm) ?_)))))
              intro z25 ez25 f26
              obtain rfl : z25 = 3 := by omega
              refine n_if2_ge c_179_33 (by omega) (by omega) ?_ ?_
              · intro h27
                exfalso; omega
              · intro h28
                refine n_lload_n c_179_36 rfl (n_iload_n c_179_37 rfl (n_iconst c_179_38 (n_iload c_179_39 rfl (n_imul c_179_41 rfl (n_i_ishr (z := 32) c_179_42 (by decide) ?_)))))
                refine n_iconst c_179_43 (n_i_iand (z := 0) c_179_44 (by decide) ?_)
                refine n_iload_n c_179_45 rfl (n_iconst c_179_46 (n_iload c_179_47 rfl (n_imul c_179_49 rfl (n_i_ishr (z := 2) c_179_50 (by decide) ?_))))
                refine n_iconst c_179_51 (n_i_iand (z := 2) c_179_52 (by decide) ?_)
                refine n_if2_ne c_179_53 (by omega) (by omega) ?_ ?_
                · intro h29
                  refine n_lconst (n := 0) c_179_71 rfl (n_i_lor (z := 3) c_179_72 (by decide) ?_)
                  refine n_lstore_n (L2 := [some (2, 112), some (0, 32), some (1, 3), none, some (0, 0), some (0, ((0 + 1) + 1))]) c_179_73 rfl rfl (n_iinc (L2 := [some (2, 112), some (0, 32), some (1, 3), none, some (0, 0), some (0, (((0 + 1) + 1) + 1))]) c_179_74 rfl rfl rfl (n_goto c_179_77 (n_iload c_179_27 rfl (n_aload_n c_179_29 rfl (n_getV (bi := 0) c_179_30 sc_112.n rfl rfl rfl (t_dm hS hdm) ?_)))))
                  intro z30 ez30 f31
                  obtain rfl : z30 = 3 := by omega
                  refine n_if2_ge c_179_33 (by omega) (by omega) ?_ ?_
                  · intro h32
                    refine n_iinc (L2 := [some (2, 112), some (0, 32), some (1, 3), none, some (0, (0 + 1)), some (0, (((0 + 1) + 1) + 1))]) c_179_80 rfl rfl rfl (n_goto c_179_83 (n_iload c_179_15 rfl (n_aload_n c_179_17 rfl (n_getV (bi := 0) c_179_18 sc_112.n rfl rfl rfl (t_dm hS hdm) ?_))))
                    intro z33 ez33 f34
                    obtain rfl : z33 = 3 := by omega
                    refine n_if2_ge c_179_21 (by omega) (by omega) ?_ ?_
                    · intro h35
                      exfalso; omega
                    · intro h36
                      refine n_iconst c_179_24 (n_istore (L2 := [some (2, 112), some (0, 32), some (1, 3), none, some (0, (0 + 1)), some (0, 0)]) c_179_25 rfl rfl (n_iload c_179_27 rfl (n_aload_n c_179_29 rfl (n_getV (bi := 0) c_179_30 sc_112.n rfl rfl rfl (t_dm hS hdm) ?_))))
                      intro z37 ez37 f38
                      obtain rfl : z37 = 3 := by omega
                      refine n_if2_ge c_179_33 (by omega) (by omega) ?_ ?_
                      · intro h39
                        exfalso; omega
                      · intro h40
                        refine n_lload_n c_179_36 rfl (n_iload_n c_179_37 rfl (n_iconst c_179_38 (n_iload c_179_39 rfl (n_imul c_179_41 rfl (n_i_ishr (z := 8) c_179_42 (by decide) ?_)))))
                        refine n_iconst c_179_43 (n_i_iand (z := 0) c_179_44 (by decide) ?_)
                        refine n_iload_n c_179_45 rfl (n_iconst c_179_46 (n_iload c_179_47 rfl (n_imul c_179_49 rfl (n_i_ishr (z := 32) c_179_50 (by decide) ?_))))
                        refine n_iconst c_179_51 (n_i_iand (z := 0) c_179_52 (by decide) ?_)
                        refine n_if2_ne c_179_53 (by omega) (by omega) ?_ ?_
                        · intro h41
                          exfalso; omega
                        · intro h42
                          refine n_lconst (n := 1) c_179_56 rfl (n_iload c_179_57 rfl (n_aload_n c_179_59 rfl (n_getV (bi := 0) c_179_60 sc_112.n rfl rfl rfl (t_dm hS hdm) ?_)))
                          intro z43 ez43 f44
                          obtain rfl : z43 = 3 := by omega
                          refine n_imul c_179_63 rfl (n_iload c_179_64 rfl (n_iadd c_179_66 rfl (n_i_lshl (z := 8) c_179_67 (by decide) ?_)))
                          refine n_goto c_179_68 (n_i_lor (z := 11) c_179_72 (by decide) ?_)
                          refine n_lstore_n (L2 := [some (2, 112), some (0, 32), some (1, 11), none, some (0, (0 + 1)), some (0, 0)]) c_179_73 rfl rfl (n_iinc (L2 := [some (2, 112), some (0, 32), some (1, 11), none, some (0, (0 + 1)), some (0, (0 + 1))]) c_179_74 rfl rfl rfl (n_goto c_179_77 (n_iload c_179_27 rfl (n_aload_n c_179_29 rfl (n_getV (bi := 0) c_179_30 sc_112.n rfl rfl rfl (t_dm hS hdm) ?_)))))
                          intro z45 ez45 f46
                          obtain rfl : z45 = 3 := by omega
                          refine n_if2_ge c_179_33 (by omega) (by omega) ?_ ?_
                          · intro h47
                            exfalso; omega
                          · intro h48
                            refine n_lload_n c_179_36 rfl (n_iload_n c_179_37 rfl (n_iconst c_179_38 (n_iload c_179_39 rfl (n_imul c_179_41 rfl (n_i_ishr (z := 8) c_179_42 (by decide) ?_)))))
                            refine n_iconst c_179_43 (n_i_iand (z := 0) c_179_44 (by decide) ?_)
                            refine n_iload_n c_179_45 rfl (n_iconst c_179_46 (n_iload c_179_47 rfl (n_imul c_179_49 rfl (n_i_ishr (z := 8) c_179_50 (by decide) ?_))))
                            refine n_iconst c_179_51 (n_i_iand (z := 0) c_179_52 (by decide) ?_)
                            refine n_if2_ne c_179_53 (by omega) (by omega) ?_ ?_
                            · intro h49
                              exfalso; omega
                            · intro h50
                              refine n_lconst (n := 1) c_179_56 rfl (n_iload c_179_57 rfl (n_aload_n c_179_59 rfl (n_getV (bi := 0) c_179_60 sc_112.n rfl rfl rfl (t_dm hS hdm) ?_)))
                              intro z51 ez51 f52
                              obtain rfl : z51 = 3 := by omega
                              refine n_imul c_179_63 rfl (n_iload c_179_64 rfl (n_iadd c_179_66 rfl (n_i_lshl (z := 16) c_179_67 (by decide) ?_)))
                              refine n_goto c_179_68 (n_i_lor (z := 27) c_179_72 (by decide) ?_)
                              refine n_lstore_n (L2 := [some (2, 112), some (0, 32), some (1, 27), none, some (0, (0 + 1)), some (0, (0 + 1))]) c_179_73 rfl rfl (n_iinc (L2 := [some (2, 112), some (0, 32), some (1, 27), none, some (0, (0 + 1)), some (0, ((0 + 1) + 1))]) c_179_74 rfl rfl rfl (n_goto c_179_77 (n_iload c_179_27 rfl (n_aload_n c_179_29 rfl (n_getV (bi := 0) c_179_30 sc_112.n rfl rfl rfl (t_dm hS hdm) ?_)))))
                              intro z53 ez53 f54
                              obtain rfl : z53 = 3 := by omega
                              refine n_if2_ge c_179_33 (by omega) (by omega) ?_ ?_
                              · intro h55
                                exfalso; omega
                              · intro h56
                                refine n_lload_n c_179_36 rfl (n_iload_n c_179_37 rfl (n_iconst c_179_38 (n_iload c_179_39 rfl (n_imul c_179_41 rfl (n_i_ishr (z := 8) c_179_42 (by decide) ?_)))))
                                refine n_iconst c_179_43 (n_i_iand (z := 0) c_179_44 (by decide) ?_)
                                refine n_iload_n c_179_45 rfl (n_iconst c_179_46 (n_iload c_179_47 rfl (n_imul c_179_49 rfl (n_i_ishr (z := 2) c_179_50 (by decide) ?_))))
                                refine n_iconst c_179_51 (n_i_iand (z := 2) c_179_52 (by decide) ?_)
                                refine n_if2_ne c_179_53 (by omega) (by omega) ?_ ?_
                                · intro h57
                                  refine n_lconst (n := 0) c_179_71 rfl (n_i_lor (z := 27) c_179_72 (by decide) ?_)
                                  refine n_lstore_n (L2 := [some (2, 112), some (0, 32), some (1, 27), none, some (0, (0 + 1)), some (0, ((0 + 1) + 1))]) c_179_73 rfl rfl (n_iinc (L2 := [some (2, 112), some (0, 32), some (1, 27), none, some (0, (0 + 1)), some (0, (((0 + 1) + 1) + 1))]) c_179_74 rfl rfl rfl (n_goto c_179_77 (n_iload c_179_27 rfl (n_aload_n c_179_29 rfl (n_getV (bi := 0) c_179_30 sc_112.n rfl rfl rfl (t_dm hS hdm) ?_)))))
                                  intro z58 ez58 f59
                                  obtain rfl : z58 = 3 := by omega
                                  refine n_if2_ge c_179_33 (by omega) (by omega) ?_ ?_
                                  · intro h60
                                    refine n_iinc (L2 := [some (2, 112), some (0, 32), some (1, 27), none, some (0, ((0 + 1) + 1)), some (0, (((0 + 1) + 1) + 1))]) c_179_80 rfl rfl rfl (n_goto c_179_83 (n_iload c_179_15 rfl (n_aload_n c_179_17 rfl (n_getV (bi := 0) c_179_18 sc_112.n rfl rfl rfl (t_dm hS hdm) ?_))))
                                    intro z61 ez61 f62
                                    obtain rfl : z61 = 3 := by omega
                                    refine n_if2_ge c_179_21 (by omega) (by omega) ?_ ?_
                                    · intro h63
                                      exfalso; omega
                                    · intro h64
                                      refine n_iconst c_179_24 (n_istore (L2 := [some (2, 112), some (0, 32), some (1, 27), none, some (0, ((0 + 1) + 1)), some (0, 0)]) c_179_25 rfl rfl (n_iload c_179_27 rfl (n_aload_n c_179_29 rfl (n_getV (bi := 0) c_179_30 sc_112.n rfl rfl rfl (t_dm hS hdm) ?_))))
                                      intro z65 ez65 f66
                                      obtain rfl : z65 = 3 := by omega
                                      refine n_if2_ge c_179_33 (by omega) (by omega) ?_ ?_
                                      · intro h67
                                        exfalso; omega
                                      · intro h68
                                        refine n_lload_n c_179_36 rfl (n_iload_n c_179_37 rfl (n_iconst c_179_38 (n_iload c_179_39 rfl (n_imul c_179_41 rfl (n_i_ishr (z := 2) c_179_42 (by decide) ?_)))))
                                        refine n_iconst c_179_43 (n_i_iand (z := 2) c_179_44 (by decide) ?_)
                                        refine n_iload_n c_179_45 rfl (n_iconst c_179_46 (n_iload c_179_47 rfl (n_imul c_179_49 rfl (n_i_ishr (z := 32) c_179_50 (by decide) ?_))))
                                        refine n_iconst c_179_51 (n_i_iand (z := 0) c_179_52 (by decide) ?_)
                                        refine n_if2_ne c_179_53 (by omega) (by omega) ?_ ?_
                                        · intro h69
                                          refine n_lconst (n := 0) c_179_71 rfl (n_i_lor (z := 27) c_179_72 (by decide) ?_)
                                          refine n_lstore_n (L2 := [some (2, 112), some (0, 32), some (1, 27), none, some (0, ((0 + 1) + 1)), some (0, 0)]) c_179_73 rfl rfl (n_iinc (L2 := [some (2, 112), some (0, 32), some (1, 27), none, some (0, ((0 + 1) + 1)), some (0, (0 + 1))]) c_179_74 rfl rfl rfl (n_goto c_179_77 (n_iload c_179_27 rfl (n_aload_n c_179_29 rfl (n_getV (bi := 0) c_179_30 sc_112.n rfl rfl rfl (t_dm hS hdm) ?_)))))
                                          intro z70 ez70 f71
                                          obtain rfl : z70 = 3 := by omega
                                          refine n_if2_ge c_179_33 (by omega) (by omega) ?_ ?_
                                          · intro h72
                                            exfalso; omega
                                          · intro h73
                                            refine n_lload_n c_179_36 rfl (n_iload_n c_179_37 rfl (n_iconst c_179_38 (n_iload c_179_39 rfl (n_imul c_179_41 rfl (n_i_ishr (z := 2) c_179_42 (by decide) ?_)))))
                                            refine n_iconst c_179_43 (n_i_iand (z := 2) c_179_44 (by decide) ?_)
                                            refine n_iload_n c_179_45 rfl (n_iconst c_179_46 (n_iload c_179_47 rfl (n_imul c_179_49 rfl (n_i_ishr (z := 8) c_179_50 (by decide) ?_))))
                                            refine n_iconst c_179_51 (n_i_iand (z := 0) c_179_52 (by decide) ?_)
                                            refine n_if2_ne c_179_53 (by omega) (by omega) ?_ ?_
                                            · intro h74
                                              refine n_lconst (n := 0) c_179_71 rfl (n_i_lor (z := 27) c_179_72 (by decide) ?_)
                                              refine n_lstore_n (L2 := [some (2, 112), some (0, 32), some (1, 27), none, some (0, ((0 + 1) + 1)), some (0, (0 + 1))]) c_179_73 rfl rfl (n_iinc (L2 := [some (2, 112), some (0, 32), some (1, 27), none, some (0, ((0 + 1) + 1)), some (0, ((0 + 1) + 1))]) c_179_74 rfl rfl rfl (n_goto c_179_77 (n_iload c_179_27 rfl (n_aload_n c_179_29 rfl (n_getV (bi := 0) c_179_30 sc_112.n rfl rfl rfl (t_dm hS hdm) ?_)))))
                                              intro z75 ez75 f76
                                              obtain rfl : z75 = 3 := by omega
                                              refine n_if2_ge c_179_33 (by omega) (by omega) ?_ ?_
                                              · intro h77
                                                exfalso; omega
                                              · intro h78
                                                refine n_lload_n c_179_36 rfl (n_iload_n c_179_37 rfl (n_iconst c_179_38 (n_iload c_179_39 rfl (n_imul c_179_41 rfl (n_i_ishr (z := 2) c_179_42 (by decide) ?_)))))
                                                refine n_iconst c_179_43 (n_i_iand (z := 2) c_179_44 (by decide) ?_)
                                                refine n_iload_n c_179_45 rfl (n_iconst c_179_46 (n_iload c_179_47 rfl (n_imul c_179_49 rfl (n_i_ishr (z := 2) c_179_50 (by decide) ?_))))
                                                refine n_iconst c_179_51 (n_i_iand (z := 2) c_179_52 (by decide) ?_)
                                                refine n_if2_ne c_179_53 (by omega) (by omega) ?_ ?_
                                                · intro h79
                                                  exfalso; omega
                                                · intro h80
                                                  refine n_lconst (n := 1) c_179_56 rfl (n_iload c_179_57 rfl (n_aload_n c_179_59 rfl (n_getV (bi := 0) c_179_60 sc_112.n rfl rfl rfl (t_dm hS hdm) ?_)))
                                                  intro z81 ez81 f82
                                                  obtain rfl : z81 = 3 := by omega
                                                  refine n_imul c_179_63 rfl (n_iload c_179_64 rfl (n_iadd c_179_66 rfl (n_i_lshl (z := 256) c_179_67 (by decide) ?_)))
                                                  refine n_goto c_179_68 (n_i_lor (z := 283) c_179_72 (by decide) ?_)
                                                  refine n_lstore_n (L2 := [some (2, 112), some (0, 32), some (1, 283), none, some (0, ((0 + 1) + 1)), some (0, ((0 + 1) + 1))]) c_179_73 rfl rfl (n_iinc (L2 := [some (2, 112), some (0, 32), some (1, 283), none, some (0, ((0 + 1) + 1)), some (0, (((0 + 1) + 1) + 1))]) c_179_74 rfl rfl rfl (n_goto c_179_77 (n_iload c_179_27 rfl (n_aload_n c_179_29 rfl (n_getV (bi := 0) c_179_30 sc_112.n rfl rfl rfl (t_dm hS hdm) ?_)))))
                                                  intro z83 ez83 f84
                                                  obtain rfl : z83 = 3 := by omega
                                                  refine n_if2_ge c_179_33 (by omega) (by omega) ?_ ?_
                                                  · intro h85
                                                    refine n_iinc (L2 := [some (2, 112), some (0, 32), some (1, 283), none, some (0, (((0 + 1) + 1) + 1)), some (0, (((0 + 1) + 1) + 1))]) c_179_80 rfl rfl rfl (n_goto c_179_83 (n_iload c_179_15 rfl (n_aload_n c_179_17 rfl (n_getV (bi := 0) c_179_18 sc_112.n rfl rfl rfl (t_dm hS hdm) ?_))))
                                                    intro z86 ez86 f87
                                                    obtain rfl : z86 = 3 := by omega
                                                    refine n_if2_ge c_179_21 (by omega) (by omega) ?_ ?_
                                                    · intro h88
                                                      refine n_aload_n c_179_86 rfl (n_iconst c_179_87 (n_lload_n c_179_88 rfl (n_v2I c_179_89 rfl sc_112.n rfl rfl rfl rfl (mallKeepX_3 (k := 2) (s := 283) hS hdm (by omega) (by omega) (by exact hp)) ?_)))
                                                      intro z89 M90 hP91
                                                      obtain ⟨eM, f91, f91p0⟩ := hP91
                                                      subst eM
                                                      exact n_rZ c_179_92 rfl (by omega) ⟨rfl, by omega, by exact f91p0⟩
                                                    · intro h92
                                                      exfalso; omega
                                                  · intro h93
                                                    exfalso; omega
                                            · intro h94
                                              exfalso; omega
                                        · intro h95
                                          exfalso; omega
                                  · intro h96
                                    exfalso; omega
                                · intro h97
                                  exfalso; omega
                  · intro h98
                    exfalso; omega
                · intro h99
                  exfalso; omega
  · intro h100
    exfalso; omega

set_option maxHeartbeats 4000000 in
theorem misPartX33_3 {xs : List Int32} {e : Nat} {ac : Int} {M0 M : nM} (hS : Sf 3 ac M0 M) (hdm : M0 112 0 = 3) : nW xs e 178 0 [some (2, 112), some (0, 33), none, none] [] M (nPI fun z M1 => M = M1 ∧ (0 ≤ z ∧ z ≤ 0)) := by
  have hd : (3 : Int) = 2 ∨ (3 : Int) = 3 := by decide
  have hac := hS.2.2.2.2
  refine n_iconst c_178_0 (n_istore_n (L2 := [some (2, 112), some (0, 33), some (0, 0), none]) c_178_1 rfl rfl (n_iload_n c_178_2 rfl (n_aload_n c_178_3 rfl (n_getV (bi := 0) c_178_4 sc_112.n rfl rfl rfl (t_dm hS hdm) ?_))))
  intro z1 ez1 f2
  obtain rfl : z1 = 3 := by omega
  refine n_if2_ge c_178_7 (by omega) (by omega) ?_ ?_
  · intro h3
    exfalso; omega
  · intro h4
    refine n_iload_n c_178_10 rfl (n_iconst c_178_11 (n_iload_n c_178_12 rfl (n_imul c_178_13 rfl (n_i_ishr (z := 33) c_178_14 (by decide) ?_))))
    refine n_iconst c_178_15 (n_i_iand (z := 1) c_178_16 (by decide) ?_)
    refine n_istore_n (L2 := [some (2, 112), some (0, 33), some (0, 0), some (0, 1)]) c_178_17 rfl rfl (n_iload_n c_178_18 rfl (n_iload_n c_178_19 rfl ?_))
    refine n_if2_gt c_178_20 (by omega) (by omega) ?_ ?_
    · intro h5
      refine n_iconst c_178_34 ?_
      exact n_rZ c_178_35 rfl (by omega) ⟨rfl, by omega⟩
    · intro h6
      exfalso; omega

set_option maxHeartbeats 4000000 in
theorem misPairX33_3 {xs : List Int32} {e : Nat} {ac : Int} {M0 M : nM} (hS : Sf 3 ac M0 M) (hdm : M0 112 0 = 3) (hp : ∀ a : Int, 0 ≤ a → a < M 112 4 → 1 ≤ M 116 a) : nW xs (e + 5) 179 0 [some (2, 112), some (0, 33), none, none, none, none] [] M (nPI fun z M1 => M = M1 ∧ (0 ≤ z ∧ z ≤ 1) ∧ (z = pg3 M 33)) := by
  have hd : (3 : Int) = 2 ∨ (3 : Int) = 3 := by decide
  have hac := hS.2.2.2.2
  refine n_aload_n c_179_0 rfl (n_iload_n c_179_1 rfl (n_v1I c_179_2 rfl sc_112.n rfl rfl rfl rfl (misPartX33_3  hS hdm) ?_))
  intro z1 M2 hP3
  obtain ⟨eM, f3⟩ := hP3
  subst eM
  obtain rfl : z1 = 0 := by omega
  refine n_if0_ne c_179_5 (by omega) ?_ ?_
  · intro h4
    exfalso; omega
  · intro h5
    refine n_iconst c_179_8 ?_
    exact n_rZ c_179_9 rfl (by omega) ⟨rfl, by omega, by rfl⟩

set_option maxHeartbeats 4000000 in
theorem misPartX34_3 {xs : List Int32} {e : Nat} {ac : Int} {M0 M : nM} (hS : Sf 3 ac M0 M) (hdm : M0 112 0 = 3) : nW xs e 178 0 [some (2, 112), some (0, 34), none, none] [] M (nPI fun z M1 => M = M1 ∧ (0 ≤ z ∧ z ≤ 0)) := by
  have hd : (3 : Int) = 2 ∨ (3 : Int) = 3 := by decide
  have hac := hS.2.2.2.2
  refine n_iconst c_178_0 (n_istore_n (L2 := [some (2, 112), some (0, 34), some (0, 0), none]) c_178_1 rfl rfl (n_iload_n c_178_2 rfl (n_aload_n c_178_3 rfl (n_getV (bi := 0) c_178_4 sc_112.n rfl rfl rfl (t_dm hS hdm) ?_))))
  intro z1 ez1 f2
  obtain rfl : z1 = 3 := by omega
  refine n_if2_ge c_178_7 (by omega) (by omega) ?_ ?_
  · intro h3
    exfalso; omega
  · intro h4
    refine n_iload_n c_178_10 rfl (n_iconst c_178_11 (n_iload_n c_178_12 rfl (n_imul c_178_13 rfl (n_i_ishr (z := 34) c_178_14 (by decide) ?_))))
    refine n_iconst c_178_15 (n_i_iand (z := 2) c_178_16 (by decide) ?_)
    refine n_istore_n (L2 := [some (2, 112), some (0, 34), some (0, 0), some (0, 2)]) c_178_17 rfl rfl (n_iload_n c_178_18 rfl (n_iload_n c_178_19 rfl ?_))
    refine n_if2_gt c_178_20 (by omega) (by omega) ?_ ?_
    · intro h5
      refine n_iconst c_178_34 ?_
      exact n_rZ c_178_35 rfl (by omega) ⟨rfl, by omega⟩
    · intro h6
      exfalso; omega

set_option maxHeartbeats 4000000 in
theorem misPairX34_3 {xs : List Int32} {e : Nat} {ac : Int} {M0 M : nM} (hS : Sf 3 ac M0 M) (hdm : M0 112 0 = 3) (hp : ∀ a : Int, 0 ≤ a → a < M 112 4 → 1 ≤ M 116 a) : nW xs (e + 5) 179 0 [some (2, 112), some (0, 34), none, none, none, none] [] M (nPI fun z M1 => M = M1 ∧ (0 ≤ z ∧ z ≤ 1) ∧ (z = pg3 M 34)) := by
  have hd : (3 : Int) = 2 ∨ (3 : Int) = 3 := by decide
  have hac := hS.2.2.2.2
  refine n_aload_n c_179_0 rfl (n_iload_n c_179_1 rfl (n_v1I c_179_2 rfl sc_112.n rfl rfl rfl rfl (misPartX34_3  hS hdm) ?_))
  intro z1 M2 hP3
  obtain ⟨eM, f3⟩ := hP3
  subst eM
  obtain rfl : z1 = 0 := by omega
  refine n_if0_ne c_179_5 (by omega) ?_ ?_
  · intro h4
    exfalso; omega
  · intro h5
    refine n_iconst c_179_8 ?_
    exact n_rZ c_179_9 rfl (by omega) ⟨rfl, by omega, by rfl⟩

set_option maxHeartbeats 4000000 in
theorem misPartX35_3 {xs : List Int32} {e : Nat} {ac : Int} {M0 M : nM} (hS : Sf 3 ac M0 M) (hdm : M0 112 0 = 3) : nW xs e 178 0 [some (2, 112), some (0, 35), none, none] [] M (nPI fun z M1 => M = M1 ∧ (0 ≤ z ∧ z ≤ 0)) := by
  have hd : (3 : Int) = 2 ∨ (3 : Int) = 3 := by decide
  have hac := hS.2.2.2.2
  refine n_iconst c_178_0 (n_istore_n (L2 := [some (2, 112), some (0, 35), some (0, 0), none]) c_178_1 rfl rfl (n_iload_n c_178_2 rfl (n_aload_n c_178_3 rfl (n_getV (bi := 0) c_178_4 sc_112.n rfl rfl rfl (t_dm hS hdm) ?_))))
  intro z1 ez1 f2
  obtain rfl : z1 = 3 := by omega
  refine n_if2_ge c_178_7 (by omega) (by omega) ?_ ?_
  · intro h3
    exfalso; omega
  · intro h4
    refine n_iload_n c_178_10 rfl (n_iconst c_178_11 (n_iload_n c_178_12 rfl (n_imul c_178_13 rfl (n_i_ishr (z := 35) c_178_14 (by decide) ?_))))
    refine n_iconst c_178_15 (n_i_iand (z := 3) c_178_16 (by decide) ?_)
    refine n_istore_n (L2 := [some (2, 112), some (0, 35), some (0, 0), some (0, 3)]) c_178_17 rfl rfl (n_iload_n c_178_18 rfl (n_iload_n c_178_19 rfl ?_))
    refine n_if2_gt c_178_20 (by omega) (by omega) ?_ ?_
    · intro h5
      refine n_iconst c_178_34 ?_
      exact n_rZ c_178_35 rfl (by omega) ⟨rfl, by omega⟩
    · intro h6
      exfalso; omega

set_option maxHeartbeats 4000000 in
theorem misPairX35_3 {xs : List Int32} {e : Nat} {ac : Int} {M0 M : nM} (hS : Sf 3 ac M0 M) (hdm : M0 112 0 = 3) (hp : ∀ a : Int, 0 ≤ a → a < M 112 4 → 1 ≤ M 116 a) : nW xs (e + 5) 179 0 [some (2, 112), some (0, 35), none, none, none, none] [] M (nPI fun z M1 => M = M1 ∧ (0 ≤ z ∧ z ≤ 1) ∧ (z = pg3 M 35)) := by
  have hd : (3 : Int) = 2 ∨ (3 : Int) = 3 := by decide
  have hac := hS.2.2.2.2
  refine n_aload_n c_179_0 rfl (n_iload_n c_179_1 rfl (n_v1I c_179_2 rfl sc_112.n rfl rfl rfl rfl (misPartX35_3  hS hdm) ?_))
  intro z1 M2 hP3
  obtain ⟨eM, f3⟩ := hP3
  subst eM
  obtain rfl : z1 = 0 := by omega
  refine n_if0_ne c_179_5 (by omega) ?_ ?_
  · intro h4
    exfalso; omega
  · intro h5
    refine n_iconst c_179_8 ?_
    exact n_rZ c_179_9 rfl (by omega) ⟨rfl, by omega, by rfl⟩

set_option maxHeartbeats 4000000 in
theorem misPartX36_3 {xs : List Int32} {e : Nat} {ac : Int} {M0 M : nM} (hS : Sf 3 ac M0 M) (hdm : M0 112 0 = 3) : nW xs e 178 0 [some (2, 112), some (0, 36), none, none] [] M (nPI fun z M1 => M = M1 ∧ (1 ≤ z ∧ z ≤ 1)) := by
  have hd : (3 : Int) = 2 ∨ (3 : Int) = 3 := by decide
  have hac := hS.2.2.2.2
  refine n_iconst c_178_0 (n_istore_n (L2 := [some (2, 112), some (0, 36), some (0, 0), none]) c_178_1 rfl rfl (n_iload_n c_178_2 rfl (n_aload_n c_178_3 rfl (n_getV (bi := 0) c_178_4 sc_112.n rfl rfl rfl (t_dm hS hdm) ?_))))
  intro z1 ez1 f2
  obtain rfl : z1 = 3 := by omega
  refine n_if2_ge c_178_7 (by omega) (by omega) ?_ ?_
  · intro h3
    exfalso; omega
  · intro h4
    refine n_iload_n c_178_10 rfl (n_iconst c_178_11 (n_iload_n c_178_12 rfl (n_imul c_178_13 rfl (n_i_ishr (z := 36) c_178_14 (by decide) ?_))))
    refine n_iconst c_178_15 (n_i_iand (z := 0) c_178_16 (by decide) ?_)
    refine n_istore_n (L2 := [some (2, 112), some (0, 36), some (0, 0), some (0, 0)]) c_178_17 rfl rfl (n_iload_n c_178_18 rfl (n_iload_n c_178_19 rfl ?_))
    refine n_if2_gt c_178_20 (by omega) (by omega) ?_ ?_
    · intro h5
      exfalso; omega
    · intro h6
      refine n_iload_n c_178_23 rfl (n_iconst c_178_24 (n_iload_n c_178_25 rfl (n_imul c_178_26 rfl (n_i_ishr (z := 36) c_178_27 (by decide) ?_))))
      refine n_iconst c_178_28 (n_i_iand (z := 0) c_178_29 (by decide) ?_)
      refine n_iload_n c_178_30 rfl ?_
      refine n_if2_eq c_178_31 (by omega) (by omega) ?_ ?_
      · intro h7
        refine n_iinc (L2 := [some (2, 112), some (0, 36), some (0, (0 + 1)), some (0, 0)]) c_178_36 rfl rfl rfl (n_goto c_178_39 (n_iload_n c_178_2 rfl (n_aload_n c_178_3 rfl (n_getV (bi := 0) c_178_4 sc_112.n rfl rfl rfl (t_dm hS hdm) ?_))))
        intro z8 ez8 f9
        obtain rfl : z8 = 3 := by omega
        refine n_if2_ge c_178_7 (by omega) (by omega) ?_ ?_
        · intro h10
          exfalso; omega
        · intro h11
          refine n_iload_n c_178_10 rfl (n_iconst c_178_11 (n_iload_n c_178_12 rfl (n_imul c_178_13 rfl (n_i_ishr (z := 9) c_178_14 (by decide) ?_))))
          refine n_iconst c_178_15 (n_i_iand (z := 1) c_178_16 (by decide) ?_)
          refine n_istore_n (L2 := [some (2, 112), some (0, 36), some (0, (0 + 1)), some (0, 1)]) c_178_17 rfl rfl (n_iload_n c_178_18 rfl (n_iload_n c_178_19 rfl ?_))
          refine n_if2_gt c_178_20 (by omega) (by omega) ?_ ?_
          · intro h12
            exfalso; omega
          · intro h13
            refine n_iload_n c_178_23 rfl (n_iconst c_178_24 (n_iload_n c_178_25 rfl (n_imul c_178_26 rfl (n_i_ishr (z := 9) c_178_27 (by decide) ?_))))
            refine n_iconst c_178_28 (n_i_iand (z := 1) c_178_29 (by decide) ?_)
            refine n_iload_n c_178_30 rfl ?_
            refine n_if2_eq c_178_31 (by omega) (by omega) ?_ ?_
            · intro h14
              refine n_iinc (L2 := [some (2, 112), some (0, 36), some (0, ((0 + 1) + 1)), some (0, 1)]) c_178_36 rfl rfl rfl (n_goto c_178_39 (n_iload_n c_178_2 rfl (n_aload_n c_178_3 rfl (n_getV (bi := 0) c_178_4 sc_112.n rfl rfl rfl (t_dm hS hdm) ?_))))
              intro z15 ez15 f16
              obtain rfl : z15 = 3 := by omega
              refine n_if2_ge c_178_7 (by omega) (by omega) ?_ ?_
              · intro h17
                exfalso; omega
              · intro h18
                refine n_iload_n c_178_10 rfl (n_iconst c_178_11 (n_iload_n c_178_12 rfl (n_imul c_178_13 rfl (n_i_ishr (z := 2) c_178_14 (by decide) ?_))))
                refine n_iconst c_178_15 (n_i_iand (z := 2) c_178_16 (by decide) ?_)
                refine n_istore_n (L2 := [some (2, 112), some (0, 36), some (0, ((0 + 1) + 1)), some (0, 2)]) c_178_17 rfl rfl (n_iload_n c_178_18 rfl (n_iload_n c_178_19 rfl ?_))
                refine n_if2_gt c_178_20 (by omega) (by omega) ?_ ?_
                · intro h19
                  exfalso; omega
                · intro h20
                  refine n_iload_n c_178_23 rfl (n_iconst c_178_24 (n_iload_n c_178_25 rfl (n_imul c_178_26 rfl (n_i_ishr (z := 2) c_178_27 (by decide) ?_))))
                  refine n_iconst c_178_28 (n_i_iand (z := 2) c_178_29 (by decide) ?_)
                  refine n_iload_n c_178_30 rfl ?_
                  refine n_if2_eq c_178_31 (by omega) (by omega) ?_ ?_
                  · intro h21
                    refine n_iinc (L2 := [some (2, 112), some (0, 36), some (0, (((0 + 1) + 1) + 1)), some (0, 2)]) c_178_36 rfl rfl rfl (n_goto c_178_39 (n_iload_n c_178_2 rfl (n_aload_n c_178_3 rfl (n_getV (bi := 0) c_178_4 sc_112.n rfl rfl rfl (t_dm hS hdm) ?_))))
                    intro z22 ez22 f23
                    obtain rfl : z22 = 3 := by omega
                    refine n_if2_ge c_178_7 (by omega) (by omega) ?_ ?_
                    · intro h24
                      refine n_iconst c_178_42 ?_
                      exact n_rZ c_178_43 rfl (by omega) ⟨rfl, by omega⟩
                    · intro h25
                      exfalso; omega
                  · intro h26
                    exfalso; omega
            · intro h27
              exfalso; omega
      · intro h28
        exfalso; omega

set_option maxHeartbeats 4000000 in
theorem misPairX36_3 {xs : List Int32} {e : Nat} {ac : Int} {M0 M : nM} (hS : Sf 3 ac M0 M) (hdm : M0 112 0 = 3) (hp : ∀ a : Int, 0 ≤ a → a < M 112 4 → 1 ≤ M 116 a) : nW xs (e + 5) 179 0 [some (2, 112), some (0, 36), none, none, none, none] [] M (nPI fun z M1 => M = M1 ∧ (0 ≤ z ∧ z ≤ 1) ∧ (z = pg3 M 36)) := by
  have hd : (3 : Int) = 2 ∨ (3 : Int) = 3 := by decide
  have hac := hS.2.2.2.2
  refine n_aload_n c_179_0 rfl (n_iload_n c_179_1 rfl (n_v1I c_179_2 rfl sc_112.n rfl rfl rfl rfl (misPartX36_3  hS hdm) ?_))
  intro z1 M2 hP3
  obtain ⟨eM, f3⟩ := hP3
  subst eM
  obtain rfl : z1 = 1 := by omega
  refine n_if0_ne c_179_5 (by omega) ?_ ?_
  · intro h4
    refine n_lconst (n := 0) c_179_10 rfl (n_lstore_n (L2 := [some (2, 112), some (0, 36), some (1, 0), none, none, none]) c_179_11 rfl rfl (n_iconst c_179_12 (n_istore (L2 := [some (2, 112), some (0, 36), some (1, 0), none, some (0, 0), none]) c_179_13 rfl rfl (n_iload c_179_15 rfl (n_aload_n c_179_17 rfl (n_getV (bi := 0) c_179_18 sc_112.n rfl rfl rfl (t_dm hS hdm) ?_))))))
    intro z5 ez5 f6
    obtain rfl : z5 = 3 := by omega
    refine n_if2_ge c_179_21 (by omega) (by omega) ?_ ?_
    · intro h7
      exfalso; omega
    · intro h8
      refine n_iconst c_179_24 (n_istore (L2 := [some (2, 112), some (0, 36), some (1, 0), none, some (0, 0), some (0, 0)]) c_179_25 rfl rfl (n_iload c_179_27 rfl (n_aload_n c_179_29 rfl (n_getV (bi := 0) c_179_30 sc_112.n rfl rfl rfl (t_dm hS hdm) ?_))))
      intro z9 ez9 f10
      obtain rfl : z9 = 3 := by omega
      refine n_if2_ge c_179_33 (by omega) (by omega) ?_ ?_
      · intro h11
        exfalso; omega
      · intro h12
        refine n_lload_n c_179_36 rfl (n_iload_n c_179_37 rfl (n_iconst c_179_38 (n_iload c_179_39 rfl (n_imul c_179_41 rfl (n_i_ishr (z := 36) c_179_42 (by decide) ?_)))))
        refine n_iconst c_179_43 (n_i_iand (z := 0) c_179_44 (by decide) ?_)
        refine n_iload_n c_179_45 rfl (n_iconst c_179_46 (n_iload c_179_47 rfl (n_imul c_179_49 rfl (n_i_ishr (z := 36) c_179_50 (by decide) ?_))))
        refine n_iconst c_179_51 (n_i_iand (z := 0) c_179_52 (by decide) ?_)
        refine n_if2_ne c_179_53 (by omega) (by omega) ?_ ?_
        · intro h13
          exfalso; omega
        · intro h14
          refine n_lconst (n := 1) c_179_56 rfl (n_iload c_179_57 rfl (n_aload_n c_179_59 rfl (n_getV (bi := 0) c_179_60 sc_112.n rfl rfl rfl (t_dm hS hdm) ?_)))
          intro z15 ez15 f16
          obtain rfl : z15 = 3 := by omega
          refine n_imul c_179_63 rfl (n_iload c_179_64 rfl (n_iadd c_179_66 rfl (n_i_lshl (z := 1) c_179_67 (by decide) ?_)))
          refine n_goto c_179_68 (n_i_lor (z := 1) c_179_72 (by decide) ?_)
          refine n_lstore_n (L2 := [some (2, 112), some (0, 36), some (1, 1), none, some (0, 0), some (0, 0)]) c_179_73 rfl rfl (n_iinc (L2 := [some (2, 112), some (0, 36), some (1, 1), none, some (0, 0), some (0, (0 + 1))]) c_179_74 rfl rfl rfl (n_goto c_179_77 (n_iload c_179_27 rfl (n_aload_n c_179_29 rfl (n_getV (bi := 0) c_179_30 sc_112.n rfl rfl rfl (t_dm hS hdm) ?_)))))
          intro z17 ez17 f18
          obtain rfl : z17 = 3 := by omega
          refine n_if2_ge c_179_33 (by omega) (by omega) ?_ ?_
          · intro h19
            exfalso; omega
          · intro h20
            refine n_lload_n c_179_36 rfl (n_iload_n c_179_37 rfl (n_iconst c_179_38 (n_iload c_179_39 rfl (n_imul c_179_41 rfl (n_i_ishr (z := 36) c_179_42 (by decide) ?_)))))
            refine n_iconst c_179_43 (n_i_iand (z := 0) c_179_44 (by decide) ?_)
            refine n_iload_n c_179_45 rfl (n_iconst c_179_46 (n_iload c_179_47 rfl (n_imul c_179_49 rfl (n_i_ishr (z := 9) c_179_50 (by decide) ?_))))
            refine n_iconst c_179_51 (n_i_iand (z := 1) c_179_52 (by decide) ?_)
            refine n_if2_ne c_179_53 (by omega) (by omega) ?_ ?_
            · intro h21
              refine n_lconst (n := 0) c_179_71 rfl (n_i_lor (z := 1) c_179_72 (by decide) ?_)
              refine n_lstore_n (L2 := [some (2, 112), some (0, 36), some (1, 1), none, some (0, 0), some (0, (0 + 1))]) c_179_73 rfl rfl (n_iinc (L2 := [some (2, 112), some (0, 36), some (1, 1), none, some (0, 0), some (0, ((0 + 1) + 1))]) c_179_74 rfl rfl rfl (n_goto c_179_77 (n_iload c_179_27 rfl (n_aload_n c_179_29 rfl (n_getV (bi := 0) c_179_30 sc_112.n rfl rfl rfl (t_dm hS hdm) ?_)))))
              intro z22 ez22 f23
              obtain rfl : z22 = 3 := by omega
              refine n_if2_ge c_179_33 (by omega) (by omega) ?_ ?_
              · intro h24
                exfalso; omega
              · intro h25
                refine n_lload_n c_179_36 rfl (n_iload_n c_179_37 rfl (n_iconst c_179_38 (n_iload c_179_39 rfl (n_imul c_179_41 rfl (n_i_ishr (z := 36) c_179_42 (by decide) ?_)))))
                refine n_iconst c_179_43 (n_i_iand (z := 0) c_179_44 (by decide) ?_)
                refine n_iload_n c_179_45 rfl (n_iconst c_179_46 (n_iload c_179_47 rfl (n_imul c_179_49 rfl (n_i_ishr (z := 2) c_179_50 (by decide) ?_))))
                refine n_iconst c_179_51 (n_i_iand (z := 2) c_179_52 (by decide) ?_)
                refine n_if2_ne c_179_53 (by omega) (by omega) ?_ ?_
                · intro h26
                  refine n_lconst (n := 0) c_179_71 rfl (n_i_lor (z := 1) c_179_72 (by decide) ?_)
                  refine n_lstore_n (L2 := [some (2, 112), some (0, 36), some (1, 1), none, some (0, 0), some (0, ((0 + 1) + 1))]) c_179_73 rfl rfl (n_iinc (L2 := [some (2, 112), some (0, 36), some (1, 1), none, some (0, 0), some (0, (((0 + 1) + 1) + 1))]) c_179_74 rfl rfl rfl (n_goto c_179_77 (n_iload c_179_27 rfl (n_aload_n c_179_29 rfl (n_getV (bi := 0) c_179_30 sc_112.n rfl rfl rfl (t_dm hS hdm) ?_)))))
                  intro z27 ez27 f28
                  obtain rfl : z27 = 3 := by omega
                  refine n_if2_ge c_179_33 (by omega) (by omega) ?_ ?_
                  · intro h29
                    refine n_iinc (L2 := [some (2, 112), some (0, 36), some (1, 1), none, some (0, (0 + 1)), some (0, (((0 + 1) + 1) + 1))]) c_179_80 rfl rfl rfl (n_goto c_179_83 (n_iload c_179_15 rfl (n_aload_n c_179_17 rfl (n_getV (bi := 0) c_179_18 sc_112.n rfl rfl rfl (t_dm hS hdm) ?_))))
                    intro z30 ez30 f31
                    obtain rfl : z30 = 3 := by omega
                    refine n_if2_ge c_179_21 (by omega) (by omega) ?_ ?_
                    · intro h32
                      exfalso; omega
                    · intro h33
                      refine n_iconst c_179_24 (n_istore (L2 := [some (2, 112), some (0, 36), some (1, 1), none, some (0, (0 + 1)), some (0, 0)]) c_179_25 rfl rfl (n_iload c_179_27 rfl (n_aload_n c_179_29 rfl (n_getV (bi := 0) c_179_30 sc_112.n rfl rfl rfl (t_dm hS hdm) ?_))))
                      intro z34 ez34 f35
                      obtain rfl : z34 = 3 := by omega
                      refine n_if2_ge c_179_33 (by omega) (by omega) ?_ ?_
                      · intro h36
                        exfalso; omega
                      · intro h37
                        refine n_lload_n c_179_36 rfl (n_iload_n c_179_37 rfl (n_iconst c_179_38 (n_iload c_179_39 rfl (n_imul c_179_41 rfl (n_i_ishr (z := 9) c_179_42 (by decide) ?_)))))
                        refine n_iconst c_179_43 (n_i_iand (z := 1) c_179_44 (by decide) ?_)
                        refine n_iload_n c_179_45 rfl (n_iconst c_179_46 (n_iload c_179_47 rfl (n_imul c_179_49 rfl (n_i_ishr (z := 36) c_179_50 (by decide) ?_))))
                        refine n_iconst c_179_51 (n_i_iand (z := 0) c_179_52 (by decide) ?_)
                        refine n_if2_ne c_179_53 (by omega) (by omega) ?_ ?_
                        · intro h38
                          refine n_lconst (n := 0) c_179_71 rfl (n_i_lor (z := 1) c_179_72 (by decide) ?_)
                          refine n_lstore_n (L2 := [some (2, 112), some (0, 36), some (1, 1), none, some (0, (0 + 1)), some (0, 0)]) c_179_73 rfl rfl (n_iinc (L2 := [some (2, 112), some (0, 36), some (1, 1), none, some (0, (0 + 1)), some (0, (0 + 1))]) c_179_74 rfl rfl rfl (n_goto c_179_77 (n_iload c_179_27 rfl (n_aload_n c_179_29 rfl (n_getV (bi := 0) c_179_30 sc_112.n rfl rfl rfl (t_dm hS hdm) ?_)))))
                          intro z39 ez39 f40
                          obtain rfl : z39 = 3 := by omega
                          refine n_if2_ge c_179_33 (by omega) (by omega) ?_ ?_
                          · intro h41
                            exfalso; omega
                          · intro h42
                            refine n_lload_n c_179_36 rfl (n_iload_n c_179_37 rfl (n_iconst c_179_38 (n_iload c_179_39 rfl (n_imul c_179_41 rfl (n_i_ishr (z := 9) c_179_42 (by decide) ?_)))))
                            refine n_iconst c_179_43 (n_i_iand (z := 1) c_179_44 (by decide) ?_)
                            refine n_iload_n c_179_45 rfl (n_iconst c_179_46 (n_iload c_179_47 rfl (n_imul c_179_49 rfl (n_i_ishr (z := 9) c_179_50 (by decide) ?_))))
                            refine n_iconst c_179_51 (n_i_iand (z := 1) c_179_52 (by decide) ?_)
                            refine n_if2_ne c_179_53 (by omega) (by omega) ?_ ?_
                            · intro h43
                              exfalso; omega
                            · intro h44
                              refine n_lconst (n := 1) c_179_56 rfl (n_iload c_179_57 rfl (n_aload_n c_179_59 rfl (n_getV (bi := 0) c_179_60 sc_112.n rfl rfl rfl (t_dm hS hdm) ?_)))
                              intro z45 ez45 f46
                              obtain rfl : z45 = 3 := by omega
                              refine n_imul c_179_63 rfl (n_iload c_179_64 rfl (n_iadd c_179_66 rfl (n_i_lshl (z := 16) c_179_67 (by decide) ?_)))
                              refine n_goto c_179_68 (n_i_lor (z := 17) c_179_72 (by decide) ?_)
                              refine n_lstore_n (L2 := [some (2, 112), some (0, 36), some (1, 17), none, some (0, (0 + 1)), some (0, (0 + 1))]) c_179_73 rfl rfl (n_iinc (L2 := [some (2, 112), some (0, 36), some (1, 17), none, some (0, (0 + 1)), some (0, ((0 + 1) + 1))]) c_179_74 rfl rfl rfl (n_goto c_179_77 (n_iload c_179_27 rfl (n_aload_n c_179_29 rfl (n_getV (bi := 0) c_179_30 sc_112.n rfl rfl rfl (t_dm hS hdm) ?_)))))
                              intro z47 ez47 f48
                              obtain rfl : z47 = 3 := by omega
                              refine n_if2_ge c_179_33 (by omega) (by omega) ?_ ?_
                              · intro h49
                                exfalso; omega
                              · intro h50
                                refine n_lload_n c_179_36 rfl (n_iload_n c_179_37 rfl (n_iconst c_179_38 (n_iload c_179_39 rfl (n_imul c_179_41 rfl (n_i_ishr (z := 9) c_179_42 (by decide) ?_)))))
                                refine n_iconst c_179_43 (n_i_iand (z := 1) c_179_44 (by decide) ?_)
                                refine n_iload_n c_179_45 rfl (n_iconst c_179_46 (n_iload c_179_47 rfl (n_imul c_179_49 rfl (n_i_ishr (z := 2) c_179_50 (by decide) ?_))))
                                refine n_iconst c_179_51 (n_i_iand (z := 2) c_179_52 (by decide) ?_)
                                refine n_if2_ne c_179_53 (by omega) (by omega) ?_ ?_
                                · intro h51
                                  refine n_lconst (n := 0) c_179_71 rfl (n_i_lor (z := 17) c_179_72 (by decide) ?_)
                                  refine n_lstore_n (L2 := [some (2, 112), some (0, 36), some (1, 17), none, some (0, (0 + 1)), some (0, ((0 + 1) + 1))]) c_179_73 rfl rfl (n_iinc (L2 := [some (2, 112), some (0, 36), some (1, 17), none, some (0, (0 + 1)), some (0, (((0 + 1) + 1) + 1))]) c_179_74 rfl rfl rfl (n_goto c_179_77 (n_iload c_179_27 rfl (n_aload_n c_179_29 rfl (n_getV (bi := 0) c_179_30 sc_112.n rfl rfl rfl (t_dm hS hdm) ?_)))))
                                  intro z52 ez52 f53
                                  obtain rfl : z52 = 3 := by omega
                                  refine n_if2_ge c_179_33 (by omega) (by omega) ?_ ?_
                                  · intro h54
                                    refine n_iinc (L2 := [some (2, 112), some (0, 36), some (1, 17), none, some (0, ((0 + 1) + 1)), some (0, (((0 + 1) + 1) + 1))]) c_179_80 rfl rfl rfl (n_goto c_179_83 (n_iload c_179_15 rfl (n_aload_n c_179_17 rfl (n_getV (bi := 0) c_179_18 sc_112.n rfl rfl rfl (t_dm hS hdm) ?_))))
                                    intro z55 ez55 f56
                                    obtain rfl : z55 = 3 := by omega
                                    refine n_if2_ge c_179_21 (by omega) (by omega) ?_ ?_
                                    · intro h57
                                      exfalso; omega
                                    · intro h58
                                      refine n_iconst c_179_24 (n_istore (L2 := [some (2, 112), some (0, 36), some (1, 17), none, some (0, ((0 + 1) + 1)), some (0, 0)]) c_179_25 rfl rfl (n_iload c_179_27 rfl (n_aload_n c_179_29 rfl (n_getV (bi := 0) c_179_30 sc_112.n rfl rfl rfl (t_dm hS hdm) ?_))))
                                      intro z59 ez59 f60
                                      obtain rfl : z59 = 3 := by omega
                                      refine n_if2_ge c_179_33 (by omega) (by omega) ?_ ?_
                                      · intro h61
                                        exfalso; omega
                                      · intro h62
                                        refine n_lload_n c_179_36 rfl (n_iload_n c_179_37 rfl (n_iconst c_179_38 (n_iload c_179_39 rfl (n_imul c_179_41 rfl (n_i_ishr (z := 2) c_179_42 (by decide) ?_)))))
                                        refine n_iconst c_179_43 (n_i_iand (z := 2) c_179_44 (by decide) ?_)
                                        refine n_iload_n c_179_45 rfl (n_iconst c_179_46 (n_iload c_179_47 rfl (n_imul c_179_49 rfl (n_i_ishr (z := 36) c_179_50 (by decide) ?_))))
                                        refine n_iconst c_179_51 (n_i_iand (z := 0) c_179_52 (by decide) ?_)
                                        refine n_if2_ne c_179_53 (by omega) (by omega) ?_ ?_
                                        · intro h63
                                          refine n_lconst (n := 0) c_179_71 rfl (n_i_lor (z := 17) c_179_72 (by decide) ?_)
                                          refine n_lstore_n (L2 := [some (2, 112), some (0, 36), some (1, 17), none, some (0, ((0 + 1) + 1)), some (0, 0)]) c_179_73 rfl rfl (n_iinc (L2 := [some (2, 112), some (0, 36), some (1, 17), none, some (0, ((0 + 1) + 1)), some (0, (0 + 1))]) c_179_74 rfl rfl rfl (n_goto c_179_77 (n_iload c_179_27 rfl (n_aload_n c_179_29 rfl (n_getV (bi := 0) c_179_30 sc_112.n rfl rfl rfl (t_dm hS hdm) ?_)))))
                                          intro z64 ez64 f65
                                          obtain rfl : z64 = 3 := by omega
                                          refine n_if2_ge c_179_33 (by omega) (by omega) ?_ ?_
                                          · intro h66
                                            exfalso; omega
                                          · intro h67
                                            refine n_lload_n c_179_36 rfl (n_iload_n c_179_37 rfl (n_iconst c_179_38 (n_iload c_179_39 rfl (n_imul c_179_41 rfl (n_i_ishr (z := 2) c_179_42 (by decide) ?_)))))
                                            refine n_iconst c_179_43 (n_i_iand (z := 2) c_179_44 (by decide) ?_)
                                            refine n_iload_n c_179_45 rfl (n_iconst c_179_46 (n_iload c_179_47 rfl (n_imul c_179_49 rfl (n_i_ishr (z := 9) c_179_50 (by decide) ?_))))
                                            refine n_iconst c_179_51 (n_i_iand (z := 1) c_179_52 (by decide) ?_)
                                            refine n_if2_ne c_179_53 (by omega) (by omega) ?_ ?_
                                            · intro h68
                                              refine n_lconst (n := 0) c_179_71 rfl (n_i_lor (z := 17) c_179_72 (by decide) ?_)
                                              refine n_lstore_n (L2 := [some (2, 112), some (0, 36), some (1, 17), none, some (0, ((0 + 1) + 1)), some (0, (0 + 1))]) c_179_73 rfl rfl (n_iinc (L2 := [some (2, 112), some (0, 36), some (1, 17), none, some (0, ((0 + 1) + 1)), some (0, ((0 + 1) + 1))]) c_179_74 rfl rfl rfl (n_goto c_179_77 (n_iload c_179_27 rfl (n_aload_n c_179_29 rfl (n_getV (bi := 0) c_179_30 sc_112.n rfl rfl rfl (t_dm hS hdm) ?_)))))
                                              intro z69 ez69 f70
                                              obtain rfl : z69 = 3 := by omega
                                              refine n_if2_ge c_179_33 (by omega) (by omega) ?_ ?_
                                              · intro h71
                                                exfalso; omega
                                              · intro h72
                                                refine n_lload_n c_179_36 rfl (n_iload_n c_179_37 rfl (n_iconst c_179_38 (n_iload c_179_39 rfl (n_imul c_179_41 rfl (n_i_ishr (z := 2) c_179_42 (by decide) ?_)))))
                                                refine n_iconst c_179_43 (n_i_iand (z := 2) c_179_44 (by decide) ?_)
                                                refine n_iload_n c_179_45 rfl (n_iconst c_179_46 (n_iload c_179_47 rfl (n_imul c_179_49 rfl (n_i_ishr (z := 2) c_179_50 (by decide) ?_))))
                                                refine n_iconst c_179_51 (n_i_iand (z := 2) c_179_52 (by decide) ?_)
                                                refine n_if2_ne c_179_53 (by omega) (by omega) ?_ ?_
                                                · intro h73
                                                  exfalso; omega
                                                · intro h74
                                                  refine n_lconst (n := 1) c_179_56 rfl (n_iload c_179_57 rfl (n_aload_n c_179_59 rfl (n_getV (bi := 0) c_179_60 sc_112.n rfl rfl rfl (t_dm hS hdm) ?_)))
                                                  intro z75 ez75 f76
                                                  obtain rfl : z75 = 3 := by omega
                                                  refine n_imul c_179_63 rfl (n_iload c_179_64 rfl (n_iadd c_179_66 rfl (n_i_lshl (z := 256) c_179_67 (by decide) ?_)))
                                                  refine n_goto c_179_68 (n_i_lor (z := 273) c_179_72 (by decide) ?_)
                                                  refine n_lstore_n (L2 := [some (2, 112), some (0, 36), some (1, 273), none, some (0, ((0 + 1) + 1)), some (0, ((0 + 1) + 1))]) c_179_73 rfl rfl (n_iinc (L2 := [some (2, 112), some (0, 36), some (1, 273), none, some (0, ((0 + 1) + 1)), some (0, (((0 + 1) + 1) + 1))]) c_179_74 rfl rfl rfl (n_goto c_179_77 (n_iload c_179_27 rfl (n_aload_n c_179_29 rfl (n_getV (bi := 0) c_179_30 sc_112.n rfl rfl rfl (t_dm hS hdm) ?_)))))
                                                  intro z77 ez77 f78
                                                  obtain rfl : z77 = 3 := by omega
                                                  refine n_if2_ge c_179_33 (by omega) (by omega) ?_ ?_
                                                  · intro h79
                                                    refine n_iinc (L2 := [some (2, 112), some (0, 36), some (1, 273), none, some (0, (((0 + 1) + 1) + 1)), some (0, (((0 + 1) + 1) + 1))]) c_179_80 rfl rfl rfl (n_goto c_179_83 (n_iload c_179_15 rfl (n_aload_n c_179_17 rfl (n_getV (bi := 0) c_179_18 sc_112.n rfl rfl rfl (t_dm hS hdm) ?_))))
                                                    intro z80 ez80 f81
                                                    obtain rfl : z80 = 3 := by omega
                                                    refine n_if2_ge c_179_21 (by omega) (by omega) ?_ ?_
                                                    · intro h82
                                                      refine n_aload_n c_179_86 rfl (n_iconst c_179_87 (n_lload_n c_179_88 rfl (n_v2I c_179_89 rfl sc_112.n rfl rfl rfl rfl (mallKeepX_3 (k := 2) (s := 273) hS hdm (by omega) (by omega) (by exact hp)) ?_)))
                                                      intro z83 M84 hP85
                                                      obtain ⟨eM, f85, f85p0⟩ := hP85
                                                      subst eM
                                                      exact n_rZ c_179_92 rfl (by omega) ⟨rfl, by omega, by exact f85p0⟩
                                                    · intro h86
                                                      exfalso; omega
                                                  · intro h87
                                                    exfalso; omega
                                            · intro h88
                                              exfalso; omega
                                        · intro h89
                                          exfalso; omega
                                  · intro h90
                                    exfalso; omega
                                · intro h91
                                  exfalso; omega
                        · intro h92
                          exfalso; omega
                  · intro h93
                    exfalso; omega
                · intro h94
                  exfalso; omega
            · intro h95
              exfalso; omega
  · intro h96
    exfalso; omega
