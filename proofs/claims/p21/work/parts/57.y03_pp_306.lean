/-! What the methods tell. -/
set_option maxHeartbeats 4000000 in
theorem misPairX62_3 {xs : List Int32} {e : Nat} {ac : Int} {M0 M : nM} (hS : Sf 3 ac M0 M) (hdm : M0 112 0 = 3) (hp : ∀ a : Int, 0 ≤ a → a < M 112 4 → 1 ≤ M 116 a) : nW xs (e + 5) 179 0 [some (2, 112), some (0, 62), none, none, none, none] [] M (nPI fun z M1 => M = M1 ∧ (0 ≤ z ∧ z ≤ 1) ∧ (z = pg3 M 62)) := by
  have hd : (3 : Int) = 2 ∨ (3 : Int) = 3 := by decide
  have hac := hS.2.2.2.2
  refine n_aload_n c_179_0 rfl (n_iload_n c_179_1 rfl (n_v1I c_179_2 rfl sc_112.n rfl rfl rfl rfl (misPartX62_3  hS hdm) ?_))
  intro z1 M2 hP3
  obtain ⟨eM, f3⟩ := hP3
  subst eM
  obtain rfl : z1 = 0 := by omega
  refine n_if0_ne c_179_5 (by omega) ?_ ?_
  · intro h4
    exfalso; omega
  · intro h5
    refine n_iconst c_179_8 ?_
    exact n_rZ c_179_9 rfl (by omega) ⟨rfl, by omega, by rfl⟩

set_option maxHeartbeats 4000000 in
theorem misPartX63_3 {xs : List Int32} {e : Nat} {ac : Int} {M0 M : nM} (hS : Sf 3 ac M0 M) (hdm : M0 112 0 = 3) : nW xs e 178 0 [some (2, 112), some (0, 63), none, none] [] M (nPI fun z M1 => M = M1 ∧ (0 ≤ z ∧ z ≤ 0)) := by
  have hd : (3 : Int) = 2 ∨ (3 : Int) = 3 := by decide
  have hac := hS.2.2.2.2
  refine n_iconst c_178_0 (n_istore_n (L2 := [some (2, 112), some (0, 63), some (0, 0), none]) c_178_1 rfl rfl (n_iload_n c_178_2 rfl (n_aload_n c_178_3 rfl (n_getV (bi := 0) c_178_4 sc_112.n rfl rfl rfl (t_dm hS hdm) ?_))))
  intro z1 ez1 f2
  obtain rfl : z1 = 3 := by omega
  refine n_if2_ge c_178_7 (by omega) (by omega) ?_ ?_
  · intro h3
    exfalso; omega
  · intro h4
    refine n_iload_n c_178_10 rfl (n_iconst c_178_11 (n_iload_n c_178_12 rfl (n_imul c_178_13 rfl (n_i_ishr (z := 63) c_178_14 (by decide) ?_))))
    refine n_iconst c_178_15 (n_i_iand (z := 3) c_178_16 (by decide) ?_)
    refine n_istore_n (L2 := [some (2, 112), some (0, 63), some (0, 0), some (0, 3)]) c_178_17 rfl rfl (n_iload_n c_178_18 rfl (n_iload_n c_178_19 rfl ?_))
    refine n_if2_gt c_178_20 (by omega) (by omega) ?_ ?_
    · intro h5
      refine n_iconst c_178_34 ?_
      exact n_rZ c_178_35 rfl (by omega) ⟨rfl, by omega⟩
    · intro h6
      exfalso; omega

set_option maxHeartbeats 4000000 in
theorem misPairX63_3 {xs : List Int32} {e : Nat} {ac : Int} {M0 M : nM} (hS : Sf 3 ac M0 M) (hdm : M0 112 0 = 3) (hp : ∀ a : Int, 0 ≤ a → a < M 112 4 → 1 ≤ M 116 a) : nW xs (e + 5) 179 0 [some (2, 112), some (0, 63), none, none, none, none] [] M (nPI fun z M1 => M = M1 ∧ (0 ≤ z ∧ z ≤ 1) ∧ (z = pg3 M 63)) := by
  have hd : (3 : Int) = 2 ∨ (3 : Int) = 3 := by decide
  have hac := hS.2.2.2.2
  refine n_aload_n c_179_0 rfl (n_iload_n c_179_1 rfl (n_v1I c_179_2 rfl sc_112.n rfl rfl rfl rfl (misPartX63_3  hS hdm) ?_))
  intro z1 M2 hP3
  obtain ⟨eM, f3⟩ := hP3
  subst eM
  obtain rfl : z1 = 0 := by omega
  refine n_if0_ne c_179_5 (by omega) ?_ ?_
  · intro h4
    exfalso; omega
  · intro h5
    refine n_iconst c_179_8 ?_
    exact n_rZ c_179_9 rfl (by omega) ⟨rfl, by omega, by rfl⟩

set_option maxHeartbeats 4000000 in
theorem misPairX_3 {xs : List Int32} {e : Nat} {ac : Int} {M0 M : nM} {n : Int} (hS : Sf 3 ac M0 M) (hdm : M0 112 0 = 3) (hn : 0 ≤ n ∧ n ≤ 63) (hp : ∀ a : Int, 0 ≤ a → a < M 112 4 → 1 ≤ M 116 a) : nW xs (e + 5) 179 0 [some (2, 112), some (0, n), none, none, none, none] [] M (nPI fun z M1 => M = M1 ∧ (0 ≤ z ∧ z ≤ 1) ∧ (z = pg3 M n)) := by
  rcases (show n = 0 ∨ n = 1 ∨ n = 2 ∨ n = 3 ∨ n = 4 ∨ n = 5 ∨ n = 6 ∨ n = 7 ∨ n = 8 ∨ n = 9 ∨ n = 10 ∨ n = 11 ∨ n = 12 ∨ n = 13 ∨ n = 14 ∨ n = 15 ∨ n = 16 ∨ n = 17 ∨ n = 18 ∨ n = 19 ∨ n = 20 ∨ n = 21 ∨ n = 22 ∨ n = 23 ∨ n = 24 ∨ n = 25 ∨ n = 26 ∨ n = 27 ∨ n = 28 ∨ n = 29 ∨ n = 30 ∨ n = 31 ∨ n = 32 ∨ n = 33 ∨ n = 34 ∨ n = 35 ∨ n = 36 ∨ n = 37 ∨ n = 38 ∨ n = 39 ∨ n = 40 ∨ n = 41 ∨ n = 42 ∨ n = 43 ∨ n = 44 ∨ n = 45 ∨ n = 46 ∨ n = 47 ∨ n = 48 ∨ n = 49 ∨ n = 50 ∨ n = 51 ∨ n = 52 ∨ n = 53 ∨ n = 54 ∨ n = 55 ∨ n = 56 ∨ n = 57 ∨ n = 58 ∨ n = 59 ∨ n = 60 ∨ n = 61 ∨ n = 62 ∨ n = 63 by omega) with rfl | rfl | rfl | rfl | rfl | rfl | rfl | rfl | rfl | rfl | rfl | rfl | rfl | rfl | rfl | rfl | rfl | rfl | rfl | rfl | rfl | rfl | rfl | rfl | rfl | rfl | rfl | rfl | rfl | rfl | rfl | rfl | rfl | rfl | rfl | rfl | rfl | rfl | rfl | rfl | rfl | rfl | rfl | rfl | rfl | rfl | rfl | rfl | rfl | rfl | rfl | rfl | rfl | rfl | rfl | rfl | rfl | rfl | rfl | rfl | rfl | rfl | rfl | rfl
  · exact n_post (misPairX0_3 hS hdm hp) (fun w M1 h => by obtain ⟨z, rfl, h1, h2, h3⟩ := h; exact ⟨z, rfl, h1, by omega, h3⟩)
  · exact n_post (misPairX1_3 hS hdm hp) (fun w M1 h => by obtain ⟨z, rfl, h1, h2, h3⟩ := h; exact ⟨z, rfl, h1, by omega, h3⟩)
  · exact n_post (misPairX2_3 hS hdm hp) (fun w M1 h => by obtain ⟨z, rfl, h1, h2, h3⟩ := h; exact ⟨z, rfl, h1, by omega, h3⟩)
  · exact n_post (misPairX3_3 hS hdm hp) (fun w M1 h => by obtain ⟨z, rfl, h1, h2, h3⟩ := h; exact ⟨z, rfl, h1, by omega, h3⟩)
  · exact n_post (misPairX4_3 hS hdm hp) (fun w M1 h => by obtain ⟨z, rfl, h1, h2, h3⟩ := h; exact ⟨z, rfl, h1, by omega, h3⟩)
  · exact n_post (misPairX5_3 hS hdm hp) (fun w M1 h => by obtain ⟨z, rfl, h1, h2, h3⟩ := h; exact ⟨z, rfl, h1, by omega, h3⟩)
  · exact n_post (misPairX6_3 hS hdm hp) (fun w M1 h => by obtain ⟨z, rfl, h1, h2, h3⟩ := h; exact ⟨z, rfl, h1, by omega, h3⟩)
  · exact n_post (misPairX7_3 hS hdm hp) (fun w M1 h => by obtain ⟨z, rfl, h1, h2, h3⟩ := h; exact ⟨z, rfl, h1, by omega, h3⟩)
  · exact n_post (misPairX8_3 hS hdm hp) (fun w M1 h => by obtain ⟨z, rfl, h1, h2, h3⟩ := h; exact ⟨z, rfl, h1, by omega, h3⟩)
  · exact n_post (misPairX9_3 hS hdm hp) (fun w M1 h => by obtain ⟨z, rfl, h1, h2, h3⟩ := h; exact ⟨z, rfl, h1, by omega, h3⟩)
  · exact n_post (misPairX10_3 hS hdm hp) (fun w M1 h => by obtain ⟨z, rfl, h1, h2, h3⟩ := h; exact ⟨z, rfl, h1, by omega, h3⟩)
  · exact n_post (misPairX11_3 hS hdm hp) (fun w M1 h => by obtain ⟨z, rfl, h1, h2, h3⟩ := h; exact ⟨z, rfl, h1, by omega, h3⟩)
  · exact n_post (misPairX12_3 hS hdm hp) (fun w M1 h => by obtain ⟨z, rfl, h1, h2, h3⟩ := h; exact ⟨z, rfl, h1, by omega, h3⟩)
  · exact n_post (misPairX13_3 hS hdm hp) (fun w M1 h => by obtain ⟨z, rfl, h1, h2, h3⟩ := h; exact ⟨z, rfl, h1, by omega, h3⟩)
  · exact n_post (misPairX14_3 hS hdm hp) (fun w M1 h => by obtain ⟨z, rfl, h1, h2, h3⟩ := h; exact ⟨z, rfl, h1, by omega, h3⟩)
  · exact n_post (misPairX15_3 hS hdm hp) (fun w M1 h => by obtain ⟨z, rfl, h1, h2, h3⟩ := h; exact ⟨z, rfl, h1, by omega, h3⟩)
  · exact n_post (misPairX16_3 hS hdm hp) (fun w M1 h => by obtain ⟨z, rfl, h1, h2, h3⟩ := h; exact ⟨z, rfl, h1, by omega, h3⟩)
  · exact n_post (misPairX17_3 hS hdm hp) (fun w M1 h => by obtain ⟨z, rfl, h1, h2, h3⟩ := h; exact ⟨z, rfl, h1, by omega, h3⟩)
  · exact n_post (misPairX18_3 hS hdm hp) (fun w M1 h => by obtain ⟨z, rfl, h1, h2, h3⟩ := h; exact ⟨z, rfl, h1, by omega, h3⟩)
  · exact n_post (misPairX19_3 hS hdm hp) (fun w M1 h => by obtain ⟨z, rfl, h1, h2, h3⟩ := h; exact ⟨z, rfl, h1, by omega, h3⟩)
  · exact n_post (misPairX20_3 hS hdm hp) (fun w M1 h => by obtain ⟨z, rfl, h1, h2, h3⟩ := h; exact ⟨z, rfl, h1, by omega, h3⟩)
  · exact n_post (misPairX21_3 hS hdm hp) (fun w M1 h => by obtain ⟨z, rfl, h1, h2, h3⟩ := h; exact ⟨z, rfl, h1, by omega, h3⟩)
  · exact n_post (misPairX22_3 hS hdm hp) (fun w M1 h => by obtain ⟨z, rfl, h1, h2, h3⟩ := h; exact ⟨z, rfl, h1, by omega, h3⟩)
  · exact n_post (misPairX23_3 hS hdm hp) (fun w M1 h => by obtain ⟨z, rfl, h1, h2, h3⟩ := h; exact ⟨z, rfl, h1, by omega, h3⟩)
  · exact n_post (misPairX24_3 hS hdm hp) (fun w M1 h => by obtain ⟨z, rfl, h1, h2, h3⟩ := h; exact ⟨z, rfl, h1, by omega, h3⟩)
  · exact n_post (misPairX25_3 hS hdm hp) (fun w M1 h => by obtain ⟨z, rfl, h1, h2, h3⟩ := h; exact ⟨z, rfl, h1, by omega, h3⟩)
  · exact n_post (misPairX26_3 hS hdm hp) (fun w M1 h => by obtain ⟨z, rfl, h1, h2, h3⟩ := h; exact ⟨z, rfl, h1, by omega, h3⟩)
  · exact n_post (misPairX27_3 hS hdm hp) (fun w M1 h => by obtain ⟨z, rfl, h1, h2, h3⟩ := h; exact ⟨z, rfl, h1, by omega, h3⟩)
  · exact n_post (misPairX28_3 hS hdm hp) (fun w M1 h => by obtain ⟨z, rfl, h1, h2, h3⟩ := h; exact ⟨z, rfl, h1, by omega, h3⟩)
  · exact n_post (misPairX29_3 hS hdm hp) (fun w M1 h => by obtain ⟨z, rfl, h1, h2, h3⟩ := h; exact ⟨z, rfl, h1, by omega, h3⟩)
  · exact n_post (misPairX30_3 hS hdm hp) (fun w M1 h => by obtain ⟨z, rfl, h1, h2, h3⟩ := h; exact ⟨z, rfl, h1, by omega, h3⟩)
  · exact n_post (misPairX31_3 hS hdm hp) (fun w M1 h => by obtain ⟨z, rfl, h1, h2, h3⟩ := h; exact ⟨z, rfl, h1, by omega, h3⟩)
  · exact n_post (misPairX32_3 hS hdm hp) (fun w M1 h => by obtain ⟨z, rfl, h1, h2, h3⟩ := h; exact ⟨z, rfl, h1, by omega, h3⟩)
  · exact n_post (misPairX33_3 hS hdm hp) (fun w M1 h => by obtain ⟨z, rfl, h1, h2, h3⟩ := h; exact ⟨z, rfl, h1, by omega, h3⟩)
  · exact n_post (misPairX34_3 hS hdm hp) (fun w M1 h => by obtain ⟨z, rfl, h1, h2, h3⟩ := h; exact ⟨z, rfl, h1, by omega, h3⟩)
  · exact n_post (misPairX35_3 hS hdm hp) (fun w M1 h => by obtain ⟨z, rfl, h1, h2, h3⟩ := h; exact ⟨z, rfl, h1, by omega, h3⟩)
  · exact n_post (misPairX36_3 hS hdm hp) (fun w M1 h => by obtain ⟨z, rfl, h1, h2, h3⟩ := h; exact ⟨z, rfl, h1, by omega, h3⟩)
  · exact n_post (misPairX37_3 hS hdm hp) (fun w M1 h => by obtain ⟨z, rfl, h1, h2, h3⟩ := h; exact ⟨z, rfl, h1, by omega, h3⟩)
  · exact n_post (misPairX38_3 hS hdm hp) (fun w M1 h => by obtain ⟨z, rfl, h1, h2, h3⟩ := h; exact ⟨z, rfl, h1, by omega, h3⟩)
  · exact n_post (misPairX39_3 hS hdm hp) (fun w M1 h => by obtain ⟨z, rfl, h1, h2, h3⟩ := h; exact ⟨z, rfl, h1, by omega, h3⟩)
  · exact n_post (misPairX40_3 hS hdm hp) (fun w M1 h => by obtain ⟨z, rfl, h1, h2, h3⟩ := h; exact ⟨z, rfl, h1, by omega, h3⟩)
  · exact n_post (misPairX41_3 hS hdm hp) (fun w M1 h => by obtain ⟨z, rfl, h1, h2, h3⟩ := h; exact ⟨z, rfl, h1, by omega, h3⟩)
  · exact n_post (misPairX42_3 hS hdm hp) (fun w M1 h => by obtain ⟨z, rfl, h1, h2, h3⟩ := h; exact ⟨z, rfl, h1, by omega, h3⟩)
  · exact n_post (misPairX43_3 hS hdm hp) (fun w M1 h => by obtain ⟨z, rfl, h1, h2, h3⟩ := h; exact ⟨z, rfl, h1, by omega, h3⟩)
  · exact n_post (misPairX44_3 hS hdm hp) (fun w M1 h => by obtain ⟨z, rfl, h1, h2, h3⟩ := h; exact ⟨z, rfl, h1, by omega, h3⟩)
  · exact n_post (misPairX45_3 hS hdm hp) (fun w M1 h => by obtain ⟨z, rfl, h1, h2, h3⟩ := h; exact ⟨z, rfl, h1, by omega, h3⟩)
  · exact n_post (misPairX46_3 hS hdm hp) (fun w M1 h => by obtain ⟨z, rfl, h1, h2, h3⟩ := h; exact ⟨z, rfl, h1, by omega, h3⟩)
  · exact n_post (misPairX47_3 hS hdm hp) (fun w M1 h => by obtain ⟨z, rfl, h1, h2, h3⟩ := h; exact ⟨z, rfl, h1, by omega, h3⟩)
  · exact n_post (misPairX48_3 hS hdm hp) (fun w M1 h => by obtain ⟨z, rfl, h1, h2, h3⟩ := h; exact ⟨z, rfl, h1, by omega, h3⟩)
  · exact n_post (misPairX49_3 hS hdm hp) (fun w M1 h => by obtain ⟨z, rfl, h1, h2, h3⟩ := h; exact ⟨z, rfl, h1, by omega, h3⟩)
  · exact n_post (misPairX50_3 hS hdm hp) (fun w M1 h => by obtain ⟨z, rfl, h1, h2, h3⟩ := h; exact ⟨z, rfl, h1, by omega, h3⟩)
  · exact n_post (misPairX51_3 hS hdm hp) (fun w M1 h => by obtain ⟨z, rfl, h1, h2, h3⟩ := h; exact ⟨z, rfl, h1, by omega, h3⟩)
  · exact n_post (misPairX52_3 hS hdm hp) (fun w M1 h => by obtain ⟨z, rfl, h1, h2, h3⟩ := h; exact ⟨z, rfl, h1, by omega, h3⟩)
  · exact n_post (misPairX53_3 hS hdm hp) (fun w M1 h => by obtain ⟨z, rfl, h1, h2, h3⟩ := h; exact ⟨z, rfl, h1, by omega, h3⟩)
  · exact n_post (misPairX54_3 hS hdm hp) (fun w M1 h => by obtain ⟨z, rfl, h1, h2, h3⟩ := h; exact ⟨z, rfl, h1, by omega, h3⟩)
  · exact n_post (misPairX55_3 hS hdm hp) (fun w M1 h => by obtain ⟨z, rfl, h1, h2, h3⟩ := h; exact ⟨z, rfl, h1, by omega, h3⟩)
  · exact n_post (misPairX56_3 hS hdm hp) (fun w M1 h => by obtain ⟨z, rfl, h1, h2, h3⟩ := h; exact ⟨z, rfl, h1, by omega, h3⟩)
  · exact n_post (misPairX57_3 hS hdm hp) (fun w M1 h => by obtain ⟨z, rfl, h1, h2, h3⟩ := h; exact ⟨z, rfl, h1, by omega, h3⟩)
  · exact n_post (misPairX58_3 hS hdm hp) (fun w M1 h => by obtain ⟨z, rfl, h1, h2, h3⟩ := h; exact ⟨z, rfl, h1, by omega, h3⟩)
  · exact n_post (misPairX59_3 hS hdm hp) (fun w M1 h => by obtain ⟨z, rfl, h1, h2, h3⟩ := h; exact ⟨z, rfl, h1, by omega, h3⟩)
  · exact n_post (misPairX60_3 hS hdm hp) (fun w M1 h => by obtain ⟨z, rfl, h1, h2, h3⟩ := h; exact ⟨z, rfl, h1, by omega, h3⟩)
  · exact n_post (misPairX61_3 hS hdm hp) (fun w M1 h => by obtain ⟨z, rfl, h1, h2, h3⟩ := h; exact ⟨z, rfl, h1, by omega, h3⟩)
  · exact n_post (misPairX62_3 hS hdm hp) (fun w M1 h => by obtain ⟨z, rfl, h1, h2, h3⟩ := h; exact ⟨z, rfl, h1, by omega, h3⟩)
  · exact n_post (misPairX63_3 hS hdm hp) (fun w M1 h => by obtain ⟨z, rfl, h1, h2, h3⟩ := h; exact ⟨z, rfl, h1, by omega, h3⟩)

set_option maxHeartbeats 4000000 in
theorem mpairingsX_3_c {xs : List Int32} {e : Nat} {ac : Int} {M0 M : nM} (hS : Sf 3 ac M0 M) (hdm : M0 112 0 = 3) (hp : ∀ a : Int, 0 ≤ a → a < M 112 4 → 1 ≤ M 116 a) : ∀ nn : Nat, (∀ (x1 x2 : Int), (0 ≤ x1 ∧ x1 ≤ 64) → (0 ≤ x2 ∧ x2 ≤ 64) → (x1 ≤ x2) → (x1 = cf (pg3 M) x2.toNat) → (64 - x2) * 1 + 1 < (nn : Int) → nW xs (e + 6) 180 4 [some (2, 112), some (0, x1), some (0, x2)] [] M (nPI fun z M1 => M = M1 ∧ (-2147483648 ≤ z ∧ z ≤ 2147483647) ∧ (z = cf (pg3 M) 64))) := by
  have hd : (3 : Int) = 2 ∨ (3 : Int) = 3 := by decide
  have hac := hS.2.2.2.2
  intro nn
  induction nn with
  | zero => intros; omega
  | succ nn ih =>
    intro x1 x2 k1 k2 v0 v1 hnn
    refine n_iload_n c_180_4 rfl (n_iconst c_180_5 (n_iconst c_180_6 (n_aload_n c_180_7 rfl (n_getV (bi := 0) c_180_8 sc_112.n rfl rfl rfl (t_dm hS hdm) ?_))))
    intro z1 ez1 f2
    obtain rfl : z1 = 3 := by omega
    refine n_imul c_180_11 rfl (n_i_ishl (z := 64) c_180_12 (by decide) ?_)
    refine n_if2_ge c_180_13 (by omega) (by omega) ?_ ?_
    · intro h3
      refine n_iload_n c_180_38 rfl ?_
      exact n_rI c_180_39 rfl ⟨rfl, by omega, by have q : x2 = 64 := (by omega); rw [q] at v1; exact v1⟩
    · intro h4
      refine n_iload_n c_180_16 rfl (n_aload_n c_180_17 rfl (n_iload_n c_180_18 rfl (n_v1I c_180_19 rfl sc_112.n rfl rfl rfl rfl (misPairX_3 (n := x2) hS hdm (by omega) (by exact hp)) ?_)))
      intro z5 M6 hP7
      obtain ⟨eM, f7, f7p0⟩ := hP7
      subst eM
      refine n_if0_eq c_180_22 (by omega) ?_ ?_
      · intro h8
        refine n_iconst c_180_29 (n_iadd c_180_30 rfl (n_istore_n (L2 := [some (2, 112), some (0, (x1 + 0)), some (0, x2)]) c_180_31 rfl rfl (n_iinc (L2 := [some (2, 112), some (0, (x1 + 0)), some (0, (x2 + 1))]) c_180_32 rfl rfl rfl (n_goto c_180_35 (n_fg (le_s (le_s (le_s le_0))) ?_)))))
        exact ih _ _ (by omega) (by omega) (by omega) (by rw [cf_step (by omega), ← v1, ← f7p0]; omega) (by omega)
      · intro h9
        refine n_iconst c_180_25 (n_goto c_180_26 (n_iadd c_180_30 rfl (n_istore_n (L2 := [some (2, 112), some (0, (x1 + 1)), some (0, x2)]) c_180_31 rfl rfl (n_iinc (L2 := [some (2, 112), some (0, (x1 + 1)), some (0, (x2 + 1))]) c_180_32 rfl rfl rfl (n_goto c_180_35 (n_fg (le_s (le_s (le_s le_0))) ?_))))))
        exact ih _ _ (by omega) (by omega) (by omega) (by rw [cf_step (by omega), ← v1, ← f7p0]; omega) (by omega)
set_option maxHeartbeats 4000000 in
theorem mpairingsX_3 {xs : List Int32} {e : Nat} {ac : Int} {M0 M : nM} (hS : Sf 3 ac M0 M) (hdm : M0 112 0 = 3) (hp : ∀ a : Int, 0 ≤ a → a < M 112 4 → 1 ≤ M 116 a) : nW xs (e + 6) 180 0 [some (2, 112), none, none] [] M (nPI fun z M1 => M = M1 ∧ (-2147483648 ≤ z ∧ z ≤ 2147483647) ∧ (z = cf (pg3 M) 64)) := by
  have hd : (3 : Int) = 2 ∨ (3 : Int) = 3 := by decide
  have hac := hS.2.2.2.2
  refine n_iconst c_180_0 (n_istore_n (L2 := [some (2, 112), some (0, 0), none]) c_180_1 rfl rfl (n_iconst c_180_2 (n_istore_n (L2 := [some (2, 112), some (0, 0), some (0, 0)]) c_180_3 rfl rfl (n_fg (le_s (le_s (le_s le_0))) ?_))))
  exact (mpairingsX_3_c hS hdm hp 142) _ _ (by omega) (by omega) (by omega) (by rfl) (by omega)

set_option maxHeartbeats 4000000 in
theorem mpairingX_3_c {xs : List Int32} {e : Nat} {ac : Int} {M0 M : nM} {i : Int} (hS : Sf 3 ac M0 M) (hdm : M0 112 0 = 3) (hi : -2147483648 ≤ i ∧ i ≤ 2147483647) (hp : ∀ a : Int, 0 ≤ a → a < M 112 4 → 1 ≤ M 116 a) : ∀ nn : Nat, (∀ (x2 x3 : Int), (-2147483648 ≤ x2 ∧ x2 ≤ 2147483647) → (0 ≤ x3 ∧ x3 ≤ 64) → (x2 = i - cf (pg3 M) x3.toNat) → ((x3 = 0 ∧ x2 = i) ∨ (0 ≤ x2 ∧ 0 ≤ i)) → (64 - x3) * 1 + 1 < (nn : Int) → nW xs (e + 6) 181 4 [some (2, 112), none, some (0, x2), some (0, x3)] [] M (nPI fun z M1 => M = M1 ∧ (-2147483648 ≤ z ∧ z ≤ 2147483647) ∧ (mPr (pg3 M) 64 i z))) := by
  have hd : (3 : Int) = 2 ∨ (3 : Int) = 3 := by decide
  have hac := hS.2.2.2.2
  intro nn
  induction nn with
  | zero => intros; omega
  | succ nn ih =>
    intro x2 x3 k2 k3 v0 v1 hnn
    refine n_iload_n c_181_4 rfl (n_iconst c_181_5 (n_iconst c_181_6 (n_aload_n c_181_7 rfl (n_getV (bi := 0) c_181_8 sc_112.n rfl rfl rfl (t_dm hS hdm) ?_))))
    intro z1 ez1 f2
    obtain rfl : z1 = 3 := by omega
    refine n_imul c_181_11 rfl (n_i_ishl (z := 64) c_181_12 (by decide) ?_)
    refine n_if2_ge c_181_13 (by omega) (by omega) ?_ ?_
    · intro h3
      refine n_iconst c_181_43 ?_
      exact n_rI c_181_44 rfl ⟨rfl, by omega, by refine Or.inl ⟨rfl, ?_⟩; by_cases q : x3 = 64; (rw [q] at v0; have v0 : x2 = i - cf (pg3 M) 64 := v0; omega); omega⟩
    · intro h4
      refine n_iload_n c_181_16 rfl ?_
      refine n_if0_lt c_181_17 (by omega) ?_ ?_
      · intro h5
        refine n_iconst c_181_43 ?_
        exact n_rI c_181_44 rfl ⟨rfl, by omega, by refine Or.inl ⟨rfl, ?_⟩; by_cases q : x3 = 64; (rw [q] at v0; have v0 : x2 = i - cf (pg3 M) 64 := v0; omega); omega⟩
      · intro h6
        refine n_aload_n c_181_20 rfl (n_iload_n c_181_21 rfl (n_v1I c_181_22 rfl sc_112.n rfl rfl rfl rfl (misPairX_3 (n := x3) hS hdm (by omega) (by exact hp)) ?_))
        intro z7 M8 hP9
        obtain ⟨eM, f9, f9p0⟩ := hP9
        subst eM
        refine n_if0_eq c_181_25 (by omega) ?_ ?_
        · intro h10
          refine n_iinc (L2 := [some (2, 112), none, some (0, x2), some (0, (x3 + 1))]) c_181_37 rfl rfl rfl (n_goto c_181_40 (n_fg (le_s (le_n (le_s (le_s le_0)))) ?_))
          exact ih _ _ (by omega) (by omega) (by rw [cf_step (by omega), ← f9p0]; omega) (by omega) (by omega)
        · intro h11
          refine n_iload_n c_181_28 rfl ?_
          refine n_if0_ne c_181_29 (by omega) ?_ ?_
          · intro h12
            refine n_iinc (L2 := [some (2, 112), none, some (0, (x2 + (-1))), some (0, x3)]) c_181_34 rfl rfl rfl (n_iinc (L2 := [some (2, 112), none, some (0, (x2 + (-1))), some (0, (x3 + 1))]) c_181_37 rfl rfl rfl (n_goto c_181_40 (n_fg (le_s (le_n (le_s (le_s le_0)))) ?_)))
            exact ih _ _ (by omega) (by omega) (by rw [cf_step (by omega), ← f9p0]; omega) (by omega) (by omega)
          · intro h13
            refine n_iload_n c_181_32 rfl ?_
            exact n_rI c_181_33 rfl ⟨rfl, by omega, by exact Or.inr ⟨by omega, by omega, by rw [← f9p0]; omega, by omega⟩⟩
set_option maxHeartbeats 4000000 in
theorem mpairingX_3 {xs : List Int32} {e : Nat} {ac : Int} {M0 M : nM} {i : Int} (hS : Sf 3 ac M0 M) (hdm : M0 112 0 = 3) (hi : -2147483648 ≤ i ∧ i ≤ 2147483647) (hp : ∀ a : Int, 0 ≤ a → a < M 112 4 → 1 ≤ M 116 a) : nW xs (e + 6) 181 0 [some (2, 112), some (0, i), none, none] [] M (nPI fun z M1 => M = M1 ∧ (-2147483648 ≤ z ∧ z ≤ 2147483647) ∧ (mPr (pg3 M) 64 i z)) := by
  have hd : (3 : Int) = 2 ∨ (3 : Int) = 3 := by decide
  have hac := hS.2.2.2.2
  refine n_iload_n c_181_0 rfl (n_istore_n (L2 := [some (2, 112), some (0, i), some (0, i), none]) c_181_1 rfl rfl (n_iconst c_181_2 (n_istore_n (L2 := [some (2, 112), some (0, i), some (0, i), some (0, 0)]) c_181_3 rfl rfl (n_fg (le_s (le_n (le_s (le_s le_0)))) ?_))))
  exact (mpairingX_3_c hS hdm hi hp 142) _ _ (by omega) (by omega) (by show _ = i - cf (pg3 M) 0; show _ = i - 0; omega) (by omega) (by omega)
