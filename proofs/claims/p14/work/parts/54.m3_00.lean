/-! The methods, by program. -/
set_option maxHeartbeats 4000000 in
theorem isAhead_3_c {xs : List Int32} {e : Nat} {ac : Int} {M0 M : nM} {i j : Int} (hS : Sf 3 ac M0 M) (hi : 0 ≤ i ∧ i ≤ 256) (hj : 0 ≤ j ∧ j ≤ 256) : ∀ nn : Nat, (2 < (nn : Int) → nW xs e 58 45 [none, none, none] [] M (nPI fun z M1 => M = M1 ∧ (0 ≤ z ∧ z ≤ 1))) ∧ (1 < (nn : Int) → nW xs e 58 49 [none, none, none] [] M (nPI fun z M1 => M = M1 ∧ (0 ≤ z ∧ z ≤ 1))) := by
  have hd : (3 : Int) = 2 ∨ (3 : Int) = 3 := by decide
  have hac := hS.2.2.2.2
  intro nn
  induction nn with
  | zero => refine ⟨?_, ?_⟩ <;> (intros; omega)
  | succ nn ih =>
    refine ⟨?_, ?_⟩
    · intro hnn
      refine n_iconst c_58_45 ?_
      refine n_goto c_58_46 ?_
      exact n_rZ c_58_50 rfl (by omega) ⟨rfl, by omega⟩
    · intro hnn
      refine n_iconst c_58_49 ?_
      exact n_rZ c_58_50 rfl (by omega) ⟨rfl, by omega⟩
set_option maxHeartbeats 4000000 in
theorem isAhead_3 {xs : List Int32} {e : Nat} {ac : Int} {M0 M : nM} {i j : Int} (hS : Sf 3 ac M0 M) (hi : 0 ≤ i ∧ i ≤ 256) (hj : 0 ≤ j ∧ j ≤ 256) : nW xs e 58 0 [some (2, 15), some (0, i), some (0, j)] [] M (nPI fun z M1 => M = M1 ∧ (0 ≤ z ∧ z ≤ 1)) := by
  have hd : (3 : Int) = 2 ∨ (3 : Int) = 3 := by decide
  have hac := hS.2.2.2.2
  refine n_aload_n c_58_0 rfl ?_
  refine n_getR c_58_1 sc_15.n rfl rfl rfl r_15_2 ?_
  refine n_iload_n c_58_4 rfl ?_
  refine n_ialoadV c_58_5 sc_21.n rfl rfl rfl (by omega) (t_21 hS (by omega)) ?_
  intro z1 ez1 f2
  refine n_aload_n c_58_6 rfl ?_
  refine n_getR c_58_7 sc_15.n rfl rfl rfl r_15_2 ?_
  refine n_iload_n c_58_10 rfl ?_
  refine n_ialoadV c_58_11 sc_21.n rfl rfl rfl (by omega) (t_21 hS (by omega)) ?_
  intro z3 ez3 f4
  refine n_if2_lt c_58_12 (by omega) (by omega) ?_ ?_
  · intro h5
    refine n_fg (le_n (le_n (le_n le_0))) ?_
    exact (isAhead_3_c hS hi hj 14).1   (by omega)
  · intro h6
    refine n_aload_n c_58_15 rfl ?_
    refine n_getR c_58_16 sc_15.n rfl rfl rfl r_15_2 ?_
    refine n_iload_n c_58_19 rfl ?_
    refine n_ialoadV c_58_20 sc_21.n rfl rfl rfl (by omega) (t_21 hS (by omega)) ?_
    intro z7 ez7 f8
    refine n_aload_n c_58_21 rfl ?_
    refine n_getR c_58_22 sc_15.n rfl rfl rfl r_15_2 ?_
    refine n_iload_n c_58_25 rfl ?_
    refine n_ialoadV c_58_26 sc_21.n rfl rfl rfl (by omega) (t_21 hS (by omega)) ?_
    intro z9 ez9 f10
    refine n_if2_ne c_58_27 (by omega) (by omega) ?_ ?_
    · intro h11
      refine n_fg (le_n (le_n (le_n le_0))) ?_
      exact (isAhead_3_c hS hi hj 14).2   (by omega)
    · intro h12
      refine n_aload_n c_58_30 rfl ?_
      refine n_getR c_58_31 sc_15.n rfl rfl rfl r_15_1 ?_
      refine n_iload_n c_58_34 rfl ?_
      refine n_ialoadV c_58_35 sc_20.n rfl rfl rfl (by omega) (t_20 hS (by omega)) ?_
      intro z13 ez13 f14
      refine n_aload_n c_58_36 rfl ?_
      refine n_getR c_58_37 sc_15.n rfl rfl rfl r_15_1 ?_
      refine n_iload_n c_58_40 rfl ?_
      refine n_ialoadV c_58_41 sc_20.n rfl rfl rfl (by omega) (t_20 hS (by omega)) ?_
      intro z15 ez15 f16
      refine n_if2_ge c_58_42 (by omega) (by omega) ?_ ?_
      · intro h17
        refine n_fg (le_n (le_n (le_n le_0))) ?_
        exact (isAhead_3_c hS hi hj 14).2   (by omega)
      · intro h18
        refine n_fg (le_n (le_n (le_n le_0))) ?_
        exact (isAhead_3_c hS hi hj 14).1   (by omega)

set_option maxHeartbeats 4000000 in
theorem largestSize_3_c {xs : List Int32} {e : Nat} {ac : Int} {M0 M : nM} {f : Int} (hS : Sf 3 ac M0 M) (hf : 0 ≤ f ∧ f ≤ 256) : ∀ nn : Nat, (∀ (x2 x3 : Int), (0 ≤ x2 ∧ x2 ≤ 2147483647) → (0 ≤ x3 ∧ x3 ≤ 257) → (257 - x3) * 1 + 1 < (nn : Int) → nW xs (e + 1) 59 4 [some (2, 15), none, some (0, x2), some (0, x3)] [] M (nPI fun z M1 => M = M1 ∧ (-2147483648 ≤ z ∧ z ≤ 2147483647))) := by
  have hd : (3 : Int) = 2 ∨ (3 : Int) = 3 := by decide
  have hac := hS.2.2.2.2
  intro nn
  induction nn with
  | zero => intros; omega
  | succ nn ih =>
    intro x2 x3 k2 k3 hnn
    refine n_iload_n c_59_4 rfl ?_
    refine n_aload_n c_59_5 rfl ?_
    refine n_getV (bi := 10) c_59_6 sc_15.n rfl rfl rfl (t_15_10 hS) ?_
    intro z1 ez1 f2
    refine n_if2_ge c_59_9 (by omega) (by omega) ?_ ?_
    · intro h3
      refine n_iload_n c_59_29 rfl ?_
      exact n_rI c_59_30 rfl ⟨rfl, by omega⟩
    · intro h4
      refine n_iload_n c_59_12 rfl ?_
      refine n_aload_n c_59_13 rfl ?_
      refine n_getR c_59_14 sc_15.n rfl rfl rfl r_15_2 ?_
      refine n_iload_n c_59_17 rfl ?_
      refine n_ialoadV c_59_18 sc_21.n rfl rfl rfl (by omega) (t_21 hS (by omega)) ?_
      intro z5 ez5 f6
      refine n_s2I c_59_19 rfl rfl rfl rfl (imax_3 (x := x2) (y := z5) hS (by omega) (by omega)) ?_
      intro z7 M8 hP9
      obtain ⟨eM, f9, f9p0⟩ := hP9
      subst eM
      refine n_istore_n (L2 := [some (2, 15), none, some (0, z7), some (0, x3)]) c_59_22 rfl rfl ?_
      refine n_iinc (L2 := [some (2, 15), none, some (0, z7), some (0, (x3 + 1))]) c_59_23 rfl rfl rfl ?_
      refine n_goto c_59_26 ?_
      refine n_fg (le_s (le_n (le_s (le_s le_0)))) ?_
      exact ih _ _ (by omega) (by omega) (by omega)
set_option maxHeartbeats 4000000 in
theorem largestSize_3 {xs : List Int32} {e : Nat} {ac : Int} {M0 M : nM} {f : Int} (hS : Sf 3 ac M0 M) (hf : 0 ≤ f ∧ f ≤ 256) : nW xs (e + 1) 59 0 [some (2, 15), some (0, f), none, none] [] M (nPI fun z M1 => M = M1 ∧ (-2147483648 ≤ z ∧ z ≤ 2147483647)) := by
  have hd : (3 : Int) = 2 ∨ (3 : Int) = 3 := by decide
  have hac := hS.2.2.2.2
  refine n_iconst c_59_0 ?_
  refine n_istore_n (L2 := [some (2, 15), some (0, f), some (0, 0), none]) c_59_1 rfl rfl ?_
  refine n_iload_n c_59_2 rfl ?_
  refine n_istore_n (L2 := [some (2, 15), some (0, f), some (0, 0), some (0, f)]) c_59_3 rfl rfl ?_
  refine n_fg (le_s (le_n (le_s (le_s le_0)))) ?_
  exact (largestSize_3_c hS hf 528) _ _ (by omega) (by omega) (by omega)

set_option maxHeartbeats 4000000 in
theorem fillR25_3_c {xs : List Int32} {e : Nat} {ac : Int} {M0 M : nM} {Ms : nM} (hS : Sf 3 ac M0 M) (hf : ∀ a i : Int, a ≠ 26 → M a i = Ms a i) : ∀ nn : Nat, (∀ (x2 x3 : Int) (M : nM), Sf 3 ac M0 M → (0 ≤ x2 ∧ x2 ≤ 27) → (27 ≤ x3 ∧ x3 ≤ 27) → (∀ a i : Int, a ≠ 26 → M a i = Ms a i) → (∀ i : Int, 0 ≤ i → i < x2 → M 26 i = 0) → (27 - x2) * 1 + 1 < (nn : Int) → nW xs e 208 5 [some (2, 26), some (0, 0), some (0, x2), some (0, x3)] [] M (nPV fun M1 => Sf 3 ac M0 M1 ∧ (∀ a i : Int, a ≠ 26 → M1 a i = Ms a i) ∧ (∀ i : Int, 0 ≤ i → i < 27 → M1 26 i = 0))) := by
  have hd : (3 : Int) = 2 ∨ (3 : Int) = 3 := by decide
  have hac := hS.2.2.2.2
  intro nn
  induction nn with
  | zero => intros; omega
  | succ nn ih =>
    intro x2 x3 M hS k2 k3 v0 v1 hnn
    refine n_iload_n c_208_5 rfl ?_
    refine n_iload_n c_208_6 rfl ?_
    refine n_if2_ge c_208_7 (by omega) (by omega) ?_ ?_
    · intro h1
      exact n_rV c_208_20 rfl ⟨hS, by assumption, by exact fun i h0 h1 => v1 i h0 (by omega)⟩
    · intro h2
      refine n_aload_n c_208_10 rfl ?_
      refine n_iload_n c_208_11 rfl ?_
      refine n_iload_n c_208_12 rfl ?_
      refine n_iastoreV hS c_208_13 sc_26.n rfl (by omega) (w_26 (by omega) (by omega)) ?_
      intro M3 eM3 hS3
      refine n_iinc (L2 := [some (2, 26), some (0, 0), some (0, (x2 + 1)), some (0, x3)]) c_208_14 rfl rfl rfl ?_
      refine n_goto c_208_17 ?_
      refine n_fg (le_s (le_s (le_s (le_s le_0)))) ?_
      exact ih _ _ M3 hS3 (by omega) (by omega) (by exact fun a i ha => by rw [eM3, nu_a ha]; exact v0 a i ha) (by exact fun i h0 h1 => by rw [eM3, nu_e]; split <;> first | exact v1 i h0 (by omega) | rfl) (by omega)
set_option maxHeartbeats 4000000 in
theorem fillR25_3 {xs : List Int32} {e : Nat} {ac : Int} {M0 M : nM} {Ms : nM} (hS : Sf 3 ac M0 M) (hf : ∀ a i : Int, a ≠ 26 → M a i = Ms a i) : nW xs e 208 0 [some (2, 26), some (0, 0), none, none] [] M (nPV fun M1 => Sf 3 ac M0 M1 ∧ (∀ a i : Int, a ≠ 26 → M1 a i = Ms a i) ∧ (∀ i : Int, 0 ≤ i → i < 27 → M1 26 i = 0)) := by
  have hd : (3 : Int) = 2 ∨ (3 : Int) = 3 := by decide
  have hac := hS.2.2.2.2
  refine n_iconst c_208_0 ?_
  refine n_istore_n (L2 := [some (2, 26), some (0, 0), some (0, 0), none]) c_208_1 rfl rfl ?_
  refine n_aload_n c_208_2 rfl ?_
  refine n_alen c_208_3 sc_26.n rfl ?_
  refine n_istore_n (L2 := [some (2, 26), some (0, 0), some (0, 0), some (0, ((27 : Nat) : Int))]) c_208_4 rfl rfl ?_
  refine n_fg (le_s (le_s (le_s (le_s le_0)))) ?_
  exact (fillR25_3_c hS hf 68) _ _ M hS (by omega) (by omega) (by exact hf) (by exact fun i h0 h1 => by omega) (by omega)

set_option maxHeartbeats 4000000 in
theorem fillR27_3_c {xs : List Int32} {e : Nat} {ac : Int} {M0 M : nM} {Ms : nM} (hS : Sf 3 ac M0 M) (hf : ∀ a i : Int, a ≠ 28 → M a i = Ms a i) : ∀ nn : Nat, (∀ (x2 x3 : Int) (M : nM), Sf 3 ac M0 M → (0 ≤ x2 ∧ x2 ≤ 27) → (27 ≤ x3 ∧ x3 ≤ 27) → (∀ a i : Int, a ≠ 28 → M a i = Ms a i) → (∀ i : Int, 0 ≤ i → i < x2 → M 28 i = 0) → (27 - x2) * 1 + 1 < (nn : Int) → nW xs e 208 5 [some (2, 28), some (0, 0), some (0, x2), some (0, x3)] [] M (nPV fun M1 => Sf 3 ac M0 M1 ∧ (∀ a i : Int, a ≠ 28 → M1 a i = Ms a i) ∧ (∀ i : Int, 0 ≤ i → i < 27 → M1 28 i = 0))) := by
  have hd : (3 : Int) = 2 ∨ (3 : Int) = 3 := by decide
  have hac := hS.2.2.2.2
  intro nn
  induction nn with
  | zero => intros; omega
  | succ nn ih =>
    intro x2 x3 M hS k2 k3 v0 v1 hnn
    refine n_iload_n c_208_5 rfl ?_
    refine n_iload_n c_208_6 rfl ?_
    refine n_if2_ge c_208_7 (by omega) (by omega) ?_ ?_
    · intro h1
      exact n_rV c_208_20 rfl ⟨hS, by assumption, by exact fun i h0 h1 => v1 i h0 (by omega)⟩
    · intro h2
      refine n_aload_n c_208_10 rfl ?_
      refine n_iload_n c_208_11 rfl ?_
      refine n_iload_n c_208_12 rfl ?_
      refine n_iastoreV hS c_208_13 sc_28.n rfl (by omega) (w_28 (by omega) (by omega)) ?_
      intro M3 eM3 hS3
      refine n_iinc (L2 := [some (2, 28), some (0, 0), some (0, (x2 + 1)), some (0, x3)]) c_208_14 rfl rfl rfl ?_
      refine n_goto c_208_17 ?_
      refine n_fg (le_s (le_s (le_s (le_s le_0)))) ?_
      exact ih _ _ M3 hS3 (by omega) (by omega) (by exact fun a i ha => by rw [eM3, nu_a ha]; exact v0 a i ha) (by exact fun i h0 h1 => by rw [eM3, nu_e]; split <;> first | exact v1 i h0 (by omega) | rfl) (by omega)
set_option maxHeartbeats 4000000 in
theorem fillR27_3 {xs : List Int32} {e : Nat} {ac : Int} {M0 M : nM} {Ms : nM} (hS : Sf 3 ac M0 M) (hf : ∀ a i : Int, a ≠ 28 → M a i = Ms a i) : nW xs e 208 0 [some (2, 28), some (0, 0), none, none] [] M (nPV fun M1 => Sf 3 ac M0 M1 ∧ (∀ a i : Int, a ≠ 28 → M1 a i = Ms a i) ∧ (∀ i : Int, 0 ≤ i → i < 27 → M1 28 i = 0)) := by
  have hd : (3 : Int) = 2 ∨ (3 : Int) = 3 := by decide
  have hac := hS.2.2.2.2
  refine n_iconst c_208_0 ?_
  refine n_istore_n (L2 := [some (2, 28), some (0, 0), some (0, 0), none]) c_208_1 rfl rfl ?_
  refine n_aload_n c_208_2 rfl ?_
  refine n_alen c_208_3 sc_28.n rfl ?_
  refine n_istore_n (L2 := [some (2, 28), some (0, 0), some (0, 0), some (0, ((27 : Nat) : Int))]) c_208_4 rfl rfl ?_
  refine n_fg (le_s (le_s (le_s (le_s le_0)))) ?_
  exact (fillR27_3_c hS hf 68) _ _ M hS (by omega) (by omega) (by exact hf) (by exact fun i h0 h1 => by omega) (by omega)

set_option maxHeartbeats 4000000 in
theorem fillR29_3_c {xs : List Int32} {e : Nat} {ac : Int} {M0 M : nM} {Ms : nM} (hS : Sf 3 ac M0 M) (hf : ∀ a i : Int, a ≠ 30 → M a i = Ms a i) : ∀ nn : Nat, (∀ (x2 x3 : Int) (M : nM), Sf 3 ac M0 M → (0 ≤ x2 ∧ x2 ≤ 27) → (27 ≤ x3 ∧ x3 ≤ 27) → (∀ a i : Int, a ≠ 30 → M a i = Ms a i) → (∀ i : Int, 0 ≤ i → i < x2 → M 30 i = 0) → (27 - x2) * 1 + 1 < (nn : Int) → nW xs e 208 5 [some (2, 30), some (0, 0), some (0, x2), some (0, x3)] [] M (nPV fun M1 => Sf 3 ac M0 M1 ∧ (∀ a i : Int, a ≠ 30 → M1 a i = Ms a i) ∧ (∀ i : Int, 0 ≤ i → i < 27 → M1 30 i = 0))) := by
  have hd : (3 : Int) = 2 ∨ (3 : Int) = 3 := by decide
  have hac := hS.2.2.2.2
  intro nn
  induction nn with
  | zero => intros; omega
  | succ nn ih =>
    intro x2 x3 M hS k2 k3 v0 v1 hnn
    refine n_iload_n c_208_5 rfl ?_
    refine n_iload_n c_208_6 rfl ?_
    refine n_if2_ge c_208_7 (by omega) (by omega) ?_ ?_
    · intro h1
      exact n_rV c_208_20 rfl ⟨hS, by assumption, by exact fun i h0 h1 => v1 i h0 (by omega)⟩
    · intro h2
      refine n_aload_n c_208_10 rfl ?_
      refine n_iload_n c_208_11 rfl ?_
      refine n_iload_n c_208_12 rfl ?_
      refine n_iastoreV hS c_208_13 sc_30.n rfl (by omega) (w_30 (by omega) (by omega)) ?_
      intro M3 eM3 hS3
      refine n_iinc (L2 := [some (2, 30), some (0, 0), some (0, (x2 + 1)), some (0, x3)]) c_208_14 rfl rfl rfl ?_
      refine n_goto c_208_17 ?_
      refine n_fg (le_s (le_s (le_s (le_s le_0)))) ?_
      exact ih _ _ M3 hS3 (by omega) (by omega) (by exact fun a i ha => by rw [eM3, nu_a ha]; exact v0 a i ha) (by exact fun i h0 h1 => by rw [eM3, nu_e]; split <;> first | exact v1 i h0 (by omega) | rfl) (by omega)
set_option maxHeartbeats 4000000 in
theorem fillR29_3 {xs : List Int32} {e : Nat} {ac : Int} {M0 M : nM} {Ms : nM} (hS : Sf 3 ac M0 M) (hf : ∀ a i : Int, a ≠ 30 → M a i = Ms a i) : nW xs e 208 0 [some (2, 30), some (0, 0), none, none] [] M (nPV fun M1 => Sf 3 ac M0 M1 ∧ (∀ a i : Int, a ≠ 30 → M1 a i = Ms a i) ∧ (∀ i : Int, 0 ≤ i → i < 27 → M1 30 i = 0)) := by
  have hd : (3 : Int) = 2 ∨ (3 : Int) = 3 := by decide
  have hac := hS.2.2.2.2
  refine n_iconst c_208_0 ?_
  refine n_istore_n (L2 := [some (2, 30), some (0, 0), some (0, 0), none]) c_208_1 rfl rfl ?_
  refine n_aload_n c_208_2 rfl ?_
  refine n_alen c_208_3 sc_30.n rfl ?_
  refine n_istore_n (L2 := [some (2, 30), some (0, 0), some (0, 0), some (0, ((27 : Nat) : Int))]) c_208_4 rfl rfl ?_
  refine n_fg (le_s (le_s (le_s (le_s le_0)))) ?_
  exact (fillR29_3_c hS hf 68) _ _ M hS (by omega) (by omega) (by exact hf) (by exact fun i h0 h1 => by omega) (by omega)

set_option maxHeartbeats 4000000 in
theorem weight0_1_3 {xs : List Int32} {e : Nat} {ac : Int} {M0 M : nM} (hS : Sf 3 ac M0 M) (hB : M 15 0 = 4) : nW xs (e + 1) 52 0 [some (2, 15), some (0, 0), some (0, 3)] [] M (nPI fun z M1 => M = M1 ∧ (1 ≤ z ∧ z ≤ 1)) := by
  have hd : (3 : Int) = 2 ∨ (3 : Int) = 3 := by decide
  have hac := hS.2.2.2.2
  refine n_iload_n c_52_0 rfl ?_
  refine n_iload_n c_52_1 rfl ?_
  refine n_if2_ge c_52_2 (by omega) (by omega) ?_ ?_
  · intro h1
    exfalso; omega
  · intro h2
    refine n_aload_n c_52_5 rfl ?_
    refine n_getB c_52_6 hB ?_
    refine n_iload_n c_52_9 rfl ?_
    refine n_v1I c_52_10 rfl sc_4.n rfl rfl rfl rfl (power0_3  hS ) ?_
    intro z3 M4 hP5
    obtain ⟨eM, f5⟩ := hP5
    subst eM
    obtain rfl : z3 = 1 := by omega
    refine n_goto c_52_13 ?_
    exact n_rI c_52_17 rfl ⟨rfl, by omega⟩

set_option maxHeartbeats 4000000 in
theorem weight1_1_3 {xs : List Int32} {e : Nat} {ac : Int} {M0 M : nM} (hS : Sf 3 ac M0 M) (hB : M 15 0 = 4) : nW xs (e + 1) 52 0 [some (2, 15), some (0, 1), some (0, 3)] [] M (nPI fun z M1 => M = M1 ∧ (3 ≤ z ∧ z ≤ 3)) := by
  have hd : (3 : Int) = 2 ∨ (3 : Int) = 3 := by decide
  have hac := hS.2.2.2.2
  refine n_iload_n c_52_0 rfl ?_
  refine n_iload_n c_52_1 rfl ?_
  refine n_if2_ge c_52_2 (by omega) (by omega) ?_ ?_
  · intro h1
    exfalso; omega
  · intro h2
    refine n_aload_n c_52_5 rfl ?_
    refine n_getB c_52_6 hB ?_
    refine n_iload_n c_52_9 rfl ?_
    refine n_v1I c_52_10 rfl sc_4.n rfl rfl rfl rfl (power1_3  hS ) ?_
    intro z3 M4 hP5
    obtain ⟨eM, f5⟩ := hP5
    subst eM
    obtain rfl : z3 = 3 := by omega
    refine n_goto c_52_13 ?_
    exact n_rI c_52_17 rfl ⟨rfl, by omega⟩

set_option maxHeartbeats 4000000 in
theorem weight2_1_3 {xs : List Int32} {e : Nat} {ac : Int} {M0 M : nM} (hS : Sf 3 ac M0 M) (hB : M 15 0 = 4) : nW xs (e + 1) 52 0 [some (2, 15), some (0, 2), some (0, 3)] [] M (nPI fun z M1 => M = M1 ∧ (9 ≤ z ∧ z ≤ 9)) := by
  have hd : (3 : Int) = 2 ∨ (3 : Int) = 3 := by decide
  have hac := hS.2.2.2.2
  refine n_iload_n c_52_0 rfl ?_
  refine n_iload_n c_52_1 rfl ?_
  refine n_if2_ge c_52_2 (by omega) (by omega) ?_ ?_
  · intro h1
    exfalso; omega
  · intro h2
    refine n_aload_n c_52_5 rfl ?_
    refine n_getB c_52_6 hB ?_
    refine n_iload_n c_52_9 rfl ?_
    refine n_v1I c_52_10 rfl sc_4.n rfl rfl rfl rfl (power2_3  hS ) ?_
    intro z3 M4 hP5
    obtain ⟨eM, f5⟩ := hP5
    subst eM
    obtain rfl : z3 = 9 := by omega
    refine n_goto c_52_13 ?_
    exact n_rI c_52_17 rfl ⟨rfl, by omega⟩

set_option maxHeartbeats 4000000 in
theorem weight3_1_3 {xs : List Int32} {e : Nat} {ac : Int} {M0 M : nM} (hS : Sf 3 ac M0 M) (hB : M 15 0 = 4) : nW xs (e + 1) 52 0 [some (2, 15), some (0, 3), some (0, 3)] [] M (nPI fun z M1 => M = M1 ∧ (0 ≤ z ∧ z ≤ 0)) := by
  have hd : (3 : Int) = 2 ∨ (3 : Int) = 3 := by decide
  have hac := hS.2.2.2.2
  refine n_iload_n c_52_0 rfl ?_
  refine n_iload_n c_52_1 rfl ?_
  refine n_if2_ge c_52_2 (by omega) (by omega) ?_ ?_
  · intro h1
    refine n_iconst c_52_16 ?_
    exact n_rI c_52_17 rfl ⟨rfl, by omega⟩
  · intro h2
    exfalso; omega

set_option maxHeartbeats 4000000 in
theorem weight4_1_3 {xs : List Int32} {e : Nat} {ac : Int} {M0 M : nM} (hS : Sf 3 ac M0 M) (hB : M 15 0 = 4) : nW xs (e + 1) 52 0 [some (2, 15), some (0, 4), some (0, 3)] [] M (nPI fun z M1 => M = M1 ∧ (0 ≤ z ∧ z ≤ 0)) := by
  have hd : (3 : Int) = 2 ∨ (3 : Int) = 3 := by decide
  have hac := hS.2.2.2.2
  refine n_iload_n c_52_0 rfl ?_
  refine n_iload_n c_52_1 rfl ?_
  refine n_if2_ge c_52_2 (by omega) (by omega) ?_ ?_
  · intro h1
    refine n_iconst c_52_16 ?_
    exact n_rI c_52_17 rfl ⟨rfl, by omega⟩
  · intro h2
    exfalso; omega

set_option maxHeartbeats 4000000 in
theorem weight5_1_3 {xs : List Int32} {e : Nat} {ac : Int} {M0 M : nM} (hS : Sf 3 ac M0 M) (hB : M 15 0 = 4) : nW xs (e + 1) 52 0 [some (2, 15), some (0, 5), some (0, 3)] [] M (nPI fun z M1 => M = M1 ∧ (0 ≤ z ∧ z ≤ 0)) := by
  have hd : (3 : Int) = 2 ∨ (3 : Int) = 3 := by decide
  have hac := hS.2.2.2.2
  refine n_iload_n c_52_0 rfl ?_
  refine n_iload_n c_52_1 rfl ?_
  refine n_if2_ge c_52_2 (by omega) (by omega) ?_ ?_
  · intro h1
    refine n_iconst c_52_16 ?_
    exact n_rI c_52_17 rfl ⟨rfl, by omega⟩
  · intro h2
    exfalso; omega

set_option maxHeartbeats 4000000 in
theorem weight6_1_3 {xs : List Int32} {e : Nat} {ac : Int} {M0 M : nM} (hS : Sf 3 ac M0 M) (hB : M 15 0 = 4) : nW xs (e + 1) 52 0 [some (2, 15), some (0, 6), some (0, 3)] [] M (nPI fun z M1 => M = M1 ∧ (0 ≤ z ∧ z ≤ 0)) := by
  have hd : (3 : Int) = 2 ∨ (3 : Int) = 3 := by decide
  have hac := hS.2.2.2.2
  refine n_iload_n c_52_0 rfl ?_
  refine n_iload_n c_52_1 rfl ?_
  refine n_if2_ge c_52_2 (by omega) (by omega) ?_ ?_
  · intro h1
    refine n_iconst c_52_16 ?_
    exact n_rI c_52_17 rfl ⟨rfl, by omega⟩
  · intro h2
    exfalso; omega

set_option maxHeartbeats 4000000 in
theorem weight7_1_3 {xs : List Int32} {e : Nat} {ac : Int} {M0 M : nM} (hS : Sf 3 ac M0 M) (hB : M 15 0 = 4) : nW xs (e + 1) 52 0 [some (2, 15), some (0, 7), some (0, 3)] [] M (nPI fun z M1 => M = M1 ∧ (0 ≤ z ∧ z ≤ 0)) := by
  have hd : (3 : Int) = 2 ∨ (3 : Int) = 3 := by decide
  have hac := hS.2.2.2.2
  refine n_iload_n c_52_0 rfl ?_
  refine n_iload_n c_52_1 rfl ?_
  refine n_if2_ge c_52_2 (by omega) (by omega) ?_ ?_
  · intro h1
    refine n_iconst c_52_16 ?_
    exact n_rI c_52_17 rfl ⟨rfl, by omega⟩
  · intro h2
    exfalso; omega

set_option maxHeartbeats 4000000 in
theorem weight8_1_3 {xs : List Int32} {e : Nat} {ac : Int} {M0 M : nM} (hS : Sf 3 ac M0 M) (hB : M 15 0 = 4) : nW xs (e + 1) 52 0 [some (2, 15), some (0, 8), some (0, 3)] [] M (nPI fun z M1 => M = M1 ∧ (0 ≤ z ∧ z ≤ 0)) := by
  have hd : (3 : Int) = 2 ∨ (3 : Int) = 3 := by decide
  have hac := hS.2.2.2.2
  refine n_iload_n c_52_0 rfl ?_
  refine n_iload_n c_52_1 rfl ?_
  refine n_if2_ge c_52_2 (by omega) (by omega) ?_ ?_
  · intro h1
    refine n_iconst c_52_16 ?_
    exact n_rI c_52_17 rfl ⟨rfl, by omega⟩
  · intro h2
    exfalso; omega

set_option maxHeartbeats 4000000 in
theorem weigh25_1_3 {xs : List Int32} {e : Nat} {ac : Int} {M0 M : nM} {Ms : nM} (hS : Sf 3 ac M0 M) (hf : ∀ a i : Int, a ≠ 25 → a ≠ 26 → M a i = Ms a i) : nW xs (e + 1) 44 0 [some (2, 25), some (0, 1), some (0, 3), some (0, 9)] [] M (nPV fun M1 => Sf 3 ac M0 M1 ∧ (∀ a i : Int, a ≠ 25 → a ≠ 26 → M1 a i = Ms a i) ∧ (LK 25 26 1 3 9 M1)) := by
  have hd : (3 : Int) = 2 ∨ (3 : Int) = 3 := by decide
  have hac := hS.2.2.2.2
  refine n_aload_n c_44_0 rfl ?_
  refine n_iload_n c_44_1 rfl ?_
  refine n_putV (bi := 1) hS c_44_2 sc_25.n rfl rfl rfl rfl (w_25_1 (by omega)) ?_
  intro M1 eM1 hS1
  have g1_0 : M1 25 1 = 1 := by rw [eM1]; exact nu_s _ _ _ _
  refine n_aload_n c_44_5 rfl ?_
  refine n_iload_n c_44_6 rfl ?_
  refine n_putV (bi := 2) hS1 c_44_7 sc_25.n rfl rfl rfl rfl (w_25_2 (by omega)) ?_
  intro M2 eM2 hS2
  have g2_0 : M2 25 1 = M1 25 1 := by rw [eM2]; exact nu_i (by omega)
  have g2_1 : M2 25 2 = 3 := by rw [eM2]; exact nu_s _ _ _ _
  refine n_aload_n c_44_10 rfl ?_
  refine n_iload_n c_44_11 rfl ?_
  refine n_putV (bi := 3) hS2 c_44_12 sc_25.n rfl rfl rfl rfl (w_25_3 (by omega)) ?_
  intro M3 eM3 hS3
  have g3_0 : M3 25 1 = M2 25 1 := by rw [eM3]; exact nu_i (by omega)
  have g3_1 : M3 25 2 = M2 25 2 := by rw [eM3]; exact nu_i (by omega)
  have g3_2 : M3 25 3 = 9 := by rw [eM3]; exact nu_s _ _ _ _
  refine n_aload_n c_44_15 rfl ?_
  refine n_getR c_44_16 sc_25.n rfl rfl rfl r_25_0 ?_
  refine n_iconst c_44_19 ?_
  refine n_s2V c_44_20 rfl rfl rfl rfl (fillR25_3 (Ms := M3) hS3 (by exact fun _ _ _ => rfl)) ?_
  intro  M4 hP5
  obtain ⟨hS4, f5p0, f5p1⟩ := hP5
  exact n_rV c_44_23 rfl ⟨hS4, by exact fun a i h1 h2 => by rw [f5p0 a i h2]; simp only [eM3, eM2, eM1]; rw [nu_a h1, nu_a h1, nu_a h1]; exact hf a i h1 h2, by exact ⟨(by rw [f5p0 25 1 (by omega)]; simp only [eM3, eM2, eM1]; rw [nu_i (by omega), nu_i (by omega), nu_s]), (by rw [f5p0 25 2 (by omega)]; simp only [eM3, eM2, eM1]; rw [nu_i (by omega), nu_s]), (by rw [f5p0 25 3 (by omega)]; simp only [eM3, eM2, eM1]; rw [nu_s]), f5p1⟩⟩

set_option maxHeartbeats 4000000 in
theorem weighFrom25_1_3 {xs : List Int32} {e : Nat} {ac : Int} {M0 M : nM} {Ms : nM} (hS : Sf 3 ac M0 M) (hB : M 15 0 = 4) : nW xs (e + 2) 51 0 [some (2, 15), some (2, 25), some (0, 0), some (0, 3)] [] M (nPV fun M1 => Sf 3 ac M0 M1 ∧ (∀ a i : Int, a ≠ 25 → a ≠ 26 → M1 a i = M a i) ∧ (LK 25 26 1 3 9 M1)) := by
  have hd : (3 : Int) = 2 ∨ (3 : Int) = 3 := by decide
  have hac := hS.2.2.2.2
  refine n_aload_n c_51_0 rfl ?_
  refine n_aload_n c_51_1 rfl ?_
  refine n_iload_n c_51_2 rfl ?_
  refine n_iload_n c_51_3 rfl ?_
  refine n_v2I c_51_4 rfl sc_15.n rfl rfl rfl rfl (weight0_1_3  hS (by exact hB)) ?_
  intro z1 M2 hP3
  obtain ⟨eM, f3⟩ := hP3
  subst eM
  obtain rfl : z1 = 1 := by omega
  refine n_aload_n c_51_7 rfl ?_
  refine n_iload_n c_51_8 rfl ?_
  refine n_iconst c_51_9 ?_
  refine n_iadd c_51_10 rfl ?_
  refine n_iload_n c_51_11 rfl ?_
  have hcst : ((0 + 1) : Int) = 1 := by omega
  rw [hcst]
  refine n_v2I c_51_12 rfl sc_15.n rfl rfl rfl rfl (weight1_1_3  hS (by exact hB)) ?_
  intro z4 M5 hP6
  obtain ⟨eM, f6⟩ := hP6
  subst eM
  obtain rfl : z4 = 3 := by omega
  refine n_aload_n c_51_15 rfl ?_
  refine n_iload_n c_51_16 rfl ?_
  refine n_iconst c_51_17 ?_
  refine n_iadd c_51_18 rfl ?_
  refine n_iload_n c_51_19 rfl ?_
  have hcst : ((0 + 2) : Int) = 2 := by omega
  rw [hcst]
  refine n_v2I c_51_20 rfl sc_15.n rfl rfl rfl rfl (weight2_1_3  hS (by exact hB)) ?_
  intro z7 M8 hP9
  obtain ⟨eM, f9⟩ := hP9
  subst eM
  obtain rfl : z7 = 9 := by omega
  refine n_v3V c_51_23 rfl sc_25.n rfl rfl rfl rfl (weigh25_1_3 (Ms := M) hS (by exact fun _ _ _ _ => rfl)) ?_
  intro  M10 hP11
  obtain ⟨hS10, f11p0, f11p1⟩ := hP11
  exact n_rV c_51_26 rfl ⟨hS10, by exact f11p0, by exact f11p1⟩

set_option maxHeartbeats 4000000 in
theorem weigh27_1_3 {xs : List Int32} {e : Nat} {ac : Int} {M0 M : nM} {Ms : nM} (hS : Sf 3 ac M0 M) (hf : ∀ a i : Int, a ≠ 27 → a ≠ 28 → M a i = Ms a i) : nW xs (e + 1) 44 0 [some (2, 27), some (0, 0), some (0, 0), some (0, 0)] [] M (nPV fun M1 => Sf 3 ac M0 M1 ∧ (∀ a i : Int, a ≠ 27 → a ≠ 28 → M1 a i = Ms a i) ∧ (LK 27 28 0 0 0 M1)) := by
  have hd : (3 : Int) = 2 ∨ (3 : Int) = 3 := by decide
  have hac := hS.2.2.2.2
  refine n_aload_n c_44_0 rfl ?_
  refine n_iload_n c_44_1 rfl ?_
  refine n_putV (bi := 1) hS c_44_2 sc_27.n rfl rfl rfl rfl (w_27_1 (by omega)) ?_
  intro M1 eM1 hS1
  have g1_0 : M1 27 1 = 0 := by rw [eM1]; exact nu_s _ _ _ _
  refine n_aload_n c_44_5 rfl ?_
  refine n_iload_n c_44_6 rfl ?_
  refine n_putV (bi := 2) hS1 c_44_7 sc_27.n rfl rfl rfl rfl (w_27_2 (by omega)) ?_
  intro M2 eM2 hS2
  have g2_0 : M2 27 1 = M1 27 1 := by rw [eM2]; exact nu_i (by omega)
  have g2_1 : M2 27 2 = 0 := by rw [eM2]; exact nu_s _ _ _ _
  refine n_aload_n c_44_10 rfl ?_
  refine n_iload_n c_44_11 rfl ?_
  refine n_putV (bi := 3) hS2 c_44_12 sc_27.n rfl rfl rfl rfl (w_27_3 (by omega)) ?_
  intro M3 eM3 hS3
  have g3_0 : M3 27 1 = M2 27 1 := by rw [eM3]; exact nu_i (by omega)
  have g3_1 : M3 27 2 = M2 27 2 := by rw [eM3]; exact nu_i (by omega)
  have g3_2 : M3 27 3 = 0 := by rw [eM3]; exact nu_s _ _ _ _
  refine n_aload_n c_44_15 rfl ?_
  refine n_getR c_44_16 sc_27.n rfl rfl rfl r_27_0 ?_
  refine n_iconst c_44_19 ?_
  refine n_s2V c_44_20 rfl rfl rfl rfl (fillR27_3 (Ms := M3) hS3 (by exact fun _ _ _ => rfl)) ?_
  intro  M4 hP5
  obtain ⟨hS4, f5p0, f5p1⟩ := hP5
  exact n_rV c_44_23 rfl ⟨hS4, by exact fun a i h1 h2 => by rw [f5p0 a i h2]; simp only [eM3, eM2, eM1]; rw [nu_a h1, nu_a h1, nu_a h1]; exact hf a i h1 h2, by exact ⟨(by rw [f5p0 27 1 (by omega)]; simp only [eM3, eM2, eM1]; rw [nu_i (by omega), nu_i (by omega), nu_s]), (by rw [f5p0 27 2 (by omega)]; simp only [eM3, eM2, eM1]; rw [nu_i (by omega), nu_s]), (by rw [f5p0 27 3 (by omega)]; simp only [eM3, eM2, eM1]; rw [nu_s]), f5p1⟩⟩

set_option maxHeartbeats 4000000 in
theorem weighFrom27_1_3 {xs : List Int32} {e : Nat} {ac : Int} {M0 M : nM} {Ms : nM} (hS : Sf 3 ac M0 M) (hB : M 15 0 = 4) : nW xs (e + 2) 51 0 [some (2, 15), some (2, 27), some (0, 3), some (0, 3)] [] M (nPV fun M1 => Sf 3 ac M0 M1 ∧ (∀ a i : Int, a ≠ 27 → a ≠ 28 → M1 a i = M a i) ∧ (LK 27 28 0 0 0 M1)) := by
  have hd : (3 : Int) = 2 ∨ (3 : Int) = 3 := by decide
  have hac := hS.2.2.2.2
  refine n_aload_n c_51_0 rfl ?_
  refine n_aload_n c_51_1 rfl ?_
  refine n_iload_n c_51_2 rfl ?_
  refine n_iload_n c_51_3 rfl ?_
  refine n_v2I c_51_4 rfl sc_15.n rfl rfl rfl rfl (weight3_1_3  hS (by exact hB)) ?_
  intro z1 M2 hP3
  obtain ⟨eM, f3⟩ := hP3
  subst eM
  obtain rfl : z1 = 0 := by omega
  refine n_aload_n c_51_7 rfl ?_
  refine n_iload_n c_51_8 rfl ?_
  refine n_iconst c_51_9 ?_
  refine n_iadd c_51_10 rfl ?_
  refine n_iload_n c_51_11 rfl ?_
  have hcst : ((3 + 1) : Int) = 4 := by omega
  rw [hcst]
  refine n_v2I c_51_12 rfl sc_15.n rfl rfl rfl rfl (weight4_1_3  hS (by exact hB)) ?_
  intro z4 M5 hP6
  obtain ⟨eM, f6⟩ := hP6
  subst eM
  obtain rfl : z4 = 0 := by omega
  refine n_aload_n c_51_15 rfl ?_
  refine n_iload_n c_51_16 rfl ?_
  refine n_iconst c_51_17 ?_
  refine n_iadd c_51_18 rfl ?_
  refine n_iload_n c_51_19 rfl ?_
  have hcst : ((3 + 2) : Int) = 5 := by omega
  rw [hcst]
  refine n_v2I c_51_20 rfl sc_15.n rfl rfl rfl rfl (weight5_1_3  hS (by exact hB)) ?_
  intro z7 M8 hP9
  obtain ⟨eM, f9⟩ := hP9
  subst eM
  obtain rfl : z7 = 0 := by omega
  refine n_v3V c_51_23 rfl sc_27.n rfl rfl rfl rfl (weigh27_1_3 (Ms := M) hS (by exact fun _ _ _ _ => rfl)) ?_
  intro  M10 hP11
  obtain ⟨hS10, f11p0, f11p1⟩ := hP11
  exact n_rV c_51_26 rfl ⟨hS10, by exact f11p0, by exact f11p1⟩

set_option maxHeartbeats 4000000 in
theorem weigh29_1_3 {xs : List Int32} {e : Nat} {ac : Int} {M0 M : nM} {Ms : nM} (hS : Sf 3 ac M0 M) (hf : ∀ a i : Int, a ≠ 29 → a ≠ 30 → M a i = Ms a i) : nW xs (e + 1) 44 0 [some (2, 29), some (0, 0), some (0, 0), some (0, 0)] [] M (nPV fun M1 => Sf 3 ac M0 M1 ∧ (∀ a i : Int, a ≠ 29 → a ≠ 30 → M1 a i = Ms a i) ∧ (LK 29 30 0 0 0 M1)) := by
  have hd : (3 : Int) = 2 ∨ (3 : Int) = 3 := by decide
  have hac := hS.2.2.2.2
  refine n_aload_n c_44_0 rfl ?_
  refine n_iload_n c_44_1 rfl ?_
  refine n_putV (bi := 1) hS c_44_2 sc_29.n rfl rfl rfl rfl (w_29_1 (by omega)) ?_
  intro M1 eM1 hS1
  have g1_0 : M1 29 1 = 0 := by rw [eM1]; exact nu_s _ _ _ _
  refine n_aload_n c_44_5 rfl ?_
  refine n_iload_n c_44_6 rfl ?_
  refine n_putV (bi := 2) hS1 c_44_7 sc_29.n rfl rfl rfl rfl (w_29_2 (by omega)) ?_
  intro M2 eM2 hS2
  have g2_0 : M2 29 1 = M1 29 1 := by rw [eM2]; exact nu_i (by omega)
  have g2_1 : M2 29 2 = 0 := by rw [eM2]; exact nu_s _ _ _ _
  refine n_aload_n c_44_10 rfl ?_
  refine n_iload_n c_44_11 rfl ?_
  refine n_putV (bi := 3) hS2 c_44_12 sc_29.n rfl rfl rfl rfl (w_29_3 (by omega)) ?_
  intro M3 eM3 hS3
  have g3_0 : M3 29 1 = M2 29 1 := by rw [eM3]; exact nu_i (by omega)
  have g3_1 : M3 29 2 = M2 29 2 := by rw [eM3]; exact nu_i (by omega)
  have g3_2 : M3 29 3 = 0 := by rw [eM3]; exact nu_s _ _ _ _
  refine n_aload_n c_44_15 rfl ?_
  refine n_getR c_44_16 sc_29.n rfl rfl rfl r_29_0 ?_
  refine n_iconst c_44_19 ?_
  refine n_s2V c_44_20 rfl rfl rfl rfl (fillR29_3 (Ms := M3) hS3 (by exact fun _ _ _ => rfl)) ?_
  intro  M4 hP5
  obtain ⟨hS4, f5p0, f5p1⟩ := hP5
  exact n_rV c_44_23 rfl ⟨hS4, by exact fun a i h1 h2 => by rw [f5p0 a i h2]; simp only [eM3, eM2, eM1]; rw [nu_a h1, nu_a h1, nu_a h1]; exact hf a i h1 h2, by exact ⟨(by rw [f5p0 29 1 (by omega)]; simp only [eM3, eM2, eM1]; rw [nu_i (by omega), nu_i (by omega), nu_s]), (by rw [f5p0 29 2 (by omega)]; simp only [eM3, eM2, eM1]; rw [nu_i (by omega), nu_s]), (by rw [f5p0 29 3 (by omega)]; simp only [eM3, eM2, eM1]; rw [nu_s]), f5p1⟩⟩

set_option maxHeartbeats 4000000 in
theorem weighFrom29_1_3 {xs : List Int32} {e : Nat} {ac : Int} {M0 M : nM} {Ms : nM} (hS : Sf 3 ac M0 M) (hB : M 15 0 = 4) : nW xs (e + 2) 51 0 [some (2, 15), some (2, 29), some (0, 6), some (0, 3)] [] M (nPV fun M1 => Sf 3 ac M0 M1 ∧ (∀ a i : Int, a ≠ 29 → a ≠ 30 → M1 a i = M a i) ∧ (LK 29 30 0 0 0 M1)) := by
  have hd : (3 : Int) = 2 ∨ (3 : Int) = 3 := by decide
  have hac := hS.2.2.2.2
  refine n_aload_n c_51_0 rfl ?_
  refine n_aload_n c_51_1 rfl ?_
  refine n_iload_n c_51_2 rfl ?_
  refine n_iload_n c_51_3 rfl ?_
  refine n_v2I c_51_4 rfl sc_15.n rfl rfl rfl rfl (weight6_1_3  hS (by exact hB)) ?_
  intro z1 M2 hP3
  obtain ⟨eM, f3⟩ := hP3
  subst eM
  obtain rfl : z1 = 0 := by omega
  refine n_aload_n c_51_7 rfl ?_
  refine n_iload_n c_51_8 rfl ?_
  refine n_iconst c_51_9 ?_
  refine n_iadd c_51_10 rfl ?_
  refine n_iload_n c_51_11 rfl ?_
  have hcst : ((6 + 1) : Int) = 7 := by omega
  rw [hcst]
  refine n_v2I c_51_12 rfl sc_15.n rfl rfl rfl rfl (weight7_1_3  hS (by exact hB)) ?_
  intro z4 M5 hP6
  obtain ⟨eM, f6⟩ := hP6
  subst eM
  obtain rfl : z4 = 0 := by omega
  refine n_aload_n c_51_15 rfl ?_
  refine n_iload_n c_51_16 rfl ?_
  refine n_iconst c_51_17 ?_
  refine n_iadd c_51_18 rfl ?_
  refine n_iload_n c_51_19 rfl ?_
  have hcst : ((6 + 2) : Int) = 8 := by omega
  rw [hcst]
  refine n_v2I c_51_20 rfl sc_15.n rfl rfl rfl rfl (weight8_1_3  hS (by exact hB)) ?_
  intro z7 M8 hP9
  obtain ⟨eM, f9⟩ := hP9
  subst eM
  obtain rfl : z7 = 0 := by omega
  refine n_v3V c_51_23 rfl sc_29.n rfl rfl rfl rfl (weigh29_1_3 (Ms := M) hS (by exact fun _ _ _ _ => rfl)) ?_
  intro  M10 hP11
  obtain ⟨hS10, f11p0, f11p1⟩ := hP11
  exact n_rV c_51_26 rfl ⟨hS10, by exact f11p0, by exact f11p1⟩

set_option maxHeartbeats 4000000 in
theorem codeOf5_1_3 {xs : List Int32} {e : Nat} {ac : Int} {M0 M : nM} (hS : Sf 3 ac M0 M) (hB : M 15 0 = 4) : nW xs e 53 0 [some (2, 15), some (2, 5), some (0, 3), none, none] [] M (nPI fun z M1 => M = M1 ∧ (0 ≤ z ∧ z ≤ 26)) := by
  have hd : (3 : Int) = 2 ∨ (3 : Int) = 3 := by decide
  have hac := hS.2.2.2.2
  refine n_iconst c_53_0 ?_
  refine n_istore_n (L2 := [some (2, 15), some (2, 5), some (0, 3), some (0, 0), none]) c_53_1 rfl rfl ?_
  refine n_iload_n c_53_2 rfl ?_
  refine n_iconst c_53_3 ?_
  refine n_isub c_53_4 rfl ?_
  refine n_istore (L2 := [some (2, 15), some (2, 5), some (0, 3), some (0, 0), some (0, (3 - 1))]) c_53_5 rfl rfl ?_
  refine n_iload c_53_7 rfl ?_
  refine n_if0_lt c_53_9 (by omega) ?_ ?_
  · intro h1
    exfalso; omega
  · intro h2
    refine n_iload_n c_53_12 rfl ?_
    refine n_aload_n c_53_13 rfl ?_
    refine n_getB c_53_14 hB ?_
    refine n_getV (bi := 0) c_53_17 sc_4.n rfl rfl rfl (t_4_0 hS) ?_
    intro z3 ez3 f4
    obtain rfl : z3 = 3 := by omega
    refine n_imul c_53_20 rfl ?_
    refine n_aload_n c_53_21 rfl ?_
    refine n_iload c_53_22 rfl ?_
    refine n_ialoadV c_53_24 sc_5.n rfl rfl rfl (by omega) (t_5k (z := 0) hS (by omega) (by omega) (by omega)) ?_
    intro z5 ez5 f6
    refine n_iadd c_53_25 rfl ?_
    refine n_istore_n (L2 := [some (2, 15), some (2, 5), some (0, 3), some (0, ((0 * 3) + z5)), some (0, (3 - 1))]) c_53_26 rfl rfl ?_
    refine n_iinc (L2 := [some (2, 15), some (2, 5), some (0, 3), some (0, ((0 * 3) + z5)), some (0, ((3 - 1) + (-1)))]) c_53_27 rfl rfl rfl ?_
    refine n_goto c_53_30 ?_
    refine n_iload c_53_7 rfl ?_
    refine n_if0_lt c_53_9 (by omega) ?_ ?_
    · intro h7
      exfalso; omega
    · intro h8
      refine n_iload_n c_53_12 rfl ?_
      refine n_aload_n c_53_13 rfl ?_
      refine n_getB c_53_14 hB ?_
      refine n_getV (bi := 0) c_53_17 sc_4.n rfl rfl rfl (t_4_0 hS) ?_
      intro z9 ez9 f10
      obtain rfl : z9 = 3 := by omega
      refine n_imul c_53_20 rfl ?_
      refine n_aload_n c_53_21 rfl ?_
      refine n_iload c_53_22 rfl ?_
      refine n_ialoadV c_53_24 sc_5.n rfl rfl rfl (by omega) (t_5k (z := 0) hS (by omega) (by omega) (by omega)) ?_
      intro z11 ez11 f12
      refine n_iadd c_53_25 rfl ?_
      refine n_istore_n (L2 := [some (2, 15), some (2, 5), some (0, 3), some (0, ((((0 * 3) + z5) * 3) + z11)), some (0, ((3 - 1) + (-1)))]) c_53_26 rfl rfl ?_
      refine n_iinc (L2 := [some (2, 15), some (2, 5), some (0, 3), some (0, ((((0 * 3) + z5) * 3) + z11)), some (0, (((3 - 1) + (-1)) + (-1)))]) c_53_27 rfl rfl rfl ?_
      refine n_goto c_53_30 ?_
      refine n_iload c_53_7 rfl ?_
      refine n_if0_lt c_53_9 (by omega) ?_ ?_
      · intro h13
        exfalso; omega
      · intro h14
        refine n_iload_n c_53_12 rfl ?_
        refine n_aload_n c_53_13 rfl ?_
        refine n_getB c_53_14 hB ?_
        refine n_getV (bi := 0) c_53_17 sc_4.n rfl rfl rfl (t_4_0 hS) ?_
        intro z15 ez15 f16
        obtain rfl : z15 = 3 := by omega
        refine n_imul c_53_20 rfl ?_
        refine n_aload_n c_53_21 rfl ?_
        refine n_iload c_53_22 rfl ?_
        refine n_ialoadV c_53_24 sc_5.n rfl rfl rfl (by omega) (t_5k (z := 0) hS (by omega) (by omega) (by omega)) ?_
        intro z17 ez17 f18
        refine n_iadd c_53_25 rfl ?_
        refine n_istore_n (L2 := [some (2, 15), some (2, 5), some (0, 3), some (0, ((((((0 * 3) + z5) * 3) + z11) * 3) + z17)), some (0, (((3 - 1) + (-1)) + (-1)))]) c_53_26 rfl rfl ?_
        refine n_iinc (L2 := [some (2, 15), some (2, 5), some (0, 3), some (0, ((((((0 * 3) + z5) * 3) + z11) * 3) + z17)), some (0, ((((3 - 1) + (-1)) + (-1)) + (-1)))]) c_53_27 rfl rfl rfl ?_
        refine n_goto c_53_30 ?_
        refine n_iload c_53_7 rfl ?_
        refine n_if0_lt c_53_9 (by omega) ?_ ?_
        · intro h19
          refine n_iload_n c_53_33 rfl ?_
          exact n_rI c_53_34 rfl ⟨rfl, by omega⟩
        · intro h20
          exfalso; omega

set_option maxHeartbeats 4000000 in
theorem codeOf6_1_3 {xs : List Int32} {e : Nat} {ac : Int} {M0 M : nM} (hS : Sf 3 ac M0 M) (hB : M 15 0 = 4) : nW xs e 53 0 [some (2, 15), some (2, 6), some (0, 3), none, none] [] M (nPI fun z M1 => M = M1 ∧ (0 ≤ z ∧ z ≤ 26)) := by
  have hd : (3 : Int) = 2 ∨ (3 : Int) = 3 := by decide
  have hac := hS.2.2.2.2
  refine n_iconst c_53_0 ?_
  refine n_istore_n (L2 := [some (2, 15), some (2, 6), some (0, 3), some (0, 0), none]) c_53_1 rfl rfl ?_
  refine n_iload_n c_53_2 rfl ?_
  refine n_iconst c_53_3 ?_
  refine n_isub c_53_4 rfl ?_
  refine n_istore (L2 := [some (2, 15), some (2, 6), some (0, 3), some (0, 0), some (0, (3 - 1))]) c_53_5 rfl rfl ?_
  refine n_iload c_53_7 rfl ?_
  refine n_if0_lt c_53_9 (by omega) ?_ ?_
  · intro h1
    exfalso; omega
  · intro h2
    refine n_iload_n c_53_12 rfl ?_
    refine n_aload_n c_53_13 rfl ?_
    refine n_getB c_53_14 hB ?_
    refine n_getV (bi := 0) c_53_17 sc_4.n rfl rfl rfl (t_4_0 hS) ?_
    intro z3 ez3 f4
    obtain rfl : z3 = 3 := by omega
    refine n_imul c_53_20 rfl ?_
    refine n_aload_n c_53_21 rfl ?_
    refine n_iload c_53_22 rfl ?_
    refine n_ialoadV c_53_24 sc_6.n rfl rfl rfl (by omega) (t_6k (z := 0) hS (by omega) (by omega) (by omega)) ?_
    intro z5 ez5 f6
    refine n_iadd c_53_25 rfl ?_
    refine n_istore_n (L2 := [some (2, 15), some (2, 6), some (0, 3), some (0, ((0 * 3) + z5)), some (0, (3 - 1))]) c_53_26 rfl rfl ?_
    refine n_iinc (L2 := [some (2, 15), some (2, 6), some (0, 3), some (0, ((0 * 3) + z5)), some (0, ((3 - 1) + (-1)))]) c_53_27 rfl rfl rfl ?_
    refine n_goto c_53_30 ?_
    refine n_iload c_53_7 rfl ?_
    refine n_if0_lt c_53_9 (by omega) ?_ ?_
    · intro h7
      exfalso; omega
    · intro h8
      refine n_iload_n c_53_12 rfl ?_
      refine n_aload_n c_53_13 rfl ?_
      refine n_getB c_53_14 hB ?_
      refine n_getV (bi := 0) c_53_17 sc_4.n rfl rfl rfl (t_4_0 hS) ?_
      intro z9 ez9 f10
      obtain rfl : z9 = 3 := by omega
      refine n_imul c_53_20 rfl ?_
      refine n_aload_n c_53_21 rfl ?_
      refine n_iload c_53_22 rfl ?_
      refine n_ialoadV c_53_24 sc_6.n rfl rfl rfl (by omega) (t_6k (z := 0) hS (by omega) (by omega) (by omega)) ?_
      intro z11 ez11 f12
      refine n_iadd c_53_25 rfl ?_
      refine n_istore_n (L2 := [some (2, 15), some (2, 6), some (0, 3), some (0, ((((0 * 3) + z5) * 3) + z11)), some (0, ((3 - 1) + (-1)))]) c_53_26 rfl rfl ?_
      refine n_iinc (L2 := [some (2, 15), some (2, 6), some (0, 3), some (0, ((((0 * 3) + z5) * 3) + z11)), some (0, (((3 - 1) + (-1)) + (-1)))]) c_53_27 rfl rfl rfl ?_
      refine n_goto c_53_30 ?_
      refine n_iload c_53_7 rfl ?_
      refine n_if0_lt c_53_9 (by omega) ?_ ?_
      · intro h13
        exfalso; omega
      · intro h14
        refine n_iload_n c_53_12 rfl ?_
        refine n_aload_n c_53_13 rfl ?_
        refine n_getB c_53_14 hB ?_
        refine n_getV (bi := 0) c_53_17 sc_4.n rfl rfl rfl (t_4_0 hS) ?_
        intro z15 ez15 f16
        obtain rfl : z15 = 3 := by omega
        refine n_imul c_53_20 rfl ?_
        refine n_aload_n c_53_21 rfl ?_
        refine n_iload c_53_22 rfl ?_
        refine n_ialoadV c_53_24 sc_6.n rfl rfl rfl (by omega) (t_6k (z := 0) hS (by omega) (by omega) (by omega)) ?_
        intro z17 ez17 f18
        refine n_iadd c_53_25 rfl ?_
        refine n_istore_n (L2 := [some (2, 15), some (2, 6), some (0, 3), some (0, ((((((0 * 3) + z5) * 3) + z11) * 3) + z17)), some (0, (((3 - 1) + (-1)) + (-1)))]) c_53_26 rfl rfl ?_
        refine n_iinc (L2 := [some (2, 15), some (2, 6), some (0, 3), some (0, ((((((0 * 3) + z5) * 3) + z11) * 3) + z17)), some (0, ((((3 - 1) + (-1)) + (-1)) + (-1)))]) c_53_27 rfl rfl rfl ?_
        refine n_goto c_53_30 ?_
        refine n_iload c_53_7 rfl ?_
        refine n_if0_lt c_53_9 (by omega) ?_ ?_
        · intro h19
          refine n_iload_n c_53_33 rfl ?_
          exact n_rI c_53_34 rfl ⟨rfl, by omega⟩
        · intro h20
          exfalso; omega

set_option maxHeartbeats 4000000 in
theorem codeOf7_1_3 {xs : List Int32} {e : Nat} {ac : Int} {M0 M : nM} (hS : Sf 3 ac M0 M) (hB : M 15 0 = 4) : nW xs e 53 0 [some (2, 15), some (2, 7), some (0, 3), none, none] [] M (nPI fun z M1 => M = M1 ∧ (0 ≤ z ∧ z ≤ 26)) := by
  have hd : (3 : Int) = 2 ∨ (3 : Int) = 3 := by decide
  have hac := hS.2.2.2.2
  refine n_iconst c_53_0 ?_
  refine n_istore_n (L2 := [some (2, 15), some (2, 7), some (0, 3), some (0, 0), none]) c_53_1 rfl rfl ?_
  refine n_iload_n c_53_2 rfl ?_
  refine n_iconst c_53_3 ?_
  refine n_isub c_53_4 rfl ?_
  refine n_istore (L2 := [some (2, 15), some (2, 7), some (0, 3), some (0, 0), some (0, (3 - 1))]) c_53_5 rfl rfl ?_
  refine n_iload c_53_7 rfl ?_
  refine n_if0_lt c_53_9 (by omega) ?_ ?_
  · intro h1
    exfalso; omega
  · intro h2
    refine n_iload_n c_53_12 rfl ?_
    refine n_aload_n c_53_13 rfl ?_
    refine n_getB c_53_14 hB ?_
    refine n_getV (bi := 0) c_53_17 sc_4.n rfl rfl rfl (t_4_0 hS) ?_
    intro z3 ez3 f4
    obtain rfl : z3 = 3 := by omega
    refine n_imul c_53_20 rfl ?_
    refine n_aload_n c_53_21 rfl ?_
    refine n_iload c_53_22 rfl ?_
    refine n_ialoadV c_53_24 sc_7.n rfl rfl rfl (by omega) (t_7k (z := 2) hS (by omega) (by omega) (by omega)) ?_
    intro z5 ez5 f6
    refine n_iadd c_53_25 rfl ?_
    refine n_istore_n (L2 := [some (2, 15), some (2, 7), some (0, 3), some (0, ((0 * 3) + z5)), some (0, (3 - 1))]) c_53_26 rfl rfl ?_
    refine n_iinc (L2 := [some (2, 15), some (2, 7), some (0, 3), some (0, ((0 * 3) + z5)), some (0, ((3 - 1) + (-1)))]) c_53_27 rfl rfl rfl ?_
    refine n_goto c_53_30 ?_
    refine n_iload c_53_7 rfl ?_
    refine n_if0_lt c_53_9 (by omega) ?_ ?_
    · intro h7
      exfalso; omega
    · intro h8
      refine n_iload_n c_53_12 rfl ?_
      refine n_aload_n c_53_13 rfl ?_
      refine n_getB c_53_14 hB ?_
      refine n_getV (bi := 0) c_53_17 sc_4.n rfl rfl rfl (t_4_0 hS) ?_
      intro z9 ez9 f10
      obtain rfl : z9 = 3 := by omega
      refine n_imul c_53_20 rfl ?_
      refine n_aload_n c_53_21 rfl ?_
      refine n_iload c_53_22 rfl ?_
      refine n_ialoadV c_53_24 sc_7.n rfl rfl rfl (by omega) (t_7k (z := 1) hS (by omega) (by omega) (by omega)) ?_
      intro z11 ez11 f12
      refine n_iadd c_53_25 rfl ?_
      refine n_istore_n (L2 := [some (2, 15), some (2, 7), some (0, 3), some (0, ((((0 * 3) + z5) * 3) + z11)), some (0, ((3 - 1) + (-1)))]) c_53_26 rfl rfl ?_
      refine n_iinc (L2 := [some (2, 15), some (2, 7), some (0, 3), some (0, ((((0 * 3) + z5) * 3) + z11)), some (0, (((3 - 1) + (-1)) + (-1)))]) c_53_27 rfl rfl rfl ?_
      refine n_goto c_53_30 ?_
      refine n_iload c_53_7 rfl ?_
      refine n_if0_lt c_53_9 (by omega) ?_ ?_
      · intro h13
        exfalso; omega
      · intro h14
        refine n_iload_n c_53_12 rfl ?_
        refine n_aload_n c_53_13 rfl ?_
        refine n_getB c_53_14 hB ?_
        refine n_getV (bi := 0) c_53_17 sc_4.n rfl rfl rfl (t_4_0 hS) ?_
        intro z15 ez15 f16
        obtain rfl : z15 = 3 := by omega
        refine n_imul c_53_20 rfl ?_
        refine n_aload_n c_53_21 rfl ?_
        refine n_iload c_53_22 rfl ?_
        refine n_ialoadV c_53_24 sc_7.n rfl rfl rfl (by omega) (t_7k (z := 0) hS (by omega) (by omega) (by omega)) ?_
        intro z17 ez17 f18
        refine n_iadd c_53_25 rfl ?_
        refine n_istore_n (L2 := [some (2, 15), some (2, 7), some (0, 3), some (0, ((((((0 * 3) + z5) * 3) + z11) * 3) + z17)), some (0, (((3 - 1) + (-1)) + (-1)))]) c_53_26 rfl rfl ?_
        refine n_iinc (L2 := [some (2, 15), some (2, 7), some (0, 3), some (0, ((((((0 * 3) + z5) * 3) + z11) * 3) + z17)), some (0, ((((3 - 1) + (-1)) + (-1)) + (-1)))]) c_53_27 rfl rfl rfl ?_
        refine n_goto c_53_30 ?_
        refine n_iload c_53_7 rfl ?_
        refine n_if0_lt c_53_9 (by omega) ?_ ?_
        · intro h19
          refine n_iload_n c_53_33 rfl ?_
          exact n_rI c_53_34 rfl ⟨rfl, by omega⟩
        · intro h20
          exfalso; omega

set_option maxHeartbeats 4000000 in
theorem fillM25T_1_3_c {xs : List Int32} {e : Nat} {ac : Int} {M0 M : nM} {p i j g : Int} (hS : Sf 3 ac M0 M) (hp : ActAt p) (hpl : p < 55 + 3 * ac) (hi : 0 ≤ i ∧ i ≤ 26) (hj : 0 ≤ j ∧ j ≤ 26) (hK : MK 27 27 26 0 0 1 3 9 0 0 0 0 0 0 M) (hg : M 15 10 = g) : ∀ nn : Nat, (∀ (x5 x6 x7 x8 x9 x10 : Int) (M : nM), Sf 3 ac M0 M → (3 ≤ x5 ∧ x5 ≤ 3) → (0 ≤ x6 ∧ x6 ≤ 24) → (0 ≤ x7 ∧ x7 ≤ 24) → (0 ≤ x8 ∧ x8 ≤ 24) → (0 ≤ x9 ∧ x9 ≤ 27) → (0 ≤ x10 ∧ x10 ≤ 3) → (MK 27 27 26 0 0 1 3 9 0 0 0 0 0 0 M) → (M 15 10 = g) → (x9 = 9 * x10) → (3 - x10) * 31 + 31 < (nn : Int) → nW xs e 45 86 [some (2, 25), none, some (2, (p + 1)), none, none, some (0, x5), some (0, x6), some (0, x7), some (0, x8), some (0, x9), some (0, x10), none, none, none, none] [] M (nPV fun M1 => Sf 3 ac M0 M1 ∧ (M1 15 10 = g) ∧ MK 27 27 26 0 0 1 3 9 0 0 0 0 0 0 M1)) ∧ (∀ (x5 x6 x7 x8 x9 x10 x11 x12 : Int) (M : nM), Sf 3 ac M0 M → (3 ≤ x5 ∧ x5 ≤ 3) → (0 ≤ x6 ∧ x6 ≤ 24) → (0 ≤ x7 ∧ x7 ≤ 24) → (0 ≤ x8 ∧ x8 ≤ 24) → (0 ≤ x9 ∧ x9 ≤ 27) → (0 ≤ x10 ∧ x10 ≤ 2) → (0 ≤ x11 ∧ x11 ≤ 2) → (0 ≤ x12 ∧ x12 ≤ 3) → (MK 27 27 26 0 0 1 3 9 0 0 0 0 0 0 M) → (M 15 10 = g) → (x9 = 9 * x10 + 3 * x12) → (3 - x10) * 31 + (3 - x12) * 6 + 6 < (nn : Int) → nW xs e 45 110 [some (2, 25), none, some (2, (p + 1)), none, none, some (0, x5), some (0, x6), some (0, x7), some (0, x8), some (0, x9), some (0, x10), some (0, x11), some (0, x12), none, none] [] M (nPV fun M1 => Sf 3 ac M0 M1 ∧ (M1 15 10 = g) ∧ MK 27 27 26 0 0 1 3 9 0 0 0 0 0 0 M1)) ∧ (∀ (x5 x6 x7 x8 x9 x10 x11 x12 x13 x14 : Int) (M : nM), Sf 3 ac M0 M → (3 ≤ x5 ∧ x5 ≤ 3) → (0 ≤ x6 ∧ x6 ≤ 24) → (0 ≤ x7 ∧ x7 ≤ 24) → (0 ≤ x8 ∧ x8 ≤ 24) → (0 ≤ x9 ∧ x9 ≤ 27) → (0 ≤ x10 ∧ x10 ≤ 2) → (0 ≤ x11 ∧ x11 ≤ 2) → (0 ≤ x12 ∧ x12 ≤ 2) → (0 ≤ x13 ∧ x13 ≤ 8) → (0 ≤ x14 ∧ x14 ≤ 3) → (MK 27 27 26 0 0 1 3 9 0 0 0 0 0 0 M) → (M 15 10 = g) → (x9 = 9 * x10 + 3 * x12 + x14) → (3 - x10) * 31 + (3 - x12) * 6 + (3 - x14) * 1 + 1 < (nn : Int) → nW xs e 45 137 [some (2, 25), none, some (2, (p + 1)), none, none, some (0, x5), some (0, x6), some (0, x7), some (0, x8), some (0, x9), some (0, x10), some (0, x11), some (0, x12), some (0, x13), some (0, x14)] [] M (nPV fun M1 => Sf 3 ac M0 M1 ∧ (M1 15 10 = g) ∧ MK 27 27 26 0 0 1 3 9 0 0 0 0 0 0 M1)) := by
  have hd : (3 : Int) = 2 ∨ (3 : Int) = 3 := by decide
  have hac := hS.2.2.2.2
  intro nn
  induction nn with
  | zero => refine ⟨?_, ?_, ?_⟩ <;> (intros; omega)
  | succ nn ih =>
    refine ⟨?_, ?_, ?_⟩
    · intro x5 x6 x7 x8 x9 x10 M hS k5 k6 k7 k8 k9 k10 hK hgg v0 hnn
      refine n_iload c_45_86 rfl ?_
      refine n_iload c_45_88 rfl ?_
      refine n_if2_ge c_45_90 (by omega) (by omega) ?_ ?_
      · intro h1
        exact n_rV c_45_187 rfl ⟨hS, by omega, hK⟩
      · intro h2
        refine n_aload_n c_45_93 rfl ?_
        refine n_iload c_45_94 rfl ?_
        refine n_iload c_45_96 rfl ?_
        refine n_iadd c_45_98 rfl ?_
        refine n_ialoadV c_45_99 hp.c0.2.1.n rfl rfl rfl (by omega) (t_actrl hS hp hpl (Or.inl rfl) (by omega) (by omega)) ?_
        intro z3 ez3 f4
        refine n_aload_n c_45_100 rfl ?_
        refine n_getV (bi := 1) c_45_101 sc_25.n rfl rfl rfl hK.w25.1 ?_
        intro z5 ez5 f6
        obtain rfl : z5 = 1 := by omega
        refine n_imul c_45_104 rfl ?_
        refine n_istore (L2 := [some (2, 25), none, some (2, (p + 1)), none, none, some (0, x5), some (0, x6), some (0, x7), some (0, x8), some (0, x9), some (0, x10), some (0, (z3 * 1)), none, none, none]) c_45_105 rfl rfl ?_
        refine n_iconst c_45_107 ?_
        refine n_istore (L2 := [some (2, 25), none, some (2, (p + 1)), none, none, some (0, x5), some (0, x6), some (0, x7), some (0, x8), some (0, x9), some (0, x10), some (0, (z3 * 1)), some (0, 0), none, none]) c_45_108 rfl rfl ?_
        refine n_fg (le_s (le_n (le_s (le_n (le_n (le_s (le_s (le_s (le_s (le_s (le_s (le_s (le_s (le_n (le_n le_0))))))))))))))) ?_
        exact ih.2.1 _ _ _ _ _ _ _ _ M hS (by omega) (by omega) (by omega) (by omega) (by omega) (by omega) (by omega) (by omega) hK (by omega) (by omega) (by omega)
    · intro x5 x6 x7 x8 x9 x10 x11 x12 M hS k5 k6 k7 k8 k9 k10 k11 k12 hK hgg v0 hnn
      refine n_iload c_45_110 rfl ?_
      refine n_iload c_45_112 rfl ?_
      refine n_if2_ge c_45_114 (by omega) (by omega) ?_ ?_
      · intro h1
        refine n_iinc (L2 := [some (2, 25), none, some (2, (p + 1)), none, none, some (0, x5), some (0, x6), some (0, x7), some (0, x8), some (0, x9), some (0, (x10 + 1)), some (0, x11), some (0, x12), none, none]) c_45_181 rfl rfl rfl ?_
        refine n_goto c_45_184 ?_
        refine n_fg (le_s (le_n (le_s (le_n (le_n (le_s (le_s (le_s (le_s (le_s (le_s (le_n (le_n (le_n (le_n le_0))))))))))))))) ?_
        exact ih.1 _ _ _ _ _ _ M hS (by omega) (by omega) (by omega) (by omega) (by omega) (by omega) hK (by omega) (by omega) (by omega)
      · intro h2
        refine n_iload c_45_117 rfl ?_
        refine n_aload_n c_45_119 rfl ?_
        refine n_iload c_45_120 rfl ?_
        refine n_iload c_45_122 rfl ?_
        refine n_iadd c_45_124 rfl ?_
        refine n_ialoadV c_45_125 hp.c0.2.1.n rfl rfl rfl (by omega) (t_actrl hS hp hpl (Or.inl rfl) (by omega) (by omega)) ?_
        intro z3 ez3 f4
        refine n_aload_n c_45_126 rfl ?_
        refine n_getV (bi := 2) c_45_127 sc_25.n rfl rfl rfl hK.w25.2.1 ?_
        intro z5 ez5 f6
        obtain rfl : z5 = 3 := by omega
        refine n_imul c_45_130 rfl ?_
        refine n_iadd c_45_131 rfl ?_
        refine n_istore (L2 := [some (2, 25), none, some (2, (p + 1)), none, none, some (0, x5), some (0, x6), some (0, x7), some (0, x8), some (0, x9), some (0, x10), some (0, x11), some (0, x12), some (0, (x11 + (z3 * 3))), none]) c_45_132 rfl rfl ?_
        refine n_iconst c_45_134 ?_
        refine n_istore (L2 := [some (2, 25), none, some (2, (p + 1)), none, none, some (0, x5), some (0, x6), some (0, x7), some (0, x8), some (0, x9), some (0, x10), some (0, x11), some (0, x12), some (0, (x11 + (z3 * 3))), some (0, 0)]) c_45_135 rfl rfl ?_
        refine n_fg (le_s (le_n (le_s (le_n (le_n (le_s (le_s (le_s (le_s (le_s (le_s (le_s (le_s (le_s (le_s le_0))))))))))))))) ?_
        exact ih.2.2 _ _ _ _ _ _ _ _ _ _ M hS (by omega) (by omega) (by omega) (by omega) (by omega) (by omega) (by omega) (by omega) (by omega) (by omega) hK (by omega) (by omega) (by omega)
    · intro x5 x6 x7 x8 x9 x10 x11 x12 x13 x14 M hS k5 k6 k7 k8 k9 k10 k11 k12 k13 k14 hK hgg v0 hnn
      refine n_iload c_45_137 rfl ?_
      refine n_iload c_45_139 rfl ?_
      refine n_if2_ge c_45_141 (by omega) (by omega) ?_ ?_
      · intro h1
        refine n_iinc (L2 := [some (2, 25), none, some (2, (p + 1)), none, none, some (0, x5), some (0, x6), some (0, x7), some (0, x8), some (0, x9), some (0, x10), some (0, x11), some (0, (x12 + 1)), some (0, x13), some (0, x14)]) c_45_175 rfl rfl rfl ?_
        refine n_goto c_45_178 ?_
        refine n_fg (le_s (le_n (le_s (le_n (le_n (le_s (le_s (le_s (le_s (le_s (le_s (le_s (le_s (le_n (le_n le_0))))))))))))))) ?_
        exact ih.2.1 _ _ _ _ _ _ _ _ M hS (by omega) (by omega) (by omega) (by omega) (by omega) (by omega) (by omega) (by omega) hK (by omega) (by omega) (by omega)
      · intro h2
        refine n_aload_n c_45_144 rfl ?_
        refine n_getR c_45_145 sc_25.n rfl rfl rfl r_25_0 ?_
        refine n_iload c_45_148 rfl ?_
        refine n_iload c_45_150 rfl ?_
        refine n_aload_n c_45_152 rfl ?_
        refine n_iload c_45_153 rfl ?_
        refine n_iload c_45_155 rfl ?_
        refine n_iadd c_45_157 rfl ?_
        refine n_ialoadV c_45_158 hp.c0.2.1.n rfl rfl rfl (by omega) (t_actrl hS hp hpl (Or.inl rfl) (by omega) (by omega)) ?_
        intro z3 ez3 f4
        refine n_aload_n c_45_159 rfl ?_
        refine n_getV (bi := 3) c_45_160 sc_25.n rfl rfl rfl hK.w25.2.2 ?_
        intro z5 ez5 f6
        obtain rfl : z5 = 9 := by omega
        refine n_imul c_45_163 rfl ?_
        refine n_iadd c_45_164 rfl ?_
        refine n_iastoreV hS c_45_165 sc_26.n rfl (by omega) (w_26 (by omega) (by omega)) ?_
        intro M7 eM7 hS7
        have hK7 := hK.u (by unfold Kok; omega) eM7
        have g7_0 : M7 15 10 = M 15 10 := by rw [eM7]; exact nu_a (by omega)
        refine n_iinc (L2 := [some (2, 25), none, some (2, (p + 1)), none, none, some (0, x5), some (0, x6), some (0, x7), some (0, x8), some (0, (x9 + 1)), some (0, x10), some (0, x11), some (0, x12), some (0, x13), some (0, x14)]) c_45_166 rfl rfl rfl ?_
        refine n_iinc (L2 := [some (2, 25), none, some (2, (p + 1)), none, none, some (0, x5), some (0, x6), some (0, x7), some (0, x8), some (0, (x9 + 1)), some (0, x10), some (0, x11), some (0, x12), some (0, x13), some (0, (x14 + 1))]) c_45_169 rfl rfl rfl ?_
        refine n_goto c_45_172 ?_
        refine n_fg (le_s (le_n (le_s (le_n (le_n (le_s (le_s (le_s (le_s (le_s (le_s (le_s (le_s (le_s (le_s le_0))))))))))))))) ?_
        exact ih.2.2 _ _ _ _ _ _ _ _ _ _ M7 hS7 (by omega) (by omega) (by omega) (by omega) (by omega) (by omega) (by omega) (by omega) (by omega) (by omega) hK7 (by omega) (by omega) (by omega)
set_option maxHeartbeats 4000000 in
theorem fillM25T_1_3 {xs : List Int32} {e : Nat} {ac : Int} {M0 M : nM} {p i j g : Int} (hS : Sf 3 ac M0 M) (hp : ActAt p) (hpl : p < 55 + 3 * ac) (hi : 0 ≤ i ∧ i ≤ 26) (hj : 0 ≤ j ∧ j ≤ 26) (hK : MK 27 27 26 0 0 1 3 9 0 0 0 0 0 0 M) (hg : M 15 10 = g) : nW xs e 45 0 [some (2, 25), some (2, 4), some (2, (p + 1)), some (0, i), some (0, j), none, none, none, none, none, none, none, none, none, none] [] M (nPV fun M1 => Sf 3 ac M0 M1 ∧ (M1 15 10 = g) ∧ MK 27 27 26 0 0 1 3 9 0 0 0 0 0 0 M1) := by
  have hd : (3 : Int) = 2 ∨ (3 : Int) = 3 := by decide
  have hac := hS.2.2.2.2
  refine n_aload_n c_45_0 rfl ?_
  refine n_getV (bi := 1) c_45_1 sc_25.n rfl rfl rfl hK.w25.1 ?_
  intro z1 ez1 f2
  obtain rfl : z1 = 1 := by omega
  refine n_if0_ne c_45_4 (by omega) ?_ ?_
  · intro h3
    refine n_aload_n c_45_8 rfl ?_
    refine n_getV (bi := 0) c_45_9 sc_4.n rfl rfl rfl (t_4_0 hS) ?_
    intro z4 ez4 f5
    obtain rfl : z4 = 3 := by omega
    refine n_istore (L2 := [some (2, 25), some (2, 4), some (2, (p + 1)), some (0, i), some (0, j), some (0, 3), none, none, none, none, none, none, none, none, none]) c_45_12 rfl rfl ?_
    refine n_aload_n c_45_14 rfl ?_
    refine n_getR c_45_15 sc_4.n rfl rfl rfl r_4_2 ?_
    refine n_iload_n c_45_18 rfl ?_
    refine n_ialoadV c_45_19 sc_5.n rfl rfl rfl (by omega) (t_5d hS hd (by omega) (by omega)) ?_
    intro z6 ez6 f7
    refine n_iload c_45_20 rfl ?_
    refine n_imul c_45_22 rfl ?_
    refine n_aload_n c_45_23 rfl ?_
    refine n_getR c_45_24 sc_4.n rfl rfl rfl r_4_2 ?_
    refine n_iload c_45_27 rfl ?_
    refine n_ialoadV c_45_29 sc_5.n rfl rfl rfl (by omega) (t_5d hS hd (by omega) (by omega)) ?_
    intro z8 ez8 f9
    refine n_iadd c_45_30 rfl ?_
    refine n_iload c_45_31 rfl ?_
    refine n_imul c_45_33 rfl ?_
    refine n_istore (L2 := [some (2, 25), some (2, 4), some (2, (p + 1)), some (0, i), some (0, j), some (0, 3), some (0, (((z6 * 3) + z8) * 3)), none, none, none, none, none, none, none, none]) c_45_34 rfl rfl ?_
    refine n_aload_n c_45_36 rfl ?_
    refine n_getR c_45_37 sc_4.n rfl rfl rfl r_4_3 ?_
    refine n_iload_n c_45_40 rfl ?_
    refine n_ialoadV c_45_41 sc_6.n rfl rfl rfl (by omega) (t_6d hS hd (by omega) (by omega)) ?_
    intro z10 ez10 f11
    refine n_iload c_45_42 rfl ?_
    refine n_imul c_45_44 rfl ?_
    refine n_aload_n c_45_45 rfl ?_
    refine n_getR c_45_46 sc_4.n rfl rfl rfl r_4_3 ?_
    refine n_iload c_45_49 rfl ?_
    refine n_ialoadV c_45_51 sc_6.n rfl rfl rfl (by omega) (t_6d hS hd (by omega) (by omega)) ?_
    intro z12 ez12 f13
    refine n_iadd c_45_52 rfl ?_
    refine n_iload c_45_53 rfl ?_
    refine n_imul c_45_55 rfl ?_
    refine n_istore (L2 := [some (2, 25), some (2, 4), some (2, (p + 1)), some (0, i), some (0, j), some (0, 3), some (0, (((z6 * 3) + z8) * 3)), some (0, (((z10 * 3) + z12) * 3)), none, none, none, none, none, none, none]) c_45_56 rfl rfl ?_
    refine n_aload_n c_45_58 rfl ?_
    refine n_getR c_45_59 sc_4.n rfl rfl rfl r_4_4 ?_
    refine n_iload_n c_45_62 rfl ?_
    refine n_ialoadV c_45_63 sc_7.n rfl rfl rfl (by omega) (t_7d hS hd (by omega) (by omega)) ?_
    intro z14 ez14 f15
    refine n_iload c_45_64 rfl ?_
    refine n_imul c_45_66 rfl ?_
    refine n_aload_n c_45_67 rfl ?_
    refine n_getR c_45_68 sc_4.n rfl rfl rfl r_4_4 ?_
    refine n_iload c_45_71 rfl ?_
    refine n_ialoadV c_45_73 sc_7.n rfl rfl rfl (by omega) (t_7d hS hd (by omega) (by omega)) ?_
    intro z16 ez16 f17
    refine n_iadd c_45_74 rfl ?_
    refine n_iload c_45_75 rfl ?_
    refine n_imul c_45_77 rfl ?_
    refine n_istore (L2 := [some (2, 25), some (2, 4), some (2, (p + 1)), some (0, i), some (0, j), some (0, 3), some (0, (((z6 * 3) + z8) * 3)), some (0, (((z10 * 3) + z12) * 3)), some (0, (((z14 * 3) + z16) * 3)), none, none, none, none, none, none]) c_45_78 rfl rfl ?_
    refine n_iconst c_45_80 ?_
    refine n_istore (L2 := [some (2, 25), some (2, 4), some (2, (p + 1)), some (0, i), some (0, j), some (0, 3), some (0, (((z6 * 3) + z8) * 3)), some (0, (((z10 * 3) + z12) * 3)), some (0, (((z14 * 3) + z16) * 3)), some (0, 0), none, none, none, none, none]) c_45_81 rfl rfl ?_
    refine n_iconst c_45_83 ?_
    refine n_istore (L2 := [some (2, 25), some (2, 4), some (2, (p + 1)), some (0, i), some (0, j), some (0, 3), some (0, (((z6 * 3) + z8) * 3)), some (0, (((z10 * 3) + z12) * 3)), some (0, (((z14 * 3) + z16) * 3)), some (0, 0), some (0, 0), none, none, none, none]) c_45_84 rfl rfl ?_
    refine n_fg (le_s (le_n (le_s (le_n (le_n (le_s (le_s (le_s (le_s (le_s (le_s (le_n (le_n (le_n (le_n le_0))))))))))))))) ?_
    exact (fillM25T_1_3_c hS hp hpl hi hj hK hg 320).1 _ _ _ _ _ _ M hS (by omega) (by omega) (by omega) (by omega) (by omega) (by omega) hK (by omega) (by omega) (by omega)
  · intro h18
    exfalso; omega

set_option maxHeartbeats 4000000 in
theorem fillM27T_1_3 {xs : List Int32} {e : Nat} {ac : Int} {M0 M : nM} {p i j g : Int} (hS : Sf 3 ac M0 M) (hp : ActAt p) (hpl : p < 55 + 3 * ac) (hi : 0 ≤ i ∧ i ≤ 26) (hj : 0 ≤ j ∧ j ≤ 26) (hK : MK 27 27 26 0 0 1 3 9 0 0 0 0 0 0 M) (hg : M 15 10 = g) : nW xs e 45 0 [some (2, 27), some (2, 4), some (2, (p + 1)), some (0, i), some (0, j), none, none, none, none, none, none, none, none, none, none] [] M (nPV fun M1 => Sf 3 ac M0 M1 ∧ (M1 15 10 = g) ∧ MK 27 27 26 0 0 1 3 9 0 0 0 0 0 0 M1) := by
  have hd : (3 : Int) = 2 ∨ (3 : Int) = 3 := by decide
  have hac := hS.2.2.2.2
  refine n_aload_n c_45_0 rfl ?_
  refine n_getV (bi := 1) c_45_1 sc_27.n rfl rfl rfl hK.w27.1 ?_
  intro z1 ez1 f2
  obtain rfl : z1 = 0 := by omega
  refine n_if0_ne c_45_4 (by omega) ?_ ?_
  · intro h3
    exfalso; omega
  · intro h4
    exact n_rV c_45_7 rfl ⟨hS, by omega, hK⟩

set_option maxHeartbeats 4000000 in
theorem fillM29T_1_3 {xs : List Int32} {e : Nat} {ac : Int} {M0 M : nM} {p i j g : Int} (hS : Sf 3 ac M0 M) (hp : ActAt p) (hpl : p < 55 + 3 * ac) (hi : 0 ≤ i ∧ i ≤ 26) (hj : 0 ≤ j ∧ j ≤ 26) (hK : MK 27 27 26 0 0 1 3 9 0 0 0 0 0 0 M) (hg : M 15 10 = g) : nW xs e 45 0 [some (2, 29), some (2, 4), some (2, (p + 1)), some (0, i), some (0, j), none, none, none, none, none, none, none, none, none, none] [] M (nPV fun M1 => Sf 3 ac M0 M1 ∧ (M1 15 10 = g) ∧ MK 27 27 26 0 0 1 3 9 0 0 0 0 0 0 M1) := by
  have hd : (3 : Int) = 2 ∨ (3 : Int) = 3 := by decide
  have hac := hS.2.2.2.2
  refine n_aload_n c_45_0 rfl ?_
  refine n_getV (bi := 1) c_45_1 sc_29.n rfl rfl rfl hK.w29.1 ?_
  intro z1 ez1 f2
  obtain rfl : z1 = 0 := by omega
  refine n_if0_ne c_45_4 (by omega) ?_ ?_
  · intro h3
    exfalso; omega
  · intro h4
    exact n_rV c_45_7 rfl ⟨hS, by omega, hK⟩

set_option maxHeartbeats 4000000 in
theorem fillM25U_1_3_c {xs : List Int32} {e : Nat} {ac : Int} {M0 M : nM} {p i j g : Int} (hS : Sf 3 ac M0 M) (hp : ActAt p) (hpl : p < 55 + 3 * ac) (hi : 0 ≤ i ∧ i ≤ 26) (hj : 0 ≤ j ∧ j ≤ 26) (hK : MK 27 27 26 0 0 1 3 9 0 0 0 0 0 0 M) (hg : M 15 10 = g) : ∀ nn : Nat, (∀ (x5 x6 x7 x8 x9 x10 : Int) (M : nM), Sf 3 ac M0 M → (3 ≤ x5 ∧ x5 ≤ 3) → (0 ≤ x6 ∧ x6 ≤ 24) → (0 ≤ x7 ∧ x7 ≤ 24) → (0 ≤ x8 ∧ x8 ≤ 24) → (0 ≤ x9 ∧ x9 ≤ 27) → (0 ≤ x10 ∧ x10 ≤ 3) → (MK 27 27 26 0 0 1 3 9 0 0 0 0 0 0 M) → (M 15 10 = g) → (x9 = 9 * x10) → (3 - x10) * 31 + 31 < (nn : Int) → nW xs e 45 86 [some (2, 25), none, some (2, (p + 2)), none, none, some (0, x5), some (0, x6), some (0, x7), some (0, x8), some (0, x9), some (0, x10), none, none, none, none] [] M (nPV fun M1 => Sf 3 ac M0 M1 ∧ (M1 15 10 = g) ∧ MK 27 27 26 0 0 1 3 9 0 0 0 0 0 0 M1)) ∧ (∀ (x5 x6 x7 x8 x9 x10 x11 x12 : Int) (M : nM), Sf 3 ac M0 M → (3 ≤ x5 ∧ x5 ≤ 3) → (0 ≤ x6 ∧ x6 ≤ 24) → (0 ≤ x7 ∧ x7 ≤ 24) → (0 ≤ x8 ∧ x8 ≤ 24) → (0 ≤ x9 ∧ x9 ≤ 27) → (0 ≤ x10 ∧ x10 ≤ 2) → (0 ≤ x11 ∧ x11 ≤ 2) → (0 ≤ x12 ∧ x12 ≤ 3) → (MK 27 27 26 0 0 1 3 9 0 0 0 0 0 0 M) → (M 15 10 = g) → (x9 = 9 * x10 + 3 * x12) → (3 - x10) * 31 + (3 - x12) * 6 + 6 < (nn : Int) → nW xs e 45 110 [some (2, 25), none, some (2, (p + 2)), none, none, some (0, x5), some (0, x6), some (0, x7), some (0, x8), some (0, x9), some (0, x10), some (0, x11), some (0, x12), none, none] [] M (nPV fun M1 => Sf 3 ac M0 M1 ∧ (M1 15 10 = g) ∧ MK 27 27 26 0 0 1 3 9 0 0 0 0 0 0 M1)) ∧ (∀ (x5 x6 x7 x8 x9 x10 x11 x12 x13 x14 : Int) (M : nM), Sf 3 ac M0 M → (3 ≤ x5 ∧ x5 ≤ 3) → (0 ≤ x6 ∧ x6 ≤ 24) → (0 ≤ x7 ∧ x7 ≤ 24) → (0 ≤ x8 ∧ x8 ≤ 24) → (0 ≤ x9 ∧ x9 ≤ 27) → (0 ≤ x10 ∧ x10 ≤ 2) → (0 ≤ x11 ∧ x11 ≤ 2) → (0 ≤ x12 ∧ x12 ≤ 2) → (0 ≤ x13 ∧ x13 ≤ 8) → (0 ≤ x14 ∧ x14 ≤ 3) → (MK 27 27 26 0 0 1 3 9 0 0 0 0 0 0 M) → (M 15 10 = g) → (x9 = 9 * x10 + 3 * x12 + x14) → (3 - x10) * 31 + (3 - x12) * 6 + (3 - x14) * 1 + 1 < (nn : Int) → nW xs e 45 137 [some (2, 25), none, some (2, (p + 2)), none, none, some (0, x5), some (0, x6), some (0, x7), some (0, x8), some (0, x9), some (0, x10), some (0, x11), some (0, x12), some (0, x13), some (0, x14)] [] M (nPV fun M1 => Sf 3 ac M0 M1 ∧ (M1 15 10 = g) ∧ MK 27 27 26 0 0 1 3 9 0 0 0 0 0 0 M1)) := by
  have hd : (3 : Int) = 2 ∨ (3 : Int) = 3 := by decide
  have hac := hS.2.2.2.2
  intro nn
  induction nn with
  | zero => refine ⟨?_, ?_, ?_⟩ <;> (intros; omega)
  | succ nn ih =>
    refine ⟨?_, ?_, ?_⟩
    · intro x5 x6 x7 x8 x9 x10 M hS k5 k6 k7 k8 k9 k10 hK hgg v0 hnn
      refine n_iload c_45_86 rfl ?_
      refine n_iload c_45_88 rfl ?_
      refine n_if2_ge c_45_90 (by omega) (by omega) ?_ ?_
      · intro h1
        exact n_rV c_45_187 rfl ⟨hS, by omega, hK⟩
      · intro h2
        refine n_aload_n c_45_93 rfl ?_
        refine n_iload c_45_94 rfl ?_
        refine n_iload c_45_96 rfl ?_
        refine n_iadd c_45_98 rfl ?_
        refine n_ialoadV c_45_99 hp.c0.2.2.n rfl rfl rfl (by omega) (t_actrl hS hp hpl (Or.inr rfl) (by omega) (by omega)) ?_
        intro z3 ez3 f4
        refine n_aload_n c_45_100 rfl ?_
        refine n_getV (bi := 1) c_45_101 sc_25.n rfl rfl rfl hK.w25.1 ?_
        intro z5 ez5 f6
        obtain rfl : z5 = 1 := by omega
        refine n_imul c_45_104 rfl ?_
        refine n_istore (L2 := [some (2, 25), none, some (2, (p + 2)), none, none, some (0, x5), some (0, x6), some (0, x7), some (0, x8), some (0, x9), some (0, x10), some (0, (z3 * 1)), none, none, none]) c_45_105 rfl rfl ?_
        refine n_iconst c_45_107 ?_
        refine n_istore (L2 := [some (2, 25), none, some (2, (p + 2)), none, none, some (0, x5), some (0, x6), some (0, x7), some (0, x8), some (0, x9), some (0, x10), some (0, (z3 * 1)), some (0, 0), none, none]) c_45_108 rfl rfl ?_
        refine n_fg (le_s (le_n (le_s (le_n (le_n (le_s (le_s (le_s (le_s (le_s (le_s (le_s (le_s (le_n (le_n le_0))))))))))))))) ?_
        exact ih.2.1 _ _ _ _ _ _ _ _ M hS (by omega) (by omega) (by omega) (by omega) (by omega) (by omega) (by omega) (by omega) hK (by omega) (by omega) (by omega)
    · intro x5 x6 x7 x8 x9 x10 x11 x12 M hS k5 k6 k7 k8 k9 k10 k11 k12 hK hgg v0 hnn
      refine n_iload c_45_110 rfl ?_
      refine n_iload c_45_112 rfl ?_
      refine n_if2_ge c_45_114 (by omega) (by omega) ?_ ?_
      · intro h1
        refine n_iinc (L2 := [some (2, 25), none, some (2, (p + 2)), none, none, some (0, x5), some (0, x6), some (0, x7), some (0, x8), some (0, x9), some (0, (x10 + 1)), some (0, x11), some (0, x12), none, none]) c_45_181 rfl rfl rfl ?_
        refine n_goto c_45_184 ?_
        refine n_fg (le_s (le_n (le_s (le_n (le_n (le_s (le_s (le_s (le_s (le_s (le_s (le_n (le_n (le_n (le_n le_0))))))))))))))) ?_
        exact ih.1 _ _ _ _ _ _ M hS (by omega) (by omega) (by omega) (by omega) (by omega) (by omega) hK (by omega) (by omega) (by omega)
      · intro h2
        refine n_iload c_45_117 rfl ?_
        refine n_aload_n c_45_119 rfl ?_
        refine n_iload c_45_120 rfl ?_
        refine n_iload c_45_122 rfl ?_
        refine n_iadd c_45_124 rfl ?_
        refine n_ialoadV c_45_125 hp.c0.2.2.n rfl rfl rfl (by omega) (t_actrl hS hp hpl (Or.inr rfl) (by omega) (by omega)) ?_
        intro z3 ez3 f4
        refine n_aload_n c_45_126 rfl ?_
        refine n_getV (bi := 2) c_45_127 sc_25.n rfl rfl rfl hK.w25.2.1 ?_
        intro z5 ez5 f6
        obtain rfl : z5 = 3 := by omega
        refine n_imul c_45_130 rfl ?_
        refine n_iadd c_45_131 rfl ?_
        refine n_istore (L2 := [some (2, 25), none, some (2, (p + 2)), none, none, some (0, x5), some (0, x6), some (0, x7), some (0, x8), some (0, x9), some (0, x10), some (0, x11), some (0, x12), some (0, (x11 + (z3 * 3))), none]) c_45_132 rfl rfl ?_
        refine n_iconst c_45_134 ?_
        refine n_istore (L2 := [some (2, 25), none, some (2, (p + 2)), none, none, some (0, x5), some (0, x6), some (0, x7), some (0, x8), some (0, x9), some (0, x10), some (0, x11), some (0, x12), some (0, (x11 + (z3 * 3))), some (0, 0)]) c_45_135 rfl rfl ?_
        refine n_fg (le_s (le_n (le_s (le_n (le_n (le_s (le_s (le_s (le_s (le_s (le_s (le_s (le_s (le_s (le_s le_0))))))))))))))) ?_
        exact ih.2.2 _ _ _ _ _ _ _ _ _ _ M hS (by omega) (by omega) (by omega) (by omega) (by omega) (by omega) (by omega) (by omega) (by omega) (by omega) hK (by omega) (by omega) (by omega)
    · intro x5 x6 x7 x8 x9 x10 x11 x12 x13 x14 M hS k5 k6 k7 k8 k9 k10 k11 k12 k13 k14 hK hgg v0 hnn
      refine n_iload c_45_137 rfl ?_
      refine n_iload c_45_139 rfl ?_
      refine n_if2_ge c_45_141 (by omega) (by omega) ?_ ?_
      · intro h1
        refine n_iinc (L2 := [some (2, 25), none, some (2, (p + 2)), none, none, some (0, x5), some (0, x6), some (0, x7), some (0, x8), some (0, x9), some (0, x10), some (0, x11), some (0, (x12 + 1)), some (0, x13), some (0, x14)]) c_45_175 rfl rfl rfl ?_
        refine n_goto c_45_178 ?_
        refine n_fg (le_s (le_n (le_s (le_n (le_n (le_s (le_s (le_s (le_s (le_s (le_s (le_s (le_s (le_n (le_n le_0))))))))))))))) ?_
        exact ih.2.1 _ _ _ _ _ _ _ _ M hS (by omega) (by omega) (by omega) (by omega) (by omega) (by omega) (by omega) (by omega) hK (by omega) (by omega) (by omega)
      · intro h2
        refine n_aload_n c_45_144 rfl ?_
        refine n_getR c_45_145 sc_25.n rfl rfl rfl r_25_0 ?_
        refine n_iload c_45_148 rfl ?_
        refine n_iload c_45_150 rfl ?_
        refine n_aload_n c_45_152 rfl ?_
        refine n_iload c_45_153 rfl ?_
        refine n_iload c_45_155 rfl ?_
        refine n_iadd c_45_157 rfl ?_
        refine n_ialoadV c_45_158 hp.c0.2.2.n rfl rfl rfl (by omega) (t_actrl hS hp hpl (Or.inr rfl) (by omega) (by omega)) ?_
        intro z3 ez3 f4
        refine n_aload_n c_45_159 rfl ?_
        refine n_getV (bi := 3) c_45_160 sc_25.n rfl rfl rfl hK.w25.2.2 ?_
        intro z5 ez5 f6
        obtain rfl : z5 = 9 := by omega
        refine n_imul c_45_163 rfl ?_
        refine n_iadd c_45_164 rfl ?_
        refine n_iastoreV hS c_45_165 sc_26.n rfl (by omega) (w_26 (by omega) (by omega)) ?_
        intro M7 eM7 hS7
        have hK7 := hK.u (by unfold Kok; omega) eM7
        have g7_0 : M7 15 10 = M 15 10 := by rw [eM7]; exact nu_a (by omega)
        refine n_iinc (L2 := [some (2, 25), none, some (2, (p + 2)), none, none, some (0, x5), some (0, x6), some (0, x7), some (0, x8), some (0, (x9 + 1)), some (0, x10), some (0, x11), some (0, x12), some (0, x13), some (0, x14)]) c_45_166 rfl rfl rfl ?_
        refine n_iinc (L2 := [some (2, 25), none, some (2, (p + 2)), none, none, some (0, x5), some (0, x6), some (0, x7), some (0, x8), some (0, (x9 + 1)), some (0, x10), some (0, x11), some (0, x12), some (0, x13), some (0, (x14 + 1))]) c_45_169 rfl rfl rfl ?_
        refine n_goto c_45_172 ?_
        refine n_fg (le_s (le_n (le_s (le_n (le_n (le_s (le_s (le_s (le_s (le_s (le_s (le_s (le_s (le_s (le_s le_0))))))))))))))) ?_
        exact ih.2.2 _ _ _ _ _ _ _ _ _ _ M7 hS7 (by omega) (by omega) (by omega) (by omega) (by omega) (by omega) (by omega) (by omega) (by omega) (by omega) hK7 (by omega) (by omega) (by omega)
set_option maxHeartbeats 4000000 in
theorem fillM25U_1_3 {xs : List Int32} {e : Nat} {ac : Int} {M0 M : nM} {p i j g : Int} (hS : Sf 3 ac M0 M) (hp : ActAt p) (hpl : p < 55 + 3 * ac) (hi : 0 ≤ i ∧ i ≤ 26) (hj : 0 ≤ j ∧ j ≤ 26) (hK : MK 27 27 26 0 0 1 3 9 0 0 0 0 0 0 M) (hg : M 15 10 = g) : nW xs e 45 0 [some (2, 25), some (2, 4), some (2, (p + 2)), some (0, i), some (0, j), none, none, none, none, none, none, none, none, none, none] [] M (nPV fun M1 => Sf 3 ac M0 M1 ∧ (M1 15 10 = g) ∧ MK 27 27 26 0 0 1 3 9 0 0 0 0 0 0 M1) := by
  have hd : (3 : Int) = 2 ∨ (3 : Int) = 3 := by decide
  have hac := hS.2.2.2.2
  refine n_aload_n c_45_0 rfl ?_
  refine n_getV (bi := 1) c_45_1 sc_25.n rfl rfl rfl hK.w25.1 ?_
  intro z1 ez1 f2
  obtain rfl : z1 = 1 := by omega
  refine n_if0_ne c_45_4 (by omega) ?_ ?_
  · intro h3
    refine n_aload_n c_45_8 rfl ?_
    refine n_getV (bi := 0) c_45_9 sc_4.n rfl rfl rfl (t_4_0 hS) ?_
    intro z4 ez4 f5
    obtain rfl : z4 = 3 := by omega
    refine n_istore (L2 := [some (2, 25), some (2, 4), some (2, (p + 2)), some (0, i), some (0, j), some (0, 3), none, none, none, none, none, none, none, none, none]) c_45_12 rfl rfl ?_
    refine n_aload_n c_45_14 rfl ?_
    refine n_getR c_45_15 sc_4.n rfl rfl rfl r_4_2 ?_
    refine n_iload_n c_45_18 rfl ?_
    refine n_ialoadV c_45_19 sc_5.n rfl rfl rfl (by omega) (t_5d hS hd (by omega) (by omega)) ?_
    intro z6 ez6 f7
    refine n_iload c_45_20 rfl ?_
    refine n_imul c_45_22 rfl ?_
    refine n_aload_n c_45_23 rfl ?_
    refine n_getR c_45_24 sc_4.n rfl rfl rfl r_4_2 ?_
    refine n_iload c_45_27 rfl ?_
    refine n_ialoadV c_45_29 sc_5.n rfl rfl rfl (by omega) (t_5d hS hd (by omega) (by omega)) ?_
    intro z8 ez8 f9
    refine n_iadd c_45_30 rfl ?_
    refine n_iload c_45_31 rfl ?_
    refine n_imul c_45_33 rfl ?_
    refine n_istore (L2 := [some (2, 25), some (2, 4), some (2, (p + 2)), some (0, i), some (0, j), some (0, 3), some (0, (((z6 * 3) + z8) * 3)), none, none, none, none, none, none, none, none]) c_45_34 rfl rfl ?_
    refine n_aload_n c_45_36 rfl ?_
    refine n_getR c_45_37 sc_4.n rfl rfl rfl r_4_3 ?_
    refine n_iload_n c_45_40 rfl ?_
    refine n_ialoadV c_45_41 sc_6.n rfl rfl rfl (by omega) (t_6d hS hd (by omega) (by omega)) ?_
    intro z10 ez10 f11
    refine n_iload c_45_42 rfl ?_
    refine n_imul c_45_44 rfl ?_
    refine n_aload_n c_45_45 rfl ?_
    refine n_getR c_45_46 sc_4.n rfl rfl rfl r_4_3 ?_
    refine n_iload c_45_49 rfl ?_
    refine n_ialoadV c_45_51 sc_6.n rfl rfl rfl (by omega) (t_6d hS hd (by omega) (by omega)) ?_
    intro z12 ez12 f13
    refine n_iadd c_45_52 rfl ?_
    refine n_iload c_45_53 rfl ?_
    refine n_imul c_45_55 rfl ?_
    refine n_istore (L2 := [some (2, 25), some (2, 4), some (2, (p + 2)), some (0, i), some (0, j), some (0, 3), some (0, (((z6 * 3) + z8) * 3)), some (0, (((z10 * 3) + z12) * 3)), none, none, none, none, none, none, none]) c_45_56 rfl rfl ?_
    refine n_aload_n c_45_58 rfl ?_
    refine n_getR c_45_59 sc_4.n rfl rfl rfl r_4_4 ?_
    refine n_iload_n c_45_62 rfl ?_
    refine n_ialoadV c_45_63 sc_7.n rfl rfl rfl (by omega) (t_7d hS hd (by omega) (by omega)) ?_
    intro z14 ez14 f15
    refine n_iload c_45_64 rfl ?_
    refine n_imul c_45_66 rfl ?_
    refine n_aload_n c_45_67 rfl ?_
    refine n_getR c_45_68 sc_4.n rfl rfl rfl r_4_4 ?_
    refine n_iload c_45_71 rfl ?_
    refine n_ialoadV c_45_73 sc_7.n rfl rfl rfl (by omega) (t_7d hS hd (by omega) (by omega)) ?_
    intro z16 ez16 f17
    refine n_iadd c_45_74 rfl ?_
    refine n_iload c_45_75 rfl ?_
    refine n_imul c_45_77 rfl ?_
    refine n_istore (L2 := [some (2, 25), some (2, 4), some (2, (p + 2)), some (0, i), some (0, j), some (0, 3), some (0, (((z6 * 3) + z8) * 3)), some (0, (((z10 * 3) + z12) * 3)), some (0, (((z14 * 3) + z16) * 3)), none, none, none, none, none, none]) c_45_78 rfl rfl ?_
    refine n_iconst c_45_80 ?_
    refine n_istore (L2 := [some (2, 25), some (2, 4), some (2, (p + 2)), some (0, i), some (0, j), some (0, 3), some (0, (((z6 * 3) + z8) * 3)), some (0, (((z10 * 3) + z12) * 3)), some (0, (((z14 * 3) + z16) * 3)), some (0, 0), none, none, none, none, none]) c_45_81 rfl rfl ?_
    refine n_iconst c_45_83 ?_
    refine n_istore (L2 := [some (2, 25), some (2, 4), some (2, (p + 2)), some (0, i), some (0, j), some (0, 3), some (0, (((z6 * 3) + z8) * 3)), some (0, (((z10 * 3) + z12) * 3)), some (0, (((z14 * 3) + z16) * 3)), some (0, 0), some (0, 0), none, none, none, none]) c_45_84 rfl rfl ?_
    refine n_fg (le_s (le_n (le_s (le_n (le_n (le_s (le_s (le_s (le_s (le_s (le_s (le_n (le_n (le_n (le_n le_0))))))))))))))) ?_
    exact (fillM25U_1_3_c hS hp hpl hi hj hK hg 320).1 _ _ _ _ _ _ M hS (by omega) (by omega) (by omega) (by omega) (by omega) (by omega) hK (by omega) (by omega) (by omega)
  · intro h18
    exfalso; omega

set_option maxHeartbeats 4000000 in
theorem fillM27U_1_3 {xs : List Int32} {e : Nat} {ac : Int} {M0 M : nM} {p i j g : Int} (hS : Sf 3 ac M0 M) (hp : ActAt p) (hpl : p < 55 + 3 * ac) (hi : 0 ≤ i ∧ i ≤ 26) (hj : 0 ≤ j ∧ j ≤ 26) (hK : MK 27 27 26 0 0 1 3 9 0 0 0 0 0 0 M) (hg : M 15 10 = g) : nW xs e 45 0 [some (2, 27), some (2, 4), some (2, (p + 2)), some (0, i), some (0, j), none, none, none, none, none, none, none, none, none, none] [] M (nPV fun M1 => Sf 3 ac M0 M1 ∧ (M1 15 10 = g) ∧ MK 27 27 26 0 0 1 3 9 0 0 0 0 0 0 M1) := by
  have hd : (3 : Int) = 2 ∨ (3 : Int) = 3 := by decide
  have hac := hS.2.2.2.2
  refine n_aload_n c_45_0 rfl ?_
  refine n_getV (bi := 1) c_45_1 sc_27.n rfl rfl rfl hK.w27.1 ?_
  intro z1 ez1 f2
  obtain rfl : z1 = 0 := by omega
  refine n_if0_ne c_45_4 (by omega) ?_ ?_
  · intro h3
    exfalso; omega
  · intro h4
    exact n_rV c_45_7 rfl ⟨hS, by omega, hK⟩

set_option maxHeartbeats 4000000 in
theorem fillM29U_1_3 {xs : List Int32} {e : Nat} {ac : Int} {M0 M : nM} {p i j g : Int} (hS : Sf 3 ac M0 M) (hp : ActAt p) (hpl : p < 55 + 3 * ac) (hi : 0 ≤ i ∧ i ≤ 26) (hj : 0 ≤ j ∧ j ≤ 26) (hK : MK 27 27 26 0 0 1 3 9 0 0 0 0 0 0 M) (hg : M 15 10 = g) : nW xs e 45 0 [some (2, 29), some (2, 4), some (2, (p + 2)), some (0, i), some (0, j), none, none, none, none, none, none, none, none, none, none] [] M (nPV fun M1 => Sf 3 ac M0 M1 ∧ (M1 15 10 = g) ∧ MK 27 27 26 0 0 1 3 9 0 0 0 0 0 0 M1) := by
  have hd : (3 : Int) = 2 ∨ (3 : Int) = 3 := by decide
  have hac := hS.2.2.2.2
  refine n_aload_n c_45_0 rfl ?_
  refine n_getV (bi := 1) c_45_1 sc_29.n rfl rfl rfl hK.w29.1 ?_
  intro z1 ez1 f2
  obtain rfl : z1 = 0 := by omega
  refine n_if0_ne c_45_4 (by omega) ?_ ?_
  · intro h3
    exfalso; omega
  · intro h4
    exact n_rV c_45_7 rfl ⟨hS, by omega, hK⟩

set_option maxHeartbeats 4000000 in
theorem changeIn20_1_3 {xs : List Int32} {e : Nat} {ac : Int} {M0 M : nM} {i j g g2 : Int} (hS : Sf 3 ac M0 M) (hi : 0 ≤ i ∧ i ≤ 256) (hj : 0 ≤ j ∧ j ≤ 256) (hK : MK 27 27 26 0 0 1 3 9 0 0 0 0 0 0 M) (hg : M 15 10 = g) (hg2 : M 103 2 = g2) (hig : i < g) (hjg : j < g) : nW xs e 61 0 [some (2, 15), some (2, 20), some (0, i), some (0, j), none] [] M (nPV fun M1 => Sf 3 ac M0 M1 ∧ (M1 15 10 = g) ∧ (M1 103 2 = g2) ∧ MK 27 27 26 0 0 1 3 9 0 0 0 0 0 0 M1) := by
  have hd : (3 : Int) = 2 ∨ (3 : Int) = 3 := by decide
  have hac := hS.2.2.2.2
  refine n_aload_n c_61_0 rfl ?_
  refine n_iload_n c_61_1 rfl ?_
  refine n_ialoadV c_61_2 sc_20.n rfl rfl rfl (by omega) (hK.r20 hS (by omega) (by omega)) ?_
  intro z1 ez1 f2
  refine n_istore (L2 := [some (2, 15), some (2, 20), some (0, i), some (0, j), some (0, z1)]) c_61_3 rfl rfl ?_
  refine n_aload_n c_61_5 rfl ?_
  refine n_iload_n c_61_6 rfl ?_
  refine n_aload_n c_61_7 rfl ?_
  refine n_iload_n c_61_8 rfl ?_
  refine n_ialoadV c_61_9 sc_20.n rfl rfl rfl (by omega) (hK.r20 hS (by omega) (by omega)) ?_
  intro z3 ez3 f4
  refine n_iastoreV hS c_61_10 sc_20.n rfl (by omega) (w_20 (by omega) (by omega)) ?_
  intro M5 eM5 hS5
  have hK5 := hK.u (by unfold Kok; omega) eM5
  have g5_0 : M5 15 10 = M 15 10 := by rw [eM5]; exact nu_a (by omega)
  have g5_1 : M5 103 2 = M 103 2 := by rw [eM5]; exact nu_a (by omega)
  refine n_aload_n c_61_11 rfl ?_
  refine n_iload_n c_61_12 rfl ?_
  refine n_iload c_61_13 rfl ?_
  refine n_iastoreV hS5 c_61_15 sc_20.n rfl (by omega) (w_20 (by omega) (by omega)) ?_
  intro M6 eM6 hS6
  have hK6 := hK5.u (by unfold Kok; omega) eM6
  have g6_0 : M6 15 10 = M5 15 10 := by rw [eM6]; exact nu_a (by omega)
  have g6_1 : M6 103 2 = M5 103 2 := by rw [eM6]; exact nu_a (by omega)
  exact n_rV c_61_16 rfl ⟨hS6, by omega, by omega, hK6⟩

set_option maxHeartbeats 4000000 in
theorem changeIn21_1_3 {xs : List Int32} {e : Nat} {ac : Int} {M0 M : nM} {i j g g2 : Int} (hS : Sf 3 ac M0 M) (hi : 0 ≤ i ∧ i ≤ 256) (hj : 0 ≤ j ∧ j ≤ 256) (hK : MK 27 27 26 0 0 1 3 9 0 0 0 0 0 0 M) (hg : M 15 10 = g) (hg2 : M 103 2 = g2) (hig : i < g) (hjg : j < g) : nW xs e 61 0 [some (2, 15), some (2, 21), some (0, i), some (0, j), none] [] M (nPV fun M1 => Sf 3 ac M0 M1 ∧ (M1 15 10 = g) ∧ (M1 103 2 = g2) ∧ MK 27 27 26 0 0 1 3 9 0 0 0 0 0 0 M1) := by
  have hd : (3 : Int) = 2 ∨ (3 : Int) = 3 := by decide
  have hac := hS.2.2.2.2
  refine n_aload_n c_61_0 rfl ?_
  refine n_iload_n c_61_1 rfl ?_
  refine n_ialoadV c_61_2 sc_21.n rfl rfl rfl (by omega) (t_21 hS (by omega)) ?_
  intro z1 ez1 f2
  refine n_istore (L2 := [some (2, 15), some (2, 21), some (0, i), some (0, j), some (0, z1)]) c_61_3 rfl rfl ?_
  refine n_aload_n c_61_5 rfl ?_
  refine n_iload_n c_61_6 rfl ?_
  refine n_aload_n c_61_7 rfl ?_
  refine n_iload_n c_61_8 rfl ?_
  refine n_ialoadV c_61_9 sc_21.n rfl rfl rfl (by omega) (t_21 hS (by omega)) ?_
  intro z3 ez3 f4
  refine n_iastoreV hS c_61_10 sc_21.n rfl (by omega) (w_21 (by omega) (by omega)) ?_
  intro M5 eM5 hS5
  have hK5 := hK.u (by unfold Kok; omega) eM5
  have g5_0 : M5 15 10 = M 15 10 := by rw [eM5]; exact nu_a (by omega)
  have g5_1 : M5 103 2 = M 103 2 := by rw [eM5]; exact nu_a (by omega)
  refine n_aload_n c_61_11 rfl ?_
  refine n_iload_n c_61_12 rfl ?_
  refine n_iload c_61_13 rfl ?_
  refine n_iastoreV hS5 c_61_15 sc_21.n rfl (by omega) (w_21 (by omega) (by omega)) ?_
  intro M6 eM6 hS6
  have hK6 := hK5.u (by unfold Kok; omega) eM6
  have g6_0 : M6 15 10 = M5 15 10 := by rw [eM6]; exact nu_a (by omega)
  have g6_1 : M6 103 2 = M5 103 2 := by rw [eM6]; exact nu_a (by omega)
  exact n_rV c_61_16 rfl ⟨hS6, by omega, by omega, hK6⟩

set_option maxHeartbeats 4000000 in
theorem changeIn22_1_3 {xs : List Int32} {e : Nat} {ac : Int} {M0 M : nM} {i j g g2 : Int} (hS : Sf 3 ac M0 M) (hi : 0 ≤ i ∧ i ≤ 256) (hj : 0 ≤ j ∧ j ≤ 256) (hK : MK 27 27 26 0 0 1 3 9 0 0 0 0 0 0 M) (hg : M 15 10 = g) (hg2 : M 103 2 = g2) (hig : i < g) (hjg : j < g) : nW xs e 61 0 [some (2, 15), some (2, 22), some (0, i), some (0, j), none] [] M (nPV fun M1 => Sf 3 ac M0 M1 ∧ (M1 15 10 = g) ∧ (M1 103 2 = g2) ∧ MK 27 27 26 0 0 1 3 9 0 0 0 0 0 0 M1) := by
  have hd : (3 : Int) = 2 ∨ (3 : Int) = 3 := by decide
  have hac := hS.2.2.2.2
  refine n_aload_n c_61_0 rfl ?_
  refine n_iload_n c_61_1 rfl ?_
  refine n_ialoadV c_61_2 sc_22.n rfl rfl rfl (by omega) (hK.r22 hS (by omega) (by omega)) ?_
  intro z1 ez1 f2
  refine n_istore (L2 := [some (2, 15), some (2, 22), some (0, i), some (0, j), some (0, z1)]) c_61_3 rfl rfl ?_
  refine n_aload_n c_61_5 rfl ?_
  refine n_iload_n c_61_6 rfl ?_
  refine n_aload_n c_61_7 rfl ?_
  refine n_iload_n c_61_8 rfl ?_
  refine n_ialoadV c_61_9 sc_22.n rfl rfl rfl (by omega) (hK.r22 hS (by omega) (by omega)) ?_
  intro z3 ez3 f4
  refine n_iastoreV hS c_61_10 sc_22.n rfl (by omega) (w_22 (by omega) (by omega)) ?_
  intro M5 eM5 hS5
  have hK5 := hK.u (by unfold Kok; omega) eM5
  have g5_0 : M5 15 10 = M 15 10 := by rw [eM5]; exact nu_a (by omega)
  have g5_1 : M5 103 2 = M 103 2 := by rw [eM5]; exact nu_a (by omega)
  refine n_aload_n c_61_11 rfl ?_
  refine n_iload_n c_61_12 rfl ?_
  refine n_iload c_61_13 rfl ?_
  refine n_iastoreV hS5 c_61_15 sc_22.n rfl (by omega) (w_22 (by omega) (by omega)) ?_
  intro M6 eM6 hS6
  have hK6 := hK5.u (by unfold Kok; omega) eM6
  have g6_0 : M6 15 10 = M5 15 10 := by rw [eM6]; exact nu_a (by omega)
  have g6_1 : M6 103 2 = M5 103 2 := by rw [eM6]; exact nu_a (by omega)
  exact n_rV c_61_16 rfl ⟨hS6, by omega, by omega, hK6⟩

set_option maxHeartbeats 4000000 in
theorem changeIn23_1_3 {xs : List Int32} {e : Nat} {ac : Int} {M0 M : nM} {i j g g2 : Int} (hS : Sf 3 ac M0 M) (hi : 0 ≤ i ∧ i ≤ 256) (hj : 0 ≤ j ∧ j ≤ 256) (hK : MK 27 27 26 0 0 1 3 9 0 0 0 0 0 0 M) (hg : M 15 10 = g) (hg2 : M 103 2 = g2) (hig : i < g) (hjg : j < g) : nW xs e 61 0 [some (2, 15), some (2, 23), some (0, i), some (0, j), none] [] M (nPV fun M1 => Sf 3 ac M0 M1 ∧ (M1 15 10 = g) ∧ (M1 103 2 = g2) ∧ MK 27 27 26 0 0 1 3 9 0 0 0 0 0 0 M1) := by
  have hd : (3 : Int) = 2 ∨ (3 : Int) = 3 := by decide
  have hac := hS.2.2.2.2
  refine n_aload_n c_61_0 rfl ?_
  refine n_iload_n c_61_1 rfl ?_
  refine n_ialoadV c_61_2 sc_23.n rfl rfl rfl (by omega) (hK.r23 hS (by omega) (by omega)) ?_
  intro z1 ez1 f2
  refine n_istore (L2 := [some (2, 15), some (2, 23), some (0, i), some (0, j), some (0, z1)]) c_61_3 rfl rfl ?_
  refine n_aload_n c_61_5 rfl ?_
  refine n_iload_n c_61_6 rfl ?_
  refine n_aload_n c_61_7 rfl ?_
  refine n_iload_n c_61_8 rfl ?_
  refine n_ialoadV c_61_9 sc_23.n rfl rfl rfl (by omega) (hK.r23 hS (by omega) (by omega)) ?_
  intro z3 ez3 f4
  refine n_iastoreV hS c_61_10 sc_23.n rfl (by omega) (w_23 (by omega) (by omega)) ?_
  intro M5 eM5 hS5
  have hK5 := hK.u (by unfold Kok; omega) eM5
  have g5_0 : M5 15 10 = M 15 10 := by rw [eM5]; exact nu_a (by omega)
  have g5_1 : M5 103 2 = M 103 2 := by rw [eM5]; exact nu_a (by omega)
  refine n_aload_n c_61_11 rfl ?_
  refine n_iload_n c_61_12 rfl ?_
  refine n_iload c_61_13 rfl ?_
  refine n_iastoreV hS5 c_61_15 sc_23.n rfl (by omega) (w_23 (by omega) (by omega)) ?_
  intro M6 eM6 hS6
  have hK6 := hK5.u (by unfold Kok; omega) eM6
  have g6_0 : M6 15 10 = M5 15 10 := by rw [eM6]; exact nu_a (by omega)
  have g6_1 : M6 103 2 = M5 103 2 := by rw [eM6]; exact nu_a (by omega)
  exact n_rV c_61_16 rfl ⟨hS6, by omega, by omega, hK6⟩

set_option maxHeartbeats 4000000 in
theorem changeIn24_1_3 {xs : List Int32} {e : Nat} {ac : Int} {M0 M : nM} {i j g g2 : Int} (hS : Sf 3 ac M0 M) (hi : 0 ≤ i ∧ i ≤ 256) (hj : 0 ≤ j ∧ j ≤ 256) (hK : MK 27 27 26 0 0 1 3 9 0 0 0 0 0 0 M) (hg : M 15 10 = g) (hg2 : M 103 2 = g2) (hig : i < g) (hjg : j < g) : nW xs e 61 0 [some (2, 15), some (2, 24), some (0, i), some (0, j), none] [] M (nPV fun M1 => Sf 3 ac M0 M1 ∧ (M1 15 10 = g) ∧ (M1 103 2 = g2) ∧ MK 27 27 26 0 0 1 3 9 0 0 0 0 0 0 M1) := by
  have hd : (3 : Int) = 2 ∨ (3 : Int) = 3 := by decide
  have hac := hS.2.2.2.2
  refine n_aload_n c_61_0 rfl ?_
  refine n_iload_n c_61_1 rfl ?_
  refine n_ialoadV c_61_2 sc_24.n rfl rfl rfl (by omega) (hK.r24 hS (by omega) (by omega)) ?_
  intro z1 ez1 f2
  refine n_istore (L2 := [some (2, 15), some (2, 24), some (0, i), some (0, j), some (0, z1)]) c_61_3 rfl rfl ?_
  refine n_aload_n c_61_5 rfl ?_
  refine n_iload_n c_61_6 rfl ?_
  refine n_aload_n c_61_7 rfl ?_
  refine n_iload_n c_61_8 rfl ?_
  refine n_ialoadV c_61_9 sc_24.n rfl rfl rfl (by omega) (hK.r24 hS (by omega) (by omega)) ?_
  intro z3 ez3 f4
  refine n_iastoreV hS c_61_10 sc_24.n rfl (by omega) (w_24 (by omega) (by omega)) ?_
  intro M5 eM5 hS5
  have hK5 := hK.u (by unfold Kok; omega) eM5
  have g5_0 : M5 15 10 = M 15 10 := by rw [eM5]; exact nu_a (by omega)
  have g5_1 : M5 103 2 = M 103 2 := by rw [eM5]; exact nu_a (by omega)
  refine n_aload_n c_61_11 rfl ?_
  refine n_iload_n c_61_12 rfl ?_
  refine n_iload c_61_13 rfl ?_
  refine n_iastoreV hS5 c_61_15 sc_24.n rfl (by omega) (w_24 (by omega) (by omega)) ?_
  intro M6 eM6 hS6
  have hK6 := hK5.u (by unfold Kok; omega) eM6
  have g6_0 : M6 15 10 = M5 15 10 := by rw [eM6]; exact nu_a (by omega)
  have g6_1 : M6 103 2 = M5 103 2 := by rw [eM6]; exact nu_a (by omega)
  exact n_rV c_61_16 rfl ⟨hS6, by omega, by omega, hK6⟩

set_option maxHeartbeats 4000000 in
theorem mostMade_1_3_c {xs : List Int32} {e : Nat} {ac : Int} {M0 M : nM} (hS : Sf 3 ac M0 M)  : ∀ nn : Nat, (∀ (x2 x3 x4 : Int), (3 ≤ x2 ∧ x2 ≤ 3) → (-2147483648 ≤ x3 ∧ x3 ≤ 2147483647) → (0 ≤ x4 ∧ x4 ≤ 3) → (3 - x4) * 1 + 1 < (nn : Int) → nW xs (e + 4) 131 14 [some (2, 3), some (0, 1), some (0, x2), some (0, x3), some (0, x4)] [] M (nPI fun z M1 => M = M1 ∧ (-2147483648 ≤ z ∧ z ≤ 2147483647))) := by
  have hd : (3 : Int) = 2 ∨ (3 : Int) = 3 := by decide
  have hac := hS.2.2.2.2
  intro nn
  induction nn with
  | zero => intros; omega
  | succ nn ih =>
    intro x2 x3 x4 k2 k3 k4 hnn
    refine n_iload c_131_14 rfl ?_
    refine n_iload_n c_131_16 rfl ?_
    refine n_if2_ge c_131_17 (by omega) (by omega) ?_ ?_
    · intro h1
      refine n_iload_n c_131_46 rfl ?_
      exact n_rI c_131_47 rfl ⟨rfl, by omega⟩
    · intro h2
      refine n_iload_n c_131_20 rfl ?_
      refine n_aload_n c_131_21 rfl ?_
      refine n_aload_n c_131_22 rfl ?_
      refine n_getR c_131_23 sc_3.n rfl rfl rfl r_3_0 ?_
      refine n_iload c_131_26 rfl ?_
      refine n_iload_n c_131_28 rfl ?_
      refine n_v2I c_131_29 rfl sc_4.n rfl rfl rfl rfl (thingsOf_3 (r := x4) (p := 1) hS (by omega) (by omega)) ?_
      intro z3 M4 hP5
      obtain ⟨eM, f5⟩ := hP5
      subst eM
      refine n_v1I c_131_32 rfl sc_3.n rfl rfl rfl rfl (leastHeap_3 (m := z3) hS (by omega)) ?_
      intro z6 M7 hP8
      obtain ⟨eM, f8⟩ := hP8
      subst eM
      refine n_s1I c_131_35 rfl rfl rfl rfl (ibits_3 (x := z6) hS (by omega)) ?_
      intro z9 M10 hP11
      obtain ⟨eM, f11⟩ := hP11
      subst eM
      refine n_imul c_131_38 rfl ?_
      refine n_wrap ?_
      have f12 := n_wr_r (x3 * z9)
      generalize n_wr (x3 * z9) = z13 at f12 ⊢
      refine n_istore_n (L2 := [some (2, 3), some (0, 1), some (0, x2), some (0, z13), some (0, x4)]) c_131_39 rfl rfl ?_
      refine n_iinc (L2 := [some (2, 3), some (0, 1), some (0, x2), some (0, z13), some (0, (x4 + 1))]) c_131_40 rfl rfl rfl ?_
      refine n_goto c_131_43 ?_
      refine n_fg (le_s (le_s (le_s (le_s (le_s le_0))))) ?_
      exact ih _ _ _ (by omega) (by omega) (by omega) (by omega)
set_option maxHeartbeats 4000000 in
theorem mostMade_1_3 {xs : List Int32} {e : Nat} {ac : Int} {M0 M : nM} (hS : Sf 3 ac M0 M)  : nW xs (e + 4) 131 0 [some (2, 3), some (0, 1), none, none, none] [] M (nPI fun z M1 => M = M1 ∧ (-2147483648 ≤ z ∧ z ≤ 2147483647)) := by
  have hd : (3 : Int) = 2 ∨ (3 : Int) = 3 := by decide
  have hac := hS.2.2.2.2
  refine n_aload_n c_131_0 rfl ?_
  refine n_getR c_131_1 sc_3.n rfl rfl rfl r_3_0 ?_
  refine n_iload_n c_131_4 rfl ?_
  refine n_v1I c_131_5 rfl sc_4.n rfl rfl rfl rfl (power1_3  hS ) ?_
  intro z1 M2 hP3
  obtain ⟨eM, f3⟩ := hP3
  subst eM
  obtain rfl : z1 = 3 := by omega
  refine n_istore_n (L2 := [some (2, 3), some (0, 1), some (0, 3), none, none]) c_131_8 rfl rfl ?_
  refine n_iconst c_131_9 ?_
  refine n_istore_n (L2 := [some (2, 3), some (0, 1), some (0, 3), some (0, 1), none]) c_131_10 rfl rfl ?_
  refine n_iconst c_131_11 ?_
  refine n_istore (L2 := [some (2, 3), some (0, 1), some (0, 3), some (0, 1), some (0, 0)]) c_131_12 rfl rfl ?_
  refine n_fg (le_s (le_s (le_s (le_s (le_s le_0))))) ?_
  exact (mostMade_1_3_c hS  20) _ _ _ (by omega) (by omega) (by omega) (by omega)

set_option maxHeartbeats 4000000 in
theorem sizeOf_1_3_c {xs : List Int32} {e : Nat} {ac : Int} {M0 M : nM} {c : Int} (hS : Sf 3 ac M0 M) (hc : -2147483648 ≤ c ∧ c ≤ 2147483647) : ∀ nn : Nat, (∀ (x2 : Int), (0 ≤ x2 ∧ x2 ≤ 256) → (256 - x2) * 1 + 1 < (nn : Int) → nW xs e 47 2 [some (2, 103), some (0, c), some (0, x2)] [] M (nPI fun z M1 => M = M1 ∧ (-2147483648 ≤ z ∧ z ≤ 2147483647))) := by
  have hd : (3 : Int) = 2 ∨ (3 : Int) = 3 := by decide
  have hac := hS.2.2.2.2
  intro nn
  induction nn with
  | zero => intros; omega
  | succ nn ih =>
    intro x2 k2 hnn
    refine n_iload_n c_47_2 rfl ?_
    refine n_aload_n c_47_3 rfl ?_
    refine n_getV (bi := 2) c_47_4 made103.c0.1.n rfl rfl rfl (t_made hS made103).2.2 ?_
    intro z1 ez1 f2
    refine n_if2_ge c_47_7 (by omega) (by omega) ?_ ?_
    · intro h3
      refine n_bipush c_47_33 rfl ?_
      exact n_rI c_47_35 rfl ⟨rfl, by omega⟩
    · intro h4
      refine n_aload_n c_47_10 rfl ?_
      refine n_getR c_47_11 made103.c0.1.n rfl rfl rfl made103.r.1 ?_
      refine n_iload_n c_47_14 rfl ?_
      refine n_ialoadV c_47_15 made103.c0.2.1.n rfl rfl rfl (by omega) (t_mader hS made103 (Or.inl rfl) (by omega)) ?_
      intro z5 ez5 f6
      refine n_iload_n c_47_16 rfl ?_
      refine n_if2_ne c_47_17 (by omega) (by omega) ?_ ?_
      · intro h7
        refine n_iinc (L2 := [some (2, 103), some (0, c), some (0, (x2 + 1))]) c_47_27 rfl rfl rfl ?_
        refine n_goto c_47_30 ?_
        refine n_fg (le_s (le_s (le_s le_0))) ?_
        exact ih _ (by omega) (by omega)
      · intro h8
        refine n_aload_n c_47_20 rfl ?_
        refine n_getR c_47_21 made103.c0.1.n rfl rfl rfl made103.r.2 ?_
        refine n_iload_n c_47_24 rfl ?_
        refine n_ialoadV c_47_25 made103.c0.2.2.n rfl rfl rfl (by omega) (t_mader hS made103 (Or.inr rfl) (by omega)) ?_
        intro z9 ez9 f10
        exact n_rI c_47_26 rfl ⟨rfl, by omega⟩
set_option maxHeartbeats 4000000 in
theorem sizeOf_1_3 {xs : List Int32} {e : Nat} {ac : Int} {M0 M : nM} {c : Int} (hS : Sf 3 ac M0 M) (hc : -2147483648 ≤ c ∧ c ≤ 2147483647) : nW xs e 47 0 [some (2, 103), some (0, c), none] [] M (nPI fun z M1 => M = M1 ∧ (-2147483648 ≤ z ∧ z ≤ 2147483647)) := by
  have hd : (3 : Int) = 2 ∨ (3 : Int) = 3 := by decide
  have hac := hS.2.2.2.2
  refine n_iconst c_47_0 ?_
  refine n_istore_n (L2 := [some (2, 103), some (0, c), some (0, 0)]) c_47_1 rfl rfl ?_
  refine n_fg (le_s (le_s (le_s le_0))) ?_
  exact (sizeOf_1_3_c hS hc 526) _ (by omega) (by omega)

set_option maxHeartbeats 4000000 in
theorem weight0_2_3 {xs : List Int32} {e : Nat} {ac : Int} {M0 M : nM} (hS : Sf 3 ac M0 M) (hB : M 15 0 = 4) : nW xs (e + 1) 52 0 [some (2, 15), some (0, 0), some (0, 9)] [] M (nPI fun z M1 => M = M1 ∧ (1 ≤ z ∧ z ≤ 1)) := by
  have hd : (3 : Int) = 2 ∨ (3 : Int) = 3 := by decide
  have hac := hS.2.2.2.2
  refine n_iload_n c_52_0 rfl ?_
  refine n_iload_n c_52_1 rfl ?_
  refine n_if2_ge c_52_2 (by omega) (by omega) ?_ ?_
  · intro h1
    exfalso; omega
  · intro h2
    refine n_aload_n c_52_5 rfl ?_
    refine n_getB c_52_6 hB ?_
    refine n_iload_n c_52_9 rfl ?_
    refine n_v1I c_52_10 rfl sc_4.n rfl rfl rfl rfl (power0_3  hS ) ?_
    intro z3 M4 hP5
    obtain ⟨eM, f5⟩ := hP5
    subst eM
    obtain rfl : z3 = 1 := by omega
    refine n_goto c_52_13 ?_
    exact n_rI c_52_17 rfl ⟨rfl, by omega⟩

set_option maxHeartbeats 4000000 in
theorem weight1_2_3 {xs : List Int32} {e : Nat} {ac : Int} {M0 M : nM} (hS : Sf 3 ac M0 M) (hB : M 15 0 = 4) : nW xs (e + 1) 52 0 [some (2, 15), some (0, 1), some (0, 9)] [] M (nPI fun z M1 => M = M1 ∧ (3 ≤ z ∧ z ≤ 3)) := by
  have hd : (3 : Int) = 2 ∨ (3 : Int) = 3 := by decide
  have hac := hS.2.2.2.2
  refine n_iload_n c_52_0 rfl ?_
  refine n_iload_n c_52_1 rfl ?_
  refine n_if2_ge c_52_2 (by omega) (by omega) ?_ ?_
  · intro h1
    exfalso; omega
  · intro h2
    refine n_aload_n c_52_5 rfl ?_
    refine n_getB c_52_6 hB ?_
    refine n_iload_n c_52_9 rfl ?_
    refine n_v1I c_52_10 rfl sc_4.n rfl rfl rfl rfl (power1_3  hS ) ?_
    intro z3 M4 hP5
    obtain ⟨eM, f5⟩ := hP5
    subst eM
    obtain rfl : z3 = 3 := by omega
    refine n_goto c_52_13 ?_
    exact n_rI c_52_17 rfl ⟨rfl, by omega⟩

set_option maxHeartbeats 4000000 in
theorem weight2_2_3 {xs : List Int32} {e : Nat} {ac : Int} {M0 M : nM} (hS : Sf 3 ac M0 M) (hB : M 15 0 = 4) : nW xs (e + 1) 52 0 [some (2, 15), some (0, 2), some (0, 9)] [] M (nPI fun z M1 => M = M1 ∧ (9 ≤ z ∧ z ≤ 9)) := by
  have hd : (3 : Int) = 2 ∨ (3 : Int) = 3 := by decide
  have hac := hS.2.2.2.2
  refine n_iload_n c_52_0 rfl ?_
  refine n_iload_n c_52_1 rfl ?_
  refine n_if2_ge c_52_2 (by omega) (by omega) ?_ ?_
  · intro h1
    exfalso; omega
  · intro h2
    refine n_aload_n c_52_5 rfl ?_
    refine n_getB c_52_6 hB ?_
    refine n_iload_n c_52_9 rfl ?_
    refine n_v1I c_52_10 rfl sc_4.n rfl rfl rfl rfl (power2_3  hS ) ?_
    intro z3 M4 hP5
    obtain ⟨eM, f5⟩ := hP5
    subst eM
    obtain rfl : z3 = 9 := by omega
    refine n_goto c_52_13 ?_
    exact n_rI c_52_17 rfl ⟨rfl, by omega⟩

set_option maxHeartbeats 4000000 in
theorem weight3_2_3 {xs : List Int32} {e : Nat} {ac : Int} {M0 M : nM} (hS : Sf 3 ac M0 M) (hB : M 15 0 = 4) : nW xs (e + 1) 52 0 [some (2, 15), some (0, 3), some (0, 9)] [] M (nPI fun z M1 => M = M1 ∧ (27 ≤ z ∧ z ≤ 27)) := by
  have hd : (3 : Int) = 2 ∨ (3 : Int) = 3 := by decide
  have hac := hS.2.2.2.2
  refine n_iload_n c_52_0 rfl ?_
  refine n_iload_n c_52_1 rfl ?_
  refine n_if2_ge c_52_2 (by omega) (by omega) ?_ ?_
  · intro h1
    exfalso; omega
  · intro h2
    refine n_aload_n c_52_5 rfl ?_
    refine n_getB c_52_6 hB ?_
    refine n_iload_n c_52_9 rfl ?_
    refine n_v1I c_52_10 rfl sc_4.n rfl rfl rfl rfl (power3_3  hS ) ?_
    intro z3 M4 hP5
    obtain ⟨eM, f5⟩ := hP5
    subst eM
    obtain rfl : z3 = 27 := by omega
    refine n_goto c_52_13 ?_
    exact n_rI c_52_17 rfl ⟨rfl, by omega⟩

set_option maxHeartbeats 4000000 in
theorem weight4_2_3 {xs : List Int32} {e : Nat} {ac : Int} {M0 M : nM} (hS : Sf 3 ac M0 M) (hB : M 15 0 = 4) : nW xs (e + 1) 52 0 [some (2, 15), some (0, 4), some (0, 9)] [] M (nPI fun z M1 => M = M1 ∧ (81 ≤ z ∧ z ≤ 81)) := by
  have hd : (3 : Int) = 2 ∨ (3 : Int) = 3 := by decide
  have hac := hS.2.2.2.2
  refine n_iload_n c_52_0 rfl ?_
  refine n_iload_n c_52_1 rfl ?_
  refine n_if2_ge c_52_2 (by omega) (by omega) ?_ ?_
  · intro h1
    exfalso; omega
  · intro h2
    refine n_aload_n c_52_5 rfl ?_
    refine n_getB c_52_6 hB ?_
    refine n_iload_n c_52_9 rfl ?_
    refine n_v1I c_52_10 rfl sc_4.n rfl rfl rfl rfl (power4_3  hS ) ?_
    intro z3 M4 hP5
    obtain ⟨eM, f5⟩ := hP5
    subst eM
    obtain rfl : z3 = 81 := by omega
    refine n_goto c_52_13 ?_
    exact n_rI c_52_17 rfl ⟨rfl, by omega⟩

set_option maxHeartbeats 4000000 in
theorem weight5_2_3 {xs : List Int32} {e : Nat} {ac : Int} {M0 M : nM} (hS : Sf 3 ac M0 M) (hB : M 15 0 = 4) : nW xs (e + 1) 52 0 [some (2, 15), some (0, 5), some (0, 9)] [] M (nPI fun z M1 => M = M1 ∧ (243 ≤ z ∧ z ≤ 243)) := by
  have hd : (3 : Int) = 2 ∨ (3 : Int) = 3 := by decide
  have hac := hS.2.2.2.2
  refine n_iload_n c_52_0 rfl ?_
  refine n_iload_n c_52_1 rfl ?_
  refine n_if2_ge c_52_2 (by omega) (by omega) ?_ ?_
  · intro h1
    exfalso; omega
  · intro h2
    refine n_aload_n c_52_5 rfl ?_
    refine n_getB c_52_6 hB ?_
    refine n_iload_n c_52_9 rfl ?_
    refine n_v1I c_52_10 rfl sc_4.n rfl rfl rfl rfl (power5_3  hS ) ?_
    intro z3 M4 hP5
    obtain ⟨eM, f5⟩ := hP5
    subst eM
    obtain rfl : z3 = 243 := by omega
    refine n_goto c_52_13 ?_
    exact n_rI c_52_17 rfl ⟨rfl, by omega⟩

set_option maxHeartbeats 4000000 in
theorem weight6_2_3 {xs : List Int32} {e : Nat} {ac : Int} {M0 M : nM} (hS : Sf 3 ac M0 M) (hB : M 15 0 = 4) : nW xs (e + 1) 52 0 [some (2, 15), some (0, 6), some (0, 9)] [] M (nPI fun z M1 => M = M1 ∧ (729 ≤ z ∧ z ≤ 729)) := by
  have hd : (3 : Int) = 2 ∨ (3 : Int) = 3 := by decide
  have hac := hS.2.2.2.2
  refine n_iload_n c_52_0 rfl ?_
  refine n_iload_n c_52_1 rfl ?_
  refine n_if2_ge c_52_2 (by omega) (by omega) ?_ ?_
  · intro h1
    exfalso; omega
  · intro h2
    refine n_aload_n c_52_5 rfl ?_
    refine n_getB c_52_6 hB ?_
    refine n_iload_n c_52_9 rfl ?_
    refine n_v1I c_52_10 rfl sc_4.n rfl rfl rfl rfl (power6_3  hS ) ?_
    intro z3 M4 hP5
    obtain ⟨eM, f5⟩ := hP5
    subst eM
    obtain rfl : z3 = 729 := by omega
    refine n_goto c_52_13 ?_
    exact n_rI c_52_17 rfl ⟨rfl, by omega⟩

set_option maxHeartbeats 4000000 in
theorem weight7_2_3 {xs : List Int32} {e : Nat} {ac : Int} {M0 M : nM} (hS : Sf 3 ac M0 M) (hB : M 15 0 = 4) : nW xs (e + 1) 52 0 [some (2, 15), some (0, 7), some (0, 9)] [] M (nPI fun z M1 => M = M1 ∧ (2187 ≤ z ∧ z ≤ 2187)) := by
  have hd : (3 : Int) = 2 ∨ (3 : Int) = 3 := by decide
  have hac := hS.2.2.2.2
  refine n_iload_n c_52_0 rfl ?_
  refine n_iload_n c_52_1 rfl ?_
  refine n_if2_ge c_52_2 (by omega) (by omega) ?_ ?_
  · intro h1
    exfalso; omega
  · intro h2
    refine n_aload_n c_52_5 rfl ?_
    refine n_getB c_52_6 hB ?_
    refine n_iload_n c_52_9 rfl ?_
    refine n_v1I c_52_10 rfl sc_4.n rfl rfl rfl rfl (power7_3  hS ) ?_
    intro z3 M4 hP5
    obtain ⟨eM, f5⟩ := hP5
    subst eM
    obtain rfl : z3 = 2187 := by omega
    refine n_goto c_52_13 ?_
    exact n_rI c_52_17 rfl ⟨rfl, by omega⟩

set_option maxHeartbeats 4000000 in
theorem weight8_2_3 {xs : List Int32} {e : Nat} {ac : Int} {M0 M : nM} (hS : Sf 3 ac M0 M) (hB : M 15 0 = 4) : nW xs (e + 1) 52 0 [some (2, 15), some (0, 8), some (0, 9)] [] M (nPI fun z M1 => M = M1 ∧ (6561 ≤ z ∧ z ≤ 6561)) := by
  have hd : (3 : Int) = 2 ∨ (3 : Int) = 3 := by decide
  have hac := hS.2.2.2.2
  refine n_iload_n c_52_0 rfl ?_
  refine n_iload_n c_52_1 rfl ?_
  refine n_if2_ge c_52_2 (by omega) (by omega) ?_ ?_
  · intro h1
    exfalso; omega
  · intro h2
    refine n_aload_n c_52_5 rfl ?_
    refine n_getB c_52_6 hB ?_
    refine n_iload_n c_52_9 rfl ?_
    refine n_v1I c_52_10 rfl sc_4.n rfl rfl rfl rfl (power8_3  hS ) ?_
    intro z3 M4 hP5
    obtain ⟨eM, f5⟩ := hP5
    subst eM
    obtain rfl : z3 = 6561 := by omega
    refine n_goto c_52_13 ?_
    exact n_rI c_52_17 rfl ⟨rfl, by omega⟩

set_option maxHeartbeats 4000000 in
theorem weigh25_2_3 {xs : List Int32} {e : Nat} {ac : Int} {M0 M : nM} {Ms : nM} (hS : Sf 3 ac M0 M) (hf : ∀ a i : Int, a ≠ 25 → a ≠ 26 → M a i = Ms a i) : nW xs (e + 1) 44 0 [some (2, 25), some (0, 1), some (0, 3), some (0, 9)] [] M (nPV fun M1 => Sf 3 ac M0 M1 ∧ (∀ a i : Int, a ≠ 25 → a ≠ 26 → M1 a i = Ms a i) ∧ (LK 25 26 1 3 9 M1)) := by
  have hd : (3 : Int) = 2 ∨ (3 : Int) = 3 := by decide
  have hac := hS.2.2.2.2
  refine n_aload_n c_44_0 rfl ?_
  refine n_iload_n c_44_1 rfl ?_
  refine n_putV (bi := 1) hS c_44_2 sc_25.n rfl rfl rfl rfl (w_25_1 (by omega)) ?_
  intro M1 eM1 hS1
  have g1_0 : M1 25 1 = 1 := by rw [eM1]; exact nu_s _ _ _ _
  refine n_aload_n c_44_5 rfl ?_
  refine n_iload_n c_44_6 rfl ?_
  refine n_putV (bi := 2) hS1 c_44_7 sc_25.n rfl rfl rfl rfl (w_25_2 (by omega)) ?_
  intro M2 eM2 hS2
  have g2_0 : M2 25 1 = M1 25 1 := by rw [eM2]; exact nu_i (by omega)
  have g2_1 : M2 25 2 = 3 := by rw [eM2]; exact nu_s _ _ _ _
  refine n_aload_n c_44_10 rfl ?_
  refine n_iload_n c_44_11 rfl ?_
  refine n_putV (bi := 3) hS2 c_44_12 sc_25.n rfl rfl rfl rfl (w_25_3 (by omega)) ?_
  intro M3 eM3 hS3
  have g3_0 : M3 25 1 = M2 25 1 := by rw [eM3]; exact nu_i (by omega)
  have g3_1 : M3 25 2 = M2 25 2 := by rw [eM3]; exact nu_i (by omega)
  have g3_2 : M3 25 3 = 9 := by rw [eM3]; exact nu_s _ _ _ _
  refine n_aload_n c_44_15 rfl ?_
  refine n_getR c_44_16 sc_25.n rfl rfl rfl r_25_0 ?_
  refine n_iconst c_44_19 ?_
  refine n_s2V c_44_20 rfl rfl rfl rfl (fillR25_3 (Ms := M3) hS3 (by exact fun _ _ _ => rfl)) ?_
  intro  M4 hP5
  obtain ⟨hS4, f5p0, f5p1⟩ := hP5
  exact n_rV c_44_23 rfl ⟨hS4, by exact fun a i h1 h2 => by rw [f5p0 a i h2]; simp only [eM3, eM2, eM1]; rw [nu_a h1, nu_a h1, nu_a h1]; exact hf a i h1 h2, by exact ⟨(by rw [f5p0 25 1 (by omega)]; simp only [eM3, eM2, eM1]; rw [nu_i (by omega), nu_i (by omega), nu_s]), (by rw [f5p0 25 2 (by omega)]; simp only [eM3, eM2, eM1]; rw [nu_i (by omega), nu_s]), (by rw [f5p0 25 3 (by omega)]; simp only [eM3, eM2, eM1]; rw [nu_s]), f5p1⟩⟩

set_option maxHeartbeats 4000000 in
theorem weighFrom25_2_3 {xs : List Int32} {e : Nat} {ac : Int} {M0 M : nM} {Ms : nM} (hS : Sf 3 ac M0 M) (hB : M 15 0 = 4) : nW xs (e + 2) 51 0 [some (2, 15), some (2, 25), some (0, 0), some (0, 9)] [] M (nPV fun M1 => Sf 3 ac M0 M1 ∧ (∀ a i : Int, a ≠ 25 → a ≠ 26 → M1 a i = M a i) ∧ (LK 25 26 1 3 9 M1)) := by
  have hd : (3 : Int) = 2 ∨ (3 : Int) = 3 := by decide
  have hac := hS.2.2.2.2
  refine n_aload_n c_51_0 rfl ?_
  refine n_aload_n c_51_1 rfl ?_
  refine n_iload_n c_51_2 rfl ?_
  refine n_iload_n c_51_3 rfl ?_
  refine n_v2I c_51_4 rfl sc_15.n rfl rfl rfl rfl (weight0_2_3  hS (by exact hB)) ?_
  intro z1 M2 hP3
  obtain ⟨eM, f3⟩ := hP3
  subst eM
  obtain rfl : z1 = 1 := by omega
  refine n_aload_n c_51_7 rfl ?_
  refine n_iload_n c_51_8 rfl ?_
  refine n_iconst c_51_9 ?_
  refine n_iadd c_51_10 rfl ?_
  refine n_iload_n c_51_11 rfl ?_
  have hcst : ((0 + 1) : Int) = 1 := by omega
  rw [hcst]
  refine n_v2I c_51_12 rfl sc_15.n rfl rfl rfl rfl (weight1_2_3  hS (by exact hB)) ?_
  intro z4 M5 hP6
  obtain ⟨eM, f6⟩ := hP6
  subst eM
  obtain rfl : z4 = 3 := by omega
  refine n_aload_n c_51_15 rfl ?_
  refine n_iload_n c_51_16 rfl ?_
  refine n_iconst c_51_17 ?_
  refine n_iadd c_51_18 rfl ?_
  refine n_iload_n c_51_19 rfl ?_
  have hcst : ((0 + 2) : Int) = 2 := by omega
  rw [hcst]
  refine n_v2I c_51_20 rfl sc_15.n rfl rfl rfl rfl (weight2_2_3  hS (by exact hB)) ?_
  intro z7 M8 hP9
  obtain ⟨eM, f9⟩ := hP9
  subst eM
  obtain rfl : z7 = 9 := by omega
  refine n_v3V c_51_23 rfl sc_25.n rfl rfl rfl rfl (weigh25_1_3 (Ms := M) hS (by exact fun _ _ _ _ => rfl)) ?_
  intro  M10 hP11
  obtain ⟨hS10, f11p0, f11p1⟩ := hP11
  exact n_rV c_51_26 rfl ⟨hS10, by exact f11p0, by exact f11p1⟩

set_option maxHeartbeats 4000000 in
theorem weigh27_2_3 {xs : List Int32} {e : Nat} {ac : Int} {M0 M : nM} {Ms : nM} (hS : Sf 3 ac M0 M) (hf : ∀ a i : Int, a ≠ 27 → a ≠ 28 → M a i = Ms a i) : nW xs (e + 1) 44 0 [some (2, 27), some (0, 27), some (0, 81), some (0, 243)] [] M (nPV fun M1 => Sf 3 ac M0 M1 ∧ (∀ a i : Int, a ≠ 27 → a ≠ 28 → M1 a i = Ms a i) ∧ (LK 27 28 27 81 243 M1)) := by
  have hd : (3 : Int) = 2 ∨ (3 : Int) = 3 := by decide
  have hac := hS.2.2.2.2
  refine n_aload_n c_44_0 rfl ?_
  refine n_iload_n c_44_1 rfl ?_
  refine n_putV (bi := 1) hS c_44_2 sc_27.n rfl rfl rfl rfl (w_27_1 (by omega)) ?_
  intro M1 eM1 hS1
  have g1_0 : M1 27 1 = 27 := by rw [eM1]; exact nu_s _ _ _ _
  refine n_aload_n c_44_5 rfl ?_
  refine n_iload_n c_44_6 rfl ?_
  refine n_putV (bi := 2) hS1 c_44_7 sc_27.n rfl rfl rfl rfl (w_27_2 (by omega)) ?_
  intro M2 eM2 hS2
  have g2_0 : M2 27 1 = M1 27 1 := by rw [eM2]; exact nu_i (by omega)
  have g2_1 : M2 27 2 = 81 := by rw [eM2]; exact nu_s _ _ _ _
  refine n_aload_n c_44_10 rfl ?_
  refine n_iload_n c_44_11 rfl ?_
  refine n_putV (bi := 3) hS2 c_44_12 sc_27.n rfl rfl rfl rfl (w_27_3 (by omega)) ?_
  intro M3 eM3 hS3
  have g3_0 : M3 27 1 = M2 27 1 := by rw [eM3]; exact nu_i (by omega)
  have g3_1 : M3 27 2 = M2 27 2 := by rw [eM3]; exact nu_i (by omega)
  have g3_2 : M3 27 3 = 243 := by rw [eM3]; exact nu_s _ _ _ _
  refine n_aload_n c_44_15 rfl ?_
  refine n_getR c_44_16 sc_27.n rfl rfl rfl r_27_0 ?_
  refine n_iconst c_44_19 ?_
  refine n_s2V c_44_20 rfl rfl rfl rfl (fillR27_3 (Ms := M3) hS3 (by exact fun _ _ _ => rfl)) ?_
  intro  M4 hP5
  obtain ⟨hS4, f5p0, f5p1⟩ := hP5
  exact n_rV c_44_23 rfl ⟨hS4, by exact fun a i h1 h2 => by rw [f5p0 a i h2]; simp only [eM3, eM2, eM1]; rw [nu_a h1, nu_a h1, nu_a h1]; exact hf a i h1 h2, by exact ⟨(by rw [f5p0 27 1 (by omega)]; simp only [eM3, eM2, eM1]; rw [nu_i (by omega), nu_i (by omega), nu_s]), (by rw [f5p0 27 2 (by omega)]; simp only [eM3, eM2, eM1]; rw [nu_i (by omega), nu_s]), (by rw [f5p0 27 3 (by omega)]; simp only [eM3, eM2, eM1]; rw [nu_s]), f5p1⟩⟩

set_option maxHeartbeats 4000000 in
theorem weighFrom27_2_3 {xs : List Int32} {e : Nat} {ac : Int} {M0 M : nM} {Ms : nM} (hS : Sf 3 ac M0 M) (hB : M 15 0 = 4) : nW xs (e + 2) 51 0 [some (2, 15), some (2, 27), some (0, 3), some (0, 9)] [] M (nPV fun M1 => Sf 3 ac M0 M1 ∧ (∀ a i : Int, a ≠ 27 → a ≠ 28 → M1 a i = M a i) ∧ (LK 27 28 27 81 243 M1)) := by
  have hd : (3 : Int) = 2 ∨ (3 : Int) = 3 := by decide
  have hac := hS.2.2.2.2
  refine n_aload_n c_51_0 rfl ?_
  refine n_aload_n c_51_1 rfl ?_
  refine n_iload_n c_51_2 rfl ?_
  refine n_iload_n c_51_3 rfl ?_
  refine n_v2I c_51_4 rfl sc_15.n rfl rfl rfl rfl (weight3_2_3  hS (by exact hB)) ?_
  intro z1 M2 hP3
  obtain ⟨eM, f3⟩ := hP3
  subst eM
  obtain rfl : z1 = 27 := by omega
  refine n_aload_n c_51_7 rfl ?_
  refine n_iload_n c_51_8 rfl ?_
  refine n_iconst c_51_9 ?_
  refine n_iadd c_51_10 rfl ?_
  refine n_iload_n c_51_11 rfl ?_
  have hcst : ((3 + 1) : Int) = 4 := by omega
  rw [hcst]
  refine n_v2I c_51_12 rfl sc_15.n rfl rfl rfl rfl (weight4_2_3  hS (by exact hB)) ?_
  intro z4 M5 hP6
  obtain ⟨eM, f6⟩ := hP6
  subst eM
  obtain rfl : z4 = 81 := by omega
  refine n_aload_n c_51_15 rfl ?_
  refine n_iload_n c_51_16 rfl ?_
  refine n_iconst c_51_17 ?_
  refine n_iadd c_51_18 rfl ?_
  refine n_iload_n c_51_19 rfl ?_
  have hcst : ((3 + 2) : Int) = 5 := by omega
  rw [hcst]
  refine n_v2I c_51_20 rfl sc_15.n rfl rfl rfl rfl (weight5_2_3  hS (by exact hB)) ?_
  intro z7 M8 hP9
  obtain ⟨eM, f9⟩ := hP9
  subst eM
  obtain rfl : z7 = 243 := by omega
  refine n_v3V c_51_23 rfl sc_27.n rfl rfl rfl rfl (weigh27_2_3 (Ms := M) hS (by exact fun _ _ _ _ => rfl)) ?_
  intro  M10 hP11
  obtain ⟨hS10, f11p0, f11p1⟩ := hP11
  exact n_rV c_51_26 rfl ⟨hS10, by exact f11p0, by exact f11p1⟩

set_option maxHeartbeats 4000000 in
theorem weigh29_2_3 {xs : List Int32} {e : Nat} {ac : Int} {M0 M : nM} {Ms : nM} (hS : Sf 3 ac M0 M) (hf : ∀ a i : Int, a ≠ 29 → a ≠ 30 → M a i = Ms a i) : nW xs (e + 1) 44 0 [some (2, 29), some (0, 729), some (0, 2187), some (0, 6561)] [] M (nPV fun M1 => Sf 3 ac M0 M1 ∧ (∀ a i : Int, a ≠ 29 → a ≠ 30 → M1 a i = Ms a i) ∧ (LK 29 30 729 2187 6561 M1)) := by
  have hd : (3 : Int) = 2 ∨ (3 : Int) = 3 := by decide
  have hac := hS.2.2.2.2
  refine n_aload_n c_44_0 rfl ?_
  refine n_iload_n c_44_1 rfl ?_
  refine n_putV (bi := 1) hS c_44_2 sc_29.n rfl rfl rfl rfl (w_29_1 (by omega)) ?_
  intro M1 eM1 hS1
  have g1_0 : M1 29 1 = 729 := by rw [eM1]; exact nu_s _ _ _ _
  refine n_aload_n c_44_5 rfl ?_
  refine n_iload_n c_44_6 rfl ?_
  refine n_putV (bi := 2) hS1 c_44_7 sc_29.n rfl rfl rfl rfl (w_29_2 (by omega)) ?_
  intro M2 eM2 hS2
  have g2_0 : M2 29 1 = M1 29 1 := by rw [eM2]; exact nu_i (by omega)
  have g2_1 : M2 29 2 = 2187 := by rw [eM2]; exact nu_s _ _ _ _
  refine n_aload_n c_44_10 rfl ?_
  refine n_iload_n c_44_11 rfl ?_
  refine n_putV (bi := 3) hS2 c_44_12 sc_29.n rfl rfl rfl rfl (w_29_3 (by omega)) ?_
  intro M3 eM3 hS3
  have g3_0 : M3 29 1 = M2 29 1 := by rw [eM3]; exact nu_i (by omega)
  have g3_1 : M3 29 2 = M2 29 2 := by rw [eM3]; exact nu_i (by omega)
  have g3_2 : M3 29 3 = 6561 := by rw [eM3]; exact nu_s _ _ _ _
  refine n_aload_n c_44_15 rfl ?_
  refine n_getR c_44_16 sc_29.n rfl rfl rfl r_29_0 ?_
  refine n_iconst c_44_19 ?_
  refine n_s2V c_44_20 rfl rfl rfl rfl (fillR29_3 (Ms := M3) hS3 (by exact fun _ _ _ => rfl)) ?_
  intro  M4 hP5
  obtain ⟨hS4, f5p0, f5p1⟩ := hP5
  exact n_rV c_44_23 rfl ⟨hS4, by exact fun a i h1 h2 => by rw [f5p0 a i h2]; simp only [eM3, eM2, eM1]; rw [nu_a h1, nu_a h1, nu_a h1]; exact hf a i h1 h2, by exact ⟨(by rw [f5p0 29 1 (by omega)]; simp only [eM3, eM2, eM1]; rw [nu_i (by omega), nu_i (by omega), nu_s]), (by rw [f5p0 29 2 (by omega)]; simp only [eM3, eM2, eM1]; rw [nu_i (by omega), nu_s]), (by rw [f5p0 29 3 (by omega)]; simp only [eM3, eM2, eM1]; rw [nu_s]), f5p1⟩⟩

set_option maxHeartbeats 4000000 in
theorem weighFrom29_2_3 {xs : List Int32} {e : Nat} {ac : Int} {M0 M : nM} {Ms : nM} (hS : Sf 3 ac M0 M) (hB : M 15 0 = 4) : nW xs (e + 2) 51 0 [some (2, 15), some (2, 29), some (0, 6), some (0, 9)] [] M (nPV fun M1 => Sf 3 ac M0 M1 ∧ (∀ a i : Int, a ≠ 29 → a ≠ 30 → M1 a i = M a i) ∧ (LK 29 30 729 2187 6561 M1)) := by
  have hd : (3 : Int) = 2 ∨ (3 : Int) = 3 := by decide
  have hac := hS.2.2.2.2
  refine n_aload_n c_51_0 rfl ?_
  refine n_aload_n c_51_1 rfl ?_
  refine n_iload_n c_51_2 rfl ?_
  refine n_iload_n c_51_3 rfl ?_
  refine n_v2I c_51_4 rfl sc_15.n rfl rfl rfl rfl (weight6_2_3  hS (by exact hB)) ?_
  intro z1 M2 hP3
  obtain ⟨eM, f3⟩ := hP3
  subst eM
  obtain rfl : z1 = 729 := by omega
  refine n_aload_n c_51_7 rfl ?_
  refine n_iload_n c_51_8 rfl ?_
  refine n_iconst c_51_9 ?_
  refine n_iadd c_51_10 rfl ?_
  refine n_iload_n c_51_11 rfl ?_
  have hcst : ((6 + 1) : Int) = 7 := by omega
  rw [hcst]
  refine n_v2I c_51_12 rfl sc_15.n rfl rfl rfl rfl (weight7_2_3  hS (by exact hB)) ?_
  intro z4 M5 hP6
  obtain ⟨eM, f6⟩ := hP6
  subst eM
  obtain rfl : z4 = 2187 := by omega
  refine n_aload_n c_51_15 rfl ?_
  refine n_iload_n c_51_16 rfl ?_
  refine n_iconst c_51_17 ?_
  refine n_iadd c_51_18 rfl ?_
  refine n_iload_n c_51_19 rfl ?_
  have hcst : ((6 + 2) : Int) = 8 := by omega
  rw [hcst]
  refine n_v2I c_51_20 rfl sc_15.n rfl rfl rfl rfl (weight8_2_3  hS (by exact hB)) ?_
  intro z7 M8 hP9
  obtain ⟨eM, f9⟩ := hP9
  subst eM
  obtain rfl : z7 = 6561 := by omega
  refine n_v3V c_51_23 rfl sc_29.n rfl rfl rfl rfl (weigh29_2_3 (Ms := M) hS (by exact fun _ _ _ _ => rfl)) ?_
  intro  M10 hP11
  obtain ⟨hS10, f11p0, f11p1⟩ := hP11
  exact n_rV c_51_26 rfl ⟨hS10, by exact f11p0, by exact f11p1⟩

set_option maxHeartbeats 4000000 in
theorem codeOf5_2_3 {xs : List Int32} {e : Nat} {ac : Int} {M0 M : nM} (hS : Sf 3 ac M0 M) (hB : M 15 0 = 4) : nW xs e 53 0 [some (2, 15), some (2, 5), some (0, 9), none, none] [] M (nPI fun z M1 => M = M1 ∧ (0 ≤ z ∧ z ≤ 19682)) := by
  have hd : (3 : Int) = 2 ∨ (3 : Int) = 3 := by decide
  have hac := hS.2.2.2.2
  refine n_iconst c_53_0 ?_
  refine n_istore_n (L2 := [some (2, 15), some (2, 5), some (0, 9), some (0, 0), none]) c_53_1 rfl rfl ?_
  refine n_iload_n c_53_2 rfl ?_
  refine n_iconst c_53_3 ?_
  refine n_isub c_53_4 rfl ?_
  refine n_istore (L2 := [some (2, 15), some (2, 5), some (0, 9), some (0, 0), some (0, (9 - 1))]) c_53_5 rfl rfl ?_
  refine n_iload c_53_7 rfl ?_
  refine n_if0_lt c_53_9 (by omega) ?_ ?_
  · intro h1
    exfalso; omega
  · intro h2
    refine n_iload_n c_53_12 rfl ?_
    refine n_aload_n c_53_13 rfl ?_
    refine n_getB c_53_14 hB ?_
    refine n_getV (bi := 0) c_53_17 sc_4.n rfl rfl rfl (t_4_0 hS) ?_
    intro z3 ez3 f4
    obtain rfl : z3 = 3 := by omega
    refine n_imul c_53_20 rfl ?_
    refine n_aload_n c_53_21 rfl ?_
    refine n_iload c_53_22 rfl ?_
    refine n_ialoadV c_53_24 sc_5.n rfl rfl rfl (by omega) (t_5k (z := 0) hS (by omega) (by omega) (by omega)) ?_
    intro z5 ez5 f6
    refine n_iadd c_53_25 rfl ?_
    refine n_istore_n (L2 := [some (2, 15), some (2, 5), some (0, 9), some (0, ((0 * 3) + z5)), some (0, (9 - 1))]) c_53_26 rfl rfl ?_
    refine n_iinc (L2 := [some (2, 15), some (2, 5), some (0, 9), some (0, ((0 * 3) + z5)), some (0, ((9 - 1) + (-1)))]) c_53_27 rfl rfl rfl ?_
    refine n_goto c_53_30 ?_
    refine n_iload c_53_7 rfl ?_
    refine n_if0_lt c_53_9 (by omega) ?_ ?_
    · intro h7
      exfalso; omega
    · intro h8
      refine n_iload_n c_53_12 rfl ?_
      refine n_aload_n c_53_13 rfl ?_
      refine n_getB c_53_14 hB ?_
      refine n_getV (bi := 0) c_53_17 sc_4.n rfl rfl rfl (t_4_0 hS) ?_
      intro z9 ez9 f10
      obtain rfl : z9 = 3 := by omega
      refine n_imul c_53_20 rfl ?_
      refine n_aload_n c_53_21 rfl ?_
      refine n_iload c_53_22 rfl ?_
      refine n_ialoadV c_53_24 sc_5.n rfl rfl rfl (by omega) (t_5k (z := 0) hS (by omega) (by omega) (by omega)) ?_
      intro z11 ez11 f12
      refine n_iadd c_53_25 rfl ?_
      refine n_istore_n (L2 := [some (2, 15), some (2, 5), some (0, 9), some (0, ((((0 * 3) + z5) * 3) + z11)), some (0, ((9 - 1) + (-1)))]) c_53_26 rfl rfl ?_
      refine n_iinc (L2 := [some (2, 15), some (2, 5), some (0, 9), some (0, ((((0 * 3) + z5) * 3) + z11)), some (0, (((9 - 1) + (-1)) + (-1)))]) c_53_27 rfl rfl rfl ?_
      refine n_goto c_53_30 ?_
      refine n_iload c_53_7 rfl ?_
      refine n_if0_lt c_53_9 (by omega) ?_ ?_
      · intro h13
        exfalso; omega
      · intro h14
        refine n_iload_n c_53_12 rfl ?_
        refine n_aload_n c_53_13 rfl ?_
        refine n_getB c_53_14 hB ?_
        refine n_getV (bi := 0) c_53_17 sc_4.n rfl rfl rfl (t_4_0 hS) ?_
        intro z15 ez15 f16
        obtain rfl : z15 = 3 := by omega
        refine n_imul c_53_20 rfl ?_
        refine n_aload_n c_53_21 rfl ?_
        refine n_iload c_53_22 rfl ?_
        refine n_ialoadV c_53_24 sc_5.n rfl rfl rfl (by omega) (t_5k (z := 0) hS (by omega) (by omega) (by omega)) ?_
        intro z17 ez17 f18
        refine n_iadd c_53_25 rfl ?_
        refine n_istore_n (L2 := [some (2, 15), some (2, 5), some (0, 9), some (0, ((((((0 * 3) + z5) * 3) + z11) * 3) + z17)), some (0, (((9 - 1) + (-1)) + (-1)))]) c_53_26 rfl rfl ?_
        refine n_iinc (L2 := [some (2, 15), some (2, 5), some (0, 9), some (0, ((((((0 * 3) + z5) * 3) + z11) * 3) + z17)), some (0, ((((9 - 1) + (-1)) + (-1)) + (-1)))]) c_53_27 rfl rfl rfl ?_
        refine n_goto c_53_30 ?_
        refine n_iload c_53_7 rfl ?_
        refine n_if0_lt c_53_9 (by omega) ?_ ?_
        · intro h19
          exfalso; omega
        · intro h20
          refine n_iload_n c_53_12 rfl ?_
          refine n_aload_n c_53_13 rfl ?_
          refine n_getB c_53_14 hB ?_
          refine n_getV (bi := 0) c_53_17 sc_4.n rfl rfl rfl (t_4_0 hS) ?_
          intro z21 ez21 f22
          obtain rfl : z21 = 3 := by omega
          refine n_imul c_53_20 rfl ?_
          refine n_aload_n c_53_21 rfl ?_
          refine n_iload c_53_22 rfl ?_
          refine n_ialoadV c_53_24 sc_5.n rfl rfl rfl (by omega) (t_5k (z := 0) hS (by omega) (by omega) (by omega)) ?_
          intro z23 ez23 f24
          refine n_iadd c_53_25 rfl ?_
          refine n_istore_n (L2 := [some (2, 15), some (2, 5), some (0, 9), some (0, ((((((((0 * 3) + z5) * 3) + z11) * 3) + z17) * 3) + z23)), some (0, ((((9 - 1) + (-1)) + (-1)) + (-1)))]) c_53_26 rfl rfl ?_
          refine n_iinc (L2 := [some (2, 15), some (2, 5), some (0, 9), some (0, ((((((((0 * 3) + z5) * 3) + z11) * 3) + z17) * 3) + z23)), some (0, (((((9 - 1) + (-1)) + (-1)) + (-1)) + (-1)))]) c_53_27 rfl rfl rfl ?_
          refine n_goto c_53_30 ?_
          refine n_iload c_53_7 rfl ?_
          refine n_if0_lt c_53_9 (by omega) ?_ ?_
          · intro h25
            exfalso; omega
          · intro h26
            refine n_iload_n c_53_12 rfl ?_
            refine n_aload_n c_53_13 rfl ?_
            refine n_getB c_53_14 hB ?_
            refine n_getV (bi := 0) c_53_17 sc_4.n rfl rfl rfl (t_4_0 hS) ?_
            intro z27 ez27 f28
            obtain rfl : z27 = 3 := by omega
            refine n_imul c_53_20 rfl ?_
            refine n_aload_n c_53_21 rfl ?_
            refine n_iload c_53_22 rfl ?_
            refine n_ialoadV c_53_24 sc_5.n rfl rfl rfl (by omega) (t_5k (z := 0) hS (by omega) (by omega) (by omega)) ?_
            intro z29 ez29 f30
            refine n_iadd c_53_25 rfl ?_
            refine n_istore_n (L2 := [some (2, 15), some (2, 5), some (0, 9), some (0, ((((((((((0 * 3) + z5) * 3) + z11) * 3) + z17) * 3) + z23) * 3) + z29)), some (0, (((((9 - 1) + (-1)) + (-1)) + (-1)) + (-1)))]) c_53_26 rfl rfl ?_
            refine n_iinc (L2 := [some (2, 15), some (2, 5), some (0, 9), some (0, ((((((((((0 * 3) + z5) * 3) + z11) * 3) + z17) * 3) + z23) * 3) + z29)), some (0, ((((((9 - 1) + (-1)) + (-1)) + (-1)) + (-1)) + (-1)))]) c_53_27 rfl rfl rfl ?_
            refine n_goto c_53_30 ?_
            refine n_iload c_53_7 rfl ?_
            refine n_if0_lt c_53_9 (by omega) ?_ ?_
            · intro h31
              exfalso; omega
            · intro h32
              refine n_iload_n c_53_12 rfl ?_
              refine n_aload_n c_53_13 rfl ?_
              refine n_getB c_53_14 hB ?_
              refine n_getV (bi := 0) c_53_17 sc_4.n rfl rfl rfl (t_4_0 hS) ?_
              intro z33 ez33 f34
              obtain rfl : z33 = 3 := by omega
              refine n_imul c_53_20 rfl ?_
              refine n_aload_n c_53_21 rfl ?_
              refine n_iload c_53_22 rfl ?_
              refine n_ialoadV c_53_24 sc_5.n rfl rfl rfl (by omega) (t_5k (z := 0) hS (by omega) (by omega) (by omega)) ?_
              intro z35 ez35 f36
              refine n_iadd c_53_25 rfl ?_
              refine n_istore_n (L2 := [some (2, 15), some (2, 5), some (0, 9), some (0, ((((((((((((0 * 3) + z5) * 3) + z11) * 3) + z17) * 3) + z23) * 3) + z29) * 3) + z35)), some (0, ((((((9 - 1) + (-1)) + (-1)) + (-1)) + (-1)) + (-1)))]) c_53_26 rfl rfl ?_
              refine n_iinc (L2 := [some (2, 15), some (2, 5), some (0, 9), some (0, ((((((((((((0 * 3) + z5) * 3) + z11) * 3) + z17) * 3) + z23) * 3) + z29) * 3) + z35)), some (0, (((((((9 - 1) + (-1)) + (-1)) + (-1)) + (-1)) + (-1)) + (-1)))]) c_53_27 rfl rfl rfl ?_
              refine n_goto c_53_30 ?_
              refine n_iload c_53_7 rfl ?_
              refine n_if0_lt c_53_9 (by omega) ?_ ?_
              · intro h37
                exfalso; omega
              · intro h38
                refine n_iload_n c_53_12 rfl ?_
                refine n_aload_n c_53_13 rfl ?_
                refine n_getB c_53_14 hB ?_
                refine n_getV (bi := 0) c_53_17 sc_4.n rfl rfl rfl (t_4_0 hS) ?_
                intro z39 ez39 f40
                obtain rfl : z39 = 3 := by omega
                refine n_imul c_53_20 rfl ?_
                refine n_aload_n c_53_21 rfl ?_
                refine n_iload c_53_22 rfl ?_
                refine n_ialoadV c_53_24 sc_5.n rfl rfl rfl (by omega) (t_5k (z := 0) hS (by omega) (by omega) (by omega)) ?_
                intro z41 ez41 f42
                refine n_iadd c_53_25 rfl ?_
                refine n_istore_n (L2 := [some (2, 15), some (2, 5), some (0, 9), some (0, ((((((((((((((0 * 3) + z5) * 3) + z11) * 3) + z17) * 3) + z23) * 3) + z29) * 3) + z35) * 3) + z41)), some (0, (((((((9 - 1) + (-1)) + (-1)) + (-1)) + (-1)) + (-1)) + (-1)))]) c_53_26 rfl rfl ?_
                refine n_iinc (L2 := [some (2, 15), some (2, 5), some (0, 9), some (0, ((((((((((((((0 * 3) + z5) * 3) + z11) * 3) + z17) * 3) + z23) * 3) + z29) * 3) + z35) * 3) + z41)), some (0, ((((((((9 - 1) + (-1)) + (-1)) + (-1)) + (-1)) + (-1)) + (-1)) + (-1)))]) c_53_27 rfl rfl rfl ?_
                refine n_goto c_53_30 ?_
                refine n_iload c_53_7 rfl ?_
                refine n_if0_lt c_53_9 (by omega) ?_ ?_
                · intro h43
                  exfalso; omega
                · intro h44
                  refine n_iload_n c_53_12 rfl ?_
                  refine n_aload_n c_53_13 rfl ?_
                  refine n_getB c_53_14 hB ?_
                  refine n_getV (bi := 0) c_53_17 sc_4.n rfl rfl rfl (t_4_0 hS) ?_
                  intro z45 ez45 f46
                  obtain rfl : z45 = 3 := by omega
                  refine n_imul c_53_20 rfl ?_
                  refine n_aload_n c_53_21 rfl ?_
                  refine n_iload c_53_22 rfl ?_
                  refine n_ialoadV c_53_24 sc_5.n rfl rfl rfl (by omega) (t_5k (z := 0) hS (by omega) (by omega) (by omega)) ?_
                  intro z47 ez47 f48
                  refine n_iadd c_53_25 rfl ?_
                  refine n_istore_n (L2 := [some (2, 15), some (2, 5), some (0, 9), some (0, ((((((((((((((((0 * 3) + z5) * 3) + z11) * 3) + z17) * 3) + z23) * 3) + z29) * 3) + z35) * 3) + z41) * 3) + z47)), some (0, ((((((((9 - 1) + (-1)) + (-1)) + (-1)) + (-1)) + (-1)) + (-1)) + (-1)))]) c_53_26 rfl rfl ?_
                  refine n_iinc (L2 := [some (2, 15), some (2, 5), some (0, 9), some (0, ((((((((((((((((0 * 3) + z5) * 3) + z11) * 3) + z17) * 3) + z23) * 3) + z29) * 3) + z35) * 3) + z41) * 3) + z47)), some (0, (((((((((9 - 1) + (-1)) + (-1)) + (-1)) + (-1)) + (-1)) + (-1)) + (-1)) + (-1)))]) c_53_27 rfl rfl rfl ?_
                  refine n_goto c_53_30 ?_
                  refine n_iload c_53_7 rfl ?_
                  refine n_if0_lt c_53_9 (by omega) ?_ ?_
                  · intro h49
                    exfalso; omega
                  · intro h50
                    refine n_iload_n c_53_12 rfl ?_
                    refine n_aload_n c_53_13 rfl ?_
                    refine n_getB c_53_14 hB ?_
                    refine n_getV (bi := 0) c_53_17 sc_4.n rfl rfl rfl (t_4_0 hS) ?_
                    intro z51 ez51 f52
                    obtain rfl : z51 = 3 := by omega
                    refine n_imul c_53_20 rfl ?_
                    refine n_aload_n c_53_21 rfl ?_
                    refine n_iload c_53_22 rfl ?_
                    refine n_ialoadV c_53_24 sc_5.n rfl rfl rfl (by omega) (t_5k (z := 0) hS (by omega) (by omega) (by omega)) ?_
                    intro z53 ez53 f54
                    refine n_iadd c_53_25 rfl ?_
                    refine n_istore_n (L2 := [some (2, 15), some (2, 5), some (0, 9), some (0, ((((((((((((((((((0 * 3) + z5) * 3) + z11) * 3) + z17) * 3) + z23) * 3) + z29) * 3) + z35) * 3) + z41) * 3) + z47) * 3) + z53)), some (0, (((((((((9 - 1) + (-1)) + (-1)) + (-1)) + (-1)) + (-1)) + (-1)) + (-1)) + (-1)))]) c_53_26 rfl rfl ?_
                    refine n_iinc (L2 := [some (2, 15), some (2, 5), some (0, 9), some (0, ((((((((((((((((((0 * 3) + z5) * 3) + z11) * 3) + z17) * 3) + z23) * 3) + z29) * 3) + z35) * 3) + z41) * 3) + z47) * 3) + z53)), some (0, ((((((((((9 - 1) + (-1)) + (-1)) + (-1)) + (-1)) + (-1)) + (-1)) + (-1)) + (-1)) + (-1)))]) c_53_27 rfl rfl rfl ?_
                    refine n_goto c_53_30 ?_
                    refine n_iload c_53_7 rfl ?_
                    refine n_if0_lt c_53_9 (by omega) ?_ ?_
                    · intro h55
                      refine n_iload_n c_53_33 rfl ?_
                      exact n_rI c_53_34 rfl ⟨rfl, by omega⟩
                    · intro h56
                      exfalso; omega

/-! The methods, by program. -/
set_option maxHeartbeats 4000000 in
theorem codeOf6_2_3 {xs : List Int32} {e : Nat} {ac : Int} {M0 M : nM} (hS : Sf 3 ac M0 M) (hB : M 15 0 = 4) : nW xs e 53 0 [some (2, 15), some (2, 6), some (0, 9), none, none] [] M (nPI fun z M1 => M = M1 ∧ (0 ≤ z ∧ z ≤ 19682)) := by
  have hd : (3 : Int) = 2 ∨ (3 : Int) = 3 := by decide
  have hac := hS.2.2.2.2
  refine n_iconst c_53_0 ?_
  refine n_istore_n (L2 := [some (2, 15), some (2, 6), some (0, 9), some (0, 0), none]) c_53_1 rfl rfl ?_
  refine n_iload_n c_53_2 rfl ?_
  refine n_iconst c_53_3 ?_
  refine n_isub c_53_4 rfl ?_
  refine n_istore (L2 := [some (2, 15), some (2, 6), some (0, 9), some (0, 0), some (0, (9 - 1))]) c_53_5 rfl rfl ?_
  refine n_iload c_53_7 rfl ?_
  refine n_if0_lt c_53_9 (by omega) ?_ ?_
  · intro h1
    exfalso; omega
  · intro h2
    refine n_iload_n c_53_12 rfl ?_
    refine n_aload_n c_53_13 rfl ?_
    refine n_getB c_53_14 hB ?_
    refine n_getV (bi := 0) c_53_17 sc_4.n rfl rfl rfl (t_4_0 hS) ?_
    intro z3 ez3 f4
    obtain rfl : z3 = 3 := by omega
    refine n_imul c_53_20 rfl ?_
    refine n_aload_n c_53_21 rfl ?_
    refine n_iload c_53_22 rfl ?_
    refine n_ialoadV c_53_24 sc_6.n rfl rfl rfl (by omega) (t_6k (z := 2) hS (by omega) (by omega) (by omega)) ?_
    intro z5 ez5 f6
    refine n_iadd c_53_25 rfl ?_
    refine n_istore_n (L2 := [some (2, 15), some (2, 6), some (0, 9), some (0, ((0 * 3) + z5)), some (0, (9 - 1))]) c_53_26 rfl rfl ?_
    refine n_iinc (L2 := [some (2, 15), some (2, 6), some (0, 9), some (0, ((0 * 3) + z5)), some (0, ((9 - 1) + (-1)))]) c_53_27 rfl rfl rfl ?_
    refine n_goto c_53_30 ?_
    refine n_iload c_53_7 rfl ?_
    refine n_if0_lt c_53_9 (by omega) ?_ ?_
    · intro h7
      exfalso; omega
    · intro h8
      refine n_iload_n c_53_12 rfl ?_
      refine n_aload_n c_53_13 rfl ?_
      refine n_getB c_53_14 hB ?_
      refine n_getV (bi := 0) c_53_17 sc_4.n rfl rfl rfl (t_4_0 hS) ?_
      intro z9 ez9 f10
      obtain rfl : z9 = 3 := by omega
      refine n_imul c_53_20 rfl ?_
      refine n_aload_n c_53_21 rfl ?_
      refine n_iload c_53_22 rfl ?_
      refine n_ialoadV c_53_24 sc_6.n rfl rfl rfl (by omega) (t_6k (z := 2) hS (by omega) (by omega) (by omega)) ?_
      intro z11 ez11 f12
      refine n_iadd c_53_25 rfl ?_
      refine n_istore_n (L2 := [some (2, 15), some (2, 6), some (0, 9), some (0, ((((0 * 3) + z5) * 3) + z11)), some (0, ((9 - 1) + (-1)))]) c_53_26 rfl rfl ?_
      refine n_iinc (L2 := [some (2, 15), some (2, 6), some (0, 9), some (0, ((((0 * 3) + z5) * 3) + z11)), some (0, (((9 - 1) + (-1)) + (-1)))]) c_53_27 rfl rfl rfl ?_
      refine n_goto c_53_30 ?_
      refine n_iload c_53_7 rfl ?_
      refine n_if0_lt c_53_9 (by omega) ?_ ?_
      · intro h13
        exfalso; omega
      · intro h14
        refine n_iload_n c_53_12 rfl ?_
        refine n_aload_n c_53_13 rfl ?_
        refine n_getB c_53_14 hB ?_
        refine n_getV (bi := 0) c_53_17 sc_4.n rfl rfl rfl (t_4_0 hS) ?_
        intro z15 ez15 f16
        obtain rfl : z15 = 3 := by omega
        refine n_imul c_53_20 rfl ?_
        refine n_aload_n c_53_21 rfl ?_
        refine n_iload c_53_22 rfl ?_
        refine n_ialoadV c_53_24 sc_6.n rfl rfl rfl (by omega) (t_6k (z := 2) hS (by omega) (by omega) (by omega)) ?_
        intro z17 ez17 f18
        refine n_iadd c_53_25 rfl ?_
        refine n_istore_n (L2 := [some (2, 15), some (2, 6), some (0, 9), some (0, ((((((0 * 3) + z5) * 3) + z11) * 3) + z17)), some (0, (((9 - 1) + (-1)) + (-1)))]) c_53_26 rfl rfl ?_
        refine n_iinc (L2 := [some (2, 15), some (2, 6), some (0, 9), some (0, ((((((0 * 3) + z5) * 3) + z11) * 3) + z17)), some (0, ((((9 - 1) + (-1)) + (-1)) + (-1)))]) c_53_27 rfl rfl rfl ?_
        refine n_goto c_53_30 ?_
        refine n_iload c_53_7 rfl ?_
        refine n_if0_lt c_53_9 (by omega) ?_ ?_
        · intro h19
          exfalso; omega
        · intro h20
          refine n_iload_n c_53_12 rfl ?_
          refine n_aload_n c_53_13 rfl ?_
          refine n_getB c_53_14 hB ?_
          refine n_getV (bi := 0) c_53_17 sc_4.n rfl rfl rfl (t_4_0 hS) ?_
          intro z21 ez21 f22
          obtain rfl : z21 = 3 := by omega
          refine n_imul c_53_20 rfl ?_
          refine n_aload_n c_53_21 rfl ?_
          refine n_iload c_53_22 rfl ?_
          refine n_ialoadV c_53_24 sc_6.n rfl rfl rfl (by omega) (t_6k (z := 1) hS (by omega) (by omega) (by omega)) ?_
          intro z23 ez23 f24
          refine n_iadd c_53_25 rfl ?_
          refine n_istore_n (L2 := [some (2, 15), some (2, 6), some (0, 9), some (0, ((((((((0 * 3) + z5) * 3) + z11) * 3) + z17) * 3) + z23)), some (0, ((((9 - 1) + (-1)) + (-1)) + (-1)))]) c_53_26 rfl rfl ?_
          refine n_iinc (L2 := [some (2, 15), some (2, 6), some (0, 9), some (0, ((((((((0 * 3) + z5) * 3) + z11) * 3) + z17) * 3) + z23)), some (0, (((((9 - 1) + (-1)) + (-1)) + (-1)) + (-1)))]) c_53_27 rfl rfl rfl ?_
          refine n_goto c_53_30 ?_
          refine n_iload c_53_7 rfl ?_
          refine n_if0_lt c_53_9 (by omega) ?_ ?_
          · intro h25
            exfalso; omega
          · intro h26
            refine n_iload_n c_53_12 rfl ?_
            refine n_aload_n c_53_13 rfl ?_
            refine n_getB c_53_14 hB ?_
            refine n_getV (bi := 0) c_53_17 sc_4.n rfl rfl rfl (t_4_0 hS) ?_
            intro z27 ez27 f28
            obtain rfl : z27 = 3 := by omega
            refine n_imul c_53_20 rfl ?_
            refine n_aload_n c_53_21 rfl ?_
            refine n_iload c_53_22 rfl ?_
            refine n_ialoadV c_53_24 sc_6.n rfl rfl rfl (by omega) (t_6k (z := 1) hS (by omega) (by omega) (by omega)) ?_
            intro z29 ez29 f30
            refine n_iadd c_53_25 rfl ?_
            refine n_istore_n (L2 := [some (2, 15), some (2, 6), some (0, 9), some (0, ((((((((((0 * 3) + z5) * 3) + z11) * 3) + z17) * 3) + z23) * 3) + z29)), some (0, (((((9 - 1) + (-1)) + (-1)) + (-1)) + (-1)))]) c_53_26 rfl rfl ?_
            refine n_iinc (L2 := [some (2, 15), some (2, 6), some (0, 9), some (0, ((((((((((0 * 3) + z5) * 3) + z11) * 3) + z17) * 3) + z23) * 3) + z29)), some (0, ((((((9 - 1) + (-1)) + (-1)) + (-1)) + (-1)) + (-1)))]) c_53_27 rfl rfl rfl ?_
            refine n_goto c_53_30 ?_
            refine n_iload c_53_7 rfl ?_
            refine n_if0_lt c_53_9 (by omega) ?_ ?_
            · intro h31
              exfalso; omega
            · intro h32
              refine n_iload_n c_53_12 rfl ?_
              refine n_aload_n c_53_13 rfl ?_
              refine n_getB c_53_14 hB ?_
              refine n_getV (bi := 0) c_53_17 sc_4.n rfl rfl rfl (t_4_0 hS) ?_
              intro z33 ez33 f34
              obtain rfl : z33 = 3 := by omega
              refine n_imul c_53_20 rfl ?_
              refine n_aload_n c_53_21 rfl ?_
              refine n_iload c_53_22 rfl ?_
              refine n_ialoadV c_53_24 sc_6.n rfl rfl rfl (by omega) (t_6k (z := 1) hS (by omega) (by omega) (by omega)) ?_
              intro z35 ez35 f36
              refine n_iadd c_53_25 rfl ?_
              refine n_istore_n (L2 := [some (2, 15), some (2, 6), some (0, 9), some (0, ((((((((((((0 * 3) + z5) * 3) + z11) * 3) + z17) * 3) + z23) * 3) + z29) * 3) + z35)), some (0, ((((((9 - 1) + (-1)) + (-1)) + (-1)) + (-1)) + (-1)))]) c_53_26 rfl rfl ?_
              refine n_iinc (L2 := [some (2, 15), some (2, 6), some (0, 9), some (0, ((((((((((((0 * 3) + z5) * 3) + z11) * 3) + z17) * 3) + z23) * 3) + z29) * 3) + z35)), some (0, (((((((9 - 1) + (-1)) + (-1)) + (-1)) + (-1)) + (-1)) + (-1)))]) c_53_27 rfl rfl rfl ?_
              refine n_goto c_53_30 ?_
              refine n_iload c_53_7 rfl ?_
              refine n_if0_lt c_53_9 (by omega) ?_ ?_
              · intro h37
                exfalso; omega
              · intro h38
                refine n_iload_n c_53_12 rfl ?_
                refine n_aload_n c_53_13 rfl ?_
                refine n_getB c_53_14 hB ?_
                refine n_getV (bi := 0) c_53_17 sc_4.n rfl rfl rfl (t_4_0 hS) ?_
                intro z39 ez39 f40
                obtain rfl : z39 = 3 := by omega
                refine n_imul c_53_20 rfl ?_
                refine n_aload_n c_53_21 rfl ?_
                refine n_iload c_53_22 rfl ?_
                refine n_ialoadV c_53_24 sc_6.n rfl rfl rfl (by omega) (t_6k (z := 0) hS (by omega) (by omega) (by omega)) ?_
                intro z41 ez41 f42
                refine n_iadd c_53_25 rfl ?_
                refine n_istore_n (L2 := [some (2, 15), some (2, 6), some (0, 9), some (0, ((((((((((((((0 * 3) + z5) * 3) + z11) * 3) + z17) * 3) + z23) * 3) + z29) * 3) + z35) * 3) + z41)), some (0, (((((((9 - 1) + (-1)) + (-1)) + (-1)) + (-1)) + (-1)) + (-1)))]) c_53_26 rfl rfl ?_
                refine n_iinc (L2 := [some (2, 15), some (2, 6), some (0, 9), some (0, ((((((((((((((0 * 3) + z5) * 3) + z11) * 3) + z17) * 3) + z23) * 3) + z29) * 3) + z35) * 3) + z41)), some (0, ((((((((9 - 1) + (-1)) + (-1)) + (-1)) + (-1)) + (-1)) + (-1)) + (-1)))]) c_53_27 rfl rfl rfl ?_
                refine n_goto c_53_30 ?_
                refine n_iload c_53_7 rfl ?_
                refine n_if0_lt c_53_9 (by omega) ?_ ?_
                · intro h43
                  exfalso; omega
                · intro h44
                  refine n_iload_n c_53_12 rfl ?_
                  refine n_aload_n c_53_13 rfl ?_
                  refine n_getB c_53_14 hB ?_
                  refine n_getV (bi := 0) c_53_17 sc_4.n rfl rfl rfl (t_4_0 hS) ?_
                  intro z45 ez45 f46
                  obtain rfl : z45 = 3 := by omega
                  refine n_imul c_53_20 rfl ?_
                  refine n_aload_n c_53_21 rfl ?_
                  refine n_iload c_53_22 rfl ?_
                  refine n_ialoadV c_53_24 sc_6.n rfl rfl rfl (by omega) (t_6k (z := 0) hS (by omega) (by omega) (by omega)) ?_
                  intro z47 ez47 f48
                  refine n_iadd c_53_25 rfl ?_
                  refine n_istore_n (L2 := [some (2, 15), some (2, 6), some (0, 9), some (0, ((((((((((((((((0 * 3) + z5) * 3) + z11) * 3) + z17) * 3) + z23) * 3) + z29) * 3) + z35) * 3) + z41) * 3) + z47)), some (0, ((((((((9 - 1) + (-1)) + (-1)) + (-1)) + (-1)) + (-1)) + (-1)) + (-1)))]) c_53_26 rfl rfl ?_
                  refine n_iinc (L2 := [some (2, 15), some (2, 6), some (0, 9), some (0, ((((((((((((((((0 * 3) + z5) * 3) + z11) * 3) + z17) * 3) + z23) * 3) + z29) * 3) + z35) * 3) + z41) * 3) + z47)), some (0, (((((((((9 - 1) + (-1)) + (-1)) + (-1)) + (-1)) + (-1)) + (-1)) + (-1)) + (-1)))]) c_53_27 rfl rfl rfl ?_
                  refine n_goto c_53_30 ?_
                  refine n_iload c_53_7 rfl ?_
                  refine n_if0_lt c_53_9 (by omega) ?_ ?_
                  · intro h49
                    exfalso; omega
                  · intro h50
                    refine n_iload_n c_53_12 rfl ?_
                    refine n_aload_n c_53_13 rfl ?_
                    refine n_getB c_53_14 hB ?_
                    refine n_getV (bi := 0) c_53_17 sc_4.n rfl rfl rfl (t_4_0 hS) ?_
                    intro z51 ez51 f52
                    obtain rfl : z51 = 3 := by omega
                    refine n_imul c_53_20 rfl ?_
                    refine n_aload_n c_53_21 rfl ?_
                    refine n_iload c_53_22 rfl ?_
                    refine n_ialoadV c_53_24 sc_6.n rfl rfl rfl (by omega) (t_6k (z := 0) hS (by omega) (by omega) (by omega)) ?_
                    intro z53 ez53 f54
                    refine n_iadd c_53_25 rfl ?_
                    refine n_istore_n (L2 := [some (2, 15), some (2, 6), some (0, 9), some (0, ((((((((((((((((((0 * 3) + z5) * 3) + z11) * 3) + z17) * 3) + z23) * 3) + z29) * 3) + z35) * 3) + z41) * 3) + z47) * 3) + z53)), some (0, (((((((((9 - 1) + (-1)) + (-1)) + (-1)) + (-1)) + (-1)) + (-1)) + (-1)) + (-1)))]) c_53_26 rfl rfl ?_
                    refine n_iinc (L2 := [some (2, 15), some (2, 6), some (0, 9), some (0, ((((((((((((((((((0 * 3) + z5) * 3) + z11) * 3) + z17) * 3) + z23) * 3) + z29) * 3) + z35) * 3) + z41) * 3) + z47) * 3) + z53)), some (0, ((((((((((9 - 1) + (-1)) + (-1)) + (-1)) + (-1)) + (-1)) + (-1)) + (-1)) + (-1)) + (-1)))]) c_53_27 rfl rfl rfl ?_
                    refine n_goto c_53_30 ?_
                    refine n_iload c_53_7 rfl ?_
                    refine n_if0_lt c_53_9 (by omega) ?_ ?_
                    · intro h55
                      refine n_iload_n c_53_33 rfl ?_
                      exact n_rI c_53_34 rfl ⟨rfl, by omega⟩
                    · intro h56
                      exfalso; omega

set_option maxHeartbeats 4000000 in
theorem codeOf7_2_3 {xs : List Int32} {e : Nat} {ac : Int} {M0 M : nM} (hS : Sf 3 ac M0 M) (hB : M 15 0 = 4) : nW xs e 53 0 [some (2, 15), some (2, 7), some (0, 9), none, none] [] M (nPI fun z M1 => M = M1 ∧ (0 ≤ z ∧ z ≤ 19682)) := by
  have hd : (3 : Int) = 2 ∨ (3 : Int) = 3 := by decide
  have hac := hS.2.2.2.2
  refine n_iconst c_53_0 ?_
  refine n_istore_n (L2 := [some (2, 15), some (2, 7), some (0, 9), some (0, 0), none]) c_53_1 rfl rfl ?_
  refine n_iload_n c_53_2 rfl ?_
  refine n_iconst c_53_3 ?_
  refine n_isub c_53_4 rfl ?_
  refine n_istore (L2 := [some (2, 15), some (2, 7), some (0, 9), some (0, 0), some (0, (9 - 1))]) c_53_5 rfl rfl ?_
  refine n_iload c_53_7 rfl ?_
  refine n_if0_lt c_53_9 (by omega) ?_ ?_
  · intro h1
    exfalso; omega
  · intro h2
    refine n_iload_n c_53_12 rfl ?_
    refine n_aload_n c_53_13 rfl ?_
    refine n_getB c_53_14 hB ?_
    refine n_getV (bi := 0) c_53_17 sc_4.n rfl rfl rfl (t_4_0 hS) ?_
    intro z3 ez3 f4
    obtain rfl : z3 = 3 := by omega
    refine n_imul c_53_20 rfl ?_
    refine n_aload_n c_53_21 rfl ?_
    refine n_iload c_53_22 rfl ?_
    refine n_ialoadV c_53_24 sc_7.n rfl rfl rfl (by omega) (t_7k (z := 2) hS (by omega) (by omega) (by omega)) ?_
    intro z5 ez5 f6
    refine n_iadd c_53_25 rfl ?_
    refine n_istore_n (L2 := [some (2, 15), some (2, 7), some (0, 9), some (0, ((0 * 3) + z5)), some (0, (9 - 1))]) c_53_26 rfl rfl ?_
    refine n_iinc (L2 := [some (2, 15), some (2, 7), some (0, 9), some (0, ((0 * 3) + z5)), some (0, ((9 - 1) + (-1)))]) c_53_27 rfl rfl rfl ?_
    refine n_goto c_53_30 ?_
    refine n_iload c_53_7 rfl ?_
    refine n_if0_lt c_53_9 (by omega) ?_ ?_
    · intro h7
      exfalso; omega
    · intro h8
      refine n_iload_n c_53_12 rfl ?_
      refine n_aload_n c_53_13 rfl ?_
      refine n_getB c_53_14 hB ?_
      refine n_getV (bi := 0) c_53_17 sc_4.n rfl rfl rfl (t_4_0 hS) ?_
      intro z9 ez9 f10
      obtain rfl : z9 = 3 := by omega
      refine n_imul c_53_20 rfl ?_
      refine n_aload_n c_53_21 rfl ?_
      refine n_iload c_53_22 rfl ?_
      refine n_ialoadV c_53_24 sc_7.n rfl rfl rfl (by omega) (t_7k (z := 1) hS (by omega) (by omega) (by omega)) ?_
      intro z11 ez11 f12
      refine n_iadd c_53_25 rfl ?_
      refine n_istore_n (L2 := [some (2, 15), some (2, 7), some (0, 9), some (0, ((((0 * 3) + z5) * 3) + z11)), some (0, ((9 - 1) + (-1)))]) c_53_26 rfl rfl ?_
      refine n_iinc (L2 := [some (2, 15), some (2, 7), some (0, 9), some (0, ((((0 * 3) + z5) * 3) + z11)), some (0, (((9 - 1) + (-1)) + (-1)))]) c_53_27 rfl rfl rfl ?_
      refine n_goto c_53_30 ?_
      refine n_iload c_53_7 rfl ?_
      refine n_if0_lt c_53_9 (by omega) ?_ ?_
      · intro h13
        exfalso; omega
      · intro h14
        refine n_iload_n c_53_12 rfl ?_
        refine n_aload_n c_53_13 rfl ?_
        refine n_getB c_53_14 hB ?_
        refine n_getV (bi := 0) c_53_17 sc_4.n rfl rfl rfl (t_4_0 hS) ?_
        intro z15 ez15 f16
        obtain rfl : z15 = 3 := by omega
        refine n_imul c_53_20 rfl ?_
        refine n_aload_n c_53_21 rfl ?_
        refine n_iload c_53_22 rfl ?_
        refine n_ialoadV c_53_24 sc_7.n rfl rfl rfl (by omega) (t_7k (z := 0) hS (by omega) (by omega) (by omega)) ?_
        intro z17 ez17 f18
        refine n_iadd c_53_25 rfl ?_
        refine n_istore_n (L2 := [some (2, 15), some (2, 7), some (0, 9), some (0, ((((((0 * 3) + z5) * 3) + z11) * 3) + z17)), some (0, (((9 - 1) + (-1)) + (-1)))]) c_53_26 rfl rfl ?_
        refine n_iinc (L2 := [some (2, 15), some (2, 7), some (0, 9), some (0, ((((((0 * 3) + z5) * 3) + z11) * 3) + z17)), some (0, ((((9 - 1) + (-1)) + (-1)) + (-1)))]) c_53_27 rfl rfl rfl ?_
        refine n_goto c_53_30 ?_
        refine n_iload c_53_7 rfl ?_
        refine n_if0_lt c_53_9 (by omega) ?_ ?_
        · intro h19
          exfalso; omega
        · intro h20
          refine n_iload_n c_53_12 rfl ?_
          refine n_aload_n c_53_13 rfl ?_
          refine n_getB c_53_14 hB ?_
          refine n_getV (bi := 0) c_53_17 sc_4.n rfl rfl rfl (t_4_0 hS) ?_
          intro z21 ez21 f22
          obtain rfl : z21 = 3 := by omega
          refine n_imul c_53_20 rfl ?_
          refine n_aload_n c_53_21 rfl ?_
          refine n_iload c_53_22 rfl ?_
          refine n_ialoadV c_53_24 sc_7.n rfl rfl rfl (by omega) (t_7k (z := 2) hS (by omega) (by omega) (by omega)) ?_
          intro z23 ez23 f24
          refine n_iadd c_53_25 rfl ?_
          refine n_istore_n (L2 := [some (2, 15), some (2, 7), some (0, 9), some (0, ((((((((0 * 3) + z5) * 3) + z11) * 3) + z17) * 3) + z23)), some (0, ((((9 - 1) + (-1)) + (-1)) + (-1)))]) c_53_26 rfl rfl ?_
          refine n_iinc (L2 := [some (2, 15), some (2, 7), some (0, 9), some (0, ((((((((0 * 3) + z5) * 3) + z11) * 3) + z17) * 3) + z23)), some (0, (((((9 - 1) + (-1)) + (-1)) + (-1)) + (-1)))]) c_53_27 rfl rfl rfl ?_
          refine n_goto c_53_30 ?_
          refine n_iload c_53_7 rfl ?_
          refine n_if0_lt c_53_9 (by omega) ?_ ?_
          · intro h25
            exfalso; omega
          · intro h26
            refine n_iload_n c_53_12 rfl ?_
            refine n_aload_n c_53_13 rfl ?_
            refine n_getB c_53_14 hB ?_
            refine n_getV (bi := 0) c_53_17 sc_4.n rfl rfl rfl (t_4_0 hS) ?_
            intro z27 ez27 f28
            obtain rfl : z27 = 3 := by omega
            refine n_imul c_53_20 rfl ?_
            refine n_aload_n c_53_21 rfl ?_
            refine n_iload c_53_22 rfl ?_
            refine n_ialoadV c_53_24 sc_7.n rfl rfl rfl (by omega) (t_7k (z := 1) hS (by omega) (by omega) (by omega)) ?_
            intro z29 ez29 f30
            refine n_iadd c_53_25 rfl ?_
            refine n_istore_n (L2 := [some (2, 15), some (2, 7), some (0, 9), some (0, ((((((((((0 * 3) + z5) * 3) + z11) * 3) + z17) * 3) + z23) * 3) + z29)), some (0, (((((9 - 1) + (-1)) + (-1)) + (-1)) + (-1)))]) c_53_26 rfl rfl ?_
            refine n_iinc (L2 := [some (2, 15), some (2, 7), some (0, 9), some (0, ((((((((((0 * 3) + z5) * 3) + z11) * 3) + z17) * 3) + z23) * 3) + z29)), some (0, ((((((9 - 1) + (-1)) + (-1)) + (-1)) + (-1)) + (-1)))]) c_53_27 rfl rfl rfl ?_
            refine n_goto c_53_30 ?_
            refine n_iload c_53_7 rfl ?_
            refine n_if0_lt c_53_9 (by omega) ?_ ?_
            · intro h31
              exfalso; omega
            · intro h32
              refine n_iload_n c_53_12 rfl ?_
              refine n_aload_n c_53_13 rfl ?_
              refine n_getB c_53_14 hB ?_
              refine n_getV (bi := 0) c_53_17 sc_4.n rfl rfl rfl (t_4_0 hS) ?_
              intro z33 ez33 f34
              obtain rfl : z33 = 3 := by omega
              refine n_imul c_53_20 rfl ?_
              refine n_aload_n c_53_21 rfl ?_
              refine n_iload c_53_22 rfl ?_
              refine n_ialoadV c_53_24 sc_7.n rfl rfl rfl (by omega) (t_7k (z := 0) hS (by omega) (by omega) (by omega)) ?_
              intro z35 ez35 f36
              refine n_iadd c_53_25 rfl ?_
              refine n_istore_n (L2 := [some (2, 15), some (2, 7), some (0, 9), some (0, ((((((((((((0 * 3) + z5) * 3) + z11) * 3) + z17) * 3) + z23) * 3) + z29) * 3) + z35)), some (0, ((((((9 - 1) + (-1)) + (-1)) + (-1)) + (-1)) + (-1)))]) c_53_26 rfl rfl ?_
              refine n_iinc (L2 := [some (2, 15), some (2, 7), some (0, 9), some (0, ((((((((((((0 * 3) + z5) * 3) + z11) * 3) + z17) * 3) + z23) * 3) + z29) * 3) + z35)), some (0, (((((((9 - 1) + (-1)) + (-1)) + (-1)) + (-1)) + (-1)) + (-1)))]) c_53_27 rfl rfl rfl ?_
              refine n_goto c_53_30 ?_
              refine n_iload c_53_7 rfl ?_
              refine n_if0_lt c_53_9 (by omega) ?_ ?_
              · intro h37
                exfalso; omega
              · intro h38
                refine n_iload_n c_53_12 rfl ?_
                refine n_aload_n c_53_13 rfl ?_
                refine n_getB c_53_14 hB ?_
                refine n_getV (bi := 0) c_53_17 sc_4.n rfl rfl rfl (t_4_0 hS) ?_
                intro z39 ez39 f40
                obtain rfl : z39 = 3 := by omega
                refine n_imul c_53_20 rfl ?_
                refine n_aload_n c_53_21 rfl ?_
                refine n_iload c_53_22 rfl ?_
                refine n_ialoadV c_53_24 sc_7.n rfl rfl rfl (by omega) (t_7k (z := 2) hS (by omega) (by omega) (by omega)) ?_
                intro z41 ez41 f42
                refine n_iadd c_53_25 rfl ?_
                refine n_istore_n (L2 := [some (2, 15), some (2, 7), some (0, 9), some (0, ((((((((((((((0 * 3) + z5) * 3) + z11) * 3) + z17) * 3) + z23) * 3) + z29) * 3) + z35) * 3) + z41)), some (0, (((((((9 - 1) + (-1)) + (-1)) + (-1)) + (-1)) + (-1)) + (-1)))]) c_53_26 rfl rfl ?_
                refine n_iinc (L2 := [some (2, 15), some (2, 7), some (0, 9), some (0, ((((((((((((((0 * 3) + z5) * 3) + z11) * 3) + z17) * 3) + z23) * 3) + z29) * 3) + z35) * 3) + z41)), some (0, ((((((((9 - 1) + (-1)) + (-1)) + (-1)) + (-1)) + (-1)) + (-1)) + (-1)))]) c_53_27 rfl rfl rfl ?_
                refine n_goto c_53_30 ?_
                refine n_iload c_53_7 rfl ?_
                refine n_if0_lt c_53_9 (by omega) ?_ ?_
                · intro h43
                  exfalso; omega
                · intro h44
                  refine n_iload_n c_53_12 rfl ?_
                  refine n_aload_n c_53_13 rfl ?_
                  refine n_getB c_53_14 hB ?_
                  refine n_getV (bi := 0) c_53_17 sc_4.n rfl rfl rfl (t_4_0 hS) ?_
                  intro z45 ez45 f46
                  obtain rfl : z45 = 3 := by omega
                  refine n_imul c_53_20 rfl ?_
                  refine n_aload_n c_53_21 rfl ?_
                  refine n_iload c_53_22 rfl ?_
                  refine n_ialoadV c_53_24 sc_7.n rfl rfl rfl (by omega) (t_7k (z := 1) hS (by omega) (by omega) (by omega)) ?_
                  intro z47 ez47 f48
                  refine n_iadd c_53_25 rfl ?_
                  refine n_istore_n (L2 := [some (2, 15), some (2, 7), some (0, 9), some (0, ((((((((((((((((0 * 3) + z5) * 3) + z11) * 3) + z17) * 3) + z23) * 3) + z29) * 3) + z35) * 3) + z41) * 3) + z47)), some (0, ((((((((9 - 1) + (-1)) + (-1)) + (-1)) + (-1)) + (-1)) + (-1)) + (-1)))]) c_53_26 rfl rfl ?_
                  refine n_iinc (L2 := [some (2, 15), some (2, 7), some (0, 9), some (0, ((((((((((((((((0 * 3) + z5) * 3) + z11) * 3) + z17) * 3) + z23) * 3) + z29) * 3) + z35) * 3) + z41) * 3) + z47)), some (0, (((((((((9 - 1) + (-1)) + (-1)) + (-1)) + (-1)) + (-1)) + (-1)) + (-1)) + (-1)))]) c_53_27 rfl rfl rfl ?_
                  refine n_goto c_53_30 ?_
                  refine n_iload c_53_7 rfl ?_
                  refine n_if0_lt c_53_9 (by omega) ?_ ?_
                  · intro h49
                    exfalso; omega
                  · intro h50
                    refine n_iload_n c_53_12 rfl ?_
                    refine n_aload_n c_53_13 rfl ?_
                    refine n_getB c_53_14 hB ?_
                    refine n_getV (bi := 0) c_53_17 sc_4.n rfl rfl rfl (t_4_0 hS) ?_
                    intro z51 ez51 f52
                    obtain rfl : z51 = 3 := by omega
                    refine n_imul c_53_20 rfl ?_
                    refine n_aload_n c_53_21 rfl ?_
                    refine n_iload c_53_22 rfl ?_
                    refine n_ialoadV c_53_24 sc_7.n rfl rfl rfl (by omega) (t_7k (z := 0) hS (by omega) (by omega) (by omega)) ?_
                    intro z53 ez53 f54
                    refine n_iadd c_53_25 rfl ?_
                    refine n_istore_n (L2 := [some (2, 15), some (2, 7), some (0, 9), some (0, ((((((((((((((((((0 * 3) + z5) * 3) + z11) * 3) + z17) * 3) + z23) * 3) + z29) * 3) + z35) * 3) + z41) * 3) + z47) * 3) + z53)), some (0, (((((((((9 - 1) + (-1)) + (-1)) + (-1)) + (-1)) + (-1)) + (-1)) + (-1)) + (-1)))]) c_53_26 rfl rfl ?_
                    refine n_iinc (L2 := [some (2, 15), some (2, 7), some (0, 9), some (0, ((((((((((((((((((0 * 3) + z5) * 3) + z11) * 3) + z17) * 3) + z23) * 3) + z29) * 3) + z35) * 3) + z41) * 3) + z47) * 3) + z53)), some (0, ((((((((((9 - 1) + (-1)) + (-1)) + (-1)) + (-1)) + (-1)) + (-1)) + (-1)) + (-1)) + (-1)))]) c_53_27 rfl rfl rfl ?_
                    refine n_goto c_53_30 ?_
                    refine n_iload c_53_7 rfl ?_
                    refine n_if0_lt c_53_9 (by omega) ?_ ?_
                    · intro h55
                      refine n_iload_n c_53_33 rfl ?_
                      exact n_rI c_53_34 rfl ⟨rfl, by omega⟩
                    · intro h56
                      exfalso; omega

set_option maxHeartbeats 4000000 in
theorem fillM25T_2_3_c {xs : List Int32} {e : Nat} {ac : Int} {M0 M : nM} {p i j g : Int} (hS : Sf 3 ac M0 M) (hp : ActAt p) (hpl : p < 55 + 3 * ac) (hi : 0 ≤ i ∧ i ≤ 26) (hj : 0 ≤ j ∧ j ≤ 26) (hK : MK 19683 27 26 702 18954 1 3 9 27 81 243 729 2187 6561 M) (hg : M 15 10 = g) : ∀ nn : Nat, (∀ (x5 x6 x7 x8 x9 x10 : Int) (M : nM), Sf 3 ac M0 M → (3 ≤ x5 ∧ x5 ≤ 3) → (0 ≤ x6 ∧ x6 ≤ 24) → (0 ≤ x7 ∧ x7 ≤ 24) → (0 ≤ x8 ∧ x8 ≤ 24) → (0 ≤ x9 ∧ x9 ≤ 27) → (0 ≤ x10 ∧ x10 ≤ 3) → (MK 19683 27 26 702 18954 1 3 9 27 81 243 729 2187 6561 M) → (M 15 10 = g) → (x9 = 9 * x10) → (3 - x10) * 31 + 31 < (nn : Int) → nW xs e 45 86 [some (2, 25), none, some (2, (p + 1)), none, none, some (0, x5), some (0, x6), some (0, x7), some (0, x8), some (0, x9), some (0, x10), none, none, none, none] [] M (nPV fun M1 => Sf 3 ac M0 M1 ∧ (M1 15 10 = g) ∧ MK 19683 27 26 702 18954 1 3 9 27 81 243 729 2187 6561 M1)) ∧ (∀ (x5 x6 x7 x8 x9 x10 x11 x12 : Int) (M : nM), Sf 3 ac M0 M → (3 ≤ x5 ∧ x5 ≤ 3) → (0 ≤ x6 ∧ x6 ≤ 24) → (0 ≤ x7 ∧ x7 ≤ 24) → (0 ≤ x8 ∧ x8 ≤ 24) → (0 ≤ x9 ∧ x9 ≤ 27) → (0 ≤ x10 ∧ x10 ≤ 2) → (0 ≤ x11 ∧ x11 ≤ 2) → (0 ≤ x12 ∧ x12 ≤ 3) → (MK 19683 27 26 702 18954 1 3 9 27 81 243 729 2187 6561 M) → (M 15 10 = g) → (x9 = 9 * x10 + 3 * x12) → (3 - x10) * 31 + (3 - x12) * 6 + 6 < (nn : Int) → nW xs e 45 110 [some (2, 25), none, some (2, (p + 1)), none, none, some (0, x5), some (0, x6), some (0, x7), some (0, x8), some (0, x9), some (0, x10), some (0, x11), some (0, x12), none, none] [] M (nPV fun M1 => Sf 3 ac M0 M1 ∧ (M1 15 10 = g) ∧ MK 19683 27 26 702 18954 1 3 9 27 81 243 729 2187 6561 M1)) ∧ (∀ (x5 x6 x7 x8 x9 x10 x11 x12 x13 x14 : Int) (M : nM), Sf 3 ac M0 M → (3 ≤ x5 ∧ x5 ≤ 3) → (0 ≤ x6 ∧ x6 ≤ 24) → (0 ≤ x7 ∧ x7 ≤ 24) → (0 ≤ x8 ∧ x8 ≤ 24) → (0 ≤ x9 ∧ x9 ≤ 27) → (0 ≤ x10 ∧ x10 ≤ 2) → (0 ≤ x11 ∧ x11 ≤ 2) → (0 ≤ x12 ∧ x12 ≤ 2) → (0 ≤ x13 ∧ x13 ≤ 8) → (0 ≤ x14 ∧ x14 ≤ 3) → (MK 19683 27 26 702 18954 1 3 9 27 81 243 729 2187 6561 M) → (M 15 10 = g) → (x9 = 9 * x10 + 3 * x12 + x14) → (3 - x10) * 31 + (3 - x12) * 6 + (3 - x14) * 1 + 1 < (nn : Int) → nW xs e 45 137 [some (2, 25), none, some (2, (p + 1)), none, none, some (0, x5), some (0, x6), some (0, x7), some (0, x8), some (0, x9), some (0, x10), some (0, x11), some (0, x12), some (0, x13), some (0, x14)] [] M (nPV fun M1 => Sf 3 ac M0 M1 ∧ (M1 15 10 = g) ∧ MK 19683 27 26 702 18954 1 3 9 27 81 243 729 2187 6561 M1)) := by
  have hd : (3 : Int) = 2 ∨ (3 : Int) = 3 := by decide
  have hac := hS.2.2.2.2
  intro nn
  induction nn with
  | zero => refine ⟨?_, ?_, ?_⟩ <;> (intros; omega)
  | succ nn ih =>
    refine ⟨?_, ?_, ?_⟩
    · intro x5 x6 x7 x8 x9 x10 M hS k5 k6 k7 k8 k9 k10 hK hgg v0 hnn
      refine n_iload c_45_86 rfl ?_
      refine n_iload c_45_88 rfl ?_
      refine n_if2_ge c_45_90 (by omega) (by omega) ?_ ?_
      · intro h1
        exact n_rV c_45_187 rfl ⟨hS, by omega, hK⟩
      · intro h2
        refine n_aload_n c_45_93 rfl ?_
        refine n_iload c_45_94 rfl ?_
        refine n_iload c_45_96 rfl ?_
        refine n_iadd c_45_98 rfl ?_
        refine n_ialoadV c_45_99 hp.c0.2.1.n rfl rfl rfl (by omega) (t_actrl hS hp hpl (Or.inl rfl) (by omega) (by omega)) ?_
        intro z3 ez3 f4
        refine n_aload_n c_45_100 rfl ?_
        refine n_getV (bi := 1) c_45_101 sc_25.n rfl rfl rfl hK.w25.1 ?_
        intro z5 ez5 f6
        obtain rfl : z5 = 1 := by omega
        refine n_imul c_45_104 rfl ?_
        refine n_istore (L2 := [some (2, 25), none, some (2, (p + 1)), none, none, some (0, x5), some (0, x6), some (0, x7), some (0, x8), some (0, x9), some (0, x10), some (0, (z3 * 1)), none, none, none]) c_45_105 rfl rfl ?_
        refine n_iconst c_45_107 ?_
        refine n_istore (L2 := [some (2, 25), none, some (2, (p + 1)), none, none, some (0, x5), some (0, x6), some (0, x7), some (0, x8), some (0, x9), some (0, x10), some (0, (z3 * 1)), some (0, 0), none, none]) c_45_108 rfl rfl ?_
        refine n_fg (le_s (le_n (le_s (le_n (le_n (le_s (le_s (le_s (le_s (le_s (le_s (le_s (le_s (le_n (le_n le_0))))))))))))))) ?_
        exact ih.2.1 _ _ _ _ _ _ _ _ M hS (by omega) (by omega) (by omega) (by omega) (by omega) (by omega) (by omega) (by omega) hK (by omega) (by omega) (by omega)
    · intro x5 x6 x7 x8 x9 x10 x11 x12 M hS k5 k6 k7 k8 k9 k10 k11 k12 hK hgg v0 hnn
      refine n_iload c_45_110 rfl ?_
      refine n_iload c_45_112 rfl ?_
      refine n_if2_ge c_45_114 (by omega) (by omega) ?_ ?_
      · intro h1
        refine n_iinc (L2 := [some (2, 25), none, some (2, (p + 1)), none, none, some (0, x5), some (0, x6), some (0, x7), some (0, x8), some (0, x9), some (0, (x10 + 1)), some (0, x11), some (0, x12), none, none]) c_45_181 rfl rfl rfl ?_
        refine n_goto c_45_184 ?_
        refine n_fg (le_s (le_n (le_s (le_n (le_n (le_s (le_s (le_s (le_s (le_s (le_s (le_n (le_n (le_n (le_n le_0))))))))))))))) ?_
        exact ih.1 _ _ _ _ _ _ M hS (by omega) (by omega) (by omega) (by omega) (by omega) (by omega) hK (by omega) (by omega) (by omega)
      · intro h2
        refine n_iload c_45_117 rfl ?_
        refine n_aload_n c_45_119 rfl ?_
        refine n_iload c_45_120 rfl ?_
        refine n_iload c_45_122 rfl ?_
        refine n_iadd c_45_124 rfl ?_
        refine n_ialoadV c_45_125 hp.c0.2.1.n rfl rfl rfl (by omega) (t_actrl hS hp hpl (Or.inl rfl) (by omega) (by omega)) ?_
        intro z3 ez3 f4
        refine n_aload_n c_45_126 rfl ?_
        refine n_getV (bi := 2) c_45_127 sc_25.n rfl rfl rfl hK.w25.2.1 ?_
        intro z5 ez5 f6
        obtain rfl : z5 = 3 := by omega
        refine n_imul c_45_130 rfl ?_
        refine n_iadd c_45_131 rfl ?_
        refine n_istore (L2 := [some (2, 25), none, some (2, (p + 1)), none, none, some (0, x5), some (0, x6), some (0, x7), some (0, x8), some (0, x9), some (0, x10), some (0, x11), some (0, x12), some (0, (x11 + (z3 * 3))), none]) c_45_132 rfl rfl ?_
        refine n_iconst c_45_134 ?_
        refine n_istore (L2 := [some (2, 25), none, some (2, (p + 1)), none, none, some (0, x5), some (0, x6), some (0, x7), some (0, x8), some (0, x9), some (0, x10), some (0, x11), some (0, x12), some (0, (x11 + (z3 * 3))), some (0, 0)]) c_45_135 rfl rfl ?_
        refine n_fg (le_s (le_n (le_s (le_n (le_n (le_s (le_s (le_s (le_s (le_s (le_s (le_s (le_s (le_s (le_s le_0))))))))))))))) ?_
        exact ih.2.2 _ _ _ _ _ _ _ _ _ _ M hS (by omega) (by omega) (by omega) (by omega) (by omega) (by omega) (by omega) (by omega) (by omega) (by omega) hK (by omega) (by omega) (by omega)
    · intro x5 x6 x7 x8 x9 x10 x11 x12 x13 x14 M hS k5 k6 k7 k8 k9 k10 k11 k12 k13 k14 hK hgg v0 hnn
      refine n_iload c_45_137 rfl ?_
      refine n_iload c_45_139 rfl ?_
      refine n_if2_ge c_45_141 (by omega) (by omega) ?_ ?_
      · intro h1
        refine n_iinc (L2 := [some (2, 25), none, some (2, (p + 1)), none, none, some (0, x5), some (0, x6), some (0, x7), some (0, x8), some (0, x9), some (0, x10), some (0, x11), some (0, (x12 + 1)), some (0, x13), some (0, x14)]) c_45_175 rfl rfl rfl ?_
        refine n_goto c_45_178 ?_
        refine n_fg (le_s (le_n (le_s (le_n (le_n (le_s (le_s (le_s (le_s (le_s (le_s (le_s (le_s (le_n (le_n le_0))))))))))))))) ?_
        exact ih.2.1 _ _ _ _ _ _ _ _ M hS (by omega) (by omega) (by omega) (by omega) (by omega) (by omega) (by omega) (by omega) hK (by omega) (by omega) (by omega)
      · intro h2
        refine n_aload_n c_45_144 rfl ?_
        refine n_getR c_45_145 sc_25.n rfl rfl rfl r_25_0 ?_
        refine n_iload c_45_148 rfl ?_
        refine n_iload c_45_150 rfl ?_
        refine n_aload_n c_45_152 rfl ?_
        refine n_iload c_45_153 rfl ?_
        refine n_iload c_45_155 rfl ?_
        refine n_iadd c_45_157 rfl ?_
        refine n_ialoadV c_45_158 hp.c0.2.1.n rfl rfl rfl (by omega) (t_actrl hS hp hpl (Or.inl rfl) (by omega) (by omega)) ?_
        intro z3 ez3 f4
        refine n_aload_n c_45_159 rfl ?_
        refine n_getV (bi := 3) c_45_160 sc_25.n rfl rfl rfl hK.w25.2.2 ?_
        intro z5 ez5 f6
        obtain rfl : z5 = 9 := by omega
        refine n_imul c_45_163 rfl ?_
        refine n_iadd c_45_164 rfl ?_
        refine n_iastoreV hS c_45_165 sc_26.n rfl (by omega) (w_26 (by omega) (by omega)) ?_
        intro M7 eM7 hS7
        have hK7 := hK.u (by unfold Kok; omega) eM7
        have g7_0 : M7 15 10 = M 15 10 := by rw [eM7]; exact nu_a (by omega)
        refine n_iinc (L2 := [some (2, 25), none, some (2, (p + 1)), none, none, some (0, x5), some (0, x6), some (0, x7), some (0, x8), some (0, (x9 + 1)), some (0, x10), some (0, x11), some (0, x12), some (0, x13), some (0, x14)]) c_45_166 rfl rfl rfl ?_
        refine n_iinc (L2 := [some (2, 25), none, some (2, (p + 1)), none, none, some (0, x5), some (0, x6), some (0, x7), some (0, x8), some (0, (x9 + 1)), some (0, x10), some (0, x11), some (0, x12), some (0, x13), some (0, (x14 + 1))]) c_45_169 rfl rfl rfl ?_
        refine n_goto c_45_172 ?_
        refine n_fg (le_s (le_n (le_s (le_n (le_n (le_s (le_s (le_s (le_s (le_s (le_s (le_s (le_s (le_s (le_s le_0))))))))))))))) ?_
        exact ih.2.2 _ _ _ _ _ _ _ _ _ _ M7 hS7 (by omega) (by omega) (by omega) (by omega) (by omega) (by omega) (by omega) (by omega) (by omega) (by omega) hK7 (by omega) (by omega) (by omega)
set_option maxHeartbeats 4000000 in
theorem fillM25T_2_3 {xs : List Int32} {e : Nat} {ac : Int} {M0 M : nM} {p i j g : Int} (hS : Sf 3 ac M0 M) (hp : ActAt p) (hpl : p < 55 + 3 * ac) (hi : 0 ≤ i ∧ i ≤ 26) (hj : 0 ≤ j ∧ j ≤ 26) (hK : MK 19683 27 26 702 18954 1 3 9 27 81 243 729 2187 6561 M) (hg : M 15 10 = g) : nW xs e 45 0 [some (2, 25), some (2, 4), some (2, (p + 1)), some (0, i), some (0, j), none, none, none, none, none, none, none, none, none, none] [] M (nPV fun M1 => Sf 3 ac M0 M1 ∧ (M1 15 10 = g) ∧ MK 19683 27 26 702 18954 1 3 9 27 81 243 729 2187 6561 M1) := by
  have hd : (3 : Int) = 2 ∨ (3 : Int) = 3 := by decide
  have hac := hS.2.2.2.2
  refine n_aload_n c_45_0 rfl ?_
  refine n_getV (bi := 1) c_45_1 sc_25.n rfl rfl rfl hK.w25.1 ?_
  intro z1 ez1 f2
  obtain rfl : z1 = 1 := by omega
  refine n_if0_ne c_45_4 (by omega) ?_ ?_
  · intro h3
    refine n_aload_n c_45_8 rfl ?_
    refine n_getV (bi := 0) c_45_9 sc_4.n rfl rfl rfl (t_4_0 hS) ?_
    intro z4 ez4 f5
    obtain rfl : z4 = 3 := by omega
    refine n_istore (L2 := [some (2, 25), some (2, 4), some (2, (p + 1)), some (0, i), some (0, j), some (0, 3), none, none, none, none, none, none, none, none, none]) c_45_12 rfl rfl ?_
    refine n_aload_n c_45_14 rfl ?_
    refine n_getR c_45_15 sc_4.n rfl rfl rfl r_4_2 ?_
    refine n_iload_n c_45_18 rfl ?_
    refine n_ialoadV c_45_19 sc_5.n rfl rfl rfl (by omega) (t_5d hS hd (by omega) (by omega)) ?_
    intro z6 ez6 f7
    refine n_iload c_45_20 rfl ?_
    refine n_imul c_45_22 rfl ?_
    refine n_aload_n c_45_23 rfl ?_
    refine n_getR c_45_24 sc_4.n rfl rfl rfl r_4_2 ?_
    refine n_iload c_45_27 rfl ?_
    refine n_ialoadV c_45_29 sc_5.n rfl rfl rfl (by omega) (t_5d hS hd (by omega) (by omega)) ?_
    intro z8 ez8 f9
    refine n_iadd c_45_30 rfl ?_
    refine n_iload c_45_31 rfl ?_
    refine n_imul c_45_33 rfl ?_
    refine n_istore (L2 := [some (2, 25), some (2, 4), some (2, (p + 1)), some (0, i), some (0, j), some (0, 3), some (0, (((z6 * 3) + z8) * 3)), none, none, none, none, none, none, none, none]) c_45_34 rfl rfl ?_
    refine n_aload_n c_45_36 rfl ?_
    refine n_getR c_45_37 sc_4.n rfl rfl rfl r_4_3 ?_
    refine n_iload_n c_45_40 rfl ?_
    refine n_ialoadV c_45_41 sc_6.n rfl rfl rfl (by omega) (t_6d hS hd (by omega) (by omega)) ?_
    intro z10 ez10 f11
    refine n_iload c_45_42 rfl ?_
    refine n_imul c_45_44 rfl ?_
    refine n_aload_n c_45_45 rfl ?_
    refine n_getR c_45_46 sc_4.n rfl rfl rfl r_4_3 ?_
    refine n_iload c_45_49 rfl ?_
    refine n_ialoadV c_45_51 sc_6.n rfl rfl rfl (by omega) (t_6d hS hd (by omega) (by omega)) ?_
    intro z12 ez12 f13
    refine n_iadd c_45_52 rfl ?_
    refine n_iload c_45_53 rfl ?_
    refine n_imul c_45_55 rfl ?_
    refine n_istore (L2 := [some (2, 25), some (2, 4), some (2, (p + 1)), some (0, i), some (0, j), some (0, 3), some (0, (((z6 * 3) + z8) * 3)), some (0, (((z10 * 3) + z12) * 3)), none, none, none, none, none, none, none]) c_45_56 rfl rfl ?_
    refine n_aload_n c_45_58 rfl ?_
    refine n_getR c_45_59 sc_4.n rfl rfl rfl r_4_4 ?_
    refine n_iload_n c_45_62 rfl ?_
    refine n_ialoadV c_45_63 sc_7.n rfl rfl rfl (by omega) (t_7d hS hd (by omega) (by omega)) ?_
    intro z14 ez14 f15
    refine n_iload c_45_64 rfl ?_
    refine n_imul c_45_66 rfl ?_
    refine n_aload_n c_45_67 rfl ?_
    refine n_getR c_45_68 sc_4.n rfl rfl rfl r_4_4 ?_
    refine n_iload c_45_71 rfl ?_
    refine n_ialoadV c_45_73 sc_7.n rfl rfl rfl (by omega) (t_7d hS hd (by omega) (by omega)) ?_
    intro z16 ez16 f17
    refine n_iadd c_45_74 rfl ?_
    refine n_iload c_45_75 rfl ?_
    refine n_imul c_45_77 rfl ?_
    refine n_istore (L2 := [some (2, 25), some (2, 4), some (2, (p + 1)), some (0, i), some (0, j), some (0, 3), some (0, (((z6 * 3) + z8) * 3)), some (0, (((z10 * 3) + z12) * 3)), some (0, (((z14 * 3) + z16) * 3)), none, none, none, none, none, none]) c_45_78 rfl rfl ?_
    refine n_iconst c_45_80 ?_
    refine n_istore (L2 := [some (2, 25), some (2, 4), some (2, (p + 1)), some (0, i), some (0, j), some (0, 3), some (0, (((z6 * 3) + z8) * 3)), some (0, (((z10 * 3) + z12) * 3)), some (0, (((z14 * 3) + z16) * 3)), some (0, 0), none, none, none, none, none]) c_45_81 rfl rfl ?_
    refine n_iconst c_45_83 ?_
    refine n_istore (L2 := [some (2, 25), some (2, 4), some (2, (p + 1)), some (0, i), some (0, j), some (0, 3), some (0, (((z6 * 3) + z8) * 3)), some (0, (((z10 * 3) + z12) * 3)), some (0, (((z14 * 3) + z16) * 3)), some (0, 0), some (0, 0), none, none, none, none]) c_45_84 rfl rfl ?_
    refine n_fg (le_s (le_n (le_s (le_n (le_n (le_s (le_s (le_s (le_s (le_s (le_s (le_n (le_n (le_n (le_n le_0))))))))))))))) ?_
    exact (fillM25T_2_3_c hS hp hpl hi hj hK hg 320).1 _ _ _ _ _ _ M hS (by omega) (by omega) (by omega) (by omega) (by omega) (by omega) hK (by omega) (by omega) (by omega)
  · intro h18
    exfalso; omega

set_option maxHeartbeats 4000000 in
theorem fillM27T_2_3_c {xs : List Int32} {e : Nat} {ac : Int} {M0 M : nM} {p i j g : Int} (hS : Sf 3 ac M0 M) (hp : ActAt p) (hpl : p < 55 + 3 * ac) (hi : 0 ≤ i ∧ i ≤ 26) (hj : 0 ≤ j ∧ j ≤ 26) (hK : MK 19683 27 26 702 18954 1 3 9 27 81 243 729 2187 6561 M) (hg : M 15 10 = g) : ∀ nn : Nat, (∀ (x5 x6 x7 x8 x9 x10 : Int) (M : nM), Sf 3 ac M0 M → (3 ≤ x5 ∧ x5 ≤ 3) → (0 ≤ x6 ∧ x6 ≤ 24) → (0 ≤ x7 ∧ x7 ≤ 24) → (0 ≤ x8 ∧ x8 ≤ 24) → (0 ≤ x9 ∧ x9 ≤ 27) → (0 ≤ x10 ∧ x10 ≤ 3) → (MK 19683 27 26 702 18954 1 3 9 27 81 243 729 2187 6561 M) → (M 15 10 = g) → (x9 = 9 * x10) → (3 - x10) * 31 + 31 < (nn : Int) → nW xs e 45 86 [some (2, 27), none, some (2, (p + 1)), none, none, some (0, x5), some (0, x6), some (0, x7), some (0, x8), some (0, x9), some (0, x10), none, none, none, none] [] M (nPV fun M1 => Sf 3 ac M0 M1 ∧ (M1 15 10 = g) ∧ MK 19683 27 26 702 18954 1 3 9 27 81 243 729 2187 6561 M1)) ∧ (∀ (x5 x6 x7 x8 x9 x10 x11 x12 : Int) (M : nM), Sf 3 ac M0 M → (3 ≤ x5 ∧ x5 ≤ 3) → (0 ≤ x6 ∧ x6 ≤ 24) → (0 ≤ x7 ∧ x7 ≤ 24) → (0 ≤ x8 ∧ x8 ≤ 24) → (0 ≤ x9 ∧ x9 ≤ 27) → (0 ≤ x10 ∧ x10 ≤ 2) → (0 ≤ x11 ∧ x11 ≤ 54) → (0 ≤ x12 ∧ x12 ≤ 3) → (MK 19683 27 26 702 18954 1 3 9 27 81 243 729 2187 6561 M) → (M 15 10 = g) → (x9 = 9 * x10 + 3 * x12) → (3 - x10) * 31 + (3 - x12) * 6 + 6 < (nn : Int) → nW xs e 45 110 [some (2, 27), none, some (2, (p + 1)), none, none, some (0, x5), some (0, x6), some (0, x7), some (0, x8), some (0, x9), some (0, x10), some (0, x11), some (0, x12), none, none] [] M (nPV fun M1 => Sf 3 ac M0 M1 ∧ (M1 15 10 = g) ∧ MK 19683 27 26 702 18954 1 3 9 27 81 243 729 2187 6561 M1)) ∧ (∀ (x5 x6 x7 x8 x9 x10 x11 x12 x13 x14 : Int) (M : nM), Sf 3 ac M0 M → (3 ≤ x5 ∧ x5 ≤ 3) → (0 ≤ x6 ∧ x6 ≤ 24) → (0 ≤ x7 ∧ x7 ≤ 24) → (0 ≤ x8 ∧ x8 ≤ 24) → (0 ≤ x9 ∧ x9 ≤ 27) → (0 ≤ x10 ∧ x10 ≤ 2) → (0 ≤ x11 ∧ x11 ≤ 54) → (0 ≤ x12 ∧ x12 ≤ 2) → (0 ≤ x13 ∧ x13 ≤ 216) → (0 ≤ x14 ∧ x14 ≤ 3) → (MK 19683 27 26 702 18954 1 3 9 27 81 243 729 2187 6561 M) → (M 15 10 = g) → (x9 = 9 * x10 + 3 * x12 + x14) → (3 - x10) * 31 + (3 - x12) * 6 + (3 - x14) * 1 + 1 < (nn : Int) → nW xs e 45 137 [some (2, 27), none, some (2, (p + 1)), none, none, some (0, x5), some (0, x6), some (0, x7), some (0, x8), some (0, x9), some (0, x10), some (0, x11), some (0, x12), some (0, x13), some (0, x14)] [] M (nPV fun M1 => Sf 3 ac M0 M1 ∧ (M1 15 10 = g) ∧ MK 19683 27 26 702 18954 1 3 9 27 81 243 729 2187 6561 M1)) := by
  have hd : (3 : Int) = 2 ∨ (3 : Int) = 3 := by decide
  have hac := hS.2.2.2.2
  intro nn
  induction nn with
  | zero => refine ⟨?_, ?_, ?_⟩ <;> (intros; omega)
  | succ nn ih =>
    refine ⟨?_, ?_, ?_⟩
    · intro x5 x6 x7 x8 x9 x10 M hS k5 k6 k7 k8 k9 k10 hK hgg v0 hnn
      refine n_iload c_45_86 rfl ?_
      refine n_iload c_45_88 rfl ?_
      refine n_if2_ge c_45_90 (by omega) (by omega) ?_ ?_
      · intro h1
        exact n_rV c_45_187 rfl ⟨hS, by omega, hK⟩
      · intro h2
        refine n_aload_n c_45_93 rfl ?_
        refine n_iload c_45_94 rfl ?_
        refine n_iload c_45_96 rfl ?_
        refine n_iadd c_45_98 rfl ?_
        refine n_ialoadV c_45_99 hp.c0.2.1.n rfl rfl rfl (by omega) (t_actrl hS hp hpl (Or.inl rfl) (by omega) (by omega)) ?_
        intro z3 ez3 f4
        refine n_aload_n c_45_100 rfl ?_
        refine n_getV (bi := 1) c_45_101 sc_27.n rfl rfl rfl hK.w27.1 ?_
        intro z5 ez5 f6
        obtain rfl : z5 = 27 := by omega
        refine n_imul c_45_104 rfl ?_
        refine n_istore (L2 := [some (2, 27), none, some (2, (p + 1)), none, none, some (0, x5), some (0, x6), some (0, x7), some (0, x8), some (0, x9), some (0, x10), some (0, (z3 * 27)), none, none, none]) c_45_105 rfl rfl ?_
        refine n_iconst c_45_107 ?_
        refine n_istore (L2 := [some (2, 27), none, some (2, (p + 1)), none, none, some (0, x5), some (0, x6), some (0, x7), some (0, x8), some (0, x9), some (0, x10), some (0, (z3 * 27)), some (0, 0), none, none]) c_45_108 rfl rfl ?_
        refine n_fg (le_s (le_n (le_s (le_n (le_n (le_s (le_s (le_s (le_s (le_s (le_s (le_s (le_s (le_n (le_n le_0))))))))))))))) ?_
        exact ih.2.1 _ _ _ _ _ _ _ _ M hS (by omega) (by omega) (by omega) (by omega) (by omega) (by omega) (by omega) (by omega) hK (by omega) (by omega) (by omega)
    · intro x5 x6 x7 x8 x9 x10 x11 x12 M hS k5 k6 k7 k8 k9 k10 k11 k12 hK hgg v0 hnn
      refine n_iload c_45_110 rfl ?_
      refine n_iload c_45_112 rfl ?_
      refine n_if2_ge c_45_114 (by omega) (by omega) ?_ ?_
      · intro h1
        refine n_iinc (L2 := [some (2, 27), none, some (2, (p + 1)), none, none, some (0, x5), some (0, x6), some (0, x7), some (0, x8), some (0, x9), some (0, (x10 + 1)), some (0, x11), some (0, x12), none, none]) c_45_181 rfl rfl rfl ?_
        refine n_goto c_45_184 ?_
        refine n_fg (le_s (le_n (le_s (le_n (le_n (le_s (le_s (le_s (le_s (le_s (le_s (le_n (le_n (le_n (le_n le_0))))))))))))))) ?_
        exact ih.1 _ _ _ _ _ _ M hS (by omega) (by omega) (by omega) (by omega) (by omega) (by omega) hK (by omega) (by omega) (by omega)
      · intro h2
        refine n_iload c_45_117 rfl ?_
        refine n_aload_n c_45_119 rfl ?_
        refine n_iload c_45_120 rfl ?_
        refine n_iload c_45_122 rfl ?_
        refine n_iadd c_45_124 rfl ?_
        refine n_ialoadV c_45_125 hp.c0.2.1.n rfl rfl rfl (by omega) (t_actrl hS hp hpl (Or.inl rfl) (by omega) (by omega)) ?_
        intro z3 ez3 f4
        refine n_aload_n c_45_126 rfl ?_
        refine n_getV (bi := 2) c_45_127 sc_27.n rfl rfl rfl hK.w27.2.1 ?_
        intro z5 ez5 f6
        obtain rfl : z5 = 81 := by omega
        refine n_imul c_45_130 rfl ?_
        refine n_iadd c_45_131 rfl ?_
        refine n_istore (L2 := [some (2, 27), none, some (2, (p + 1)), none, none, some (0, x5), some (0, x6), some (0, x7), some (0, x8), some (0, x9), some (0, x10), some (0, x11), some (0, x12), some (0, (x11 + (z3 * 81))), none]) c_45_132 rfl rfl ?_
        refine n_iconst c_45_134 ?_
        refine n_istore (L2 := [some (2, 27), none, some (2, (p + 1)), none, none, some (0, x5), some (0, x6), some (0, x7), some (0, x8), some (0, x9), some (0, x10), some (0, x11), some (0, x12), some (0, (x11 + (z3 * 81))), some (0, 0)]) c_45_135 rfl rfl ?_
        refine n_fg (le_s (le_n (le_s (le_n (le_n (le_s (le_s (le_s (le_s (le_s (le_s (le_s (le_s (le_s (le_s le_0))))))))))))))) ?_
        exact ih.2.2 _ _ _ _ _ _ _ _ _ _ M hS (by omega) (by omega) (by omega) (by omega) (by omega) (by omega) (by omega) (by omega) (by omega) (by omega) hK (by omega) (by omega) (by omega)
    · intro x5 x6 x7 x8 x9 x10 x11 x12 x13 x14 M hS k5 k6 k7 k8 k9 k10 k11 k12 k13 k14 hK hgg v0 hnn
      refine n_iload c_45_137 rfl ?_
      refine n_iload c_45_139 rfl ?_
      refine n_if2_ge c_45_141 (by omega) (by omega) ?_ ?_
      · intro h1
        refine n_iinc (L2 := [some (2, 27), none, some (2, (p + 1)), none, none, some (0, x5), some (0, x6), some (0, x7), some (0, x8), some (0, x9), some (0, x10), some (0, x11), some (0, (x12 + 1)), some (0, x13), some (0, x14)]) c_45_175 rfl rfl rfl ?_
        refine n_goto c_45_178 ?_
        refine n_fg (le_s (le_n (le_s (le_n (le_n (le_s (le_s (le_s (le_s (le_s (le_s (le_s (le_s (le_n (le_n le_0))))))))))))))) ?_
        exact ih.2.1 _ _ _ _ _ _ _ _ M hS (by omega) (by omega) (by omega) (by omega) (by omega) (by omega) (by omega) (by omega) hK (by omega) (by omega) (by omega)
      · intro h2
        refine n_aload_n c_45_144 rfl ?_
        refine n_getR c_45_145 sc_27.n rfl rfl rfl r_27_0 ?_
        refine n_iload c_45_148 rfl ?_
        refine n_iload c_45_150 rfl ?_
        refine n_aload_n c_45_152 rfl ?_
        refine n_iload c_45_153 rfl ?_
        refine n_iload c_45_155 rfl ?_
        refine n_iadd c_45_157 rfl ?_
        refine n_ialoadV c_45_158 hp.c0.2.1.n rfl rfl rfl (by omega) (t_actrl hS hp hpl (Or.inl rfl) (by omega) (by omega)) ?_
        intro z3 ez3 f4
        refine n_aload_n c_45_159 rfl ?_
        refine n_getV (bi := 3) c_45_160 sc_27.n rfl rfl rfl hK.w27.2.2 ?_
        intro z5 ez5 f6
        obtain rfl : z5 = 243 := by omega
        refine n_imul c_45_163 rfl ?_
        refine n_iadd c_45_164 rfl ?_
        refine n_iastoreV hS c_45_165 sc_28.n rfl (by omega) (w_28 (by omega) (by omega)) ?_
        intro M7 eM7 hS7
        have hK7 := hK.u (by unfold Kok; omega) eM7
        have g7_0 : M7 15 10 = M 15 10 := by rw [eM7]; exact nu_a (by omega)
        refine n_iinc (L2 := [some (2, 27), none, some (2, (p + 1)), none, none, some (0, x5), some (0, x6), some (0, x7), some (0, x8), some (0, (x9 + 1)), some (0, x10), some (0, x11), some (0, x12), some (0, x13), some (0, x14)]) c_45_166 rfl rfl rfl ?_
        refine n_iinc (L2 := [some (2, 27), none, some (2, (p + 1)), none, none, some (0, x5), some (0, x6), some (0, x7), some (0, x8), some (0, (x9 + 1)), some (0, x10), some (0, x11), some (0, x12), some (0, x13), some (0, (x14 + 1))]) c_45_169 rfl rfl rfl ?_
        refine n_goto c_45_172 ?_
        refine n_fg (le_s (le_n (le_s (le_n (le_n (le_s (le_s (le_s (le_s (le_s (le_s (le_s (le_s (le_s (le_s le_0))))))))))))))) ?_
        exact ih.2.2 _ _ _ _ _ _ _ _ _ _ M7 hS7 (by omega) (by omega) (by omega) (by omega) (by omega) (by omega) (by omega) (by omega) (by omega) (by omega) hK7 (by omega) (by omega) (by omega)
set_option maxHeartbeats 4000000 in
theorem fillM27T_2_3 {xs : List Int32} {e : Nat} {ac : Int} {M0 M : nM} {p i j g : Int} (hS : Sf 3 ac M0 M) (hp : ActAt p) (hpl : p < 55 + 3 * ac) (hi : 0 ≤ i ∧ i ≤ 26) (hj : 0 ≤ j ∧ j ≤ 26) (hK : MK 19683 27 26 702 18954 1 3 9 27 81 243 729 2187 6561 M) (hg : M 15 10 = g) : nW xs e 45 0 [some (2, 27), some (2, 4), some (2, (p + 1)), some (0, i), some (0, j), none, none, none, none, none, none, none, none, none, none] [] M (nPV fun M1 => Sf 3 ac M0 M1 ∧ (M1 15 10 = g) ∧ MK 19683 27 26 702 18954 1 3 9 27 81 243 729 2187 6561 M1) := by
  have hd : (3 : Int) = 2 ∨ (3 : Int) = 3 := by decide
  have hac := hS.2.2.2.2
  refine n_aload_n c_45_0 rfl ?_
  refine n_getV (bi := 1) c_45_1 sc_27.n rfl rfl rfl hK.w27.1 ?_
  intro z1 ez1 f2
  obtain rfl : z1 = 27 := by omega
  refine n_if0_ne c_45_4 (by omega) ?_ ?_
  · intro h3
    refine n_aload_n c_45_8 rfl ?_
    refine n_getV (bi := 0) c_45_9 sc_4.n rfl rfl rfl (t_4_0 hS) ?_
    intro z4 ez4 f5
    obtain rfl : z4 = 3 := by omega
    refine n_istore (L2 := [some (2, 27), some (2, 4), some (2, (p + 1)), some (0, i), some (0, j), some (0, 3), none, none, none, none, none, none, none, none, none]) c_45_12 rfl rfl ?_
    refine n_aload_n c_45_14 rfl ?_
    refine n_getR c_45_15 sc_4.n rfl rfl rfl r_4_2 ?_
    refine n_iload_n c_45_18 rfl ?_
    refine n_ialoadV c_45_19 sc_5.n rfl rfl rfl (by omega) (t_5d hS hd (by omega) (by omega)) ?_
    intro z6 ez6 f7
    refine n_iload c_45_20 rfl ?_
    refine n_imul c_45_22 rfl ?_
    refine n_aload_n c_45_23 rfl ?_
    refine n_getR c_45_24 sc_4.n rfl rfl rfl r_4_2 ?_
    refine n_iload c_45_27 rfl ?_
    refine n_ialoadV c_45_29 sc_5.n rfl rfl rfl (by omega) (t_5d hS hd (by omega) (by omega)) ?_
    intro z8 ez8 f9
    refine n_iadd c_45_30 rfl ?_
    refine n_iload c_45_31 rfl ?_
    refine n_imul c_45_33 rfl ?_
    refine n_istore (L2 := [some (2, 27), some (2, 4), some (2, (p + 1)), some (0, i), some (0, j), some (0, 3), some (0, (((z6 * 3) + z8) * 3)), none, none, none, none, none, none, none, none]) c_45_34 rfl rfl ?_
    refine n_aload_n c_45_36 rfl ?_
    refine n_getR c_45_37 sc_4.n rfl rfl rfl r_4_3 ?_
    refine n_iload_n c_45_40 rfl ?_
    refine n_ialoadV c_45_41 sc_6.n rfl rfl rfl (by omega) (t_6d hS hd (by omega) (by omega)) ?_
    intro z10 ez10 f11
    refine n_iload c_45_42 rfl ?_
    refine n_imul c_45_44 rfl ?_
    refine n_aload_n c_45_45 rfl ?_
    refine n_getR c_45_46 sc_4.n rfl rfl rfl r_4_3 ?_
    refine n_iload c_45_49 rfl ?_
    refine n_ialoadV c_45_51 sc_6.n rfl rfl rfl (by omega) (t_6d hS hd (by omega) (by omega)) ?_
    intro z12 ez12 f13
    refine n_iadd c_45_52 rfl ?_
    refine n_iload c_45_53 rfl ?_
    refine n_imul c_45_55 rfl ?_
    refine n_istore (L2 := [some (2, 27), some (2, 4), some (2, (p + 1)), some (0, i), some (0, j), some (0, 3), some (0, (((z6 * 3) + z8) * 3)), some (0, (((z10 * 3) + z12) * 3)), none, none, none, none, none, none, none]) c_45_56 rfl rfl ?_
    refine n_aload_n c_45_58 rfl ?_
    refine n_getR c_45_59 sc_4.n rfl rfl rfl r_4_4 ?_
    refine n_iload_n c_45_62 rfl ?_
    refine n_ialoadV c_45_63 sc_7.n rfl rfl rfl (by omega) (t_7d hS hd (by omega) (by omega)) ?_
    intro z14 ez14 f15
    refine n_iload c_45_64 rfl ?_
    refine n_imul c_45_66 rfl ?_
    refine n_aload_n c_45_67 rfl ?_
    refine n_getR c_45_68 sc_4.n rfl rfl rfl r_4_4 ?_
    refine n_iload c_45_71 rfl ?_
    refine n_ialoadV c_45_73 sc_7.n rfl rfl rfl (by omega) (t_7d hS hd (by omega) (by omega)) ?_
    intro z16 ez16 f17
    refine n_iadd c_45_74 rfl ?_
    refine n_iload c_45_75 rfl ?_
    refine n_imul c_45_77 rfl ?_
    refine n_istore (L2 := [some (2, 27), some (2, 4), some (2, (p + 1)), some (0, i), some (0, j), some (0, 3), some (0, (((z6 * 3) + z8) * 3)), some (0, (((z10 * 3) + z12) * 3)), some (0, (((z14 * 3) + z16) * 3)), none, none, none, none, none, none]) c_45_78 rfl rfl ?_
    refine n_iconst c_45_80 ?_
    refine n_istore (L2 := [some (2, 27), some (2, 4), some (2, (p + 1)), some (0, i), some (0, j), some (0, 3), some (0, (((z6 * 3) + z8) * 3)), some (0, (((z10 * 3) + z12) * 3)), some (0, (((z14 * 3) + z16) * 3)), some (0, 0), none, none, none, none, none]) c_45_81 rfl rfl ?_
    refine n_iconst c_45_83 ?_
    refine n_istore (L2 := [some (2, 27), some (2, 4), some (2, (p + 1)), some (0, i), some (0, j), some (0, 3), some (0, (((z6 * 3) + z8) * 3)), some (0, (((z10 * 3) + z12) * 3)), some (0, (((z14 * 3) + z16) * 3)), some (0, 0), some (0, 0), none, none, none, none]) c_45_84 rfl rfl ?_
    refine n_fg (le_s (le_n (le_s (le_n (le_n (le_s (le_s (le_s (le_s (le_s (le_s (le_n (le_n (le_n (le_n le_0))))))))))))))) ?_
    exact (fillM27T_2_3_c hS hp hpl hi hj hK hg 320).1 _ _ _ _ _ _ M hS (by omega) (by omega) (by omega) (by omega) (by omega) (by omega) hK (by omega) (by omega) (by omega)
  · intro h18
    exfalso; omega

set_option maxHeartbeats 4000000 in
theorem fillM29T_2_3_c {xs : List Int32} {e : Nat} {ac : Int} {M0 M : nM} {p i j g : Int} (hS : Sf 3 ac M0 M) (hp : ActAt p) (hpl : p < 55 + 3 * ac) (hi : 0 ≤ i ∧ i ≤ 26) (hj : 0 ≤ j ∧ j ≤ 26) (hK : MK 19683 27 26 702 18954 1 3 9 27 81 243 729 2187 6561 M) (hg : M 15 10 = g) : ∀ nn : Nat, (∀ (x5 x6 x7 x8 x9 x10 : Int) (M : nM), Sf 3 ac M0 M → (3 ≤ x5 ∧ x5 ≤ 3) → (0 ≤ x6 ∧ x6 ≤ 24) → (0 ≤ x7 ∧ x7 ≤ 24) → (0 ≤ x8 ∧ x8 ≤ 24) → (0 ≤ x9 ∧ x9 ≤ 27) → (0 ≤ x10 ∧ x10 ≤ 3) → (MK 19683 27 26 702 18954 1 3 9 27 81 243 729 2187 6561 M) → (M 15 10 = g) → (x9 = 9 * x10) → (3 - x10) * 31 + 31 < (nn : Int) → nW xs e 45 86 [some (2, 29), none, some (2, (p + 1)), none, none, some (0, x5), some (0, x6), some (0, x7), some (0, x8), some (0, x9), some (0, x10), none, none, none, none] [] M (nPV fun M1 => Sf 3 ac M0 M1 ∧ (M1 15 10 = g) ∧ MK 19683 27 26 702 18954 1 3 9 27 81 243 729 2187 6561 M1)) ∧ (∀ (x5 x6 x7 x8 x9 x10 x11 x12 : Int) (M : nM), Sf 3 ac M0 M → (3 ≤ x5 ∧ x5 ≤ 3) → (0 ≤ x6 ∧ x6 ≤ 24) → (0 ≤ x7 ∧ x7 ≤ 24) → (0 ≤ x8 ∧ x8 ≤ 24) → (0 ≤ x9 ∧ x9 ≤ 27) → (0 ≤ x10 ∧ x10 ≤ 2) → (0 ≤ x11 ∧ x11 ≤ 1458) → (0 ≤ x12 ∧ x12 ≤ 3) → (MK 19683 27 26 702 18954 1 3 9 27 81 243 729 2187 6561 M) → (M 15 10 = g) → (x9 = 9 * x10 + 3 * x12) → (3 - x10) * 31 + (3 - x12) * 6 + 6 < (nn : Int) → nW xs e 45 110 [some (2, 29), none, some (2, (p + 1)), none, none, some (0, x5), some (0, x6), some (0, x7), some (0, x8), some (0, x9), some (0, x10), some (0, x11), some (0, x12), none, none] [] M (nPV fun M1 => Sf 3 ac M0 M1 ∧ (M1 15 10 = g) ∧ MK 19683 27 26 702 18954 1 3 9 27 81 243 729 2187 6561 M1)) ∧ (∀ (x5 x6 x7 x8 x9 x10 x11 x12 x13 x14 : Int) (M : nM), Sf 3 ac M0 M → (3 ≤ x5 ∧ x5 ≤ 3) → (0 ≤ x6 ∧ x6 ≤ 24) → (0 ≤ x7 ∧ x7 ≤ 24) → (0 ≤ x8 ∧ x8 ≤ 24) → (0 ≤ x9 ∧ x9 ≤ 27) → (0 ≤ x10 ∧ x10 ≤ 2) → (0 ≤ x11 ∧ x11 ≤ 1458) → (0 ≤ x12 ∧ x12 ≤ 2) → (0 ≤ x13 ∧ x13 ≤ 5832) → (0 ≤ x14 ∧ x14 ≤ 3) → (MK 19683 27 26 702 18954 1 3 9 27 81 243 729 2187 6561 M) → (M 15 10 = g) → (x9 = 9 * x10 + 3 * x12 + x14) → (3 - x10) * 31 + (3 - x12) * 6 + (3 - x14) * 1 + 1 < (nn : Int) → nW xs e 45 137 [some (2, 29), none, some (2, (p + 1)), none, none, some (0, x5), some (0, x6), some (0, x7), some (0, x8), some (0, x9), some (0, x10), some (0, x11), some (0, x12), some (0, x13), some (0, x14)] [] M (nPV fun M1 => Sf 3 ac M0 M1 ∧ (M1 15 10 = g) ∧ MK 19683 27 26 702 18954 1 3 9 27 81 243 729 2187 6561 M1)) := by
  have hd : (3 : Int) = 2 ∨ (3 : Int) = 3 := by decide
  have hac := hS.2.2.2.2
  intro nn
  induction nn with
  | zero => refine ⟨?_, ?_, ?_⟩ <;> (intros; omega)
  | succ nn ih =>
    refine ⟨?_, ?_, ?_⟩
    · intro x5 x6 x7 x8 x9 x10 M hS k5 k6 k7 k8 k9 k10 hK hgg v0 hnn
      refine n_iload c_45_86 rfl ?_
      refine n_iload c_45_88 rfl ?_
      refine n_if2_ge c_45_90 (by omega) (by omega) ?_ ?_
      · intro h1
        exact n_rV c_45_187 rfl ⟨hS, by omega, hK⟩
      · intro h2
        refine n_aload_n c_45_93 rfl ?_
        refine n_iload c_45_94 rfl ?_
        refine n_iload c_45_96 rfl ?_
        refine n_iadd c_45_98 rfl ?_
        refine n_ialoadV c_45_99 hp.c0.2.1.n rfl rfl rfl (by omega) (t_actrl hS hp hpl (Or.inl rfl) (by omega) (by omega)) ?_
        intro z3 ez3 f4
        refine n_aload_n c_45_100 rfl ?_
        refine n_getV (bi := 1) c_45_101 sc_29.n rfl rfl rfl hK.w29.1 ?_
        intro z5 ez5 f6
        obtain rfl : z5 = 729 := by omega
        refine n_imul c_45_104 rfl ?_
        refine n_istore (L2 := [some (2, 29), none, some (2, (p + 1)), none, none, some (0, x5), some (0, x6), some (0, x7), some (0, x8), some (0, x9), some (0, x10), some (0, (z3 * 729)), none, none, none]) c_45_105 rfl rfl ?_
        refine n_iconst c_45_107 ?_
        refine n_istore (L2 := [some (2, 29), none, some (2, (p + 1)), none, none, some (0, x5), some (0, x6), some (0, x7), some (0, x8), some (0, x9), some (0, x10), some (0, (z3 * 729)), some (0, 0), none, none]) c_45_108 rfl rfl ?_
        refine n_fg (le_s (le_n (le_s (le_n (le_n (le_s (le_s (le_s (le_s (le_s (le_s (le_s (le_s (le_n (le_n le_0))))))))))))))) ?_
        exact ih.2.1 _ _ _ _ _ _ _ _ M hS (by omega) (by omega) (by omega) (by omega) (by omega) (by omega) (by omega) (by omega) hK (by omega) (by omega) (by omega)
    · intro x5 x6 x7 x8 x9 x10 x11 x12 M hS k5 k6 k7 k8 k9 k10 k11 k12 hK hgg v0 hnn
      refine n_iload c_45_110 rfl ?_
      refine n_iload c_45_112 rfl ?_
      refine n_if2_ge c_45_114 (by omega) (by omega) ?_ ?_
      · intro h1
        refine n_iinc (L2 := [some (2, 29), none, some (2, (p + 1)), none, none, some (0, x5), some (0, x6), some (0, x7), some (0, x8), some (0, x9), some (0, (x10 + 1)), some (0, x11), some (0, x12), none, none]) c_45_181 rfl rfl rfl ?_
        refine n_goto c_45_184 ?_
        refine n_fg (le_s (le_n (le_s (le_n (le_n (le_s (le_s (le_s (le_s (le_s (le_s (le_n (le_n (le_n (le_n le_0))))))))))))))) ?_
        exact ih.1 _ _ _ _ _ _ M hS (by omega) (by omega) (by omega) (by omega) (by omega) (by omega) hK (by omega) (by omega) (by omega)
      · intro h2
        refine n_iload c_45_117 rfl ?_
        refine n_aload_n c_45_119 rfl ?_
        refine n_iload c_45_120 rfl ?_
        refine n_iload c_45_122 rfl ?_
        refine n_iadd c_45_124 rfl ?_
        refine n_ialoadV c_45_125 hp.c0.2.1.n rfl rfl rfl (by omega) (t_actrl hS hp hpl (Or.inl rfl) (by omega) (by omega)) ?_
        intro z3 ez3 f4
        refine n_aload_n c_45_126 rfl ?_
        refine n_getV (bi := 2) c_45_127 sc_29.n rfl rfl rfl hK.w29.2.1 ?_
        intro z5 ez5 f6
        obtain rfl : z5 = 2187 := by omega
        refine n_imul c_45_130 rfl ?_
        refine n_iadd c_45_131 rfl ?_
        refine n_istore (L2 := [some (2, 29), none, some (2, (p + 1)), none, none, some (0, x5), some (0, x6), some (0, x7), some (0, x8), some (0, x9), some (0, x10), some (0, x11), some (0, x12), some (0, (x11 + (z3 * 2187))), none]) c_45_132 rfl rfl ?_
        refine n_iconst c_45_134 ?_
        refine n_istore (L2 := [some (2, 29), none, some (2, (p + 1)), none, none, some (0, x5), some (0, x6), some (0, x7), some (0, x8), some (0, x9), some (0, x10), some (0, x11), some (0, x12), some (0, (x11 + (z3 * 2187))), some (0, 0)]) c_45_135 rfl rfl ?_
        refine n_fg (le_s (le_n (le_s (le_n (le_n (le_s (le_s (le_s (le_s (le_s (le_s (le_s (le_s (le_s (le_s le_0))))))))))))))) ?_
        exact ih.2.2 _ _ _ _ _ _ _ _ _ _ M hS (by omega) (by omega) (by omega) (by omega) (by omega) (by omega) (by omega) (by omega) (by omega) (by omega) hK (by omega) (by omega) (by omega)
    · intro x5 x6 x7 x8 x9 x10 x11 x12 x13 x14 M hS k5 k6 k7 k8 k9 k10 k11 k12 k13 k14 hK hgg v0 hnn
      refine n_iload c_45_137 rfl ?_
      refine n_iload c_45_139 rfl ?_
      refine n_if2_ge c_45_141 (by omega) (by omega) ?_ ?_
      · intro h1
        refine n_iinc (L2 := [some (2, 29), none, some (2, (p + 1)), none, none, some (0, x5), some (0, x6), some (0, x7), some (0, x8), some (0, x9), some (0, x10), some (0, x11), some (0, (x12 + 1)), some (0, x13), some (0, x14)]) c_45_175 rfl rfl rfl ?_
        refine n_goto c_45_178 ?_
        refine n_fg (le_s (le_n (le_s (le_n (le_n (le_s (le_s (le_s (le_s (le_s (le_s (le_s (le_s (le_n (le_n le_0))))))))))))))) ?_
        exact ih.2.1 _ _ _ _ _ _ _ _ M hS (by omega) (by omega) (by omega) (by omega) (by omega) (by omega) (by omega) (by omega) hK (by omega) (by omega) (by omega)
      · intro h2
        refine n_aload_n c_45_144 rfl ?_
        refine n_getR c_45_145 sc_29.n rfl rfl rfl r_29_0 ?_
        refine n_iload c_45_148 rfl ?_
        refine n_iload c_45_150 rfl ?_
        refine n_aload_n c_45_152 rfl ?_
        refine n_iload c_45_153 rfl ?_
        refine n_iload c_45_155 rfl ?_
        refine n_iadd c_45_157 rfl ?_
        refine n_ialoadV c_45_158 hp.c0.2.1.n rfl rfl rfl (by omega) (t_actrl hS hp hpl (Or.inl rfl) (by omega) (by omega)) ?_
        intro z3 ez3 f4
        refine n_aload_n c_45_159 rfl ?_
        refine n_getV (bi := 3) c_45_160 sc_29.n rfl rfl rfl hK.w29.2.2 ?_
        intro z5 ez5 f6
        obtain rfl : z5 = 6561 := by omega
        refine n_imul c_45_163 rfl ?_
        refine n_iadd c_45_164 rfl ?_
        refine n_iastoreV hS c_45_165 sc_30.n rfl (by omega) (w_30 (by omega) (by omega)) ?_
        intro M7 eM7 hS7
        have hK7 := hK.u (by unfold Kok; omega) eM7
        have g7_0 : M7 15 10 = M 15 10 := by rw [eM7]; exact nu_a (by omega)
        refine n_iinc (L2 := [some (2, 29), none, some (2, (p + 1)), none, none, some (0, x5), some (0, x6), some (0, x7), some (0, x8), some (0, (x9 + 1)), some (0, x10), some (0, x11), some (0, x12), some (0, x13), some (0, x14)]) c_45_166 rfl rfl rfl ?_
        refine n_iinc (L2 := [some (2, 29), none, some (2, (p + 1)), none, none, some (0, x5), some (0, x6), some (0, x7), some (0, x8), some (0, (x9 + 1)), some (0, x10), some (0, x11), some (0, x12), some (0, x13), some (0, (x14 + 1))]) c_45_169 rfl rfl rfl ?_
        refine n_goto c_45_172 ?_
        refine n_fg (le_s (le_n (le_s (le_n (le_n (le_s (le_s (le_s (le_s (le_s (le_s (le_s (le_s (le_s (le_s le_0))))))))))))))) ?_
        exact ih.2.2 _ _ _ _ _ _ _ _ _ _ M7 hS7 (by omega) (by omega) (by omega) (by omega) (by omega) (by omega) (by omega) (by omega) (by omega) (by omega) hK7 (by omega) (by omega) (by omega)
set_option maxHeartbeats 4000000 in
theorem fillM29T_2_3 {xs : List Int32} {e : Nat} {ac : Int} {M0 M : nM} {p i j g : Int} (hS : Sf 3 ac M0 M) (hp : ActAt p) (hpl : p < 55 + 3 * ac) (hi : 0 ≤ i ∧ i ≤ 26) (hj : 0 ≤ j ∧ j ≤ 26) (hK : MK 19683 27 26 702 18954 1 3 9 27 81 243 729 2187 6561 M) (hg : M 15 10 = g) : nW xs e 45 0 [some (2, 29), some (2, 4), some (2, (p + 1)), some (0, i), some (0, j), none, none, none, none, none, none, none, none, none, none] [] M (nPV fun M1 => Sf 3 ac M0 M1 ∧ (M1 15 10 = g) ∧ MK 19683 27 26 702 18954 1 3 9 27 81 243 729 2187 6561 M1) := by
  have hd : (3 : Int) = 2 ∨ (3 : Int) = 3 := by decide
  have hac := hS.2.2.2.2
  refine n_aload_n c_45_0 rfl ?_
  refine n_getV (bi := 1) c_45_1 sc_29.n rfl rfl rfl hK.w29.1 ?_
  intro z1 ez1 f2
  obtain rfl : z1 = 729 := by omega
  refine n_if0_ne c_45_4 (by omega) ?_ ?_
  · intro h3
    refine n_aload_n c_45_8 rfl ?_
    refine n_getV (bi := 0) c_45_9 sc_4.n rfl rfl rfl (t_4_0 hS) ?_
    intro z4 ez4 f5
    obtain rfl : z4 = 3 := by omega
    refine n_istore (L2 := [some (2, 29), some (2, 4), some (2, (p + 1)), some (0, i), some (0, j), some (0, 3), none, none, none, none, none, none, none, none, none]) c_45_12 rfl rfl ?_
    refine n_aload_n c_45_14 rfl ?_
    refine n_getR c_45_15 sc_4.n rfl rfl rfl r_4_2 ?_
    refine n_iload_n c_45_18 rfl ?_
    refine n_ialoadV c_45_19 sc_5.n rfl rfl rfl (by omega) (t_5d hS hd (by omega) (by omega)) ?_
    intro z6 ez6 f7
    refine n_iload c_45_20 rfl ?_
    refine n_imul c_45_22 rfl ?_
    refine n_aload_n c_45_23 rfl ?_
    refine n_getR c_45_24 sc_4.n rfl rfl rfl r_4_2 ?_
    refine n_iload c_45_27 rfl ?_
    refine n_ialoadV c_45_29 sc_5.n rfl rfl rfl (by omega) (t_5d hS hd (by omega) (by omega)) ?_
    intro z8 ez8 f9
    refine n_iadd c_45_30 rfl ?_
    refine n_iload c_45_31 rfl ?_
    refine n_imul c_45_33 rfl ?_
    refine n_istore (L2 := [some (2, 29), some (2, 4), some (2, (p + 1)), some (0, i), some (0, j), some (0, 3), some (0, (((z6 * 3) + z8) * 3)), none, none, none, none, none, none, none, none]) c_45_34 rfl rfl ?_
    refine n_aload_n c_45_36 rfl ?_
    refine n_getR c_45_37 sc_4.n rfl rfl rfl r_4_3 ?_
    refine n_iload_n c_45_40 rfl ?_
    refine n_ialoadV c_45_41 sc_6.n rfl rfl rfl (by omega) (t_6d hS hd (by omega) (by omega)) ?_
    intro z10 ez10 f11
    refine n_iload c_45_42 rfl ?_
    refine n_imul c_45_44 rfl ?_
    refine n_aload_n c_45_45 rfl ?_
    refine n_getR c_45_46 sc_4.n rfl rfl rfl r_4_3 ?_
    refine n_iload c_45_49 rfl ?_
    refine n_ialoadV c_45_51 sc_6.n rfl rfl rfl (by omega) (t_6d hS hd (by omega) (by omega)) ?_
    intro z12 ez12 f13
    refine n_iadd c_45_52 rfl ?_
    refine n_iload c_45_53 rfl ?_
    refine n_imul c_45_55 rfl ?_
    refine n_istore (L2 := [some (2, 29), some (2, 4), some (2, (p + 1)), some (0, i), some (0, j), some (0, 3), some (0, (((z6 * 3) + z8) * 3)), some (0, (((z10 * 3) + z12) * 3)), none, none, none, none, none, none, none]) c_45_56 rfl rfl ?_
    refine n_aload_n c_45_58 rfl ?_
    refine n_getR c_45_59 sc_4.n rfl rfl rfl r_4_4 ?_
    refine n_iload_n c_45_62 rfl ?_
    refine n_ialoadV c_45_63 sc_7.n rfl rfl rfl (by omega) (t_7d hS hd (by omega) (by omega)) ?_
    intro z14 ez14 f15
    refine n_iload c_45_64 rfl ?_
    refine n_imul c_45_66 rfl ?_
    refine n_aload_n c_45_67 rfl ?_
    refine n_getR c_45_68 sc_4.n rfl rfl rfl r_4_4 ?_
    refine n_iload c_45_71 rfl ?_
    refine n_ialoadV c_45_73 sc_7.n rfl rfl rfl (by omega) (t_7d hS hd (by omega) (by omega)) ?_
    intro z16 ez16 f17
    refine n_iadd c_45_74 rfl ?_
    refine n_iload c_45_75 rfl ?_
    refine n_imul c_45_77 rfl ?_
    refine n_istore (L2 := [some (2, 29), some (2, 4), some (2, (p + 1)), some (0, i), some (0, j), some (0, 3), some (0, (((z6 * 3) + z8) * 3)), some (0, (((z10 * 3) + z12) * 3)), some (0, (((z14 * 3) + z16) * 3)), none, none, none, none, none, none]) c_45_78 rfl rfl ?_
    refine n_iconst c_45_80 ?_
    refine n_istore (L2 := [some (2, 29), some (2, 4), some (2, (p + 1)), some (0, i), some (0, j), some (0, 3), some (0, (((z6 * 3) + z8) * 3)), some (0, (((z10 * 3) + z12) * 3)), some (0, (((z14 * 3) + z16) * 3)), some (0, 0), none, none, none, none, none]) c_45_81 rfl rfl ?_
    refine n_iconst c_45_83 ?_
    refine n_istore (L2 := [some (2, 29), some (2, 4), some (2, (p + 1)), some (0, i), some (0, j), some (0, 3), some (0, (((z6 * 3) + z8) * 3)), some (0, (((z10 * 3) + z12) * 3)), some (0, (((z14 * 3) + z16) * 3)), some (0, 0), some (0, 0), none, none, none, none]) c_45_84 rfl rfl ?_
    refine n_fg (le_s (le_n (le_s (le_n (le_n (le_s (le_s (le_s (le_s (le_s (le_s (le_n (le_n (le_n (le_n le_0))))))))))))))) ?_
    exact (fillM29T_2_3_c hS hp hpl hi hj hK hg 320).1 _ _ _ _ _ _ M hS (by omega) (by omega) (by omega) (by omega) (by omega) (by omega) hK (by omega) (by omega) (by omega)
  · intro h18
    exfalso; omega

set_option maxHeartbeats 4000000 in
theorem fillM25U_2_3_c {xs : List Int32} {e : Nat} {ac : Int} {M0 M : nM} {p i j g : Int} (hS : Sf 3 ac M0 M) (hp : ActAt p) (hpl : p < 55 + 3 * ac) (hi : 0 ≤ i ∧ i ≤ 26) (hj : 0 ≤ j ∧ j ≤ 26) (hK : MK 19683 27 26 702 18954 1 3 9 27 81 243 729 2187 6561 M) (hg : M 15 10 = g) : ∀ nn : Nat, (∀ (x5 x6 x7 x8 x9 x10 : Int) (M : nM), Sf 3 ac M0 M → (3 ≤ x5 ∧ x5 ≤ 3) → (0 ≤ x6 ∧ x6 ≤ 24) → (0 ≤ x7 ∧ x7 ≤ 24) → (0 ≤ x8 ∧ x8 ≤ 24) → (0 ≤ x9 ∧ x9 ≤ 27) → (0 ≤ x10 ∧ x10 ≤ 3) → (MK 19683 27 26 702 18954 1 3 9 27 81 243 729 2187 6561 M) → (M 15 10 = g) → (x9 = 9 * x10) → (3 - x10) * 31 + 31 < (nn : Int) → nW xs e 45 86 [some (2, 25), none, some (2, (p + 2)), none, none, some (0, x5), some (0, x6), some (0, x7), some (0, x8), some (0, x9), some (0, x10), none, none, none, none] [] M (nPV fun M1 => Sf 3 ac M0 M1 ∧ (M1 15 10 = g) ∧ MK 19683 27 26 702 18954 1 3 9 27 81 243 729 2187 6561 M1)) ∧ (∀ (x5 x6 x7 x8 x9 x10 x11 x12 : Int) (M : nM), Sf 3 ac M0 M → (3 ≤ x5 ∧ x5 ≤ 3) → (0 ≤ x6 ∧ x6 ≤ 24) → (0 ≤ x7 ∧ x7 ≤ 24) → (0 ≤ x8 ∧ x8 ≤ 24) → (0 ≤ x9 ∧ x9 ≤ 27) → (0 ≤ x10 ∧ x10 ≤ 2) → (0 ≤ x11 ∧ x11 ≤ 2) → (0 ≤ x12 ∧ x12 ≤ 3) → (MK 19683 27 26 702 18954 1 3 9 27 81 243 729 2187 6561 M) → (M 15 10 = g) → (x9 = 9 * x10 + 3 * x12) → (3 - x10) * 31 + (3 - x12) * 6 + 6 < (nn : Int) → nW xs e 45 110 [some (2, 25), none, some (2, (p + 2)), none, none, some (0, x5), some (0, x6), some (0, x7), some (0, x8), some (0, x9), some (0, x10), some (0, x11), some (0, x12), none, none] [] M (nPV fun M1 => Sf 3 ac M0 M1 ∧ (M1 15 10 = g) ∧ MK 19683 27 26 702 18954 1 3 9 27 81 243 729 2187 6561 M1)) ∧ (∀ (x5 x6 x7 x8 x9 x10 x11 x12 x13 x14 : Int) (M : nM), Sf 3 ac M0 M → (3 ≤ x5 ∧ x5 ≤ 3) → (0 ≤ x6 ∧ x6 ≤ 24) → (0 ≤ x7 ∧ x7 ≤ 24) → (0 ≤ x8 ∧ x8 ≤ 24) → (0 ≤ x9 ∧ x9 ≤ 27) → (0 ≤ x10 ∧ x10 ≤ 2) → (0 ≤ x11 ∧ x11 ≤ 2) → (0 ≤ x12 ∧ x12 ≤ 2) → (0 ≤ x13 ∧ x13 ≤ 8) → (0 ≤ x14 ∧ x14 ≤ 3) → (MK 19683 27 26 702 18954 1 3 9 27 81 243 729 2187 6561 M) → (M 15 10 = g) → (x9 = 9 * x10 + 3 * x12 + x14) → (3 - x10) * 31 + (3 - x12) * 6 + (3 - x14) * 1 + 1 < (nn : Int) → nW xs e 45 137 [some (2, 25), none, some (2, (p + 2)), none, none, some (0, x5), some (0, x6), some (0, x7), some (0, x8), some (0, x9), some (0, x10), some (0, x11), some (0, x12), some (0, x13), some (0, x14)] [] M (nPV fun M1 => Sf 3 ac M0 M1 ∧ (M1 15 10 = g) ∧ MK 19683 27 26 702 18954 1 3 9 27 81 243 729 2187 6561 M1)) := by
  have hd : (3 : Int) = 2 ∨ (3 : Int) = 3 := by decide
  have hac := hS.2.2.2.2
  intro nn
  induction nn with
  | zero => refine ⟨?_, ?_, ?_⟩ <;> (intros; omega)
  | succ nn ih =>
    refine ⟨?_, ?_, ?_⟩
    · intro x5 x6 x7 x8 x9 x10 M hS k5 k6 k7 k8 k9 k10 hK hgg v0 hnn
      refine n_iload c_45_86 rfl ?_
      refine n_iload c_45_88 rfl ?_
      refine n_if2_ge c_45_90 (by omega) (by omega) ?_ ?_
      · intro h1
        exact n_rV c_45_187 rfl ⟨hS, by omega, hK⟩
      · intro h2
        refine n_aload_n c_45_93 rfl ?_
        refine n_iload c_45_94 rfl ?_
        refine n_iload c_45_96 rfl ?_
        refine n_iadd c_45_98 rfl ?_
        refine n_ialoadV c_45_99 hp.c0.2.2.n rfl rfl rfl (by omega) (t_actrl hS hp hpl (Or.inr rfl) (by omega) (by omega)) ?_
        intro z3 ez3 f4
        refine n_aload_n c_45_100 rfl ?_
        refine n_getV (bi := 1) c_45_101 sc_25.n rfl rfl rfl hK.w25.1 ?_
        intro z5 ez5 f6
        obtain rfl : z5 = 1 := by omega
        refine n_imul c_45_104 rfl ?_
        refine n_istore (L2 := [some (2, 25), none, some (2, (p + 2)), none, none, some (0, x5), some (0, x6), some (0, x7), some (0, x8), some (0, x9), some (0, x10), some (0, (z3 * 1)), none, none, none]) c_45_105 rfl rfl ?_
        refine n_iconst c_45_107 ?_
        refine n_istore (L2 := [some (2, 25), none, some (2, (p + 2)), none, none, some (0, x5), some (0, x6), some (0, x7), some (0, x8), some (0, x9), some (0, x10), some (0, (z3 * 1)), some (0, 0), none, none]) c_45_108 rfl rfl ?_
        refine n_fg (le_s (le_n (le_s (le_n (le_n (le_s (le_s (le_s (le_s (le_s (le_s (le_s (le_s (le_n (le_n le_0))))))))))))))) ?_
        exact ih.2.1 _ _ _ _ _ _ _ _ M hS (by omega) (by omega) (by omega) (by omega) (by omega) (by omega) (by omega) (by omega) hK (by omega) (by omega) (by omega)
    · intro x5 x6 x7 x8 x9 x10 x11 x12 M hS k5 k6 k7 k8 k9 k10 k11 k12 hK hgg v0 hnn
      refine n_iload c_45_110 rfl ?_
      refine n_iload c_45_112 rfl ?_
      refine n_if2_ge c_45_114 (by omega) (by omega) ?_ ?_
      · intro h1
        refine n_iinc (L2 := [some (2, 25), none, some (2, (p + 2)), none, none, some (0, x5), some (0, x6), some (0, x7), some (0, x8), some (0, x9), some (0, (x10 + 1)), some (0, x11), some (0, x12), none, none]) c_45_181 rfl rfl rfl ?_
        refine n_goto c_45_184 ?_
        refine n_fg (le_s (le_n (le_s (le_n (le_n (le_s (le_s (le_s (le_s (le_s (le_s (le_n (le_n (le_n (le_n le_0))))))))))))))) ?_
        exact ih.1 _ _ _ _ _ _ M hS (by omega) (by omega) (by omega) (by omega) (by omega) (by omega) hK (by omega) (by omega) (by omega)
      · intro h2
        refine n_iload c_45_117 rfl ?_
        refine n_aload_n c_45_119 rfl ?_
        refine n_iload c_45_120 rfl ?_
        refine n_iload c_45_122 rfl ?_
        refine n_iadd c_45_124 rfl ?_
        refine n_ialoadV c_45_125 hp.c0.2.2.n rfl rfl rfl (by omega) (t_actrl hS hp hpl (Or.inr rfl) (by omega) (by omega)) ?_
        intro z3 ez3 f4
        refine n_aload_n c_45_126 rfl ?_
        refine n_getV (bi := 2) c_45_127 sc_25.n rfl rfl rfl hK.w25.2.1 ?_
        intro z5 ez5 f6
        obtain rfl : z5 = 3 := by omega
        refine n_imul c_45_130 rfl ?_
        refine n_iadd c_45_131 rfl ?_
        refine n_istore (L2 := [some (2, 25), none, some (2, (p + 2)), none, none, some (0, x5), some (0, x6), some (0, x7), some (0, x8), some (0, x9), some (0, x10), some (0, x11), some (0, x12), some (0, (x11 + (z3 * 3))), none]) c_45_132 rfl rfl ?_
        refine n_iconst c_45_134 ?_
        refine n_istore (L2 := [some (2, 25), none, some (2, (p + 2)), none, none, some (0, x5), some (0, x6), some (0, x7), some (0, x8), some (0, x9), some (0, x10), some (0, x11), some (0, x12), some (0, (x11 + (z3 * 3))), some (0, 0)]) c_45_135 rfl rfl ?_
        refine n_fg (le_s (le_n (le_s (le_n (le_n (le_s (le_s (le_s (le_s (le_s (le_s (le_s (le_s (le_s (le_s le_0))))))))))))))) ?_
        exact ih.2.2 _ _ _ _ _ _ _ _ _ _ M hS (by omega) (by omega) (by omega) (by omega) (by omega) (by omega) (by omega) (by omega) (by omega) (by omega) hK (by omega) (by omega) (by omega)
    · intro x5 x6 x7 x8 x9 x10 x11 x12 x13 x14 M hS k5 k6 k7 k8 k9 k10 k11 k12 k13 k14 hK hgg v0 hnn
      refine n_iload c_45_137 rfl ?_
      refine n_iload c_45_139 rfl ?_
      refine n_if2_ge c_45_141 (by omega) (by omega) ?_ ?_
      · intro h1
        refine n_iinc (L2 := [some (2, 25), none, some (2, (p + 2)), none, none, some (0, x5), some (0, x6), some (0, x7), some (0, x8), some (0, x9), some (0, x10), some (0, x11), some (0, (x12 + 1)), some (0, x13), some (0, x14)]) c_45_175 rfl rfl rfl ?_
        refine n_goto c_45_178 ?_
        refine n_fg (le_s (le_n (le_s (le_n (le_n (le_s (le_s (le_s (le_s (le_s (le_s (le_s (le_s (le_n (le_n le_0))))))))))))))) ?_
        exact ih.2.1 _ _ _ _ _ _ _ _ M hS (by omega) (by omega) (by omega) (by omega) (by omega) (by omega) (by omega) (by omega) hK (by omega) (by omega) (by omega)
      · intro h2
        refine n_aload_n c_45_144 rfl ?_
        refine n_getR c_45_145 sc_25.n rfl rfl rfl r_25_0 ?_
        refine n_iload c_45_148 rfl ?_
        refine n_iload c_45_150 rfl ?_
        refine n_aload_n c_45_152 rfl ?_
        refine n_iload c_45_153 rfl ?_
        refine n_iload c_45_155 rfl ?_
        refine n_iadd c_45_157 rfl ?_
        refine n_ialoadV c_45_158 hp.c0.2.2.n rfl rfl rfl (by omega) (t_actrl hS hp hpl (Or.inr rfl) (by omega) (by omega)) ?_
        intro z3 ez3 f4
        refine n_aload_n c_45_159 rfl ?_
        refine n_getV (bi := 3) c_45_160 sc_25.n rfl rfl rfl hK.w25.2.2 ?_
        intro z5 ez5 f6
        obtain rfl : z5 = 9 := by omega
        refine n_imul c_45_163 rfl ?_
        refine n_iadd c_45_164 rfl ?_
        refine n_iastoreV hS c_45_165 sc_26.n rfl (by omega) (w_26 (by omega) (by omega)) ?_
        intro M7 eM7 hS7
        have hK7 := hK.u (by unfold Kok; omega) eM7
        have g7_0 : M7 15 10 = M 15 10 := by rw [eM7]; exact nu_a (by omega)
        refine n_iinc (L2 := [some (2, 25), none, some (2, (p + 2)), none, none, some (0, x5), some (0, x6), some (0, x7), some (0, x8), some (0, (x9 + 1)), some (0, x10), some (0, x11), some (0, x12), some (0, x13), some (0, x14)]) c_45_166 rfl rfl rfl ?_
        refine n_iinc (L2 := [some (2, 25), none, some (2, (p + 2)), none, none, some (0, x5), some (0, x6), some (0, x7), some (0, x8), some (0, (x9 + 1)), some (0, x10), some (0, x11), some (0, x12), some (0, x13), some (0, (x14 + 1))]) c_45_169 rfl rfl rfl ?_
        refine n_goto c_45_172 ?_
        refine n_fg (le_s (le_n (le_s (le_n (le_n (le_s (le_s (le_s (le_s (le_s (le_s (le_s (le_s (le_s (le_s le_0))))))))))))))) ?_
        exact ih.2.2 _ _ _ _ _ _ _ _ _ _ M7 hS7 (by omega) (by omega) (by omega) (by omega) (by omega) (by omega) (by omega) (by omega) (by omega) (by omega) hK7 (by omega) (by omega) (by omega)
set_option maxHeartbeats 4000000 in
theorem fillM25U_2_3 {xs : List Int32} {e : Nat} {ac : Int} {M0 M : nM} {p i j g : Int} (hS : Sf 3 ac M0 M) (hp : ActAt p) (hpl : p < 55 + 3 * ac) (hi : 0 ≤ i ∧ i ≤ 26) (hj : 0 ≤ j ∧ j ≤ 26) (hK : MK 19683 27 26 702 18954 1 3 9 27 81 243 729 2187 6561 M) (hg : M 15 10 = g) : nW xs e 45 0 [some (2, 25), some (2, 4), some (2, (p + 2)), some (0, i), some (0, j), none, none, none, none, none, none, none, none, none, none] [] M (nPV fun M1 => Sf 3 ac M0 M1 ∧ (M1 15 10 = g) ∧ MK 19683 27 26 702 18954 1 3 9 27 81 243 729 2187 6561 M1) := by
  have hd : (3 : Int) = 2 ∨ (3 : Int) = 3 := by decide
  have hac := hS.2.2.2.2
  refine n_aload_n c_45_0 rfl ?_
  refine n_getV (bi := 1) c_45_1 sc_25.n rfl rfl rfl hK.w25.1 ?_
  intro z1 ez1 f2
  obtain rfl : z1 = 1 := by omega
  refine n_if0_ne c_45_4 (by omega) ?_ ?_
  · intro h3
    refine n_aload_n c_45_8 rfl ?_
    refine n_getV (bi := 0) c_45_9 sc_4.n rfl rfl rfl (t_4_0 hS) ?_
    intro z4 ez4 f5
    obtain rfl : z4 = 3 := by omega
    refine n_istore (L2 := [some (2, 25), some (2, 4), some (2, (p + 2)), some (0, i), some (0, j), some (0, 3), none, none, none, none, none, none, none, none, none]) c_45_12 rfl rfl ?_
    refine n_aload_n c_45_14 rfl ?_
    refine n_getR c_45_15 sc_4.n rfl rfl rfl r_4_2 ?_
    refine n_iload_n c_45_18 rfl ?_
    refine n_ialoadV c_45_19 sc_5.n rfl rfl rfl (by omega) (t_5d hS hd (by omega) (by omega)) ?_
    intro z6 ez6 f7
    refine n_iload c_45_20 rfl ?_
    refine n_imul c_45_22 rfl ?_
    refine n_aload_n c_45_23 rfl ?_
    refine n_getR c_45_24 sc_4.n rfl rfl rfl r_4_2 ?_
    refine n_iload c_45_27 rfl ?_
    refine n_ialoadV c_45_29 sc_5.n rfl rfl rfl (by omega) (t_5d hS hd (by omega) (by omega)) ?_
    intro z8 ez8 f9
    refine n_iadd c_45_30 rfl ?_
    refine n_iload c_45_31 rfl ?_
    refine n_imul c_45_33 rfl ?_
    refine n_istore (L2 := [some (2, 25), some (2, 4), some (2, (p + 2)), some (0, i), some (0, j), some (0, 3), some (0, (((z6 * 3) + z8) * 3)), none, none, none, none, none, none, none, none]) c_45_34 rfl rfl ?_
    refine n_aload_n c_45_36 rfl ?_
    refine n_getR c_45_37 sc_4.n rfl rfl rfl r_4_3 ?_
    refine n_iload_n c_45_40 rfl ?_
    refine n_ialoadV c_45_41 sc_6.n rfl rfl rfl (by omega) (t_6d hS hd (by omega) (by omega)) ?_
    intro z10 ez10 f11
    refine n_iload c_45_42 rfl ?_
    refine n_imul c_45_44 rfl ?_
    refine n_aload_n c_45_45 rfl ?_
    refine n_getR c_45_46 sc_4.n rfl rfl rfl r_4_3 ?_
    refine n_iload c_45_49 rfl ?_
    refine n_ialoadV c_45_51 sc_6.n rfl rfl rfl (by omega) (t_6d hS hd (by omega) (by omega)) ?_
    intro z12 ez12 f13
    refine n_iadd c_45_52 rfl ?_
    refine n_iload c_45_53 rfl ?_
    refine n_imul c_45_55 rfl ?_
    refine n_istore (L2 := [some (2, 25), some (2, 4), some (2, (p + 2)), some (0, i), some (0, j), some (0, 3), some (0, (((z6 * 3) + z8) * 3)), some (0, (((z10 * 3) + z12) * 3)), none, none, none, none, none, none, none]) c_45_56 rfl rfl ?_
    refine n_aload_n c_45_58 rfl ?_
    refine n_getR c_45_59 sc_4.n rfl rfl rfl r_4_4 ?_
    refine n_iload_n c_45_62 rfl ?_
    refine n_ialoadV c_45_63 sc_7.n rfl rfl rfl (by omega) (t_7d hS hd (by omega) (by omega)) ?_
    intro z14 ez14 f15
    refine n_iload c_45_64 rfl ?_
    refine n_imul c_45_66 rfl ?_
    refine n_aload_n c_45_67 rfl ?_
    refine n_getR c_45_68 sc_4.n rfl rfl rfl r_4_4 ?_
    refine n_iload c_45_71 rfl ?_
    refine n_ialoadV c_45_73 sc_7.n rfl rfl rfl (by omega) (t_7d hS hd (by omega) (by omega)) ?_
    intro z16 ez16 f17
    refine n_iadd c_45_74 rfl ?_
    refine n_iload c_45_75 rfl ?_
    refine n_imul c_45_77 rfl ?_
    refine n_istore (L2 := [some (2, 25), some (2, 4), some (2, (p + 2)), some (0, i), some (0, j), some (0, 3), some (0, (((z6 * 3) + z8) * 3)), some (0, (((z10 * 3) + z12) * 3)), some (0, (((z14 * 3) + z16) * 3)), none, none, none, none, none, none]) c_45_78 rfl rfl ?_
    refine n_iconst c_45_80 ?_
    refine n_istore (L2 := [some (2, 25), some (2, 4), some (2, (p + 2)), some (0, i), some (0, j), some (0, 3), some (0, (((z6 * 3) + z8) * 3)), some (0, (((z10 * 3) + z12) * 3)), some (0, (((z14 * 3) + z16) * 3)), some (0, 0), none, none, none, none, none]) c_45_81 rfl rfl ?_
    refine n_iconst c_45_83 ?_
    refine n_istore (L2 := [some (2, 25), some (2, 4), some (2, (p + 2)), some (0, i), some (0, j), some (0, 3), some (0, (((z6 * 3) + z8) * 3)), some (0, (((z10 * 3) + z12) * 3)), some (0, (((z14 * 3) + z16) * 3)), some (0, 0), some (0, 0), none, none, none, none]) c_45_84 rfl rfl ?_
    refine n_fg (le_s (le_n (le_s (le_n (le_n (le_s (le_s (le_s (le_s (le_s (le_s (le_n (le_n (le_n (le_n le_0))))))))))))))) ?_
    exact (fillM25U_2_3_c hS hp hpl hi hj hK hg 320).1 _ _ _ _ _ _ M hS (by omega) (by omega) (by omega) (by omega) (by omega) (by omega) hK (by omega) (by omega) (by omega)
  · intro h18
    exfalso; omega

set_option maxHeartbeats 4000000 in
theorem fillM27U_2_3_c {xs : List Int32} {e : Nat} {ac : Int} {M0 M : nM} {p i j g : Int} (hS : Sf 3 ac M0 M) (hp : ActAt p) (hpl : p < 55 + 3 * ac) (hi : 0 ≤ i ∧ i ≤ 26) (hj : 0 ≤ j ∧ j ≤ 26) (hK : MK 19683 27 26 702 18954 1 3 9 27 81 243 729 2187 6561 M) (hg : M 15 10 = g) : ∀ nn : Nat, (∀ (x5 x6 x7 x8 x9 x10 : Int) (M : nM), Sf 3 ac M0 M → (3 ≤ x5 ∧ x5 ≤ 3) → (0 ≤ x6 ∧ x6 ≤ 24) → (0 ≤ x7 ∧ x7 ≤ 24) → (0 ≤ x8 ∧ x8 ≤ 24) → (0 ≤ x9 ∧ x9 ≤ 27) → (0 ≤ x10 ∧ x10 ≤ 3) → (MK 19683 27 26 702 18954 1 3 9 27 81 243 729 2187 6561 M) → (M 15 10 = g) → (x9 = 9 * x10) → (3 - x10) * 31 + 31 < (nn : Int) → nW xs e 45 86 [some (2, 27), none, some (2, (p + 2)), none, none, some (0, x5), some (0, x6), some (0, x7), some (0, x8), some (0, x9), some (0, x10), none, none, none, none] [] M (nPV fun M1 => Sf 3 ac M0 M1 ∧ (M1 15 10 = g) ∧ MK 19683 27 26 702 18954 1 3 9 27 81 243 729 2187 6561 M1)) ∧ (∀ (x5 x6 x7 x8 x9 x10 x11 x12 : Int) (M : nM), Sf 3 ac M0 M → (3 ≤ x5 ∧ x5 ≤ 3) → (0 ≤ x6 ∧ x6 ≤ 24) → (0 ≤ x7 ∧ x7 ≤ 24) → (0 ≤ x8 ∧ x8 ≤ 24) → (0 ≤ x9 ∧ x9 ≤ 27) → (0 ≤ x10 ∧ x10 ≤ 2) → (0 ≤ x11 ∧ x11 ≤ 54) → (0 ≤ x12 ∧ x12 ≤ 3) → (MK 19683 27 26 702 18954 1 3 9 27 81 243 729 2187 6561 M) → (M 15 10 = g) → (x9 = 9 * x10 + 3 * x12) → (3 - x10) * 31 + (3 - x12) * 6 + 6 < (nn : Int) → nW xs e 45 110 [some (2, 27), none, some (2, (p + 2)), none, none, some (0, x5), some (0, x6), some (0, x7), some (0, x8), some (0, x9), some (0, x10), some (0, x11), some (0, x12), none, none] [] M (nPV fun M1 => Sf 3 ac M0 M1 ∧ (M1 15 10 = g) ∧ MK 19683 27 26 702 18954 1 3 9 27 81 243 729 2187 6561 M1)) ∧ (∀ (x5 x6 x7 x8 x9 x10 x11 x12 x13 x14 : Int) (M : nM), Sf 3 ac M0 M → (3 ≤ x5 ∧ x5 ≤ 3) → (0 ≤ x6 ∧ x6 ≤ 24) → (0 ≤ x7 ∧ x7 ≤ 24) → (0 ≤ x8 ∧ x8 ≤ 24) → (0 ≤ x9 ∧ x9 ≤ 27) → (0 ≤ x10 ∧ x10 ≤ 2) → (0 ≤ x11 ∧ x11 ≤ 54) → (0 ≤ x12 ∧ x12 ≤ 2) → (0 ≤ x13 ∧ x13 ≤ 216) → (0 ≤ x14 ∧ x14 ≤ 3) → (MK 19683 27 26 702 18954 1 3 9 27 81 243 729 2187 6561 M) → (M 15 10 = g) → (x9 = 9 * x10 + 3 * x12 + x14) → (3 - x10) * 31 + (3 - x12) * 6 + (3 - x14) * 1 + 1 < (nn : Int) → nW xs e 45 137 [some (2, 27), none, some (2, (p + 2)), none, none, some (0, x5), some (0, x6), some (0, x7), some (0, x8), some (0, x9), some (0, x10), some (0, x11), some (0, x12), some (0, x13), some (0, x14)] [] M (nPV fun M1 => Sf 3 ac M0 M1 ∧ (M1 15 10 = g) ∧ MK 19683 27 26 702 18954 1 3 9 27 81 243 729 2187 6561 M1)) := by
  have hd : (3 : Int) = 2 ∨ (3 : Int) = 3 := by decide
  have hac := hS.2.2.2.2
  intro nn
  induction nn with
  | zero => refine ⟨?_, ?_, ?_⟩ <;> (intros; omega)
  | succ nn ih =>
    refine ⟨?_, ?_, ?_⟩
    · intro x5 x6 x7 x8 x9 x10 M hS k5 k6 k7 k8 k9 k10 hK hgg v0 hnn
      refine n_iload c_45_86 rfl ?_
      refine n_iload c_45_88 rfl ?_
      refine n_if2_ge c_45_90 (by omega) (by omega) ?_ ?_
      · intro h1
        exact n_rV c_45_187 rfl ⟨hS, by omega, hK⟩
      · intro h2
        refine n_aload_n c_45_93 rfl ?_
        refine n_iload c_45_94 rfl ?_
        refine n_iload c_45_96 rfl ?_
        refine n_iadd c_45_98 rfl ?_
        refine n_ialoadV c_45_99 hp.c0.2.2.n rfl rfl rfl (by omega) (t_actrl hS hp hpl (Or.inr rfl) (by omega) (by omega)) ?_
        intro z3 ez3 f4
        refine n_aload_n c_45_100 rfl ?_
        refine n_getV (bi := 1) c_45_101 sc_27.n rfl rfl rfl hK.w27.1 ?_
        intro z5 ez5 f6
        obtain rfl : z5 = 27 := by omega
        refine n_imul c_45_104 rfl ?_
        refine n_istore (L2 := [some (2, 27), none, some (2, (p + 2)), none, none, some (0, x5), some (0, x6), some (0, x7), some (0, x8), some (0, x9), some (0, x10), some (0, (z3 * 27)), none, none, none]) c_45_105 rfl rfl ?_
        refine n_iconst c_45_107 ?_
        refine n_istore (L2 := [some (2, 27), none, some (2, (p + 2)), none, none, some (0, x5), some (0, x6), some (0, x7), some (0, x8), some (0, x9), some (0, x10), some (0, (z3 * 27)), some (0, 0), none, none]) c_45_108 rfl rfl ?_
        refine n_fg (le_s (le_n (le_s (le_n (le_n (le_s (le_s (le_s (le_s (le_s (le_s (le_s (le_s (le_n (le_n le_0))))))))))))))) ?_
        exact ih.2.1 _ _ _ _ _ _ _ _ M hS (by omega) (by omega) (by omega) (by omega) (by omega) (by omega) (by omega) (by omega) hK (by omega) (by omega) (by omega)
    · intro x5 x6 x7 x8 x9 x10 x11 x12 M hS k5 k6 k7 k8 k9 k10 k11 k12 hK hgg v0 hnn
      refine n_iload c_45_110 rfl ?_
      refine n_iload c_45_112 rfl ?_
      refine n_if2_ge c_45_114 (by omega) (by omega) ?_ ?_
      · intro h1
        refine n_iinc (L2 := [some (2, 27), none, some (2, (p + 2)), none, none, some (0, x5), some (0, x6), some (0, x7), some (0, x8), some (0, x9), some (0, (x10 + 1)), some (0, x11), some (0, x12), none, none]) c_45_181 rfl rfl rfl ?_
        refine n_goto c_45_184 ?_
        refine n_fg (le_s (le_n (le_s (le_n (le_n (le_s (le_s (le_s (le_s (le_s (le_s (le_n (le_n (le_n (le_n le_0))))))))))))))) ?_
        exact ih.1 _ _ _ _ _ _ M hS (by omega) (by omega) (by omega) (by omega) (by omega) (by omega) hK (by omega) (by omega) (by omega)
      · intro h2
        refine n_iload c_45_117 rfl ?_
        refine n_aload_n c_45_119 rfl ?_
        refine n_iload c_45_120 rfl ?_
        refine n_iload c_45_122 rfl ?_
        refine n_iadd c_45_124 rfl ?_
        refine n_ialoadV c_45_125 hp.c0.2.2.n rfl rfl rfl (by omega) (t_actrl hS hp hpl (Or.inr rfl) (by omega) (by omega)) ?_
        intro z3 ez3 f4
        refine n_aload_n c_45_126 rfl ?_
        refine n_getV (bi := 2) c_45_127 sc_27.n rfl rfl rfl hK.w27.2.1 ?_
        intro z5 ez5 f6
        obtain rfl : z5 = 81 := by omega
        refine n_imul c_45_130 rfl ?_
        refine n_iadd c_45_131 rfl ?_
        refine n_istore (L2 := [some (2, 27), none, some (2, (p + 2)), none, none, some (0, x5), some (0, x6), some (0, x7), some (0, x8), some (0, x9), some (0, x10), some (0, x11), some (0, x12), some (0, (x11 + (z3 * 81))), none]) c_45_132 rfl rfl ?_
        refine n_iconst c_45_134 ?_
        refine n_istore (L2 := [some (2, 27), none, some (2, (p + 2)), none, none, some (0, x5), some (0, x6), some (0, x7), some (0, x8), some (0, x9), some (0, x10), some (0, x11), some (0, x12), some (0, (x11 + (z3 * 81))), some (0, 0)]) c_45_135 rfl rfl ?_
        refine n_fg (le_s (le_n (le_s (le_n (le_n (le_s (le_s (le_s (le_s (le_s (le_s (le_s (le_s (le_s (le_s le_0))))))))))))))) ?_
        exact ih.2.2 _ _ _ _ _ _ _ _ _ _ M hS (by omega) (by omega) (by omega) (by omega) (by omega) (by omega) (by omega) (by omega) (by omega) (by omega) hK (by omega) (by omega) (by omega)
    · intro x5 x6 x7 x8 x9 x10 x11 x12 x13 x14 M hS k5 k6 k7 k8 k9 k10 k11 k12 k13 k14 hK hgg v0 hnn
      refine n_iload c_45_137 rfl ?_
      refine n_iload c_45_139 rfl ?_
      refine n_if2_ge c_45_141 (by omega) (by omega) ?_ ?_
      · intro h1
        refine n_iinc (L2 := [some (2, 27), none, some (2, (p + 2)), none, none, some (0, x5), some (0, x6), some (0, x7), some (0, x8), some (0, x9), some (0, x10), some (0, x11), some (0, (x12 + 1)), some (0, x13), some (0, x14)]) c_45_175 rfl rfl rfl ?_
        refine n_goto c_45_178 ?_
        refine n_fg (le_s (le_n (le_s (le_n (le_n (le_s (le_s (le_s (le_s (le_s (le_s (le_s (le_s (le_n (le_n le_0))))))))))))))) ?_
        exact ih.2.1 _ _ _ _ _ _ _ _ M hS (by omega) (by omega) (by omega) (by omega) (by omega) (by omega) (by omega) (by omega) hK (by omega) (by omega) (by omega)
      · intro h2
        refine n_aload_n c_45_144 rfl ?_
        refine n_getR c_45_145 sc_27.n rfl rfl rfl r_27_0 ?_
        refine n_iload c_45_148 rfl ?_
        refine n_iload c_45_150 rfl ?_
        refine n_aload_n c_45_152 rfl ?_
        refine n_iload c_45_153 rfl ?_
        refine n_iload c_45_155 rfl ?_
        refine n_iadd c_45_157 rfl ?_
        refine n_ialoadV c_45_158 hp.c0.2.2.n rfl rfl rfl (by omega) (t_actrl hS hp hpl (Or.inr rfl) (by omega) (by omega)) ?_
        intro z3 ez3 f4
        refine n_aload_n c_45_159 rfl ?_
        refine n_getV (bi := 3) c_45_160 sc_27.n rfl rfl rfl hK.w27.2.2 ?_
        intro z5 ez5 f6
        obtain rfl : z5 = 243 := by omega
        refine n_imul c_45_163 rfl ?_
        refine n_iadd c_45_164 rfl ?_
        refine n_iastoreV hS c_45_165 sc_28.n rfl (by omega) (w_28 (by omega) (by omega)) ?_
        intro M7 eM7 hS7
        have hK7 := hK.u (by unfold Kok; omega) eM7
        have g7_0 : M7 15 10 = M 15 10 := by rw [eM7]; exact nu_a (by omega)
        refine n_iinc (L2 := [some (2, 27), none, some (2, (p + 2)), none, none, some (0, x5), some (0, x6), some (0, x7), some (0, x8), some (0, (x9 + 1)), some (0, x10), some (0, x11), some (0, x12), some (0, x13), some (0, x14)]) c_45_166 rfl rfl rfl ?_
        refine n_iinc (L2 := [some (2, 27), none, some (2, (p + 2)), none, none, some (0, x5), some (0, x6), some (0, x7), some (0, x8), some (0, (x9 + 1)), some (0, x10), some (0, x11), some (0, x12), some (0, x13), some (0, (x14 + 1))]) c_45_169 rfl rfl rfl ?_
        refine n_goto c_45_172 ?_
        refine n_fg (le_s (le_n (le_s (le_n (le_n (le_s (le_s (le_s (le_s (le_s (le_s (le_s (le_s (le_s (le_s le_0))))))))))))))) ?_
        exact ih.2.2 _ _ _ _ _ _ _ _ _ _ M7 hS7 (by omega) (by omega) (by omega) (by omega) (by omega) (by omega) (by omega) (by omega) (by omega) (by omega) hK7 (by omega) (by omega) (by omega)
set_option maxHeartbeats 4000000 in
theorem fillM27U_2_3 {xs : List Int32} {e : Nat} {ac : Int} {M0 M : nM} {p i j g : Int} (hS : Sf 3 ac M0 M) (hp : ActAt p) (hpl : p < 55 + 3 * ac) (hi : 0 ≤ i ∧ i ≤ 26) (hj : 0 ≤ j ∧ j ≤ 26) (hK : MK 19683 27 26 702 18954 1 3 9 27 81 243 729 2187 6561 M) (hg : M 15 10 = g) : nW xs e 45 0 [some (2, 27), some (2, 4), some (2, (p + 2)), some (0, i), some (0, j), none, none, none, none, none, none, none, none, none, none] [] M (nPV fun M1 => Sf 3 ac M0 M1 ∧ (M1 15 10 = g) ∧ MK 19683 27 26 702 18954 1 3 9 27 81 243 729 2187 6561 M1) := by
  have hd : (3 : Int) = 2 ∨ (3 : Int) = 3 := by decide
  have hac := hS.2.2.2.2
  refine n_aload_n c_45_0 rfl ?_
  refine n_getV (bi := 1) c_45_1 sc_27.n rfl rfl rfl hK.w27.1 ?_
  intro z1 ez1 f2
  obtain rfl : z1 = 27 := by omega
  refine n_if0_ne c_45_4 (by omega) ?_ ?_
  · intro h3
    refine n_aload_n c_45_8 rfl ?_
    refine n_getV (bi := 0) c_45_9 sc_4.n rfl rfl rfl (t_4_0 hS) ?_
    intro z4 ez4 f5
    obtain rfl : z4 = 3 := by omega
    refine n_istore (L2 := [some (2, 27), some (2, 4), some (2, (p + 2)), some (0, i), some (0, j), some (0, 3), none, none, none, none, none, none, none, none, none]) c_45_12 rfl rfl ?_
    refine n_aload_n c_45_14 rfl ?_
    refine n_getR c_45_15 sc_4.n rfl rfl rfl r_4_2 ?_
    refine n_iload_n c_45_18 rfl ?_
    refine n_ialoadV c_45_19 sc_5.n rfl rfl rfl (by omega) (t_5d hS hd (by omega) (by omega)) ?_
    intro z6 ez6 f7
    refine n_iload c_45_20 rfl ?_
    refine n_imul c_45_22 rfl ?_
    refine n_aload_n c_45_23 rfl ?_
    refine n_getR c_45_24 sc_4.n rfl rfl rfl r_4_2 ?_
    refine n_iload c_45_27 rfl ?_
    refine n_ialoadV c_45_29 sc_5.n rfl rfl rfl (by omega) (t_5d hS hd (by omega) (by omega)) ?_
    intro z8 ez8 f9
    refine n_iadd c_45_30 rfl ?_
    refine n_iload c_45_31 rfl ?_
    refine n_imul c_45_33 rfl ?_
    refine n_istore (L2 := [some (2, 27), some (2, 4), some (2, (p + 2)), some (0, i), some (0, j), some (0, 3), some (0, (((z6 * 3) + z8) * 3)), none, none, none, none, none, none, none, none]) c_45_34 rfl rfl ?_
    refine n_aload_n c_45_36 rfl ?_
    refine n_getR c_45_37 sc_4.n rfl rfl rfl r_4_3 ?_
    refine n_iload_n c_45_40 rfl ?_
    refine n_ialoadV c_45_41 sc_6.n rfl rfl rfl (by omega) (t_6d hS hd (by omega) (by omega)) ?_
    intro z10 ez10 f11
    refine n_iload c_45_42 rfl ?_
    refine n_imul c_45_44 rfl ?_
    refine n_aload_n c_45_45 rfl ?_
    refine n_getR c_45_46 sc_4.n rfl rfl rfl r_4_3 ?_
    refine n_iload c_45_49 rfl ?_
    refine n_ialoadV c_45_51 sc_6.n rfl rfl rfl (by omega) (t_6d hS hd (by omega) (by omega)) ?_
    intro z12 ez12 f13
    refine n_iadd c_45_52 rfl ?_
    refine n_iload c_45_53 rfl ?_
    refine n_imul c_45_55 rfl ?_
    refine n_istore (L2 := [some (2, 27), some (2, 4), some (2, (p + 2)), some (0, i), some (0, j), some (0, 3), some (0, (((z6 * 3) + z8) * 3)), some (0, (((z10 * 3) + z12) * 3)), none, none, none, none, none, none, none]) c_45_56 rfl rfl ?_
    refine n_aload_n c_45_58 rfl ?_
    refine n_getR c_45_59 sc_4.n rfl rfl rfl r_4_4 ?_
    refine n_iload_n c_45_62 rfl ?_
    refine n_ialoadV c_45_63 sc_7.n rfl rfl rfl (by omega) (t_7d hS hd (by omega) (by omega)) ?_
    intro z14 ez14 f15
    refine n_iload c_45_64 rfl ?_
    refine n_imul c_45_66 rfl ?_
    refine n_aload_n c_45_67 rfl ?_
    refine n_getR c_45_68 sc_4.n rfl rfl rfl r_4_4 ?_
    refine n_iload c_45_71 rfl ?_
    refine n_ialoadV c_45_73 sc_7.n rfl rfl rfl (by omega) (t_7d hS hd (by omega) (by omega)) ?_
    intro z16 ez16 f17
    refine n_iadd c_45_74 rfl ?_
    refine n_iload c_45_75 rfl ?_
    refine n_imul c_45_77 rfl ?_
    refine n_istore (L2 := [some (2, 27), some (2, 4), some (2, (p + 2)), some (0, i), some (0, j), some (0, 3), some (0, (((z6 * 3) + z8) * 3)), some (0, (((z10 * 3) + z12) * 3)), some (0, (((z14 * 3) + z16) * 3)), none, none, none, none, none, none]) c_45_78 rfl rfl ?_
    refine n_iconst c_45_80 ?_
    refine n_istore (L2 := [some (2, 27), some (2, 4), some (2, (p + 2)), some (0, i), some (0, j), some (0, 3), some (0, (((z6 * 3) + z8) * 3)), some (0, (((z10 * 3) + z12) * 3)), some (0, (((z14 * 3) + z16) * 3)), some (0, 0), none, none, none, none, none]) c_45_81 rfl rfl ?_
    refine n_iconst c_45_83 ?_
    refine n_istore (L2 := [some (2, 27), some (2, 4), some (2, (p + 2)), some (0, i), some (0, j), some (0, 3), some (0, (((z6 * 3) + z8) * 3)), some (0, (((z10 * 3) + z12) * 3)), some (0, (((z14 * 3) + z16) * 3)), some (0, 0), some (0, 0), none, none, none, none]) c_45_84 rfl rfl ?_
    refine n_fg (le_s (le_n (le_s (le_n (le_n (le_s (le_s (le_s (le_s (le_s (le_s (le_n (le_n (le_n (le_n le_0))))))))))))))) ?_
    exact (fillM27U_2_3_c hS hp hpl hi hj hK hg 320).1 _ _ _ _ _ _ M hS (by omega) (by omega) (by omega) (by omega) (by omega) (by omega) hK (by omega) (by omega) (by omega)
  · intro h18
    exfalso; omega

set_option maxHeartbeats 4000000 in
theorem fillM29U_2_3_c {xs : List Int32} {e : Nat} {ac : Int} {M0 M : nM} {p i j g : Int} (hS : Sf 3 ac M0 M) (hp : ActAt p) (hpl : p < 55 + 3 * ac) (hi : 0 ≤ i ∧ i ≤ 26) (hj : 0 ≤ j ∧ j ≤ 26) (hK : MK 19683 27 26 702 18954 1 3 9 27 81 243 729 2187 6561 M) (hg : M 15 10 = g) : ∀ nn : Nat, (∀ (x5 x6 x7 x8 x9 x10 : Int) (M : nM), Sf 3 ac M0 M → (3 ≤ x5 ∧ x5 ≤ 3) → (0 ≤ x6 ∧ x6 ≤ 24) → (0 ≤ x7 ∧ x7 ≤ 24) → (0 ≤ x8 ∧ x8 ≤ 24) → (0 ≤ x9 ∧ x9 ≤ 27) → (0 ≤ x10 ∧ x10 ≤ 3) → (MK 19683 27 26 702 18954 1 3 9 27 81 243 729 2187 6561 M) → (M 15 10 = g) → (x9 = 9 * x10) → (3 - x10) * 31 + 31 < (nn : Int) → nW xs e 45 86 [some (2, 29), none, some (2, (p + 2)), none, none, some (0, x5), some (0, x6), some (0, x7), some (0, x8), some (0, x9), some (0, x10), none, none, none, none] [] M (nPV fun M1 => Sf 3 ac M0 M1 ∧ (M1 15 10 = g) ∧ MK 19683 27 26 702 18954 1 3 9 27 81 243 729 2187 6561 M1)) ∧ (∀ (x5 x6 x7 x8 x9 x10 x11 x12 : Int) (M : nM), Sf 3 ac M0 M → (3 ≤ x5 ∧ x5 ≤ 3) → (0 ≤ x6 ∧ x6 ≤ 24) → (0 ≤ x7 ∧ x7 ≤ 24) → (0 ≤ x8 ∧ x8 ≤ 24) → (0 ≤ x9 ∧ x9 ≤ 27) → (0 ≤ x10 ∧ x10 ≤ 2) → (0 ≤ x11 ∧ x11 ≤ 1458) → (0 ≤ x12 ∧ x12 ≤ 3) → (MK 19683 27 26 702 18954 1 3 9 27 81 243 729 2187 6561 M) → (M 15 10 = g) → (x9 = 9 * x10 + 3 * x12) → (3 - x10) * 31 + (3 - x12) * 6 + 6 < (nn : Int) → nW xs e 45 110 [some (2, 29), none, some (2, (p + 2)), none, none, some (0, x5), some (0, x6), some (0, x7), some (0, x8), some (0, x9), some (0, x10), some (0, x11), some (0, x12), none, none] [] M (nPV fun M1 => Sf 3 ac M0 M1 ∧ (M1 15 10 = g) ∧ MK 19683 27 26 702 18954 1 3 9 27 81 243 729 2187 6561 M1)) ∧ (∀ (x5 x6 x7 x8 x9 x10 x11 x12 x13 x14 : Int) (M : nM), Sf 3 ac M0 M → (3 ≤ x5 ∧ x5 ≤ 3) → (0 ≤ x6 ∧ x6 ≤ 24) → (0 ≤ x7 ∧ x7 ≤ 24) → (0 ≤ x8 ∧ x8 ≤ 24) → (0 ≤ x9 ∧ x9 ≤ 27) → (0 ≤ x10 ∧ x10 ≤ 2) → (0 ≤ x11 ∧ x11 ≤ 1458) → (0 ≤ x12 ∧ x12 ≤ 2) → (0 ≤ x13 ∧ x13 ≤ 5832) → (0 ≤ x14 ∧ x14 ≤ 3) → (MK 19683 27 26 702 18954 1 3 9 27 81 243 729 2187 6561 M) → (M 15 10 = g) → (x9 = 9 * x10 + 3 * x12 + x14) → (3 - x10) * 31 + (3 - x12) * 6 + (3 - x14) * 1 + 1 < (nn : Int) → nW xs e 45 137 [some (2, 29), none, some (2, (p + 2)), none, none, some (0, x5), some (0, x6), some (0, x7), some (0, x8), some (0, x9), some (0, x10), some (0, x11), some (0, x12), some (0, x13), some (0, x14)] [] M (nPV fun M1 => Sf 3 ac M0 M1 ∧ (M1 15 10 = g) ∧ MK 19683 27 26 702 18954 1 3 9 27 81 243 729 2187 6561 M1)) := by
  have hd : (3 : Int) = 2 ∨ (3 : Int) = 3 := by decide
  have hac := hS.2.2.2.2
  intro nn
  induction nn with
  | zero => refine ⟨?_, ?_, ?_⟩ <;> (intros; omega)
  | succ nn ih =>
    refine ⟨?_, ?_, ?_⟩
    · intro x5 x6 x7 x8 x9 x10 M hS k5 k6 k7 k8 k9 k10 hK hgg v0 hnn
      refine n_iload c_45_86 rfl ?_
      refine n_iload c_45_88 rfl ?_
      refine n_if2_ge c_45_90 (by omega) (by omega) ?_ ?_
      · intro h1
        exact n_rV c_45_187 rfl ⟨hS, by omega, hK⟩
      · intro h2
        refine n_aload_n c_45_93 rfl ?_
        refine n_iload c_45_94 rfl ?_
        refine n_iload c_45_96 rfl ?_
        refine n_iadd c_45_98 rfl ?_
        refine n_ialoadV c_45_99 hp.c0.2.2.n rfl rfl rfl (by omega) (t_actrl hS hp hpl (Or.inr rfl) (by omega) (by omega)) ?_
        intro z3 ez3 f4
        refine n_aload_n c_45_100 rfl ?_
        refine n_getV (bi := 1) c_45_101 sc_29.n rfl rfl rfl hK.w29.1 ?_
        intro z5 ez5 f6
        obtain rfl : z5 = 729 := by omega
        refine n_imul c_45_104 rfl ?_
        refine n_istore (L2 := [some (2, 29), none, some (2, (p + 2)), none, none, some (0, x5), some (0, x6), some (0, x7), some (0, x8), some (0, x9), some (0, x10), some (0, (z3 * 729)), none, none, none]) c_45_105 rfl rfl ?_
        refine n_iconst c_45_107 ?_
        refine n_istore (L2 := [some (2, 29), none, some (2, (p + 2)), none, none, some (0, x5), some (0, x6), some (0, x7), some (0, x8), some (0, x9), some (0, x10), some (0, (z3 * 729)), some (0, 0), none, none]) c_45_108 rfl rfl ?_
        refine n_fg (le_s (le_n (le_s (le_n (le_n (le_s (le_s (le_s (le_s (le_s (le_s (le_s (le_s (le_n (le_n le_0))))))))))))))) ?_
        exact ih.2.1 _ _ _ _ _ _ _ _ M hS (by omega) (by omega) (by omega) (by omega) (by omega) (by omega) (by omega) (by omega) hK (by omega) (by omega) (by omega)
    · intro x5 x6 x7 x8 x9 x10 x11 x12 M hS k5 k6 k7 k8 k9 k10 k11 k12 hK hgg v0 hnn
      refine n_iload c_45_110 rfl ?_
      refine n_iload c_45_112 rfl ?_
      refine n_if2_ge c_45_114 (by omega) (by omega) ?_ ?_
      · intro h1
        refine n_iinc (L2 := [some (2, 29), none, some (2, (p + 2)), none, none, some (0, x5), some (0, x6), some (0, x7), some (0, x8), some (0, x9), some (0, (x10 + 1)), some (0, x11), some (0, x12), none, none]) c_45_181 rfl rfl rfl ?_
        refine n_goto c_45_184 ?_
        refine n_fg (le_s (le_n (le_s (le_n (le_n (le_s (le_s (le_s (le_s (le_s (le_s (le_n (le_n (le_n (le_n le_0))))))))))))))) ?_
        exact ih.1 _ _ _ _ _ _ M hS (by omega) (by omega) (by omega) (by omega) (by omega) (by omega) hK (by omega) (by omega) (by omega)
      · intro h2
        refine n_iload c_45_117 rfl ?_
        refine n_aload_n c_45_119 rfl ?_
        refine n_iload c_45_120 rfl ?_
        refine n_iload c_45_122 rfl ?_
        refine n_iadd c_45_124 rfl ?_
        refine n_ialoadV c_45_125 hp.c0.2.2.n rfl rfl rfl (by omega) (t_actrl hS hp hpl (Or.inr rfl) (by omega) (by omega)) ?_
        intro z3 ez3 f4
        refine n_aload_n c_45_126 rfl ?_
        refine n_getV (bi := 2) c_45_127 sc_29.n rfl rfl rfl hK.w29.2.1 ?_
        intro z5 ez5 f6
        obtain rfl : z5 = 2187 := by omega
        refine n_imul c_45_130 rfl ?_
        refine n_iadd c_45_131 rfl ?_
        refine n_istore (L2 := [some (2, 29), none, some (2, (p + 2)), none, none, some (0, x5), some (0, x6), some (0, x7), some (0, x8), some (0, x9), some (0, x10), some (0, x11), some (0, x12), some (0, (x11 + (z3 * 2187))), none]) c_45_132 rfl rfl ?_
        refine n_iconst c_45_134 ?_
        refine n_istore (L2 := [some (2, 29), none, some (2, (p + 2)), none, none, some (0, x5), some (0, x6), some (0, x7), some (0, x8), some (0, x9), some (0, x10), some (0, x11), some (0, x12), some (0, (x11 + (z3 * 2187))), some (0, 0)]) c_45_135 rfl rfl ?_
        refine n_fg (le_s (le_n (le_s (le_n (le_n (le_s (le_s (le_s (le_s (le_s (le_s (le_s (le_s (le_s (le_s le_0))))))))))))))) ?_
        exact ih.2.2 _ _ _ _ _ _ _ _ _ _ M hS (by omega) (by omega) (by omega) (by omega) (by omega) (by omega) (by omega) (by omega) (by omega) (by omega) hK (by omega) (by omega) (by omega)
    · intro x5 x6 x7 x8 x9 x10 x11 x12 x13 x14 M hS k5 k6 k7 k8 k9 k10 k11 k12 k13 k14 hK hgg v0 hnn
      refine n_iload c_45_137 rfl ?_
      refine n_iload c_45_139 rfl ?_
      refine n_if2_ge c_45_141 (by omega) (by omega) ?_ ?_
      · intro h1
        refine n_iinc (L2 := [some (2, 29), none, some (2, (p + 2)), none, none, some (0, x5), some (0, x6), some (0, x7), some (0, x8), some (0, x9), some (0, x10), some (0, x11), some (0, (x12 + 1)), some (0, x13), some (0, x14)]) c_45_175 rfl rfl rfl ?_
        refine n_goto c_45_178 ?_
        refine n_fg (le_s (le_n (le_s (le_n (le_n (le_s (le_s (le_s (le_s (le_s (le_s (le_s (le_s (le_n (le_n le_0))))))))))))))) ?_
        exact ih.2.1 _ _ _ _ _ _ _ _ M hS (by omega) (by omega) (by omega) (by omega) (by omega) (by omega) (by omega) (by omega) hK (by omega) (by omega) (by omega)
      · intro h2
        refine n_aload_n c_45_144 rfl ?_
        refine n_getR c_45_145 sc_29.n rfl rfl rfl r_29_0 ?_
        refine n_iload c_45_148 rfl ?_
        refine n_iload c_45_150 rfl ?_
        refine n_aload_n c_45_152 rfl ?_
        refine n_iload c_45_153 rfl ?_
        refine n_iload c_45_155 rfl ?_
        refine n_iadd c_45_157 rfl ?_
        refine n_ialoadV c_45_158 hp.c0.2.2.n rfl rfl rfl (by omega) (t_actrl hS hp hpl (Or.inr rfl) (by omega) (by omega)) ?_
        intro z3 ez3 f4
        refine n_aload_n c_45_159 rfl ?_
        refine n_getV (bi := 3) c_45_160 sc_29.n rfl rfl rfl hK.w29.2.2 ?_
        intro z5 ez5 f6
        obtain rfl : z5 = 6561 := by omega
        refine n_imul c_45_163 rfl ?_
        refine n_iadd c_45_164 rfl ?_
        refine n_iastoreV hS c_45_165 sc_30.n rfl (by omega) (w_30 (by omega) (by omega)) ?_
        intro M7 eM7 hS7
        have hK7 := hK.u (by unfold Kok; omega) eM7
        have g7_0 : M7 15 10 = M 15 10 := by rw [eM7]; exact nu_a (by omega)
        refine n_iinc (L2 := [some (2, 29), none, some (2, (p + 2)), none, none, some (0, x5), some (0, x6), some (0, x7), some (0, x8), some (0, (x9 + 1)), some (0, x10), some (0, x11), some (0, x12), some (0, x13), some (0, x14)]) c_45_166 rfl rfl rfl ?_
        refine n_iinc (L2 := [some (2, 29), none, some (2, (p + 2)), none, none, some (0, x5), some (0, x6), some (0, x7), some (0, x8), some (0, (x9 + 1)), some (0, x10), some (0, x11), some (0, x12), some (0, x13), some (0, (x14 + 1))]) c_45_169 rfl rfl rfl ?_
        refine n_goto c_45_172 ?_
        refine n_fg (le_s (le_n (le_s (le_n (le_n (le_s (le_s (le_s (le_s (le_s (le_s (le_s (le_s (le_s (le_s le_0))))))))))))))) ?_
        exact ih.2.2 _ _ _ _ _ _ _ _ _ _ M7 hS7 (by omega) (by omega) (by omega) (by omega) (by omega) (by omega) (by omega) (by omega) (by omega) (by omega) hK7 (by omega) (by omega) (by omega)
set_option maxHeartbeats 4000000 in
theorem fillM29U_2_3 {xs : List Int32} {e : Nat} {ac : Int} {M0 M : nM} {p i j g : Int} (hS : Sf 3 ac M0 M) (hp : ActAt p) (hpl : p < 55 + 3 * ac) (hi : 0 ≤ i ∧ i ≤ 26) (hj : 0 ≤ j ∧ j ≤ 26) (hK : MK 19683 27 26 702 18954 1 3 9 27 81 243 729 2187 6561 M) (hg : M 15 10 = g) : nW xs e 45 0 [some (2, 29), some (2, 4), some (2, (p + 2)), some (0, i), some (0, j), none, none, none, none, none, none, none, none, none, none] [] M (nPV fun M1 => Sf 3 ac M0 M1 ∧ (M1 15 10 = g) ∧ MK 19683 27 26 702 18954 1 3 9 27 81 243 729 2187 6561 M1) := by
  have hd : (3 : Int) = 2 ∨ (3 : Int) = 3 := by decide
  have hac := hS.2.2.2.2
  refine n_aload_n c_45_0 rfl ?_
  refine n_getV (bi := 1) c_45_1 sc_29.n rfl rfl rfl hK.w29.1 ?_
  intro z1 ez1 f2
  obtain rfl : z1 = 729 := by omega
  refine n_if0_ne c_45_4 (by omega) ?_ ?_
  · intro h3
    refine n_aload_n c_45_8 rfl ?_
    refine n_getV (bi := 0) c_45_9 sc_4.n rfl rfl rfl (t_4_0 hS) ?_
    intro z4 ez4 f5
    obtain rfl : z4 = 3 := by omega
    refine n_istore (L2 := [some (2, 29), some (2, 4), some (2, (p + 2)), some (0, i), some (0, j), some (0, 3), none, none, none, none, none, none, none, none, none]) c_45_12 rfl rfl ?_
    refine n_aload_n c_45_14 rfl ?_
    refine n_getR c_45_15 sc_4.n rfl rfl rfl r_4_2 ?_
    refine n_iload_n c_45_18 rfl ?_
    refine n_ialoadV c_45_19 sc_5.n rfl rfl rfl (by omega) (t_5d hS hd (by omega) (by omega)) ?_
    intro z6 ez6 f7
    refine n_iload c_45_20 rfl ?_
    refine n_imul c_45_22 rfl ?_
    refine n_aload_n c_45_23 rfl ?_
    refine n_getR c_45_24 sc_4.n rfl rfl rfl r_4_2 ?_
    refine n_iload c_45_27 rfl ?_
    refine n_ialoadV c_45_29 sc_5.n rfl rfl rfl (by omega) (t_5d hS hd (by omega) (by omega)) ?_
    intro z8 ez8 f9
    refine n_iadd c_45_30 rfl ?_
    refine n_iload c_45_31 rfl ?_
    refine n_imul c_45_33 rfl ?_
    refine n_istore (L2 := [some (2, 29), some (2, 4), some (2, (p + 2)), some (0, i), some (0, j), some (0, 3), some (0, (((z6 * 3) + z8) * 3)), none, none, none, none, none, none, none, none]) c_45_34 rfl rfl ?_
    refine n_aload_n c_45_36 rfl ?_
    refine n_getR c_45_37 sc_4.n rfl rfl rfl r_4_3 ?_
    refine n_iload_n c_45_40 rfl ?_
    refine n_ialoadV c_45_41 sc_6.n rfl rfl rfl (by omega) (t_6d hS hd (by omega) (by omega)) ?_
    intro z10 ez10 f11
    refine n_iload c_45_42 rfl ?_
    refine n_imul c_45_44 rfl ?_
    refine n_aload_n c_45_45 rfl ?_
    refine n_getR c_45_46 sc_4.n rfl rfl rfl r_4_3 ?_
    refine n_iload c_45_49 rfl ?_
    refine n_ialoadV c_45_51 sc_6.n rfl rfl rfl (by omega) (t_6d hS hd (by omega) (by omega)) ?_
    intro z12 ez12 f13
    refine n_iadd c_45_52 rfl ?_
    refine n_iload c_45_53 rfl ?_
    refine n_imul c_45_55 rfl ?_
    refine n_istore (L2 := [some (2, 29), some (2, 4), some (2, (p + 2)), some (0, i), some (0, j), some (0, 3), some (0, (((z6 * 3) + z8) * 3)), some (0, (((z10 * 3) + z12) * 3)), none, none, none, none, none, none, none]) c_45_56 rfl rfl ?_
    refine n_aload_n c_45_58 rfl ?_
    refine n_getR c_45_59 sc_4.n rfl rfl rfl r_4_4 ?_
    refine n_iload_n c_45_62 rfl ?_
    refine n_ialoadV c_45_63 sc_7.n rfl rfl rfl (by omega) (t_7d hS hd (by omega) (by omega)) ?_
    intro z14 ez14 f15
    refine n_iload c_45_64 rfl ?_
    refine n_imul c_45_66 rfl ?_
    refine n_aload_n c_45_67 rfl ?_
    refine n_getR c_45_68 sc_4.n rfl rfl rfl r_4_4 ?_
    refine n_iload c_45_71 rfl ?_
    refine n_ialoadV c_45_73 sc_7.n rfl rfl rfl (by omega) (t_7d hS hd (by omega) (by omega)) ?_
    intro z16 ez16 f17
    refine n_iadd c_45_74 rfl ?_
    refine n_iload c_45_75 rfl ?_
    refine n_imul c_45_77 rfl ?_
    refine n_istore (L2 := [some (2, 29), some (2, 4), some (2, (p + 2)), some (0, i), some (0, j), some (0, 3), some (0, (((z6 * 3) + z8) * 3)), some (0, (((z10 * 3) + z12) * 3)), some (0, (((z14 * 3) + z16) * 3)), none, none, none, none, none, none]) c_45_78 rfl rfl ?_
    refine n_iconst c_45_80 ?_
    refine n_istore (L2 := [some (2, 29), some (2, 4), some (2, (p + 2)), some (0, i), some (0, j), some (0, 3), some (0, (((z6 * 3) + z8) * 3)), some (0, (((z10 * 3) + z12) * 3)), some (0, (((z14 * 3) + z16) * 3)), some (0, 0), none, none, none, none, none]) c_45_81 rfl rfl ?_
    refine n_iconst c_45_83 ?_
    refine n_istore (L2 := [some (2, 29), some (2, 4), some (2, (p + 2)), some (0, i), some (0, j), some (0, 3), some (0, (((z6 * 3) + z8) * 3)), some (0, (((z10 * 3) + z12) * 3)), some (0, (((z14 * 3) + z16) * 3)), some (0, 0), some (0, 0), none, none, none, none]) c_45_84 rfl rfl ?_
    refine n_fg (le_s (le_n (le_s (le_n (le_n (le_s (le_s (le_s (le_s (le_s (le_s (le_n (le_n (le_n (le_n le_0))))))))))))))) ?_
    exact (fillM29U_2_3_c hS hp hpl hi hj hK hg 320).1 _ _ _ _ _ _ M hS (by omega) (by omega) (by omega) (by omega) (by omega) (by omega) hK (by omega) (by omega) (by omega)
  · intro h18
    exfalso; omega

set_option maxHeartbeats 4000000 in
theorem changeIn20_2_3 {xs : List Int32} {e : Nat} {ac : Int} {M0 M : nM} {i j g g2 : Int} (hS : Sf 3 ac M0 M) (hi : 0 ≤ i ∧ i ≤ 256) (hj : 0 ≤ j ∧ j ≤ 256) (hK : MK 19683 27 26 702 18954 1 3 9 27 81 243 729 2187 6561 M) (hg : M 15 10 = g) (hg2 : M 106 2 = g2) (hig : i < g) (hjg : j < g) : nW xs e 61 0 [some (2, 15), some (2, 20), some (0, i), some (0, j), none] [] M (nPV fun M1 => Sf 3 ac M0 M1 ∧ (M1 15 10 = g) ∧ (M1 106 2 = g2) ∧ MK 19683 27 26 702 18954 1 3 9 27 81 243 729 2187 6561 M1) := by
  have hd : (3 : Int) = 2 ∨ (3 : Int) = 3 := by decide
  have hac := hS.2.2.2.2
  refine n_aload_n c_61_0 rfl ?_
  refine n_iload_n c_61_1 rfl ?_
  refine n_ialoadV c_61_2 sc_20.n rfl rfl rfl (by omega) (hK.r20 hS (by omega) (by omega)) ?_
  intro z1 ez1 f2
  refine n_istore (L2 := [some (2, 15), some (2, 20), some (0, i), some (0, j), some (0, z1)]) c_61_3 rfl rfl ?_
  refine n_aload_n c_61_5 rfl ?_
  refine n_iload_n c_61_6 rfl ?_
  refine n_aload_n c_61_7 rfl ?_
  refine n_iload_n c_61_8 rfl ?_
  refine n_ialoadV c_61_9 sc_20.n rfl rfl rfl (by omega) (hK.r20 hS (by omega) (by omega)) ?_
  intro z3 ez3 f4
  refine n_iastoreV hS c_61_10 sc_20.n rfl (by omega) (w_20 (by omega) (by omega)) ?_
  intro M5 eM5 hS5
  have hK5 := hK.u (by unfold Kok; omega) eM5
  have g5_0 : M5 15 10 = M 15 10 := by rw [eM5]; exact nu_a (by omega)
  have g5_1 : M5 106 2 = M 106 2 := by rw [eM5]; exact nu_a (by omega)
  refine n_aload_n c_61_11 rfl ?_
  refine n_iload_n c_61_12 rfl ?_
  refine n_iload c_61_13 rfl ?_
  refine n_iastoreV hS5 c_61_15 sc_20.n rfl (by omega) (w_20 (by omega) (by omega)) ?_
  intro M6 eM6 hS6
  have hK6 := hK5.u (by unfold Kok; omega) eM6
  have g6_0 : M6 15 10 = M5 15 10 := by rw [eM6]; exact nu_a (by omega)
  have g6_1 : M6 106 2 = M5 106 2 := by rw [eM6]; exact nu_a (by omega)
  exact n_rV c_61_16 rfl ⟨hS6, by omega, by omega, hK6⟩

set_option maxHeartbeats 4000000 in
theorem changeIn21_2_3 {xs : List Int32} {e : Nat} {ac : Int} {M0 M : nM} {i j g g2 : Int} (hS : Sf 3 ac M0 M) (hi : 0 ≤ i ∧ i ≤ 256) (hj : 0 ≤ j ∧ j ≤ 256) (hK : MK 19683 27 26 702 18954 1 3 9 27 81 243 729 2187 6561 M) (hg : M 15 10 = g) (hg2 : M 106 2 = g2) (hig : i < g) (hjg : j < g) : nW xs e 61 0 [some (2, 15), some (2, 21), some (0, i), some (0, j), none] [] M (nPV fun M1 => Sf 3 ac M0 M1 ∧ (M1 15 10 = g) ∧ (M1 106 2 = g2) ∧ MK 19683 27 26 702 18954 1 3 9 27 81 243 729 2187 6561 M1) := by
  have hd : (3 : Int) = 2 ∨ (3 : Int) = 3 := by decide
  have hac := hS.2.2.2.2
  refine n_aload_n c_61_0 rfl ?_
  refine n_iload_n c_61_1 rfl ?_
  refine n_ialoadV c_61_2 sc_21.n rfl rfl rfl (by omega) (t_21 hS (by omega)) ?_
  intro z1 ez1 f2
  refine n_istore (L2 := [some (2, 15), some (2, 21), some (0, i), some (0, j), some (0, z1)]) c_61_3 rfl rfl ?_
  refine n_aload_n c_61_5 rfl ?_
  refine n_iload_n c_61_6 rfl ?_
  refine n_aload_n c_61_7 rfl ?_
  refine n_iload_n c_61_8 rfl ?_
  refine n_ialoadV c_61_9 sc_21.n rfl rfl rfl (by omega) (t_21 hS (by omega)) ?_
  intro z3 ez3 f4
  refine n_iastoreV hS c_61_10 sc_21.n rfl (by omega) (w_21 (by omega) (by omega)) ?_
  intro M5 eM5 hS5
  have hK5 := hK.u (by unfold Kok; omega) eM5
  have g5_0 : M5 15 10 = M 15 10 := by rw [eM5]; exact nu_a (by omega)
  have g5_1 : M5 106 2 = M 106 2 := by rw [eM5]; exact nu_a (by omega)
  refine n_aload_n c_61_11 rfl ?_
  refine n_iload_n c_61_12 rfl ?_
  refine n_iload c_61_13 rfl ?_
  refine n_iastoreV hS5 c_61_15 sc_21.n rfl (by omega) (w_21 (by omega) (by omega)) ?_
  intro M6 eM6 hS6
  have hK6 := hK5.u (by unfold Kok; omega) eM6
  have g6_0 : M6 15 10 = M5 15 10 := by rw [eM6]; exact nu_a (by omega)
  have g6_1 : M6 106 2 = M5 106 2 := by rw [eM6]; exact nu_a (by omega)
  exact n_rV c_61_16 rfl ⟨hS6, by omega, by omega, hK6⟩

set_option maxHeartbeats 4000000 in
theorem changeIn22_2_3 {xs : List Int32} {e : Nat} {ac : Int} {M0 M : nM} {i j g g2 : Int} (hS : Sf 3 ac M0 M) (hi : 0 ≤ i ∧ i ≤ 256) (hj : 0 ≤ j ∧ j ≤ 256) (hK : MK 19683 27 26 702 18954 1 3 9 27 81 243 729 2187 6561 M) (hg : M 15 10 = g) (hg2 : M 106 2 = g2) (hig : i < g) (hjg : j < g) : nW xs e 61 0 [some (2, 15), some (2, 22), some (0, i), some (0, j), none] [] M (nPV fun M1 => Sf 3 ac M0 M1 ∧ (M1 15 10 = g) ∧ (M1 106 2 = g2) ∧ MK 19683 27 26 702 18954 1 3 9 27 81 243 729 2187 6561 M1) := by
  have hd : (3 : Int) = 2 ∨ (3 : Int) = 3 := by decide
  have hac := hS.2.2.2.2
  refine n_aload_n c_61_0 rfl ?_
  refine n_iload_n c_61_1 rfl ?_
  refine n_ialoadV c_61_2 sc_22.n rfl rfl rfl (by omega) (hK.r22 hS (by omega) (by omega)) ?_
  intro z1 ez1 f2
  refine n_istore (L2 := [some (2, 15), some (2, 22), some (0, i), some (0, j), some (0, z1)]) c_61_3 rfl rfl ?_
  refine n_aload_n c_61_5 rfl ?_
  refine n_iload_n c_61_6 rfl ?_
  refine n_aload_n c_61_7 rfl ?_
  refine n_iload_n c_61_8 rfl ?_
  refine n_ialoadV c_61_9 sc_22.n rfl rfl rfl (by omega) (hK.r22 hS (by omega) (by omega)) ?_
  intro z3 ez3 f4
  refine n_iastoreV hS c_61_10 sc_22.n rfl (by omega) (w_22 (by omega) (by omega)) ?_
  intro M5 eM5 hS5
  have hK5 := hK.u (by unfold Kok; omega) eM5
  have g5_0 : M5 15 10 = M 15 10 := by rw [eM5]; exact nu_a (by omega)
  have g5_1 : M5 106 2 = M 106 2 := by rw [eM5]; exact nu_a (by omega)
  refine n_aload_n c_61_11 rfl ?_
  refine n_iload_n c_61_12 rfl ?_
  refine n_iload c_61_13 rfl ?_
  refine n_iastoreV hS5 c_61_15 sc_22.n rfl (by omega) (w_22 (by omega) (by omega)) ?_
  intro M6 eM6 hS6
  have hK6 := hK5.u (by unfold Kok; omega) eM6
  have g6_0 : M6 15 10 = M5 15 10 := by rw [eM6]; exact nu_a (by omega)
  have g6_1 : M6 106 2 = M5 106 2 := by rw [eM6]; exact nu_a (by omega)
  exact n_rV c_61_16 rfl ⟨hS6, by omega, by omega, hK6⟩

set_option maxHeartbeats 4000000 in
theorem changeIn23_2_3 {xs : List Int32} {e : Nat} {ac : Int} {M0 M : nM} {i j g g2 : Int} (hS : Sf 3 ac M0 M) (hi : 0 ≤ i ∧ i ≤ 256) (hj : 0 ≤ j ∧ j ≤ 256) (hK : MK 19683 27 26 702 18954 1 3 9 27 81 243 729 2187 6561 M) (hg : M 15 10 = g) (hg2 : M 106 2 = g2) (hig : i < g) (hjg : j < g) : nW xs e 61 0 [some (2, 15), some (2, 23), some (0, i), some (0, j), none] [] M (nPV fun M1 => Sf 3 ac M0 M1 ∧ (M1 15 10 = g) ∧ (M1 106 2 = g2) ∧ MK 19683 27 26 702 18954 1 3 9 27 81 243 729 2187 6561 M1) := by
  have hd : (3 : Int) = 2 ∨ (3 : Int) = 3 := by decide
  have hac := hS.2.2.2.2
  refine n_aload_n c_61_0 rfl ?_
  refine n_iload_n c_61_1 rfl ?_
  refine n_ialoadV c_61_2 sc_23.n rfl rfl rfl (by omega) (hK.r23 hS (by omega) (by omega)) ?_
  intro z1 ez1 f2
  refine n_istore (L2 := [some (2, 15), some (2, 23), some (0, i), some (0, j), some (0, z1)]) c_61_3 rfl rfl ?_
  refine n_aload_n c_61_5 rfl ?_
  refine n_iload_n c_61_6 rfl ?_
  refine n_aload_n c_61_7 rfl ?_
  refine n_iload_n c_61_8 rfl ?_
  refine n_ialoadV c_61_9 sc_23.n rfl rfl rfl (by omega) (hK.r23 hS (by omega) (by omega)) ?_
  intro z3 ez3 f4
  refine n_iastoreV hS c_61_10 sc_23.n rfl (by omega) (w_23 (by omega) (by omega)) ?_
  intro M5 eM5 hS5
  have hK5 := hK.u (by unfold Kok; omega) eM5
  have g5_0 : M5 15 10 = M 15 10 := by rw [eM5]; exact nu_a (by omega)
  have g5_1 : M5 106 2 = M 106 2 := by rw [eM5]; exact nu_a (by omega)
  refine n_aload_n c_61_11 rfl ?_
  refine n_iload_n c_61_12 rfl ?_
  refine n_iload c_61_13 rfl ?_
  refine n_iastoreV hS5 c_61_15 sc_23.n rfl (by omega) (w_23 (by omega) (by omega)) ?_
  intro M6 eM6 hS6
  have hK6 := hK5.u (by unfold Kok; omega) eM6
  have g6_0 : M6 15 10 = M5 15 10 := by rw [eM6]; exact nu_a (by omega)
  have g6_1 : M6 106 2 = M5 106 2 := by rw [eM6]; exact nu_a (by omega)
  exact n_rV c_61_16 rfl ⟨hS6, by omega, by omega, hK6⟩

set_option maxHeartbeats 4000000 in
theorem changeIn24_2_3 {xs : List Int32} {e : Nat} {ac : Int} {M0 M : nM} {i j g g2 : Int} (hS : Sf 3 ac M0 M) (hi : 0 ≤ i ∧ i ≤ 256) (hj : 0 ≤ j ∧ j ≤ 256) (hK : MK 19683 27 26 702 18954 1 3 9 27 81 243 729 2187 6561 M) (hg : M 15 10 = g) (hg2 : M 106 2 = g2) (hig : i < g) (hjg : j < g) : nW xs e 61 0 [some (2, 15), some (2, 24), some (0, i), some (0, j), none] [] M (nPV fun M1 => Sf 3 ac M0 M1 ∧ (M1 15 10 = g) ∧ (M1 106 2 = g2) ∧ MK 19683 27 26 702 18954 1 3 9 27 81 243 729 2187 6561 M1) := by
  have hd : (3 : Int) = 2 ∨ (3 : Int) = 3 := by decide
  have hac := hS.2.2.2.2
  refine n_aload_n c_61_0 rfl ?_
  refine n_iload_n c_61_1 rfl ?_
  refine n_ialoadV c_61_2 sc_24.n rfl rfl rfl (by omega) (hK.r24 hS (by omega) (by omega)) ?_
  intro z1 ez1 f2
  refine n_istore (L2 := [some (2, 15), some (2, 24), some (0, i), some (0, j), some (0, z1)]) c_61_3 rfl rfl ?_
  refine n_aload_n c_61_5 rfl ?_
  refine n_iload_n c_61_6 rfl ?_
  refine n_aload_n c_61_7 rfl ?_
  refine n_iload_n c_61_8 rfl ?_
  refine n_ialoadV c_61_9 sc_24.n rfl rfl rfl (by omega) (hK.r24 hS (by omega) (by omega)) ?_
  intro z3 ez3 f4
  refine n_iastoreV hS c_61_10 sc_24.n rfl (by omega) (w_24 (by omega) (by omega)) ?_
  intro M5 eM5 hS5
  have hK5 := hK.u (by unfold Kok; omega) eM5
  have g5_0 : M5 15 10 = M 15 10 := by rw [eM5]; exact nu_a (by omega)
  have g5_1 : M5 106 2 = M 106 2 := by rw [eM5]; exact nu_a (by omega)
  refine n_aload_n c_61_11 rfl ?_
  refine n_iload_n c_61_12 rfl ?_
  refine n_iload c_61_13 rfl ?_
  refine n_iastoreV hS5 c_61_15 sc_24.n rfl (by omega) (w_24 (by omega) (by omega)) ?_
  intro M6 eM6 hS6
  have hK6 := hK5.u (by unfold Kok; omega) eM6
  have g6_0 : M6 15 10 = M5 15 10 := by rw [eM6]; exact nu_a (by omega)
  have g6_1 : M6 106 2 = M5 106 2 := by rw [eM6]; exact nu_a (by omega)
  exact n_rV c_61_16 rfl ⟨hS6, by omega, by omega, hK6⟩

set_option maxHeartbeats 4000000 in
theorem mostMade_2_3_c {xs : List Int32} {e : Nat} {ac : Int} {M0 M : nM} (hS : Sf 3 ac M0 M)  : ∀ nn : Nat, (∀ (x2 x3 x4 : Int), (9 ≤ x2 ∧ x2 ≤ 9) → (-2147483648 ≤ x3 ∧ x3 ≤ 2147483647) → (0 ≤ x4 ∧ x4 ≤ 9) → (9 - x4) * 1 + 1 < (nn : Int) → nW xs (e + 4) 131 14 [some (2, 3), some (0, 2), some (0, x2), some (0, x3), some (0, x4)] [] M (nPI fun z M1 => M = M1 ∧ (-2147483648 ≤ z ∧ z ≤ 2147483647))) := by
  have hd : (3 : Int) = 2 ∨ (3 : Int) = 3 := by decide
  have hac := hS.2.2.2.2
  intro nn
  induction nn with
  | zero => intros; omega
  | succ nn ih =>
    intro x2 x3 x4 k2 k3 k4 hnn
    refine n_iload c_131_14 rfl ?_
    refine n_iload_n c_131_16 rfl ?_
    refine n_if2_ge c_131_17 (by omega) (by omega) ?_ ?_
    · intro h1
      refine n_iload_n c_131_46 rfl ?_
      exact n_rI c_131_47 rfl ⟨rfl, by omega⟩
    · intro h2
      refine n_iload_n c_131_20 rfl ?_
      refine n_aload_n c_131_21 rfl ?_
      refine n_aload_n c_131_22 rfl ?_
      refine n_getR c_131_23 sc_3.n rfl rfl rfl r_3_0 ?_
      refine n_iload c_131_26 rfl ?_
      refine n_iload_n c_131_28 rfl ?_
      refine n_v2I c_131_29 rfl sc_4.n rfl rfl rfl rfl (thingsOf_3 (r := x4) (p := 2) hS (by omega) (by omega)) ?_
      intro z3 M4 hP5
      obtain ⟨eM, f5⟩ := hP5
      subst eM
      refine n_v1I c_131_32 rfl sc_3.n rfl rfl rfl rfl (leastHeap_3 (m := z3) hS (by omega)) ?_
      intro z6 M7 hP8
      obtain ⟨eM, f8⟩ := hP8
      subst eM
      refine n_s1I c_131_35 rfl rfl rfl rfl (ibits_3 (x := z6) hS (by omega)) ?_
      intro z9 M10 hP11
      obtain ⟨eM, f11⟩ := hP11
      subst eM
      refine n_imul c_131_38 rfl ?_
      refine n_wrap ?_
      have f12 := n_wr_r (x3 * z9)
      generalize n_wr (x3 * z9) = z13 at f12 ⊢
      refine n_istore_n (L2 := [some (2, 3), some (0, 2), some (0, x2), some (0, z13), some (0, x4)]) c_131_39 rfl rfl ?_
      refine n_iinc (L2 := [some (2, 3), some (0, 2), some (0, x2), some (0, z13), some (0, (x4 + 1))]) c_131_40 rfl rfl rfl ?_
      refine n_goto c_131_43 ?_
      refine n_fg (le_s (le_s (le_s (le_s (le_s le_0))))) ?_
      exact ih _ _ _ (by omega) (by omega) (by omega) (by omega)
set_option maxHeartbeats 4000000 in
theorem mostMade_2_3 {xs : List Int32} {e : Nat} {ac : Int} {M0 M : nM} (hS : Sf 3 ac M0 M)  : nW xs (e + 4) 131 0 [some (2, 3), some (0, 2), none, none, none] [] M (nPI fun z M1 => M = M1 ∧ (-2147483648 ≤ z ∧ z ≤ 2147483647)) := by
  have hd : (3 : Int) = 2 ∨ (3 : Int) = 3 := by decide
  have hac := hS.2.2.2.2
  refine n_aload_n c_131_0 rfl ?_
  refine n_getR c_131_1 sc_3.n rfl rfl rfl r_3_0 ?_
  refine n_iload_n c_131_4 rfl ?_
  refine n_v1I c_131_5 rfl sc_4.n rfl rfl rfl rfl (power2_3  hS ) ?_
  intro z1 M2 hP3
  obtain ⟨eM, f3⟩ := hP3
  subst eM
  obtain rfl : z1 = 9 := by omega
  refine n_istore_n (L2 := [some (2, 3), some (0, 2), some (0, 9), none, none]) c_131_8 rfl rfl ?_
  refine n_iconst c_131_9 ?_
  refine n_istore_n (L2 := [some (2, 3), some (0, 2), some (0, 9), some (0, 1), none]) c_131_10 rfl rfl ?_
  refine n_iconst c_131_11 ?_
  refine n_istore (L2 := [some (2, 3), some (0, 2), some (0, 9), some (0, 1), some (0, 0)]) c_131_12 rfl rfl ?_
  refine n_fg (le_s (le_s (le_s (le_s (le_s le_0))))) ?_
  exact (mostMade_2_3_c hS  32) _ _ _ (by omega) (by omega) (by omega) (by omega)

set_option maxHeartbeats 4000000 in
theorem sizeOf_2_3_c {xs : List Int32} {e : Nat} {ac : Int} {M0 M : nM} {c : Int} (hS : Sf 3 ac M0 M) (hc : -2147483648 ≤ c ∧ c ≤ 2147483647) : ∀ nn : Nat, (∀ (x2 : Int), (0 ≤ x2 ∧ x2 ≤ 256) → (256 - x2) * 1 + 1 < (nn : Int) → nW xs e 47 2 [some (2, 106), some (0, c), some (0, x2)] [] M (nPI fun z M1 => M = M1 ∧ (-2147483648 ≤ z ∧ z ≤ 2147483647))) := by
  have hd : (3 : Int) = 2 ∨ (3 : Int) = 3 := by decide
  have hac := hS.2.2.2.2
  intro nn
  induction nn with
  | zero => intros; omega
  | succ nn ih =>
    intro x2 k2 hnn
    refine n_iload_n c_47_2 rfl ?_
    refine n_aload_n c_47_3 rfl ?_
    refine n_getV (bi := 2) c_47_4 made106.c0.1.n rfl rfl rfl (t_made hS made106).2.2 ?_
    intro z1 ez1 f2
    refine n_if2_ge c_47_7 (by omega) (by omega) ?_ ?_
    · intro h3
      refine n_bipush c_47_33 rfl ?_
      exact n_rI c_47_35 rfl ⟨rfl, by omega⟩
    · intro h4
      refine n_aload_n c_47_10 rfl ?_
      refine n_getR c_47_11 made106.c0.1.n rfl rfl rfl made106.r.1 ?_
      refine n_iload_n c_47_14 rfl ?_
      refine n_ialoadV c_47_15 made106.c0.2.1.n rfl rfl rfl (by omega) (t_mader hS made106 (Or.inl rfl) (by omega)) ?_
      intro z5 ez5 f6
      refine n_iload_n c_47_16 rfl ?_
      refine n_if2_ne c_47_17 (by omega) (by omega) ?_ ?_
      · intro h7
        refine n_iinc (L2 := [some (2, 106), some (0, c), some (0, (x2 + 1))]) c_47_27 rfl rfl rfl ?_
        refine n_goto c_47_30 ?_
        refine n_fg (le_s (le_s (le_s le_0))) ?_
        exact ih _ (by omega) (by omega)
      · intro h8
        refine n_aload_n c_47_20 rfl ?_
        refine n_getR c_47_21 made106.c0.1.n rfl rfl rfl made106.r.2 ?_
        refine n_iload_n c_47_24 rfl ?_
        refine n_ialoadV c_47_25 made106.c0.2.2.n rfl rfl rfl (by omega) (t_mader hS made106 (Or.inr rfl) (by omega)) ?_
        intro z9 ez9 f10
        exact n_rI c_47_26 rfl ⟨rfl, by omega⟩
set_option maxHeartbeats 4000000 in
theorem sizeOf_2_3 {xs : List Int32} {e : Nat} {ac : Int} {M0 M : nM} {c : Int} (hS : Sf 3 ac M0 M) (hc : -2147483648 ≤ c ∧ c ≤ 2147483647) : nW xs e 47 0 [some (2, 106), some (0, c), none] [] M (nPI fun z M1 => M = M1 ∧ (-2147483648 ≤ z ∧ z ≤ 2147483647)) := by
  have hd : (3 : Int) = 2 ∨ (3 : Int) = 3 := by decide
  have hac := hS.2.2.2.2
  refine n_iconst c_47_0 ?_
  refine n_istore_n (L2 := [some (2, 106), some (0, c), some (0, 0)]) c_47_1 rfl rfl ?_
  refine n_fg (le_s (le_s (le_s le_0))) ?_
  exact (sizeOf_2_3_c hS hc 526) _ (by omega) (by omega)

set_option maxHeartbeats 4000000 in
theorem madeL_3 {xs : List Int32} {e : Nat} {ac : Int} {M0 M : nM} {n : Int} (hS : Sf 3 ac M0 M) (hn : -2147483648 ≤ n ∧ n ≤ 0) : nW xs (e + 6) 104 0 [some (2, 3), some (0, n), none] [] M (nPI fun z M1 => Sf 3 ac M0 M1 ∧ (-2147483648 ≤ z ∧ z ≤ 2147483647)) := by
  have hd : (3 : Int) = 2 ∨ (3 : Int) = 3 := by decide
  have hac := hS.2.2.2.2
  refine n_aload_n c_104_0 rfl ?_
  refine n_getR c_104_1 sc_3.n rfl rfl rfl r_3_0 ?_
  refine n_iload_n c_104_4 rfl ?_
  refine n_v1I c_104_5 rfl sc_4.n rfl rfl rfl rfl (isMadeOf_3 (n := n) hS (by omega)) ?_
  intro z1 M2 hP3
  obtain ⟨eM, f3, f3p0⟩ := hP3
  subst eM
  refine n_if0_ne c_104_8 (by omega) ?_ ?_
  · intro h4
    exfalso; omega
  · intro h5
    refine n_iconst c_104_11 ?_
    exact n_rI c_104_12 rfl ⟨hS, by omega⟩

set_option maxHeartbeats 4000000 in
theorem madeH_3 {xs : List Int32} {e : Nat} {ac : Int} {M0 M : nM} {n : Int} (hS : Sf 3 ac M0 M) (hn : 3 ≤ n ∧ n ≤ 2147483647) : nW xs (e + 6) 104 0 [some (2, 3), some (0, n), none] [] M (nPI fun z M1 => Sf 3 ac M0 M1 ∧ (-2147483648 ≤ z ∧ z ≤ 2147483647)) := by
  have hd : (3 : Int) = 2 ∨ (3 : Int) = 3 := by decide
  have hac := hS.2.2.2.2
  refine n_aload_n c_104_0 rfl ?_
  refine n_getR c_104_1 sc_3.n rfl rfl rfl r_3_0 ?_
  refine n_iload_n c_104_4 rfl ?_
  refine n_v1I c_104_5 rfl sc_4.n rfl rfl rfl rfl (isMadeOf_3 (n := n) hS (by omega)) ?_
  intro z1 M2 hP3
  obtain ⟨eM, f3, f3p0⟩ := hP3
  subst eM
  refine n_if0_ne c_104_8 (by omega) ?_ ?_
  · intro h4
    exfalso; omega
  · intro h5
    refine n_iconst c_104_11 ?_
    exact n_rI c_104_12 rfl ⟨hS, by omega⟩

set_option maxHeartbeats 4000000 in
theorem madeOfL_3_c {xs : List Int32} {e : Nat} {ac : Int} {M0 M : nM} {n i w : Int} (hS : Sf 3 ac M0 M) (hn : -2147483648 ≤ n ∧ n ≤ 0) (hi : -2147483648 ≤ i ∧ i ≤ 2147483647) (hw : -2147483648 ≤ w ∧ w ≤ 2147483647) : ∀ nn : Nat, (∀ (M : nM), Sf 3 ac M0 M → 1 < (nn : Int) → nW xs (e + 6) 105 20 [none, none, none, none, none] [] M (nPI fun z M1 => Sf 3 ac M0 M1 ∧ (-2147483648 ≤ z ∧ z ≤ 2147483647))) := by
  have hd : (3 : Int) = 2 ∨ (3 : Int) = 3 := by decide
  have hac := hS.2.2.2.2
  intro nn
  induction nn with
  | zero => intros; omega
  | succ nn ih =>
    intro M hS hnn
    refine n_iconst c_105_20 ?_
    exact n_rI c_105_21 rfl ⟨hS, by omega⟩
set_option maxHeartbeats 4000000 in
theorem madeOfL_3 {xs : List Int32} {e : Nat} {ac : Int} {M0 M : nM} {n i w : Int} (hS : Sf 3 ac M0 M) (hn : -2147483648 ≤ n ∧ n ≤ 0) (hi : -2147483648 ≤ i ∧ i ≤ 2147483647) (hw : -2147483648 ≤ w ∧ w ≤ 2147483647) : nW xs (e + 6) 105 0 [some (2, 3), some (0, n), some (0, i), some (0, w), none] [] M (nPI fun z M1 => Sf 3 ac M0 M1 ∧ (-2147483648 ≤ z ∧ z ≤ 2147483647)) := by
  have hd : (3 : Int) = 2 ∨ (3 : Int) = 3 := by decide
  have hac := hS.2.2.2.2
  refine n_aload_n c_105_0 rfl ?_
  refine n_getR c_105_1 sc_3.n rfl rfl rfl r_3_0 ?_
  refine n_iload_n c_105_4 rfl ?_
  refine n_v1I c_105_5 rfl sc_4.n rfl rfl rfl rfl (isMadeOf_3 (n := n) hS (by omega)) ?_
  intro z1 M2 hP3
  obtain ⟨eM, f3, f3p0⟩ := hP3
  subst eM
  refine n_if0_eq c_105_8 (by omega) ?_ ?_
  · intro h4
    refine n_fg (le_n (le_n (le_n (le_n (le_n le_0))))) ?_
    exact (madeOfL_3_c hS hn hi hw 12)  M hS  (by omega)
  · intro h5
    exfalso; omega

set_option maxHeartbeats 4000000 in
theorem madeOfH_3_c {xs : List Int32} {e : Nat} {ac : Int} {M0 M : nM} {n i w : Int} (hS : Sf 3 ac M0 M) (hn : 3 ≤ n ∧ n ≤ 2147483647) (hi : -2147483648 ≤ i ∧ i ≤ 2147483647) (hw : -2147483648 ≤ w ∧ w ≤ 2147483647) : ∀ nn : Nat, (∀ (M : nM), Sf 3 ac M0 M → 1 < (nn : Int) → nW xs (e + 6) 105 20 [none, none, none, none, none] [] M (nPI fun z M1 => Sf 3 ac M0 M1 ∧ (-2147483648 ≤ z ∧ z ≤ 2147483647))) := by
  have hd : (3 : Int) = 2 ∨ (3 : Int) = 3 := by decide
  have hac := hS.2.2.2.2
  intro nn
  induction nn with
  | zero => intros; omega
  | succ nn ih =>
    intro M hS hnn
    refine n_iconst c_105_20 ?_
    exact n_rI c_105_21 rfl ⟨hS, by omega⟩
set_option maxHeartbeats 4000000 in
theorem madeOfH_3 {xs : List Int32} {e : Nat} {ac : Int} {M0 M : nM} {n i w : Int} (hS : Sf 3 ac M0 M) (hn : 3 ≤ n ∧ n ≤ 2147483647) (hi : -2147483648 ≤ i ∧ i ≤ 2147483647) (hw : -2147483648 ≤ w ∧ w ≤ 2147483647) : nW xs (e + 6) 105 0 [some (2, 3), some (0, n), some (0, i), some (0, w), none] [] M (nPI fun z M1 => Sf 3 ac M0 M1 ∧ (-2147483648 ≤ z ∧ z ≤ 2147483647)) := by
  have hd : (3 : Int) = 2 ∨ (3 : Int) = 3 := by decide
  have hac := hS.2.2.2.2
  refine n_aload_n c_105_0 rfl ?_
  refine n_getR c_105_1 sc_3.n rfl rfl rfl r_3_0 ?_
  refine n_iload_n c_105_4 rfl ?_
  refine n_v1I c_105_5 rfl sc_4.n rfl rfl rfl rfl (isMadeOf_3 (n := n) hS (by omega)) ?_
  intro z1 M2 hP3
  obtain ⟨eM, f3, f3p0⟩ := hP3
  subst eM
  refine n_if0_eq c_105_8 (by omega) ?_ ?_
  · intro h4
    refine n_fg (le_n (le_n (le_n (le_n (le_n le_0))))) ?_
    exact (madeOfH_3_c hS hn hi hw 12)  M hS  (by omega)
  · intro h5
    exfalso; omega

set_option maxHeartbeats 4000000 in
theorem sizeL_3 {xs : List Int32} {e : Nat} {ac : Int} {M0 M : nM} {n c : Int} (hS : Sf 3 ac M0 M) (hn : -2147483648 ≤ n ∧ n ≤ 0) (hc : -2147483648 ≤ c ∧ c ≤ 2147483647) : nW xs (e + 6) 106 0 [some (2, 3), some (0, n), some (0, c), none] [] M (nPI fun z M1 => Sf 3 ac M0 M1 ∧ (-2147483648 ≤ z ∧ z ≤ 2147483647)) := by
  have hd : (3 : Int) = 2 ∨ (3 : Int) = 3 := by decide
  have hac := hS.2.2.2.2
  refine n_aload_n c_106_0 rfl ?_
  refine n_getR c_106_1 sc_3.n rfl rfl rfl r_3_0 ?_
  refine n_iload_n c_106_4 rfl ?_
  refine n_v1I c_106_5 rfl sc_4.n rfl rfl rfl rfl (isMadeOf_3 (n := n) hS (by omega)) ?_
  intro z1 M2 hP3
  obtain ⟨eM, f3, f3p0⟩ := hP3
  subst eM
  refine n_if0_ne c_106_8 (by omega) ?_ ?_
  · intro h4
    exfalso; omega
  · intro h5
    refine n_iconst c_106_11 ?_
    exact n_rI c_106_12 rfl ⟨hS, by omega⟩

set_option maxHeartbeats 4000000 in
theorem sizeH_3 {xs : List Int32} {e : Nat} {ac : Int} {M0 M : nM} {n c : Int} (hS : Sf 3 ac M0 M) (hn : 3 ≤ n ∧ n ≤ 2147483647) (hc : -2147483648 ≤ c ∧ c ≤ 2147483647) : nW xs (e + 6) 106 0 [some (2, 3), some (0, n), some (0, c), none] [] M (nPI fun z M1 => Sf 3 ac M0 M1 ∧ (-2147483648 ≤ z ∧ z ≤ 2147483647)) := by
  have hd : (3 : Int) = 2 ∨ (3 : Int) = 3 := by decide
  have hac := hS.2.2.2.2
  refine n_aload_n c_106_0 rfl ?_
  refine n_getR c_106_1 sc_3.n rfl rfl rfl r_3_0 ?_
  refine n_iload_n c_106_4 rfl ?_
  refine n_v1I c_106_5 rfl sc_4.n rfl rfl rfl rfl (isMadeOf_3 (n := n) hS (by omega)) ?_
  intro z1 M2 hP3
  obtain ⟨eM, f3, f3p0⟩ := hP3
  subst eM
  refine n_if0_ne c_106_8 (by omega) ?_ ?_
  · intro h4
    exfalso; omega
  · intro h5
    refine n_iconst c_106_11 ?_
    exact n_rI c_106_12 rfl ⟨hS, by omega⟩
