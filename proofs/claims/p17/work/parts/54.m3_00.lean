/-! The methods, by program. -/
set_option maxHeartbeats 4000000 in
theorem isAhead_3_c {xs : List Int32} {e : Nat} {ac : Int} {M0 M : nM} {i j : Int} (hS : Sf 3 ac M0 M) (hi : 0 ≤ i ∧ i ≤ 256) (hj : 0 ≤ j ∧ j ≤ 256) : ∀ nn : Nat, (2 < (nn : Int) → nW xs e 58 45 [none, none, none] [] M (nPI fun z M1 => M = M1 ∧ (0 ≤ z ∧ z ≤ 1))) ∧ (1 < (nn : Int) → nW xs e 58 49 [none, none, none] [] M (nPI fun z M1 => M = M1 ∧ (0 ≤ z ∧ z ≤ 1))) := by
  have hd : (3 : Int) = 2 ∨ (3 : Int) = 3 := by decide
  have hac := hS.2.2.2.2
  intro nn
  induction nn with
  | zero => refine ⟨?_, ?_⟩ <;> (intros; omega)
  | succ nn ih =>
    refine ⟨?_, ?_⟩
    · intro hnn
      refine n_iconst c_58_45 (n_goto c_58_46 ?_)
      exact n_rZ c_58_50 rfl (by omega) ⟨rfl, by omega⟩
    · intro hnn
      refine n_iconst c_58_49 ?_
      exact n_rZ c_58_50 rfl (by omega) ⟨rfl, by omega⟩
set_option maxHeartbeats 4000000 in
theorem isAhead_3 {xs : List Int32} {e : Nat} {ac : Int} {M0 M : nM} {i j : Int} (hS : Sf 3 ac M0 M) (hi : 0 ≤ i ∧ i ≤ 256) (hj : 0 ≤ j ∧ j ≤ 256) : nW xs e 58 0 [some (2, 15), some (0, i), some (0, j)] [] M (nPI fun z M1 => M = M1 ∧ (0 ≤ z ∧ z ≤ 1)) := by
  have hd : (3 : Int) = 2 ∨ (3 : Int) = 3 := by decide
  have hac := hS.2.2.2.2
  refine n_aload_n c_58_0 rfl (n_getR c_58_1 sc_15.n rfl rfl rfl r_15_2 (n_iload_n c_58_4 rfl (n_ialoadV c_58_5 sc_21.n rfl rfl rfl (by omega) (t_21 hS (by omega)) ?_)))
  intro z1 ez1 f2
  refine n_aload_n c_58_6 rfl (n_getR c_58_7 sc_15.n rfl rfl rfl r_15_2 (n_iload_n c_58_10 rfl (n_ialoadV c_58_11 sc_21.n rfl rfl rfl (by omega) (t_21 hS (by omega)) ?_)))
  intro z3 ez3 f4
  refine n_if2_lt c_58_12 (by omega) (by omega) ?_ ?_
  · intro h5
    refine n_fg (le_n (le_n (le_n le_0))) ?_
    exact (isAhead_3_c hS hi hj 14).1   (by omega)
  · intro h6
    refine n_aload_n c_58_15 rfl (n_getR c_58_16 sc_15.n rfl rfl rfl r_15_2 (n_iload_n c_58_19 rfl (n_ialoadV c_58_20 sc_21.n rfl rfl rfl (by omega) (t_21 hS (by omega)) ?_)))
    intro z7 ez7 f8
    refine n_aload_n c_58_21 rfl (n_getR c_58_22 sc_15.n rfl rfl rfl r_15_2 (n_iload_n c_58_25 rfl (n_ialoadV c_58_26 sc_21.n rfl rfl rfl (by omega) (t_21 hS (by omega)) ?_)))
    intro z9 ez9 f10
    refine n_if2_ne c_58_27 (by omega) (by omega) ?_ ?_
    · intro h11
      refine n_fg (le_n (le_n (le_n le_0))) ?_
      exact (isAhead_3_c hS hi hj 14).2   (by omega)
    · intro h12
      refine n_aload_n c_58_30 rfl (n_getR c_58_31 sc_15.n rfl rfl rfl r_15_1 (n_iload_n c_58_34 rfl (n_ialoadV c_58_35 sc_20.n rfl rfl rfl (by omega) (t_20 hS (by omega)) ?_)))
      intro z13 ez13 f14
      refine n_aload_n c_58_36 rfl (n_getR c_58_37 sc_15.n rfl rfl rfl r_15_1 (n_iload_n c_58_40 rfl (n_ialoadV c_58_41 sc_20.n rfl rfl rfl (by omega) (t_20 hS (by omega)) ?_)))
      intro z15 ez15 f16
      refine n_if2_ge c_58_42 (by omega) (by omega) ?_ ?_
      · intro h17
        refine n_fg (le_n (le_n (le_n le_0))) ?_
        exact (isAhead_3_c hS hi hj 14).2   (by omega)
      · intro h18
        refine n_fg (le_n (le_n (le_n le_0))) ?_
        exact (isAhead_3_c hS hi hj 14).1   (by omega)

set_option maxHeartbeats 4000000 in
theorem largestSize_3_c {xs : List Int32} {e : Nat} {ac : Int} {M0 M : nM} {f : Int} (hS : Sf 3 ac M0 M) (hf : 0 ≤ f ∧ f ≤ 256) : ∀ nn : Nat, (∀ (x2 x3 : Int), (0 ≤ x2 ∧ x2 ≤ 2147483647) → (0 ≤ x3 ∧ x3 ≤ 257) → (257 - x3) * 1 + 1 < (nn : Int) → nW xs (e + 1) 59 4 [some (2, 15), none, some (0, x2), some (0, x3)] [] M (nPI fun z M1 => M = M1 ∧ (-2147483648 ≤ z ∧ z ≤ 2147483647))) := by
  have hd : (3 : Int) = 2 ∨ (3 : Int) = 3 := by decide
  have hac := hS.2.2.2.2
  intro nn
  induction nn with
  | zero => intros; omega
  | succ nn ih =>
    intro x2 x3 k2 k3 hnn
    refine n_iload_n c_59_4 rfl (n_aload_n c_59_5 rfl (n_getV (bi := 10) c_59_6 sc_15.n rfl rfl rfl (t_15_10 hS) ?_))
    intro z1 ez1 f2
    refine n_if2_ge c_59_9 (by omega) (by omega) ?_ ?_
    · intro h3
      refine n_iload_n c_59_29 rfl ?_
      exact n_rI c_59_30 rfl ⟨rfl, by omega⟩
    · intro h4
      refine n_iload_n c_59_12 rfl (n_aload_n c_59_13 rfl (n_getR c_59_14 sc_15.n rfl rfl rfl r_15_2 (n_iload_n c_59_17 rfl (n_ialoadV c_59_18 sc_21.n rfl rfl rfl (by omega) (t_21 hS (by omega)) ?_))))
      intro z5 ez5 f6
      refine n_s2I c_59_19 rfl rfl rfl rfl (imax_3 (x := x2) (y := z5) hS (by omega) (by omega)) ?_
      intro z7 M8 hP9
      obtain ⟨eM, f9, f9p0⟩ := hP9
      subst eM
      refine n_istore_n (L2 := [some (2, 15), none, some (0, z7), some (0, x3)]) c_59_22 rfl rfl (n_iinc (L2 := [some (2, 15), none, some (0, z7), some (0, (x3 + 1))]) c_59_23 rfl rfl rfl (n_goto c_59_26 (n_fg (le_s (le_n (le_s (le_s le_0)))) ?_)))
      exact ih _ _ (by omega) (by omega) (by omega)
set_option maxHeartbeats 4000000 in
theorem largestSize_3 {xs : List Int32} {e : Nat} {ac : Int} {M0 M : nM} {f : Int} (hS : Sf 3 ac M0 M) (hf : 0 ≤ f ∧ f ≤ 256) : nW xs (e + 1) 59 0 [some (2, 15), some (0, f), none, none] [] M (nPI fun z M1 => M = M1 ∧ (-2147483648 ≤ z ∧ z ≤ 2147483647)) := by
  have hd : (3 : Int) = 2 ∨ (3 : Int) = 3 := by decide
  have hac := hS.2.2.2.2
  refine n_iconst c_59_0 (n_istore_n (L2 := [some (2, 15), some (0, f), some (0, 0), none]) c_59_1 rfl rfl (n_iload_n c_59_2 rfl (n_istore_n (L2 := [some (2, 15), some (0, f), some (0, 0), some (0, f)]) c_59_3 rfl rfl (n_fg (le_s (le_n (le_s (le_s le_0)))) ?_))))
  exact (largestSize_3_c hS hf 528) _ _ (by omega) (by omega) (by omega)

set_option maxHeartbeats 4000000 in
theorem fillR25_3_c {xs : List Int32} {e : Nat} {ac : Int} {M0 M : nM} {Ms : nM} (hS : Sf 3 ac M0 M) (hf : ∀ a i : Int, a ≠ 26 → M a i = Ms a i) : ∀ nn : Nat, (∀ (x2 x3 : Int) (M : nM), Sf 3 ac M0 M → (0 ≤ x2 ∧ x2 ≤ 27) → (27 ≤ x3 ∧ x3 ≤ 27) → (∀ a i : Int, a ≠ 26 → M a i = Ms a i) → (∀ i : Int, 0 ≤ i → i < x2 → M 26 i = 0) → (27 - x2) * 1 + 1 < (nn : Int) → nW xs e 208 5 [some (2, 26), some (0, 0), some (0, x2), some (0, x3)] [] M (nPV fun M1 => Sf 3 ac M0 M1 ∧ (∀ a i : Int, a ≠ 26 → M1 a i = Ms a i) ∧ (∀ i : Int, 0 ≤ i → i < 27 → M1 26 i = 0))) := by
  have hd : (3 : Int) = 2 ∨ (3 : Int) = 3 := by decide
  have hac := hS.2.2.2.2
  intro nn
  induction nn with
  | zero => intros; omega
  | succ nn ih =>
    intro x2 x3 M hS k2 k3 v0 v1 hnn
    refine n_iload_n c_208_5 rfl (n_iload_n c_208_6 rfl ?_)
    refine n_if2_ge c_208_7 (by omega) (by omega) ?_ ?_
    · intro h1
      exact n_rV c_208_20 rfl ⟨hS, by assumption, by exact fun i h0 h1 => v1 i h0 (by omega)⟩
    · intro h2
      refine n_aload_n c_208_10 rfl (n_iload_n c_208_11 rfl (n_iload_n c_208_12 rfl (n_iastoreV hS c_208_13 sc_26.n rfl (by omega) (w_26 (by omega) (by omega)) ?_)))
      intro M3 eM3 hS3
      refine n_iinc (L2 := [some (2, 26), some (0, 0), some (0, (x2 + 1)), some (0, x3)]) c_208_14 rfl rfl rfl (n_goto c_208_17 (n_fg (le_s (le_s (le_s (le_s le_0)))) ?_))
      exact ih _ _ M3 hS3 (by omega) (by omega) (by exact fun a i ha => by rw [eM3, nu_a ha]; exact v0 a i ha) (by exact fun i h0 h1 => by rw [eM3, nu_e]; split <;> first | exact v1 i h0 (by omega) | rfl) (by omega)
set_option maxHeartbeats 4000000 in
theorem fillR25_3 {xs : List Int32} {e : Nat} {ac : Int} {M0 M : nM} {Ms : nM} (hS : Sf 3 ac M0 M) (hf : ∀ a i : Int, a ≠ 26 → M a i = Ms a i) : nW xs e 208 0 [some (2, 26), some (0, 0), none, none] [] M (nPV fun M1 => Sf 3 ac M0 M1 ∧ (∀ a i : Int, a ≠ 26 → M1 a i = Ms a i) ∧ (∀ i : Int, 0 ≤ i → i < 27 → M1 26 i = 0)) := by
  have hd : (3 : Int) = 2 ∨ (3 : Int) = 3 := by decide
  have hac := hS.2.2.2.2
  refine n_iconst c_208_0 (n_istore_n (L2 := [some (2, 26), some (0, 0), some (0, 0), none]) c_208_1 rfl rfl (n_aload_n c_208_2 rfl (n_alen c_208_3 sc_26.n rfl (n_istore_n (L2 := [some (2, 26), some (0, 0), some (0, 0), some (0, ((27 : Nat) : Int))]) c_208_4 rfl rfl (n_fg (le_s (le_s (le_s (le_s le_0)))) ?_)))))
  exact (fillR25_3_c hS hf 68) _ _ M hS (by omega) (by omega) (by exact hf) (by exact fun i h0 h1 => by omega) (by omega)

set_option maxHeartbeats 4000000 in
theorem fillR27_3_c {xs : List Int32} {e : Nat} {ac : Int} {M0 M : nM} {Ms : nM} (hS : Sf 3 ac M0 M) (hf : ∀ a i : Int, a ≠ 28 → M a i = Ms a i) : ∀ nn : Nat, (∀ (x2 x3 : Int) (M : nM), Sf 3 ac M0 M → (0 ≤ x2 ∧ x2 ≤ 27) → (27 ≤ x3 ∧ x3 ≤ 27) → (∀ a i : Int, a ≠ 28 → M a i = Ms a i) → (∀ i : Int, 0 ≤ i → i < x2 → M 28 i = 0) → (27 - x2) * 1 + 1 < (nn : Int) → nW xs e 208 5 [some (2, 28), some (0, 0), some (0, x2), some (0, x3)] [] M (nPV fun M1 => Sf 3 ac M0 M1 ∧ (∀ a i : Int, a ≠ 28 → M1 a i = Ms a i) ∧ (∀ i : Int, 0 ≤ i → i < 27 → M1 28 i = 0))) := by
  have hd : (3 : Int) = 2 ∨ (3 : Int) = 3 := by decide
  have hac := hS.2.2.2.2
  intro nn
  induction nn with
  | zero => intros; omega
  | succ nn ih =>
    intro x2 x3 M hS k2 k3 v0 v1 hnn
    refine n_iload_n c_208_5 rfl (n_iload_n c_208_6 rfl ?_)
    refine n_if2_ge c_208_7 (by omega) (by omega) ?_ ?_
    · intro h1
      exact n_rV c_208_20 rfl ⟨hS, by assumption, by exact fun i h0 h1 => v1 i h0 (by omega)⟩
    · intro h2
      refine n_aload_n c_208_10 rfl (n_iload_n c_208_11 rfl (n_iload_n c_208_12 rfl (n_iastoreV hS c_208_13 sc_28.n rfl (by omega) (w_28 (by omega) (by omega)) ?_)))
      intro M3 eM3 hS3
      refine n_iinc (L2 := [some (2, 28), some (0, 0), some (0, (x2 + 1)), some (0, x3)]) c_208_14 rfl rfl rfl (n_goto c_208_17 (n_fg (le_s (le_s (le_s (le_s le_0)))) ?_))
      exact ih _ _ M3 hS3 (by omega) (by omega) (by exact fun a i ha => by rw [eM3, nu_a ha]; exact v0 a i ha) (by exact fun i h0 h1 => by rw [eM3, nu_e]; split <;> first | exact v1 i h0 (by omega) | rfl) (by omega)
set_option maxHeartbeats 4000000 in
theorem fillR27_3 {xs : List Int32} {e : Nat} {ac : Int} {M0 M : nM} {Ms : nM} (hS : Sf 3 ac M0 M) (hf : ∀ a i : Int, a ≠ 28 → M a i = Ms a i) : nW xs e 208 0 [some (2, 28), some (0, 0), none, none] [] M (nPV fun M1 => Sf 3 ac M0 M1 ∧ (∀ a i : Int, a ≠ 28 → M1 a i = Ms a i) ∧ (∀ i : Int, 0 ≤ i → i < 27 → M1 28 i = 0)) := by
  have hd : (3 : Int) = 2 ∨ (3 : Int) = 3 := by decide
  have hac := hS.2.2.2.2
  refine n_iconst c_208_0 (n_istore_n (L2 := [some (2, 28), some (0, 0), some (0, 0), none]) c_208_1 rfl rfl (n_aload_n c_208_2 rfl (n_alen c_208_3 sc_28.n rfl (n_istore_n (L2 := [some (2, 28), some (0, 0), some (0, 0), some (0, ((27 : Nat) : Int))]) c_208_4 rfl rfl (n_fg (le_s (le_s (le_s (le_s le_0)))) ?_)))))
  exact (fillR27_3_c hS hf 68) _ _ M hS (by omega) (by omega) (by exact hf) (by exact fun i h0 h1 => by omega) (by omega)

set_option maxHeartbeats 4000000 in
theorem fillR29_3_c {xs : List Int32} {e : Nat} {ac : Int} {M0 M : nM} {Ms : nM} (hS : Sf 3 ac M0 M) (hf : ∀ a i : Int, a ≠ 30 → M a i = Ms a i) : ∀ nn : Nat, (∀ (x2 x3 : Int) (M : nM), Sf 3 ac M0 M → (0 ≤ x2 ∧ x2 ≤ 27) → (27 ≤ x3 ∧ x3 ≤ 27) → (∀ a i : Int, a ≠ 30 → M a i = Ms a i) → (∀ i : Int, 0 ≤ i → i < x2 → M 30 i = 0) → (27 - x2) * 1 + 1 < (nn : Int) → nW xs e 208 5 [some (2, 30), some (0, 0), some (0, x2), some (0, x3)] [] M (nPV fun M1 => Sf 3 ac M0 M1 ∧ (∀ a i : Int, a ≠ 30 → M1 a i = Ms a i) ∧ (∀ i : Int, 0 ≤ i → i < 27 → M1 30 i = 0))) := by
  have hd : (3 : Int) = 2 ∨ (3 : Int) = 3 := by decide
  have hac := hS.2.2.2.2
  intro nn
  induction nn with
  | zero => intros; omega
  | succ nn ih =>
    intro x2 x3 M hS k2 k3 v0 v1 hnn
    refine n_iload_n c_208_5 rfl (n_iload_n c_208_6 rfl ?_)
    refine n_if2_ge c_208_7 (by omega) (by omega) ?_ ?_
    · intro h1
      exact n_rV c_208_20 rfl ⟨hS, by assumption, by exact fun i h0 h1 => v1 i h0 (by omega)⟩
    · intro h2
      refine n_aload_n c_208_10 rfl (n_iload_n c_208_11 rfl (n_iload_n c_208_12 rfl (n_iastoreV hS c_208_13 sc_30.n rfl (by omega) (w_30 (by omega) (by omega)) ?_)))
      intro M3 eM3 hS3
      refine n_iinc (L2 := [some (2, 30), some (0, 0), some (0, (x2 + 1)), some (0, x3)]) c_208_14 rfl rfl rfl (n_goto c_208_17 (n_fg (le_s (le_s (le_s (le_s le_0)))) ?_))
      exact ih _ _ M3 hS3 (by omega) (by omega) (by exact fun a i ha => by rw [eM3, nu_a ha]; exact v0 a i ha) (by exact fun i h0 h1 => by rw [eM3, nu_e]; split <;> first | exact v1 i h0 (by omega) | rfl) (by omega)
set_option maxHeartbeats 4000000 in
theorem fillR29_3 {xs : List Int32} {e : Nat} {ac : Int} {M0 M : nM} {Ms : nM} (hS : Sf 3 ac M0 M) (hf : ∀ a i : Int, a ≠ 30 → M a i = Ms a i) : nW xs e 208 0 [some (2, 30), some (0, 0), none, none] [] M (nPV fun M1 => Sf 3 ac M0 M1 ∧ (∀ a i : Int, a ≠ 30 → M1 a i = Ms a i) ∧ (∀ i : Int, 0 ≤ i → i < 27 → M1 30 i = 0)) := by
  have hd : (3 : Int) = 2 ∨ (3 : Int) = 3 := by decide
  have hac := hS.2.2.2.2
  refine n_iconst c_208_0 (n_istore_n (L2 := [some (2, 30), some (0, 0), some (0, 0), none]) c_208_1 rfl rfl (n_aload_n c_208_2 rfl (n_alen c_208_3 sc_30.n rfl (n_istore_n (L2 := [some (2, 30), some (0, 0), some (0, 0), some (0, ((27 : Nat) : Int))]) c_208_4 rfl rfl (n_fg (le_s (le_s (le_s (le_s le_0)))) ?_)))))
  exact (fillR29_3_c hS hf 68) _ _ M hS (by omega) (by omega) (by exact hf) (by exact fun i h0 h1 => by omega) (by omega)

set_option maxHeartbeats 4000000 in
theorem weight0_1_3 {xs : List Int32} {e : Nat} {ac : Int} {M0 M : nM} (hS : Sf 3 ac M0 M) (hB : M 15 0 = 4) : nW xs (e + 1) 52 0 [some (2, 15), some (0, 0), some (0, 3)] [] M (nPI fun z M1 => M = M1 ∧ (1 ≤ z ∧ z ≤ 1)) := by
  have hd : (3 : Int) = 2 ∨ (3 : Int) = 3 := by decide
  have hac := hS.2.2.2.2
  refine n_iload_n c_52_0 rfl (n_iload_n c_52_1 rfl ?_)
  refine n_if2_ge c_52_2 (by omega) (by omega) ?_ ?_
  · intro h1
    exfalso; omega
  · intro h2
    refine n_aload_n c_52_5 rfl (n_getB c_52_6 hB (n_iload_n c_52_9 rfl (n_v1I c_52_10 rfl sc_4.n rfl rfl rfl rfl (power0_3  hS ) ?_)))
    intro z3 M4 hP5
    obtain ⟨eM, f5⟩ := hP5
    subst eM
    obtain rfl : z3 = 1 := by omega
    refine n_goto c_52_13 ?_
    exact n_rI c_52_17 rfl ⟨rfl, by omega⟩

set_option maxHeartbeats 4000000 in
theorem weight1_1_3 {xs : List Int32} {e : Nat} {ac : Int} {M0 M : nM} (hS : Sf 3 ac M0 M) (hB : M 15 0 = 4) : nW xs (e + 1) 52 0 [some (2, 15), some (0, 1), some (0, 3)] [] M (nPI fun z M1 => M = M1 ∧ (3 ≤ z ∧ z ≤ 3)) := by
  have hd : (3 : Int) = 2 ∨ (3 : Int) = 3 := by decide
  have hac := hS.2.2.2.2
  refine n_iload_n c_52_0 rfl (n_iload_n c_52_1 rfl ?_)
  refine n_if2_ge c_52_2 (by omega) (by omega) ?_ ?_
  · intro h1
    exfalso; omega
  · intro h2
    refine n_aload_n c_52_5 rfl (n_getB c_52_6 hB (n_iload_n c_52_9 rfl (n_v1I c_52_10 rfl sc_4.n rfl rfl rfl rfl (power1_3  hS ) ?_)))
    intro z3 M4 hP5
    obtain ⟨eM, f5⟩ := hP5
    subst eM
    obtain rfl : z3 = 3 := by omega
    refine n_goto c_52_13 ?_
    exact n_rI c_52_17 rfl ⟨rfl, by omega⟩

set_option maxHeartbeats 4000000 in
theorem weight2_1_3 {xs : List Int32} {e : Nat} {ac : Int} {M0 M : nM} (hS : Sf 3 ac M0 M) (hB : M 15 0 = 4) : nW xs (e + 1) 52 0 [some (2, 15), some (0, 2), some (0, 3)] [] M (nPI fun z M1 => M = M1 ∧ (9 ≤ z ∧ z ≤ 9)) := by
  have hd : (3 : Int) = 2 ∨ (3 : Int) = 3 := by decide
  have hac := hS.2.2.2.2
  refine n_iload_n c_52_0 rfl (n_iload_n c_52_1 rfl ?_)
  refine n_if2_ge c_52_2 (by omega) (by omega) ?_ ?_
  · intro h1
    exfalso; omega
  · intro h2
    refine n_aload_n c_52_5 rfl (n_getB c_52_6 hB (n_iload_n c_52_9 rfl (n_v1I c_52_10 rfl sc_4.n rfl rfl rfl rfl (power2_3  hS ) ?_)))
    intro z3 M4 hP5
    obtain ⟨eM, f5⟩ := hP5
    subst eM
    obtain rfl : z3 = 9 := by omega
    refine n_goto c_52_13 ?_
    exact n_rI c_52_17 rfl ⟨rfl, by omega⟩

set_option maxHeartbeats 4000000 in
theorem weight3_1_3 {xs : List Int32} {e : Nat} {ac : Int} {M0 M : nM} (hS : Sf 3 ac M0 M) (hB : M 15 0 = 4) : nW xs (e + 1) 52 0 [some (2, 15), some (0, 3), some (0, 3)] [] M (nPI fun z M1 => M = M1 ∧ (0 ≤ z ∧ z ≤ 0)) := by
  have hd : (3 : Int) = 2 ∨ (3 : Int) = 3 := by decide
  have hac := hS.2.2.2.2
  refine n_iload_n c_52_0 rfl (n_iload_n c_52_1 rfl ?_)
  refine n_if2_ge c_52_2 (by omega) (by omega) ?_ ?_
  · intro h1
    refine n_iconst c_52_16 ?_
    exact n_rI c_52_17 rfl ⟨rfl, by omega⟩
  · intro h2
    exfalso; omega

set_option maxHeartbeats 4000000 in
theorem weight4_1_3 {xs : List Int32} {e : Nat} {ac : Int} {M0 M : nM} (hS : Sf 3 ac M0 M) (hB : M 15 0 = 4) : nW xs (e + 1) 52 0 [some (2, 15), some (0, 4), some (0, 3)] [] M (nPI fun z M1 => M = M1 ∧ (0 ≤ z ∧ z ≤ 0)) := by
  have hd : (3 : Int) = 2 ∨ (3 : Int) = 3 := by decide
  have hac := hS.2.2.2.2
  refine n_iload_n c_52_0 rfl (n_iload_n c_52_1 rfl ?_)
  refine n_if2_ge c_52_2 (by omega) (by omega) ?_ ?_
  · intro h1
    refine n_iconst c_52_16 ?_
    exact n_rI c_52_17 rfl ⟨rfl, by omega⟩
  · intro h2
    exfalso; omega

set_option maxHeartbeats 4000000 in
theorem weight5_1_3 {xs : List Int32} {e : Nat} {ac : Int} {M0 M : nM} (hS : Sf 3 ac M0 M) (hB : M 15 0 = 4) : nW xs (e + 1) 52 0 [some (2, 15), some (0, 5), some (0, 3)] [] M (nPI fun z M1 => M = M1 ∧ (0 ≤ z ∧ z ≤ 0)) := by
  have hd : (3 : Int) = 2 ∨ (3 : Int) = 3 := by decide
  have hac := hS.2.2.2.2
  refine n_iload_n c_52_0 rfl (n_iload_n c_52_1 rfl ?_)
  refine n_if2_ge c_52_2 (by omega) (by omega) ?_ ?_
  · intro h1
    refine n_iconst c_52_16 ?_
    exact n_rI c_52_17 rfl ⟨rfl, by omega⟩
  · intro h2
    exfalso; omega

set_option maxHeartbeats 4000000 in
theorem weight6_1_3 {xs : List Int32} {e : Nat} {ac : Int} {M0 M : nM} (hS : Sf 3 ac M0 M) (hB : M 15 0 = 4) : nW xs (e + 1) 52 0 [some (2, 15), some (0, 6), some (0, 3)] [] M (nPI fun z M1 => M = M1 ∧ (0 ≤ z ∧ z ≤ 0)) := by
  have hd : (3 : Int) = 2 ∨ (3 : Int) = 3 := by decide
  have hac := hS.2.2.2.2
  refine n_iload_n c_52_0 rfl (n_iload_n c_52_1 rfl ?_)
  refine n_if2_ge c_52_2 (by omega) (by omega) ?_ ?_
  · intro h1
    refine n_iconst c_52_16 ?_
    exact n_rI c_52_17 rfl ⟨rfl, by omega⟩
  · intro h2
    exfalso; omega

set_option maxHeartbeats 4000000 in
theorem weight7_1_3 {xs : List Int32} {e : Nat} {ac : Int} {M0 M : nM} (hS : Sf 3 ac M0 M) (hB : M 15 0 = 4) : nW xs (e + 1) 52 0 [some (2, 15), some (0, 7), some (0, 3)] [] M (nPI fun z M1 => M = M1 ∧ (0 ≤ z ∧ z ≤ 0)) := by
  have hd : (3 : Int) = 2 ∨ (3 : Int) = 3 := by decide
  have hac := hS.2.2.2.2
  refine n_iload_n c_52_0 rfl (n_iload_n c_52_1 rfl ?_)
  refine n_if2_ge c_52_2 (by omega) (by omega) ?_ ?_
  · intro h1
    refine n_iconst c_52_16 ?_
    exact n_rI c_52_17 rfl ⟨rfl, by omega⟩
  · intro h2
    exfalso; omega

set_option maxHeartbeats 4000000 in
theorem weight8_1_3 {xs : List Int32} {e : Nat} {ac : Int} {M0 M : nM} (hS : Sf 3 ac M0 M) (hB : M 15 0 = 4) : nW xs (e + 1) 52 0 [some (2, 15), some (0, 8), some (0, 3)] [] M (nPI fun z M1 => M = M1 ∧ (0 ≤ z ∧ z ≤ 0)) := by
  have hd : (3 : Int) = 2 ∨ (3 : Int) = 3 := by decide
  have hac := hS.2.2.2.2
  refine n_iload_n c_52_0 rfl (n_iload_n c_52_1 rfl ?_)
  refine n_if2_ge c_52_2 (by omega) (by omega) ?_ ?_
  · intro h1
    refine n_iconst c_52_16 ?_
    exact n_rI c_52_17 rfl ⟨rfl, by omega⟩
  · intro h2
    exfalso; omega

set_option maxHeartbeats 4000000 in
theorem weigh25_1_3 {xs : List Int32} {e : Nat} {ac : Int} {M0 M : nM} {Ms : nM} (hS : Sf 3 ac M0 M) (hf : ∀ a i : Int, a ≠ 25 → a ≠ 26 → M a i = Ms a i) : nW xs (e + 1) 44 0 [some (2, 25), some (0, 1), some (0, 3), some (0, 9)] [] M (nPV fun M1 => Sf 3 ac M0 M1 ∧ (∀ a i : Int, a ≠ 25 → a ≠ 26 → M1 a i = Ms a i) ∧ (LK 25 26 1 3 9 M1)) := by
  have hd : (3 : Int) = 2 ∨ (3 : Int) = 3 := by decide
  have hac := hS.2.2.2.2
  refine n_aload_n c_44_0 rfl (n_iload_n c_44_1 rfl (n_putV (bi := 1) hS c_44_2 sc_25.n rfl rfl rfl rfl (w_25_1 (by omega)) ?_))
  intro M1 eM1 hS1
  have g1_0 : M1 25 1 = 1 := by rw [eM1]; exact nu_s _ _ _ _
  refine n_aload_n c_44_5 rfl (n_iload_n c_44_6 rfl (n_putV (bi := 2) hS1 c_44_7 sc_25.n rfl rfl rfl rfl (w_25_2 (by omega)) ?_))
  intro M2 eM2 hS2
  have g2_0 : M2 25 1 = M1 25 1 := by rw [eM2]; exact nu_i (by omega)
  have g2_1 : M2 25 2 = 3 := by rw [eM2]; exact nu_s _ _ _ _
  refine n_aload_n c_44_10 rfl (n_iload_n c_44_11 rfl (n_putV (bi := 3) hS2 c_44_12 sc_25.n rfl rfl rfl rfl (w_25_3 (by omega)) ?_))
  intro M3 eM3 hS3
  have g3_0 : M3 25 1 = M2 25 1 := by rw [eM3]; exact nu_i (by omega)
  have g3_1 : M3 25 2 = M2 25 2 := by rw [eM3]; exact nu_i (by omega)
  have g3_2 : M3 25 3 = 9 := by rw [eM3]; exact nu_s _ _ _ _
  refine n_aload_n c_44_15 rfl (n_getR c_44_16 sc_25.n rfl rfl rfl r_25_0 (n_iconst c_44_19 (n_s2V c_44_20 rfl rfl rfl rfl (fillR25_3 (Ms := M3) hS3 (by exact fun _ _ _ => rfl)) ?_)))
  intro  M4 hP5
  obtain ⟨hS4, f5p0, f5p1⟩ := hP5
  exact n_rV c_44_23 rfl ⟨hS4, by exact fun a i h1 h2 => by rw [f5p0 a i h2]; simp only [eM3, eM2, eM1]; rw [nu_a h1, nu_a h1, nu_a h1]; exact hf a i h1 h2, by exact ⟨(by rw [f5p0 25 1 (by omega)]; simp only [eM3, eM2, eM1]; rw [nu_i (by omega), nu_i (by omega), nu_s]), (by rw [f5p0 25 2 (by omega)]; simp only [eM3, eM2, eM1]; rw [nu_i (by omega), nu_s]), (by rw [f5p0 25 3 (by omega)]; simp only [eM3, eM2, eM1]; rw [nu_s]), f5p1⟩⟩

set_option maxHeartbeats 4000000 in
theorem weighFrom25_1_3 {xs : List Int32} {e : Nat} {ac : Int} {M0 M : nM} {Ms : nM} (hS : Sf 3 ac M0 M) (hB : M 15 0 = 4) : nW xs (e + 2) 51 0 [some (2, 15), some (2, 25), some (0, 0), some (0, 3)] [] M (nPV fun M1 => Sf 3 ac M0 M1 ∧ (∀ a i : Int, a ≠ 25 → a ≠ 26 → M1 a i = M a i) ∧ (LK 25 26 1 3 9 M1)) := by
  have hd : (3 : Int) = 2 ∨ (3 : Int) = 3 := by decide
  have hac := hS.2.2.2.2
  refine n_aload_n c_51_0 rfl (n_aload_n c_51_1 rfl (n_iload_n c_51_2 rfl (n_iload_n c_51_3 rfl (n_v2I c_51_4 rfl sc_15.n rfl rfl rfl rfl (weight0_1_3  hS (by exact hB)) ?_))))
  intro z1 M2 hP3
  obtain ⟨eM, f3⟩ := hP3
  subst eM
  obtain rfl : z1 = 1 := by omega
  refine n_aload_n c_51_7 rfl (n_iload_n c_51_8 rfl (n_iconst c_51_9 (n_iadd c_51_10 rfl (n_iload_n c_51_11 rfl ?_))))
  have hcst : ((0 + 1) : Int) = 1 := by omega
  rw [hcst]
  refine n_v2I c_51_12 rfl sc_15.n rfl rfl rfl rfl (weight1_1_3  hS (by exact hB)) ?_
  intro z4 M5 hP6
  obtain ⟨eM, f6⟩ := hP6
  subst eM
  obtain rfl : z4 = 3 := by omega
  refine n_aload_n c_51_15 rfl (n_iload_n c_51_16 rfl (n_iconst c_51_17 (n_iadd c_51_18 rfl (n_iload_n c_51_19 rfl ?_))))
  have hcst : ((0 + 2) : Int) = 2 := by omega
  rw [hcst]
  refine n_v2I c_51_20 rfl sc_15.n rfl rfl rfl rfl (weight2_1_3  hS (by exact hB)) ?_
  intro z7 M8 hP9
  obtain ⟨eM, f9⟩ := hP9
  subst eM
  obtain rfl : z7 = 9 := by omega
  refine n_v3V c_51_23 rfl sc_25.n rfl rfl rfl rfl (weigh25_1_3 (Ms := M) hS (by exact fun _ _ _ _ => rfl)) ?_
  intro  M10 hP11
  obtain ⟨hS10, f11p0, f11p1⟩ := hP11
  exact n_rV c_51_26 rfl ⟨hS10, by exact f11p0, by exact f11p1⟩

set_option maxHeartbeats 4000000 in
theorem weigh27_1_3 {xs : List Int32} {e : Nat} {ac : Int} {M0 M : nM} {Ms : nM} (hS : Sf 3 ac M0 M) (hf : ∀ a i : Int, a ≠ 27 → a ≠ 28 → M a i = Ms a i) : nW xs (e + 1) 44 0 [some (2, 27), some (0, 0), some (0, 0), some (0, 0)] [] M (nPV fun M1 => Sf 3 ac M0 M1 ∧ (∀ a i : Int, a ≠ 27 → a ≠ 28 → M1 a i = Ms a i) ∧ (LK 27 28 0 0 0 M1)) := by
  have hd : (3 : Int) = 2 ∨ (3 : Int) = 3 := by decide
  have hac := hS.2.2.2.2
  refine n_aload_n c_44_0 rfl (n_iload_n c_44_1 rfl (n_putV (bi := 1) hS c_44_2 sc_27.n rfl rfl rfl rfl (w_27_1 (by omega)) ?_))
  intro M1 eM1 hS1
  have g1_0 : M1 27 1 = 0 := by rw [eM1]; exact nu_s _ _ _ _
  refine n_aload_n c_44_5 rfl (n_iload_n c_44_6 rfl (n_putV (bi := 2) hS1 c_44_7 sc_27.n rfl rfl rfl rfl (w_27_2 (by omega)) ?_))
  intro M2 eM2 hS2
  have g2_0 : M2 27 1 = M1 27 1 := by rw [eM2]; exact nu_i (by omega)
  have g2_1 : M2 27 2 = 0 := by rw [eM2]; exact nu_s _ _ _ _
  refine n_aload_n c_44_10 rfl (n_iload_n c_44_11 rfl (n_putV (bi := 3) hS2 c_44_12 sc_27.n rfl rfl rfl rfl (w_27_3 (by omega)) ?_))
  intro M3 eM3 hS3
  have g3_0 : M3 27 1 = M2 27 1 := by rw [eM3]; exact nu_i (by omega)
  have g3_1 : M3 27 2 = M2 27 2 := by rw [eM3]; exact nu_i (by omega)
  have g3_2 : M3 27 3 = 0 := by rw [eM3]; exact nu_s _ _ _ _
  refine n_aload_n c_44_15 rfl (n_getR c_44_16 sc_27.n rfl rfl rfl r_27_0 (n_iconst c_44_19 (n_s2V c_44_20 rfl rfl rfl rfl (fillR27_3 (Ms := M3) hS3 (by exact fun _ _ _ => rfl)) ?_)))
  intro  M4 hP5
  obtain ⟨hS4, f5p0, f5p1⟩ := hP5
  exact n_rV c_44_23 rfl ⟨hS4, by exact fun a i h1 h2 => by rw [f5p0 a i h2]; simp only [eM3, eM2, eM1]; rw [nu_a h1, nu_a h1, nu_a h1]; exact hf a i h1 h2, by exact ⟨(by rw [f5p0 27 1 (by omega)]; simp only [eM3, eM2, eM1]; rw [nu_i (by omega), nu_i (by omega), nu_s]), (by rw [f5p0 27 2 (by omega)]; simp only [eM3, eM2, eM1]; rw [nu_i (by omega), nu_s]), (by rw [f5p0 27 3 (by omega)]; simp only [eM3, eM2, eM1]; rw [nu_s]), f5p1⟩⟩

set_option maxHeartbeats 4000000 in
theorem weighFrom27_1_3 {xs : List Int32} {e : Nat} {ac : Int} {M0 M : nM} {Ms : nM} (hS : Sf 3 ac M0 M) (hB : M 15 0 = 4) : nW xs (e + 2) 51 0 [some (2, 15), some (2, 27), some (0, 3), some (0, 3)] [] M (nPV fun M1 => Sf 3 ac M0 M1 ∧ (∀ a i : Int, a ≠ 27 → a ≠ 28 → M1 a i = M a i) ∧ (LK 27 28 0 0 0 M1)) := by
  have hd : (3 : Int) = 2 ∨ (3 : Int) = 3 := by decide
  have hac := hS.2.2.2.2
  refine n_aload_n c_51_0 rfl (n_aload_n c_51_1 rfl (n_iload_n c_51_2 rfl (n_iload_n c_51_3 rfl (n_v2I c_51_4 rfl sc_15.n rfl rfl rfl rfl (weight3_1_3  hS (by exact hB)) ?_))))
  intro z1 M2 hP3
  obtain ⟨eM, f3⟩ := hP3
  subst eM
  obtain rfl : z1 = 0 := by omega
  refine n_aload_n c_51_7 rfl (n_iload_n c_51_8 rfl (n_iconst c_51_9 (n_iadd c_51_10 rfl (n_iload_n c_51_11 rfl ?_))))
  have hcst : ((3 + 1) : Int) = 4 := by omega
  rw [hcst]
  refine n_v2I c_51_12 rfl sc_15.n rfl rfl rfl rfl (weight4_1_3  hS (by exact hB)) ?_
  intro z4 M5 hP6
  obtain ⟨eM, f6⟩ := hP6
  subst eM
  obtain rfl : z4 = 0 := by omega
  refine n_aload_n c_51_15 rfl (n_iload_n c_51_16 rfl (n_iconst c_51_17 (n_iadd c_51_18 rfl (n_iload_n c_51_19 rfl ?_))))
  have hcst : ((3 + 2) : Int) = 5 := by omega
  rw [hcst]
  refine n_v2I c_51_20 rfl sc_15.n rfl rfl rfl rfl (weight5_1_3  hS (by exact hB)) ?_
  intro z7 M8 hP9
  obtain ⟨eM, f9⟩ := hP9
  subst eM
  obtain rfl : z7 = 0 := by omega
  refine n_v3V c_51_23 rfl sc_27.n rfl rfl rfl rfl (weigh27_1_3 (Ms := M) hS (by exact fun _ _ _ _ => rfl)) ?_
  intro  M10 hP11
  obtain ⟨hS10, f11p0, f11p1⟩ := hP11
  exact n_rV c_51_26 rfl ⟨hS10, by exact f11p0, by exact f11p1⟩

set_option maxHeartbeats 4000000 in
theorem weigh29_1_3 {xs : List Int32} {e : Nat} {ac : Int} {M0 M : nM} {Ms : nM} (hS : Sf 3 ac M0 M) (hf : ∀ a i : Int, a ≠ 29 → a ≠ 30 → M a i = Ms a i) : nW xs (e + 1) 44 0 [some (2, 29), some (0, 0), some (0, 0), some (0, 0)] [] M (nPV fun M1 => Sf 3 ac M0 M1 ∧ (∀ a i : Int, a ≠ 29 → a ≠ 30 → M1 a i = Ms a i) ∧ (LK 29 30 0 0 0 M1)) := by
  have hd : (3 : Int) = 2 ∨ (3 : Int) = 3 := by decide
  have hac := hS.2.2.2.2
  refine n_aload_n c_44_0 rfl (n_iload_n c_44_1 rfl (n_putV (bi := 1) hS c_44_2 sc_29.n rfl rfl rfl rfl (w_29_1 (by omega)) ?_))
  intro M1 eM1 hS1
  have g1_0 : M1 29 1 = 0 := by rw [eM1]; exact nu_s _ _ _ _
  refine n_aload_n c_44_5 rfl (n_iload_n c_44_6 rfl (n_putV (bi := 2) hS1 c_44_7 sc_29.n rfl rfl rfl rfl (w_29_2 (by omega)) ?_))
  intro M2 eM2 hS2
  have g2_0 : M2 29 1 = M1 29 1 := by rw [eM2]; exact nu_i (by omega)
  have g2_1 : M2 29 2 = 0 := by rw [eM2]; exact nu_s _ _ _ _
  refine n_aload_n c_44_10 rfl (n_iload_n c_44_11 rfl (n_putV (bi := 3) hS2 c_44_12 sc_29.n rfl rfl rfl rfl (w_29_3 (by omega)) ?_))
  intro M3 eM3 hS3
  have g3_0 : M3 29 1 = M2 29 1 := by rw [eM3]; exact nu_i (by omega)
  have g3_1 : M3 29 2 = M2 29 2 := by rw [eM3]; exact nu_i (by omega)
  have g3_2 : M3 29 3 = 0 := by rw [eM3]; exact nu_s _ _ _ _
  refine n_aload_n c_44_15 rfl (n_getR c_44_16 sc_29.n rfl rfl rfl r_29_0 (n_iconst c_44_19 (n_s2V c_44_20 rfl rfl rfl rfl (fillR29_3 (Ms := M3) hS3 (by exact fun _ _ _ => rfl)) ?_)))
  intro  M4 hP5
  obtain ⟨hS4, f5p0, f5p1⟩ := hP5
  exact n_rV c_44_23 rfl ⟨hS4, by exact fun a i h1 h2 => by rw [f5p0 a i h2]; simp only [eM3, eM2, eM1]; rw [nu_a h1, nu_a h1, nu_a h1]; exact hf a i h1 h2, by exact ⟨(by rw [f5p0 29 1 (by omega)]; simp only [eM3, eM2, eM1]; rw [nu_i (by omega), nu_i (by omega), nu_s]), (by rw [f5p0 29 2 (by omega)]; simp only [eM3, eM2, eM1]; rw [nu_i (by omega), nu_s]), (by rw [f5p0 29 3 (by omega)]; simp only [eM3, eM2, eM1]; rw [nu_s]), f5p1⟩⟩

set_option maxHeartbeats 4000000 in
theorem weighFrom29_1_3 {xs : List Int32} {e : Nat} {ac : Int} {M0 M : nM} {Ms : nM} (hS : Sf 3 ac M0 M) (hB : M 15 0 = 4) : nW xs (e + 2) 51 0 [some (2, 15), some (2, 29), some (0, 6), some (0, 3)] [] M (nPV fun M1 => Sf 3 ac M0 M1 ∧ (∀ a i : Int, a ≠ 29 → a ≠ 30 → M1 a i = M a i) ∧ (LK 29 30 0 0 0 M1)) := by
  have hd : (3 : Int) = 2 ∨ (3 : Int) = 3 := by decide
  have hac := hS.2.2.2.2
  refine n_aload_n c_51_0 rfl (n_aload_n c_51_1 rfl (n_iload_n c_51_2 rfl (n_iload_n c_51_3 rfl (n_v2I c_51_4 rfl sc_15.n rfl rfl rfl rfl (weight6_1_3  hS (by exact hB)) ?_))))
  intro z1 M2 hP3
  obtain ⟨eM, f3⟩ := hP3
  subst eM
  obtain rfl : z1 = 0 := by omega
  refine n_aload_n c_51_7 rfl (n_iload_n c_51_8 rfl (n_iconst c_51_9 (n_iadd c_51_10 rfl (n_iload_n c_51_11 rfl ?_))))
  have hcst : ((6 + 1) : Int) = 7 := by omega
  rw [hcst]
  refine n_v2I c_51_12 rfl sc_15.n rfl rfl rfl rfl (weight7_1_3  hS (by exact hB)) ?_
  intro z4 M5 hP6
  obtain ⟨eM, f6⟩ := hP6
  subst eM
  obtain rfl : z4 = 0 := by omega
  refine n_aload_n c_51_15 rfl (n_iload_n c_51_16 rfl (n_iconst c_51_17 (n_iadd c_51_18 rfl (n_iload_n c_51_19 rfl ?_))))
  have hcst : ((6 + 2) : Int) = 8 := by omega
  rw [hcst]
  refine n_v2I c_51_20 rfl sc_15.n rfl rfl rfl rfl (weight8_1_3  hS (by exact hB)) ?_
  intro z7 M8 hP9
  obtain ⟨eM, f9⟩ := hP9
  subst eM
  obtain rfl : z7 = 0 := by omega
  refine n_v3V c_51_23 rfl sc_29.n rfl rfl rfl rfl (weigh29_1_3 (Ms := M) hS (by exact fun _ _ _ _ => rfl)) ?_
  intro  M10 hP11
  obtain ⟨hS10, f11p0, f11p1⟩ := hP11
  exact n_rV c_51_26 rfl ⟨hS10, by exact f11p0, by exact f11p1⟩

set_option maxHeartbeats 4000000 in
theorem codeOf5_1_3 {xs : List Int32} {e : Nat} {ac : Int} {M0 M : nM} (hS : Sf 3 ac M0 M) (hB : M 15 0 = 4) : nW xs e 53 0 [some (2, 15), some (2, 5), some (0, 3), none, none] [] M (nPI fun z M1 => M = M1 ∧ (0 ≤ z ∧ z ≤ 26)) := by
  have hd : (3 : Int) = 2 ∨ (3 : Int) = 3 := by decide
  have hac := hS.2.2.2.2
  refine n_iconst c_53_0 (n_istore_n (L2 := [some (2, 15), some (2, 5), some (0, 3), some (0, 0), none]) c_53_1 rfl rfl (n_iload_n c_53_2 rfl (n_iconst c_53_3 (n_isub c_53_4 rfl (n_istore (L2 := [some (2, 15), some (2, 5), some (0, 3), some (0, 0), some (0, (3 - 1))]) c_53_5 rfl rfl (n_iload c_53_7 rfl ?_))))))
  refine n_if0_lt c_53_9 (by omega) ?_ ?_
  · intro h1
    exfalso; omega
  · intro h2
    refine n_iload_n c_53_12 rfl (n_aload_n c_53_13 rfl (n_getB c_53_14 hB (n_getV (bi := 0) c_53_17 sc_4.n rfl rfl rfl (t_4_0 hS) ?_)))
    intro z3 ez3 f4
    obtain rfl : z3 = 3 := by omega
    refine n_imul c_53_20 rfl (n_aload_n c_53_21 rfl (n_iload c_53_22 rfl (n_ialoadV c_53_24 sc_5.n rfl rfl rfl (by omega) (t_5k (z := 0) hS (by omega) (by omega) (by omega)) ?_)))
    intro z5 ez5 f6
    refine n_iadd c_53_25 rfl (n_istore_n (L2 := [some (2, 15), some (2, 5), some (0, 3), some (0, ((0 * 3) + z5)), some (0, (3 - 1))]) c_53_26 rfl rfl (n_iinc (L2 := [some (2, 15), some (2, 5), some (0, 3), some (0, ((0 * 3) + z5)), some (0, ((3 - 1) + (-1)))]) c_53_27 rfl rfl rfl (n_goto c_53_30 (n_iload c_53_7 rfl ?_))))
    refine n_if0_lt c_53_9 (by omega) ?_ ?_
    · intro h7
      exfalso; omega
    · intro h8
      refine n_iload_n c_53_12 rfl (n_aload_n c_53_13 rfl (n_getB c_53_14 hB (n_getV (bi := 0) c_53_17 sc_4.n rfl rfl rfl (t_4_0 hS) ?_)))
      intro z9 ez9 f10
      obtain rfl : z9 = 3 := by omega
      refine n_imul c_53_20 rfl (n_aload_n c_53_21 rfl (n_iload c_53_22 rfl (n_ialoadV c_53_24 sc_5.n rfl rfl rfl (by omega) (t_5k (z := 0) hS (by omega) (by omega) (by omega)) ?_)))
      intro z11 ez11 f12
      refine n_iadd c_53_25 rfl (n_istore_n (L2 := [some (2, 15), some (2, 5), some (0, 3), some (0, ((((0 * 3) + z5) * 3) + z11)), some (0, ((3 - 1) + (-1)))]) c_53_26 rfl rfl (n_iinc (L2 := [some (2, 15), some (2, 5), some (0, 3), some (0, ((((0 * 3) + z5) * 3) + z11)), some (0, (((3 - 1) + (-1)) + (-1)))]) c_53_27 rfl rfl rfl (n_goto c_53_30 (n_iload c_53_7 rfl ?_))))
      refine n_if0_lt c_53_9 (by omega) ?_ ?_
      · intro h13
        exfalso; omega
      · intro h14
        refine n_iload_n c_53_12 rfl (n_aload_n c_53_13 rfl (n_getB c_53_14 hB (n_getV (bi := 0) c_53_17 sc_4.n rfl rfl rfl (t_4_0 hS) ?_)))
        intro z15 ez15 f16
        obtain rfl : z15 = 3 := by omega
        refine n_imul c_53_20 rfl (n_aload_n c_53_21 rfl (n_iload c_53_22 rfl (n_ialoadV c_53_24 sc_5.n rfl rfl rfl (by omega) (t_5k (z := 0) hS (by omega) (by omega) (by omega)) ?_)))
        intro z17 ez17 f18
        refine n_iadd c_53_25 rfl (n_istore_n (L2 := [some (2, 15), some (2, 5), some (0, 3), some (0, ((((((0 * 3) + z5) * 3) + z11) * 3) + z17)), some (0, (((3 - 1) + (-1)) + (-1)))]) c_53_26 rfl rfl (n_iinc (L2 := [some (2, 15), some (2, 5), some (0, 3), some (0, ((((((0 * 3) + z5) * 3) + z11) * 3) + z17)), some (0, ((((3 - 1) + (-1)) + (-1)) + (-1)))]) c_53_27 rfl rfl rfl (n_goto c_53_30 (n_iload c_53_7 rfl ?_))))
        refine n_if0_lt c_53_9 (by omega) ?_ ?_
        · intro h19
          refine n_iload_n c_53_33 rfl ?_
          exact n_rI c_53_34 rfl ⟨rfl, by omega⟩
        · intro h20
          exfalso; omega

set_option maxHeartbeats 4000000 in
theorem codeOf6_1_3 {xs : List Int32} {e : Nat} {ac : Int} {M0 M : nM} (hS : Sf 3 ac M0 M) (hB : M 15 0 = 4) : nW xs e 53 0 [some (2, 15), some (2, 6), some (0, 3), none, none] [] M (nPI fun z M1 => M = M1 ∧ (0 ≤ z ∧ z ≤ 26)) := by
  have hd : (3 : Int) = 2 ∨ (3 : Int) = 3 := by decide
  have hac := hS.2.2.2.2
  refine n_iconst c_53_0 (n_istore_n (L2 := [some (2, 15), some (2, 6), some (0, 3), some (0, 0), none]) c_53_1 rfl rfl (n_iload_n c_53_2 rfl (n_iconst c_53_3 (n_isub c_53_4 rfl (n_istore (L2 := [some (2, 15), some (2, 6), some (0, 3), some (0, 0), some (0, (3 - 1))]) c_53_5 rfl rfl (n_iload c_53_7 rfl ?_))))))
  refine n_if0_lt c_53_9 (by omega) ?_ ?_
  · intro h1
    exfalso; omega
  · intro h2
    refine n_iload_n c_53_12 rfl (n_aload_n c_53_13 rfl (n_getB c_53_14 hB (n_getV (bi := 0) c_53_17 sc_4.n rfl rfl rfl (t_4_0 hS) ?_)))
    intro z3 ez3 f4
    obtain rfl : z3 = 3 := by omega
    refine n_imul c_53_20 rfl (n_aload_n c_53_21 rfl (n_iload c_53_22 rfl (n_ialoadV c_53_24 sc_6.n rfl rfl rfl (by omega) (t_6k (z := 0) hS (by omega) (by omega) (by omega)) ?_)))
    intro z5 ez5 f6
    refine n_iadd c_53_25 rfl (n_istore_n (L2 := [some (2, 15), some (2, 6), some (0, 3), some (0, ((0 * 3) + z5)), some (0, (3 - 1))]) c_53_26 rfl rfl (n_iinc (L2 := [some (2, 15), some (2, 6), some (0, 3), some (0, ((0 * 3) + z5)), some (0, ((3 - 1) + (-1)))]) c_53_27 rfl rfl rfl (n_goto c_53_30 (n_iload c_53_7 rfl ?_))))
    refine n_if0_lt c_53_9 (by omega) ?_ ?_
    · intro h7
      exfalso; omega
    · intro h8
      refine n_iload_n c_53_12 rfl (n_aload_n c_53_13 rfl (n_getB c_53_14 hB (n_getV (bi := 0) c_53_17 sc_4.n rfl rfl rfl (t_4_0 hS) ?_)))
      intro z9 ez9 f10
      obtain rfl : z9 = 3 := by omega
      refine n_imul c_53_20 rfl (n_aload_n c_53_21 rfl (n_iload c_53_22 rfl (n_ialoadV c_53_24 sc_6.n rfl rfl rfl (by omega) (t_6k (z := 0) hS (by omega) (by omega) (by omega)) ?_)))
      intro z11 ez11 f12
      refine n_iadd c_53_25 rfl (n_istore_n (L2 := [some (2, 15), some (2, 6), some (0, 3), some (0, ((((0 * 3) + z5) * 3) + z11)), some (0, ((3 - 1) + (-1)))]) c_53_26 rfl rfl (n_iinc (L2 := [some (2, 15), some (2, 6), some (0, 3), some (0, ((((0 * 3) + z5) * 3) + z11)), some (0, (((3 - 1) + (-1)) + (-1)))]) c_53_27 rfl rfl rfl (n_goto c_53_30 (n_iload c_53_7 rfl ?_))))
      refine n_if0_lt c_53_9 (by omega) ?_ ?_
      · intro h13
        exfalso; omega
      · intro h14
        refine n_iload_n c_53_12 rfl (n_aload_n c_53_13 rfl (n_getB c_53_14 hB (n_getV (bi := 0) c_53_17 sc_4.n rfl rfl rfl (t_4_0 hS) ?_)))
        intro z15 ez15 f16
        obtain rfl : z15 = 3 := by omega
        refine n_imul c_53_20 rfl (n_aload_n c_53_21 rfl (n_iload c_53_22 rfl (n_ialoadV c_53_24 sc_6.n rfl rfl rfl (by omega) (t_6k (z := 0) hS (by omega) (by omega) (by omega)) ?_)))
        intro z17 ez17 f18
        refine n_iadd c_53_25 rfl (n_istore_n (L2 := [some (2, 15), some (2, 6), some (0, 3), some (0, ((((((0 * 3) + z5) * 3) + z11) * 3) + z17)), some (0, (((3 - 1) + (-1)) + (-1)))]) c_53_26 rfl rfl (n_iinc (L2 := [some (2, 15), some (2, 6), some (0, 3), some (0, ((((((0 * 3) + z5) * 3) + z11) * 3) + z17)), some (0, ((((3 - 1) + (-1)) + (-1)) + (-1)))]) c_53_27 rfl rfl rfl (n_goto c_53_30 (n_iload c_53_7 rfl ?_))))
        refine n_if0_lt c_53_9 (by omega) ?_ ?_
        · intro h19
          refine n_iload_n c_53_33 rfl ?_
          exact n_rI c_53_34 rfl ⟨rfl, by omega⟩
        · intro h20
          exfalso; omega

set_option maxHeartbeats 4000000 in
theorem codeOf7_1_3 {xs : List Int32} {e : Nat} {ac : Int} {M0 M : nM} (hS : Sf 3 ac M0 M) (hB : M 15 0 = 4) : nW xs e 53 0 [some (2, 15), some (2, 7), some (0, 3), none, none] [] M (nPI fun z M1 => M = M1 ∧ (0 ≤ z ∧ z ≤ 26)) := by
  have hd : (3 : Int) = 2 ∨ (3 : Int) = 3 := by decide
  have hac := hS.2.2.2.2
  refine n_iconst c_53_0 (n_istore_n (L2 := [some (2, 15), some (2, 7), some (0, 3), some (0, 0), none]) c_53_1 rfl rfl (n_iload_n c_53_2 rfl (n_iconst c_53_3 (n_isub c_53_4 rfl (n_istore (L2 := [some (2, 15), some (2, 7), some (0, 3), some (0, 0), some (0, (3 - 1))]) c_53_5 rfl rfl (n_iload c_53_7 rfl ?_))))))
  refine n_if0_lt c_53_9 (by omega) ?_ ?_
  · intro h1
    exfalso; omega
  · intro h2
    refine n_iload_n c_53_12 rfl (n_aload_n c_53_13 rfl (n_getB c_53_14 hB (n_getV (bi := 0) c_53_17 sc_4.n rfl rfl rfl (t_4_0 hS) ?_)))
    intro z3 ez3 f4
    obtain rfl : z3 = 3 := by omega
    refine n_imul c_53_20 rfl (n_aload_n c_53_21 rfl (n_iload c_53_22 rfl (n_ialoadV c_53_24 sc_7.n rfl rfl rfl (by omega) (t_7k (z := 2) hS (by omega) (by omega) (by omega)) ?_)))
    intro z5 ez5 f6
    refine n_iadd c_53_25 rfl (n_istore_n (L2 := [some (2, 15), some (2, 7), some (0, 3), some (0, ((0 * 3) + z5)), some (0, (3 - 1))]) c_53_26 rfl rfl (n_iinc (L2 := [some (2, 15), some (2, 7), some (0, 3), some (0, ((0 * 3) + z5)), some (0, ((3 - 1) + (-1)))]) c_53_27 rfl rfl rfl (n_goto c_53_30 (n_iload c_53_7 rfl ?_))))
    refine n_if0_lt c_53_9 (by omega) ?_ ?_
    · intro h7
      exfalso; omega
    · intro h8
      refine n_iload_n c_53_12 rfl (n_aload_n c_53_13 rfl (n_getB c_53_14 hB (n_getV (bi := 0) c_53_17 sc_4.n rfl rfl rfl (t_4_0 hS) ?_)))
      intro z9 ez9 f10
      obtain rfl : z9 = 3 := by omega
      refine n_imul c_53_20 rfl (n_aload_n c_53_21 rfl (n_iload c_53_22 rfl (n_ialoadV c_53_24 sc_7.n rfl rfl rfl (by omega) (t_7k (z := 1) hS (by omega) (by omega) (by omega)) ?_)))
      intro z11 ez11 f12
      refine n_iadd c_53_25 rfl (n_istore_n (L2 := [some (2, 15), some (2, 7), some (0, 3), some (0, ((((0 * 3) + z5) * 3) + z11)), some (0, ((3 - 1) + (-1)))]) c_53_26 rfl rfl (n_iinc (L2 := [some (2, 15), some (2, 7), some (0, 3), some (0, ((((0 * 3) + z5) * 3) + z11)), some (0, (((3 - 1) + (-1)) + (-1)))]) c_53_27 rfl rfl rfl (n_goto c_53_30 (n_iload c_53_7 rfl ?_))))
      refine n_if0_lt c_53_9 (by omega) ?_ ?_
      · intro h13
        exfalso; omega
      · intro h14
        refine n_iload_n c_53_12 rfl (n_aload_n c_53_13 rfl (n_getB c_53_14 hB (n_getV (bi := 0) c_53_17 sc_4.n rfl rfl rfl (t_4_0 hS) ?_)))
        intro z15 ez15 f16
        obtain rfl : z15 = 3 := by omega
        refine n_imul c_53_20 rfl (n_aload_n c_53_21 rfl (n_iload c_53_22 rfl (n_ialoadV c_53_24 sc_7.n rfl rfl rfl (by omega) (t_7k (z := 0) hS (by omega) (by omega) (by omega)) ?_)))
        intro z17 ez17 f18
        refine n_iadd c_53_25 rfl (n_istore_n (L2 := [some (2, 15), some (2, 7), some (0, 3), some (0, ((((((0 * 3) + z5) * 3) + z11) * 3) + z17)), some (0, (((3 - 1) + (-1)) + (-1)))]) c_53_26 rfl rfl (n_iinc (L2 := [some (2, 15), some (2, 7), some (0, 3), some (0, ((((((0 * 3) + z5) * 3) + z11) * 3) + z17)), some (0, ((((3 - 1) + (-1)) + (-1)) + (-1)))]) c_53_27 rfl rfl rfl (n_goto c_53_30 (n_iload c_53_7 rfl ?_))))
        refine n_if0_lt c_53_9 (by omega) ?_ ?_
        · intro h19
          refine n_iload_n c_53_33 rfl ?_
          exact n_rI c_53_34 rfl ⟨rfl, by omega⟩
        · intro h20
          exfalso; omega

set_option maxHeartbeats 4000000 in
theorem add_1_3 {xs : List Int32} {e : Nat} {ac : Int} {M0 M : nM} {c s : Int} (hS : Sf 3 ac M0 M) (hc : 0 ≤ c ∧ c ≤ 26) (hs : -2147483648 ≤ s ∧ s ≤ 2147483647) (hK : MK 27 27 26 0 0 1 3 9 0 0 0 0 0 0 M) : nW xs (e + 1) 56 0 [some (2, 15), some (0, c), some (0, s)] [] M (nPV fun M1 => Sf 3 ac M0 M1 ∧ MK 27 27 26 0 0 1 3 9 0 0 0 0 0 0 M1 ∧ (M 15 10 ≤ M1 15 10)) := by
  have hd : (3 : Int) = 2 ∨ (3 : Int) = 3 := by decide
  have hac := hS.2.2.2.2
  refine n_aload_n c_56_0 rfl (n_getV (bi := 10) c_56_1 sc_15.n rfl rfl rfl (t_15_10 hS) ?_)
  intro z1 ez1 f2
  refine n_sipush c_56_4 rfl ?_
  refine n_if2_le c_56_7 (by omega) (by omega) ?_ ?_
  · intro h3
    refine n_aload_n c_56_11 rfl (n_getR c_56_12 sc_15.n rfl rfl rfl r_15_1 (n_aload_n c_56_15 rfl (n_getV (bi := 10) c_56_16 sc_15.n rfl rfl rfl (t_15_10 hS) ?_)))
    intro z4 ez4 f5
    obtain rfl : z1 = z4 := by omega
    refine n_iload_n c_56_19 rfl (n_iastoreV hS c_56_20 sc_20.n rfl (by omega) (w_20 (by omega) (by omega)) ?_)
    intro M6 eM6 hS6
    have hK6 := hK.u (by unfold Kok; omega) eM6
    have g6_0 : M6 15 10 = M 15 10 := by rw [eM6]; exact nu_a (by omega)
    have g6_1 : M6 20 z1 = c := by rw [eM6]; exact nu_s _ _ _ _
    refine n_aload_n c_56_21 rfl (n_getR c_56_22 sc_15.n rfl rfl rfl r_15_2 (n_aload_n c_56_25 rfl (n_getV (bi := 10) c_56_26 sc_15.n rfl rfl rfl (t_15_10 hS6) ?_)))
    intro z7 ez7 f8
    obtain rfl : z1 = z7 := by omega
    refine n_iload_n c_56_29 rfl (n_iastoreV hS6 c_56_30 sc_21.n rfl (by omega) (w_21 (by omega) (by omega)) ?_)
    intro M9 eM9 hS9
    have hK9 := hK6.u (by unfold Kok; omega) eM9
    have g9_0 : M9 15 10 = M6 15 10 := by rw [eM9]; exact nu_a (by omega)
    have g9_1 : M9 20 z1 = M6 20 z1 := by rw [eM9]; exact nu_a (by omega)
    have g9_2 : M9 21 z1 = s := by rw [eM9]; exact nu_s _ _ _ _
    refine n_aload_n c_56_31 rfl (n_getR c_56_32 sc_15.n rfl rfl rfl r_15_3 (n_aload_n c_56_35 rfl (n_getV (bi := 10) c_56_36 sc_15.n rfl rfl rfl (t_15_10 hS9) ?_)))
    intro z10 ez10 f11
    obtain rfl : z1 = z10 := by omega
    refine n_aload_n c_56_39 rfl (n_getB c_56_40 hK9.b (n_iload_n c_56_43 rfl (n_iconst c_56_44 (n_v2I c_56_45 rfl sc_4.n rfl rfl rfl rfl (threeOf0_3 (c := c) hS9 (by omega)) ?_))))
    intro z12 M13 hP14
    obtain ⟨eM, f14⟩ := hP14
    subst eM
    refine n_iastoreV hS9 c_56_48 sc_22.n rfl (by omega) (w_22 (by omega) (by omega)) ?_
    intro M15 eM15 hS15
    have hK15 := hK9.u (by unfold Kok; omega) eM15
    have g15_0 : M15 15 10 = M9 15 10 := by rw [eM15]; exact nu_a (by omega)
    have g15_1 : M15 20 z1 = M9 20 z1 := by rw [eM15]; exact nu_a (by omega)
    have g15_2 : M15 21 z1 = M9 21 z1 := by rw [eM15]; exact nu_a (by omega)
    have g15_3 : M15 22 z1 = z12 := by rw [eM15]; exact nu_s _ _ _ _
    refine n_aload_n c_56_49 rfl (n_getR c_56_50 sc_15.n rfl rfl rfl r_15_4 (n_aload_n c_56_53 rfl (n_getV (bi := 10) c_56_54 sc_15.n rfl rfl rfl (t_15_10 hS15) ?_)))
    intro z16 ez16 f17
    obtain rfl : z1 = z16 := by omega
    refine n_aload_n c_56_57 rfl (n_getB c_56_58 hK15.b (n_iload_n c_56_61 rfl (n_iconst c_56_62 (n_v2I c_56_63 rfl sc_4.n rfl rfl rfl rfl (threeOf3_3 (c := c) hS15 (by omega)) ?_))))
    intro z18 M19 hP20
    obtain ⟨eM, f20⟩ := hP20
    subst eM
    refine n_iastoreV hS15 c_56_66 sc_23.n rfl (by omega) (w_23 (by omega) (by omega)) ?_
    intro M21 eM21 hS21
    have hK21 := hK15.u (by unfold Kok; omega) eM21
    have g21_0 : M21 15 10 = M15 15 10 := by rw [eM21]; exact nu_a (by omega)
    have g21_1 : M21 20 z1 = M15 20 z1 := by rw [eM21]; exact nu_a (by omega)
    have g21_2 : M21 21 z1 = M15 21 z1 := by rw [eM21]; exact nu_a (by omega)
    have g21_3 : M21 22 z1 = M15 22 z1 := by rw [eM21]; exact nu_a (by omega)
    have g21_4 : M21 23 z1 = z18 := by rw [eM21]; exact nu_s _ _ _ _
    refine n_aload_n c_56_67 rfl (n_getR c_56_68 sc_15.n rfl rfl rfl r_15_5 (n_aload_n c_56_71 rfl (n_getV (bi := 10) c_56_72 sc_15.n rfl rfl rfl (t_15_10 hS21) ?_)))
    intro z22 ez22 f23
    obtain rfl : z1 = z22 := by omega
    refine n_aload_n c_56_75 rfl (n_getB c_56_76 hK21.b (n_iload_n c_56_79 rfl (n_bipush c_56_80 rfl (n_v2I c_56_82 rfl sc_4.n rfl rfl rfl rfl (threeOf6_3 (c := c) hS21 (by omega)) ?_))))
    intro z24 M25 hP26
    obtain ⟨eM, f26⟩ := hP26
    subst eM
    refine n_iastoreV hS21 c_56_85 sc_24.n rfl (by omega) (w_24 (by omega) (by omega)) ?_
    intro M27 eM27 hS27
    have hK27 := hK21.u (by unfold Kok; omega) eM27
    have g27_0 : M27 15 10 = M21 15 10 := by rw [eM27]; exact nu_a (by omega)
    have g27_1 : M27 20 z1 = M21 20 z1 := by rw [eM27]; exact nu_a (by omega)
    have g27_2 : M27 21 z1 = M21 21 z1 := by rw [eM27]; exact nu_a (by omega)
    have g27_3 : M27 22 z1 = M21 22 z1 := by rw [eM27]; exact nu_a (by omega)
    have g27_4 : M27 23 z1 = M21 23 z1 := by rw [eM27]; exact nu_a (by omega)
    have g27_5 : M27 24 z1 = z24 := by rw [eM27]; exact nu_s _ _ _ _
    refine n_aload_n c_56_86 rfl (n_dup2 c_56_87 (n_getV (bi := 10) c_56_88 sc_15.n rfl rfl rfl (t_15_10 hS27) ?_))
    intro z28 ez28 f29
    obtain rfl : z1 = z28 := by omega
    refine n_iconst c_56_91 (n_iadd c_56_92 rfl (n_putV (bi := 10) hS27 c_56_93 sc_15.n rfl rfl rfl rfl (w_15_10 (by omega)) ?_))
    intro M30 eM30 hS30
    have hK30 := hK27.cnt (c := z1) (by omega) (by omega) (z := (z1 + 1)) (by omega) eM30
    have g30_0 : M30 20 z1 = M27 20 z1 := by rw [eM30]; exact nu_a (by omega)
    have g30_1 : M30 21 z1 = M27 21 z1 := by rw [eM30]; exact nu_a (by omega)
    have g30_2 : M30 22 z1 = M27 22 z1 := by rw [eM30]; exact nu_a (by omega)
    have g30_3 : M30 23 z1 = M27 23 z1 := by rw [eM30]; exact nu_a (by omega)
    have g30_4 : M30 24 z1 = M27 24 z1 := by rw [eM30]; exact nu_a (by omega)
    have g30_5 : M30 15 10 = (z1 + 1) := by rw [eM30]; exact nu_s _ _ _ _
    refine n_aload_n c_56_96 rfl (n_getP c_56_97 ?_)
    intro p31 ep31
    refine n_iload_n c_56_100 rfl (n_aload_n c_56_101 rfl (n_getV (bi := 10) c_56_102 sc_15.n rfl rfl rfl (t_15_10 hS30) ?_))
    intro z32 ez32 f33
    refine n_iastoreP hS30 hK30 c_56_105 ep31 (by omega) (by omega) ?_
    intro M34 fM34 hS34 hK34
    have g34_0 := fM34 20 z1 (by omega) (by omega)
    have g34_1 := fM34 21 z1 (by omega) (by omega)
    have g34_2 := fM34 22 z1 (by omega) (by omega)
    have g34_3 := fM34 23 z1 (by omega) (by omega)
    have g34_4 := fM34 24 z1 (by omega) (by omega)
    have g34_5 := fM34 15 10 (by omega) (by omega)
    exact n_rV c_56_106 rfl ⟨hS34, hK34, by omega⟩
  · intro h35
    exact n_rV c_56_10 rfl ⟨hS, hK, by omega⟩

set_option maxHeartbeats 4000000 in
theorem fillM25T_1_3_c {xs : List Int32} {e : Nat} {ac : Int} {M0 M : nM} {p i j g : Int} (hS : Sf 3 ac M0 M) (hp : ActAt p) (hpl : p < 55 + 3 * ac) (hi : 0 ≤ i ∧ i ≤ 26) (hj : 0 ≤ j ∧ j ≤ 26) (hK : MK 27 27 26 0 0 1 3 9 0 0 0 0 0 0 M) (hg : M 15 10 = g) : ∀ nn : Nat, (∀ (x5 x6 x7 x8 x9 x10 : Int) (M : nM), Sf 3 ac M0 M → (3 ≤ x5 ∧ x5 ≤ 3) → (0 ≤ x6 ∧ x6 ≤ 24) → (0 ≤ x7 ∧ x7 ≤ 24) → (0 ≤ x8 ∧ x8 ≤ 24) → (0 ≤ x9 ∧ x9 ≤ 27) → (0 ≤ x10 ∧ x10 ≤ 3) → (MK 27 27 26 0 0 1 3 9 0 0 0 0 0 0 M) → (M 15 10 = g) → (x9 = 9 * x10) → (3 - x10) * 31 + 31 < (nn : Int) → nW xs e 45 86 [some (2, 25), none, some (2, (p + 1)), none, none, some (0, x5), some (0, x6), some (0, x7), some (0, x8), some (0, x9), some (0, x10), none, none, none, none] [] M (nPV fun M1 => Sf 3 ac M0 M1 ∧ (M1 15 10 = g) ∧ MK 27 27 26 0 0 1 3 9 0 0 0 0 0 0 M1)) ∧ (∀ (x5 x6 x7 x8 x9 x10 x11 x12 : Int) (M : nM), Sf 3 ac M0 M → (3 ≤ x5 ∧ x5 ≤ 3) → (0 ≤ x6 ∧ x6 ≤ 24) → (0 ≤ x7 ∧ x7 ≤ 24) → (0 ≤ x8 ∧ x8 ≤ 24) → (0 ≤ x9 ∧ x9 ≤ 27) → (0 ≤ x10 ∧ x10 ≤ 2) → (0 ≤ x11 ∧ x11 ≤ 2) → (0 ≤ x12 ∧ x12 ≤ 3) → (MK 27 27 26 0 0 1 3 9 0 0 0 0 0 0 M) → (M 15 10 = g) → (x9 = 9 * x10 + 3 * x12) → (3 - x10) * 31 + (3 - x12) * 6 + 6 < (nn : Int) → nW xs e 45 110 [some (2, 25), none, some (2, (p + 1)), none, none, some (0, x5), some (0, x6), some (0, x7), some (0, x8), some (0, x9), some (0, x10), some (0, x11), some (0, x12), none, none] [] M (nPV fun M1 => Sf 3 ac M0 M1 ∧ (M1 15 10 = g) ∧ MK 27 27 26 0 0 1 3 9 0 0 0 0 0 0 M1)) ∧ (∀ (x5 x6 x7 x8 x9 x10 x11 x12 x13 x14 : Int) (M : nM), Sf 3 ac M0 M → (3 ≤ x5 ∧ x5 ≤ 3) → (0 ≤ x6 ∧ x6 ≤ 24) → (0 ≤ x7 ∧ x7 ≤ 24) → (0 ≤ x8 ∧ x8 ≤ 24) → (0 ≤ x9 ∧ x9 ≤ 27) → (0 ≤ x10 ∧ x10 ≤ 2) → (0 ≤ x11 ∧ x11 ≤ 2) → (0 ≤ x12 ∧ x12 ≤ 2) → (0 ≤ x13 ∧ x13 ≤ 8) → (0 ≤ x14 ∧ x14 ≤ 3) → (MK 27 27 26 0 0 1 3 9 0 0 0 0 0 0 M) → (M 15 10 = g) → (x9 = 9 * x10 + 3 * x12 + x14) → (3 - x10) * 31 + (3 - x12) * 6 + (3 - x14) * 1 + 1 < (nn : Int) → nW xs e 45 137 [some (2, 25), none, some (2, (p + 1)), none, none, some (0, x5), some (0, x6), some (0, x7), some (0, x8), some (0, x9), some (0, x10), some (0, x11), some (0, x12), some (0, x13), some (0, x14)] [] M (nPV fun M1 => Sf 3 ac M0 M1 ∧ (M1 15 10 = g) ∧ MK 27 27 26 0 0 1 3 9 0 0 0 0 0 0 M1)) := by
  have hd : (3 : Int) = 2 ∨ (3 : Int) = 3 := by decide
  have hac := hS.2.2.2.2
  intro nn
  induction nn with
  | zero => refine ⟨?_, ?_, ?_⟩ <;> (intros; omega)
  | succ nn ih =>
    refine ⟨?_, ?_, ?_⟩
    · intro x5 x6 x7 x8 x9 x10 M hS k5 k6 k7 k8 k9 k10 hK hgg v0 hnn
      refine n_iload c_45_86 rfl (n_iload c_45_88 rfl ?_)
      refine n_if2_ge c_45_90 (by omega) (by omega) ?_ ?_
      · intro h1
        exact n_rV c_45_187 rfl ⟨hS, by omega, hK⟩
      · intro h2
        refine n_aload_n c_45_93 rfl (n_iload c_45_94 rfl (n_iload c_45_96 rfl (n_iadd c_45_98 rfl (n_ialoadV c_45_99 hp.c0.2.1.n rfl rfl rfl (by omega) (t_actrl hS hp hpl (Or.inl rfl) (by omega) (by omega)) ?_))))
        intro z3 ez3 f4
        refine n_aload_n c_45_100 rfl (n_getV (bi := 1) c_45_101 sc_25.n rfl rfl rfl hK.w25.1 ?_)
        intro z5 ez5 f6
        obtain rfl : z5 = 1 := by omega
        refine n_imul c_45_104 rfl (n_istore (L2 := [some (2, 25), none, some (2, (p + 1)), none, none, some (0, x5), some (0, x6), some (0, x7), some (0, x8), some (0, x9), some (0, x10), some (0, (z3 * 1)), none, none, none]) c_45_105 rfl rfl (n_iconst c_45_107 (n_istore (L2 := [some (2, 25), none, some (2, (p + 1)), none, none, some (0, x5), some (0, x6), some (0, x7), some (0, x8), some (0, x9), some (0, x10), some (0, (z3 * 1)), some (0, 0), none, none]) c_45_108 rfl rfl (n_fg (le_s (le_n (le_s (le_n (le_n (le_s (le_s (le_s (le_s (le_s (le_s (le_s (le_s (le_n (le_n le_0))))))))))))))) ?_))))
        exact ih.2.1 _ _ _ _ _ _ _ _ M hS (by omega) (by omega) (by omega) (by omega) (by omega) (by omega) (by omega) (by omega) hK (by omega) (by omega) (by omega)
    · intro x5 x6 x7 x8 x9 x10 x11 x12 M hS k5 k6 k7 k8 k9 k10 k11 k12 hK hgg v0 hnn
      refine n_iload c_45_110 rfl (n_iload c_45_112 rfl ?_)
      refine n_if2_ge c_45_114 (by omega) (by omega) ?_ ?_
      · intro h1
        refine n_iinc (L2 := [some (2, 25), none, some (2, (p + 1)), none, none, some (0, x5), some (0, x6), some (0, x7), some (0, x8), some (0, x9), some (0, (x10 + 1)), some (0, x11), some (0, x12), none, none]) c_45_181 rfl rfl rfl (n_goto c_45_184 (n_fg (le_s (le_n (le_s (le_n (le_n (le_s (le_s (le_s (le_s (le_s (le_s (le_n (le_n (le_n (le_n le_0))))))))))))))) ?_))
        exact ih.1 _ _ _ _ _ _ M hS (by omega) (by omega) (by omega) (by omega) (by omega) (by omega) hK (by omega) (by omega) (by omega)
      · intro h2
        refine n_iload c_45_117 rfl (n_aload_n c_45_119 rfl (n_iload c_45_120 rfl (n_iload c_45_122 rfl (n_iadd c_45_124 rfl (n_ialoadV c_45_125 hp.c0.2.1.n rfl rfl rfl (by omega) (t_actrl hS hp hpl (Or.inl rfl) (by omega) (by omega)) ?_)))))
        intro z3 ez3 f4
        refine n_aload_n c_45_126 rfl (n_getV (bi := 2) c_45_127 sc_25.n rfl rfl rfl hK.w25.2.1 ?_)
        intro z5 ez5 f6
        obtain rfl : z5 = 3 := by omega
        refine n_imul c_45_130 rfl (n_iadd c_45_131 rfl (n_istore (L2 := [some (2, 25), none, some (2, (p + 1)), none, none, some (0, x5), some (0, x6), some (0, x7), some (0, x8), some (0, x9), some (0, x10), some (0, x11), some (0, x12), some (0, (x11 + (z3 * 3))), none]) c_45_132 rfl rfl (n_iconst c_45_134 (n_istore (L2 := [some (2, 25), none, some (2, (p + 1)), none, none, some (0, x5), some (0, x6), some (0, x7), some (0, x8), some (0, x9), some (0, x10), some (0, x11), some (0, x12), some (0, (x11 + (z3 * 3))), some (0, 0)]) c_45_135 rfl rfl (n_fg (le_s (le_n (le_s (le_n (le_n (le_s (le_s (le_s (le_s (le_s (le_s (le_s (le_s (le_s (le_s le_0))))))))))))))) ?_)))))
        exact ih.2.2 _ _ _ _ _ _ _ _ _ _ M hS (by omega) (by omega) (by omega) (by omega) (by omega) (by omega) (by omega) (by omega) (by omega) (by omega) hK (by omega) (by omega) (by omega)
    · intro x5 x6 x7 x8 x9 x10 x11 x12 x13 x14 M hS k5 k6 k7 k8 k9 k10 k11 k12 k13 k14 hK hgg v0 hnn
      refine n_iload c_45_137 rfl (n_iload c_45_139 rfl ?_)
      refine n_if2_ge c_45_141 (by omega) (by omega) ?_ ?_
      · intro h1
        refine n_iinc (L2 := [some (2, 25), none, some (2, (p + 1)), none, none, some (0, x5), some (0, x6), some (0, x7), some (0, x8), some (0, x9), some (0, x10), some (0, x11), some (0, (x12 + 1)), some (0, x13), some (0, x14)]) c_45_175 rfl rfl rfl (n_goto c_45_178 (n_fg (le_s (le_n (le_s (le_n (le_n (le_s (le_s (le_s (le_s (le_s (le_s (le_s (le_s (le_n (le_n le_0))))))))))))))) ?_))
        exact ih.2.1 _ _ _ _ _ _ _ _ M hS (by omega) (by omega) (by omega) (by omega) (by omega) (by omega) (by omega) (by omega) hK (by omega) (by omega) (by omega)
      · intro h2
        refine n_aload_n c_45_144 rfl (n_getR c_45_145 sc_25.n rfl rfl rfl r_25_0 (n_iload c_45_148 rfl (n_iload c_45_150 rfl (n_aload_n c_45_152 rfl (n_iload c_45_153 rfl (n_iload c_45_155 rfl (n_iadd c_45_157 rfl (n_ialoadV c_45_158 hp.c0.2.1.n rfl rfl rfl (by omega) (t_actrl hS hp hpl (Or.inl rfl) (by omega) (by omega)) ?_))))))))
        intro z3 ez3 f4
        refine n_aload_n c_45_159 rfl (n_getV (bi := 3) c_45_160 sc_25.n rfl rfl rfl hK.w25.2.2 ?_)
        intro z5 ez5 f6
        obtain rfl : z5 = 9 := by omega
        refine n_imul c_45_163 rfl (n_iadd c_45_164 rfl (n_iastoreV hS c_45_165 sc_26.n rfl (by omega) (w_26 (by omega) (by omega)) ?_))
        intro M7 eM7 hS7
        have hK7 := hK.u (by unfold Kok; omega) eM7
        have g7_0 : M7 15 10 = M 15 10 := by rw [eM7]; exact nu_a (by omega)
        refine n_iinc (L2 := [some (2, 25), none, some (2, (p + 1)), none, none, some (0, x5), some (0, x6), some (0, x7), some (0, x8), some (0, (x9 + 1)), some (0, x10), some (0, x11), some (0, x12), some (0, x13), some (0, x14)]) c_45_166 rfl rfl rfl (n_iinc (L2 := [some (2, 25), none, some (2, (p + 1)), none, none, some (0, x5), some (0, x6), some (0, x7), some (0, x8), some (0, (x9 + 1)), some (0, x10), some (0, x11), some (0, x12), some (0, x13), some (0, (x14 + 1))]) c_45_169 rfl rfl rfl (n_goto c_45_172 (n_fg (le_s (le_n (le_s (le_n (le_n (le_s (le_s (le_s (le_s (le_s (le_s (le_s (le_s (le_s (le_s le_0))))))))))))))) ?_)))
        exact ih.2.2 _ _ _ _ _ _ _ _ _ _ M7 hS7 (by omega) (by omega) (by omega) (by omega) (by omega) (by omega) (by omega) (by omega) (by omega) (by omega) hK7 (by omega) (by omega) (by omega)
set_option maxHeartbeats 4000000 in
theorem fillM25T_1_3 {xs : List Int32} {e : Nat} {ac : Int} {M0 M : nM} {p i j g : Int} (hS : Sf 3 ac M0 M) (hp : ActAt p) (hpl : p < 55 + 3 * ac) (hi : 0 ≤ i ∧ i ≤ 26) (hj : 0 ≤ j ∧ j ≤ 26) (hK : MK 27 27 26 0 0 1 3 9 0 0 0 0 0 0 M) (hg : M 15 10 = g) : nW xs e 45 0 [some (2, 25), some (2, 4), some (2, (p + 1)), some (0, i), some (0, j), none, none, none, none, none, none, none, none, none, none] [] M (nPV fun M1 => Sf 3 ac M0 M1 ∧ (M1 15 10 = g) ∧ MK 27 27 26 0 0 1 3 9 0 0 0 0 0 0 M1) := by
  have hd : (3 : Int) = 2 ∨ (3 : Int) = 3 := by decide
  have hac := hS.2.2.2.2
  refine n_aload_n c_45_0 rfl (n_getV (bi := 1) c_45_1 sc_25.n rfl rfl rfl hK.w25.1 ?_)
  intro z1 ez1 f2
  obtain rfl : z1 = 1 := by omega
  refine n_if0_ne c_45_4 (by omega) ?_ ?_
  · intro h3
    refine n_aload_n c_45_8 rfl (n_getV (bi := 0) c_45_9 sc_4.n rfl rfl rfl (t_4_0 hS) ?_)
    intro z4 ez4 f5
    obtain rfl : z4 = 3 := by omega
    refine n_istore (L2 := [some (2, 25), some (2, 4), some (2, (p + 1)), some (0, i), some (0, j), some (0, 3), none, none, none, none, none, none, none, none, none]) c_45_12 rfl rfl (n_aload_n c_45_14 rfl (n_getR c_45_15 sc_4.n rfl rfl rfl r_4_2 (n_iload_n c_45_18 rfl (n_ialoadV c_45_19 sc_5.n rfl rfl rfl (by omega) (t_5d hS hd (by omega) (by omega)) ?_))))
    intro z6 ez6 f7
    refine n_iload c_45_20 rfl (n_imul c_45_22 rfl (n_aload_n c_45_23 rfl (n_getR c_45_24 sc_4.n rfl rfl rfl r_4_2 (n_iload c_45_27 rfl (n_ialoadV c_45_29 sc_5.n rfl rfl rfl (by omega) (t_5d hS hd (by omega) (by omega)) ?_)))))
    intro z8 ez8 f9
    refine n_iadd c_45_30 rfl (n_iload c_45_31 rfl (n_imul c_45_33 rfl (n_istore (L2 := [some (2, 25), some (2, 4), some (2, (p + 1)), some (0, i), some (0, j), some (0, 3), some (0, (((z6 * 3) + z8) * 3)), none, none, none, none, none, none, none, none]) c_45_34 rfl rfl (n_aload_n c_45_36 rfl (n_getR c_45_37 sc_4.n rfl rfl rfl r_4_3 (n_iload_n c_45_40 rfl (n_ialoadV c_45_41 sc_6.n rfl rfl rfl (by omega) (t_6d hS hd (by omega) (by omega)) ?_)))))))
    intro z10 ez10 f11
    refine n_iload c_45_42 rfl (n_imul c_45_44 rfl (n_aload_n c_45_45 rfl (n_getR c_45_46 sc_4.n rfl rfl rfl r_4_3 (n_iload c_45_49 rfl (n_ialoadV c_45_51 sc_6.n rfl rfl rfl (by omega) (t_6d hS hd (by omega) (by omega)) ?_)))))
    intro z12 ez12 f13
    refine n_iadd c_45_52 rfl (n_iload c_45_53 rfl (n_imul c_45_55 rfl (n_istore (L2 := [some (2, 25), some (2, 4), some (2, (p + 1)), some (0, i), some (0, j), some (0, 3), some (0, (((z6 * 3) + z8) * 3)), some (0, (((z10 * 3) + z12) * 3)), none, none, none, none, none, none, none]) c_45_56 rfl rfl (n_aload_n c_45_58 rfl (n_getR c_45_59 sc_4.n rfl rfl rfl r_4_4 (n_iload_n c_45_62 rfl (n_ialoadV c_45_63 sc_7.n rfl rfl rfl (by omega) (t_7d hS hd (by omega) (by omega)) ?_)))))))
    intro z14 ez14 f15
    refine n_iload c_45_64 rfl (n_imul c_45_66 rfl (n_aload_n c_45_67 rfl (n_getR c_45_68 sc_4.n rfl rfl rfl r_4_4 (n_iload c_45_71 rfl (n_ialoadV c_45_73 sc_7.n rfl rfl rfl (by omega) (t_7d hS hd (by omega) (by omega)) ?_)))))
    intro z16 ez16 f17
    refine n_iadd c_45_74 rfl (n_iload c_45_75 rfl (n_imul c_45_77 rfl (n_istore (L2 := [some (2, 25), some (2, 4), some (2, (p + 1)), some (0, i), some (0, j), some (0, 3), some (0, (((z6 * 3) + z8) * 3)), some (0, (((z10 * 3) + z12) * 3)), some (0, (((z14 * 3) + z16) * 3)), none, none, none, none, none, none]) c_45_78 rfl rfl (n_iconst c_45_80 (n_istore (L2 := [some (2, 25), some (2, 4), some (2, (p + 1)), some (0, i), some (0, j), some (0, 3), some (0, (((z6 * 3) + z8) * 3)), some (0, (((z10 * 3) + z12) * 3)), some (0, (((z14 * 3) + z16) * 3)), some (0, 0), none, none, none, none, none]) c_45_81 rfl rfl (n_iconst c_45_83 (n_istore (L2 := [some (2, 25), some (2, 4), some (2, (p + 1)), some (0, i), some (0, j), some (0, 3), some (0, (((z6 * 3) + z8) * 3)), some (0, (((z10 * 3) + z12) * 3)), some (0, (((z14 * 3) + z16) * 3)), some (0, 0), some (0, 0), none, none, none, none]) c_45_84 rfl rfl (n_fg (le_s (le_n (le_s (le_n (le_n (le_s (le_s (le_s (le_s (le_s (le_s (le_n (le_n (le_n (le_n le_0))))))))))))))) ?_))))))))
    exact (fillM25T_1_3_c hS hp hpl hi hj hK hg 320).1 _ _ _ _ _ _ M hS (by omega) (by omega) (by omega) (by omega) (by omega) (by omega) hK (by omega) (by omega) (by omega)
  · intro h18
    exfalso; omega

set_option maxHeartbeats 4000000 in
theorem fillM27T_1_3 {xs : List Int32} {e : Nat} {ac : Int} {M0 M : nM} {p i j g : Int} (hS : Sf 3 ac M0 M) (hp : ActAt p) (hpl : p < 55 + 3 * ac) (hi : 0 ≤ i ∧ i ≤ 26) (hj : 0 ≤ j ∧ j ≤ 26) (hK : MK 27 27 26 0 0 1 3 9 0 0 0 0 0 0 M) (hg : M 15 10 = g) : nW xs e 45 0 [some (2, 27), some (2, 4), some (2, (p + 1)), some (0, i), some (0, j), none, none, none, none, none, none, none, none, none, none] [] M (nPV fun M1 => Sf 3 ac M0 M1 ∧ (M1 15 10 = g) ∧ MK 27 27 26 0 0 1 3 9 0 0 0 0 0 0 M1) := by
  have hd : (3 : Int) = 2 ∨ (3 : Int) = 3 := by decide
  have hac := hS.2.2.2.2
  refine n_aload_n c_45_0 rfl (n_getV (bi := 1) c_45_1 sc_27.n rfl rfl rfl hK.w27.1 ?_)
  intro z1 ez1 f2
  obtain rfl : z1 = 0 := by omega
  refine n_if0_ne c_45_4 (by omega) ?_ ?_
  · intro h3
    exfalso; omega
  · intro h4
    exact n_rV c_45_7 rfl ⟨hS, by omega, hK⟩

set_option maxHeartbeats 4000000 in
theorem fillM29T_1_3 {xs : List Int32} {e : Nat} {ac : Int} {M0 M : nM} {p i j g : Int} (hS : Sf 3 ac M0 M) (hp : ActAt p) (hpl : p < 55 + 3 * ac) (hi : 0 ≤ i ∧ i ≤ 26) (hj : 0 ≤ j ∧ j ≤ 26) (hK : MK 27 27 26 0 0 1 3 9 0 0 0 0 0 0 M) (hg : M 15 10 = g) : nW xs e 45 0 [some (2, 29), some (2, 4), some (2, (p + 1)), some (0, i), some (0, j), none, none, none, none, none, none, none, none, none, none] [] M (nPV fun M1 => Sf 3 ac M0 M1 ∧ (M1 15 10 = g) ∧ MK 27 27 26 0 0 1 3 9 0 0 0 0 0 0 M1) := by
  have hd : (3 : Int) = 2 ∨ (3 : Int) = 3 := by decide
  have hac := hS.2.2.2.2
  refine n_aload_n c_45_0 rfl (n_getV (bi := 1) c_45_1 sc_29.n rfl rfl rfl hK.w29.1 ?_)
  intro z1 ez1 f2
  obtain rfl : z1 = 0 := by omega
  refine n_if0_ne c_45_4 (by omega) ?_ ?_
  · intro h3
    exfalso; omega
  · intro h4
    exact n_rV c_45_7 rfl ⟨hS, by omega, hK⟩

set_option maxHeartbeats 4000000 in
theorem fillM25U_1_3_c {xs : List Int32} {e : Nat} {ac : Int} {M0 M : nM} {p i j g : Int} (hS : Sf 3 ac M0 M) (hp : ActAt p) (hpl : p < 55 + 3 * ac) (hi : 0 ≤ i ∧ i ≤ 26) (hj : 0 ≤ j ∧ j ≤ 26) (hK : MK 27 27 26 0 0 1 3 9 0 0 0 0 0 0 M) (hg : M 15 10 = g) : ∀ nn : Nat, (∀ (x5 x6 x7 x8 x9 x10 : Int) (M : nM), Sf 3 ac M0 M → (3 ≤ x5 ∧ x5 ≤ 3) → (0 ≤ x6 ∧ x6 ≤ 24) → (0 ≤ x7 ∧ x7 ≤ 24) → (0 ≤ x8 ∧ x8 ≤ 24) → (0 ≤ x9 ∧ x9 ≤ 27) → (0 ≤ x10 ∧ x10 ≤ 3) → (MK 27 27 26 0 0 1 3 9 0 0 0 0 0 0 M) → (M 15 10 = g) → (x9 = 9 * x10) → (3 - x10) * 31 + 31 < (nn : Int) → nW xs e 45 86 [some (2, 25), none, some (2, (p + 2)), none, none, some (0, x5), some (0, x6), some (0, x7), some (0, x8), some (0, x9), some (0, x10), none, none, none, none] [] M (nPV fun M1 => Sf 3 ac M0 M1 ∧ (M1 15 10 = g) ∧ MK 27 27 26 0 0 1 3 9 0 0 0 0 0 0 M1)) ∧ (∀ (x5 x6 x7 x8 x9 x10 x11 x12 : Int) (M : nM), Sf 3 ac M0 M → (3 ≤ x5 ∧ x5 ≤ 3) → (0 ≤ x6 ∧ x6 ≤ 24) → (0 ≤ x7 ∧ x7 ≤ 24) → (0 ≤ x8 ∧ x8 ≤ 24) → (0 ≤ x9 ∧ x9 ≤ 27) → (0 ≤ x10 ∧ x10 ≤ 2) → (0 ≤ x11 ∧ x11 ≤ 2) → (0 ≤ x12 ∧ x12 ≤ 3) → (MK 27 27 26 0 0 1 3 9 0 0 0 0 0 0 M) → (M 15 10 = g) → (x9 = 9 * x10 + 3 * x12) → (3 - x10) * 31 + (3 - x12) * 6 + 6 < (nn : Int) → nW xs e 45 110 [some (2, 25), none, some (2, (p + 2)), none, none, some (0, x5), some (0, x6), some (0, x7), some (0, x8), some (0, x9), some (0, x10), some (0, x11), some (0, x12), none, none] [] M (nPV fun M1 => Sf 3 ac M0 M1 ∧ (M1 15 10 = g) ∧ MK 27 27 26 0 0 1 3 9 0 0 0 0 0 0 M1)) ∧ (∀ (x5 x6 x7 x8 x9 x10 x11 x12 x13 x14 : Int) (M : nM), Sf 3 ac M0 M → (3 ≤ x5 ∧ x5 ≤ 3) → (0 ≤ x6 ∧ x6 ≤ 24) → (0 ≤ x7 ∧ x7 ≤ 24) → (0 ≤ x8 ∧ x8 ≤ 24) → (0 ≤ x9 ∧ x9 ≤ 27) → (0 ≤ x10 ∧ x10 ≤ 2) → (0 ≤ x11 ∧ x11 ≤ 2) → (0 ≤ x12 ∧ x12 ≤ 2) → (0 ≤ x13 ∧ x13 ≤ 8) → (0 ≤ x14 ∧ x14 ≤ 3) → (MK 27 27 26 0 0 1 3 9 0 0 0 0 0 0 M) → (M 15 10 = g) → (x9 = 9 * x10 + 3 * x12 + x14) → (3 - x10) * 31 + (3 - x12) * 6 + (3 - x14) * 1 + 1 < (nn : Int) → nW xs e 45 137 [some (2, 25), none, some (2, (p + 2)), none, none, some (0, x5), some (0, x6), some (0, x7), some (0, x8), some (0, x9), some (0, x10), some (0, x11), some (0, x12), some (0, x13), some (0, x14)] [] M (nPV fun M1 => Sf 3 ac M0 M1 ∧ (M1 15 10 = g) ∧ MK 27 27 26 0 0 1 3 9 0 0 0 0 0 0 M1)) := by
  have hd : (3 : Int) = 2 ∨ (3 : Int) = 3 := by decide
  have hac := hS.2.2.2.2
  intro nn
  induction nn with
  | zero => refine ⟨?_, ?_, ?_⟩ <;> (intros; omega)
  | succ nn ih =>
    refine ⟨?_, ?_, ?_⟩
    · intro x5 x6 x7 x8 x9 x10 M hS k5 k6 k7 k8 k9 k10 hK hgg v0 hnn
      refine n_iload c_45_86 rfl (n_iload c_45_88 rfl ?_)
      refine n_if2_ge c_45_90 (by omega) (by omega) ?_ ?_
      · intro h1
        exact n_rV c_45_187 rfl ⟨hS, by omega, hK⟩
      · intro h2
        refine n_aload_n c_45_93 rfl (n_iload c_45_94 rfl (n_iload c_45_96 rfl (n_iadd c_45_98 rfl (n_ialoadV c_45_99 hp.c0.2.2.n rfl rfl rfl (by omega) (t_actrl hS hp hpl (Or.inr rfl) (by omega) (by omega)) ?_))))
        intro z3 ez3 f4
        refine n_aload_n c_45_100 rfl (n_getV (bi := 1) c_45_101 sc_25.n rfl rfl rfl hK.w25.1 ?_)
        intro z5 ez5 f6
        obtain rfl : z5 = 1 := by omega
        refine n_imul c_45_104 rfl (n_istore (L2 := [some (2, 25), none, some (2, (p + 2)), none, none, some (0, x5), some (0, x6), some (0, x7), some (0, x8), some (0, x9), some (0, x10), some (0, (z3 * 1)), none, none, none]) c_45_105 rfl rfl (n_iconst c_45_107 (n_istore (L2 := [some (2, 25), none, some (2, (p + 2)), none, none, some (0, x5), some (0, x6), some (0, x7), some (0, x8), some (0, x9), some (0, x10), some (0, (z3 * 1)), some (0, 0), none, none]) c_45_108 rfl rfl (n_fg (le_s (le_n (le_s (le_n (le_n (le_s (le_s (le_s (le_s (le_s (le_s (le_s (le_s (le_n (le_n le_0))))))))))))))) ?_))))
        exact ih.2.1 _ _ _ _ _ _ _ _ M hS (by omega) (by omega) (by omega) (by omega) (by omega) (by omega) (by omega) (by omega) hK (by omega) (by omega) (by omega)
    · intro x5 x6 x7 x8 x9 x10 x11 x12 M hS k5 k6 k7 k8 k9 k10 k11 k12 hK hgg v0 hnn
      refine n_iload c_45_110 rfl (n_iload c_45_112 rfl ?_)
      refine n_if2_ge c_45_114 (by omega) (by omega) ?_ ?_
      · intro h1
        refine n_iinc (L2 := [some (2, 25), none, some (2, (p + 2)), none, none, some (0, x5), some (0, x6), some (0, x7), some (0, x8), some (0, x9), some (0, (x10 + 1)), some (0, x11), some (0, x12), none, none]) c_45_181 rfl rfl rfl (n_goto c_45_184 (n_fg (le_s (le_n (le_s (le_n (le_n (le_s (le_s (le_s (le_s (le_s (le_s (le_n (le_n (le_n (le_n le_0))))))))))))))) ?_))
        exact ih.1 _ _ _ _ _ _ M hS (by omega) (by omega) (by omega) (by omega) (by omega) (by omega) hK (by omega) (by omega) (by omega)
      · intro h2
        refine n_iload c_45_117 rfl (n_aload_n c_45_119 rfl (n_iload c_45_120 rfl (n_iload c_45_122 rfl (n_iadd c_45_124 rfl (n_ialoadV c_45_125 hp.c0.2.2.n rfl rfl rfl (by omega) (t_actrl hS hp hpl (Or.inr rfl) (by omega) (by omega)) ?_)))))
        intro z3 ez3 f4
        refine n_aload_n c_45_126 rfl (n_getV (bi := 2) c_45_127 sc_25.n rfl rfl rfl hK.w25.2.1 ?_)
        intro z5 ez5 f6
        obtain rfl : z5 = 3 := by omega
        refine n_imul c_45_130 rfl (n_iadd c_45_131 rfl (n_istore (L2 := [some (2, 25), none, some (2, (p + 2)), none, none, some (0, x5), some (0, x6), some (0, x7), some (0, x8), some (0, x9), some (0, x10), some (0, x11), some (0, x12), some (0, (x11 + (z3 * 3))), none]) c_45_132 rfl rfl (n_iconst c_45_134 (n_istore (L2 := [some (2, 25), none, some (2, (p + 2)), none, none, some (0, x5), some (0, x6), some (0, x7), some (0, x8), some (0, x9), some (0, x10), some (0, x11), some (0, x12), some (0, (x11 + (z3 * 3))), some (0, 0)]) c_45_135 rfl rfl (n_fg (le_s (le_n (le_s (le_n (le_n (le_s (le_s (le_s (le_s (le_s (le_s (le_s (le_s (le_s (le_s le_0))))))))))))))) ?_)))))
        exact ih.2.2 _ _ _ _ _ _ _ _ _ _ M hS (by omega) (by omega) (by omega) (by omega) (by omega) (by omega) (by omega) (by omega) (by omega) (by omega) hK (by omega) (by omega) (by omega)
    · intro x5 x6 x7 x8 x9 x10 x11 x12 x13 x14 M hS k5 k6 k7 k8 k9 k10 k11 k12 k13 k14 hK hgg v0 hnn
      refine n_iload c_45_137 rfl (n_iload c_45_139 rfl ?_)
      refine n_if2_ge c_45_141 (by omega) (by omega) ?_ ?_
      · intro h1
        refine n_iinc (L2 := [some (2, 25), none, some (2, (p + 2)), none, none, some (0, x5), some (0, x6), some (0, x7), some (0, x8), some (0, x9), some (0, x10), some (0, x11), some (0, (x12 + 1)), some (0, x13), some (0, x14)]) c_45_175 rfl rfl rfl (n_goto c_45_178 (n_fg (le_s (le_n (le_s (le_n (le_n (le_s (le_s (le_s (le_s (le_s (le_s (le_s (le_s (le_n (le_n le_0))))))))))))))) ?_))
        exact ih.2.1 _ _ _ _ _ _ _ _ M hS (by omega) (by omega) (by omega) (by omega) (by omega) (by omega) (by omega) (by omega) hK (by omega) (by omega) (by omega)
      · intro h2
        refine n_aload_n c_45_144 rfl (n_getR c_45_145 sc_25.n rfl rfl rfl r_25_0 (n_iload c_45_148 rfl (n_iload c_45_150 rfl (n_aload_n c_45_152 rfl (n_iload c_45_153 rfl (n_iload c_45_155 rfl (n_iadd c_45_157 rfl (n_ialoadV c_45_158 hp.c0.2.2.n rfl rfl rfl (by omega) (t_actrl hS hp hpl (Or.inr rfl) (by omega) (by omega)) ?_))))))))
        intro z3 ez3 f4
        refine n_aload_n c_45_159 rfl (n_getV (bi := 3) c_45_160 sc_25.n rfl rfl rfl hK.w25.2.2 ?_)
        intro z5 ez5 f6
        obtain rfl : z5 = 9 := by omega
        refine n_imul c_45_163 rfl (n_iadd c_45_164 rfl (n_iastoreV hS c_45_165 sc_26.n rfl (by omega) (w_26 (by omega) (by omega)) ?_))
        intro M7 eM7 hS7
        have hK7 := hK.u (by unfold Kok; omega) eM7
        have g7_0 : M7 15 10 = M 15 10 := by rw [eM7]; exact nu_a (by omega)
        refine n_iinc (L2 := [some (2, 25), none, some (2, (p + 2)), none, none, some (0, x5), some (0, x6), some (0, x7), some (0, x8), some (0, (x9 + 1)), some (0, x10), some (0, x11), some (0, x12), some (0, x13), some (0, x14)]) c_45_166 rfl rfl rfl (n_iinc (L2 := [some (2, 25), none, some (2, (p + 2)), none, none, some (0, x5), some (0, x6), some (0, x7), some (0, x8), some (0, (x9 + 1)), some (0, x10), some (0, x11), some (0, x12), some (0, x13), some (0, (x14 + 1))]) c_45_169 rfl rfl rfl (n_goto c_45_172 (n_fg (le_s (le_n (le_s (le_n (le_n (le_s (le_s (le_s (le_s (le_s (le_s (le_s (le_s (le_s (le_s le_0))))))))))))))) ?_)))
        exact ih.2.2 _ _ _ _ _ _ _ _ _ _ M7 hS7 (by omega) (by omega) (by omega) (by omega) (by omega) (by omega) (by omega) (by omega) (by omega) (by omega) hK7 (by omega) (by omega) (by omega)
set_option maxHeartbeats 4000000 in
theorem fillM25U_1_3 {xs : List Int32} {e : Nat} {ac : Int} {M0 M : nM} {p i j g : Int} (hS : Sf 3 ac M0 M) (hp : ActAt p) (hpl : p < 55 + 3 * ac) (hi : 0 ≤ i ∧ i ≤ 26) (hj : 0 ≤ j ∧ j ≤ 26) (hK : MK 27 27 26 0 0 1 3 9 0 0 0 0 0 0 M) (hg : M 15 10 = g) : nW xs e 45 0 [some (2, 25), some (2, 4), some (2, (p + 2)), some (0, i), some (0, j), none, none, none, none, none, none, none, none, none, none] [] M (nPV fun M1 => Sf 3 ac M0 M1 ∧ (M1 15 10 = g) ∧ MK 27 27 26 0 0 1 3 9 0 0 0 0 0 0 M1) := by
  have hd : (3 : Int) = 2 ∨ (3 : Int) = 3 := by decide
  have hac := hS.2.2.2.2
  refine n_aload_n c_45_0 rfl (n_getV (bi := 1) c_45_1 sc_25.n rfl rfl rfl hK.w25.1 ?_)
  intro z1 ez1 f2
  obtain rfl : z1 = 1 := by omega
  refine n_if0_ne c_45_4 (by omega) ?_ ?_
  · intro h3
    refine n_aload_n c_45_8 rfl (n_getV (bi := 0) c_45_9 sc_4.n rfl rfl rfl (t_4_0 hS) ?_)
    intro z4 ez4 f5
    obtain rfl : z4 = 3 := by omega
    refine n_istore (L2 := [some (2, 25), some (2, 4), some (2, (p + 2)), some (0, i), some (0, j), some (0, 3), none, none, none, none, none, none, none, none, none]) c_45_12 rfl rfl (n_aload_n c_45_14 rfl (n_getR c_45_15 sc_4.n rfl rfl rfl r_4_2 (n_iload_n c_45_18 rfl (n_ialoadV c_45_19 sc_5.n rfl rfl rfl (by omega) (t_5d hS hd (by omega) (by omega)) ?_))))
    intro z6 ez6 f7
    refine n_iload c_45_20 rfl (n_imul c_45_22 rfl (n_aload_n c_45_23 rfl (n_getR c_45_24 sc_4.n rfl rfl rfl r_4_2 (n_iload c_45_27 rfl (n_ialoadV c_45_29 sc_5.n rfl rfl rfl (by omega) (t_5d hS hd (by omega) (by omega)) ?_)))))
    intro z8 ez8 f9
    refine n_iadd c_45_30 rfl (n_iload c_45_31 rfl (n_imul c_45_33 rfl (n_istore (L2 := [some (2, 25), some (2, 4), some (2, (p + 2)), some (0, i), some (0, j), some (0, 3), some (0, (((z6 * 3) + z8) * 3)), none, none, none, none, none, none, none, none]) c_45_34 rfl rfl (n_aload_n c_45_36 rfl (n_getR c_45_37 sc_4.n rfl rfl rfl r_4_3 (n_iload_n c_45_40 rfl (n_ialoadV c_45_41 sc_6.n rfl rfl rfl (by omega) (t_6d hS hd (by omega) (by omega)) ?_)))))))
    intro z10 ez10 f11
    refine n_iload c_45_42 rfl (n_imul c_45_44 rfl (n_aload_n c_45_45 rfl (n_getR c_45_46 sc_4.n rfl rfl rfl r_4_3 (n_iload c_45_49 rfl (n_ialoadV c_45_51 sc_6.n rfl rfl rfl (by omega) (t_6d hS hd (by omega) (by omega)) ?_)))))
    intro z12 ez12 f13
    refine n_iadd c_45_52 rfl (n_iload c_45_53 rfl (n_imul c_45_55 rfl (n_istore (L2 := [some (2, 25), some (2, 4), some (2, (p + 2)), some (0, i), some (0, j), some (0, 3), some (0, (((z6 * 3) + z8) * 3)), some (0, (((z10 * 3) + z12) * 3)), none, none, none, none, none, none, none]) c_45_56 rfl rfl (n_aload_n c_45_58 rfl (n_getR c_45_59 sc_4.n rfl rfl rfl r_4_4 (n_iload_n c_45_62 rfl (n_ialoadV c_45_63 sc_7.n rfl rfl rfl (by omega) (t_7d hS hd (by omega) (by omega)) ?_)))))))
    intro z14 ez14 f15
    refine n_iload c_45_64 rfl (n_imul c_45_66 rfl (n_aload_n c_45_67 rfl (n_getR c_45_68 sc_4.n rfl rfl rfl r_4_4 (n_iload c_45_71 rfl (n_ialoadV c_45_73 sc_7.n rfl rfl rfl (by omega) (t_7d hS hd (by omega) (by omega)) ?_)))))
    intro z16 ez16 f17
    refine n_iadd c_45_74 rfl (n_iload c_45_75 rfl (n_imul c_45_77 rfl (n_istore (L2 := [some (2, 25), some (2, 4), some (2, (p + 2)), some (0, i), some (0, j), some (0, 3), some (0, (((z6 * 3) + z8) * 3)), some (0, (((z10 * 3) + z12) * 3)), some (0, (((z14 * 3) + z16) * 3)), none, none, none, none, none, none]) c_45_78 rfl rfl (n_iconst c_45_80 (n_istore (L2 := [some (2, 25), some (2, 4), some (2, (p + 2)), some (0, i), some (0, j), some (0, 3), some (0, (((z6 * 3) + z8) * 3)), some (0, (((z10 * 3) + z12) * 3)), some (0, (((z14 * 3) + z16) * 3)), some (0, 0), none, none, none, none, none]) c_45_81 rfl rfl (n_iconst c_45_83 (n_istore (L2 := [some (2, 25), some (2, 4), some (2, (p + 2)), some (0, i), some (0, j), some (0, 3), some (0, (((z6 * 3) + z8) * 3)), some (0, (((z10 * 3) + z12) * 3)), some (0, (((z14 * 3) + z16) * 3)), some (0, 0), some (0, 0), none, none, none, none]) c_45_84 rfl rfl (n_fg (le_s (le_n (le_s (le_n (le_n (le_s (le_s (le_s (le_s (le_s (le_s (le_n (le_n (le_n (le_n le_0))))))))))))))) ?_))))))))
    exact (fillM25U_1_3_c hS hp hpl hi hj hK hg 320).1 _ _ _ _ _ _ M hS (by omega) (by omega) (by omega) (by omega) (by omega) (by omega) hK (by omega) (by omega) (by omega)
  · intro h18
    exfalso; omega

set_option maxHeartbeats 4000000 in
theorem fillM27U_1_3 {xs : List Int32} {e : Nat} {ac : Int} {M0 M : nM} {p i j g : Int} (hS : Sf 3 ac M0 M) (hp : ActAt p) (hpl : p < 55 + 3 * ac) (hi : 0 ≤ i ∧ i ≤ 26) (hj : 0 ≤ j ∧ j ≤ 26) (hK : MK 27 27 26 0 0 1 3 9 0 0 0 0 0 0 M) (hg : M 15 10 = g) : nW xs e 45 0 [some (2, 27), some (2, 4), some (2, (p + 2)), some (0, i), some (0, j), none, none, none, none, none, none, none, none, none, none] [] M (nPV fun M1 => Sf 3 ac M0 M1 ∧ (M1 15 10 = g) ∧ MK 27 27 26 0 0 1 3 9 0 0 0 0 0 0 M1) := by
  have hd : (3 : Int) = 2 ∨ (3 : Int) = 3 := by decide
  have hac := hS.2.2.2.2
  refine n_aload_n c_45_0 rfl (n_getV (bi := 1) c_45_1 sc_27.n rfl rfl rfl hK.w27.1 ?_)
  intro z1 ez1 f2
  obtain rfl : z1 = 0 := by omega
  refine n_if0_ne c_45_4 (by omega) ?_ ?_
  · intro h3
    exfalso; omega
  · intro h4
    exact n_rV c_45_7 rfl ⟨hS, by omega, hK⟩

set_option maxHeartbeats 4000000 in
theorem fillM29U_1_3 {xs : List Int32} {e : Nat} {ac : Int} {M0 M : nM} {p i j g : Int} (hS : Sf 3 ac M0 M) (hp : ActAt p) (hpl : p < 55 + 3 * ac) (hi : 0 ≤ i ∧ i ≤ 26) (hj : 0 ≤ j ∧ j ≤ 26) (hK : MK 27 27 26 0 0 1 3 9 0 0 0 0 0 0 M) (hg : M 15 10 = g) : nW xs e 45 0 [some (2, 29), some (2, 4), some (2, (p + 2)), some (0, i), some (0, j), none, none, none, none, none, none, none, none, none, none] [] M (nPV fun M1 => Sf 3 ac M0 M1 ∧ (M1 15 10 = g) ∧ MK 27 27 26 0 0 1 3 9 0 0 0 0 0 0 M1) := by
  have hd : (3 : Int) = 2 ∨ (3 : Int) = 3 := by decide
  have hac := hS.2.2.2.2
  refine n_aload_n c_45_0 rfl (n_getV (bi := 1) c_45_1 sc_29.n rfl rfl rfl hK.w29.1 ?_)
  intro z1 ez1 f2
  obtain rfl : z1 = 0 := by omega
  refine n_if0_ne c_45_4 (by omega) ?_ ?_
  · intro h3
    exfalso; omega
  · intro h4
    exact n_rV c_45_7 rfl ⟨hS, by omega, hK⟩

set_option maxHeartbeats 4000000 in
theorem sweepT_1_3_c {xs : List Int32} {e : Nat} {ac : Int} {M0 M : nM} {p x y f t s : Int} {g : Int} (hS : Sf 3 ac M0 M) (hp : ActAt p) (hpl : p < 55 + 3 * ac) (hx : 0 ≤ x ∧ x ≤ 256) (hy : 0 ≤ y ∧ y ≤ 256) (hf : 0 ≤ f ∧ f ≤ 256) (ht : -1 ≤ t ∧ t ≤ 256) (hs : -2147483648 ≤ s ∧ s ≤ 2147483647) (hK : MK 27 27 26 0 0 1 3 9 0 0 0 0 0 0 M) (hxg : x < g) (hyg : y < g) (htg : t < g) (hg : g ≤ M 15 10) : ∀ nn : Nat, (∀ (x7 : Int) (M : nM), Sf 3 ac M0 M → (0 ≤ t ∧ t ≤ 256) → (0 ≤ x7 ∧ x7 ≤ 257) → (MK 27 27 26 0 0 1 3 9 0 0 0 0 0 0 M) → (g ≤ M 15 10) → (257 - x7) * 2 + 2 < (nn : Int) → nW xs (e + 2) 55 111 [some (2, 15), none, none, none, none, some (0, t), some (0, s), some (0, x7), none, none, none] [] M (nPV fun M1 => Sf 3 ac M0 M1 ∧ MK 27 27 26 0 0 1 3 9 0 0 0 0 0 0 M1 ∧ (g ≤ M1 15 10))) ∧ (∀ (x7 : Int) (M : nM), Sf 3 ac M0 M → (0 ≤ t ∧ t ≤ 256) → (0 ≤ x7 ∧ x7 ≤ 256) → (MK 27 27 26 0 0 1 3 9 0 0 0 0 0 0 M) → (g ≤ M 15 10) → (257 - x7) * 2 + 1 < (nn : Int) → nW xs (e + 2) 55 242 [some (2, 15), none, none, none, none, some (0, t), some (0, s), some (0, x7), none, none, none] [] M (nPV fun M1 => Sf 3 ac M0 M1 ∧ MK 27 27 26 0 0 1 3 9 0 0 0 0 0 0 M1 ∧ (g ≤ M1 15 10))) := by
  have hd : (3 : Int) = 2 ∨ (3 : Int) = 3 := by decide
  have hac := hS.2.2.2.2
  intro nn
  induction nn with
  | zero => refine ⟨?_, ?_⟩ <;> (intros; omega)
  | succ nn ih =>
    refine ⟨?_, ?_⟩
    · intro x7 M hS k5 k7 hK v0 hnn
      refine n_iload c_55_111 rfl (n_iload c_55_113 rfl ?_)
      refine n_if2_gt c_55_115 (by omega) (by omega) ?_ ?_
      · intro h1
        exact n_rV c_55_248 rfl ⟨hS, hK, by omega⟩
      · intro h2
        refine n_iload c_55_118 rfl (n_aload_n c_55_120 rfl (n_getR c_55_121 sc_15.n rfl rfl rfl r_15_2 (n_iload c_55_124 rfl (n_ialoadV c_55_126 sc_21.n rfl rfl rfl (by omega) (t_21 hS (by omega)) ?_))))
        intro z3 ez3 f4
        refine n_iadd c_55_127 rfl (n_wrap ?_)
        have f5 := n_wr_r (s + z3)
        generalize n_wr (s + z3) = z6 at f5 ⊢
        refine n_istore (L2 := [some (2, 15), none, none, none, none, some (0, t), some (0, s), some (0, x7), some (0, z6), none, none]) c_55_128 rfl rfl (n_iload c_55_130 rfl (n_aload_n c_55_132 rfl (n_getV (bi := 11) c_55_133 sc_15.n rfl rfl rfl (t_15_11 hS) ?_)))
        intro z7 ez7 f8
        refine n_if2_lt c_55_136 (by omega) (by omega) ?_ ?_
        · intro h9
          refine n_aload_n c_55_140 rfl (n_getR c_55_141 sc_15.n rfl rfl rfl r_15_6 (n_getR c_55_144 sc_25.n rfl rfl rfl r_25_0 (n_aload_n c_55_147 rfl (n_getR c_55_148 sc_15.n rfl rfl rfl r_15_3 (n_iload c_55_151 rfl (n_ialoadV c_55_153 sc_22.n rfl rfl rfl (by omega) (hK.r22 hS (by omega) (by omega)) ?_))))))
          intro z10 ez10 f11
          refine n_ialoadV c_55_154 sc_26.n rfl rfl rfl (by omega) (hK.l26 (by omega) (by omega)) ?_
          intro z12 ez12 f13
          refine n_aload_n c_55_155 rfl (n_getR c_55_156 sc_15.n rfl rfl rfl r_15_7 (n_getR c_55_159 sc_27.n rfl rfl rfl r_27_0 (n_aload_n c_55_162 rfl (n_getR c_55_163 sc_15.n rfl rfl rfl r_15_4 (n_iload c_55_166 rfl (n_ialoadV c_55_168 sc_23.n rfl rfl rfl (by omega) (hK.r23 hS (by omega) (by omega)) ?_))))))
          intro z14 ez14 f15
          refine n_ialoadV c_55_169 sc_28.n rfl rfl rfl (by omega) (hK.l28 (by omega) (by omega)) ?_
          intro z16 ez16 f17
          refine n_iadd c_55_170 rfl (n_aload_n c_55_171 rfl (n_getR c_55_172 sc_15.n rfl rfl rfl r_15_8 (n_getR c_55_175 sc_29.n rfl rfl rfl r_29_0 (n_aload_n c_55_178 rfl (n_getR c_55_179 sc_15.n rfl rfl rfl r_15_5 (n_iload c_55_182 rfl (n_ialoadV c_55_184 sc_24.n rfl rfl rfl (by omega) (hK.r24 hS (by omega) (by omega)) ?_)))))))
          intro z18 ez18 f19
          refine n_ialoadV c_55_185 sc_30.n rfl rfl rfl (by omega) (hK.l30 (by omega) (by omega)) ?_
          intro z20 ez20 f21
          refine n_iadd c_55_186 rfl (n_istore (L2 := [some (2, 15), none, none, none, none, some (0, t), some (0, s), some (0, x7), some (0, z6), some (0, ((z12 + z16) + z20)), none]) c_55_187 rfl rfl (n_aload_n c_55_189 rfl (n_getP c_55_190 ?_)))
          intro p22 ep22
          refine n_iload c_55_193 rfl (n_ialoadP hS hK c_55_195 ep22 (by omega) ?_)
          intro z23 hz23
          refine n_iconst c_55_196 (n_isub c_55_197 rfl (n_istore (L2 := [some (2, 15), none, none, none, none, some (0, t), some (0, s), some (0, x7), some (0, z6), some (0, ((z12 + z16) + z20)), some (0, (z23 - 1))]) c_55_198 rfl rfl (n_iload c_55_200 rfl ?_)))
          refine n_if0_ge c_55_202 (by omega) ?_ ?_
          · intro h24
            refine n_iload c_55_221 rfl (n_aload_n c_55_223 rfl (n_getR c_55_224 sc_15.n rfl rfl rfl r_15_2 (n_iload c_55_227 rfl (n_ialoadV c_55_229 sc_21.n rfl rfl rfl (by omega) (t_21 hS (by omega)) ?_))))
            intro z25 ez25 f26
            refine n_if2_ge c_55_230 (by omega) (by omega) ?_ ?_
            · intro h27
              refine n_fg (le_s (le_n (le_n (le_n (le_n (le_s (le_s (le_s (le_n (le_n (le_n le_0))))))))))) ?_
              exact ih.2 _ M hS (by omega) (by omega) hK (by omega) (by omega)
            · intro h28
              refine n_aload_n c_55_233 rfl (n_getR c_55_234 sc_15.n rfl rfl rfl r_15_2 (n_iload c_55_237 rfl (n_iload c_55_239 rfl (n_iastoreV hS c_55_241 sc_21.n rfl (by omega) (w_21 (by omega) (by omega)) ?_))))
              intro M29 eM29 hS29
              have hK29 := hK.u (by unfold Kok; omega) eM29
              have g29_0 : M29 15 10 = M 15 10 := by rw [eM29]; exact nu_a (by omega)
              have g29_1 : M29 15 11 = M 15 11 := by rw [eM29]; exact nu_a (by omega)
              refine n_fg (le_s (le_n (le_n (le_n (le_n (le_s (le_s (le_s (le_n (le_n (le_n le_0))))))))))) ?_
              exact ih.2 _ M29 hS29 (by omega) (by omega) hK29 (by omega) (by omega)
          · intro h30
            refine n_aload_n c_55_205 rfl (n_iload c_55_206 rfl (n_iload c_55_208 rfl (n_ldc (n := 1000000) c_55_210 rfl (n_s2I c_55_212 rfl rfl rfl rfl (imin_3 (x := z6) (y := 1000000) hS (by omega) (by omega)) ?_))))
            intro z31 M32 hP33
            obtain ⟨eM, f33, f33p0⟩ := hP33
            subst eM
            refine n_v2V c_55_215 rfl sc_15.n rfl rfl rfl rfl (add_1_3 (c := ((z12 + z16) + z20)) (s := z31) hS (by omega) (by omega) hK) ?_
            intro  M34 hP35
            obtain ⟨hS34, f35K, f35p0⟩ := hP35
            refine n_goto c_55_218 (n_fg (le_s (le_n (le_n (le_n (le_n (le_s (le_s (le_s (le_n (le_n (le_n le_0))))))))))) ?_)
            exact ih.2 _ M34 hS34 (by omega) (by omega) f35K (by omega) (by omega)
        · intro h36
          exact n_rV c_55_139 rfl ⟨hS, hK, by omega⟩
    · intro x7 M hS k5 k7 hK v0 hnn
      refine n_iinc (L2 := [some (2, 15), none, none, none, none, some (0, t), some (0, s), some (0, (x7 + 1)), none, none, none]) c_55_242 rfl rfl rfl (n_goto c_55_245 (n_fg (le_s (le_n (le_n (le_n (le_n (le_s (le_s (le_s (le_n (le_n (le_n le_0))))))))))) ?_))
      exact ih.1 _ M hS (by omega) (by omega) hK (by omega) (by omega)
set_option maxHeartbeats 4000000 in
theorem sweepT_1_3 {xs : List Int32} {e : Nat} {ac : Int} {M0 M : nM} {p x y f t s : Int} {g : Int} (hS : Sf 3 ac M0 M) (hp : ActAt p) (hpl : p < 55 + 3 * ac) (hx : 0 ≤ x ∧ x ≤ 256) (hy : 0 ≤ y ∧ y ≤ 256) (hf : 0 ≤ f ∧ f ≤ 256) (ht : -1 ≤ t ∧ t ≤ 256) (hs : -2147483648 ≤ s ∧ s ≤ 2147483647) (hK : MK 27 27 26 0 0 1 3 9 0 0 0 0 0 0 M) (hxg : x < g) (hyg : y < g) (htg : t < g) (hg : g ≤ M 15 10) : nW xs (e + 2) 55 0 [some (2, 15), some (2, (p + 1)), some (0, x), some (0, y), some (0, f), some (0, t), some (0, s), none, none, none, none] [] M (nPV fun M1 => Sf 3 ac M0 M1 ∧ MK 27 27 26 0 0 1 3 9 0 0 0 0 0 0 M1 ∧ (g ≤ M1 15 10)) := by
  have hd : (3 : Int) = 2 ∨ (3 : Int) = 3 := by decide
  have hac := hS.2.2.2.2
  refine n_iload c_55_0 rfl (n_iload c_55_2 rfl ?_)
  refine n_if2_gt c_55_4 (by omega) (by omega) ?_ ?_
  · intro h1
    exact n_rV c_55_34 rfl ⟨hS, hK, by omega⟩
  · intro h2
    refine n_aload_n c_55_7 rfl (n_getV (bi := 10) c_55_8 sc_15.n rfl rfl rfl (t_15_10 hS) ?_)
    intro z3 ez3 f4
    refine n_sipush c_55_11 rfl ?_
    refine n_if2_gt c_55_14 (by omega) (by omega) ?_ ?_
    · intro h5
      exact n_rV c_55_34 rfl ⟨hS, hK, by omega⟩
    · intro h6
      refine n_iload c_55_17 rfl (n_aload_n c_55_19 rfl (n_getR c_55_20 sc_15.n rfl rfl rfl r_15_2 (n_iload c_55_23 rfl (n_ialoadV c_55_25 sc_21.n rfl rfl rfl (by omega) (t_21 hS (by omega)) ?_))))
      intro z7 ez7 f8
      refine n_iadd c_55_26 rfl (n_wrap ?_)
      have f9 := n_wr_r (s + z7)
      generalize n_wr (s + z7) = z10 at f9 ⊢
      refine n_aload_n c_55_27 rfl (n_getV (bi := 11) c_55_28 sc_15.n rfl rfl rfl (t_15_11 hS) ?_)
      intro z11 ez11 f12
      refine n_if2_lt c_55_31 (by omega) (by omega) ?_ ?_
      · intro h13
        refine n_aload_n c_55_35 rfl (n_getR c_55_36 sc_15.n rfl rfl rfl r_15_6 (n_aload_n c_55_39 rfl (n_getB c_55_40 hK.b (n_aload_n c_55_43 rfl (n_aload_n c_55_44 rfl (n_getR c_55_45 sc_15.n rfl rfl rfl r_15_3 (n_iload_n c_55_48 rfl (n_ialoadV c_55_49 sc_22.n rfl rfl rfl (by omega) (hK.r22 hS (by omega) (by omega)) ?_))))))))
        intro z14 ez14 f15
        refine n_aload_n c_55_50 rfl (n_getR c_55_51 sc_15.n rfl rfl rfl r_15_3 (n_iload_n c_55_54 rfl (n_ialoadV c_55_55 sc_22.n rfl rfl rfl (by omega) (hK.r22 hS (by omega) (by omega)) ?_)))
        intro z16 ez16 f17
        refine n_v4V c_55_56 rfl sc_25.n rfl rfl rfl rfl (fillM25T_1_3 (p := p) (i := z14) (j := z16) (g := (M 15 10)) hS hp hpl (by omega) (by omega) hK rfl) ?_
        intro  M18 hP19
        obtain ⟨hS18, f19g0, f19K⟩ := hP19
        refine n_aload_n c_55_59 rfl (n_getR c_55_60 sc_15.n rfl rfl rfl r_15_7 (n_aload_n c_55_63 rfl (n_getB c_55_64 f19K.b (n_aload_n c_55_67 rfl (n_aload_n c_55_68 rfl (n_getR c_55_69 sc_15.n rfl rfl rfl r_15_4 (n_iload_n c_55_72 rfl (n_ialoadV c_55_73 sc_23.n rfl rfl rfl (by omega) (f19K.r23 hS18 (by omega) (by omega)) ?_))))))))
        intro z20 ez20 f21
        refine n_aload_n c_55_74 rfl (n_getR c_55_75 sc_15.n rfl rfl rfl r_15_4 (n_iload_n c_55_78 rfl (n_ialoadV c_55_79 sc_23.n rfl rfl rfl (by omega) (f19K.r23 hS18 (by omega) (by omega)) ?_)))
        intro z22 ez22 f23
        refine n_v4V c_55_80 rfl sc_27.n rfl rfl rfl rfl (fillM27T_1_3 (p := p) (i := z20) (j := z22) (g := (M18 15 10)) hS18 hp hpl (by omega) (by omega) f19K rfl) ?_
        intro  M24 hP25
        obtain ⟨hS24, f25g0, f25K⟩ := hP25
        refine n_aload_n c_55_83 rfl (n_getR c_55_84 sc_15.n rfl rfl rfl r_15_8 (n_aload_n c_55_87 rfl (n_getB c_55_88 f25K.b (n_aload_n c_55_91 rfl (n_aload_n c_55_92 rfl (n_getR c_55_93 sc_15.n rfl rfl rfl r_15_5 (n_iload_n c_55_96 rfl (n_ialoadV c_55_97 sc_24.n rfl rfl rfl (by omega) (f25K.r24 hS24 (by omega) (by omega)) ?_))))))))
        intro z26 ez26 f27
        refine n_aload_n c_55_98 rfl (n_getR c_55_99 sc_15.n rfl rfl rfl r_15_5 (n_iload_n c_55_102 rfl (n_ialoadV c_55_103 sc_24.n rfl rfl rfl (by omega) (f25K.r24 hS24 (by omega) (by omega)) ?_)))
        intro z28 ez28 f29
        refine n_v4V c_55_104 rfl sc_29.n rfl rfl rfl rfl (fillM29T_1_3 (p := p) (i := z26) (j := z28) (g := (M24 15 10)) hS24 hp hpl (by omega) (by omega) f25K rfl) ?_
        intro  M30 hP31
        obtain ⟨hS30, f31g0, f31K⟩ := hP31
        refine n_iload c_55_107 rfl (n_istore (L2 := [some (2, 15), some (2, (p + 1)), some (0, x), some (0, y), some (0, f), some (0, t), some (0, s), some (0, f), none, none, none]) c_55_109 rfl rfl (n_fg (le_s (le_n (le_n (le_n (le_n (le_s (le_s (le_s (le_n (le_n (le_n le_0))))))))))) ?_))
        exact (sweepT_1_3_c hS hp hpl hx hy hf ht hs hK hxg hyg htg hg 1046).1 _ M30 hS30 (by omega) (by omega) f31K (by omega) (by omega)
      · intro h32
        exact n_rV c_55_34 rfl ⟨hS, hK, by omega⟩

set_option maxHeartbeats 4000000 in
theorem sweepU_1_3_c {xs : List Int32} {e : Nat} {ac : Int} {M0 M : nM} {p x y f t s : Int} {g : Int} (hS : Sf 3 ac M0 M) (hp : ActAt p) (hpl : p < 55 + 3 * ac) (hx : 0 ≤ x ∧ x ≤ 256) (hy : 0 ≤ y ∧ y ≤ 256) (hf : 0 ≤ f ∧ f ≤ 256) (ht : -1 ≤ t ∧ t ≤ 256) (hs : -2147483648 ≤ s ∧ s ≤ 2147483647) (hK : MK 27 27 26 0 0 1 3 9 0 0 0 0 0 0 M) (hxg : x < g) (hyg : y < g) (htg : t < g) (hg : g ≤ M 15 10) : ∀ nn : Nat, (∀ (x7 : Int) (M : nM), Sf 3 ac M0 M → (0 ≤ t ∧ t ≤ 256) → (0 ≤ x7 ∧ x7 ≤ 257) → (MK 27 27 26 0 0 1 3 9 0 0 0 0 0 0 M) → (g ≤ M 15 10) → (257 - x7) * 2 + 2 < (nn : Int) → nW xs (e + 2) 55 111 [some (2, 15), none, none, none, none, some (0, t), some (0, s), some (0, x7), none, none, none] [] M (nPV fun M1 => Sf 3 ac M0 M1 ∧ MK 27 27 26 0 0 1 3 9 0 0 0 0 0 0 M1 ∧ (g ≤ M1 15 10))) ∧ (∀ (x7 : Int) (M : nM), Sf 3 ac M0 M → (0 ≤ t ∧ t ≤ 256) → (0 ≤ x7 ∧ x7 ≤ 256) → (MK 27 27 26 0 0 1 3 9 0 0 0 0 0 0 M) → (g ≤ M 15 10) → (257 - x7) * 2 + 1 < (nn : Int) → nW xs (e + 2) 55 242 [some (2, 15), none, none, none, none, some (0, t), some (0, s), some (0, x7), none, none, none] [] M (nPV fun M1 => Sf 3 ac M0 M1 ∧ MK 27 27 26 0 0 1 3 9 0 0 0 0 0 0 M1 ∧ (g ≤ M1 15 10))) := by
  have hd : (3 : Int) = 2 ∨ (3 : Int) = 3 := by decide
  have hac := hS.2.2.2.2
  intro nn
  induction nn with
  | zero => refine ⟨?_, ?_⟩ <;> (intros; omega)
  | succ nn ih =>
    refine ⟨?_, ?_⟩
    · intro x7 M hS k5 k7 hK v0 hnn
      refine n_iload c_55_111 rfl (n_iload c_55_113 rfl ?_)
      refine n_if2_gt c_55_115 (by omega) (by omega) ?_ ?_
      · intro h1
        exact n_rV c_55_248 rfl ⟨hS, hK, by omega⟩
      · intro h2
        refine n_iload c_55_118 rfl (n_aload_n c_55_120 rfl (n_getR c_55_121 sc_15.n rfl rfl rfl r_15_2 (n_iload c_55_124 rfl (n_ialoadV c_55_126 sc_21.n rfl rfl rfl (by omega) (t_21 hS (by omega)) ?_))))
        intro z3 ez3 f4
        refine n_iadd c_55_127 rfl (n_wrap ?_)
        have f5 := n_wr_r (s + z3)
        generalize n_wr (s + z3) = z6 at f5 ⊢
        refine n_istore (L2 := [some (2, 15), none, none, none, none, some (0, t), some (0, s), some (0, x7), some (0, z6), none, none]) c_55_128 rfl rfl (n_iload c_55_130 rfl (n_aload_n c_55_132 rfl (n_getV (bi := 11) c_55_133 sc_15.n rfl rfl rfl (t_15_11 hS) ?_)))
        intro z7 ez7 f8
        refine n_if2_lt c_55_136 (by omega) (by omega) ?_ ?_
        · intro h9
          refine n_aload_n c_55_140 rfl (n_getR c_55_141 sc_15.n rfl rfl rfl r_15_6 (n_getR c_55_144 sc_25.n rfl rfl rfl r_25_0 (n_aload_n c_55_147 rfl (n_getR c_55_148 sc_15.n rfl rfl rfl r_15_3 (n_iload c_55_151 rfl (n_ialoadV c_55_153 sc_22.n rfl rfl rfl (by omega) (hK.r22 hS (by omega) (by omega)) ?_))))))
          intro z10 ez10 f11
          refine n_ialoadV c_55_154 sc_26.n rfl rfl rfl (by omega) (hK.l26 (by omega) (by omega)) ?_
          intro z12 ez12 f13
          refine n_aload_n c_55_155 rfl (n_getR c_55_156 sc_15.n rfl rfl rfl r_15_7 (n_getR c_55_159 sc_27.n rfl rfl rfl r_27_0 (n_aload_n c_55_162 rfl (n_getR c_55_163 sc_15.n rfl rfl rfl r_15_4 (n_iload c_55_166 rfl (n_ialoadV c_55_168 sc_23.n rfl rfl rfl (by omega) (hK.r23 hS (by omega) (by omega)) ?_))))))
          intro z14 ez14 f15
          refine n_ialoadV c_55_169 sc_28.n rfl rfl rfl (by omega) (hK.l28 (by omega) (by omega)) ?_
          intro z16 ez16 f17
          refine n_iadd c_55_170 rfl (n_aload_n c_55_171 rfl (n_getR c_55_172 sc_15.n rfl rfl rfl r_15_8 (n_getR c_55_175 sc_29.n rfl rfl rfl r_29_0 (n_aload_n c_55_178 rfl (n_getR c_55_179 sc_15.n rfl rfl rfl r_15_5 (n_iload c_55_182 rfl (n_ialoadV c_55_184 sc_24.n rfl rfl rfl (by omega) (hK.r24 hS (by omega) (by omega)) ?_)))))))
          intro z18 ez18 f19
          refine n_ialoadV c_55_185 sc_30.n rfl rfl rfl (by omega) (hK.l30 (by omega) (by omega)) ?_
          intro z20 ez20 f21
          refine n_iadd c_55_186 rfl (n_istore (L2 := [some (2, 15), none, none, none, none, some (0, t), some (0, s), some (0, x7), some (0, z6), some (0, ((z12 + z16) + z20)), none]) c_55_187 rfl rfl (n_aload_n c_55_189 rfl (n_getP c_55_190 ?_)))
          intro p22 ep22
          refine n_iload c_55_193 rfl (n_ialoadP hS hK c_55_195 ep22 (by omega) ?_)
          intro z23 hz23
          refine n_iconst c_55_196 (n_isub c_55_197 rfl (n_istore (L2 := [some (2, 15), none, none, none, none, some (0, t), some (0, s), some (0, x7), some (0, z6), some (0, ((z12 + z16) + z20)), some (0, (z23 - 1))]) c_55_198 rfl rfl (n_iload c_55_200 rfl ?_)))
          refine n_if0_ge c_55_202 (by omega) ?_ ?_
          · intro h24
            refine n_iload c_55_221 rfl (n_aload_n c_55_223 rfl (n_getR c_55_224 sc_15.n rfl rfl rfl r_15_2 (n_iload c_55_227 rfl (n_ialoadV c_55_229 sc_21.n rfl rfl rfl (by omega) (t_21 hS (by omega)) ?_))))
            intro z25 ez25 f26
            refine n_if2_ge c_55_230 (by omega) (by omega) ?_ ?_
            · intro h27
              refine n_fg (le_s (le_n (le_n (le_n (le_n (le_s (le_s (le_s (le_n (le_n (le_n le_0))))))))))) ?_
              exact ih.2 _ M hS (by omega) (by omega) hK (by omega) (by omega)
            · intro h28
              refine n_aload_n c_55_233 rfl (n_getR c_55_234 sc_15.n rfl rfl rfl r_15_2 (n_iload c_55_237 rfl (n_iload c_55_239 rfl (n_iastoreV hS c_55_241 sc_21.n rfl (by omega) (w_21 (by omega) (by omega)) ?_))))
              intro M29 eM29 hS29
              have hK29 := hK.u (by unfold Kok; omega) eM29
              have g29_0 : M29 15 10 = M 15 10 := by rw [eM29]; exact nu_a (by omega)
              have g29_1 : M29 15 11 = M 15 11 := by rw [eM29]; exact nu_a (by omega)
              refine n_fg (le_s (le_n (le_n (le_n (le_n (le_s (le_s (le_s (le_n (le_n (le_n le_0))))))))))) ?_
              exact ih.2 _ M29 hS29 (by omega) (by omega) hK29 (by omega) (by omega)
          · intro h30
            refine n_aload_n c_55_205 rfl (n_iload c_55_206 rfl (n_iload c_55_208 rfl (n_ldc (n := 1000000) c_55_210 rfl (n_s2I c_55_212 rfl rfl rfl rfl (imin_3 (x := z6) (y := 1000000) hS (by omega) (by omega)) ?_))))
            intro z31 M32 hP33
            obtain ⟨eM, f33, f33p0⟩ := hP33
            subst eM
            refine n_v2V c_55_215 rfl sc_15.n rfl rfl rfl rfl (add_1_3 (c := ((z12 + z16) + z20)) (s := z31) hS (by omega) (by omega) hK) ?_
            intro  M34 hP35
            obtain ⟨hS34, f35K, f35p0⟩ := hP35
            refine n_goto c_55_218 (n_fg (le_s (le_n (le_n (le_n (le_n (le_s (le_s (le_s (le_n (le_n (le_n le_0))))))))))) ?_)
            exact ih.2 _ M34 hS34 (by omega) (by omega) f35K (by omega) (by omega)
        · intro h36
          exact n_rV c_55_139 rfl ⟨hS, hK, by omega⟩
    · intro x7 M hS k5 k7 hK v0 hnn
      refine n_iinc (L2 := [some (2, 15), none, none, none, none, some (0, t), some (0, s), some (0, (x7 + 1)), none, none, none]) c_55_242 rfl rfl rfl (n_goto c_55_245 (n_fg (le_s (le_n (le_n (le_n (le_n (le_s (le_s (le_s (le_n (le_n (le_n le_0))))))))))) ?_))
      exact ih.1 _ M hS (by omega) (by omega) hK (by omega) (by omega)
set_option maxHeartbeats 4000000 in
theorem sweepU_1_3 {xs : List Int32} {e : Nat} {ac : Int} {M0 M : nM} {p x y f t s : Int} {g : Int} (hS : Sf 3 ac M0 M) (hp : ActAt p) (hpl : p < 55 + 3 * ac) (hx : 0 ≤ x ∧ x ≤ 256) (hy : 0 ≤ y ∧ y ≤ 256) (hf : 0 ≤ f ∧ f ≤ 256) (ht : -1 ≤ t ∧ t ≤ 256) (hs : -2147483648 ≤ s ∧ s ≤ 2147483647) (hK : MK 27 27 26 0 0 1 3 9 0 0 0 0 0 0 M) (hxg : x < g) (hyg : y < g) (htg : t < g) (hg : g ≤ M 15 10) : nW xs (e + 2) 55 0 [some (2, 15), some (2, (p + 2)), some (0, x), some (0, y), some (0, f), some (0, t), some (0, s), none, none, none, none] [] M (nPV fun M1 => Sf 3 ac M0 M1 ∧ MK 27 27 26 0 0 1 3 9 0 0 0 0 0 0 M1 ∧ (g ≤ M1 15 10)) := by
  have hd : (3 : Int) = 2 ∨ (3 : Int) = 3 := by decide
  have hac := hS.2.2.2.2
  refine n_iload c_55_0 rfl (n_iload c_55_2 rfl ?_)
  refine n_if2_gt c_55_4 (by omega) (by omega) ?_ ?_
  · intro h1
    exact n_rV c_55_34 rfl ⟨hS, hK, by omega⟩
  · intro h2
    refine n_aload_n c_55_7 rfl (n_getV (bi := 10) c_55_8 sc_15.n rfl rfl rfl (t_15_10 hS) ?_)
    intro z3 ez3 f4
    refine n_sipush c_55_11 rfl ?_
    refine n_if2_gt c_55_14 (by omega) (by omega) ?_ ?_
    · intro h5
      exact n_rV c_55_34 rfl ⟨hS, hK, by omega⟩
    · intro h6
      refine n_iload c_55_17 rfl (n_aload_n c_55_19 rfl (n_getR c_55_20 sc_15.n rfl rfl rfl r_15_2 (n_iload c_55_23 rfl (n_ialoadV c_55_25 sc_21.n rfl rfl rfl (by omega) (t_21 hS (by omega)) ?_))))
      intro z7 ez7 f8
      refine n_iadd c_55_26 rfl (n_wrap ?_)
      have f9 := n_wr_r (s + z7)
      generalize n_wr (s + z7) = z10 at f9 ⊢
      refine n_aload_n c_55_27 rfl (n_getV (bi := 11) c_55_28 sc_15.n rfl rfl rfl (t_15_11 hS) ?_)
      intro z11 ez11 f12
      refine n_if2_lt c_55_31 (by omega) (by omega) ?_ ?_
      · intro h13
        refine n_aload_n c_55_35 rfl (n_getR c_55_36 sc_15.n rfl rfl rfl r_15_6 (n_aload_n c_55_39 rfl (n_getB c_55_40 hK.b (n_aload_n c_55_43 rfl (n_aload_n c_55_44 rfl (n_getR c_55_45 sc_15.n rfl rfl rfl r_15_3 (n_iload_n c_55_48 rfl (n_ialoadV c_55_49 sc_22.n rfl rfl rfl (by omega) (hK.r22 hS (by omega) (by omega)) ?_))))))))
        intro z14 ez14 f15
        refine n_aload_n c_55_50 rfl (n_getR c_55_51 sc_15.n rfl rfl rfl r_15_3 (n_iload_n c_55_54 rfl (n_ialoadV c_55_55 sc_22.n rfl rfl rfl (by omega) (hK.r22 hS (by omega) (by omega)) ?_)))
        intro z16 ez16 f17
        refine n_v4V c_55_56 rfl sc_25.n rfl rfl rfl rfl (fillM25U_1_3 (p := p) (i := z14) (j := z16) (g := (M 15 10)) hS hp hpl (by omega) (by omega) hK rfl) ?_
        intro  M18 hP19
        obtain ⟨hS18, f19g0, f19K⟩ := hP19
        refine n_aload_n c_55_59 rfl (n_getR c_55_60 sc_15.n rfl rfl rfl r_15_7 (n_aload_n c_55_63 rfl (n_getB c_55_64 f19K.b (n_aload_n c_55_67 rfl (n_aload_n c_55_68 rfl (n_getR c_55_69 sc_15.n rfl rfl rfl r_15_4 (n_iload_n c_55_72 rfl (n_ialoadV c_55_73 sc_23.n rfl rfl rfl (by omega) (f19K.r23 hS18 (by omega) (by omega)) ?_))))))))
        intro z20 ez20 f21
        refine n_aload_n c_55_74 rfl (n_getR c_55_75 sc_15.n rfl rfl rfl r_15_4 (n_iload_n c_55_78 rfl (n_ialoadV c_55_79 sc_23.n rfl rfl rfl (by omega) (f19K.r23 hS18 (by omega) (by omega)) ?_)))
        intro z22 ez22 f23
        refine n_v4V c_55_80 rfl sc_27.n rfl rfl rfl rfl (fillM27U_1_3 (p := p) (i := z20) (j := z22) (g := (M18 15 10)) hS18 hp hpl (by omega) (by omega) f19K rfl) ?_
        intro  M24 hP25
        obtain ⟨hS24, f25g0, f25K⟩ := hP25
        refine n_aload_n c_55_83 rfl (n_getR c_55_84 sc_15.n rfl rfl rfl r_15_8 (n_aload_n c_55_87 rfl (n_getB c_55_88 f25K.b (n_aload_n c_55_91 rfl (n_aload_n c_55_92 rfl (n_getR c_55_93 sc_15.n rfl rfl rfl r_15_5 (n_iload_n c_55_96 rfl (n_ialoadV c_55_97 sc_24.n rfl rfl rfl (by omega) (f25K.r24 hS24 (by omega) (by omega)) ?_))))))))
        intro z26 ez26 f27
        refine n_aload_n c_55_98 rfl (n_getR c_55_99 sc_15.n rfl rfl rfl r_15_5 (n_iload_n c_55_102 rfl (n_ialoadV c_55_103 sc_24.n rfl rfl rfl (by omega) (f25K.r24 hS24 (by omega) (by omega)) ?_)))
        intro z28 ez28 f29
        refine n_v4V c_55_104 rfl sc_29.n rfl rfl rfl rfl (fillM29U_1_3 (p := p) (i := z26) (j := z28) (g := (M24 15 10)) hS24 hp hpl (by omega) (by omega) f25K rfl) ?_
        intro  M30 hP31
        obtain ⟨hS30, f31g0, f31K⟩ := hP31
        refine n_iload c_55_107 rfl (n_istore (L2 := [some (2, 15), some (2, (p + 2)), some (0, x), some (0, y), some (0, f), some (0, t), some (0, s), some (0, f), none, none, none]) c_55_109 rfl rfl (n_fg (le_s (le_n (le_n (le_n (le_n (le_s (le_s (le_s (le_n (le_n (le_n le_0))))))))))) ?_))
        exact (sweepU_1_3_c hS hp hpl hx hy hf ht hs hK hxg hyg htg hg 1046).1 _ M30 hS30 (by omega) (by omega) f31K (by omega) (by omega)
      · intro h32
        exact n_rV c_55_34 rfl ⟨hS, hK, by omega⟩

set_option maxHeartbeats 4000000 in
theorem putOn_1_3_c {xs : List Int32} {e : Nat} {ac : Int} {M0 M : nM} {p e0 : Int} {g : Int} (hS : Sf 3 ac M0 M) (hp : ActAt p) (hpl : p < 55 + 3 * ac) (he0 : 0 ≤ e0 ∧ e0 ≤ 256) (hK : MK 27 27 26 0 0 1 3 9 0 0 0 0 0 0 M) (heg : e0 < g) (hg : g ≤ M 15 10) : ∀ nn : Nat, (∀ (x3 x4 : Int) (M : nM), Sf 3 ac M0 M → (-2147483648 ≤ x3 ∧ x3 ≤ 2147483647) → (0 ≤ x4 ∧ x4 ≤ 257) → (MK 27 27 26 0 0 1 3 9 0 0 0 0 0 0 M) → (g ≤ M 15 10) → (257 - x4) * 1 + 260 < (nn : Int) → nW xs (e + 3) 54 75 [some (2, 15), some (2, p), some (0, e0), some (0, x3), some (0, x4)] [] M (nPV fun M1 => Sf 3 ac M0 M1 ∧ MK 27 27 26 0 0 1 3 9 0 0 0 0 0 0 M1 ∧ (g ≤ M1 15 10))) ∧ (∀ (x3 x4 : Int) (M : nM), Sf 3 ac M0 M → (-2147483648 ≤ x3 ∧ x3 ≤ 2147483647) → (0 ≤ x4 ∧ x4 ≤ 256) → (MK 27 27 26 0 0 1 3 9 0 0 0 0 0 0 M) → (g ≤ M 15 10) → (256 - x4) * 1 + 2 < (nn : Int) → nW xs (e + 3) 54 112 [some (2, 15), some (2, p), some (0, e0), some (0, x3), some (0, x4)] [] M (nPV fun M1 => Sf 3 ac M0 M1 ∧ MK 27 27 26 0 0 1 3 9 0 0 0 0 0 0 M1 ∧ (g ≤ M1 15 10))) ∧ (∀ (M : nM), Sf 3 ac M0 M → (MK 27 27 26 0 0 1 3 9 0 0 0 0 0 0 M) → (g ≤ M 15 10) → 1 < (nn : Int) → nW xs (e + 3) 54 170 [none, none, none, none, none] [] M (nPV fun M1 => Sf 3 ac M0 M1 ∧ MK 27 27 26 0 0 1 3 9 0 0 0 0 0 0 M1 ∧ (g ≤ M1 15 10))) := by
  have hd : (3 : Int) = 2 ∨ (3 : Int) = 3 := by decide
  have hac := hS.2.2.2.2
  intro nn
  induction nn with
  | zero => refine ⟨?_, ?_, ?_⟩ <;> (intros; omega)
  | succ nn ih =>
    refine ⟨?_, ?_, ?_⟩
    · intro x3 x4 M hS k3 k4 hK v0 hnn
      refine n_iload c_54_75 rfl (n_iload_n c_54_77 rfl ?_)
      refine n_if2_gt c_54_78 (by omega) (by omega) ?_ ?_
      · intro h1
        refine n_iconst c_54_109 (n_istore (L2 := [some (2, 15), some (2, p), some (0, e0), some (0, x3), some (0, 0)]) c_54_110 rfl rfl (n_fg (le_s (le_s (le_s (le_s (le_s le_0))))) ?_))
        exact ih.2.1 _ _ M hS (by omega) (by omega) hK (by omega) (by omega)
      · intro h2
        refine n_aload_n c_54_81 rfl (n_aload_n c_54_82 rfl (n_getR c_54_83 hp.c0.1.n rfl rfl rfl hp.r.1 (n_iload_n c_54_86 rfl (n_iload c_54_87 rfl (n_iconst c_54_89 (n_iload_n c_54_90 rfl (n_iload_n c_54_91 rfl (n_aload_n c_54_92 rfl (n_getR c_54_93 sc_15.n rfl rfl rfl r_15_2 (n_iload c_54_96 rfl (n_ialoadV c_54_98 sc_21.n rfl rfl rfl (by omega) (t_21 hS (by omega)) ?_)))))))))))
        intro z3 ez3 f4
        refine n_iadd c_54_99 rfl (n_wrap ?_)
        have f5 := n_wr_r (x3 + z3)
        generalize n_wr (x3 + z3) = z6 at f5 ⊢
        refine n_v6V c_54_100 rfl sc_15.n rfl rfl rfl rfl (sweepT_1_3 (p := p) (x := e0) (y := x4) (f := 0) (t := e0) (s := z6) (g := (M 15 10)) hS hp hpl (by omega) (by omega) (by omega) (by omega) (by omega) hK (by omega) (by omega) (by omega) (by omega)) ?_
        intro  M7 hP8
        obtain ⟨hS7, f8K, f8p0⟩ := hP8
        refine n_iinc (L2 := [some (2, 15), some (2, p), some (0, e0), some (0, x3), some (0, (x4 + 1))]) c_54_103 rfl rfl rfl (n_goto c_54_106 (n_fg (le_s (le_s (le_s (le_s (le_s le_0))))) ?_))
        exact ih.1 _ _ M7 hS7 (by omega) (by omega) f8K (by omega) (by omega)
    · intro x3 x4 M hS k3 k4 hK v0 hnn
      refine n_iload c_54_112 rfl (n_iload_n c_54_114 rfl ?_)
      refine n_if2_ge c_54_115 (by omega) (by omega) ?_ ?_
      · intro h1
        refine n_fg (le_n (le_n (le_n (le_n (le_n le_0))))) ?_
        exact ih.2.2  M hS hK (by omega) (by omega)
      · intro h2
        refine n_aload_n c_54_118 rfl (n_aload_n c_54_119 rfl (n_getR c_54_120 hp.c0.1.n rfl rfl rfl hp.r.1 (n_iload c_54_123 rfl (n_iload_n c_54_125 rfl (n_iconst c_54_126 (n_iload_n c_54_127 rfl (n_iload_n c_54_128 rfl (n_aload_n c_54_129 rfl (n_getR c_54_130 sc_15.n rfl rfl rfl r_15_2 (n_iload c_54_133 rfl (n_ialoadV c_54_135 sc_21.n rfl rfl rfl (by omega) (t_21 hS (by omega)) ?_)))))))))))
        intro z3 ez3 f4
        refine n_iadd c_54_136 rfl (n_wrap ?_)
        have f5 := n_wr_r (x3 + z3)
        generalize n_wr (x3 + z3) = z6 at f5 ⊢
        refine n_v6V c_54_137 rfl sc_15.n rfl rfl rfl rfl (sweepT_1_3 (p := p) (x := x4) (y := e0) (f := 0) (t := e0) (s := z6) (g := (M 15 10)) hS hp hpl (by omega) (by omega) (by omega) (by omega) (by omega) hK (by omega) (by omega) (by omega) (by omega)) ?_
        intro  M7 hP8
        obtain ⟨hS7, f8K, f8p0⟩ := hP8
        refine n_aload_n c_54_140 rfl (n_aload_n c_54_141 rfl (n_getR c_54_142 hp.c0.1.n rfl rfl rfl hp.r.2 (n_iload c_54_145 rfl (n_iload_n c_54_147 rfl (n_iconst c_54_148 (n_iload_n c_54_149 rfl (n_iconst c_54_150 (n_isub c_54_151 rfl (n_iload_n c_54_152 rfl (n_aload_n c_54_153 rfl (n_getR c_54_154 sc_15.n rfl rfl rfl r_15_2 ?_)))))))))))
        refine n_iload c_54_157 rfl (n_ialoadV c_54_159 sc_21.n rfl rfl rfl (by omega) (t_21 hS7 (by omega)) ?_)
        intro z9 ez9 f10
        refine n_iadd c_54_160 rfl (n_wrap ?_)
        have f11 := n_wr_r (x3 + z9)
        generalize n_wr (x3 + z9) = z12 at f11 ⊢
        refine n_v6V c_54_161 rfl sc_15.n rfl rfl rfl rfl (sweepU_1_3 (p := p) (x := x4) (y := e0) (f := 0) (t := (e0 - 1)) (s := z12) (g := (M7 15 10)) hS7 hp hpl (by omega) (by omega) (by omega) (by omega) (by omega) f8K (by omega) (by omega) (by omega) (by omega)) ?_
        intro  M13 hP14
        obtain ⟨hS13, f14K, f14p0⟩ := hP14
        refine n_iinc (L2 := [some (2, 15), some (2, p), some (0, e0), some (0, x3), some (0, (x4 + 1))]) c_54_164 rfl rfl rfl (n_goto c_54_167 (n_fg (le_s (le_s (le_s (le_s (le_s le_0))))) ?_))
        exact ih.2.1 _ _ M13 hS13 (by omega) (by omega) f14K (by omega) (by omega)
    · intro M hS hK v0 hnn
      exact n_rV c_54_170 rfl ⟨hS, hK, by omega⟩
set_option maxHeartbeats 4000000 in
theorem putOn_1_3 {xs : List Int32} {e : Nat} {ac : Int} {M0 M : nM} {p e0 : Int} {g : Int} (hS : Sf 3 ac M0 M) (hp : ActAt p) (hpl : p < 55 + 3 * ac) (he0 : 0 ≤ e0 ∧ e0 ≤ 256) (hK : MK 27 27 26 0 0 1 3 9 0 0 0 0 0 0 M) (heg : e0 < g) (hg : g ≤ M 15 10) : nW xs (e + 3) 54 0 [some (2, 15), some (2, p), some (0, e0), none, none] [] M (nPV fun M1 => Sf 3 ac M0 M1 ∧ MK 27 27 26 0 0 1 3 9 0 0 0 0 0 0 M1 ∧ (g ≤ M1 15 10)) := by
  have hd : (3 : Int) = 2 ∨ (3 : Int) = 3 := by decide
  have hac := hS.2.2.2.2
  refine n_iconst c_54_0 (n_aload_n c_54_1 rfl (n_getR c_54_2 sc_15.n rfl rfl rfl r_15_2 (n_iload_n c_54_5 rfl (n_ialoadV c_54_6 sc_21.n rfl rfl rfl (by omega) (t_21 hS (by omega)) ?_))))
  intro z1 ez1 f2
  refine n_iadd c_54_7 rfl (n_wrap ?_)
  have f3 := n_wr_r (1 + z1)
  generalize n_wr (1 + z1) = z4 at f3 ⊢
  refine n_istore_n (L2 := [some (2, 15), some (2, p), some (0, e0), some (0, z4), none]) c_54_8 rfl rfl (n_aload_n c_54_9 rfl (n_getV (bi := 0) c_54_10 hp.c0.1.n rfl rfl rfl (t_actl hS hp hpl).1 ?_))
  intro z5 ez5 f6
  refine n_iconst c_54_13 ?_
  refine n_if2_ne c_54_14 (by omega) (by omega) ?_ ?_
  · intro h7
    refine n_aload_n c_54_33 rfl (n_getV (bi := 0) c_54_34 hp.c0.1.n rfl rfl rfl (t_actl hS hp hpl).1 ?_)
    intro z8 ez8 f9
    refine n_iconst c_54_37 ?_
    refine n_if2_ne c_54_38 (by omega) (by omega) ?_ ?_
    · intro h10
      refine n_iconst c_54_72 (n_istore (L2 := [some (2, 15), some (2, p), some (0, e0), some (0, z4), some (0, 0)]) c_54_73 rfl rfl (n_fg (le_s (le_s (le_s (le_s (le_s le_0))))) ?_))
      exact (putOn_1_3_c hS hp hpl he0 hK heg hg 1046).1 _ _ M hS (by omega) (by omega) hK (by omega) (by omega)
    · intro h11
      refine n_aload_n c_54_41 rfl (n_aload_n c_54_42 rfl (n_getR c_54_43 hp.c0.1.n rfl rfl rfl hp.r.1 (n_iload_n c_54_46 rfl (n_iload_n c_54_47 rfl (n_iconst c_54_48 (n_iload_n c_54_49 rfl (n_iload_n c_54_50 rfl (n_v6V c_54_51 rfl sc_15.n rfl rfl rfl rfl (sweepT_1_3 (p := p) (x := e0) (y := e0) (f := 0) (t := e0) (s := z4) (g := (M 15 10)) hS hp hpl (by omega) (by omega) (by omega) (by omega) (by omega) hK (by omega) (by omega) (by omega) (by omega)) ?_))))))))
      intro  M12 hP13
      obtain ⟨hS12, f13K, f13p0⟩ := hP13
      refine n_aload_n c_54_54 rfl (n_aload_n c_54_55 rfl (n_getR c_54_56 hp.c0.1.n rfl rfl rfl hp.r.2 (n_iload_n c_54_59 rfl (n_iload_n c_54_60 rfl (n_iconst c_54_61 (n_iload_n c_54_62 rfl (n_iconst c_54_63 (n_isub c_54_64 rfl (n_iload_n c_54_65 rfl (n_v6V c_54_66 rfl sc_15.n rfl rfl rfl rfl (sweepU_1_3 (p := p) (x := e0) (y := e0) (f := 0) (t := (e0 - 1)) (s := z4) (g := (M12 15 10)) hS12 hp hpl (by omega) (by omega) (by omega) (by omega) (by omega) f13K (by omega) (by omega) (by omega) (by omega)) ?_))))))))))
      intro  M14 hP15
      obtain ⟨hS14, f15K, f15p0⟩ := hP15
      refine n_goto c_54_69 (n_fg (le_n (le_n (le_n (le_n (le_n le_0))))) ?_)
      exact (putOn_1_3_c hS hp hpl he0 hK heg hg 1046).2.2  M14 hS14 f15K (by omega) (by omega)
  · intro h16
    refine n_aload_n c_54_17 rfl (n_aload_n c_54_18 rfl (n_getR c_54_19 hp.c0.1.n rfl rfl rfl hp.r.1 (n_iload_n c_54_22 rfl (n_iload_n c_54_23 rfl (n_iload_n c_54_24 rfl (n_iload_n c_54_25 rfl (n_iconst c_54_26 (n_v6V c_54_27 rfl sc_15.n rfl rfl rfl rfl (sweepT_1_3 (p := p) (x := e0) (y := e0) (f := e0) (t := e0) (s := 1) (g := (M 15 10)) hS hp hpl (by omega) (by omega) (by omega) (by omega) (by omega) hK (by omega) (by omega) (by omega) (by omega)) ?_))))))))
    intro  M17 hP18
    obtain ⟨hS17, f18K, f18p0⟩ := hP18
    refine n_goto c_54_30 (n_fg (le_n (le_n (le_n (le_n (le_n le_0))))) ?_)
    exact (putOn_1_3_c hS hp hpl he0 hK heg hg 1046).2.2  M17 hS17 f18K (by omega) (by omega)

set_option maxHeartbeats 4000000 in
theorem changeIn20_1_3 {xs : List Int32} {e : Nat} {ac : Int} {M0 M : nM} {i j g g2 : Int} (hS : Sf 3 ac M0 M) (hi : 0 ≤ i ∧ i ≤ 256) (hj : 0 ≤ j ∧ j ≤ 256) (hK : MK 27 27 26 0 0 1 3 9 0 0 0 0 0 0 M) (hg : M 15 10 = g) (hg2 : M 103 2 = g2) (hig : i < g) (hjg : j < g) : nW xs e 61 0 [some (2, 15), some (2, 20), some (0, i), some (0, j), none] [] M (nPV fun M1 => Sf 3 ac M0 M1 ∧ (M1 15 10 = g) ∧ (M1 103 2 = g2) ∧ MK 27 27 26 0 0 1 3 9 0 0 0 0 0 0 M1) := by
  have hd : (3 : Int) = 2 ∨ (3 : Int) = 3 := by decide
  have hac := hS.2.2.2.2
  refine n_aload_n c_61_0 rfl (n_iload_n c_61_1 rfl (n_ialoadV c_61_2 sc_20.n rfl rfl rfl (by omega) (hK.r20 hS (by omega) (by omega)) ?_))
  intro z1 ez1 f2
  refine n_istore (L2 := [some (2, 15), some (2, 20), some (0, i), some (0, j), some (0, z1)]) c_61_3 rfl rfl (n_aload_n c_61_5 rfl (n_iload_n c_61_6 rfl (n_aload_n c_61_7 rfl (n_iload_n c_61_8 rfl (n_ialoadV c_61_9 sc_20.n rfl rfl rfl (by omega) (hK.r20 hS (by omega) (by omega)) ?_)))))
  intro z3 ez3 f4
  refine n_iastoreV hS c_61_10 sc_20.n rfl (by omega) (w_20 (by omega) (by omega)) ?_
  intro M5 eM5 hS5
  have hK5 := hK.u (by unfold Kok; omega) eM5
  have g5_0 : M5 15 10 = M 15 10 := by rw [eM5]; exact nu_a (by omega)
  have g5_1 : M5 103 2 = M 103 2 := by rw [eM5]; exact nu_a (by omega)
  refine n_aload_n c_61_11 rfl (n_iload_n c_61_12 rfl (n_iload c_61_13 rfl (n_iastoreV hS5 c_61_15 sc_20.n rfl (by omega) (w_20 (by omega) (by omega)) ?_)))
  intro M6 eM6 hS6
  have hK6 := hK5.u (by unfold Kok; omega) eM6
  have g6_0 : M6 15 10 = M5 15 10 := by rw [eM6]; exact nu_a (by omega)
  have g6_1 : M6 103 2 = M5 103 2 := by rw [eM6]; exact nu_a (by omega)
  exact n_rV c_61_16 rfl ⟨hS6, by omega, by omega, hK6⟩

set_option maxHeartbeats 4000000 in
theorem changeIn21_1_3 {xs : List Int32} {e : Nat} {ac : Int} {M0 M : nM} {i j g g2 : Int} (hS : Sf 3 ac M0 M) (hi : 0 ≤ i ∧ i ≤ 256) (hj : 0 ≤ j ∧ j ≤ 256) (hK : MK 27 27 26 0 0 1 3 9 0 0 0 0 0 0 M) (hg : M 15 10 = g) (hg2 : M 103 2 = g2) (hig : i < g) (hjg : j < g) : nW xs e 61 0 [some (2, 15), some (2, 21), some (0, i), some (0, j), none] [] M (nPV fun M1 => Sf 3 ac M0 M1 ∧ (M1 15 10 = g) ∧ (M1 103 2 = g2) ∧ MK 27 27 26 0 0 1 3 9 0 0 0 0 0 0 M1) := by
  have hd : (3 : Int) = 2 ∨ (3 : Int) = 3 := by decide
  have hac := hS.2.2.2.2
  refine n_aload_n c_61_0 rfl (n_iload_n c_61_1 rfl (n_ialoadV c_61_2 sc_21.n rfl rfl rfl (by omega) (t_21 hS (by omega)) ?_))
  intro z1 ez1 f2
  refine n_istore (L2 := [some (2, 15), some (2, 21), some (0, i), some (0, j), some (0, z1)]) c_61_3 rfl rfl (n_aload_n c_61_5 rfl (n_iload_n c_61_6 rfl (n_aload_n c_61_7 rfl (n_iload_n c_61_8 rfl (n_ialoadV c_61_9 sc_21.n rfl rfl rfl (by omega) (t_21 hS (by omega)) ?_)))))
  intro z3 ez3 f4
  refine n_iastoreV hS c_61_10 sc_21.n rfl (by omega) (w_21 (by omega) (by omega)) ?_
  intro M5 eM5 hS5
  have hK5 := hK.u (by unfold Kok; omega) eM5
  have g5_0 : M5 15 10 = M 15 10 := by rw [eM5]; exact nu_a (by omega)
  have g5_1 : M5 103 2 = M 103 2 := by rw [eM5]; exact nu_a (by omega)
  refine n_aload_n c_61_11 rfl (n_iload_n c_61_12 rfl (n_iload c_61_13 rfl (n_iastoreV hS5 c_61_15 sc_21.n rfl (by omega) (w_21 (by omega) (by omega)) ?_)))
  intro M6 eM6 hS6
  have hK6 := hK5.u (by unfold Kok; omega) eM6
  have g6_0 : M6 15 10 = M5 15 10 := by rw [eM6]; exact nu_a (by omega)
  have g6_1 : M6 103 2 = M5 103 2 := by rw [eM6]; exact nu_a (by omega)
  exact n_rV c_61_16 rfl ⟨hS6, by omega, by omega, hK6⟩

set_option maxHeartbeats 4000000 in
theorem changeIn22_1_3 {xs : List Int32} {e : Nat} {ac : Int} {M0 M : nM} {i j g g2 : Int} (hS : Sf 3 ac M0 M) (hi : 0 ≤ i ∧ i ≤ 256) (hj : 0 ≤ j ∧ j ≤ 256) (hK : MK 27 27 26 0 0 1 3 9 0 0 0 0 0 0 M) (hg : M 15 10 = g) (hg2 : M 103 2 = g2) (hig : i < g) (hjg : j < g) : nW xs e 61 0 [some (2, 15), some (2, 22), some (0, i), some (0, j), none] [] M (nPV fun M1 => Sf 3 ac M0 M1 ∧ (M1 15 10 = g) ∧ (M1 103 2 = g2) ∧ MK 27 27 26 0 0 1 3 9 0 0 0 0 0 0 M1) := by
  have hd : (3 : Int) = 2 ∨ (3 : Int) = 3 := by decide
  have hac := hS.2.2.2.2
  refine n_aload_n c_61_0 rfl (n_iload_n c_61_1 rfl (n_ialoadV c_61_2 sc_22.n rfl rfl rfl (by omega) (hK.r22 hS (by omega) (by omega)) ?_))
  intro z1 ez1 f2
  refine n_istore (L2 := [some (2, 15), some (2, 22), some (0, i), some (0, j), some (0, z1)]) c_61_3 rfl rfl (n_aload_n c_61_5 rfl (n_iload_n c_61_6 rfl (n_aload_n c_61_7 rfl (n_iload_n c_61_8 rfl (n_ialoadV c_61_9 sc_22.n rfl rfl rfl (by omega) (hK.r22 hS (by omega) (by omega)) ?_)))))
  intro z3 ez3 f4
  refine n_iastoreV hS c_61_10 sc_22.n rfl (by omega) (w_22 (by omega) (by omega)) ?_
  intro M5 eM5 hS5
  have hK5 := hK.u (by unfold Kok; omega) eM5
  have g5_0 : M5 15 10 = M 15 10 := by rw [eM5]; exact nu_a (by omega)
  have g5_1 : M5 103 2 = M 103 2 := by rw [eM5]; exact nu_a (by omega)
  refine n_aload_n c_61_11 rfl (n_iload_n c_61_12 rfl (n_iload c_61_13 rfl (n_iastoreV hS5 c_61_15 sc_22.n rfl (by omega) (w_22 (by omega) (by omega)) ?_)))
  intro M6 eM6 hS6
  have hK6 := hK5.u (by unfold Kok; omega) eM6
  have g6_0 : M6 15 10 = M5 15 10 := by rw [eM6]; exact nu_a (by omega)
  have g6_1 : M6 103 2 = M5 103 2 := by rw [eM6]; exact nu_a (by omega)
  exact n_rV c_61_16 rfl ⟨hS6, by omega, by omega, hK6⟩

set_option maxHeartbeats 4000000 in
theorem changeIn23_1_3 {xs : List Int32} {e : Nat} {ac : Int} {M0 M : nM} {i j g g2 : Int} (hS : Sf 3 ac M0 M) (hi : 0 ≤ i ∧ i ≤ 256) (hj : 0 ≤ j ∧ j ≤ 256) (hK : MK 27 27 26 0 0 1 3 9 0 0 0 0 0 0 M) (hg : M 15 10 = g) (hg2 : M 103 2 = g2) (hig : i < g) (hjg : j < g) : nW xs e 61 0 [some (2, 15), some (2, 23), some (0, i), some (0, j), none] [] M (nPV fun M1 => Sf 3 ac M0 M1 ∧ (M1 15 10 = g) ∧ (M1 103 2 = g2) ∧ MK 27 27 26 0 0 1 3 9 0 0 0 0 0 0 M1) := by
  have hd : (3 : Int) = 2 ∨ (3 : Int) = 3 := by decide
  have hac := hS.2.2.2.2
  refine n_aload_n c_61_0 rfl (n_iload_n c_61_1 rfl (n_ialoadV c_61_2 sc_23.n rfl rfl rfl (by omega) (hK.r23 hS (by omega) (by omega)) ?_))
  intro z1 ez1 f2
  refine n_istore (L2 := [some (2, 15), some (2, 23), some (0, i), some (0, j), some (0, z1)]) c_61_3 rfl rfl (n_aload_n c_61_5 rfl (n_iload_n c_61_6 rfl (n_aload_n c_61_7 rfl (n_iload_n c_61_8 rfl (n_ialoadV c_61_9 sc_23.n rfl rfl rfl (by omega) (hK.r23 hS (by omega) (by omega)) ?_)))))
  intro z3 ez3 f4
  refine n_iastoreV hS c_61_10 sc_23.n rfl (by omega) (w_23 (by omega) (by omega)) ?_
  intro M5 eM5 hS5
  have hK5 := hK.u (by unfold Kok; omega) eM5
  have g5_0 : M5 15 10 = M 15 10 := by rw [eM5]; exact nu_a (by omega)
  have g5_1 : M5 103 2 = M 103 2 := by rw [eM5]; exact nu_a (by omega)
  refine n_aload_n c_61_11 rfl (n_iload_n c_61_12 rfl (n_iload c_61_13 rfl (n_iastoreV hS5 c_61_15 sc_23.n rfl (by omega) (w_23 (by omega) (by omega)) ?_)))
  intro M6 eM6 hS6
  have hK6 := hK5.u (by unfold Kok; omega) eM6
  have g6_0 : M6 15 10 = M5 15 10 := by rw [eM6]; exact nu_a (by omega)
  have g6_1 : M6 103 2 = M5 103 2 := by rw [eM6]; exact nu_a (by omega)
  exact n_rV c_61_16 rfl ⟨hS6, by omega, by omega, hK6⟩

/-! The methods, by program. -/
set_option maxHeartbeats 4000000 in
theorem changeIn24_1_3 {xs : List Int32} {e : Nat} {ac : Int} {M0 M : nM} {i j g g2 : Int} (hS : Sf 3 ac M0 M) (hi : 0 ≤ i ∧ i ≤ 256) (hj : 0 ≤ j ∧ j ≤ 256) (hK : MK 27 27 26 0 0 1 3 9 0 0 0 0 0 0 M) (hg : M 15 10 = g) (hg2 : M 103 2 = g2) (hig : i < g) (hjg : j < g) : nW xs e 61 0 [some (2, 15), some (2, 24), some (0, i), some (0, j), none] [] M (nPV fun M1 => Sf 3 ac M0 M1 ∧ (M1 15 10 = g) ∧ (M1 103 2 = g2) ∧ MK 27 27 26 0 0 1 3 9 0 0 0 0 0 0 M1) := by
  have hd : (3 : Int) = 2 ∨ (3 : Int) = 3 := by decide
  have hac := hS.2.2.2.2
  refine n_aload_n c_61_0 rfl (n_iload_n c_61_1 rfl (n_ialoadV c_61_2 sc_24.n rfl rfl rfl (by omega) (hK.r24 hS (by omega) (by omega)) ?_))
  intro z1 ez1 f2
  refine n_istore (L2 := [some (2, 15), some (2, 24), some (0, i), some (0, j), some (0, z1)]) c_61_3 rfl rfl (n_aload_n c_61_5 rfl (n_iload_n c_61_6 rfl (n_aload_n c_61_7 rfl (n_iload_n c_61_8 rfl (n_ialoadV c_61_9 sc_24.n rfl rfl rfl (by omega) (hK.r24 hS (by omega) (by omega)) ?_)))))
  intro z3 ez3 f4
  refine n_iastoreV hS c_61_10 sc_24.n rfl (by omega) (w_24 (by omega) (by omega)) ?_
  intro M5 eM5 hS5
  have hK5 := hK.u (by unfold Kok; omega) eM5
  have g5_0 : M5 15 10 = M 15 10 := by rw [eM5]; exact nu_a (by omega)
  have g5_1 : M5 103 2 = M 103 2 := by rw [eM5]; exact nu_a (by omega)
  refine n_aload_n c_61_11 rfl (n_iload_n c_61_12 rfl (n_iload c_61_13 rfl (n_iastoreV hS5 c_61_15 sc_24.n rfl (by omega) (w_24 (by omega) (by omega)) ?_)))
  intro M6 eM6 hS6
  have hK6 := hK5.u (by unfold Kok; omega) eM6
  have g6_0 : M6 15 10 = M5 15 10 := by rw [eM6]; exact nu_a (by omega)
  have g6_1 : M6 103 2 = M5 103 2 := by rw [eM6]; exact nu_a (by omega)
  exact n_rV c_61_16 rfl ⟨hS6, by omega, by omega, hK6⟩

set_option maxHeartbeats 4000000 in
theorem change_1_3 {xs : List Int32} {e : Nat} {ac : Int} {M0 M : nM} {i j g g2 : Int} (hS : Sf 3 ac M0 M) (hi : 0 ≤ i ∧ i ≤ 256) (hj : 0 ≤ j ∧ j ≤ 256) (hK : MK 27 27 26 0 0 1 3 9 0 0 0 0 0 0 M) (hg : M 15 10 = g) (hg2 : M 103 2 = g2) (hig : i < g) (hjg : j < g) : nW xs (e + 1) 60 0 [some (2, 15), some (0, i), some (0, j)] [] M (nPV fun M1 => Sf 3 ac M0 M1 ∧ (M1 15 10 = g) ∧ (M1 103 2 = g2) ∧ MK 27 27 26 0 0 1 3 9 0 0 0 0 0 0 M1) := by
  have hd : (3 : Int) = 2 ∨ (3 : Int) = 3 := by decide
  have hac := hS.2.2.2.2
  refine n_aload_n c_60_0 rfl (n_aload_n c_60_1 rfl (n_getR c_60_2 sc_15.n rfl rfl rfl r_15_1 (n_iload_n c_60_5 rfl (n_iload_n c_60_6 rfl (n_v3V c_60_7 rfl sc_15.n rfl rfl rfl rfl (changeIn20_1_3 (i := i) (j := j) (g := (M 15 10)) (g2 := (M 103 2)) hS (by omega) (by omega) hK rfl rfl (by omega) (by omega)) ?_)))))
  intro  M1 hP2
  obtain ⟨hS1, f2g0, f2g1, f2K⟩ := hP2
  refine n_aload_n c_60_10 rfl (n_aload_n c_60_11 rfl (n_getR c_60_12 sc_15.n rfl rfl rfl r_15_2 (n_iload_n c_60_15 rfl (n_iload_n c_60_16 rfl (n_v3V c_60_17 rfl sc_15.n rfl rfl rfl rfl (changeIn21_1_3 (i := i) (j := j) (g := (M1 15 10)) (g2 := (M1 103 2)) hS1 (by omega) (by omega) f2K rfl rfl (by omega) (by omega)) ?_)))))
  intro  M3 hP4
  obtain ⟨hS3, f4g0, f4g1, f4K⟩ := hP4
  refine n_aload_n c_60_20 rfl (n_aload_n c_60_21 rfl (n_getR c_60_22 sc_15.n rfl rfl rfl r_15_3 (n_iload_n c_60_25 rfl (n_iload_n c_60_26 rfl (n_v3V c_60_27 rfl sc_15.n rfl rfl rfl rfl (changeIn22_1_3 (i := i) (j := j) (g := (M3 15 10)) (g2 := (M3 103 2)) hS3 (by omega) (by omega) f4K rfl rfl (by omega) (by omega)) ?_)))))
  intro  M5 hP6
  obtain ⟨hS5, f6g0, f6g1, f6K⟩ := hP6
  refine n_aload_n c_60_30 rfl (n_aload_n c_60_31 rfl (n_getR c_60_32 sc_15.n rfl rfl rfl r_15_4 (n_iload_n c_60_35 rfl (n_iload_n c_60_36 rfl (n_v3V c_60_37 rfl sc_15.n rfl rfl rfl rfl (changeIn23_1_3 (i := i) (j := j) (g := (M5 15 10)) (g2 := (M5 103 2)) hS5 (by omega) (by omega) f6K rfl rfl (by omega) (by omega)) ?_)))))
  intro  M7 hP8
  obtain ⟨hS7, f8g0, f8g1, f8K⟩ := hP8
  refine n_aload_n c_60_40 rfl (n_aload_n c_60_41 rfl (n_getR c_60_42 sc_15.n rfl rfl rfl r_15_5 (n_iload_n c_60_45 rfl (n_iload_n c_60_46 rfl (n_v3V c_60_47 rfl sc_15.n rfl rfl rfl rfl (changeIn24_1_3 (i := i) (j := j) (g := (M7 15 10)) (g2 := (M7 103 2)) hS7 (by omega) (by omega) f8K rfl rfl (by omega) (by omega)) ?_)))))
  intro  M9 hP10
  obtain ⟨hS9, f10g0, f10g1, f10K⟩ := hP10
  refine n_aload_n c_60_50 rfl (n_getP c_60_51 ?_)
  intro p11 ep11
  refine n_aload_n c_60_54 rfl (n_getR c_60_55 sc_15.n rfl rfl rfl r_15_1 (n_iload_n c_60_58 rfl (n_ialoadV c_60_59 sc_20.n rfl rfl rfl (by omega) (f10K.r20 hS9 (by omega) (by omega)) ?_)))
  intro z12 ez12 f13
  refine n_iload_n c_60_60 rfl (n_iconst c_60_61 (n_iadd c_60_62 rfl (n_iastoreP hS9 f10K c_60_63 ep11 (by omega) (by omega) ?_)))
  intro M14 fM14 hS14 hK14
  have g14_0 := fM14 15 10 (by omega) (by omega)
  have g14_1 := fM14 103 2 (by omega) (by omega)
  refine n_aload_n c_60_64 rfl (n_getP c_60_65 ?_)
  intro p15 ep15
  refine n_aload_n c_60_68 rfl (n_getR c_60_69 sc_15.n rfl rfl rfl r_15_1 (n_iload_n c_60_72 rfl (n_ialoadV c_60_73 sc_20.n rfl rfl rfl (by omega) (hK14.r20 hS14 (by omega) (by omega)) ?_)))
  intro z16 ez16 f17
  refine n_iload_n c_60_74 rfl (n_iconst c_60_75 (n_iadd c_60_76 rfl (n_iastoreP hS14 hK14 c_60_77 ep15 (by omega) (by omega) ?_)))
  intro M18 fM18 hS18 hK18
  have g18_0 := fM18 15 10 (by omega) (by omega)
  have g18_1 := fM18 103 2 (by omega) (by omega)
  exact n_rV c_60_78 rfl ⟨hS18, by omega, by omega, hK18⟩

set_option maxHeartbeats 4000000 in
theorem bringLeast_1_3_c {xs : List Int32} {e : Nat} {ac : Int} {M0 M : nM} {e0 g g2 : Int} (hS : Sf 3 ac M0 M) (he0 : 0 ≤ e0 ∧ e0 ≤ 256) (hK : MK 27 27 26 0 0 1 3 9 0 0 0 0 0 0 M) (hg : M 15 10 = g) (hg2 : M 103 2 = g2) (heg : e0 < g) : ∀ nn : Nat, (∀ (x2 x3 : Int) (M : nM), Sf 3 ac M0 M → (0 ≤ x2 ∧ x2 ≤ 256) → (1 ≤ x3 ∧ x3 ≤ 257) → (MK 27 27 26 0 0 1 3 9 0 0 0 0 0 0 M) → (M 15 10 = g) → (M 103 2 = g2) → (x2 < g) → (257 - x3) * 1 + 1 < (nn : Int) → nW xs (e + 2) 57 6 [some (2, 15), some (0, e0), some (0, x2), some (0, x3)] [] M (nPV fun M1 => Sf 3 ac M0 M1 ∧ (M1 15 10 = g) ∧ (M1 103 2 = g2) ∧ MK 27 27 26 0 0 1 3 9 0 0 0 0 0 0 M1)) := by
  have hd : (3 : Int) = 2 ∨ (3 : Int) = 3 := by decide
  have hac := hS.2.2.2.2
  intro nn
  induction nn with
  | zero => intros; omega
  | succ nn ih =>
    intro x2 x3 M hS k2 k3 hK hgg hgg2 v0 hnn
    refine n_iload_n c_57_6 rfl (n_aload_n c_57_7 rfl (n_getV (bi := 10) c_57_8 sc_15.n rfl rfl rfl (t_15_10 hS) ?_))
    intro z1 ez1 f2
    refine n_if2_ge c_57_11 (by omega) (by omega) ?_ ?_
    · intro h3
      refine n_aload_n c_57_31 rfl (n_iload_n c_57_32 rfl (n_iload_n c_57_33 rfl (n_v2V c_57_34 rfl sc_15.n rfl rfl rfl rfl (change_1_3 (i := e0) (j := x2) (g := (M 15 10)) (g2 := (M 103 2)) hS (by omega) (by omega) hK rfl rfl (by omega) (by omega)) ?_)))
      intro  M4 hP5
      obtain ⟨hS4, f5g0, f5g1, f5K⟩ := hP5
      exact n_rV c_57_37 rfl ⟨hS4, by omega, by omega, f5K⟩
    · intro h6
      refine n_aload_n c_57_14 rfl (n_iload_n c_57_15 rfl (n_iload_n c_57_16 rfl (n_v2I c_57_17 rfl sc_15.n rfl rfl rfl rfl (isAhead_3 (i := x3) (j := x2) hS (by omega) (by omega)) ?_)))
      intro z7 M8 hP9
      obtain ⟨eM, f9⟩ := hP9
      subst eM
      refine n_if0_eq c_57_20 (by omega) ?_ ?_
      · intro h10
        refine n_iinc (L2 := [some (2, 15), some (0, e0), some (0, x2), some (0, (x3 + 1))]) c_57_25 rfl rfl rfl (n_goto c_57_28 (n_fg (le_s (le_s (le_s (le_s le_0)))) ?_))
        exact ih _ _ M hS (by omega) (by omega) hK (by omega) (by omega) (by omega) (by omega)
      · intro h11
        refine n_iload_n c_57_23 rfl (n_istore_n (L2 := [some (2, 15), some (0, e0), some (0, x3), some (0, x3)]) c_57_24 rfl rfl (n_iinc (L2 := [some (2, 15), some (0, e0), some (0, x3), some (0, (x3 + 1))]) c_57_25 rfl rfl rfl (n_goto c_57_28 (n_fg (le_s (le_s (le_s (le_s le_0)))) ?_))))
        exact ih _ _ M hS (by omega) (by omega) hK (by omega) (by omega) (by omega) (by omega)
set_option maxHeartbeats 4000000 in
theorem bringLeast_1_3 {xs : List Int32} {e : Nat} {ac : Int} {M0 M : nM} {e0 g g2 : Int} (hS : Sf 3 ac M0 M) (he0 : 0 ≤ e0 ∧ e0 ≤ 256) (hK : MK 27 27 26 0 0 1 3 9 0 0 0 0 0 0 M) (hg : M 15 10 = g) (hg2 : M 103 2 = g2) (heg : e0 < g) : nW xs (e + 2) 57 0 [some (2, 15), some (0, e0), none, none] [] M (nPV fun M1 => Sf 3 ac M0 M1 ∧ (M1 15 10 = g) ∧ (M1 103 2 = g2) ∧ MK 27 27 26 0 0 1 3 9 0 0 0 0 0 0 M1) := by
  have hd : (3 : Int) = 2 ∨ (3 : Int) = 3 := by decide
  have hac := hS.2.2.2.2
  refine n_iload_n c_57_0 rfl (n_istore_n (L2 := [some (2, 15), some (0, e0), some (0, e0), none]) c_57_1 rfl rfl (n_iload_n c_57_2 rfl (n_iconst c_57_3 (n_iadd c_57_4 rfl (n_istore_n (L2 := [some (2, 15), some (0, e0), some (0, e0), some (0, (e0 + 1))]) c_57_5 rfl rfl (n_fg (le_s (le_s (le_s (le_s le_0)))) ?_))))))
  exact (bringLeast_1_3_c hS he0 hK hg hg2 heg 526) _ _ M hS (by omega) (by omega) hK (by omega) (by omega) (by omega) (by omega)

set_option maxHeartbeats 4000000 in
theorem end_1_3_c {xs : List Int32} {e : Nat} {ac : Int} {M0 M : nM} (hS : Sf 3 ac M0 M) (hK : MK 27 27 26 0 0 1 3 9 0 0 0 0 0 0 M) : ∀ nn : Nat, (∀ (x2 : Int) (M : nM), Sf 3 ac M0 M → (0 ≤ x2 ∧ x2 ≤ 256) → (MK 27 27 26 0 0 1 3 9 0 0 0 0 0 0 M) → (M 103 2 ≤ M 15 10) → (256 - x2) * 1 + 260 < (nn : Int) → nW xs (e + 3) 62 45 [some (2, 15), some (2, 103), some (0, x2)] [] M (nPV fun M1 => Sf 3 ac M0 M1 ∧ MK 27 27 26 0 0 1 3 9 0 0 0 0 0 0 M1)) ∧ (∀ (x2 : Int) (M : nM), Sf 3 ac M0 M → (0 ≤ x2 ∧ x2 ≤ 257) → (MK 27 27 26 0 0 1 3 9 0 0 0 0 0 0 M) → (257 - x2) * 1 + 1 < (nn : Int) → nW xs (e + 3) 62 90 [some (2, 15), none, some (0, x2)] [] M (nPV fun M1 => Sf 3 ac M0 M1 ∧ MK 27 27 26 0 0 1 3 9 0 0 0 0 0 0 M1)) := by
  have hd : (3 : Int) = 2 ∨ (3 : Int) = 3 := by decide
  have hac := hS.2.2.2.2
  intro nn
  induction nn with
  | zero => refine ⟨?_, ?_⟩ <;> (intros; omega)
  | succ nn ih =>
    refine ⟨?_, ?_⟩
    · intro x2 M hS k2 hK v0 hnn
      refine n_iload_n c_62_45 rfl (n_aload_n c_62_46 rfl (n_getV (bi := 2) c_62_47 made103.c0.1.n rfl rfl rfl (t_made hS made103).2.2 ?_))
      intro z1 ez1 f2
      refine n_if2_ge c_62_50 (by omega) (by omega) ?_ ?_
      · intro h3
        refine n_iconst c_62_88 (n_istore_n (L2 := [some (2, 15), some (2, 103), some (0, 0)]) c_62_89 rfl rfl (n_fg (le_s (le_n (le_s le_0))) ?_))
        exact ih.2 _ M hS (by omega) hK (by omega)
      · intro h4
        refine n_aload_n c_62_53 rfl (n_iload_n c_62_54 rfl (n_v1V c_62_55 rfl sc_15.n rfl rfl rfl rfl (bringLeast_1_3 (e0 := x2) (g := (M 15 10)) (g2 := (M 103 2)) hS (by omega) hK rfl rfl (by omega)) ?_))
        intro  M5 hP6
        obtain ⟨hS5, f6g0, f6g1, f6K⟩ := hP6
        refine n_aload_n c_62_58 rfl (n_getR c_62_59 made103.c0.1.n rfl rfl rfl made103.r.1 (n_iload_n c_62_62 rfl (n_aload_n c_62_63 rfl (n_getR c_62_64 sc_15.n rfl rfl rfl r_15_1 (n_iload_n c_62_67 rfl (n_ialoadV c_62_68 sc_20.n rfl rfl rfl (by omega) (f6K.r20 hS5 (by omega) (by omega)) ?_))))))
        intro z7 ez7 f8
        refine n_iastoreV hS5 c_62_69 made103.c0.2.1.n rfl (by omega) (w_mader made103 (Or.inl rfl) (by omega) (by omega)) ?_
        intro M9 eM9 hS9
        have hK9 := f6K.u (by unfold Kok; omega) eM9
        have g9_0 : M9 15 10 = M5 15 10 := by rw [eM9]; exact nu_a (by omega)
        have g9_1 : M9 103 2 = M5 103 2 := by rw [eM9]; exact nu_a (by omega)
        refine n_aload_n c_62_70 rfl (n_getR c_62_71 made103.c0.1.n rfl rfl rfl made103.r.2 (n_iload_n c_62_74 rfl (n_aload_n c_62_75 rfl (n_getR c_62_76 sc_15.n rfl rfl rfl r_15_2 (n_iload_n c_62_79 rfl (n_ialoadV c_62_80 sc_21.n rfl rfl rfl (by omega) (t_21 hS9 (by omega)) ?_))))))
        intro z10 ez10 f11
        refine n_iastoreV hS9 c_62_81 made103.c0.2.2.n rfl (by omega) (w_mader made103 (Or.inr rfl) (by omega) (by omega)) ?_
        intro M12 eM12 hS12
        have hK12 := hK9.u (by unfold Kok; omega) eM12
        have g12_0 : M12 15 10 = M9 15 10 := by rw [eM12]; exact nu_a (by omega)
        have g12_1 : M12 103 2 = M9 103 2 := by rw [eM12]; exact nu_a (by omega)
        refine n_iinc (L2 := [some (2, 15), some (2, 103), some (0, (x2 + 1))]) c_62_82 rfl rfl rfl (n_goto c_62_85 (n_fg (le_s (le_s (le_s le_0))) ?_))
        exact ih.1 _ M12 hS12 (by omega) hK12 (by omega) (by omega)
    · intro x2 M hS k2 hK hnn
      refine n_iload_n c_62_90 rfl (n_aload_n c_62_91 rfl (n_getV (bi := 10) c_62_92 sc_15.n rfl rfl rfl (t_15_10 hS) ?_))
      intro z1 ez1 f2
      refine n_if2_ge c_62_95 (by omega) (by omega) ?_ ?_
      · intro h3
        exact n_rV c_62_116 rfl ⟨hS, hK⟩
      · intro h4
        refine n_aload_n c_62_98 rfl (n_getP c_62_99 ?_)
        intro p5 ep5
        refine n_aload_n c_62_102 rfl (n_getR c_62_103 sc_15.n rfl rfl rfl r_15_1 (n_iload_n c_62_106 rfl (n_ialoadV c_62_107 sc_20.n rfl rfl rfl (by omega) (hK.r20 hS (by omega) (by omega)) ?_)))
        intro z6 ez6 f7
        refine n_iconst c_62_108 (n_iastoreP hS hK c_62_109 ep5 (by omega) (by omega) ?_)
        intro M8 fM8 hS8 hK8
        have g8_0 := fM8 15 10 (by omega) (by omega)
        refine n_iinc (L2 := [some (2, 15), none, some (0, (x2 + 1))]) c_62_110 rfl rfl rfl (n_goto c_62_113 (n_fg (le_s (le_n (le_s le_0))) ?_))
        exact ih.2 _ M8 hS8 (by omega) hK8 (by omega)
set_option maxHeartbeats 4000000 in
theorem end_1_3 {xs : List Int32} {e : Nat} {ac : Int} {M0 M : nM} (hS : Sf 3 ac M0 M) (hK : MK 27 27 26 0 0 1 3 9 0 0 0 0 0 0 M) : nW xs (e + 3) 62 0 [some (2, 15), some (2, 103), none] [] M (nPV fun M1 => Sf 3 ac M0 M1 ∧ MK 27 27 26 0 0 1 3 9 0 0 0 0 0 0 M1) := by
  have hd : (3 : Int) = 2 ∨ (3 : Int) = 3 := by decide
  have hac := hS.2.2.2.2
  refine n_aload_n c_62_0 rfl (n_iconst c_62_1 (n_putZV (bi := 0) hS c_62_2 made103.c0.1.n rfl rfl rfl (by omega) rfl (w_made made103 (by omega) (by omega)) ?_))
  intro M1 eM1 hS1
  have hK1 := hK.u (by unfold Kok; omega) eM1
  have g1_0 : M1 15 10 = M 15 10 := by rw [eM1]; exact nu_a (by omega)
  have g1_1 : M1 103 0 = 1 := by rw [eM1]; exact nu_s _ _ _ _
  refine n_aload_n c_62_5 rfl (n_aload_n c_62_6 rfl (n_getV (bi := 10) c_62_7 sc_15.n rfl rfl rfl (t_15_10 hS1) ?_))
  intro z2 ez2 f3
  refine n_sipush c_62_10 rfl ?_
  refine n_if2_le c_62_13 (by omega) (by omega) ?_ ?_
  · intro h4
    refine n_iconst c_62_20 (n_putZV (bi := 1) hS1 c_62_21 made103.c0.1.n rfl rfl rfl (by omega) rfl (w_made made103 (by omega) (by omega)) ?_)
    intro M5 eM5 hS5
    have hK5 := hK1.u (by unfold Kok; omega) eM5
    have g5_0 : M5 15 10 = M1 15 10 := by rw [eM5]; exact nu_a (by omega)
    have g5_1 : M5 103 0 = M1 103 0 := by rw [eM5]; exact nu_i (by omega)
    have g5_2 : M5 103 1 = 0 := by rw [eM5]; exact nu_s _ _ _ _
    refine n_aload_n c_62_24 rfl (n_aload_n c_62_25 rfl (n_getV (bi := 1) c_62_26 made103.c0.1.n rfl rfl rfl (t_made hS5 made103).2.1 ?_))
    intro z6 ez6 f7
    obtain rfl : z6 = 0 := by omega
    refine n_if0_eq c_62_29 (by omega) ?_ ?_
    · intro h8
      refine n_aload_n c_62_36 rfl (n_getV (bi := 10) c_62_37 sc_15.n rfl rfl rfl (t_15_10 hS5) ?_)
      intro z9 ez9 f10
      refine n_putV (bi := 2) hS5 c_62_40 made103.c0.1.n rfl rfl rfl rfl (w_made made103 (by omega) (by omega)) ?_
      intro M11 eM11 hS11
      have hK11 := hK5.u (by unfold Kok; omega) eM11
      have g11_0 : M11 15 10 = M5 15 10 := by rw [eM11]; exact nu_a (by omega)
      have g11_1 : M11 103 0 = M5 103 0 := by rw [eM11]; exact nu_i (by omega)
      have g11_2 : M11 103 1 = M5 103 1 := by rw [eM11]; exact nu_i (by omega)
      have g11_3 : M11 103 2 = z9 := by rw [eM11]; exact nu_s _ _ _ _
      refine n_iconst c_62_43 (n_istore_n (L2 := [some (2, 15), some (2, 103), some (0, 0)]) c_62_44 rfl rfl (n_fg (le_s (le_s (le_s le_0))) ?_))
      exact (end_1_3_c hS hK 1044).1 _ M11 hS11 (by omega) hK11 (by omega) (by omega)
    · intro h12
      exfalso; omega
  · intro h13
    refine n_iconst c_62_16 (n_goto c_62_17 (n_putZV (bi := 1) hS1 c_62_21 made103.c0.1.n rfl rfl rfl (by omega) rfl (w_made made103 (by omega) (by omega)) ?_))
    intro M14 eM14 hS14
    have hK14 := hK1.u (by unfold Kok; omega) eM14
    have g14_0 : M14 15 10 = M1 15 10 := by rw [eM14]; exact nu_a (by omega)
    have g14_1 : M14 103 0 = M1 103 0 := by rw [eM14]; exact nu_i (by omega)
    have g14_2 : M14 103 1 = 1 := by rw [eM14]; exact nu_s _ _ _ _
    refine n_aload_n c_62_24 rfl (n_aload_n c_62_25 rfl (n_getV (bi := 1) c_62_26 made103.c0.1.n rfl rfl rfl (t_made hS14 made103).2.1 ?_))
    intro z15 ez15 f16
    obtain rfl : z15 = 1 := by omega
    refine n_if0_eq c_62_29 (by omega) ?_ ?_
    · intro h17
      exfalso; omega
    · intro h18
      refine n_iconst c_62_32 (n_goto c_62_33 (n_putV (bi := 2) hS14 c_62_40 made103.c0.1.n rfl rfl rfl rfl (w_made made103 (by omega) (by omega)) ?_))
      intro M19 eM19 hS19
      have hK19 := hK14.u (by unfold Kok; omega) eM19
      have g19_0 : M19 15 10 = M14 15 10 := by rw [eM19]; exact nu_a (by omega)
      have g19_1 : M19 103 0 = M14 103 0 := by rw [eM19]; exact nu_i (by omega)
      have g19_2 : M19 103 1 = M14 103 1 := by rw [eM19]; exact nu_i (by omega)
      have g19_3 : M19 103 2 = 0 := by rw [eM19]; exact nu_s _ _ _ _
      refine n_iconst c_62_43 (n_istore_n (L2 := [some (2, 15), some (2, 103), some (0, 0)]) c_62_44 rfl rfl (n_fg (le_s (le_s (le_s le_0))) ?_))
      exact (end_1_3_c hS hK 1044).1 _ M19 hS19 (by omega) hK19 (by omega) (by omega)

set_option maxHeartbeats 4000000 in
theorem begin_1_3 {xs : List Int32} {e : Nat} {ac : Int} {M0 M : nM} (hS : Sf 3 ac M0 M) (hB : M 15 0 = 4) : nW xs (e + 3) 50 0 [some (2, 15), some (0, 1), none] [] M (nPV fun M1 => Sf 3 ac M0 M1 ∧ MK 27 27 26 0 0 1 3 9 0 0 0 0 0 0 M1) := by
  have hd : (3 : Int) = 2 ∨ (3 : Int) = 3 := by decide
  have hac := hS.2.2.2.2
  refine n_aload_n c_50_0 rfl (n_getB c_50_1 hB (n_iload_n c_50_4 rfl (n_v1I c_50_5 rfl sc_4.n rfl rfl rfl rfl (power1_3  hS ) ?_)))
  intro z1 M2 hP3
  obtain ⟨eM, f3⟩ := hP3
  subst eM
  obtain rfl : z1 = 3 := by omega
  refine n_istore_n (L2 := [some (2, 15), some (0, 1), some (0, 3)]) c_50_8 rfl rfl (n_aload_n c_50_9 rfl (n_getP c_50_10 ?_))
  intro p4 ep4
  refine n_alenP hS c_50_13 ep4 ?_
  intro z5 hz5
  refine n_aload_n c_50_14 rfl (n_getB c_50_15 hB (n_iload_n c_50_18 rfl (n_v1I c_50_19 rfl sc_4.n rfl rfl rfl rfl (codes1_3  hS ) ?_)))
  intro z6 M7 hP8
  obtain ⟨eM, f8⟩ := hP8
  subst eM
  obtain rfl : z6 = 27 := by omega
  refine n_if2_ge c_50_22 (by omega) (by omega) ?_ ?_
  · intro h9
    refine n_aload_n c_50_34 rfl (n_aload_n c_50_35 rfl (n_getR c_50_36 sc_15.n rfl rfl rfl r_15_6 (n_iconst c_50_39 (n_iload_n c_50_40 rfl (n_v3V c_50_41 rfl sc_15.n rfl rfl rfl rfl (weighFrom25_1_3 (Ms := M) hS (by exact hB)) ?_)))))
    intro  M10 hP11
    obtain ⟨hS10, f11p0, f11p1⟩ := hP11
    have hBM10 := (f11p0 15 0 (by omega) (by omega)).trans hB
    have hPM10 := f11p0 15 9 (by omega) (by omega)
    refine n_aload_n c_50_44 rfl (n_aload_n c_50_45 rfl (n_getR c_50_46 sc_15.n rfl rfl rfl r_15_7 (n_iconst c_50_49 (n_iload_n c_50_50 rfl (n_v3V c_50_51 rfl sc_15.n rfl rfl rfl rfl (weighFrom27_1_3 (Ms := M10) hS10 (by exact hBM10)) ?_)))))
    intro  M12 hP13
    obtain ⟨hS12, f13p0, f13p1⟩ := hP13
    have hBM12 := (f13p0 15 0 (by omega) (by omega)).trans hBM10
    have hPM12 := f13p0 15 9 (by omega) (by omega)
    have f11p1M12 := f11p1.of (fun i => f13p0 25 i (by omega) (by omega)) (fun i => f13p0 26 i (by omega) (by omega))
    refine n_aload_n c_50_54 rfl (n_aload_n c_50_55 rfl (n_getR c_50_56 sc_15.n rfl rfl rfl r_15_8 (n_bipush c_50_59 rfl (n_iload_n c_50_61 rfl (n_v3V c_50_62 rfl sc_15.n rfl rfl rfl rfl (weighFrom29_1_3 (Ms := M12) hS12 (by exact hBM12)) ?_)))))
    intro  M14 hP15
    obtain ⟨hS14, f15p0, f15p1⟩ := hP15
    have hBM14 := (f15p0 15 0 (by omega) (by omega)).trans hBM12
    have hPM14 := f15p0 15 9 (by omega) (by omega)
    have f11p1M12M14 := f11p1M12.of (fun i => f15p0 25 i (by omega) (by omega)) (fun i => f15p0 26 i (by omega) (by omega))
    have f13p1M14 := f13p1.of (fun i => f15p0 27 i (by omega) (by omega)) (fun i => f15p0 28 i (by omega) (by omega))
    refine n_aload_n c_50_65 rfl (n_iconst c_50_66 (n_putV (bi := 10) hS14 c_50_67 sc_15.n rfl rfl rfl rfl (w_15_10 (by omega)) ?_))
    intro M16 eM16 hS16
    have g16_0 : M16 15 10 = 0 := by rw [eM16]; exact nu_s _ _ _ _
    have qa : M16 15 0 = M14 15 0 := by rw [eM16]; exact nu_i (by omega)
    have qb : M16 15 9 = M14 15 9 := by rw [eM16]; exact nu_i (by omega)
    have hKb : MK 27 27 26 0 0 1 3 9 0 0 0 0 0 0 M16 := MK.mk0 (qa.trans hBM14) (by omega) (by omega) (by omega) (by omega) (f11p1M12M14.of (fun i => by rw [eM16]; exact nu_a (by omega)) (fun i => by rw [eM16]; exact nu_a (by omega))) (f13p1M14.of (fun i => by rw [eM16]; exact nu_a (by omega)) (fun i => by rw [eM16]; exact nu_a (by omega))) (f15p1.of (fun i => by rw [eM16]; exact nu_a (by omega)) (fun i => by rw [eM16]; exact nu_a (by omega)))
    refine n_aload_n c_50_70 rfl (n_aload_n c_50_71 rfl (n_aload_n c_50_72 rfl (n_getB c_50_73 hKb.b (n_getR c_50_76 sc_4.n rfl rfl rfl r_4_4 (n_iload_n c_50_79 rfl (n_v2I c_50_80 rfl sc_15.n rfl rfl rfl rfl (codeOf7_1_3  hS16 (by exact hKb.b)) ?_))))))
    intro z17 M18 hP19
    obtain ⟨eM, f19⟩ := hP19
    subst eM
    refine n_iconst c_50_83 (n_v2V c_50_84 rfl sc_15.n rfl rfl rfl rfl (add_1_3 (c := z17) (s := 0) hS16 (by omega) (by omega) hKb) ?_)
    intro  M20 hP21
    obtain ⟨hS20, f21K, f21p0⟩ := hP21
    refine n_iload_n c_50_87 rfl (n_iconst c_50_88 ?_)
    refine n_if2_le c_50_89 (by omega) (by omega) ?_ ?_
    · intro h22
      refine n_iload_n c_50_109 rfl (n_iconst c_50_110 ?_)
      refine n_if2_le c_50_111 (by omega) (by omega) ?_ ?_
      · intro h23
        exact n_rV c_50_131 rfl ⟨hS20, f21K⟩
      · intro h24
        exfalso; omega
    · intro h25
      exfalso; omega
  · intro h26
    exfalso; omega

set_option maxHeartbeats 4000000 in
theorem make_1_3_c {xs : List Int32} {e : Nat} {ac : Int} {M0 M : nM} {c m : Int} (hS : Sf 3 ac M0 M) (hc : 0 ≤ c ∧ c ≤ 8) (hm : -2147483648 ≤ m ∧ m ≤ 2147483647) (hca : c = ac) : ∀ nn : Nat, (∀ (x7 : Int) (M : nM), Sf 3 ac M0 M → (0 ≤ x7 ∧ x7 ≤ 257) → (MK 27 27 26 0 0 1 3 9 0 0 0 0 0 0 M) → (257 - x7) * 12 + 13 < (nn : Int) → nW xs (e + 4) 49 13 [some (2, 15), none, none, some (2, 12), some (0, c), some (0, m), some (2, 103), some (0, x7), none] [] M (nPV fun M1 => Sf 3 ac M0 M1 ∧ MK 27 27 26 0 0 1 3 9 0 0 0 0 0 0 M1)) ∧ (∀ (x7 x8 : Int) (M : nM), Sf 3 ac M0 M → (0 ≤ x7 ∧ x7 ≤ 256) → (0 ≤ x8 ∧ x8 ≤ 8) → (MK 27 27 26 0 0 1 3 9 0 0 0 0 0 0 M) → (x7 < M 15 10) → (257 - x7) * 12 + (8 - x8) * 1 + 3 < (nn : Int) → nW xs (e + 4) 49 65 [some (2, 15), none, none, some (2, 12), some (0, c), some (0, m), some (2, 103), some (0, x7), some (0, x8)] [] M (nPV fun M1 => Sf 3 ac M0 M1 ∧ MK 27 27 26 0 0 1 3 9 0 0 0 0 0 0 M1)) ∧ (∀ (x7 : Int) (M : nM), Sf 3 ac M0 M → (0 ≤ x7 ∧ x7 ≤ 256) → (MK 27 27 26 0 0 1 3 9 0 0 0 0 0 0 M) → (257 - x7) * 12 + 2 < (nn : Int) → nW xs (e + 4) 49 104 [some (2, 15), none, none, some (2, 12), some (0, c), some (0, m), some (2, 103), some (0, x7), none] [] M (nPV fun M1 => Sf 3 ac M0 M1 ∧ MK 27 27 26 0 0 1 3 9 0 0 0 0 0 0 M1)) ∧ (∀ (M : nM), Sf 3 ac M0 M → (MK 27 27 26 0 0 1 3 9 0 0 0 0 0 0 M) → 1 < (nn : Int) → nW xs (e + 4) 49 110 [some (2, 15), none, none, none, none, none, some (2, 103), none, none] [] M (nPV fun M1 => Sf 3 ac M0 M1 ∧ MK 27 27 26 0 0 1 3 9 0 0 0 0 0 0 M1)) := by
  have hd : (3 : Int) = 2 ∨ (3 : Int) = 3 := by decide
  have hac := hS.2.2.2.2
  intro nn
  induction nn with
  | zero => refine ⟨?_, ?_, ?_, ?_⟩ <;> (intros; omega)
  | succ nn ih =>
    refine ⟨?_, ?_, ?_, ?_⟩
    · intro x7 M hS k7 hK hnn
      refine n_iload c_49_13 rfl (n_aload_n c_49_15 rfl (n_getV (bi := 10) c_49_16 sc_15.n rfl rfl rfl (t_15_10 hS) ?_))
      intro z1 ez1 f2
      refine n_if2_ge c_49_19 (by omega) (by omega) ?_ ?_
      · intro h3
        refine n_fg (le_s (le_n (le_n (le_n (le_n (le_n (le_s (le_n (le_n le_0))))))))) ?_
        exact ih.2.2.2  M hS hK (by omega)
      · intro h4
        refine n_aload_n c_49_22 rfl (n_getV (bi := 10) c_49_23 sc_15.n rfl rfl rfl (t_15_10 hS) ?_)
        intro z5 ez5 f6
        refine n_sipush c_49_26 rfl ?_
        refine n_if2_gt c_49_29 (by omega) (by omega) ?_ ?_
        · intro h7
          refine n_fg (le_s (le_n (le_n (le_n (le_n (le_n (le_s (le_n (le_n le_0))))))))) ?_
          exact ih.2.2.2  M hS hK (by omega)
        · intro h8
          refine n_aload_n c_49_32 rfl (n_iload c_49_33 rfl (n_v1V c_49_35 rfl sc_15.n rfl rfl rfl rfl (bringLeast_1_3 (e0 := x7) (g := (M 15 10)) (g2 := (M 103 2)) hS (by omega) hK rfl rfl (by omega)) ?_))
          intro  M9 hP10
          obtain ⟨hS9, f10g0, f10g1, f10K⟩ := hP10
          refine n_aload_n c_49_38 rfl (n_aload_n c_49_39 rfl (n_getV (bi := 10) c_49_40 sc_15.n rfl rfl rfl (t_15_10 hS9) ?_))
          intro z11 ez11 f12
          refine n_iload c_49_43 rfl ?_
          refine n_if2_ne c_49_45 (by omega) (by omega) ?_ ?_
          · intro h13
            refine n_ldc (n := 3000002) c_49_57 rfl (n_putV (bi := 11) hS9 c_49_59 sc_15.n rfl rfl rfl rfl (w_15_11 (by omega)) ?_)
            intro M14 eM14 hS14
            have hK14 := f10K.u (by unfold Kok; omega) eM14
            have g14_0 : M14 15 10 = M9 15 10 := by rw [eM14]; exact nu_i (by omega)
            have g14_1 : M14 15 11 = 3000002 := by rw [eM14]; exact nu_s _ _ _ _
            refine n_iconst c_49_62 (n_istore (L2 := [some (2, 15), none, none, some (2, 12), some (0, c), some (0, m), some (2, 103), some (0, x7), some (0, 0)]) c_49_63 rfl rfl (n_fg (le_s (le_n (le_n (le_s (le_s (le_s (le_s (le_s (le_s le_0))))))))) ?_))
            exact ih.2.1 _ _ M14 hS14 (by omega) (by omega) hK14 (by omega) (by omega)
          · intro h15
            refine n_aload_n c_49_48 rfl (n_iload c_49_49 rfl (n_v1I c_49_51 rfl sc_15.n rfl rfl rfl rfl (largestSize_3 (f := x7) hS9 (by omega)) ?_))
            intro z16 M17 hP18
            obtain ⟨eM, f18⟩ := hP18
            subst eM
            refine n_goto c_49_54 (n_putV (bi := 11) hS9 c_49_59 sc_15.n rfl rfl rfl rfl (w_15_11 (by omega)) ?_)
            intro M19 eM19 hS19
            have hK19 := f10K.u (by unfold Kok; omega) eM19
            have g19_0 : M19 15 10 = M9 15 10 := by rw [eM19]; exact nu_i (by omega)
            have g19_1 : M19 15 11 = z16 := by rw [eM19]; exact nu_s _ _ _ _
            refine n_iconst c_49_62 (n_istore (L2 := [some (2, 15), none, none, some (2, 12), some (0, c), some (0, m), some (2, 103), some (0, x7), some (0, 0)]) c_49_63 rfl rfl (n_fg (le_s (le_n (le_n (le_s (le_s (le_s (le_s (le_s (le_s le_0))))))))) ?_))
            exact ih.2.1 _ _ M19 hS19 (by omega) (by omega) hK19 (by omega) (by omega)
    · intro x7 x8 M hS k7 k8 hK v0 hnn
      refine n_iload c_49_65 rfl (n_iload c_49_67 rfl ?_)
      refine n_if2_ge c_49_69 (by omega) (by omega) ?_ ?_
      · intro h1
        refine n_fg (le_s (le_n (le_n (le_s (le_s (le_s (le_s (le_s (le_n le_0))))))))) ?_
        exact ih.2.2.1 _ M hS (by omega) hK (by omega)
      · intro h2
        refine n_aload_n c_49_72 rfl (n_getR c_49_73 sc_15.n rfl rfl rfl r_15_2 (n_iload c_49_76 rfl (n_ialoadV c_49_78 sc_21.n rfl rfl rfl (by omega) (t_21 hS (by omega)) ?_)))
        intro z3 ez3 f4
        refine n_iconst c_49_79 (n_iadd c_49_80 rfl (n_wrap ?_))
        have f5 := n_wr_r (z3 + 1)
        generalize n_wr (z3 + 1) = z6 at f5 ⊢
        refine n_aload_n c_49_81 rfl (n_getV (bi := 11) c_49_82 sc_15.n rfl rfl rfl (t_15_11 hS) ?_)
        intro z7 ez7 f8
        refine n_if2_ge c_49_85 (by omega) (by omega) ?_ ?_
        · intro h9
          refine n_fg (le_s (le_n (le_n (le_s (le_s (le_s (le_s (le_s (le_n le_0))))))))) ?_
          exact ih.2.2.1 _ M hS (by omega) hK (by omega)
        · intro h10
          refine n_aload_n c_49_88 rfl (n_aload_n c_49_89 rfl (n_iload c_49_90 rfl (n_aaload c_49_92 sc_12.n rfl rfl rfl (by omega) (r_acts _) ?_)))
          have q11 : ActAt (55 + 3 * x8) := by unfold ActAt; omega
          have q11l : (55 + 3 * x8) < 55 + 3 * ac := by omega
          refine n_iload c_49_93 rfl (n_v2V c_49_95 rfl sc_15.n rfl rfl rfl rfl (putOn_1_3 (p := (55 + 3 * x8)) (e0 := x7) (g := (M 15 10)) hS q11 q11l (by omega) hK (by omega) (by omega)) ?_)
          intro  M12 hP13
          obtain ⟨hS12, f13K, f13p0⟩ := hP13
          refine n_iinc (L2 := [some (2, 15), none, none, some (2, 12), some (0, c), some (0, m), some (2, 103), some (0, x7), some (0, (x8 + 1))]) c_49_98 rfl rfl rfl (n_goto c_49_101 (n_fg (le_s (le_n (le_n (le_s (le_s (le_s (le_s (le_s (le_s le_0))))))))) ?_))
          exact ih.2.1 _ _ M12 hS12 (by omega) (by omega) f13K (by omega) (by omega)
    · intro x7 M hS k7 hK hnn
      refine n_iinc (L2 := [some (2, 15), none, none, some (2, 12), some (0, c), some (0, m), some (2, 103), some (0, (x7 + 1)), none]) c_49_104 rfl rfl rfl (n_goto c_49_107 (n_fg (le_s (le_n (le_n (le_s (le_s (le_s (le_s (le_s (le_n le_0))))))))) ?_))
      exact ih.1 _ M hS (by omega) hK (by omega)
    · intro M hS hK hnn
      refine n_aload_n c_49_110 rfl (n_aload c_49_111 rfl (n_v1V c_49_113 rfl sc_15.n rfl rfl rfl rfl (end_1_3  hS hK) ?_))
      intro  M1 hP2
      obtain ⟨hS1, f2K⟩ := hP2
      exact n_rV c_49_116 rfl ⟨hS1, f2K⟩
set_option maxHeartbeats 4000000 in
theorem make_1_3 {xs : List Int32} {e : Nat} {ac : Int} {M0 M : nM} {c m : Int} (hS : Sf 3 ac M0 M) (hc : 0 ≤ c ∧ c ≤ 8) (hm : -2147483648 ≤ m ∧ m ≤ 2147483647) (hca : c = ac) : nW xs (e + 4) 49 0 [some (2, 15), some (0, 1), some (2, 4), some (2, 12), some (0, c), some (0, m), some (2, 103), none, none] [] M (nPV fun M1 => Sf 3 ac M0 M1 ∧ MK 27 27 26 0 0 1 3 9 0 0 0 0 0 0 M1) := by
  have hd : (3 : Int) = 2 ∨ (3 : Int) = 3 := by decide
  have hac := hS.2.2.2.2
  refine n_aload_n c_49_0 rfl (n_aload_n c_49_1 rfl (n_putB hS c_49_2 ?_))
  intro M1 eM1 hS1
  have hB1 : M1 15 0 = 4 := by rw [eM1]; exact nu_s _ _ _ _
  refine n_aload_n c_49_5 rfl (n_iload_n c_49_6 rfl (n_v1V c_49_7 rfl sc_15.n rfl rfl rfl rfl (begin_1_3  hS1 (by exact hB1)) ?_))
  intro  M2 hP3
  obtain ⟨hS2, f3K⟩ := hP3
  refine n_iconst c_49_10 (n_istore (L2 := [some (2, 15), some (0, 1), some (2, 4), some (2, 12), some (0, c), some (0, m), some (2, 103), some (0, 0), none]) c_49_11 rfl rfl (n_fg (le_s (le_n (le_n (le_s (le_s (le_s (le_s (le_s (le_n le_0))))))))) ?_))
  exact (make_1_3_c hS hc hm hca 6228).1 _ M2 hS2 (by omega) f3K (by omega)

set_option maxHeartbeats 4000000 in
theorem mostMade_1_3_c {xs : List Int32} {e : Nat} {ac : Int} {M0 M : nM} (hS : Sf 3 ac M0 M)  : ∀ nn : Nat, (∀ (x2 x3 x4 : Int), (3 ≤ x2 ∧ x2 ≤ 3) → (-2147483648 ≤ x3 ∧ x3 ≤ 2147483647) → (0 ≤ x4 ∧ x4 ≤ 3) → (3 - x4) * 1 + 1 < (nn : Int) → nW xs (e + 4) 131 14 [some (2, 3), some (0, 1), some (0, x2), some (0, x3), some (0, x4)] [] M (nPI fun z M1 => M = M1 ∧ (-2147483648 ≤ z ∧ z ≤ 2147483647))) := by
  have hd : (3 : Int) = 2 ∨ (3 : Int) = 3 := by decide
  have hac := hS.2.2.2.2
  intro nn
  induction nn with
  | zero => intros; omega
  | succ nn ih =>
    intro x2 x3 x4 k2 k3 k4 hnn
    refine n_iload c_131_14 rfl (n_iload_n c_131_16 rfl ?_)
    refine n_if2_ge c_131_17 (by omega) (by omega) ?_ ?_
    · intro h1
      refine n_iload_n c_131_46 rfl ?_
      exact n_rI c_131_47 rfl ⟨rfl, by omega⟩
    · intro h2
      refine n_iload_n c_131_20 rfl (n_aload_n c_131_21 rfl (n_aload_n c_131_22 rfl (n_getR c_131_23 sc_3.n rfl rfl rfl r_3_0 (n_iload c_131_26 rfl (n_iload_n c_131_28 rfl (n_v2I c_131_29 rfl sc_4.n rfl rfl rfl rfl (thingsOf_3 (r := x4) (p := 1) hS (by omega) (by omega)) ?_))))))
      intro z3 M4 hP5
      obtain ⟨eM, f5⟩ := hP5
      subst eM
      refine n_v1I c_131_32 rfl sc_3.n rfl rfl rfl rfl (leastHeap_3 (m := z3) hS (by omega)) ?_
      intro z6 M7 hP8
      obtain ⟨eM, f8⟩ := hP8
      subst eM
      refine n_s1I c_131_35 rfl rfl rfl rfl (ibits_3 (x := z6) hS (by omega)) ?_
      intro z9 M10 hP11
      obtain ⟨eM, f11⟩ := hP11
      subst eM
      refine n_imul c_131_38 rfl (n_wrap ?_)
      have f12 := n_wr_r (x3 * z9)
      generalize n_wr (x3 * z9) = z13 at f12 ⊢
      refine n_istore_n (L2 := [some (2, 3), some (0, 1), some (0, x2), some (0, z13), some (0, x4)]) c_131_39 rfl rfl (n_iinc (L2 := [some (2, 3), some (0, 1), some (0, x2), some (0, z13), some (0, (x4 + 1))]) c_131_40 rfl rfl rfl (n_goto c_131_43 (n_fg (le_s (le_s (le_s (le_s (le_s le_0))))) ?_)))
      exact ih _ _ _ (by omega) (by omega) (by omega) (by omega)
set_option maxHeartbeats 4000000 in
theorem mostMade_1_3 {xs : List Int32} {e : Nat} {ac : Int} {M0 M : nM} (hS : Sf 3 ac M0 M)  : nW xs (e + 4) 131 0 [some (2, 3), some (0, 1), none, none, none] [] M (nPI fun z M1 => M = M1 ∧ (-2147483648 ≤ z ∧ z ≤ 2147483647)) := by
  have hd : (3 : Int) = 2 ∨ (3 : Int) = 3 := by decide
  have hac := hS.2.2.2.2
  refine n_aload_n c_131_0 rfl (n_getR c_131_1 sc_3.n rfl rfl rfl r_3_0 (n_iload_n c_131_4 rfl (n_v1I c_131_5 rfl sc_4.n rfl rfl rfl rfl (power1_3  hS ) ?_)))
  intro z1 M2 hP3
  obtain ⟨eM, f3⟩ := hP3
  subst eM
  obtain rfl : z1 = 3 := by omega
  refine n_istore_n (L2 := [some (2, 3), some (0, 1), some (0, 3), none, none]) c_131_8 rfl rfl (n_iconst c_131_9 (n_istore_n (L2 := [some (2, 3), some (0, 1), some (0, 3), some (0, 1), none]) c_131_10 rfl rfl (n_iconst c_131_11 (n_istore (L2 := [some (2, 3), some (0, 1), some (0, 3), some (0, 1), some (0, 0)]) c_131_12 rfl rfl (n_fg (le_s (le_s (le_s (le_s (le_s le_0))))) ?_)))))
  exact (mostMade_1_3_c hS  20) _ _ _ (by omega) (by omega) (by omega) (by omega)

set_option maxHeartbeats 4000000 in
theorem madeList_1_3_c {xs : List Int32} {e : Nat} {ac : Int} {M0 M : nM} (hS : Sf 3 ac M0 M)  : ∀ nn : Nat, (∀ (M : nM), Sf 3 ac M0 M → 1 < (nn : Int) → nW xs (e + 5) 130 42 [none, none, some (2, 103)] [] M (nPA fun z M1 => Sf 3 ac M0 M1 ∧ z = 103)) := by
  have hd : (3 : Int) = 2 ∨ (3 : Int) = 3 := by decide
  have hac := hS.2.2.2.2
  intro nn
  induction nn with
  | zero => intros; omega
  | succ nn ih =>
    intro M hS hnn
    refine n_aload_n c_130_42 rfl ?_
    exact n_rA c_130_43 rfl ⟨hS, rfl⟩
set_option maxHeartbeats 4000000 in
theorem madeList_1_3 {xs : List Int32} {e : Nat} {ac : Int} {M0 M : nM} (hS : Sf 3 ac M0 M)  : nW xs (e + 5) 130 0 [some (2, 3), some (0, 1), none] [] M (nPA fun z M1 => Sf 3 ac M0 M1 ∧ z = 103) := by
  have hd : (3 : Int) = 2 ∨ (3 : Int) = 3 := by decide
  have hac := hS.2.2.2.2
  refine n_aload_n c_130_0 rfl (n_getR c_130_1 sc_3.n rfl rfl rfl r_3_4 (n_iload_n c_130_4 rfl (n_iconst c_130_5 (n_isub c_130_6 rfl (n_aaload c_130_7 sc_14.n rfl rfl rfl (by omega) (r_made _) ?_)))))
  refine n_stk (show ((103 + 3 * (1 - 1)) : Int) = 103 from rfl) (n_astore_n (L2 := [some (2, 3), some (0, 1), some (2, 103)]) c_130_8 rfl rfl (n_aload_n c_130_9 rfl (n_getV (bi := 0) c_130_10 made103.c0.1.n rfl rfl rfl (t_made hS made103).1 ?_)))
  intro z1 ez1 f2
  refine n_if0_ne c_130_13 (by omega) ?_ ?_
  · intro h3
    refine n_fg (le_n (le_n (le_s le_0))) ?_
    exact (madeList_1_3_c hS  12)  M hS  (by omega)
  · intro h4
    refine n_aload_n c_130_16 rfl (n_getR c_130_17 sc_3.n rfl rfl rfl r_3_5 (n_iload_n c_130_20 rfl (n_aload_n c_130_21 rfl (n_getR c_130_22 sc_3.n rfl rfl rfl r_3_0 (n_aload_n c_130_25 rfl (n_getR c_130_26 sc_3.n rfl rfl rfl r_3_2 (n_aload_n c_130_29 rfl (n_getV (bi := 14) c_130_30 sc_3.n rfl rfl rfl (t_3_14x hS) ?_))))))))
    intro z5 ez5 f6
    have f6a := t_ac hS
    refine n_aload_n c_130_33 rfl (n_iload_n c_130_34 rfl (n_v1I c_130_35 rfl sc_3.n rfl rfl rfl rfl (mostMade_1_3  hS ) ?_))
    intro z7 M8 hP9
    obtain ⟨eM, f9⟩ := hP9
    subst eM
    refine n_aload_n c_130_38 rfl (n_v6V c_130_39 rfl sc_15.n rfl rfl rfl rfl (make_1_3 (c := z5) (m := z7) hS (by omega) (by omega) (by omega)) ?_)
    intro  M10 hP11
    obtain ⟨hS10, f11K⟩ := hP11
    refine n_fg (le_n (le_n (le_s le_0))) ?_
    exact (madeList_1_3_c hS  12)  M10 hS10  (by omega)

set_option maxHeartbeats 4000000 in
theorem sizeOf_1_3_c {xs : List Int32} {e : Nat} {ac : Int} {M0 M : nM} {c : Int} (hS : Sf 3 ac M0 M) (hc : -2147483648 ≤ c ∧ c ≤ 2147483647) : ∀ nn : Nat, (∀ (x2 : Int), (0 ≤ x2 ∧ x2 ≤ 256) → (256 - x2) * 1 + 1 < (nn : Int) → nW xs e 47 2 [some (2, 103), some (0, c), some (0, x2)] [] M (nPI fun z M1 => M = M1 ∧ (-2147483648 ≤ z ∧ z ≤ 2147483647))) := by
  have hd : (3 : Int) = 2 ∨ (3 : Int) = 3 := by decide
  have hac := hS.2.2.2.2
  intro nn
  induction nn with
  | zero => intros; omega
  | succ nn ih =>
    intro x2 k2 hnn
    refine n_iload_n c_47_2 rfl (n_aload_n c_47_3 rfl (n_getV (bi := 2) c_47_4 made103.c0.1.n rfl rfl rfl (t_made hS made103).2.2 ?_))
    intro z1 ez1 f2
    refine n_if2_ge c_47_7 (by omega) (by omega) ?_ ?_
    · intro h3
      refine n_bipush c_47_33 rfl ?_
      exact n_rI c_47_35 rfl ⟨rfl, by omega⟩
    · intro h4
      refine n_aload_n c_47_10 rfl (n_getR c_47_11 made103.c0.1.n rfl rfl rfl made103.r.1 (n_iload_n c_47_14 rfl (n_ialoadV c_47_15 made103.c0.2.1.n rfl rfl rfl (by omega) (t_mader hS made103 (Or.inl rfl) (by omega)) ?_)))
      intro z5 ez5 f6
      refine n_iload_n c_47_16 rfl ?_
      refine n_if2_ne c_47_17 (by omega) (by omega) ?_ ?_
      · intro h7
        refine n_iinc (L2 := [some (2, 103), some (0, c), some (0, (x2 + 1))]) c_47_27 rfl rfl rfl (n_goto c_47_30 (n_fg (le_s (le_s (le_s le_0))) ?_))
        exact ih _ (by omega) (by omega)
      · intro h8
        refine n_aload_n c_47_20 rfl (n_getR c_47_21 made103.c0.1.n rfl rfl rfl made103.r.2 (n_iload_n c_47_24 rfl (n_ialoadV c_47_25 made103.c0.2.2.n rfl rfl rfl (by omega) (t_mader hS made103 (Or.inr rfl) (by omega)) ?_)))
        intro z9 ez9 f10
        exact n_rI c_47_26 rfl ⟨rfl, by omega⟩
set_option maxHeartbeats 4000000 in
theorem sizeOf_1_3 {xs : List Int32} {e : Nat} {ac : Int} {M0 M : nM} {c : Int} (hS : Sf 3 ac M0 M) (hc : -2147483648 ≤ c ∧ c ≤ 2147483647) : nW xs e 47 0 [some (2, 103), some (0, c), none] [] M (nPI fun z M1 => M = M1 ∧ (-2147483648 ≤ z ∧ z ≤ 2147483647)) := by
  have hd : (3 : Int) = 2 ∨ (3 : Int) = 3 := by decide
  have hac := hS.2.2.2.2
  refine n_iconst c_47_0 (n_istore_n (L2 := [some (2, 103), some (0, c), some (0, 0)]) c_47_1 rfl rfl (n_fg (le_s (le_s (le_s le_0))) ?_))
  exact (sizeOf_1_3_c hS hc 526) _ (by omega) (by omega)

set_option maxHeartbeats 4000000 in
theorem weight0_2_3 {xs : List Int32} {e : Nat} {ac : Int} {M0 M : nM} (hS : Sf 3 ac M0 M) (hB : M 15 0 = 4) : nW xs (e + 1) 52 0 [some (2, 15), some (0, 0), some (0, 9)] [] M (nPI fun z M1 => M = M1 ∧ (1 ≤ z ∧ z ≤ 1)) := by
  have hd : (3 : Int) = 2 ∨ (3 : Int) = 3 := by decide
  have hac := hS.2.2.2.2
  refine n_iload_n c_52_0 rfl (n_iload_n c_52_1 rfl ?_)
  refine n_if2_ge c_52_2 (by omega) (by omega) ?_ ?_
  · intro h1
    exfalso; omega
  · intro h2
    refine n_aload_n c_52_5 rfl (n_getB c_52_6 hB (n_iload_n c_52_9 rfl (n_v1I c_52_10 rfl sc_4.n rfl rfl rfl rfl (power0_3  hS ) ?_)))
    intro z3 M4 hP5
    obtain ⟨eM, f5⟩ := hP5
    subst eM
    obtain rfl : z3 = 1 := by omega
    refine n_goto c_52_13 ?_
    exact n_rI c_52_17 rfl ⟨rfl, by omega⟩

set_option maxHeartbeats 4000000 in
theorem weight1_2_3 {xs : List Int32} {e : Nat} {ac : Int} {M0 M : nM} (hS : Sf 3 ac M0 M) (hB : M 15 0 = 4) : nW xs (e + 1) 52 0 [some (2, 15), some (0, 1), some (0, 9)] [] M (nPI fun z M1 => M = M1 ∧ (3 ≤ z ∧ z ≤ 3)) := by
  have hd : (3 : Int) = 2 ∨ (3 : Int) = 3 := by decide
  have hac := hS.2.2.2.2
  refine n_iload_n c_52_0 rfl (n_iload_n c_52_1 rfl ?_)
  refine n_if2_ge c_52_2 (by omega) (by omega) ?_ ?_
  · intro h1
    exfalso; omega
  · intro h2
    refine n_aload_n c_52_5 rfl (n_getB c_52_6 hB (n_iload_n c_52_9 rfl (n_v1I c_52_10 rfl sc_4.n rfl rfl rfl rfl (power1_3  hS ) ?_)))
    intro z3 M4 hP5
    obtain ⟨eM, f5⟩ := hP5
    subst eM
    obtain rfl : z3 = 3 := by omega
    refine n_goto c_52_13 ?_
    exact n_rI c_52_17 rfl ⟨rfl, by omega⟩

set_option maxHeartbeats 4000000 in
theorem weight2_2_3 {xs : List Int32} {e : Nat} {ac : Int} {M0 M : nM} (hS : Sf 3 ac M0 M) (hB : M 15 0 = 4) : nW xs (e + 1) 52 0 [some (2, 15), some (0, 2), some (0, 9)] [] M (nPI fun z M1 => M = M1 ∧ (9 ≤ z ∧ z ≤ 9)) := by
  have hd : (3 : Int) = 2 ∨ (3 : Int) = 3 := by decide
  have hac := hS.2.2.2.2
  refine n_iload_n c_52_0 rfl (n_iload_n c_52_1 rfl ?_)
  refine n_if2_ge c_52_2 (by omega) (by omega) ?_ ?_
  · intro h1
    exfalso; omega
  · intro h2
    refine n_aload_n c_52_5 rfl (n_getB c_52_6 hB (n_iload_n c_52_9 rfl (n_v1I c_52_10 rfl sc_4.n rfl rfl rfl rfl (power2_3  hS ) ?_)))
    intro z3 M4 hP5
    obtain ⟨eM, f5⟩ := hP5
    subst eM
    obtain rfl : z3 = 9 := by omega
    refine n_goto c_52_13 ?_
    exact n_rI c_52_17 rfl ⟨rfl, by omega⟩

set_option maxHeartbeats 4000000 in
theorem weight3_2_3 {xs : List Int32} {e : Nat} {ac : Int} {M0 M : nM} (hS : Sf 3 ac M0 M) (hB : M 15 0 = 4) : nW xs (e + 1) 52 0 [some (2, 15), some (0, 3), some (0, 9)] [] M (nPI fun z M1 => M = M1 ∧ (27 ≤ z ∧ z ≤ 27)) := by
  have hd : (3 : Int) = 2 ∨ (3 : Int) = 3 := by decide
  have hac := hS.2.2.2.2
  refine n_iload_n c_52_0 rfl (n_iload_n c_52_1 rfl ?_)
  refine n_if2_ge c_52_2 (by omega) (by omega) ?_ ?_
  · intro h1
    exfalso; omega
  · intro h2
    refine n_aload_n c_52_5 rfl (n_getB c_52_6 hB (n_iload_n c_52_9 rfl (n_v1I c_52_10 rfl sc_4.n rfl rfl rfl rfl (power3_3  hS ) ?_)))
    intro z3 M4 hP5
    obtain ⟨eM, f5⟩ := hP5
    subst eM
    obtain rfl : z3 = 27 := by omega
    refine n_goto c_52_13 ?_
    exact n_rI c_52_17 rfl ⟨rfl, by omega⟩

set_option maxHeartbeats 4000000 in
theorem weight4_2_3 {xs : List Int32} {e : Nat} {ac : Int} {M0 M : nM} (hS : Sf 3 ac M0 M) (hB : M 15 0 = 4) : nW xs (e + 1) 52 0 [some (2, 15), some (0, 4), some (0, 9)] [] M (nPI fun z M1 => M = M1 ∧ (81 ≤ z ∧ z ≤ 81)) := by
  have hd : (3 : Int) = 2 ∨ (3 : Int) = 3 := by decide
  have hac := hS.2.2.2.2
  refine n_iload_n c_52_0 rfl (n_iload_n c_52_1 rfl ?_)
  refine n_if2_ge c_52_2 (by omega) (by omega) ?_ ?_
  · intro h1
    exfalso; omega
  · intro h2
    refine n_aload_n c_52_5 rfl (n_getB c_52_6 hB (n_iload_n c_52_9 rfl (n_v1I c_52_10 rfl sc_4.n rfl rfl rfl rfl (power4_3  hS ) ?_)))
    intro z3 M4 hP5
    obtain ⟨eM, f5⟩ := hP5
    subst eM
    obtain rfl : z3 = 81 := by omega
    refine n_goto c_52_13 ?_
    exact n_rI c_52_17 rfl ⟨rfl, by omega⟩

set_option maxHeartbeats 4000000 in
theorem weight5_2_3 {xs : List Int32} {e : Nat} {ac : Int} {M0 M : nM} (hS : Sf 3 ac M0 M) (hB : M 15 0 = 4) : nW xs (e + 1) 52 0 [some (2, 15), some (0, 5), some (0, 9)] [] M (nPI fun z M1 => M = M1 ∧ (243 ≤ z ∧ z ≤ 243)) := by
  have hd : (3 : Int) = 2 ∨ (3 : Int) = 3 := by decide
  have hac := hS.2.2.2.2
  refine n_iload_n c_52_0 rfl (n_iload_n c_52_1 rfl ?_)
  refine n_if2_ge c_52_2 (by omega) (by omega) ?_ ?_
  · intro h1
    exfalso; omega
  · intro h2
    refine n_aload_n c_52_5 rfl (n_getB c_52_6 hB (n_iload_n c_52_9 rfl (n_v1I c_52_10 rfl sc_4.n rfl rfl rfl rfl (power5_3  hS ) ?_)))
    intro z3 M4 hP5
    obtain ⟨eM, f5⟩ := hP5
    subst eM
    obtain rfl : z3 = 243 := by omega
    refine n_goto c_52_13 ?_
    exact n_rI c_52_17 rfl ⟨rfl, by omega⟩

set_option maxHeartbeats 4000000 in
theorem weight6_2_3 {xs : List Int32} {e : Nat} {ac : Int} {M0 M : nM} (hS : Sf 3 ac M0 M) (hB : M 15 0 = 4) : nW xs (e + 1) 52 0 [some (2, 15), some (0, 6), some (0, 9)] [] M (nPI fun z M1 => M = M1 ∧ (729 ≤ z ∧ z ≤ 729)) := by
  have hd : (3 : Int) = 2 ∨ (3 : Int) = 3 := by decide
  have hac := hS.2.2.2.2
  refine n_iload_n c_52_0 rfl (n_iload_n c_52_1 rfl ?_)
  refine n_if2_ge c_52_2 (by omega) (by omega) ?_ ?_
  · intro h1
    exfalso; omega
  · intro h2
    refine n_aload_n c_52_5 rfl (n_getB c_52_6 hB (n_iload_n c_52_9 rfl (n_v1I c_52_10 rfl sc_4.n rfl rfl rfl rfl (power6_3  hS ) ?_)))
    intro z3 M4 hP5
    obtain ⟨eM, f5⟩ := hP5
    subst eM
    obtain rfl : z3 = 729 := by omega
    refine n_goto c_52_13 ?_
    exact n_rI c_52_17 rfl ⟨rfl, by omega⟩

set_option maxHeartbeats 4000000 in
theorem weight7_2_3 {xs : List Int32} {e : Nat} {ac : Int} {M0 M : nM} (hS : Sf 3 ac M0 M) (hB : M 15 0 = 4) : nW xs (e + 1) 52 0 [some (2, 15), some (0, 7), some (0, 9)] [] M (nPI fun z M1 => M = M1 ∧ (2187 ≤ z ∧ z ≤ 2187)) := by
  have hd : (3 : Int) = 2 ∨ (3 : Int) = 3 := by decide
  have hac := hS.2.2.2.2
  refine n_iload_n c_52_0 rfl (n_iload_n c_52_1 rfl ?_)
  refine n_if2_ge c_52_2 (by omega) (by omega) ?_ ?_
  · intro h1
    exfalso; omega
  · intro h2
    refine n_aload_n c_52_5 rfl (n_getB c_52_6 hB (n_iload_n c_52_9 rfl (n_v1I c_52_10 rfl sc_4.n rfl rfl rfl rfl (power7_3  hS ) ?_)))
    intro z3 M4 hP5
    obtain ⟨eM, f5⟩ := hP5
    subst eM
    obtain rfl : z3 = 2187 := by omega
    refine n_goto c_52_13 ?_
    exact n_rI c_52_17 rfl ⟨rfl, by omega⟩

set_option maxHeartbeats 4000000 in
theorem weight8_2_3 {xs : List Int32} {e : Nat} {ac : Int} {M0 M : nM} (hS : Sf 3 ac M0 M) (hB : M 15 0 = 4) : nW xs (e + 1) 52 0 [some (2, 15), some (0, 8), some (0, 9)] [] M (nPI fun z M1 => M = M1 ∧ (6561 ≤ z ∧ z ≤ 6561)) := by
  have hd : (3 : Int) = 2 ∨ (3 : Int) = 3 := by decide
  have hac := hS.2.2.2.2
  refine n_iload_n c_52_0 rfl (n_iload_n c_52_1 rfl ?_)
  refine n_if2_ge c_52_2 (by omega) (by omega) ?_ ?_
  · intro h1
    exfalso; omega
  · intro h2
    refine n_aload_n c_52_5 rfl (n_getB c_52_6 hB (n_iload_n c_52_9 rfl (n_v1I c_52_10 rfl sc_4.n rfl rfl rfl rfl (power8_3  hS ) ?_)))
    intro z3 M4 hP5
    obtain ⟨eM, f5⟩ := hP5
    subst eM
    obtain rfl : z3 = 6561 := by omega
    refine n_goto c_52_13 ?_
    exact n_rI c_52_17 rfl ⟨rfl, by omega⟩

set_option maxHeartbeats 4000000 in
theorem weigh25_2_3 {xs : List Int32} {e : Nat} {ac : Int} {M0 M : nM} {Ms : nM} (hS : Sf 3 ac M0 M) (hf : ∀ a i : Int, a ≠ 25 → a ≠ 26 → M a i = Ms a i) : nW xs (e + 1) 44 0 [some (2, 25), some (0, 1), some (0, 3), some (0, 9)] [] M (nPV fun M1 => Sf 3 ac M0 M1 ∧ (∀ a i : Int, a ≠ 25 → a ≠ 26 → M1 a i = Ms a i) ∧ (LK 25 26 1 3 9 M1)) := by
  have hd : (3 : Int) = 2 ∨ (3 : Int) = 3 := by decide
  have hac := hS.2.2.2.2
  refine n_aload_n c_44_0 rfl (n_iload_n c_44_1 rfl (n_putV (bi := 1) hS c_44_2 sc_25.n rfl rfl rfl rfl (w_25_1 (by omega)) ?_))
  intro M1 eM1 hS1
  have g1_0 : M1 25 1 = 1 := by rw [eM1]; exact nu_s _ _ _ _
  refine n_aload_n c_44_5 rfl (n_iload_n c_44_6 rfl (n_putV (bi := 2) hS1 c_44_7 sc_25.n rfl rfl rfl rfl (w_25_2 (by omega)) ?_))
  intro M2 eM2 hS2
  have g2_0 : M2 25 1 = M1 25 1 := by rw [eM2]; exact nu_i (by omega)
  have g2_1 : M2 25 2 = 3 := by rw [eM2]; exact nu_s _ _ _ _
  refine n_aload_n c_44_10 rfl (n_iload_n c_44_11 rfl (n_putV (bi := 3) hS2 c_44_12 sc_25.n rfl rfl rfl rfl (w_25_3 (by omega)) ?_))
  intro M3 eM3 hS3
  have g3_0 : M3 25 1 = M2 25 1 := by rw [eM3]; exact nu_i (by omega)
  have g3_1 : M3 25 2 = M2 25 2 := by rw [eM3]; exact nu_i (by omega)
  have g3_2 : M3 25 3 = 9 := by rw [eM3]; exact nu_s _ _ _ _
  refine n_aload_n c_44_15 rfl (n_getR c_44_16 sc_25.n rfl rfl rfl r_25_0 (n_iconst c_44_19 (n_s2V c_44_20 rfl rfl rfl rfl (fillR25_3 (Ms := M3) hS3 (by exact fun _ _ _ => rfl)) ?_)))
  intro  M4 hP5
  obtain ⟨hS4, f5p0, f5p1⟩ := hP5
  exact n_rV c_44_23 rfl ⟨hS4, by exact fun a i h1 h2 => by rw [f5p0 a i h2]; simp only [eM3, eM2, eM1]; rw [nu_a h1, nu_a h1, nu_a h1]; exact hf a i h1 h2, by exact ⟨(by rw [f5p0 25 1 (by omega)]; simp only [eM3, eM2, eM1]; rw [nu_i (by omega), nu_i (by omega), nu_s]), (by rw [f5p0 25 2 (by omega)]; simp only [eM3, eM2, eM1]; rw [nu_i (by omega), nu_s]), (by rw [f5p0 25 3 (by omega)]; simp only [eM3, eM2, eM1]; rw [nu_s]), f5p1⟩⟩

set_option maxHeartbeats 4000000 in
theorem weighFrom25_2_3 {xs : List Int32} {e : Nat} {ac : Int} {M0 M : nM} {Ms : nM} (hS : Sf 3 ac M0 M) (hB : M 15 0 = 4) : nW xs (e + 2) 51 0 [some (2, 15), some (2, 25), some (0, 0), some (0, 9)] [] M (nPV fun M1 => Sf 3 ac M0 M1 ∧ (∀ a i : Int, a ≠ 25 → a ≠ 26 → M1 a i = M a i) ∧ (LK 25 26 1 3 9 M1)) := by
  have hd : (3 : Int) = 2 ∨ (3 : Int) = 3 := by decide
  have hac := hS.2.2.2.2
  refine n_aload_n c_51_0 rfl (n_aload_n c_51_1 rfl (n_iload_n c_51_2 rfl (n_iload_n c_51_3 rfl (n_v2I c_51_4 rfl sc_15.n rfl rfl rfl rfl (weight0_2_3  hS (by exact hB)) ?_))))
  intro z1 M2 hP3
  obtain ⟨eM, f3⟩ := hP3
  subst eM
  obtain rfl : z1 = 1 := by omega
  refine n_aload_n c_51_7 rfl (n_iload_n c_51_8 rfl (n_iconst c_51_9 (n_iadd c_51_10 rfl (n_iload_n c_51_11 rfl ?_))))
  have hcst : ((0 + 1) : Int) = 1 := by omega
  rw [hcst]
  refine n_v2I c_51_12 rfl sc_15.n rfl rfl rfl rfl (weight1_2_3  hS (by exact hB)) ?_
  intro z4 M5 hP6
  obtain ⟨eM, f6⟩ := hP6
  subst eM
  obtain rfl : z4 = 3 := by omega
  refine n_aload_n c_51_15 rfl (n_iload_n c_51_16 rfl (n_iconst c_51_17 (n_iadd c_51_18 rfl (n_iload_n c_51_19 rfl ?_))))
  have hcst : ((0 + 2) : Int) = 2 := by omega
  rw [hcst]
  refine n_v2I c_51_20 rfl sc_15.n rfl rfl rfl rfl (weight2_2_3  hS (by exact hB)) ?_
  intro z7 M8 hP9
  obtain ⟨eM, f9⟩ := hP9
  subst eM
  obtain rfl : z7 = 9 := by omega
  refine n_v3V c_51_23 rfl sc_25.n rfl rfl rfl rfl (weigh25_1_3 (Ms := M) hS (by exact fun _ _ _ _ => rfl)) ?_
  intro  M10 hP11
  obtain ⟨hS10, f11p0, f11p1⟩ := hP11
  exact n_rV c_51_26 rfl ⟨hS10, by exact f11p0, by exact f11p1⟩

set_option maxHeartbeats 4000000 in
theorem weigh27_2_3 {xs : List Int32} {e : Nat} {ac : Int} {M0 M : nM} {Ms : nM} (hS : Sf 3 ac M0 M) (hf : ∀ a i : Int, a ≠ 27 → a ≠ 28 → M a i = Ms a i) : nW xs (e + 1) 44 0 [some (2, 27), some (0, 27), some (0, 81), some (0, 243)] [] M (nPV fun M1 => Sf 3 ac M0 M1 ∧ (∀ a i : Int, a ≠ 27 → a ≠ 28 → M1 a i = Ms a i) ∧ (LK 27 28 27 81 243 M1)) := by
  have hd : (3 : Int) = 2 ∨ (3 : Int) = 3 := by decide
  have hac := hS.2.2.2.2
  refine n_aload_n c_44_0 rfl (n_iload_n c_44_1 rfl (n_putV (bi := 1) hS c_44_2 sc_27.n rfl rfl rfl rfl (w_27_1 (by omega)) ?_))
  intro M1 eM1 hS1
  have g1_0 : M1 27 1 = 27 := by rw [eM1]; exact nu_s _ _ _ _
  refine n_aload_n c_44_5 rfl (n_iload_n c_44_6 rfl (n_putV (bi := 2) hS1 c_44_7 sc_27.n rfl rfl rfl rfl (w_27_2 (by omega)) ?_))
  intro M2 eM2 hS2
  have g2_0 : M2 27 1 = M1 27 1 := by rw [eM2]; exact nu_i (by omega)
  have g2_1 : M2 27 2 = 81 := by rw [eM2]; exact nu_s _ _ _ _
  refine n_aload_n c_44_10 rfl (n_iload_n c_44_11 rfl (n_putV (bi := 3) hS2 c_44_12 sc_27.n rfl rfl rfl rfl (w_27_3 (by omega)) ?_))
  intro M3 eM3 hS3
  have g3_0 : M3 27 1 = M2 27 1 := by rw [eM3]; exact nu_i (by omega)
  have g3_1 : M3 27 2 = M2 27 2 := by rw [eM3]; exact nu_i (by omega)
  have g3_2 : M3 27 3 = 243 := by rw [eM3]; exact nu_s _ _ _ _
  refine n_aload_n c_44_15 rfl (n_getR c_44_16 sc_27.n rfl rfl rfl r_27_0 (n_iconst c_44_19 (n_s2V c_44_20 rfl rfl rfl rfl (fillR27_3 (Ms := M3) hS3 (by exact fun _ _ _ => rfl)) ?_)))
  intro  M4 hP5
  obtain ⟨hS4, f5p0, f5p1⟩ := hP5
  exact n_rV c_44_23 rfl ⟨hS4, by exact fun a i h1 h2 => by rw [f5p0 a i h2]; simp only [eM3, eM2, eM1]; rw [nu_a h1, nu_a h1, nu_a h1]; exact hf a i h1 h2, by exact ⟨(by rw [f5p0 27 1 (by omega)]; simp only [eM3, eM2, eM1]; rw [nu_i (by omega), nu_i (by omega), nu_s]), (by rw [f5p0 27 2 (by omega)]; simp only [eM3, eM2, eM1]; rw [nu_i (by omega), nu_s]), (by rw [f5p0 27 3 (by omega)]; simp only [eM3, eM2, eM1]; rw [nu_s]), f5p1⟩⟩

set_option maxHeartbeats 4000000 in
theorem weighFrom27_2_3 {xs : List Int32} {e : Nat} {ac : Int} {M0 M : nM} {Ms : nM} (hS : Sf 3 ac M0 M) (hB : M 15 0 = 4) : nW xs (e + 2) 51 0 [some (2, 15), some (2, 27), some (0, 3), some (0, 9)] [] M (nPV fun M1 => Sf 3 ac M0 M1 ∧ (∀ a i : Int, a ≠ 27 → a ≠ 28 → M1 a i = M a i) ∧ (LK 27 28 27 81 243 M1)) := by
  have hd : (3 : Int) = 2 ∨ (3 : Int) = 3 := by decide
  have hac := hS.2.2.2.2
  refine n_aload_n c_51_0 rfl (n_aload_n c_51_1 rfl (n_iload_n c_51_2 rfl (n_iload_n c_51_3 rfl (n_v2I c_51_4 rfl sc_15.n rfl rfl rfl rfl (weight3_2_3  hS (by exact hB)) ?_))))
  intro z1 M2 hP3
  obtain ⟨eM, f3⟩ := hP3
  subst eM
  obtain rfl : z1 = 27 := by omega
  refine n_aload_n c_51_7 rfl (n_iload_n c_51_8 rfl (n_iconst c_51_9 (n_iadd c_51_10 rfl (n_iload_n c_51_11 rfl ?_))))
  have hcst : ((3 + 1) : Int) = 4 := by omega
  rw [hcst]
  refine n_v2I c_51_12 rfl sc_15.n rfl rfl rfl rfl (weight4_2_3  hS (by exact hB)) ?_
  intro z4 M5 hP6
  obtain ⟨eM, f6⟩ := hP6
  subst eM
  obtain rfl : z4 = 81 := by omega
  refine n_aload_n c_51_15 rfl (n_iload_n c_51_16 rfl (n_iconst c_51_17 (n_iadd c_51_18 rfl (n_iload_n c_51_19 rfl ?_))))
  have hcst : ((3 + 2) : Int) = 5 := by omega
  rw [hcst]
  refine n_v2I c_51_20 rfl sc_15.n rfl rfl rfl rfl (weight5_2_3  hS (by exact hB)) ?_
  intro z7 M8 hP9
  obtain ⟨eM, f9⟩ := hP9
  subst eM
  obtain rfl : z7 = 243 := by omega
  refine n_v3V c_51_23 rfl sc_27.n rfl rfl rfl rfl (weigh27_2_3 (Ms := M) hS (by exact fun _ _ _ _ => rfl)) ?_
  intro  M10 hP11
  obtain ⟨hS10, f11p0, f11p1⟩ := hP11
  exact n_rV c_51_26 rfl ⟨hS10, by exact f11p0, by exact f11p1⟩

set_option maxHeartbeats 4000000 in
theorem weigh29_2_3 {xs : List Int32} {e : Nat} {ac : Int} {M0 M : nM} {Ms : nM} (hS : Sf 3 ac M0 M) (hf : ∀ a i : Int, a ≠ 29 → a ≠ 30 → M a i = Ms a i) : nW xs (e + 1) 44 0 [some (2, 29), some (0, 729), some (0, 2187), some (0, 6561)] [] M (nPV fun M1 => Sf 3 ac M0 M1 ∧ (∀ a i : Int, a ≠ 29 → a ≠ 30 → M1 a i = Ms a i) ∧ (LK 29 30 729 2187 6561 M1)) := by
  have hd : (3 : Int) = 2 ∨ (3 : Int) = 3 := by decide
  have hac := hS.2.2.2.2
  refine n_aload_n c_44_0 rfl (n_iload_n c_44_1 rfl (n_putV (bi := 1) hS c_44_2 sc_29.n rfl rfl rfl rfl (w_29_1 (by omega)) ?_))
  intro M1 eM1 hS1
  have g1_0 : M1 29 1 = 729 := by rw [eM1]; exact nu_s _ _ _ _
  refine n_aload_n c_44_5 rfl (n_iload_n c_44_6 rfl (n_putV (bi := 2) hS1 c_44_7 sc_29.n rfl rfl rfl rfl (w_29_2 (by omega)) ?_))
  intro M2 eM2 hS2
  have g2_0 : M2 29 1 = M1 29 1 := by rw [eM2]; exact nu_i (by omega)
  have g2_1 : M2 29 2 = 2187 := by rw [eM2]; exact nu_s _ _ _ _
  refine n_aload_n c_44_10 rfl (n_iload_n c_44_11 rfl (n_putV (bi := 3) hS2 c_44_12 sc_29.n rfl rfl rfl rfl (w_29_3 (by omega)) ?_))
  intro M3 eM3 hS3
  have g3_0 : M3 29 1 = M2 29 1 := by rw [eM3]; exact nu_i (by omega)
  have g3_1 : M3 29 2 = M2 29 2 := by rw [eM3]; exact nu_i (by omega)
  have g3_2 : M3 29 3 = 6561 := by rw [eM3]; exact nu_s _ _ _ _
  refine n_aload_n c_44_15 rfl (n_getR c_44_16 sc_29.n rfl rfl rfl r_29_0 (n_iconst c_44_19 (n_s2V c_44_20 rfl rfl rfl rfl (fillR29_3 (Ms := M3) hS3 (by exact fun _ _ _ => rfl)) ?_)))
  intro  M4 hP5
  obtain ⟨hS4, f5p0, f5p1⟩ := hP5
  exact n_rV c_44_23 rfl ⟨hS4, by exact fun a i h1 h2 => by rw [f5p0 a i h2]; simp only [eM3, eM2, eM1]; rw [nu_a h1, nu_a h1, nu_a h1]; exact hf a i h1 h2, by exact ⟨(by rw [f5p0 29 1 (by omega)]; simp only [eM3, eM2, eM1]; rw [nu_i (by omega), nu_i (by omega), nu_s]), (by rw [f5p0 29 2 (by omega)]; simp only [eM3, eM2, eM1]; rw [nu_i (by omega), nu_s]), (by rw [f5p0 29 3 (by omega)]; simp only [eM3, eM2, eM1]; rw [nu_s]), f5p1⟩⟩

set_option maxHeartbeats 4000000 in
theorem weighFrom29_2_3 {xs : List Int32} {e : Nat} {ac : Int} {M0 M : nM} {Ms : nM} (hS : Sf 3 ac M0 M) (hB : M 15 0 = 4) : nW xs (e + 2) 51 0 [some (2, 15), some (2, 29), some (0, 6), some (0, 9)] [] M (nPV fun M1 => Sf 3 ac M0 M1 ∧ (∀ a i : Int, a ≠ 29 → a ≠ 30 → M1 a i = M a i) ∧ (LK 29 30 729 2187 6561 M1)) := by
  have hd : (3 : Int) = 2 ∨ (3 : Int) = 3 := by decide
  have hac := hS.2.2.2.2
  refine n_aload_n c_51_0 rfl (n_aload_n c_51_1 rfl (n_iload_n c_51_2 rfl (n_iload_n c_51_3 rfl (n_v2I c_51_4 rfl sc_15.n rfl rfl rfl rfl (weight6_2_3  hS (by exact hB)) ?_))))
  intro z1 M2 hP3
  obtain ⟨eM, f3⟩ := hP3
  subst eM
  obtain rfl : z1 = 729 := by omega
  refine n_aload_n c_51_7 rfl (n_iload_n c_51_8 rfl (n_iconst c_51_9 (n_iadd c_51_10 rfl (n_iload_n c_51_11 rfl ?_))))
  have hcst : ((6 + 1) : Int) = 7 := by omega
  rw [hcst]
  refine n_v2I c_51_12 rfl sc_15.n rfl rfl rfl rfl (weight7_2_3  hS (by exact hB)) ?_
  intro z4 M5 hP6
  obtain ⟨eM, f6⟩ := hP6
  subst eM
  obtain rfl : z4 = 2187 := by omega
  refine n_aload_n c_51_15 rfl (n_iload_n c_51_16 rfl (n_iconst c_51_17 (n_iadd c_51_18 rfl (n_iload_n c_51_19 rfl ?_))))
  have hcst : ((6 + 2) : Int) = 8 := by omega
  rw [hcst]
  refine n_v2I c_51_20 rfl sc_15.n rfl rfl rfl rfl (weight8_2_3  hS (by exact hB)) ?_
  intro z7 M8 hP9
  obtain ⟨eM, f9⟩ := hP9
  subst eM
  obtain rfl : z7 = 6561 := by omega
  refine n_v3V c_51_23 rfl sc_29.n rfl rfl rfl rfl (weigh29_2_3 (Ms := M) hS (by exact fun _ _ _ _ => rfl)) ?_
  intro  M10 hP11
  obtain ⟨hS10, f11p0, f11p1⟩ := hP11
  exact n_rV c_51_26 rfl ⟨hS10, by exact f11p0, by exact f11p1⟩

set_option maxHeartbeats 4000000 in
theorem codeOf5_2_3 {xs : List Int32} {e : Nat} {ac : Int} {M0 M : nM} (hS : Sf 3 ac M0 M) (hB : M 15 0 = 4) : nW xs e 53 0 [some (2, 15), some (2, 5), some (0, 9), none, none] [] M (nPI fun z M1 => M = M1 ∧ (0 ≤ z ∧ z ≤ 19682)) := by
  have hd : (3 : Int) = 2 ∨ (3 : Int) = 3 := by decide
  have hac := hS.2.2.2.2
  refine n_iconst c_53_0 (n_istore_n (L2 := [some (2, 15), some (2, 5), some (0, 9), some (0, 0), none]) c_53_1 rfl rfl (n_iload_n c_53_2 rfl (n_iconst c_53_3 (n_isub c_53_4 rfl (n_istore (L2 := [some (2, 15), some (2, 5), some (0, 9), some (0, 0), some (0, (9 - 1))]) c_53_5 rfl rfl (n_iload c_53_7 rfl ?_))))))
  refine n_if0_lt c_53_9 (by omega) ?_ ?_
  · intro h1
    exfalso; omega
  · intro h2
    refine n_iload_n c_53_12 rfl (n_aload_n c_53_13 rfl (n_getB c_53_14 hB (n_getV (bi := 0) c_53_17 sc_4.n rfl rfl rfl (t_4_0 hS) ?_)))
    intro z3 ez3 f4
    obtain rfl : z3 = 3 := by omega
    refine n_imul c_53_20 rfl (n_aload_n c_53_21 rfl (n_iload c_53_22 rfl (n_ialoadV c_53_24 sc_5.n rfl rfl rfl (by omega) (t_5k (z := 0) hS (by omega) (by omega) (by omega)) ?_)))
    intro z5 ez5 f6
    refine n_iadd c_53_25 rfl (n_istore_n (L2 := [some (2, 15), some (2, 5), some (0, 9), some (0, ((0 * 3) + z5)), some (0, (9 - 1))]) c_53_26 rfl rfl (n_iinc (L2 := [some (2, 15), some (2, 5), some (0, 9), some (0, ((0 * 3) + z5)), some (0, ((9 - 1) + (-1)))]) c_53_27 rfl rfl rfl (n_goto c_53_30 (n_iload c_53_7 rfl ?_))))
    refine n_if0_lt c_53_9 (by omega) ?_ ?_
    · intro h7
      exfalso; omega
    · intro h8
      refine n_iload_n c_53_12 rfl (n_aload_n c_53_13 rfl (n_getB c_53_14 hB (n_getV (bi := 0) c_53_17 sc_4.n rfl rfl rfl (t_4_0 hS) ?_)))
      intro z9 ez9 f10
      obtain rfl : z9 = 3 := by omega
      refine n_imul c_53_20 rfl (n_aload_n c_53_21 rfl (n_iload c_53_22 rfl (n_ialoadV c_53_24 sc_5.n rfl rfl rfl (by omega) (t_5k (z := 0) hS (by omega) (by omega) (by omega)) ?_)))
      intro z11 ez11 f12
      refine n_iadd c_53_25 rfl (n_istore_n (L2 := [some (2, 15), some (2, 5), some (0, 9), some (0, ((((0 * 3) + z5) * 3) + z11)), some (0, ((9 - 1) + (-1)))]) c_53_26 rfl rfl (n_iinc (L2 := [some (2, 15), some (2, 5), some (0, 9), some (0, ((((0 * 3) + z5) * 3) + z11)), some (0, (((9 - 1) + (-1)) + (-1)))]) c_53_27 rfl rfl rfl (n_goto c_53_30 (n_iload c_53_7 rfl ?_))))
      refine n_if0_lt c_53_9 (by omega) ?_ ?_
      · intro h13
        exfalso; omega
      · intro h14
        refine n_iload_n c_53_12 rfl (n_aload_n c_53_13 rfl (n_getB c_53_14 hB (n_getV (bi := 0) c_53_17 sc_4.n rfl rfl rfl (t_4_0 hS) ?_)))
        intro z15 ez15 f16
        obtain rfl : z15 = 3 := by omega
        refine n_imul c_53_20 rfl (n_aload_n c_53_21 rfl (n_iload c_53_22 rfl (n_ialoadV c_53_24 sc_5.n rfl rfl rfl (by omega) (t_5k (z := 0) hS (by omega) (by omega) (by omega)) ?_)))
        intro z17 ez17 f18
        refine n_iadd c_53_25 rfl (n_istore_n (L2 := [some (2, 15), some (2, 5), some (0, 9), some (0, ((((((0 * 3) + z5) * 3) + z11) * 3) + z17)), some (0, (((9 - 1) + (-1)) + (-1)))]) c_53_26 rfl rfl (n_iinc (L2 := [some (2, 15), some (2, 5), some (0, 9), some (0, ((((((0 * 3) + z5) * 3) + z11) * 3) + z17)), some (0, ((((9 - 1) + (-1)) + (-1)) + (-1)))]) c_53_27 rfl rfl rfl (n_goto c_53_30 (n_iload c_53_7 rfl ?_))))
        refine n_if0_lt c_53_9 (by omega) ?_ ?_
        · intro h19
          exfalso; omega
        · intro h20
          refine n_iload_n c_53_12 rfl (n_aload_n c_53_13 rfl (n_getB c_53_14 hB (n_getV (bi := 0) c_53_17 sc_4.n rfl rfl rfl (t_4_0 hS) ?_)))
          intro z21 ez21 f22
          obtain rfl : z21 = 3 := by omega
          refine n_imul c_53_20 rfl (n_aload_n c_53_21 rfl (n_iload c_53_22 rfl (n_ialoadV c_53_24 sc_5.n rfl rfl rfl (by omega) (t_5k (z := 0) hS (by omega) (by omega) (by omega)) ?_)))
          intro z23 ez23 f24
          refine n_iadd c_53_25 rfl (n_istore_n (L2 := [some (2, 15), some (2, 5), some (0, 9), some (0, ((((((((0 * 3) + z5) * 3) + z11) * 3) + z17) * 3) + z23)), some (0, ((((9 - 1) + (-1)) + (-1)) + (-1)))]) c_53_26 rfl rfl (n_iinc (L2 := [some (2, 15), some (2, 5), some (0, 9), some (0, ((((((((0 * 3) + z5) * 3) + z11) * 3) + z17) * 3) + z23)), some (0, (((((9 - 1) + (-1)) + (-1)) + (-1)) + (-1)))]) c_53_27 rfl rfl rfl (n_goto c_53_30 (n_iload c_53_7 rfl ?_))))
          refine n_if0_lt c_53_9 (by omega) ?_ ?_
          · intro h25
            exfalso; omega
          · intro h26
            refine n_iload_n c_53_12 rfl (n_aload_n c_53_13 rfl (n_getB c_53_14 hB (n_getV (bi := 0) c_53_17 sc_4.n rfl rfl rfl (t_4_0 hS) ?_)))
            intro z27 ez27 f28
            obtain rfl : z27 = 3 := by omega
            refine n_imul c_53_20 rfl (n_aload_n c_53_21 rfl (n_iload c_53_22 rfl (n_ialoadV c_53_24 sc_5.n rfl rfl rfl (by omega) (t_5k (z := 0) hS (by omega) (by omega) (by omega)) ?_)))
            intro z29 ez29 f30
            refine n_iadd c_53_25 rfl (n_istore_n (L2 := [some (2, 15), some (2, 5), some (0, 9), some (0, ((((((((((0 * 3) + z5) * 3) + z11) * 3) + z17) * 3) + z23) * 3) + z29)), some (0, (((((9 - 1) + (-1)) + (-1)) + (-1)) + (-1)))]) c_53_26 rfl rfl (n_iinc (L2 := [some (2, 15), some (2, 5), some (0, 9), some (0, ((((((((((0 * 3) + z5) * 3) + z11) * 3) + z17) * 3) + z23) * 3) + z29)), some (0, ((((((9 - 1) + (-1)) + (-1)) + (-1)) + (-1)) + (-1)))]) c_53_27 rfl rfl rfl (n_goto c_53_30 (n_iload c_53_7 rfl ?_))))
            refine n_if0_lt c_53_9 (by omega) ?_ ?_
            · intro h31
              exfalso; omega
            · intro h32
              refine n_iload_n c_53_12 rfl (n_aload_n c_53_13 rfl (n_getB c_53_14 hB (n_getV (bi := 0) c_53_17 sc_4.n rfl rfl rfl (t_4_0 hS) ?_)))
              intro z33 ez33 f34
              obtain rfl : z33 = 3 := by omega
              refine n_imul c_53_20 rfl (n_aload_n c_53_21 rfl (n_iload c_53_22 rfl (n_ialoadV c_53_24 sc_5.n rfl rfl rfl (by omega) (t_5k (z := 0) hS (by omega) (by omega) (by omega)) ?_)))
              intro z35 ez35 f36
              refine n_iadd c_53_25 rfl (n_istore_n (L2 := [some (2, 15), some (2, 5), some (0, 9), some (0, ((((((((((((0 * 3) + z5) * 3) + z11) * 3) + z17) * 3) + z23) * 3) + z29) * 3) + z35)), some (0, ((((((9 - 1) + (-1)) + (-1)) + (-1)) + (-1)) + (-1)))]) c_53_26 rfl rfl (n_iinc (L2 := [some (2, 15), some (2, 5), some (0, 9), some (0, ((((((((((((0 * 3) + z5) * 3) + z11) * 3) + z17) * 3) + z23) * 3) + z29) * 3) + z35)), some (0, (((((((9 - 1) + (-1)) + (-1)) + (-1)) + (-1)) + (-1)) + (-1)))]) c_53_27 rfl rfl rfl (n_goto c_53_30 (n_iload c_53_7 rfl ?_))))
              refine n_if0_lt c_53_9 (by omega) ?_ ?_
              · intro h37
                exfalso; omega
              · intro h38
                refine n_iload_n c_53_12 rfl (n_aload_n c_53_13 rfl (n_getB c_53_14 hB (n_getV (bi := 0) c_53_17 sc_4.n rfl rfl rfl (t_4_0 hS) ?_)))
                intro z39 ez39 f40
                obtain rfl : z39 = 3 := by omega
                refine n_imul c_53_20 rfl (n_aload_n c_53_21 rfl (n_iload c_53_22 rfl (n_ialoadV c_53_24 sc_5.n rfl rfl rfl (by omega) (t_5k (z := 0) hS (by omega) (by omega) (by omega)) ?_)))
                intro z41 ez41 f42
                refine n_iadd c_53_25 rfl (n_istore_n (L2 := [some (2, 15), some (2, 5), some (0, 9), some (0, ((((((((((((((0 * 3) + z5) * 3) + z11) * 3) + z17) * 3) + z23) * 3) + z29) * 3) + z35) * 3) + z41)), some (0, (((((((9 - 1) + (-1)) + (-1)) + (-1)) + (-1)) + (-1)) + (-1)))]) c_53_26 rfl rfl (n_iinc (L2 := [some (2, 15), some (2, 5), some (0, 9), some (0, ((((((((((((((0 * 3) + z5) * 3) + z11) * 3) + z17) * 3) + z23) * 3) + z29) * 3) + z35) * 3) + z41)), some (0, ((((((((9 - 1) + (-1)) + (-1)) + (-1)) + (-1)) + (-1)) + (-1)) + (-1)))]) c_53_27 rfl rfl rfl (n_goto c_53_30 (n_iload c_53_7 rfl ?_))))
                refine n_if0_lt c_53_9 (by omega) ?_ ?_
                · intro h43
                  exfalso; omega
                · intro h44
                  refine n_iload_n c_53_12 rfl (n_aload_n c_53_13 rfl (n_getB c_53_14 hB (n_getV (bi := 0) c_53_17 sc_4.n rfl rfl rfl (t_4_0 hS) ?_)))
                  intro z45 ez45 f46
                  obtain rfl : z45 = 3 := by omega
                  refine n_imul c_53_20 rfl (n_aload_n c_53_21 rfl (n_iload c_53_22 rfl (n_ialoadV c_53_24 sc_5.n rfl rfl rfl (by omega) (t_5k (z := 0) hS (by omega) (by omega) (by omega)) ?_)))
                  intro z47 ez47 f48
                  refine n_iadd c_53_25 rfl (n_istore_n (L2 := [some (2, 15), some (2, 5), some (0, 9), some (0, ((((((((((((((((0 * 3) + z5) * 3) + z11) * 3) + z17) * 3) + z23) * 3) + z29) * 3) + z35) * 3) + z41) * 3) + z47)), some (0, ((((((((9 - 1) + (-1)) + (-1)) + (-1)) + (-1)) + (-1)) + (-1)) + (-1)))]) c_53_26 rfl rfl (n_iinc (L2 := [some (2, 15), some (2, 5), some (0, 9), some (0, ((((((((((((((((0 * 3) + z5) * 3) + z11) * 3) + z17) * 3) + z23) * 3) + z29) * 3) + z35) * 3) + z41) * 3) + z47)), some (0, (((((((((9 - 1) + (-1)) + (-1)) + (-1)) + (-1)) + (-1)) + (-1)) + (-1)) + (-1)))]) c_53_27 rfl rfl rfl (n_goto c_53_30 (n_iload c_53_7 rfl ?_))))
                  refine n_if0_lt c_53_9 (by omega) ?_ ?_
                  · intro h49
                    exfalso; omega
                  · intro h50
                    refine n_iload_n c_53_12 rfl (n_aload_n c_53_13 rfl (n_getB c_53_14 hB (n_getV (bi := 0) c_53_17 sc_4.n rfl rfl rfl (t_4_0 hS) ?_)))
                    intro z51 ez51 f52
                    obtain rfl : z51 = 3 := by omega
                    refine n_imul c_53_20 rfl (n_aload_n c_53_21 rfl (n_iload c_53_22 rfl (n_ialoadV c_53_24 sc_5.n rfl rfl rfl (by omega) (t_5k (z := 0) hS (by omega) (by omega) (by omega)) ?_)))
                    intro z53 ez53 f54
                    refine n_iadd c_53_25 rfl (n_istore_n (L2 := [some (2, 15), some (2, 5), some (0, 9), some (0, ((((((((((((((((((0 * 3) + z5) * 3) + z11) * 3) + z17) * 3) + z23) * 3) + z29) * 3) + z35) * 3) + z41) * 3) + z47) * 3) + z53)), some (0, (((((((((9 - 1) + (-1)) + (-1)) + (-1)) + (-1)) + (-1)) + (-1)) + (-1)) + (-1)))]) c_53_26 rfl rfl (n_iinc (L2 := [some (2, 15), some (2, 5), some (0, 9), some (0, ((((((((((((((((((0 * 3) + z5) * 3) + z11) * 3) + z17) * 3) + z23) * 3) + z29) * 3) + z35) * 3) + z41) * 3) + z47) * 3) + z53)), some (0, ((((((((((9 - 1) + (-1)) + (-1)) + (-1)) + (-1)) + (-1)) + (-1)) + (-1)) + (-1)) + (-1)))]) c_53_27 rfl rfl rfl (n_goto c_53_30 (n_iload c_53_7 rfl ?_))))
                    refine n_if0_lt c_53_9 (by omega) ?_ ?_
                    · intro h55
                      refine n_iload_n c_53_33 rfl ?_
                      exact n_rI c_53_34 rfl ⟨rfl, by omega⟩
                    · intro h56
                      exfalso; omega

set_option maxHeartbeats 4000000 in
theorem codeOf6_2_3 {xs : List Int32} {e : Nat} {ac : Int} {M0 M : nM} (hS : Sf 3 ac M0 M) (hB : M 15 0 = 4) : nW xs e 53 0 [some (2, 15), some (2, 6), some (0, 9), none, none] [] M (nPI fun z M1 => M = M1 ∧ (0 ≤ z ∧ z ≤ 19682)) := by
  have hd : (3 : Int) = 2 ∨ (3 : Int) = 3 := by decide
  have hac := hS.2.2.2.2
  refine n_iconst c_53_0 (n_istore_n (L2 := [some (2, 15), some (2, 6), some (0, 9), some (0, 0), none]) c_53_1 rfl rfl (n_iload_n c_53_2 rfl (n_iconst c_53_3 (n_isub c_53_4 rfl (n_istore (L2 := [some (2, 15), some (2, 6), some (0, 9), some (0, 0), some (0, (9 - 1))]) c_53_5 rfl rfl (n_iload c_53_7 rfl ?_))))))
  refine n_if0_lt c_53_9 (by omega) ?_ ?_
  · intro h1
    exfalso; omega
  · intro h2
    refine n_iload_n c_53_12 rfl (n_aload_n c_53_13 rfl (n_getB c_53_14 hB (n_getV (bi := 0) c_53_17 sc_4.n rfl rfl rfl (t_4_0 hS) ?_)))
    intro z3 ez3 f4
    obtain rfl : z3 = 3 := by omega
    refine n_imul c_53_20 rfl (n_aload_n c_53_21 rfl (n_iload c_53_22 rfl (n_ialoadV c_53_24 sc_6.n rfl rfl rfl (by omega) (t_6k (z := 2) hS (by omega) (by omega) (by omega)) ?_)))
    intro z5 ez5 f6
    refine n_iadd c_53_25 rfl (n_istore_n (L2 := [some (2, 15), some (2, 6), some (0, 9), some (0, ((0 * 3) + z5)), some (0, (9 - 1))]) c_53_26 rfl rfl (n_iinc (L2 := [some (2, 15), some (2, 6), some (0, 9), some (0, ((0 * 3) + z5)), some (0, ((9 - 1) + (-1)))]) c_53_27 rfl rfl rfl (n_goto c_53_30 (n_iload c_53_7 rfl ?_))))
    refine n_if0_lt c_53_9 (by omega) ?_ ?_
    · intro h7
      exfalso; omega
    · intro h8
      refine n_iload_n c_53_12 rfl (n_aload_n c_53_13 rfl (n_getB c_53_14 hB (n_getV (bi := 0) c_53_17 sc_4.n rfl rfl rfl (t_4_0 hS) ?_)))
      intro z9 ez9 f10
      obtain rfl : z9 = 3 := by omega
      refine n_imul c_53_20 rfl (n_aload_n c_53_21 rfl (n_iload c_53_22 rfl (n_ialoadV c_53_24 sc_6.n rfl rfl rfl (by omega) (t_6k (z := 2) hS (by omega) (by omega) (by omega)) ?_)))
      intro z11 ez11 f12
      refine n_iadd c_53_25 rfl (n_istore_n (L2 := [some (2, 15), some (2, 6), some (0, 9), some (0, ((((0 * 3) + z5) * 3) + z11)), some (0, ((9 - 1) + (-1)))]) c_53_26 rfl rfl (n_iinc (L2 := [some (2, 15), some (2, 6), some (0, 9), some (0, ((((0 * 3) + z5) * 3) + z11)), some (0, (((9 - 1) + (-1)) + (-1)))]) c_53_27 rfl rfl rfl (n_goto c_53_30 (n_iload c_53_7 rfl ?_))))
      refine n_if0_lt c_53_9 (by omega) ?_ ?_
      · intro h13
        exfalso; omega
      · intro h14
        refine n_iload_n c_53_12 rfl (n_aload_n c_53_13 rfl (n_getB c_53_14 hB (n_getV (bi := 0) c_53_17 sc_4.n rfl rfl rfl (t_4_0 hS) ?_)))
        intro z15 ez15 f16
        obtain rfl : z15 = 3 := by omega
        refine n_imul c_53_20 rfl (n_aload_n c_53_21 rfl (n_iload c_53_22 rfl (n_ialoadV c_53_24 sc_6.n rfl rfl rfl (by omega) (t_6k (z := 2) hS (by omega) (by omega) (by omega)) ?_)))
        intro z17 ez17 f18
        refine n_iadd c_53_25 rfl (n_istore_n (L2 := [some (2, 15), some (2, 6), some (0, 9), some (0, ((((((0 * 3) + z5) * 3) + z11) * 3) + z17)), some (0, (((9 - 1) + (-1)) + (-1)))]) c_53_26 rfl rfl (n_iinc (L2 := [some (2, 15), some (2, 6), some (0, 9), some (0, ((((((0 * 3) + z5) * 3) + z11) * 3) + z17)), some (0, ((((9 - 1) + (-1)) + (-1)) + (-1)))]) c_53_27 rfl rfl rfl (n_goto c_53_30 (n_iload c_53_7 rfl ?_))))
        refine n_if0_lt c_53_9 (by omega) ?_ ?_
        · intro h19
          exfalso; omega
        · intro h20
          refine n_iload_n c_53_12 rfl (n_aload_n c_53_13 rfl (n_getB c_53_14 hB (n_getV (bi := 0) c_53_17 sc_4.n rfl rfl rfl (t_4_0 hS) ?_)))
          intro z21 ez21 f22
          obtain rfl : z21 = 3 := by omega
          refine n_imul c_53_20 rfl (n_aload_n c_53_21 rfl (n_iload c_53_22 rfl (n_ialoadV c_53_24 sc_6.n rfl rfl rfl (by omega) (t_6k (z := 1) hS (by omega) (by omega) (by omega)) ?_)))
          intro z23 ez23 f24
          refine n_iadd c_53_25 rfl (n_istore_n (L2 := [some (2, 15), some (2, 6), some (0, 9), some (0, ((((((((0 * 3) + z5) * 3) + z11) * 3) + z17) * 3) + z23)), some (0, ((((9 - 1) + (-1)) + (-1)) + (-1)))]) c_53_26 rfl rfl (n_iinc (L2 := [some (2, 15), some (2, 6), some (0, 9), some (0, ((((((((0 * 3) + z5) * 3) + z11) * 3) + z17) * 3) + z23)), some (0, (((((9 - 1) + (-1)) + (-1)) + (-1)) + (-1)))]) c_53_27 rfl rfl rfl (n_goto c_53_30 (n_iload c_53_7 rfl ?_))))
          refine n_if0_lt c_53_9 (by omega) ?_ ?_
          · intro h25
            exfalso; omega
          · intro h26
            refine n_iload_n c_53_12 rfl (n_aload_n c_53_13 rfl (n_getB c_53_14 hB (n_getV (bi := 0) c_53_17 sc_4.n rfl rfl rfl (t_4_0 hS) ?_)))
            intro z27 ez27 f28
            obtain rfl : z27 = 3 := by omega
            refine n_imul c_53_20 rfl (n_aload_n c_53_21 rfl (n_iload c_53_22 rfl (n_ialoadV c_53_24 sc_6.n rfl rfl rfl (by omega) (t_6k (z := 1) hS (by omega) (by omega) (by omega)) ?_)))
            intro z29 ez29 f30
            refine n_iadd c_53_25 rfl (n_istore_n (L2 := [some (2, 15), some (2, 6), some (0, 9), some (0, ((((((((((0 * 3) + z5) * 3) + z11) * 3) + z17) * 3) + z23) * 3) + z29)), some (0, (((((9 - 1) + (-1)) + (-1)) + (-1)) + (-1)))]) c_53_26 rfl rfl (n_iinc (L2 := [some (2, 15), some (2, 6), some (0, 9), some (0, ((((((((((0 * 3) + z5) * 3) + z11) * 3) + z17) * 3) + z23) * 3) + z29)), some (0, ((((((9 - 1) + (-1)) + (-1)) + (-1)) + (-1)) + (-1)))]) c_53_27 rfl rfl rfl (n_goto c_53_30 (n_iload c_53_7 rfl ?_))))
            refine n_if0_lt c_53_9 (by omega) ?_ ?_
            · intro h31
              exfalso; omega
            · intro h32
              refine n_iload_n c_53_12 rfl (n_aload_n c_53_13 rfl (n_getB c_53_14 hB (n_getV (bi := 0) c_53_17 sc_4.n rfl rfl rfl (t_4_0 hS) ?_)))
              intro z33 ez33 f34
              obtain rfl : z33 = 3 := by omega
              refine n_imul c_53_20 rfl (n_aload_n c_53_21 rfl (n_iload c_53_22 rfl (n_ialoadV c_53_24 sc_6.n rfl rfl rfl (by omega) (t_6k (z := 1) hS (by omega) (by omega) (by omega)) ?_)))
              intro z35 ez35 f36
              refine n_iadd c_53_25 rfl (n_istore_n (L2 := [some (2, 15), some (2, 6), some (0, 9), some (0, ((((((((((((0 * 3) + z5) * 3) + z11) * 3) + z17) * 3) + z23) * 3) + z29) * 3) + z35)), some (0, ((((((9 - 1) + (-1)) + (-1)) + (-1)) + (-1)) + (-1)))]) c_53_26 rfl rfl (n_iinc (L2 := [some (2, 15), some (2, 6), some (0, 9), some (0, ((((((((((((0 * 3) + z5) * 3) + z11) * 3) + z17) * 3) + z23) * 3) + z29) * 3) + z35)), some (0, (((((((9 - 1) + (-1)) + (-1)) + (-1)) + (-1)) + (-1)) + (-1)))]) c_53_27 rfl rfl rfl (n_goto c_53_30 (n_iload c_53_7 rfl ?_))))
              refine n_if0_lt c_53_9 (by omega) ?_ ?_
              · intro h37
                exfalso; omega
              · intro h38
                refine n_iload_n c_53_12 rfl (n_aload_n c_53_13 rfl (n_getB c_53_14 hB (n_getV (bi := 0) c_53_17 sc_4.n rfl rfl rfl (t_4_0 hS) ?_)))
                intro z39 ez39 f40
                obtain rfl : z39 = 3 := by omega
                refine n_imul c_53_20 rfl (n_aload_n c_53_21 rfl (n_iload c_53_22 rfl (n_ialoadV c_53_24 sc_6.n rfl rfl rfl (by omega) (t_6k (z := 0) hS (by omega) (by omega) (by omega)) ?_)))
                intro z41 ez41 f42
                refine n_iadd c_53_25 rfl (n_istore_n (L2 := [some (2, 15), some (2, 6), some (0, 9), some (0, ((((((((((((((0 * 3) + z5) * 3) + z11) * 3) + z17) * 3) + z23) * 3) + z29) * 3) + z35) * 3) + z41)), some (0, (((((((9 - 1) + (-1)) + (-1)) + (-1)) + (-1)) + (-1)) + (-1)))]) c_53_26 rfl rfl (n_iinc (L2 := [some (2, 15), some (2, 6), some (0, 9), some (0, ((((((((((((((0 * 3) + z5) * 3) + z11) * 3) + z17) * 3) + z23) * 3) + z29) * 3) + z35) * 3) + z41)), some (0, ((((((((9 - 1) + (-1)) + (-1)) + (-1)) + (-1)) + (-1)) + (-1)) + (-1)))]) c_53_27 rfl rfl rfl (n_goto c_53_30 (n_iload c_53_7 rfl ?_))))
                refine n_if0_lt c_53_9 (by omega) ?_ ?_
                · intro h43
                  exfalso; omega
                · intro h44
                  refine n_iload_n c_53_12 rfl (n_aload_n c_53_13 rfl (n_getB c_53_14 hB (n_getV (bi := 0) c_53_17 sc_4.n rfl rfl rfl (t_4_0 hS) ?_)))
                  intro z45 ez45 f46
                  obtain rfl : z45 = 3 := by omega
                  refine n_imul c_53_20 rfl (n_aload_n c_53_21 rfl (n_iload c_53_22 rfl (n_ialoadV c_53_24 sc_6.n rfl rfl rfl (by omega) (t_6k (z := 0) hS (by omega) (by omega) (by omega)) ?_)))
                  intro z47 ez47 f48
                  refine n_iadd c_53_25 rfl (n_istore_n (L2 := [some (2, 15), some (2, 6), some (0, 9), some (0, ((((((((((((((((0 * 3) + z5) * 3) + z11) * 3) + z17) * 3) + z23) * 3) + z29) * 3) + z35) * 3) + z41) * 3) + z47)), some (0, ((((((((9 - 1) + (-1)) + (-1)) + (-1)) + (-1)) + (-1)) + (-1)) + (-1)))]) c_53_26 rfl rfl (n_iinc (L2 := [some (2, 15), some (2, 6), some (0, 9), some (0, ((((((((((((((((0 * 3) + z5) * 3) + z11) * 3) + z17) * 3) + z23) * 3) + z29) * 3) + z35) * 3) + z41) * 3) + z47)), some (0, (((((((((9 - 1) + (-1)) + (-1)) + (-1)) + (-1)) + (-1)) + (-1)) + (-1)) + (-1)))]) c_53_27 rfl rfl rfl (n_goto c_53_30 (n_iload c_53_7 rfl ?_))))
                  refine n_if0_lt c_53_9 (by omega) ?_ ?_
                  · intro h49
                    exfalso; omega
                  · intro h50
                    refine n_iload_n c_53_12 rfl (n_aload_n c_53_13 rfl (n_getB c_53_14 hB (n_getV (bi := 0) c_53_17 sc_4.n rfl rfl rfl (t_4_0 hS) ?_)))
                    intro z51 ez51 f52
                    obtain rfl : z51 = 3 := by omega
                    refine n_imul c_53_20 rfl (n_aload_n c_53_21 rfl (n_iload c_53_22 rfl (n_ialoadV c_53_24 sc_6.n rfl rfl rfl (by omega) (t_6k (z := 0) hS (by omega) (by omega) (by omega)) ?_)))
                    intro z53 ez53 f54
                    refine n_iadd c_53_25 rfl (n_istore_n (L2 := [some (2, 15), some (2, 6), some (0, 9), some (0, ((((((((((((((((((0 * 3) + z5) * 3) + z11) * 3) + z17) * 3) + z23) * 3) + z29) * 3) + z35) * 3) + z41) * 3) + z47) * 3) + z53)), some (0, (((((((((9 - 1) + (-1)) + (-1)) + (-1)) + (-1)) + (-1)) + (-1)) + (-1)) + (-1)))]) c_53_26 rfl rfl (n_iinc (L2 := [some (2, 15), some (2, 6), some (0, 9), some (0, ((((((((((((((((((0 * 3) + z5) * 3) + z11) * 3) + z17) * 3) + z23) * 3) + z29) * 3) + z35) * 3) + z41) * 3) + z47) * 3) + z53)), some (0, ((((((((((9 - 1) + (-1)) + (-1)) + (-1)) + (-1)) + (-1)) + (-1)) + (-1)) + (-1)) + (-1)))]) c_53_27 rfl rfl rfl (n_goto c_53_30 (n_iload c_53_7 rfl ?_))))
                    refine n_if0_lt c_53_9 (by omega) ?_ ?_
                    · intro h55
                      refine n_iload_n c_53_33 rfl ?_
                      exact n_rI c_53_34 rfl ⟨rfl, by omega⟩
                    · intro h56
                      exfalso; omega

set_option maxHeartbeats 4000000 in
theorem codeOf7_2_3 {xs : List Int32} {e : Nat} {ac : Int} {M0 M : nM} (hS : Sf 3 ac M0 M) (hB : M 15 0 = 4) : nW xs e 53 0 [some (2, 15), some (2, 7), some (0, 9), none, none] [] M (nPI fun z M1 => M = M1 ∧ (0 ≤ z ∧ z ≤ 19682)) := by
  have hd : (3 : Int) = 2 ∨ (3 : Int) = 3 := by decide
  have hac := hS.2.2.2.2
  refine n_iconst c_53_0 (n_istore_n (L2 := [some (2, 15), some (2, 7), some (0, 9), some (0, 0), none]) c_53_1 rfl rfl (n_iload_n c_53_2 rfl (n_iconst c_53_3 (n_isub c_53_4 rfl (n_istore (L2 := [some (2, 15), some (2, 7), some (0, 9), some (0, 0), some (0, (9 - 1))]) c_53_5 rfl rfl (n_iload c_53_7 rfl ?_))))))
  refine n_if0_lt c_53_9 (by omega) ?_ ?_
  · intro h1
    exfalso; omega
  · intro h2
    refine n_iload_n c_53_12 rfl (n_aload_n c_53_13 rfl (n_getB c_53_14 hB (n_getV (bi := 0) c_53_17 sc_4.n rfl rfl rfl (t_4_0 hS) ?_)))
    intro z3 ez3 f4
    obtain rfl : z3 = 3 := by omega
    refine n_imul c_53_20 rfl (n_aload_n c_53_21 rfl (n_iload c_53_22 rfl (n_ialoadV c_53_24 sc_7.n rfl rfl rfl (by omega) (t_7k (z := 2) hS (by omega) (by omega) (by omega)) ?_)))
    intro z5 ez5 f6
    refine n_iadd c_53_25 rfl (n_istore_n (L2 := [some (2, 15), some (2, 7), some (0, 9), some (0, ((0 * 3) + z5)), some (0, (9 - 1))]) c_53_26 rfl rfl (n_iinc (L2 := [some (2, 15), some (2, 7), some (0, 9), some (0, ((0 * 3) + z5)), some (0, ((9 - 1) + (-1)))]) c_53_27 rfl rfl rfl (n_goto c_53_30 (n_iload c_53_7 rfl ?_))))
    refine n_if0_lt c_53_9 (by omega) ?_ ?_
    · intro h7
      exfalso; omega
    · intro h8
      refine n_iload_n c_53_12 rfl (n_aload_n c_53_13 rfl (n_getB c_53_14 hB (n_getV (bi := 0) c_53_17 sc_4.n rfl rfl rfl (t_4_0 hS) ?_)))
      intro z9 ez9 f10
      obtain rfl : z9 = 3 := by omega
      refine n_imul c_53_20 rfl (n_aload_n c_53_21 rfl (n_iload c_53_22 rfl (n_ialoadV c_53_24 sc_7.n rfl rfl rfl (by omega) (t_7k (z := 1) hS (by omega) (by omega) (by omega)) ?_)))
      intro z11 ez11 f12
      refine n_iadd c_53_25 rfl (n_istore_n (L2 := [some (2, 15), some (2, 7), some (0, 9), some (0, ((((0 * 3) + z5) * 3) + z11)), some (0, ((9 - 1) + (-1)))]) c_53_26 rfl rfl (n_iinc (L2 := [some (2, 15), some (2, 7), some (0, 9), some (0, ((((0 * 3) + z5) * 3) + z11)), some (0, (((9 - 1) + (-1)) + (-1)))]) c_53_27 rfl rfl rfl (n_goto c_53_30 (n_iload c_53_7 rfl ?_))))
      refine n_if0_lt c_53_9 (by omega) ?_ ?_
      · intro h13
        exfalso; omega
      · intro h14
        refine n_iload_n c_53_12 rfl (n_aload_n c_53_13 rfl (n_getB c_53_14 hB (n_getV (bi := 0) c_53_17 sc_4.n rfl rfl rfl (t_4_0 hS) ?_)))
        intro z15 ez15 f16
        obtain rfl : z15 = 3 := by omega
        refine n_imul c_53_20 rfl (n_aload_n c_53_21 rfl (n_iload c_53_22 rfl (n_ialoadV c_53_24 sc_7.n rfl rfl rfl (by omega) (t_7k (z := 0) hS (by omega) (by omega) (by omega)) ?_)))
        intro z17 ez17 f18
        refine n_iadd c_53_25 rfl (n_istore_n (L2 := [some (2, 15), some (2, 7), some (0, 9), some (0, ((((((0 * 3) + z5) * 3) + z11) * 3) + z17)), some (0, (((9 - 1) + (-1)) + (-1)))]) c_53_26 rfl rfl (n_iinc (L2 := [some (2, 15), some (2, 7), some (0, 9), some (0, ((((((0 * 3) + z5) * 3) + z11) * 3) + z17)), some (0, ((((9 - 1) + (-1)) + (-1)) + (-1)))]) c_53_27 rfl rfl rfl (n_goto c_53_30 (n_iload c_53_7 rfl ?_))))
        refine n_if0_lt c_53_9 (by omega) ?_ ?_
        · intro h19
          exfalso; omega
        · intro h20
          refine n_iload_n c_53_12 rfl (n_aload_n c_53_13 rfl (n_getB c_53_14 hB (n_getV (bi := 0) c_53_17 sc_4.n rfl rfl rfl (t_4_0 hS) ?_)))
          intro z21 ez21 f22
          obtain rfl : z21 = 3 := by omega
          refine n_imul c_53_20 rfl (n_aload_n c_53_21 rfl (n_iload c_53_22 rfl (n_ialoadV c_53_24 sc_7.n rfl rfl rfl (by omega) (t_7k (z := 2) hS (by omega) (by omega) (by omega)) ?_)))
          intro z23 ez23 f24
          refine n_iadd c_53_25 rfl (n_istore_n (L2 := [some (2, 15), some (2, 7), some (0, 9), some (0, ((((((((0 * 3) + z5) * 3) + z11) * 3) + z17) * 3) + z23)), some (0, ((((9 - 1) + (-1)) + (-1)) + (-1)))]) c_53_26 rfl rfl (n_iinc (L2 := [some (2, 15), some (2, 7), some (0, 9), some (0, ((((((((0 * 3) + z5) * 3) + z11) * 3) + z17) * 3) + z23)), some (0, (((((9 - 1) + (-1)) + (-1)) + (-1)) + (-1)))]) c_53_27 rfl rfl rfl (n_goto c_53_30 (n_iload c_53_7 rfl ?_))))
          refine n_if0_lt c_53_9 (by omega) ?_ ?_
          · intro h25
            exfalso; omega
          · intro h26
            refine n_iload_n c_53_12 rfl (n_aload_n c_53_13 rfl (n_getB c_53_14 hB (n_getV (bi := 0) c_53_17 sc_4.n rfl rfl rfl (t_4_0 hS) ?_)))
            intro z27 ez27 f28
            obtain rfl : z27 = 3 := by omega
            refine n_imul c_53_20 rfl (n_aload_n c_53_21 rfl (n_iload c_53_22 rfl (n_ialoadV c_53_24 sc_7.n rfl rfl rfl (by omega) (t_7k (z := 1) hS (by omega) (by omega) (by omega)) ?_)))
            intro z29 ez29 f30
            refine n_iadd c_53_25 rfl (n_istore_n (L2 := [some (2, 15), some (2, 7), some (0, 9), some (0, ((((((((((0 * 3) + z5) * 3) + z11) * 3) + z17) * 3) + z23) * 3) + z29)), some (0, (((((9 - 1) + (-1)) + (-1)) + (-1)) + (-1)))]) c_53_26 rfl rfl (n_iinc (L2 := [some (2, 15), some (2, 7), some (0, 9), some (0, ((((((((((0 * 3) + z5) * 3) + z11) * 3) + z17) * 3) + z23) * 3) + z29)), some (0, ((((((9 - 1) + (-1)) + (-1)) + (-1)) + (-1)) + (-1)))]) c_53_27 rfl rfl rfl (n_goto c_53_30 (n_iload c_53_7 rfl ?_))))
            refine n_if0_lt c_53_9 (by omega) ?_ ?_
            · intro h31
              exfalso; omega
            · intro h32
              refine n_iload_n c_53_12 rfl (n_aload_n c_53_13 rfl (n_getB c_53_14 hB (n_getV (bi := 0) c_53_17 sc_4.n rfl rfl rfl (t_4_0 hS) ?_)))
              intro z33 ez33 f34
              obtain rfl : z33 = 3 := by omega
              refine n_imul c_53_20 rfl (n_aload_n c_53_21 rfl (n_iload c_53_22 rfl (n_ialoadV c_53_24 sc_7.n rfl rfl rfl (by omega) (t_7k (z := 0) hS (by omega) (by omega) (by omega)) ?_)))
              intro z35 ez35 f36
              refine n_iadd c_53_25 rfl (n_istore_n (L2 := [some (2, 15), some (2, 7), some (0, 9), some (0, ((((((((((((0 * 3) + z5) * 3) + z11) * 3) + z17) * 3) + z23) * 3) + z29) * 3) + z35)), some (0, ((((((9 - 1) + (-1)) + (-1)) + (-1)) + (-1)) + (-1)))]) c_53_26 rfl rfl (n_iinc (L2 := [some (2, 15), some (2, 7), some (0, 9), some (0, ((((((((((((0 * 3) + z5) * 3) + z11) * 3) + z17) * 3) + z23) * 3) + z29) * 3) + z35)), some (0, (((((((9 - 1) + (-1)) + (-1)) + (-1)) + (-1)) + (-1)) + (-1)))]) c_53_27 rfl rfl rfl (n_goto c_53_30 (n_iload c_53_7 rfl ?_))))
              refine n_if0_lt c_53_9 (by omega) ?_ ?_
              · intro h37
                exfalso; omega
              · intro h38
                refine n_iload_n c_53_12 rfl (n_aload_n c_53_13 rfl (n_getB c_53_14 hB (n_getV (bi := 0) c_53_17 sc_4.n rfl rfl rfl (t_4_0 hS) ?_)))
                intro z39 ez39 f40
                obtain rfl : z39 = 3 := by omega
                refine n_imul c_53_20 rfl (n_aload_n c_53_21 rfl (n_iload c_53_22 rfl (n_ialoadV c_53_24 sc_7.n rfl rfl rfl (by omega) (t_7k (z := 2) hS (by omega) (by omega) (by omega)) ?_)))
                intro z41 ez41 f42
                refine n_iadd c_53_25 rfl (n_istore_n (L2 := [some (2, 15), some (2, 7), some (0, 9), some (0, ((((((((((((((0 * 3) + z5) * 3) + z11) * 3) + z17) * 3) + z23) * 3) + z29) * 3) + z35) * 3) + z41)), some (0, (((((((9 - 1) + (-1)) + (-1)) + (-1)) + (-1)) + (-1)) + (-1)))]) c_53_26 rfl rfl (n_iinc (L2 := [some (2, 15), some (2, 7), some (0, 9), some (0, ((((((((((((((0 * 3) + z5) * 3) + z11) * 3) + z17) * 3) + z23) * 3) + z29) * 3) + z35) * 3) + z41)), some (0, ((((((((9 - 1) + (-1)) + (-1)) + (-1)) + (-1)) + (-1)) + (-1)) + (-1)))]) c_53_27 rfl rfl rfl (n_goto c_53_30 (n_iload c_53_7 rfl ?_))))
                refine n_if0_lt c_53_9 (by omega) ?_ ?_
                · intro h43
                  exfalso; omega
                · intro h44
                  refine n_iload_n c_53_12 rfl (n_aload_n c_53_13 rfl (n_getB c_53_14 hB (n_getV (bi := 0) c_53_17 sc_4.n rfl rfl rfl (t_4_0 hS) ?_)))
                  intro z45 ez45 f46
                  obtain rfl : z45 = 3 := by omega
                  refine n_imul c_53_20 rfl (n_aload_n c_53_21 rfl (n_iload c_53_22 rfl (n_ialoadV c_53_24 sc_7.n rfl rfl rfl (by omega) (t_7k (z := 1) hS (by omega) (by omega) (by omega)) ?_)))
                  intro z47 ez47 f48
                  refine n_iadd c_53_25 rfl (n_istore_n (L2 := [some (2, 15), some (2, 7), some (0, 9), some (0, ((((((((((((((((0 * 3) + z5) * 3) + z11) * 3) + z17) * 3) + z23) * 3) + z29) * 3) + z35) * 3) + z41) * 3) + z47)), some (0, ((((((((9 - 1) + (-1)) + (-1)) + (-1)) + (-1)) + (-1)) + (-1)) + (-1)))]) c_53_26 rfl rfl (n_iinc (L2 := [some (2, 15), some (2, 7), some (0, 9), some (0, ((((((((((((((((0 * 3) + z5) * 3) + z11) * 3) + z17) * 3) + z23) * 3) + z29) * 3) + z35) * 3) + z41) * 3) + z47)), some (0, (((((((((9 - 1) + (-1)) + (-1)) + (-1)) + (-1)) + (-1)) + (-1)) + (-1)) + (-1)))]) c_53_27 rfl rfl rfl (n_goto c_53_30 (n_iload c_53_7 rfl ?_))))
                  refine n_if0_lt c_53_9 (by omega) ?_ ?_
                  · intro h49
                    exfalso; omega
                  · intro h50
                    refine n_iload_n c_53_12 rfl (n_aload_n c_53_13 rfl (n_getB c_53_14 hB (n_getV (bi := 0) c_53_17 sc_4.n rfl rfl rfl (t_4_0 hS) ?_)))
                    intro z51 ez51 f52
                    obtain rfl : z51 = 3 := by omega
                    refine n_imul c_53_20 rfl (n_aload_n c_53_21 rfl (n_iload c_53_22 rfl (n_ialoadV c_53_24 sc_7.n rfl rfl rfl (by omega) (t_7k (z := 0) hS (by omega) (by omega) (by omega)) ?_)))
                    intro z53 ez53 f54
                    refine n_iadd c_53_25 rfl (n_istore_n (L2 := [some (2, 15), some (2, 7), some (0, 9), some (0, ((((((((((((((((((0 * 3) + z5) * 3) + z11) * 3) + z17) * 3) + z23) * 3) + z29) * 3) + z35) * 3) + z41) * 3) + z47) * 3) + z53)), some (0, (((((((((9 - 1) + (-1)) + (-1)) + (-1)) + (-1)) + (-1)) + (-1)) + (-1)) + (-1)))]) c_53_26 rfl rfl (n_iinc (L2 := [some (2, 15), some (2, 7), some (0, 9), some (0, ((((((((((((((((((0 * 3) + z5) * 3) + z11) * 3) + z17) * 3) + z23) * 3) + z29) * 3) + z35) * 3) + z41) * 3) + z47) * 3) + z53)), some (0, ((((((((((9 - 1) + (-1)) + (-1)) + (-1)) + (-1)) + (-1)) + (-1)) + (-1)) + (-1)) + (-1)))]) c_53_27 rfl rfl rfl (n_goto c_53_30 (n_iload c_53_7 rfl ?_))))
                    refine n_if0_lt c_53_9 (by omega) ?_ ?_
                    · intro h55
                      refine n_iload_n c_53_33 rfl ?_
                      exact n_rI c_53_34 rfl ⟨rfl, by omega⟩
                    · intro h56
                      exfalso; omega

set_option maxHeartbeats 4000000 in
theorem add_2_3 {xs : List Int32} {e : Nat} {ac : Int} {M0 M : nM} {c s : Int} (hS : Sf 3 ac M0 M) (hc : 0 ≤ c ∧ c ≤ 19682) (hs : -2147483648 ≤ s ∧ s ≤ 2147483647) (hK : MK 19683 27 26 702 18954 1 3 9 27 81 243 729 2187 6561 M) : nW xs (e + 1) 56 0 [some (2, 15), some (0, c), some (0, s)] [] M (nPV fun M1 => Sf 3 ac M0 M1 ∧ MK 19683 27 26 702 18954 1 3 9 27 81 243 729 2187 6561 M1 ∧ (M 15 10 ≤ M1 15 10)) := by
  have hd : (3 : Int) = 2 ∨ (3 : Int) = 3 := by decide
  have hac := hS.2.2.2.2
  refine n_aload_n c_56_0 rfl (n_getV (bi := 10) c_56_1 sc_15.n rfl rfl rfl (t_15_10 hS) ?_)
  intro z1 ez1 f2
  refine n_sipush c_56_4 rfl ?_
  refine n_if2_le c_56_7 (by omega) (by omega) ?_ ?_
  · intro h3
    refine n_aload_n c_56_11 rfl (n_getR c_56_12 sc_15.n rfl rfl rfl r_15_1 (n_aload_n c_56_15 rfl (n_getV (bi := 10) c_56_16 sc_15.n rfl rfl rfl (t_15_10 hS) ?_)))
    intro z4 ez4 f5
    obtain rfl : z1 = z4 := by omega
    refine n_iload_n c_56_19 rfl (n_iastoreV hS c_56_20 sc_20.n rfl (by omega) (w_20 (by omega) (by omega)) ?_)
    intro M6 eM6 hS6
    have hK6 := hK.u (by unfold Kok; omega) eM6
    have g6_0 : M6 15 10 = M 15 10 := by rw [eM6]; exact nu_a (by omega)
    have g6_1 : M6 20 z1 = c := by rw [eM6]; exact nu_s _ _ _ _
    refine n_aload_n c_56_21 rfl (n_getR c_56_22 sc_15.n rfl rfl rfl r_15_2 (n_aload_n c_56_25 rfl (n_getV (bi := 10) c_56_26 sc_15.n rfl rfl rfl (t_15_10 hS6) ?_)))
    intro z7 ez7 f8
    obtain rfl : z1 = z7 := by omega
    refine n_iload_n c_56_29 rfl (n_iastoreV hS6 c_56_30 sc_21.n rfl (by omega) (w_21 (by omega) (by omega)) ?_)
    intro M9 eM9 hS9
    have hK9 := hK6.u (by unfold Kok; omega) eM9
    have g9_0 : M9 15 10 = M6 15 10 := by rw [eM9]; exact nu_a (by omega)
    have g9_1 : M9 20 z1 = M6 20 z1 := by rw [eM9]; exact nu_a (by omega)
    have g9_2 : M9 21 z1 = s := by rw [eM9]; exact nu_s _ _ _ _
    refine n_aload_n c_56_31 rfl (n_getR c_56_32 sc_15.n rfl rfl rfl r_15_3 (n_aload_n c_56_35 rfl (n_getV (bi := 10) c_56_36 sc_15.n rfl rfl rfl (t_15_10 hS9) ?_)))
    intro z10 ez10 f11
    obtain rfl : z1 = z10 := by omega
    refine n_aload_n c_56_39 rfl (n_getB c_56_40 hK9.b (n_iload_n c_56_43 rfl (n_iconst c_56_44 (n_v2I c_56_45 rfl sc_4.n rfl rfl rfl rfl (threeOf0_3 (c := c) hS9 (by omega)) ?_))))
    intro z12 M13 hP14
    obtain ⟨eM, f14⟩ := hP14
    subst eM
    refine n_iastoreV hS9 c_56_48 sc_22.n rfl (by omega) (w_22 (by omega) (by omega)) ?_
    intro M15 eM15 hS15
    have hK15 := hK9.u (by unfold Kok; omega) eM15
    have g15_0 : M15 15 10 = M9 15 10 := by rw [eM15]; exact nu_a (by omega)
    have g15_1 : M15 20 z1 = M9 20 z1 := by rw [eM15]; exact nu_a (by omega)
    have g15_2 : M15 21 z1 = M9 21 z1 := by rw [eM15]; exact nu_a (by omega)
    have g15_3 : M15 22 z1 = z12 := by rw [eM15]; exact nu_s _ _ _ _
    refine n_aload_n c_56_49 rfl (n_getR c_56_50 sc_15.n rfl rfl rfl r_15_4 (n_aload_n c_56_53 rfl (n_getV (bi := 10) c_56_54 sc_15.n rfl rfl rfl (t_15_10 hS15) ?_)))
    intro z16 ez16 f17
    obtain rfl : z1 = z16 := by omega
    refine n_aload_n c_56_57 rfl (n_getB c_56_58 hK15.b (n_iload_n c_56_61 rfl (n_iconst c_56_62 (n_v2I c_56_63 rfl sc_4.n rfl rfl rfl rfl (threeOf3_3 (c := c) hS15 (by omega)) ?_))))
    intro z18 M19 hP20
    obtain ⟨eM, f20⟩ := hP20
    subst eM
    refine n_iastoreV hS15 c_56_66 sc_23.n rfl (by omega) (w_23 (by omega) (by omega)) ?_
    intro M21 eM21 hS21
    have hK21 := hK15.u (by unfold Kok; omega) eM21
    have g21_0 : M21 15 10 = M15 15 10 := by rw [eM21]; exact nu_a (by omega)
    have g21_1 : M21 20 z1 = M15 20 z1 := by rw [eM21]; exact nu_a (by omega)
    have g21_2 : M21 21 z1 = M15 21 z1 := by rw [eM21]; exact nu_a (by omega)
    have g21_3 : M21 22 z1 = M15 22 z1 := by rw [eM21]; exact nu_a (by omega)
    have g21_4 : M21 23 z1 = z18 := by rw [eM21]; exact nu_s _ _ _ _
    refine n_aload_n c_56_67 rfl (n_getR c_56_68 sc_15.n rfl rfl rfl r_15_5 (n_aload_n c_56_71 rfl (n_getV (bi := 10) c_56_72 sc_15.n rfl rfl rfl (t_15_10 hS21) ?_)))
    intro z22 ez22 f23
    obtain rfl : z1 = z22 := by omega
    refine n_aload_n c_56_75 rfl (n_getB c_56_76 hK21.b (n_iload_n c_56_79 rfl (n_bipush c_56_80 rfl (n_v2I c_56_82 rfl sc_4.n rfl rfl rfl rfl (threeOf6_3 (c := c) hS21 (by omega)) ?_))))
    intro z24 M25 hP26
    obtain ⟨eM, f26⟩ := hP26
    subst eM
    refine n_iastoreV hS21 c_56_85 sc_24.n rfl (by omega) (w_24 (by omega) (by omega)) ?_
    intro M27 eM27 hS27
    have hK27 := hK21.u (by unfold Kok; omega) eM27
    have g27_0 : M27 15 10 = M21 15 10 := by rw [eM27]; exact nu_a (by omega)
    have g27_1 : M27 20 z1 = M21 20 z1 := by rw [eM27]; exact nu_a (by omega)
    have g27_2 : M27 21 z1 = M21 21 z1 := by rw [eM27]; exact nu_a (by omega)
    have g27_3 : M27 22 z1 = M21 22 z1 := by rw [eM27]; exact nu_a (by omega)
    have g27_4 : M27 23 z1 = M21 23 z1 := by rw [eM27]; exact nu_a (by omega)
    have g27_5 : M27 24 z1 = z24 := by rw [eM27]; exact nu_s _ _ _ _
    refine n_aload_n c_56_86 rfl (n_dup2 c_56_87 (n_getV (bi := 10) c_56_88 sc_15.n rfl rfl rfl (t_15_10 hS27) ?_))
    intro z28 ez28 f29
    obtain rfl : z1 = z28 := by omega
    refine n_iconst c_56_91 (n_iadd c_56_92 rfl (n_putV (bi := 10) hS27 c_56_93 sc_15.n rfl rfl rfl rfl (w_15_10 (by omega)) ?_))
    intro M30 eM30 hS30
    have hK30 := hK27.cnt (c := z1) (by omega) (by omega) (z := (z1 + 1)) (by omega) eM30
    have g30_0 : M30 20 z1 = M27 20 z1 := by rw [eM30]; exact nu_a (by omega)
    have g30_1 : M30 21 z1 = M27 21 z1 := by rw [eM30]; exact nu_a (by omega)
    have g30_2 : M30 22 z1 = M27 22 z1 := by rw [eM30]; exact nu_a (by omega)
    have g30_3 : M30 23 z1 = M27 23 z1 := by rw [eM30]; exact nu_a (by omega)
    have g30_4 : M30 24 z1 = M27 24 z1 := by rw [eM30]; exact nu_a (by omega)
    have g30_5 : M30 15 10 = (z1 + 1) := by rw [eM30]; exact nu_s _ _ _ _
    refine n_aload_n c_56_96 rfl (n_getP c_56_97 ?_)
    intro p31 ep31
    refine n_iload_n c_56_100 rfl (n_aload_n c_56_101 rfl (n_getV (bi := 10) c_56_102 sc_15.n rfl rfl rfl (t_15_10 hS30) ?_))
    intro z32 ez32 f33
    refine n_iastoreP hS30 hK30 c_56_105 ep31 (by omega) (by omega) ?_
    intro M34 fM34 hS34 hK34
    have g34_0 := fM34 20 z1 (by omega) (by omega)
    have g34_1 := fM34 21 z1 (by omega) (by omega)
    have g34_2 := fM34 22 z1 (by omega) (by omega)
    have g34_3 := fM34 23 z1 (by omega) (by omega)
    have g34_4 := fM34 24 z1 (by omega) (by omega)
    have g34_5 := fM34 15 10 (by omega) (by omega)
    exact n_rV c_56_106 rfl ⟨hS34, hK34, by omega⟩
  · intro h35
    exact n_rV c_56_10 rfl ⟨hS, hK, by omega⟩

set_option maxHeartbeats 4000000 in
theorem fillM25T_2_3_c {xs : List Int32} {e : Nat} {ac : Int} {M0 M : nM} {p i j g : Int} (hS : Sf 3 ac M0 M) (hp : ActAt p) (hpl : p < 55 + 3 * ac) (hi : 0 ≤ i ∧ i ≤ 26) (hj : 0 ≤ j ∧ j ≤ 26) (hK : MK 19683 27 26 702 18954 1 3 9 27 81 243 729 2187 6561 M) (hg : M 15 10 = g) : ∀ nn : Nat, (∀ (x5 x6 x7 x8 x9 x10 : Int) (M : nM), Sf 3 ac M0 M → (3 ≤ x5 ∧ x5 ≤ 3) → (0 ≤ x6 ∧ x6 ≤ 24) → (0 ≤ x7 ∧ x7 ≤ 24) → (0 ≤ x8 ∧ x8 ≤ 24) → (0 ≤ x9 ∧ x9 ≤ 27) → (0 ≤ x10 ∧ x10 ≤ 3) → (MK 19683 27 26 702 18954 1 3 9 27 81 243 729 2187 6561 M) → (M 15 10 = g) → (x9 = 9 * x10) → (3 - x10) * 31 + 31 < (nn : Int) → nW xs e 45 86 [some (2, 25), none, some (2, (p + 1)), none, none, some (0, x5), some (0, x6), some (0, x7), some (0, x8), some (0, x9), some (0, x10), none, none, none, none] [] M (nPV fun M1 => Sf 3 ac M0 M1 ∧ (M1 15 10 = g) ∧ MK 19683 27 26 702 18954 1 3 9 27 81 243 729 2187 6561 M1)) ∧ (∀ (x5 x6 x7 x8 x9 x10 x11 x12 : Int) (M : nM), Sf 3 ac M0 M → (3 ≤ x5 ∧ x5 ≤ 3) → (0 ≤ x6 ∧ x6 ≤ 24) → (0 ≤ x7 ∧ x7 ≤ 24) → (0 ≤ x8 ∧ x8 ≤ 24) → (0 ≤ x9 ∧ x9 ≤ 27) → (0 ≤ x10 ∧ x10 ≤ 2) → (0 ≤ x11 ∧ x11 ≤ 2) → (0 ≤ x12 ∧ x12 ≤ 3) → (MK 19683 27 26 702 18954 1 3 9 27 81 243 729 2187 6561 M) → (M 15 10 = g) → (x9 = 9 * x10 + 3 * x12) → (3 - x10) * 31 + (3 - x12) * 6 + 6 < (nn : Int) → nW xs e 45 110 [some (2, 25), none, some (2, (p + 1)), none, none, some (0, x5), some (0, x6), some (0, x7), some (0, x8), some (0, x9), some (0, x10), some (0, x11), some (0, x12), none, none] [] M (nPV fun M1 => Sf 3 ac M0 M1 ∧ (M1 15 10 = g) ∧ MK 19683 27 26 702 18954 1 3 9 27 81 243 729 2187 6561 M1)) ∧ (∀ (x5 x6 x7 x8 x9 x10 x11 x12 x13 x14 : Int) (M : nM), Sf 3 ac M0 M → (3 ≤ x5 ∧ x5 ≤ 3) → (0 ≤ x6 ∧ x6 ≤ 24) → (0 ≤ x7 ∧ x7 ≤ 24) → (0 ≤ x8 ∧ x8 ≤ 24) → (0 ≤ x9 ∧ x9 ≤ 27) → (0 ≤ x10 ∧ x10 ≤ 2) → (0 ≤ x11 ∧ x11 ≤ 2) → (0 ≤ x12 ∧ x12 ≤ 2) → (0 ≤ x13 ∧ x13 ≤ 8) → (0 ≤ x14 ∧ x14 ≤ 3) → (MK 19683 27 26 702 18954 1 3 9 27 81 243 729 2187 6561 M) → (M 15 10 = g) → (x9 = 9 * x10 + 3 * x12 + x14) → (3 - x10) * 31 + (3 - x12) * 6 + (3 - x14) * 1 + 1 < (nn : Int) → nW xs e 45 137 [some (2, 25), none, some (2, (p + 1)), none, none, some (0, x5), some (0, x6), some (0, x7), some (0, x8), some (0, x9), some (0, x10), some (0, x11), some (0, x12), some (0, x13), some (0, x14)] [] M (nPV fun M1 => Sf 3 ac M0 M1 ∧ (M1 15 10 = g) ∧ MK 19683 27 26 702 18954 1 3 9 27 81 243 729 2187 6561 M1)) := by
  have hd : (3 : Int) = 2 ∨ (3 : Int) = 3 := by decide
  have hac := hS.2.2.2.2
  intro nn
  induction nn with
  | zero => refine ⟨?_, ?_, ?_⟩ <;> (intros; omega)
  | succ nn ih =>
    refine ⟨?_, ?_, ?_⟩
    · intro x5 x6 x7 x8 x9 x10 M hS k5 k6 k7 k8 k9 k10 hK hgg v0 hnn
      refine n_iload c_45_86 rfl (n_iload c_45_88 rfl ?_)
      refine n_if2_ge c_45_90 (by omega) (by omega) ?_ ?_
      · intro h1
        exact n_rV c_45_187 rfl ⟨hS, by omega, hK⟩
      · intro h2
        refine n_aload_n c_45_93 rfl (n_iload c_45_94 rfl (n_iload c_45_96 rfl (n_iadd c_45_98 rfl (n_ialoadV c_45_99 hp.c0.2.1.n rfl rfl rfl (by omega) (t_actrl hS hp hpl (Or.inl rfl) (by omega) (by omega)) ?_))))
        intro z3 ez3 f4
        refine n_aload_n c_45_100 rfl (n_getV (bi := 1) c_45_101 sc_25.n rfl rfl rfl hK.w25.1 ?_)
        intro z5 ez5 f6
        obtain rfl : z5 = 1 := by omega
        refine n_imul c_45_104 rfl (n_istore (L2 := [some (2, 25), none, some (2, (p + 1)), none, none, some (0, x5), some (0, x6), some (0, x7), some (0, x8), some (0, x9), some (0, x10), some (0, (z3 * 1)), none, none, none]) c_45_105 rfl rfl (n_iconst c_45_107 (n_istore (L2 := [some (2, 25), none, some (2, (p + 1)), none, none, some (0, x5), some (0, x6), some (0, x7), some (0, x8), some (0, x9), some (0, x10), some (0, (z3 * 1)), some (0, 0), none, none]) c_45_108 rfl rfl (n_fg (le_s (le_n (le_s (le_n (le_n (le_s (le_s (le_s (le_s (le_s (le_s (le_s (le_s (le_n (le_n le_0))))))))))))))) ?_))))
        exact ih.2.1 _ _ _ _ _ _ _ _ M hS (by omega) (by omega) (by omega) (by omega) (by omega) (by omega) (by omega) (by omega) hK (by omega) (by omega) (by omega)
    · intro x5 x6 x7 x8 x9 x10 x11 x12 M hS k5 k6 k7 k8 k9 k10 k11 k12 hK hgg v0 hnn
      refine n_iload c_45_110 rfl (n_iload c_45_112 rfl ?_)
      refine n_if2_ge c_45_114 (by omega) (by omega) ?_ ?_
      · intro h1
        refine n_iinc (L2 := [some (2, 25), none, some (2, (p + 1)), none, none, some (0, x5), some (0, x6), some (0, x7), some (0, x8), some (0, x9), some (0, (x10 + 1)), some (0, x11), some (0, x12), none, none]) c_45_181 rfl rfl rfl (n_goto c_45_184 (n_fg (le_s (le_n (le_s (le_n (le_n (le_s (le_s (le_s (le_s (le_s (le_s (le_n (le_n (le_n (le_n le_0))))))))))))))) ?_))
        exact ih.1 _ _ _ _ _ _ M hS (by omega) (by omega) (by omega) (by omega) (by omega) (by omega) hK (by omega) (by omega) (by omega)
      · intro h2
        refine n_iload c_45_117 rfl (n_aload_n c_45_119 rfl (n_iload c_45_120 rfl (n_iload c_45_122 rfl (n_iadd c_45_124 rfl (n_ialoadV c_45_125 hp.c0.2.1.n rfl rfl rfl (by omega) (t_actrl hS hp hpl (Or.inl rfl) (by omega) (by omega)) ?_)))))
        intro z3 ez3 f4
        refine n_aload_n c_45_126 rfl (n_getV (bi := 2) c_45_127 sc_25.n rfl rfl rfl hK.w25.2.1 ?_)
        intro z5 ez5 f6
        obtain rfl : z5 = 3 := by omega
        refine n_imul c_45_130 rfl (n_iadd c_45_131 rfl (n_istore (L2 := [some (2, 25), none, some (2, (p + 1)), none, none, some (0, x5), some (0, x6), some (0, x7), some (0, x8), some (0, x9), some (0, x10), some (0, x11), some (0, x12), some (0, (x11 + (z3 * 3))), none]) c_45_132 rfl rfl (n_iconst c_45_134 (n_istore (L2 := [some (2, 25), none, some (2, (p + 1)), none, none, some (0, x5), some (0, x6), some (0, x7), some (0, x8), some (0, x9), some (0, x10), some (0, x11), some (0, x12), some (0, (x11 + (z3 * 3))), some (0, 0)]) c_45_135 rfl rfl (n_fg (le_s (le_n (le_s (le_n (le_n (le_s (le_s (le_s (le_s (le_s (le_s (le_s (le_s (le_s (le_s le_0))))))))))))))) ?_)))))
        exact ih.2.2 _ _ _ _ _ _ _ _ _ _ M hS (by omega) (by omega) (by omega) (by omega) (by omega) (by omega) (by omega) (by omega) (by omega) (by omega) hK (by omega) (by omega) (by omega)
    · intro x5 x6 x7 x8 x9 x10 x11 x12 x13 x14 M hS k5 k6 k7 k8 k9 k10 k11 k12 k13 k14 hK hgg v0 hnn
      refine n_iload c_45_137 rfl (n_iload c_45_139 rfl ?_)
      refine n_if2_ge c_45_141 (by omega) (by omega) ?_ ?_
      · intro h1
        refine n_iinc (L2 := [some (2, 25), none, some (2, (p + 1)), none, none, some (0, x5), some (0, x6), some (0, x7), some (0, x8), some (0, x9), some (0, x10), some (0, x11), some (0, (x12 + 1)), some (0, x13), some (0, x14)]) c_45_175 rfl rfl rfl (n_goto c_45_178 (n_fg (le_s (le_n (le_s (le_n (le_n (le_s (le_s (le_s (le_s (le_s (le_s (le_s (le_s (le_n (le_n le_0))))))))))))))) ?_))
        exact ih.2.1 _ _ _ _ _ _ _ _ M hS (by omega) (by omega) (by omega) (by omega) (by omega) (by omega) (by omega) (by omega) hK (by omega) (by omega) (by omega)
      · intro h2
        refine n_aload_n c_45_144 rfl (n_getR c_45_145 sc_25.n rfl rfl rfl r_25_0 (n_iload c_45_148 rfl (n_iload c_45_150 rfl (n_aload_n c_45_152 rfl (n_iload c_45_153 rfl (n_iload c_45_155 rfl (n_iadd c_45_157 rfl (n_ialoadV c_45_158 hp.c0.2.1.n rfl rfl rfl (by omega) (t_actrl hS hp hpl (Or.inl rfl) (by omega) (by omega)) ?_))))))))
        intro z3 ez3 f4
        refine n_aload_n c_45_159 rfl (n_getV (bi := 3) c_45_160 sc_25.n rfl rfl rfl hK.w25.2.2 ?_)
        intro z5 ez5 f6
        obtain rfl : z5 = 9 := by omega
        refine n_imul c_45_163 rfl (n_iadd c_45_164 rfl (n_iastoreV hS c_45_165 sc_26.n rfl (by omega) (w_26 (by omega) (by omega)) ?_))
        intro M7 eM7 hS7
        have hK7 := hK.u (by unfold Kok; omega) eM7
        have g7_0 : M7 15 10 = M 15 10 := by rw [eM7]; exact nu_a (by omega)
        refine n_iinc (L2 := [some (2, 25), none, some (2, (p + 1)), none, none, some (0, x5), some (0, x6), some (0, x7), some (0, x8), some (0, (x9 + 1)), some (0, x10), some (0, x11), some (0, x12), some (0, x13), some (0, x14)]) c_45_166 rfl rfl rfl (n_iinc (L2 := [some (2, 25), none, some (2, (p + 1)), none, none, some (0, x5), some (0, x6), some (0, x7), some (0, x8), some (0, (x9 + 1)), some (0, x10), some (0, x11), some (0, x12), some (0, x13), some (0, (x14 + 1))]) c_45_169 rfl rfl rfl (n_goto c_45_172 (n_fg (le_s (le_n (le_s (le_n (le_n (le_s (le_s (le_s (le_s (le_s (le_s (le_s (le_s (le_s (le_s le_0))))))))))))))) ?_)))
        exact ih.2.2 _ _ _ _ _ _ _ _ _ _ M7 hS7 (by omega) (by omega) (by omega) (by omega) (by omega) (by omega) (by omega) (by omega) (by omega) (by omega) hK7 (by omega) (by omega) (by omega)
set_option maxHeartbeats 4000000 in
theorem fillM25T_2_3 {xs : List Int32} {e : Nat} {ac : Int} {M0 M : nM} {p i j g : Int} (hS : Sf 3 ac M0 M) (hp : ActAt p) (hpl : p < 55 + 3 * ac) (hi : 0 ≤ i ∧ i ≤ 26) (hj : 0 ≤ j ∧ j ≤ 26) (hK : MK 19683 27 26 702 18954 1 3 9 27 81 243 729 2187 6561 M) (hg : M 15 10 = g) : nW xs e 45 0 [some (2, 25), some (2, 4), some (2, (p + 1)), some (0, i), some (0, j), none, none, none, none, none, none, none, none, none, none] [] M (nPV fun M1 => Sf 3 ac M0 M1 ∧ (M1 15 10 = g) ∧ MK 19683 27 26 702 18954 1 3 9 27 81 243 729 2187 6561 M1) := by
  have hd : (3 : Int) = 2 ∨ (3 : Int) = 3 := by decide
  have hac := hS.2.2.2.2
  refine n_aload_n c_45_0 rfl (n_getV (bi := 1) c_45_1 sc_25.n rfl rfl rfl hK.w25.1 ?_)
  intro z1 ez1 f2
  obtain rfl : z1 = 1 := by omega
  refine n_if0_ne c_45_4 (by omega) ?_ ?_
  · intro h3
    refine n_aload_n c_45_8 rfl (n_getV (bi := 0) c_45_9 sc_4.n rfl rfl rfl (t_4_0 hS) ?_)
    intro z4 ez4 f5
    obtain rfl : z4 = 3 := by omega
    refine n_istore (L2 := [some (2, 25), some (2, 4), some (2, (p + 1)), some (0, i), some (0, j), some (0, 3), none, none, none, none, none, none, none, none, none]) c_45_12 rfl rfl (n_aload_n c_45_14 rfl (n_getR c_45_15 sc_4.n rfl rfl rfl r_4_2 (n_iload_n c_45_18 rfl (n_ialoadV c_45_19 sc_5.n rfl rfl rfl (by omega) (t_5d hS hd (by omega) (by omega)) ?_))))
    intro z6 ez6 f7
    refine n_iload c_45_20 rfl (n_imul c_45_22 rfl (n_aload_n c_45_23 rfl (n_getR c_45_24 sc_4.n rfl rfl rfl r_4_2 (n_iload c_45_27 rfl (n_ialoadV c_45_29 sc_5.n rfl rfl rfl (by omega) (t_5d hS hd (by omega) (by omega)) ?_)))))
    intro z8 ez8 f9
    refine n_iadd c_45_30 rfl (n_iload c_45_31 rfl (n_imul c_45_33 rfl (n_istore (L2 := [some (2, 25), some (2, 4), some (2, (p + 1)), some (0, i), some (0, j), some (0, 3), some (0, (((z6 * 3) + z8) * 3)), none, none, none, none, none, none, none, none]) c_45_34 rfl rfl (n_aload_n c_45_36 rfl (n_getR c_45_37 sc_4.n rfl rfl rfl r_4_3 (n_iload_n c_45_40 rfl (n_ialoadV c_45_41 sc_6.n rfl rfl rfl (by omega) (t_6d hS hd (by omega) (by omega)) ?_)))))))
    intro z10 ez10 f11
    refine n_iload c_45_42 rfl (n_imul c_45_44 rfl (n_aload_n c_45_45 rfl (n_getR c_45_46 sc_4.n rfl rfl rfl r_4_3 (n_iload c_45_49 rfl (n_ialoadV c_45_51 sc_6.n rfl rfl rfl (by omega) (t_6d hS hd (by omega) (by omega)) ?_)))))
    intro z12 ez12 f13
    refine n_iadd c_45_52 rfl (n_iload c_45_53 rfl (n_imul c_45_55 rfl (n_istore (L2 := [some (2, 25), some (2, 4), some (2, (p + 1)), some (0, i), some (0, j), some (0, 3), some (0, (((z6 * 3) + z8) * 3)), some (0, (((z10 * 3) + z12) * 3)), none, none, none, none, none, none, none]) c_45_56 rfl rfl (n_aload_n c_45_58 rfl (n_getR c_45_59 sc_4.n rfl rfl rfl r_4_4 (n_iload_n c_45_62 rfl (n_ialoadV c_45_63 sc_7.n rfl rfl rfl (by omega) (t_7d hS hd (by omega) (by omega)) ?_)))))))
    intro z14 ez14 f15
    refine n_iload c_45_64 rfl (n_imul c_45_66 rfl (n_aload_n c_45_67 rfl (n_getR c_45_68 sc_4.n rfl rfl rfl r_4_4 (n_iload c_45_71 rfl (n_ialoadV c_45_73 sc_7.n rfl rfl rfl (by omega) (t_7d hS hd (by omega) (by omega)) ?_)))))
    intro z16 ez16 f17
    refine n_iadd c_45_74 rfl (n_iload c_45_75 rfl (n_imul c_45_77 rfl (n_istore (L2 := [some (2, 25), some (2, 4), some (2, (p + 1)), some (0, i), some (0, j), some (0, 3), some (0, (((z6 * 3) + z8) * 3)), some (0, (((z10 * 3) + z12) * 3)), some (0, (((z14 * 3) + z16) * 3)), none, none, none, none, none, none]) c_45_78 rfl rfl (n_iconst c_45_80 (n_istore (L2 := [some (2, 25), some (2, 4), some (2, (p + 1)), some (0, i), some (0, j), some (0, 3), some (0, (((z6 * 3) + z8) * 3)), some (0, (((z10 * 3) + z12) * 3)), some (0, (((z14 * 3) + z16) * 3)), some (0, 0), none, none, none, none, none]) c_45_81 rfl rfl (n_iconst c_45_83 (n_istore (L2 := [some (2, 25), some (2, 4), some (2, (p + 1)), some (0, i), some (0, j), some (0, 3), some (0, (((z6 * 3) + z8) * 3)), some (0, (((z10 * 3) + z12) * 3)), some (0, (((z14 * 3) + z16) * 3)), some (0, 0), some (0, 0), none, none, none, none]) c_45_84 rfl rfl (n_fg (le_s (le_n (le_s (le_n (le_n (le_s (le_s (le_s (le_s (le_s (le_s (le_n (le_n (le_n (le_n le_0))))))))))))))) ?_))))))))
    exact (fillM25T_2_3_c hS hp hpl hi hj hK hg 320).1 _ _ _ _ _ _ M hS (by omega) (by omega) (by omega) (by omega) (by omega) (by omega) hK (by omega) (by omega) (by omega)
  · intro h18
    exfalso; omega

set_option maxHeartbeats 4000000 in
theorem fillM27T_2_3_c {xs : List Int32} {e : Nat} {ac : Int} {M0 M : nM} {p i j g : Int} (hS : Sf 3 ac M0 M) (hp : ActAt p) (hpl : p < 55 + 3 * ac) (hi : 0 ≤ i ∧ i ≤ 26) (hj : 0 ≤ j ∧ j ≤ 26) (hK : MK 19683 27 26 702 18954 1 3 9 27 81 243 729 2187 6561 M) (hg : M 15 10 = g) : ∀ nn : Nat, (∀ (x5 x6 x7 x8 x9 x10 : Int) (M : nM), Sf 3 ac M0 M → (3 ≤ x5 ∧ x5 ≤ 3) → (0 ≤ x6 ∧ x6 ≤ 24) → (0 ≤ x7 ∧ x7 ≤ 24) → (0 ≤ x8 ∧ x8 ≤ 24) → (0 ≤ x9 ∧ x9 ≤ 27) → (0 ≤ x10 ∧ x10 ≤ 3) → (MK 19683 27 26 702 18954 1 3 9 27 81 243 729 2187 6561 M) → (M 15 10 = g) → (x9 = 9 * x10) → (3 - x10) * 31 + 31 < (nn : Int) → nW xs e 45 86 [some (2, 27), none, some (2, (p + 1)), none, none, some (0, x5), some (0, x6), some (0, x7), some (0, x8), some (0, x9), some (0, x10), none, none, none, none] [] M (nPV fun M1 => Sf 3 ac M0 M1 ∧ (M1 15 10 = g) ∧ MK 19683 27 26 702 18954 1 3 9 27 81 243 729 2187 6561 M1)) ∧ (∀ (x5 x6 x7 x8 x9 x10 x11 x12 : Int) (M : nM), Sf 3 ac M0 M → (3 ≤ x5 ∧ x5 ≤ 3) → (0 ≤ x6 ∧ x6 ≤ 24) → (0 ≤ x7 ∧ x7 ≤ 24) → (0 ≤ x8 ∧ x8 ≤ 24) → (0 ≤ x9 ∧ x9 ≤ 27) → (0 ≤ x10 ∧ x10 ≤ 2) → (0 ≤ x11 ∧ x11 ≤ 54) → (0 ≤ x12 ∧ x12 ≤ 3) → (MK 19683 27 26 702 18954 1 3 9 27 81 243 729 2187 6561 M) → (M 15 10 = g) → (x9 = 9 * x10 + 3 * x12) → (3 - x10) * 31 + (3 - x12) * 6 + 6 < (nn : Int) → nW xs e 45 110 [some (2, 27), none, some (2, (p + 1)), none, none, some (0, x5), some (0, x6), some (0, x7), some (0, x8), some (0, x9), some (0, x10), some (0, x11), some (0, x12), none, none] [] M (nPV fun M1 => Sf 3 ac M0 M1 ∧ (M1 15 10 = g) ∧ MK 19683 27 26 702 18954 1 3 9 27 81 243 729 2187 6561 M1)) ∧ (∀ (x5 x6 x7 x8 x9 x10 x11 x12 x13 x14 : Int) (M : nM), Sf 3 ac M0 M → (3 ≤ x5 ∧ x5 ≤ 3) → (0 ≤ x6 ∧ x6 ≤ 24) → (0 ≤ x7 ∧ x7 ≤ 24) → (0 ≤ x8 ∧ x8 ≤ 24) → (0 ≤ x9 ∧ x9 ≤ 27) → (0 ≤ x10 ∧ x10 ≤ 2) → (0 ≤ x11 ∧ x11 ≤ 54) → (0 ≤ x12 ∧ x12 ≤ 2) → (0 ≤ x13 ∧ x13 ≤ 216) → (0 ≤ x14 ∧ x14 ≤ 3) → (MK 19683 27 26 702 18954 1 3 9 27 81 243 729 2187 6561 M) → (M 15 10 = g) → (x9 = 9 * x10 + 3 * x12 + x14) → (3 - x10) * 31 + (3 - x12) * 6 + (3 - x14) * 1 + 1 < (nn : Int) → nW xs e 45 137 [some (2, 27), none, some (2, (p + 1)), none, none, some (0, x5), some (0, x6), some (0, x7), some (0, x8), some (0, x9), some (0, x10), some (0, x11), some (0, x12), some (0, x13), some (0, x14)] [] M (nPV fun M1 => Sf 3 ac M0 M1 ∧ (M1 15 10 = g) ∧ MK 19683 27 26 702 18954 1 3 9 27 81 243 729 2187 6561 M1)) := by
  have hd : (3 : Int) = 2 ∨ (3 : Int) = 3 := by decide
  have hac := hS.2.2.2.2
  intro nn
  induction nn with
  | zero => refine ⟨?_, ?_, ?_⟩ <;> (intros; omega)
  | succ nn ih =>
    refine ⟨?_, ?_, ?_⟩
    · intro x5 x6 x7 x8 x9 x10 M hS k5 k6 k7 k8 k9 k10 hK hgg v0 hnn
      refine n_iload c_45_86 rfl (n_iload c_45_88 rfl ?_)
      refine n_if2_ge c_45_90 (by omega) (by omega) ?_ ?_
      · intro h1
        exact n_rV c_45_187 rfl ⟨hS, by omega, hK⟩
      · intro h2
        refine n_aload_n c_45_93 rfl (n_iload c_45_94 rfl (n_iload c_45_96 rfl (n_iadd c_45_98 rfl (n_ialoadV c_45_99 hp.c0.2.1.n rfl rfl rfl (by omega) (t_actrl hS hp hpl (Or.inl rfl) (by omega) (by omega)) ?_))))
        intro z3 ez3 f4
        refine n_aload_n c_45_100 rfl (n_getV (bi := 1) c_45_101 sc_27.n rfl rfl rfl hK.w27.1 ?_)
        intro z5 ez5 f6
        obtain rfl : z5 = 27 := by omega
        refine n_imul c_45_104 rfl (n_istore (L2 := [some (2, 27), none, some (2, (p + 1)), none, none, some (0, x5), some (0, x6), some (0, x7), some (0, x8), some (0, x9), some (0, x10), some (0, (z3 * 27)), none, none, none]) c_45_105 rfl rfl (n_iconst c_45_107 (n_istore (L2 := [some (2, 27), none, some (2, (p + 1)), none, none, some (0, x5), some (0, x6), some (0, x7), some (0, x8), some (0, x9), some (0, x10), some (0, (z3 * 27)), some (0, 0), none, none]) c_45_108 rfl rfl (n_fg (le_s (le_n (le_s (le_n (le_n (le_s (le_s (le_s (le_s (le_s (le_s (le_s (le_s (le_n (le_n le_0))))))))))))))) ?_))))
        exact ih.2.1 _ _ _ _ _ _ _ _ M hS (by omega) (by omega) (by omega) (by omega) (by omega) (by omega) (by omega) (by omega) hK (by omega) (by omega) (by omega)
    · intro x5 x6 x7 x8 x9 x10 x11 x12 M hS k5 k6 k7 k8 k9 k10 k11 k12 hK hgg v0 hnn
      refine n_iload c_45_110 rfl (n_iload c_45_112 rfl ?_)
      refine n_if2_ge c_45_114 (by omega) (by omega) ?_ ?_
      · intro h1
        refine n_iinc (L2 := [some (2, 27), none, some (2, (p + 1)), none, none, some (0, x5), some (0, x6), some (0, x7), some (0, x8), some (0, x9), some (0, (x10 + 1)), some (0, x11), some (0, x12), none, none]) c_45_181 rfl rfl rfl (n_goto c_45_184 (n_fg (le_s (le_n (le_s (le_n (le_n (le_s (le_s (le_s (le_s (le_s (le_s (le_n (le_n (le_n (le_n le_0))))))))))))))) ?_))
        exact ih.1 _ _ _ _ _ _ M hS (by omega) (by omega) (by omega) (by omega) (by omega) (by omega) hK (by omega) (by omega) (by omega)
      · intro h2
        refine n_iload c_45_117 rfl (n_aload_n c_45_119 rfl (n_iload c_45_120 rfl (n_iload c_45_122 rfl (n_iadd c_45_124 rfl (n_ialoadV c_45_125 hp.c0.2.1.n rfl rfl rfl (by omega) (t_actrl hS hp hpl (Or.inl rfl) (by omega) (by omega)) ?_)))))
        intro z3 ez3 f4
        refine n_aload_n c_45_126 rfl (n_getV (bi := 2) c_45_127 sc_27.n rfl rfl rfl hK.w27.2.1 ?_)
        intro z5 ez5 f6
        obtain rfl : z5 = 81 := by omega
        refine n_imul c_45_130 rfl (n_iadd c_45_131 rfl (n_istore (L2 := [some (2, 27), none, some (2, (p + 1)), none, none, some (0, x5), some (0, x6), some (0, x7), some (0, x8), some (0, x9), some (0, x10), some (0, x11), some (0, x12), some (0, (x11 + (z3 * 81))), none]) c_45_132 rfl rfl (n_iconst c_45_134 (n_istore (L2 := [some (2, 27), none, some (2, (p + 1)), none, none, some (0, x5), some (0, x6), some (0, x7), some (0, x8), some (0, x9), some (0, x10), some (0, x11), some (0, x12), some (0, (x11 + (z3 * 81))), some (0, 0)]) c_45_135 rfl rfl (n_fg (le_s (le_n (le_s (le_n (le_n (le_s (le_s (le_s (le_s (le_s (le_s (le_s (le_s (le_s (le_s le_0))))))))))))))) ?_)))))
        exact ih.2.2 _ _ _ _ _ _ _ _ _ _ M hS (by omega) (by omega) (by omega) (by omega) (by omega) (by omega) (by omega) (by omega) (by omega) (by omega) hK (by omega) (by omega) (by omega)
    · intro x5 x6 x7 x8 x9 x10 x11 x12 x13 x14 M hS k5 k6 k7 k8 k9 k10 k11 k12 k13 k14 hK hgg v0 hnn
      refine n_iload c_45_137 rfl (n_iload c_45_139 rfl ?_)
      refine n_if2_ge c_45_141 (by omega) (by omega) ?_ ?_
      · intro h1
        refine n_iinc (L2 := [some (2, 27), none, some (2, (p + 1)), none, none, some (0, x5), some (0, x6), some (0, x7), some (0, x8), some (0, x9), some (0, x10), some (0, x11), some (0, (x12 + 1)), some (0, x13), some (0, x14)]) c_45_175 rfl rfl rfl (n_goto c_45_178 (n_fg (le_s (le_n (le_s (le_n (le_n (le_s (le_s (le_s (le_s (le_s (le_s (le_s (le_s (le_n (le_n le_0))))))))))))))) ?_))
        exact ih.2.1 _ _ _ _ _ _ _ _ M hS (by omega) (by omega) (by omega) (by omega) (by omega) (by omega) (by omega) (by omega) hK (by omega) (by omega) (by omega)
      · intro h2
        refine n_aload_n c_45_144 rfl (n_getR c_45_145 sc_27.n rfl rfl rfl r_27_0 (n_iload c_45_148 rfl (n_iload c_45_150 rfl (n_aload_n c_45_152 rfl (n_iload c_45_153 rfl (n_iload c_45_155 rfl (n_iadd c_45_157 rfl (n_ialoadV c_45_158 hp.c0.2.1.n rfl rfl rfl (by omega) (t_actrl hS hp hpl (Or.inl rfl) (by omega) (by omega)) ?_))))))))
        intro z3 ez3 f4
        refine n_aload_n c_45_159 rfl (n_getV (bi := 3) c_45_160 sc_27.n rfl rfl rfl hK.w27.2.2 ?_)
        intro z5 ez5 f6
        obtain rfl : z5 = 243 := by omega
        refine n_imul c_45_163 rfl (n_iadd c_45_164 rfl (n_iastoreV hS c_45_165 sc_28.n rfl (by omega) (w_28 (by omega) (by omega)) ?_))
        intro M7 eM7 hS7
        have hK7 := hK.u (by unfold Kok; omega) eM7
        have g7_0 : M7 15 10 = M 15 10 := by rw [eM7]; exact nu_a (by omega)
        refine n_iinc (L2 := [some (2, 27), none, some (2, (p + 1)), none, none, some (0, x5), some (0, x6), some (0, x7), some (0, x8), some (0, (x9 + 1)), some (0, x10), some (0, x11), some (0, x12), some (0, x13), some (0, x14)]) c_45_166 rfl rfl rfl (n_iinc (L2 := [some (2, 27), none, some (2, (p + 1)), none, none, some (0, x5), some (0, x6), some (0, x7), some (0, x8), some (0, (x9 + 1)), some (0, x10), some (0, x11), some (0, x12), some (0, x13), some (0, (x14 + 1))]) c_45_169 rfl rfl rfl (n_goto c_45_172 (n_fg (le_s (le_n (le_s (le_n (le_n (le_s (le_s (le_s (le_s (le_s (le_s (le_s (le_s (le_s (le_s le_0))))))))))))))) ?_)))
        exact ih.2.2 _ _ _ _ _ _ _ _ _ _ M7 hS7 (by omega) (by omega) (by omega) (by omega) (by omega) (by omega) (by omega) (by omega) (by omega) (by omega) hK7 (by omega) (by omega) (by omega)
set_option maxHeartbeats 4000000 in
theorem fillM27T_2_3 {xs : List Int32} {e : Nat} {ac : Int} {M0 M : nM} {p i j g : Int} (hS : Sf 3 ac M0 M) (hp : ActAt p) (hpl : p < 55 + 3 * ac) (hi : 0 ≤ i ∧ i ≤ 26) (hj : 0 ≤ j ∧ j ≤ 26) (hK : MK 19683 27 26 702 18954 1 3 9 27 81 243 729 2187 6561 M) (hg : M 15 10 = g) : nW xs e 45 0 [some (2, 27), some (2, 4), some (2, (p + 1)), some (0, i), some (0, j), none, none, none, none, none, none, none, none, none, none] [] M (nPV fun M1 => Sf 3 ac M0 M1 ∧ (M1 15 10 = g) ∧ MK 19683 27 26 702 18954 1 3 9 27 81 243 729 2187 6561 M1) := by
  have hd : (3 : Int) = 2 ∨ (3 : Int) = 3 := by decide
  have hac := hS.2.2.2.2
  refine n_aload_n c_45_0 rfl (n_getV (bi := 1) c_45_1 sc_27.n rfl rfl rfl hK.w27.1 ?_)
  intro z1 ez1 f2
  obtain rfl : z1 = 27 := by omega
  refine n_if0_ne c_45_4 (by omega) ?_ ?_
  · intro h3
    refine n_aload_n c_45_8 rfl (n_getV (bi := 0) c_45_9 sc_4.n rfl rfl rfl (t_4_0 hS) ?_)
    intro z4 ez4 f5
    obtain rfl : z4 = 3 := by omega
    refine n_istore (L2 := [some (2, 27), some (2, 4), some (2, (p + 1)), some (0, i), some (0, j), some (0, 3), none, none, none, none, none, none, none, none, none]) c_45_12 rfl rfl (n_aload_n c_45_14 rfl (n_getR c_45_15 sc_4.n rfl rfl rfl r_4_2 (n_iload_n c_45_18 rfl (n_ialoadV c_45_19 sc_5.n rfl rfl rfl (by omega) (t_5d hS hd (by omega) (by omega)) ?_))))
    intro z6 ez6 f7
    refine n_iload c_45_20 rfl (n_imul c_45_22 rfl (n_aload_n c_45_23 rfl (n_getR c_45_24 sc_4.n rfl rfl rfl r_4_2 (n_iload c_45_27 rfl (n_ialoadV c_45_29 sc_5.n rfl rfl rfl (by omega) (t_5d hS hd (by omega) (by omega)) ?_)))))
    intro z8 ez8 f9
    refine n_iadd c_45_30 rfl (n_iload c_45_31 rfl (n_imul c_45_33 rfl (n_istore (L2 := [some (2, 27), some (2, 4), some (2, (p + 1)), some (0, i), some (0, j), some (0, 3), some (0, (((z6 * 3) + z8) * 3)), none, none, none, none, none, none, none, none]) c_45_34 rfl rfl (n_aload_n c_45_36 rfl (n_getR c_45_37 sc_4.n rfl rfl rfl r_4_3 (n_iload_n c_45_40 rfl (n_ialoadV c_45_41 sc_6.n rfl rfl rfl (by omega) (t_6d hS hd (by omega) (by omega)) ?_)))))))
    intro z10 ez10 f11
    refine n_iload c_45_42 rfl (n_imul c_45_44 rfl (n_aload_n c_45_45 rfl (n_getR c_45_46 sc_4.n rfl rfl rfl r_4_3 (n_iload c_45_49 rfl (n_ialoadV c_45_51 sc_6.n rfl rfl rfl (by omega) (t_6d hS hd (by omega) (by omega)) ?_)))))
    intro z12 ez12 f13
    refine n_iadd c_45_52 rfl (n_iload c_45_53 rfl (n_imul c_45_55 rfl (n_istore (L2 := [some (2, 27), some (2, 4), some (2, (p + 1)), some (0, i), some (0, j), some (0, 3), some (0, (((z6 * 3) + z8) * 3)), some (0, (((z10 * 3) + z12) * 3)), none, none, none, none, none, none, none]) c_45_56 rfl rfl (n_aload_n c_45_58 rfl (n_getR c_45_59 sc_4.n rfl rfl rfl r_4_4 (n_iload_n c_45_62 rfl (n_ialoadV c_45_63 sc_7.n rfl rfl rfl (by omega) (t_7d hS hd (by omega) (by omega)) ?_)))))))
    intro z14 ez14 f15
    refine n_iload c_45_64 rfl (n_imul c_45_66 rfl (n_aload_n c_45_67 rfl (n_getR c_45_68 sc_4.n rfl rfl rfl r_4_4 (n_iload c_45_71 rfl (n_ialoadV c_45_73 sc_7.n rfl rfl rfl (by omega) (t_7d hS hd (by omega) (by omega)) ?_)))))
    intro z16 ez16 f17
    refine n_iadd c_45_74 rfl (n_iload c_45_75 rfl (n_imul c_45_77 rfl (n_istore (L2 := [some (2, 27), some (2, 4), some (2, (p + 1)), some (0, i), some (0, j), some (0, 3), some (0, (((z6 * 3) + z8) * 3)), some (0, (((z10 * 3) + z12) * 3)), some (0, (((z14 * 3) + z16) * 3)), none, none, none, none, none, none]) c_45_78 rfl rfl (n_iconst c_45_80 (n_istore (L2 := [some (2, 27), some (2, 4), some (2, (p + 1)), some (0, i), some (0, j), some (0, 3), some (0, (((z6 * 3) + z8) * 3)), some (0, (((z10 * 3) + z12) * 3)), some (0, (((z14 * 3) + z16) * 3)), some (0, 0), none, none, none, none, none]) c_45_81 rfl rfl (n_iconst c_45_83 (n_istore (L2 := [some (2, 27), some (2, 4), some (2, (p + 1)), some (0, i), some (0, j), some (0, 3), some (0, (((z6 * 3) + z8) * 3)), some (0, (((z10 * 3) + z12) * 3)), some (0, (((z14 * 3) + z16) * 3)), some (0, 0), some (0, 0), none, none, none, none]) c_45_84 rfl rfl (n_fg (le_s (le_n (le_s (le_n (le_n (le_s (le_s (le_s (le_s (le_s (le_s (le_n (le_n (le_n (le_n le_0))))))))))))))) ?_))))))))
    exact (fillM27T_2_3_c hS hp hpl hi hj hK hg 320).1 _ _ _ _ _ _ M hS (by omega) (by omega) (by omega) (by omega) (by omega) (by omega) hK (by omega) (by omega) (by omega)
  · intro h18
    exfalso; omega

/-! The methods, by program. -/
set_option maxHeartbeats 4000000 in
theorem fillM29T_2_3_c {xs : List Int32} {e : Nat} {ac : Int} {M0 M : nM} {p i j g : Int} (hS : Sf 3 ac M0 M) (hp : ActAt p) (hpl : p < 55 + 3 * ac) (hi : 0 ≤ i ∧ i ≤ 26) (hj : 0 ≤ j ∧ j ≤ 26) (hK : MK 19683 27 26 702 18954 1 3 9 27 81 243 729 2187 6561 M) (hg : M 15 10 = g) : ∀ nn : Nat, (∀ (x5 x6 x7 x8 x9 x10 : Int) (M : nM), Sf 3 ac M0 M → (3 ≤ x5 ∧ x5 ≤ 3) → (0 ≤ x6 ∧ x6 ≤ 24) → (0 ≤ x7 ∧ x7 ≤ 24) → (0 ≤ x8 ∧ x8 ≤ 24) → (0 ≤ x9 ∧ x9 ≤ 27) → (0 ≤ x10 ∧ x10 ≤ 3) → (MK 19683 27 26 702 18954 1 3 9 27 81 243 729 2187 6561 M) → (M 15 10 = g) → (x9 = 9 * x10) → (3 - x10) * 31 + 31 < (nn : Int) → nW xs e 45 86 [some (2, 29), none, some (2, (p + 1)), none, none, some (0, x5), some (0, x6), some (0, x7), some (0, x8), some (0, x9), some (0, x10), none, none, none, none] [] M (nPV fun M1 => Sf 3 ac M0 M1 ∧ (M1 15 10 = g) ∧ MK 19683 27 26 702 18954 1 3 9 27 81 243 729 2187 6561 M1)) ∧ (∀ (x5 x6 x7 x8 x9 x10 x11 x12 : Int) (M : nM), Sf 3 ac M0 M → (3 ≤ x5 ∧ x5 ≤ 3) → (0 ≤ x6 ∧ x6 ≤ 24) → (0 ≤ x7 ∧ x7 ≤ 24) → (0 ≤ x8 ∧ x8 ≤ 24) → (0 ≤ x9 ∧ x9 ≤ 27) → (0 ≤ x10 ∧ x10 ≤ 2) → (0 ≤ x11 ∧ x11 ≤ 1458) → (0 ≤ x12 ∧ x12 ≤ 3) → (MK 19683 27 26 702 18954 1 3 9 27 81 243 729 2187 6561 M) → (M 15 10 = g) → (x9 = 9 * x10 + 3 * x12) → (3 - x10) * 31 + (3 - x12) * 6 + 6 < (nn : Int) → nW xs e 45 110 [some (2, 29), none, some (2, (p + 1)), none, none, some (0, x5), some (0, x6), some (0, x7), some (0, x8), some (0, x9), some (0, x10), some (0, x11), some (0, x12), none, none] [] M (nPV fun M1 => Sf 3 ac M0 M1 ∧ (M1 15 10 = g) ∧ MK 19683 27 26 702 18954 1 3 9 27 81 243 729 2187 6561 M1)) ∧ (∀ (x5 x6 x7 x8 x9 x10 x11 x12 x13 x14 : Int) (M : nM), Sf 3 ac M0 M → (3 ≤ x5 ∧ x5 ≤ 3) → (0 ≤ x6 ∧ x6 ≤ 24) → (0 ≤ x7 ∧ x7 ≤ 24) → (0 ≤ x8 ∧ x8 ≤ 24) → (0 ≤ x9 ∧ x9 ≤ 27) → (0 ≤ x10 ∧ x10 ≤ 2) → (0 ≤ x11 ∧ x11 ≤ 1458) → (0 ≤ x12 ∧ x12 ≤ 2) → (0 ≤ x13 ∧ x13 ≤ 5832) → (0 ≤ x14 ∧ x14 ≤ 3) → (MK 19683 27 26 702 18954 1 3 9 27 81 243 729 2187 6561 M) → (M 15 10 = g) → (x9 = 9 * x10 + 3 * x12 + x14) → (3 - x10) * 31 + (3 - x12) * 6 + (3 - x14) * 1 + 1 < (nn : Int) → nW xs e 45 137 [some (2, 29), none, some (2, (p + 1)), none, none, some (0, x5), some (0, x6), some (0, x7), some (0, x8), some (0, x9), some (0, x10), some (0, x11), some (0, x12), some (0, x13), some (0, x14)] [] M (nPV fun M1 => Sf 3 ac M0 M1 ∧ (M1 15 10 = g) ∧ MK 19683 27 26 702 18954 1 3 9 27 81 243 729 2187 6561 M1)) := by
  have hd : (3 : Int) = 2 ∨ (3 : Int) = 3 := by decide
  have hac := hS.2.2.2.2
  intro nn
  induction nn with
  | zero => refine ⟨?_, ?_, ?_⟩ <;> (intros; omega)
  | succ nn ih =>
    refine ⟨?_, ?_, ?_⟩
    · intro x5 x6 x7 x8 x9 x10 M hS k5 k6 k7 k8 k9 k10 hK hgg v0 hnn
      refine n_iload c_45_86 rfl (n_iload c_45_88 rfl ?_)
      refine n_if2_ge c_45_90 (by omega) (by omega) ?_ ?_
      · intro h1
        exact n_rV c_45_187 rfl ⟨hS, by omega, hK⟩
      · intro h2
        refine n_aload_n c_45_93 rfl (n_iload c_45_94 rfl (n_iload c_45_96 rfl (n_iadd c_45_98 rfl (n_ialoadV c_45_99 hp.c0.2.1.n rfl rfl rfl (by omega) (t_actrl hS hp hpl (Or.inl rfl) (by omega) (by omega)) ?_))))
        intro z3 ez3 f4
        refine n_aload_n c_45_100 rfl (n_getV (bi := 1) c_45_101 sc_29.n rfl rfl rfl hK.w29.1 ?_)
        intro z5 ez5 f6
        obtain rfl : z5 = 729 := by omega
        refine n_imul c_45_104 rfl (n_istore (L2 := [some (2, 29), none, some (2, (p + 1)), none, none, some (0, x5), some (0, x6), some (0, x7), some (0, x8), some (0, x9), some (0, x10), some (0, (z3 * 729)), none, none, none]) c_45_105 rfl rfl (n_iconst c_45_107 (n_istore (L2 := [some (2, 29), none, some (2, (p + 1)), none, none, some (0, x5), some (0, x6), some (0, x7), some (0, x8), some (0, x9), some (0, x10), some (0, (z3 * 729)), some (0, 0), none, none]) c_45_108 rfl rfl (n_fg (le_s (le_n (le_s (le_n (le_n (le_s (le_s (le_s (le_s (le_s (le_s (le_s (le_s (le_n (le_n le_0))))))))))))))) ?_))))
        exact ih.2.1 _ _ _ _ _ _ _ _ M hS (by omega) (by omega) (by omega) (by omega) (by omega) (by omega) (by omega) (by omega) hK (by omega) (by omega) (by omega)
    · intro x5 x6 x7 x8 x9 x10 x11 x12 M hS k5 k6 k7 k8 k9 k10 k11 k12 hK hgg v0 hnn
      refine n_iload c_45_110 rfl (n_iload c_45_112 rfl ?_)
      refine n_if2_ge c_45_114 (by omega) (by omega) ?_ ?_
      · intro h1
        refine n_iinc (L2 := [some (2, 29), none, some (2, (p + 1)), none, none, some (0, x5), some (0, x6), some (0, x7), some (0, x8), some (0, x9), some (0, (x10 + 1)), some (0, x11), some (0, x12), none, none]) c_45_181 rfl rfl rfl (n_goto c_45_184 (n_fg (le_s (le_n (le_s (le_n (le_n (le_s (le_s (le_s (le_s (le_s (le_s (le_n (le_n (le_n (le_n le_0))))))))))))))) ?_))
        exact ih.1 _ _ _ _ _ _ M hS (by omega) (by omega) (by omega) (by omega) (by omega) (by omega) hK (by omega) (by omega) (by omega)
      · intro h2
        refine n_iload c_45_117 rfl (n_aload_n c_45_119 rfl (n_iload c_45_120 rfl (n_iload c_45_122 rfl (n_iadd c_45_124 rfl (n_ialoadV c_45_125 hp.c0.2.1.n rfl rfl rfl (by omega) (t_actrl hS hp hpl (Or.inl rfl) (by omega) (by omega)) ?_)))))
        intro z3 ez3 f4
        refine n_aload_n c_45_126 rfl (n_getV (bi := 2) c_45_127 sc_29.n rfl rfl rfl hK.w29.2.1 ?_)
        intro z5 ez5 f6
        obtain rfl : z5 = 2187 := by omega
        refine n_imul c_45_130 rfl (n_iadd c_45_131 rfl (n_istore (L2 := [some (2, 29), none, some (2, (p + 1)), none, none, some (0, x5), some (0, x6), some (0, x7), some (0, x8), some (0, x9), some (0, x10), some (0, x11), some (0, x12), some (0, (x11 + (z3 * 2187))), none]) c_45_132 rfl rfl (n_iconst c_45_134 (n_istore (L2 := [some (2, 29), none, some (2, (p + 1)), none, none, some (0, x5), some (0, x6), some (0, x7), some (0, x8), some (0, x9), some (0, x10), some (0, x11), some (0, x12), some (0, (x11 + (z3 * 2187))), some (0, 0)]) c_45_135 rfl rfl (n_fg (le_s (le_n (le_s (le_n (le_n (le_s (le_s (le_s (le_s (le_s (le_s (le_s (le_s (le_s (le_s le_0))))))))))))))) ?_)))))
        exact ih.2.2 _ _ _ _ _ _ _ _ _ _ M hS (by omega) (by omega) (by omega) (by omega) (by omega) (by omega) (by omega) (by omega) (by omega) (by omega) hK (by omega) (by omega) (by omega)
    · intro x5 x6 x7 x8 x9 x10 x11 x12 x13 x14 M hS k5 k6 k7 k8 k9 k10 k11 k12 k13 k14 hK hgg v0 hnn
      refine n_iload c_45_137 rfl (n_iload c_45_139 rfl ?_)
      refine n_if2_ge c_45_141 (by omega) (by omega) ?_ ?_
      · intro h1
        refine n_iinc (L2 := [some (2, 29), none, some (2, (p + 1)), none, none, some (0, x5), some (0, x6), some (0, x7), some (0, x8), some (0, x9), some (0, x10), some (0, x11), some (0, (x12 + 1)), some (0, x13), some (0, x14)]) c_45_175 rfl rfl rfl (n_goto c_45_178 (n_fg (le_s (le_n (le_s (le_n (le_n (le_s (le_s (le_s (le_s (le_s (le_s (le_s (le_s (le_n (le_n le_0))))))))))))))) ?_))
        exact ih.2.1 _ _ _ _ _ _ _ _ M hS (by omega) (by omega) (by omega) (by omega) (by omega) (by omega) (by omega) (by omega) hK (by omega) (by omega) (by omega)
      · intro h2
        refine n_aload_n c_45_144 rfl (n_getR c_45_145 sc_29.n rfl rfl rfl r_29_0 (n_iload c_45_148 rfl (n_iload c_45_150 rfl (n_aload_n c_45_152 rfl (n_iload c_45_153 rfl (n_iload c_45_155 rfl (n_iadd c_45_157 rfl (n_ialoadV c_45_158 hp.c0.2.1.n rfl rfl rfl (by omega) (t_actrl hS hp hpl (Or.inl rfl) (by omega) (by omega)) ?_))))))))
        intro z3 ez3 f4
        refine n_aload_n c_45_159 rfl (n_getV (bi := 3) c_45_160 sc_29.n rfl rfl rfl hK.w29.2.2 ?_)
        intro z5 ez5 f6
        obtain rfl : z5 = 6561 := by omega
        refine n_imul c_45_163 rfl (n_iadd c_45_164 rfl (n_iastoreV hS c_45_165 sc_30.n rfl (by omega) (w_30 (by omega) (by omega)) ?_))
        intro M7 eM7 hS7
        have hK7 := hK.u (by unfold Kok; omega) eM7
        have g7_0 : M7 15 10 = M 15 10 := by rw [eM7]; exact nu_a (by omega)
        refine n_iinc (L2 := [some (2, 29), none, some (2, (p + 1)), none, none, some (0, x5), some (0, x6), some (0, x7), some (0, x8), some (0, (x9 + 1)), some (0, x10), some (0, x11), some (0, x12), some (0, x13), some (0, x14)]) c_45_166 rfl rfl rfl (n_iinc (L2 := [some (2, 29), none, some (2, (p + 1)), none, none, some (0, x5), some (0, x6), some (0, x7), some (0, x8), some (0, (x9 + 1)), some (0, x10), some (0, x11), some (0, x12), some (0, x13), some (0, (x14 + 1))]) c_45_169 rfl rfl rfl (n_goto c_45_172 (n_fg (le_s (le_n (le_s (le_n (le_n (le_s (le_s (le_s (le_s (le_s (le_s (le_s (le_s (le_s (le_s le_0))))))))))))))) ?_)))
        exact ih.2.2 _ _ _ _ _ _ _ _ _ _ M7 hS7 (by omega) (by omega) (by omega) (by omega) (by omega) (by omega) (by omega) (by omega) (by omega) (by omega) hK7 (by omega) (by omega) (by omega)
set_option maxHeartbeats 4000000 in
theorem fillM29T_2_3 {xs : List Int32} {e : Nat} {ac : Int} {M0 M : nM} {p i j g : Int} (hS : Sf 3 ac M0 M) (hp : ActAt p) (hpl : p < 55 + 3 * ac) (hi : 0 ≤ i ∧ i ≤ 26) (hj : 0 ≤ j ∧ j ≤ 26) (hK : MK 19683 27 26 702 18954 1 3 9 27 81 243 729 2187 6561 M) (hg : M 15 10 = g) : nW xs e 45 0 [some (2, 29), some (2, 4), some (2, (p + 1)), some (0, i), some (0, j), none, none, none, none, none, none, none, none, none, none] [] M (nPV fun M1 => Sf 3 ac M0 M1 ∧ (M1 15 10 = g) ∧ MK 19683 27 26 702 18954 1 3 9 27 81 243 729 2187 6561 M1) := by
  have hd : (3 : Int) = 2 ∨ (3 : Int) = 3 := by decide
  have hac := hS.2.2.2.2
  refine n_aload_n c_45_0 rfl (n_getV (bi := 1) c_45_1 sc_29.n rfl rfl rfl hK.w29.1 ?_)
  intro z1 ez1 f2
  obtain rfl : z1 = 729 := by omega
  refine n_if0_ne c_45_4 (by omega) ?_ ?_
  · intro h3
    refine n_aload_n c_45_8 rfl (n_getV (bi := 0) c_45_9 sc_4.n rfl rfl rfl (t_4_0 hS) ?_)
    intro z4 ez4 f5
    obtain rfl : z4 = 3 := by omega
    refine n_istore (L2 := [some (2, 29), some (2, 4), some (2, (p + 1)), some (0, i), some (0, j), some (0, 3), none, none, none, none, none, none, none, none, none]) c_45_12 rfl rfl (n_aload_n c_45_14 rfl (n_getR c_45_15 sc_4.n rfl rfl rfl r_4_2 (n_iload_n c_45_18 rfl (n_ialoadV c_45_19 sc_5.n rfl rfl rfl (by omega) (t_5d hS hd (by omega) (by omega)) ?_))))
    intro z6 ez6 f7
    refine n_iload c_45_20 rfl (n_imul c_45_22 rfl (n_aload_n c_45_23 rfl (n_getR c_45_24 sc_4.n rfl rfl rfl r_4_2 (n_iload c_45_27 rfl (n_ialoadV c_45_29 sc_5.n rfl rfl rfl (by omega) (t_5d hS hd (by omega) (by omega)) ?_)))))
    intro z8 ez8 f9
    refine n_iadd c_45_30 rfl (n_iload c_45_31 rfl (n_imul c_45_33 rfl (n_istore (L2 := [some (2, 29), some (2, 4), some (2, (p + 1)), some (0, i), some (0, j), some (0, 3), some (0, (((z6 * 3) + z8) * 3)), none, none, none, none, none, none, none, none]) c_45_34 rfl rfl (n_aload_n c_45_36 rfl (n_getR c_45_37 sc_4.n rfl rfl rfl r_4_3 (n_iload_n c_45_40 rfl (n_ialoadV c_45_41 sc_6.n rfl rfl rfl (by omega) (t_6d hS hd (by omega) (by omega)) ?_)))))))
    intro z10 ez10 f11
    refine n_iload c_45_42 rfl (n_imul c_45_44 rfl (n_aload_n c_45_45 rfl (n_getR c_45_46 sc_4.n rfl rfl rfl r_4_3 (n_iload c_45_49 rfl (n_ialoadV c_45_51 sc_6.n rfl rfl rfl (by omega) (t_6d hS hd (by omega) (by omega)) ?_)))))
    intro z12 ez12 f13
    refine n_iadd c_45_52 rfl (n_iload c_45_53 rfl (n_imul c_45_55 rfl (n_istore (L2 := [some (2, 29), some (2, 4), some (2, (p + 1)), some (0, i), some (0, j), some (0, 3), some (0, (((z6 * 3) + z8) * 3)), some (0, (((z10 * 3) + z12) * 3)), none, none, none, none, none, none, none]) c_45_56 rfl rfl (n_aload_n c_45_58 rfl (n_getR c_45_59 sc_4.n rfl rfl rfl r_4_4 (n_iload_n c_45_62 rfl (n_ialoadV c_45_63 sc_7.n rfl rfl rfl (by omega) (t_7d hS hd (by omega) (by omega)) ?_)))))))
    intro z14 ez14 f15
    refine n_iload c_45_64 rfl (n_imul c_45_66 rfl (n_aload_n c_45_67 rfl (n_getR c_45_68 sc_4.n rfl rfl rfl r_4_4 (n_iload c_45_71 rfl (n_ialoadV c_45_73 sc_7.n rfl rfl rfl (by omega) (t_7d hS hd (by omega) (by omega)) ?_)))))
    intro z16 ez16 f17
    refine n_iadd c_45_74 rfl (n_iload c_45_75 rfl (n_imul c_45_77 rfl (n_istore (L2 := [some (2, 29), some (2, 4), some (2, (p + 1)), some (0, i), some (0, j), some (0, 3), some (0, (((z6 * 3) + z8) * 3)), some (0, (((z10 * 3) + z12) * 3)), some (0, (((z14 * 3) + z16) * 3)), none, none, none, none, none, none]) c_45_78 rfl rfl (n_iconst c_45_80 (n_istore (L2 := [some (2, 29), some (2, 4), some (2, (p + 1)), some (0, i), some (0, j), some (0, 3), some (0, (((z6 * 3) + z8) * 3)), some (0, (((z10 * 3) + z12) * 3)), some (0, (((z14 * 3) + z16) * 3)), some (0, 0), none, none, none, none, none]) c_45_81 rfl rfl (n_iconst c_45_83 (n_istore (L2 := [some (2, 29), some (2, 4), some (2, (p + 1)), some (0, i), some (0, j), some (0, 3), some (0, (((z6 * 3) + z8) * 3)), some (0, (((z10 * 3) + z12) * 3)), some (0, (((z14 * 3) + z16) * 3)), some (0, 0), some (0, 0), none, none, none, none]) c_45_84 rfl rfl (n_fg (le_s (le_n (le_s (le_n (le_n (le_s (le_s (le_s (le_s (le_s (le_s (le_n (le_n (le_n (le_n le_0))))))))))))))) ?_))))))))
    exact (fillM29T_2_3_c hS hp hpl hi hj hK hg 320).1 _ _ _ _ _ _ M hS (by omega) (by omega) (by omega) (by omega) (by omega) (by omega) hK (by omega) (by omega) (by omega)
  · intro h18
    exfalso; omega

set_option maxHeartbeats 4000000 in
theorem fillM25U_2_3_c {xs : List Int32} {e : Nat} {ac : Int} {M0 M : nM} {p i j g : Int} (hS : Sf 3 ac M0 M) (hp : ActAt p) (hpl : p < 55 + 3 * ac) (hi : 0 ≤ i ∧ i ≤ 26) (hj : 0 ≤ j ∧ j ≤ 26) (hK : MK 19683 27 26 702 18954 1 3 9 27 81 243 729 2187 6561 M) (hg : M 15 10 = g) : ∀ nn : Nat, (∀ (x5 x6 x7 x8 x9 x10 : Int) (M : nM), Sf 3 ac M0 M → (3 ≤ x5 ∧ x5 ≤ 3) → (0 ≤ x6 ∧ x6 ≤ 24) → (0 ≤ x7 ∧ x7 ≤ 24) → (0 ≤ x8 ∧ x8 ≤ 24) → (0 ≤ x9 ∧ x9 ≤ 27) → (0 ≤ x10 ∧ x10 ≤ 3) → (MK 19683 27 26 702 18954 1 3 9 27 81 243 729 2187 6561 M) → (M 15 10 = g) → (x9 = 9 * x10) → (3 - x10) * 31 + 31 < (nn : Int) → nW xs e 45 86 [some (2, 25), none, some (2, (p + 2)), none, none, some (0, x5), some (0, x6), some (0, x7), some (0, x8), some (0, x9), some (0, x10), none, none, none, none] [] M (nPV fun M1 => Sf 3 ac M0 M1 ∧ (M1 15 10 = g) ∧ MK 19683 27 26 702 18954 1 3 9 27 81 243 729 2187 6561 M1)) ∧ (∀ (x5 x6 x7 x8 x9 x10 x11 x12 : Int) (M : nM), Sf 3 ac M0 M → (3 ≤ x5 ∧ x5 ≤ 3) → (0 ≤ x6 ∧ x6 ≤ 24) → (0 ≤ x7 ∧ x7 ≤ 24) → (0 ≤ x8 ∧ x8 ≤ 24) → (0 ≤ x9 ∧ x9 ≤ 27) → (0 ≤ x10 ∧ x10 ≤ 2) → (0 ≤ x11 ∧ x11 ≤ 2) → (0 ≤ x12 ∧ x12 ≤ 3) → (MK 19683 27 26 702 18954 1 3 9 27 81 243 729 2187 6561 M) → (M 15 10 = g) → (x9 = 9 * x10 + 3 * x12) → (3 - x10) * 31 + (3 - x12) * 6 + 6 < (nn : Int) → nW xs e 45 110 [some (2, 25), none, some (2, (p + 2)), none, none, some (0, x5), some (0, x6), some (0, x7), some (0, x8), some (0, x9), some (0, x10), some (0, x11), some (0, x12), none, none] [] M (nPV fun M1 => Sf 3 ac M0 M1 ∧ (M1 15 10 = g) ∧ MK 19683 27 26 702 18954 1 3 9 27 81 243 729 2187 6561 M1)) ∧ (∀ (x5 x6 x7 x8 x9 x10 x11 x12 x13 x14 : Int) (M : nM), Sf 3 ac M0 M → (3 ≤ x5 ∧ x5 ≤ 3) → (0 ≤ x6 ∧ x6 ≤ 24) → (0 ≤ x7 ∧ x7 ≤ 24) → (0 ≤ x8 ∧ x8 ≤ 24) → (0 ≤ x9 ∧ x9 ≤ 27) → (0 ≤ x10 ∧ x10 ≤ 2) → (0 ≤ x11 ∧ x11 ≤ 2) → (0 ≤ x12 ∧ x12 ≤ 2) → (0 ≤ x13 ∧ x13 ≤ 8) → (0 ≤ x14 ∧ x14 ≤ 3) → (MK 19683 27 26 702 18954 1 3 9 27 81 243 729 2187 6561 M) → (M 15 10 = g) → (x9 = 9 * x10 + 3 * x12 + x14) → (3 - x10) * 31 + (3 - x12) * 6 + (3 - x14) * 1 + 1 < (nn : Int) → nW xs e 45 137 [some (2, 25), none, some (2, (p + 2)), none, none, some (0, x5), some (0, x6), some (0, x7), some (0, x8), some (0, x9), some (0, x10), some (0, x11), some (0, x12), some (0, x13), some (0, x14)] [] M (nPV fun M1 => Sf 3 ac M0 M1 ∧ (M1 15 10 = g) ∧ MK 19683 27 26 702 18954 1 3 9 27 81 243 729 2187 6561 M1)) := by
  have hd : (3 : Int) = 2 ∨ (3 : Int) = 3 := by decide
  have hac := hS.2.2.2.2
  intro nn
  induction nn with
  | zero => refine ⟨?_, ?_, ?_⟩ <;> (intros; omega)
  | succ nn ih =>
    refine ⟨?_, ?_, ?_⟩
    · intro x5 x6 x7 x8 x9 x10 M hS k5 k6 k7 k8 k9 k10 hK hgg v0 hnn
      refine n_iload c_45_86 rfl (n_iload c_45_88 rfl ?_)
      refine n_if2_ge c_45_90 (by omega) (by omega) ?_ ?_
      · intro h1
        exact n_rV c_45_187 rfl ⟨hS, by omega, hK⟩
      · intro h2
        refine n_aload_n c_45_93 rfl (n_iload c_45_94 rfl (n_iload c_45_96 rfl (n_iadd c_45_98 rfl (n_ialoadV c_45_99 hp.c0.2.2.n rfl rfl rfl (by omega) (t_actrl hS hp hpl (Or.inr rfl) (by omega) (by omega)) ?_))))
        intro z3 ez3 f4
        refine n_aload_n c_45_100 rfl (n_getV (bi := 1) c_45_101 sc_25.n rfl rfl rfl hK.w25.1 ?_)
        intro z5 ez5 f6
        obtain rfl : z5 = 1 := by omega
        refine n_imul c_45_104 rfl (n_istore (L2 := [some (2, 25), none, some (2, (p + 2)), none, none, some (0, x5), some (0, x6), some (0, x7), some (0, x8), some (0, x9), some (0, x10), some (0, (z3 * 1)), none, none, none]) c_45_105 rfl rfl (n_iconst c_45_107 (n_istore (L2 := [some (2, 25), none, some (2, (p + 2)), none, none, some (0, x5), some (0, x6), some (0, x7), some (0, x8), some (0, x9), some (0, x10), some (0, (z3 * 1)), some (0, 0), none, none]) c_45_108 rfl rfl (n_fg (le_s (le_n (le_s (le_n (le_n (le_s (le_s (le_s (le_s (le_s (le_s (le_s (le_s (le_n (le_n le_0))))))))))))))) ?_))))
        exact ih.2.1 _ _ _ _ _ _ _ _ M hS (by omega) (by omega) (by omega) (by omega) (by omega) (by omega) (by omega) (by omega) hK (by omega) (by omega) (by omega)
    · intro x5 x6 x7 x8 x9 x10 x11 x12 M hS k5 k6 k7 k8 k9 k10 k11 k12 hK hgg v0 hnn
      refine n_iload c_45_110 rfl (n_iload c_45_112 rfl ?_)
      refine n_if2_ge c_45_114 (by omega) (by omega) ?_ ?_
      · intro h1
        refine n_iinc (L2 := [some (2, 25), none, some (2, (p + 2)), none, none, some (0, x5), some (0, x6), some (0, x7), some (0, x8), some (0, x9), some (0, (x10 + 1)), some (0, x11), some (0, x12), none, none]) c_45_181 rfl rfl rfl (n_goto c_45_184 (n_fg (le_s (le_n (le_s (le_n (le_n (le_s (le_s (le_s (le_s (le_s (le_s (le_n (le_n (le_n (le_n le_0))))))))))))))) ?_))
        exact ih.1 _ _ _ _ _ _ M hS (by omega) (by omega) (by omega) (by omega) (by omega) (by omega) hK (by omega) (by omega) (by omega)
      · intro h2
        refine n_iload c_45_117 rfl (n_aload_n c_45_119 rfl (n_iload c_45_120 rfl (n_iload c_45_122 rfl (n_iadd c_45_124 rfl (n_ialoadV c_45_125 hp.c0.2.2.n rfl rfl rfl (by omega) (t_actrl hS hp hpl (Or.inr rfl) (by omega) (by omega)) ?_)))))
        intro z3 ez3 f4
        refine n_aload_n c_45_126 rfl (n_getV (bi := 2) c_45_127 sc_25.n rfl rfl rfl hK.w25.2.1 ?_)
        intro z5 ez5 f6
        obtain rfl : z5 = 3 := by omega
        refine n_imul c_45_130 rfl (n_iadd c_45_131 rfl (n_istore (L2 := [some (2, 25), none, some (2, (p + 2)), none, none, some (0, x5), some (0, x6), some (0, x7), some (0, x8), some (0, x9), some (0, x10), some (0, x11), some (0, x12), some (0, (x11 + (z3 * 3))), none]) c_45_132 rfl rfl (n_iconst c_45_134 (n_istore (L2 := [some (2, 25), none, some (2, (p + 2)), none, none, some (0, x5), some (0, x6), some (0, x7), some (0, x8), some (0, x9), some (0, x10), some (0, x11), some (0, x12), some (0, (x11 + (z3 * 3))), some (0, 0)]) c_45_135 rfl rfl (n_fg (le_s (le_n (le_s (le_n (le_n (le_s (le_s (le_s (le_s (le_s (le_s (le_s (le_s (le_s (le_s le_0))))))))))))))) ?_)))))
        exact ih.2.2 _ _ _ _ _ _ _ _ _ _ M hS (by omega) (by omega) (by omega) (by omega) (by omega) (by omega) (by omega) (by omega) (by omega) (by omega) hK (by omega) (by omega) (by omega)
    · intro x5 x6 x7 x8 x9 x10 x11 x12 x13 x14 M hS k5 k6 k7 k8 k9 k10 k11 k12 k13 k14 hK hgg v0 hnn
      refine n_iload c_45_137 rfl (n_iload c_45_139 rfl ?_)
      refine n_if2_ge c_45_141 (by omega) (by omega) ?_ ?_
      · intro h1
        refine n_iinc (L2 := [some (2, 25), none, some (2, (p + 2)), none, none, some (0, x5), some (0, x6), some (0, x7), some (0, x8), some (0, x9), some (0, x10), some (0, x11), some (0, (x12 + 1)), some (0, x13), some (0, x14)]) c_45_175 rfl rfl rfl (n_goto c_45_178 (n_fg (le_s (le_n (le_s (le_n (le_n (le_s (le_s (le_s (le_s (le_s (le_s (le_s (le_s (le_n (le_n le_0))))))))))))))) ?_))
        exact ih.2.1 _ _ _ _ _ _ _ _ M hS (by omega) (by omega) (by omega) (by omega) (by omega) (by omega) (by omega) (by omega) hK (by omega) (by omega) (by omega)
      · intro h2
        refine n_aload_n c_45_144 rfl (n_getR c_45_145 sc_25.n rfl rfl rfl r_25_0 (n_iload c_45_148 rfl (n_iload c_45_150 rfl (n_aload_n c_45_152 rfl (n_iload c_45_153 rfl (n_iload c_45_155 rfl (n_iadd c_45_157 rfl (n_ialoadV c_45_158 hp.c0.2.2.n rfl rfl rfl (by omega) (t_actrl hS hp hpl (Or.inr rfl) (by omega) (by omega)) ?_))))))))
        intro z3 ez3 f4
        refine n_aload_n c_45_159 rfl (n_getV (bi := 3) c_45_160 sc_25.n rfl rfl rfl hK.w25.2.2 ?_)
        intro z5 ez5 f6
        obtain rfl : z5 = 9 := by omega
        refine n_imul c_45_163 rfl (n_iadd c_45_164 rfl (n_iastoreV hS c_45_165 sc_26.n rfl (by omega) (w_26 (by omega) (by omega)) ?_))
        intro M7 eM7 hS7
        have hK7 := hK.u (by unfold Kok; omega) eM7
        have g7_0 : M7 15 10 = M 15 10 := by rw [eM7]; exact nu_a (by omega)
        refine n_iinc (L2 := [some (2, 25), none, some (2, (p + 2)), none, none, some (0, x5), some (0, x6), some (0, x7), some (0, x8), some (0, (x9 + 1)), some (0, x10), some (0, x11), some (0, x12), some (0, x13), some (0, x14)]) c_45_166 rfl rfl rfl (n_iinc (L2 := [some (2, 25), none, some (2, (p + 2)), none, none, some (0, x5), some (0, x6), some (0, x7), some (0, x8), some (0, (x9 + 1)), some (0, x10), some (0, x11), some (0, x12), some (0, x13), some (0, (x14 + 1))]) c_45_169 rfl rfl rfl (n_goto c_45_172 (n_fg (le_s (le_n (le_s (le_n (le_n (le_s (le_s (le_s (le_s (le_s (le_s (le_s (le_s (le_s (le_s le_0))))))))))))))) ?_)))
        exact ih.2.2 _ _ _ _ _ _ _ _ _ _ M7 hS7 (by omega) (by omega) (by omega) (by omega) (by omega) (by omega) (by omega) (by omega) (by omega) (by omega) hK7 (by omega) (by omega) (by omega)
set_option maxHeartbeats 4000000 in
theorem fillM25U_2_3 {xs : List Int32} {e : Nat} {ac : Int} {M0 M : nM} {p i j g : Int} (hS : Sf 3 ac M0 M) (hp : ActAt p) (hpl : p < 55 + 3 * ac) (hi : 0 ≤ i ∧ i ≤ 26) (hj : 0 ≤ j ∧ j ≤ 26) (hK : MK 19683 27 26 702 18954 1 3 9 27 81 243 729 2187 6561 M) (hg : M 15 10 = g) : nW xs e 45 0 [some (2, 25), some (2, 4), some (2, (p + 2)), some (0, i), some (0, j), none, none, none, none, none, none, none, none, none, none] [] M (nPV fun M1 => Sf 3 ac M0 M1 ∧ (M1 15 10 = g) ∧ MK 19683 27 26 702 18954 1 3 9 27 81 243 729 2187 6561 M1) := by
  have hd : (3 : Int) = 2 ∨ (3 : Int) = 3 := by decide
  have hac := hS.2.2.2.2
  refine n_aload_n c_45_0 rfl (n_getV (bi := 1) c_45_1 sc_25.n rfl rfl rfl hK.w25.1 ?_)
  intro z1 ez1 f2
  obtain rfl : z1 = 1 := by omega
  refine n_if0_ne c_45_4 (by omega) ?_ ?_
  · intro h3
    refine n_aload_n c_45_8 rfl (n_getV (bi := 0) c_45_9 sc_4.n rfl rfl rfl (t_4_0 hS) ?_)
    intro z4 ez4 f5
    obtain rfl : z4 = 3 := by omega
    refine n_istore (L2 := [some (2, 25), some (2, 4), some (2, (p + 2)), some (0, i), some (0, j), some (0, 3), none, none, none, none, none, none, none, none, none]) c_45_12 rfl rfl (n_aload_n c_45_14 rfl (n_getR c_45_15 sc_4.n rfl rfl rfl r_4_2 (n_iload_n c_45_18 rfl (n_ialoadV c_45_19 sc_5.n rfl rfl rfl (by omega) (t_5d hS hd (by omega) (by omega)) ?_))))
    intro z6 ez6 f7
    refine n_iload c_45_20 rfl (n_imul c_45_22 rfl (n_aload_n c_45_23 rfl (n_getR c_45_24 sc_4.n rfl rfl rfl r_4_2 (n_iload c_45_27 rfl (n_ialoadV c_45_29 sc_5.n rfl rfl rfl (by omega) (t_5d hS hd (by omega) (by omega)) ?_)))))
    intro z8 ez8 f9
    refine n_iadd c_45_30 rfl (n_iload c_45_31 rfl (n_imul c_45_33 rfl (n_istore (L2 := [some (2, 25), some (2, 4), some (2, (p + 2)), some (0, i), some (0, j), some (0, 3), some (0, (((z6 * 3) + z8) * 3)), none, none, none, none, none, none, none, none]) c_45_34 rfl rfl (n_aload_n c_45_36 rfl (n_getR c_45_37 sc_4.n rfl rfl rfl r_4_3 (n_iload_n c_45_40 rfl (n_ialoadV c_45_41 sc_6.n rfl rfl rfl (by omega) (t_6d hS hd (by omega) (by omega)) ?_)))))))
    intro z10 ez10 f11
    refine n_iload c_45_42 rfl (n_imul c_45_44 rfl (n_aload_n c_45_45 rfl (n_getR c_45_46 sc_4.n rfl rfl rfl r_4_3 (n_iload c_45_49 rfl (n_ialoadV c_45_51 sc_6.n rfl rfl rfl (by omega) (t_6d hS hd (by omega) (by omega)) ?_)))))
    intro z12 ez12 f13
    refine n_iadd c_45_52 rfl (n_iload c_45_53 rfl (n_imul c_45_55 rfl (n_istore (L2 := [some (2, 25), some (2, 4), some (2, (p + 2)), some (0, i), some (0, j), some (0, 3), some (0, (((z6 * 3) + z8) * 3)), some (0, (((z10 * 3) + z12) * 3)), none, none, none, none, none, none, none]) c_45_56 rfl rfl (n_aload_n c_45_58 rfl (n_getR c_45_59 sc_4.n rfl rfl rfl r_4_4 (n_iload_n c_45_62 rfl (n_ialoadV c_45_63 sc_7.n rfl rfl rfl (by omega) (t_7d hS hd (by omega) (by omega)) ?_)))))))
    intro z14 ez14 f15
    refine n_iload c_45_64 rfl (n_imul c_45_66 rfl (n_aload_n c_45_67 rfl (n_getR c_45_68 sc_4.n rfl rfl rfl r_4_4 (n_iload c_45_71 rfl (n_ialoadV c_45_73 sc_7.n rfl rfl rfl (by omega) (t_7d hS hd (by omega) (by omega)) ?_)))))
    intro z16 ez16 f17
    refine n_iadd c_45_74 rfl (n_iload c_45_75 rfl (n_imul c_45_77 rfl (n_istore (L2 := [some (2, 25), some (2, 4), some (2, (p + 2)), some (0, i), some (0, j), some (0, 3), some (0, (((z6 * 3) + z8) * 3)), some (0, (((z10 * 3) + z12) * 3)), some (0, (((z14 * 3) + z16) * 3)), none, none, none, none, none, none]) c_45_78 rfl rfl (n_iconst c_45_80 (n_istore (L2 := [some (2, 25), some (2, 4), some (2, (p + 2)), some (0, i), some (0, j), some (0, 3), some (0, (((z6 * 3) + z8) * 3)), some (0, (((z10 * 3) + z12) * 3)), some (0, (((z14 * 3) + z16) * 3)), some (0, 0), none, none, none, none, none]) c_45_81 rfl rfl (n_iconst c_45_83 (n_istore (L2 := [some (2, 25), some (2, 4), some (2, (p + 2)), some (0, i), some (0, j), some (0, 3), some (0, (((z6 * 3) + z8) * 3)), some (0, (((z10 * 3) + z12) * 3)), some (0, (((z14 * 3) + z16) * 3)), some (0, 0), some (0, 0), none, none, none, none]) c_45_84 rfl rfl (n_fg (le_s (le_n (le_s (le_n (le_n (le_s (le_s (le_s (le_s (le_s (le_s (le_n (le_n (le_n (le_n le_0))))))))))))))) ?_))))))))
    exact (fillM25U_2_3_c hS hp hpl hi hj hK hg 320).1 _ _ _ _ _ _ M hS (by omega) (by omega) (by omega) (by omega) (by omega) (by omega) hK (by omega) (by omega) (by omega)
  · intro h18
    exfalso; omega

set_option maxHeartbeats 4000000 in
theorem fillM27U_2_3_c {xs : List Int32} {e : Nat} {ac : Int} {M0 M : nM} {p i j g : Int} (hS : Sf 3 ac M0 M) (hp : ActAt p) (hpl : p < 55 + 3 * ac) (hi : 0 ≤ i ∧ i ≤ 26) (hj : 0 ≤ j ∧ j ≤ 26) (hK : MK 19683 27 26 702 18954 1 3 9 27 81 243 729 2187 6561 M) (hg : M 15 10 = g) : ∀ nn : Nat, (∀ (x5 x6 x7 x8 x9 x10 : Int) (M : nM), Sf 3 ac M0 M → (3 ≤ x5 ∧ x5 ≤ 3) → (0 ≤ x6 ∧ x6 ≤ 24) → (0 ≤ x7 ∧ x7 ≤ 24) → (0 ≤ x8 ∧ x8 ≤ 24) → (0 ≤ x9 ∧ x9 ≤ 27) → (0 ≤ x10 ∧ x10 ≤ 3) → (MK 19683 27 26 702 18954 1 3 9 27 81 243 729 2187 6561 M) → (M 15 10 = g) → (x9 = 9 * x10) → (3 - x10) * 31 + 31 < (nn : Int) → nW xs e 45 86 [some (2, 27), none, some (2, (p + 2)), none, none, some (0, x5), some (0, x6), some (0, x7), some (0, x8), some (0, x9), some (0, x10), none, none, none, none] [] M (nPV fun M1 => Sf 3 ac M0 M1 ∧ (M1 15 10 = g) ∧ MK 19683 27 26 702 18954 1 3 9 27 81 243 729 2187 6561 M1)) ∧ (∀ (x5 x6 x7 x8 x9 x10 x11 x12 : Int) (M : nM), Sf 3 ac M0 M → (3 ≤ x5 ∧ x5 ≤ 3) → (0 ≤ x6 ∧ x6 ≤ 24) → (0 ≤ x7 ∧ x7 ≤ 24) → (0 ≤ x8 ∧ x8 ≤ 24) → (0 ≤ x9 ∧ x9 ≤ 27) → (0 ≤ x10 ∧ x10 ≤ 2) → (0 ≤ x11 ∧ x11 ≤ 54) → (0 ≤ x12 ∧ x12 ≤ 3) → (MK 19683 27 26 702 18954 1 3 9 27 81 243 729 2187 6561 M) → (M 15 10 = g) → (x9 = 9 * x10 + 3 * x12) → (3 - x10) * 31 + (3 - x12) * 6 + 6 < (nn : Int) → nW xs e 45 110 [some (2, 27), none, some (2, (p + 2)), none, none, some (0, x5), some (0, x6), some (0, x7), some (0, x8), some (0, x9), some (0, x10), some (0, x11), some (0, x12), none, none] [] M (nPV fun M1 => Sf 3 ac M0 M1 ∧ (M1 15 10 = g) ∧ MK 19683 27 26 702 18954 1 3 9 27 81 243 729 2187 6561 M1)) ∧ (∀ (x5 x6 x7 x8 x9 x10 x11 x12 x13 x14 : Int) (M : nM), Sf 3 ac M0 M → (3 ≤ x5 ∧ x5 ≤ 3) → (0 ≤ x6 ∧ x6 ≤ 24) → (0 ≤ x7 ∧ x7 ≤ 24) → (0 ≤ x8 ∧ x8 ≤ 24) → (0 ≤ x9 ∧ x9 ≤ 27) → (0 ≤ x10 ∧ x10 ≤ 2) → (0 ≤ x11 ∧ x11 ≤ 54) → (0 ≤ x12 ∧ x12 ≤ 2) → (0 ≤ x13 ∧ x13 ≤ 216) → (0 ≤ x14 ∧ x14 ≤ 3) → (MK 19683 27 26 702 18954 1 3 9 27 81 243 729 2187 6561 M) → (M 15 10 = g) → (x9 = 9 * x10 + 3 * x12 + x14) → (3 - x10) * 31 + (3 - x12) * 6 + (3 - x14) * 1 + 1 < (nn : Int) → nW xs e 45 137 [some (2, 27), none, some (2, (p + 2)), none, none, some (0, x5), some (0, x6), some (0, x7), some (0, x8), some (0, x9), some (0, x10), some (0, x11), some (0, x12), some (0, x13), some (0, x14)] [] M (nPV fun M1 => Sf 3 ac M0 M1 ∧ (M1 15 10 = g) ∧ MK 19683 27 26 702 18954 1 3 9 27 81 243 729 2187 6561 M1)) := by
  have hd : (3 : Int) = 2 ∨ (3 : Int) = 3 := by decide
  have hac := hS.2.2.2.2
  intro nn
  induction nn with
  | zero => refine ⟨?_, ?_, ?_⟩ <;> (intros; omega)
  | succ nn ih =>
    refine ⟨?_, ?_, ?_⟩
    · intro x5 x6 x7 x8 x9 x10 M hS k5 k6 k7 k8 k9 k10 hK hgg v0 hnn
      refine n_iload c_45_86 rfl (n_iload c_45_88 rfl ?_)
      refine n_if2_ge c_45_90 (by omega) (by omega) ?_ ?_
      · intro h1
        exact n_rV c_45_187 rfl ⟨hS, by omega, hK⟩
      · intro h2
        refine n_aload_n c_45_93 rfl (n_iload c_45_94 rfl (n_iload c_45_96 rfl (n_iadd c_45_98 rfl (n_ialoadV c_45_99 hp.c0.2.2.n rfl rfl rfl (by omega) (t_actrl hS hp hpl (Or.inr rfl) (by omega) (by omega)) ?_))))
        intro z3 ez3 f4
        refine n_aload_n c_45_100 rfl (n_getV (bi := 1) c_45_101 sc_27.n rfl rfl rfl hK.w27.1 ?_)
        intro z5 ez5 f6
        obtain rfl : z5 = 27 := by omega
        refine n_imul c_45_104 rfl (n_istore (L2 := [some (2, 27), none, some (2, (p + 2)), none, none, some (0, x5), some (0, x6), some (0, x7), some (0, x8), some (0, x9), some (0, x10), some (0, (z3 * 27)), none, none, none]) c_45_105 rfl rfl (n_iconst c_45_107 (n_istore (L2 := [some (2, 27), none, some (2, (p + 2)), none, none, some (0, x5), some (0, x6), some (0, x7), some (0, x8), some (0, x9), some (0, x10), some (0, (z3 * 27)), some (0, 0), none, none]) c_45_108 rfl rfl (n_fg (le_s (le_n (le_s (le_n (le_n (le_s (le_s (le_s (le_s (le_s (le_s (le_s (le_s (le_n (le_n le_0))))))))))))))) ?_))))
        exact ih.2.1 _ _ _ _ _ _ _ _ M hS (by omega) (by omega) (by omega) (by omega) (by omega) (by omega) (by omega) (by omega) hK (by omega) (by omega) (by omega)
    · intro x5 x6 x7 x8 x9 x10 x11 x12 M hS k5 k6 k7 k8 k9 k10 k11 k12 hK hgg v0 hnn
      refine n_iload c_45_110 rfl (n_iload c_45_112 rfl ?_)
      refine n_if2_ge c_45_114 (by omega) (by omega) ?_ ?_
      · intro h1
        refine n_iinc (L2 := [some (2, 27), none, some (2, (p + 2)), none, none, some (0, x5), some (0, x6), some (0, x7), some (0, x8), some (0, x9), some (0, (x10 + 1)), some (0, x11), some (0, x12), none, none]) c_45_181 rfl rfl rfl (n_goto c_45_184 (n_fg (le_s (le_n (le_s (le_n (le_n (le_s (le_s (le_s (le_s (le_s (le_s (le_n (le_n (le_n (le_n le_0))))))))))))))) ?_))
        exact ih.1 _ _ _ _ _ _ M hS (by omega) (by omega) (by omega) (by omega) (by omega) (by omega) hK (by omega) (by omega) (by omega)
      · intro h2
        refine n_iload c_45_117 rfl (n_aload_n c_45_119 rfl (n_iload c_45_120 rfl (n_iload c_45_122 rfl (n_iadd c_45_124 rfl (n_ialoadV c_45_125 hp.c0.2.2.n rfl rfl rfl (by omega) (t_actrl hS hp hpl (Or.inr rfl) (by omega) (by omega)) ?_)))))
        intro z3 ez3 f4
        refine n_aload_n c_45_126 rfl (n_getV (bi := 2) c_45_127 sc_27.n rfl rfl rfl hK.w27.2.1 ?_)
        intro z5 ez5 f6
        obtain rfl : z5 = 81 := by omega
        refine n_imul c_45_130 rfl (n_iadd c_45_131 rfl (n_istore (L2 := [some (2, 27), none, some (2, (p + 2)), none, none, some (0, x5), some (0, x6), some (0, x7), some (0, x8), some (0, x9), some (0, x10), some (0, x11), some (0, x12), some (0, (x11 + (z3 * 81))), none]) c_45_132 rfl rfl (n_iconst c_45_134 (n_istore (L2 := [some (2, 27), none, some (2, (p + 2)), none, none, some (0, x5), some (0, x6), some (0, x7), some (0, x8), some (0, x9), some (0, x10), some (0, x11), some (0, x12), some (0, (x11 + (z3 * 81))), some (0, 0)]) c_45_135 rfl rfl (n_fg (le_s (le_n (le_s (le_n (le_n (le_s (le_s (le_s (le_s (le_s (le_s (le_s (le_s (le_s (le_s le_0))))))))))))))) ?_)))))
        exact ih.2.2 _ _ _ _ _ _ _ _ _ _ M hS (by omega) (by omega) (by omega) (by omega) (by omega) (by omega) (by omega) (by omega) (by omega) (by omega) hK (by omega) (by omega) (by omega)
    · intro x5 x6 x7 x8 x9 x10 x11 x12 x13 x14 M hS k5 k6 k7 k8 k9 k10 k11 k12 k13 k14 hK hgg v0 hnn
      refine n_iload c_45_137 rfl (n_iload c_45_139 rfl ?_)
      refine n_if2_ge c_45_141 (by omega) (by omega) ?_ ?_
      · intro h1
        refine n_iinc (L2 := [some (2, 27), none, some (2, (p + 2)), none, none, some (0, x5), some (0, x6), some (0, x7), some (0, x8), some (0, x9), some (0, x10), some (0, x11), some (0, (x12 + 1)), some (0, x13), some (0, x14)]) c_45_175 rfl rfl rfl (n_goto c_45_178 (n_fg (le_s (le_n (le_s (le_n (le_n (le_s (le_s (le_s (le_s (le_s (le_s (le_s (le_s (le_n (le_n le_0))))))))))))))) ?_))
        exact ih.2.1 _ _ _ _ _ _ _ _ M hS (by omega) (by omega) (by omega) (by omega) (by omega) (by omega) (by omega) (by omega) hK (by omega) (by omega) (by omega)
      · intro h2
        refine n_aload_n c_45_144 rfl (n_getR c_45_145 sc_27.n rfl rfl rfl r_27_0 (n_iload c_45_148 rfl (n_iload c_45_150 rfl (n_aload_n c_45_152 rfl (n_iload c_45_153 rfl (n_iload c_45_155 rfl (n_iadd c_45_157 rfl (n_ialoadV c_45_158 hp.c0.2.2.n rfl rfl rfl (by omega) (t_actrl hS hp hpl (Or.inr rfl) (by omega) (by omega)) ?_))))))))
        intro z3 ez3 f4
        refine n_aload_n c_45_159 rfl (n_getV (bi := 3) c_45_160 sc_27.n rfl rfl rfl hK.w27.2.2 ?_)
        intro z5 ez5 f6
        obtain rfl : z5 = 243 := by omega
        refine n_imul c_45_163 rfl (n_iadd c_45_164 rfl (n_iastoreV hS c_45_165 sc_28.n rfl (by omega) (w_28 (by omega) (by omega)) ?_))
        intro M7 eM7 hS7
        have hK7 := hK.u (by unfold Kok; omega) eM7
        have g7_0 : M7 15 10 = M 15 10 := by rw [eM7]; exact nu_a (by omega)
        refine n_iinc (L2 := [some (2, 27), none, some (2, (p + 2)), none, none, some (0, x5), some (0, x6), some (0, x7), some (0, x8), some (0, (x9 + 1)), some (0, x10), some (0, x11), some (0, x12), some (0, x13), some (0, x14)]) c_45_166 rfl rfl rfl (n_iinc (L2 := [some (2, 27), none, some (2, (p + 2)), none, none, some (0, x5), some (0, x6), some (0, x7), some (0, x8), some (0, (x9 + 1)), some (0, x10), some (0, x11), some (0, x12), some (0, x13), some (0, (x14 + 1))]) c_45_169 rfl rfl rfl (n_goto c_45_172 (n_fg (le_s (le_n (le_s (le_n (le_n (le_s (le_s (le_s (le_s (le_s (le_s (le_s (le_s (le_s (le_s le_0))))))))))))))) ?_)))
        exact ih.2.2 _ _ _ _ _ _ _ _ _ _ M7 hS7 (by omega) (by omega) (by omega) (by omega) (by omega) (by omega) (by omega) (by omega) (by omega) (by omega) hK7 (by omega) (by omega) (by omega)
set_option maxHeartbeats 4000000 in
theorem fillM27U_2_3 {xs : List Int32} {e : Nat} {ac : Int} {M0 M : nM} {p i j g : Int} (hS : Sf 3 ac M0 M) (hp : ActAt p) (hpl : p < 55 + 3 * ac) (hi : 0 ≤ i ∧ i ≤ 26) (hj : 0 ≤ j ∧ j ≤ 26) (hK : MK 19683 27 26 702 18954 1 3 9 27 81 243 729 2187 6561 M) (hg : M 15 10 = g) : nW xs e 45 0 [some (2, 27), some (2, 4), some (2, (p + 2)), some (0, i), some (0, j), none, none, none, none, none, none, none, none, none, none] [] M (nPV fun M1 => Sf 3 ac M0 M1 ∧ (M1 15 10 = g) ∧ MK 19683 27 26 702 18954 1 3 9 27 81 243 729 2187 6561 M1) := by
  have hd : (3 : Int) = 2 ∨ (3 : Int) = 3 := by decide
  have hac := hS.2.2.2.2
  refine n_aload_n c_45_0 rfl (n_getV (bi := 1) c_45_1 sc_27.n rfl rfl rfl hK.w27.1 ?_)
  intro z1 ez1 f2
  obtain rfl : z1 = 27 := by omega
  refine n_if0_ne c_45_4 (by omega) ?_ ?_
  · intro h3
    refine n_aload_n c_45_8 rfl (n_getV (bi := 0) c_45_9 sc_4.n rfl rfl rfl (t_4_0 hS) ?_)
    intro z4 ez4 f5
    obtain rfl : z4 = 3 := by omega
    refine n_istore (L2 := [some (2, 27), some (2, 4), some (2, (p + 2)), some (0, i), some (0, j), some (0, 3), none, none, none, none, none, none, none, none, none]) c_45_12 rfl rfl (n_aload_n c_45_14 rfl (n_getR c_45_15 sc_4.n rfl rfl rfl r_4_2 (n_iload_n c_45_18 rfl (n_ialoadV c_45_19 sc_5.n rfl rfl rfl (by omega) (t_5d hS hd (by omega) (by omega)) ?_))))
    intro z6 ez6 f7
    refine n_iload c_45_20 rfl (n_imul c_45_22 rfl (n_aload_n c_45_23 rfl (n_getR c_45_24 sc_4.n rfl rfl rfl r_4_2 (n_iload c_45_27 rfl (n_ialoadV c_45_29 sc_5.n rfl rfl rfl (by omega) (t_5d hS hd (by omega) (by omega)) ?_)))))
    intro z8 ez8 f9
    refine n_iadd c_45_30 rfl (n_iload c_45_31 rfl (n_imul c_45_33 rfl (n_istore (L2 := [some (2, 27), some (2, 4), some (2, (p + 2)), some (0, i), some (0, j), some (0, 3), some (0, (((z6 * 3) + z8) * 3)), none, none, none, none, none, none, none, none]) c_45_34 rfl rfl (n_aload_n c_45_36 rfl (n_getR c_45_37 sc_4.n rfl rfl rfl r_4_3 (n_iload_n c_45_40 rfl (n_ialoadV c_45_41 sc_6.n rfl rfl rfl (by omega) (t_6d hS hd (by omega) (by omega)) ?_)))))))
    intro z10 ez10 f11
    refine n_iload c_45_42 rfl (n_imul c_45_44 rfl (n_aload_n c_45_45 rfl (n_getR c_45_46 sc_4.n rfl rfl rfl r_4_3 (n_iload c_45_49 rfl (n_ialoadV c_45_51 sc_6.n rfl rfl rfl (by omega) (t_6d hS hd (by omega) (by omega)) ?_)))))
    intro z12 ez12 f13
    refine n_iadd c_45_52 rfl (n_iload c_45_53 rfl (n_imul c_45_55 rfl (n_istore (L2 := [some (2, 27), some (2, 4), some (2, (p + 2)), some (0, i), some (0, j), some (0, 3), some (0, (((z6 * 3) + z8) * 3)), some (0, (((z10 * 3) + z12) * 3)), none, none, none, none, none, none, none]) c_45_56 rfl rfl (n_aload_n c_45_58 rfl (n_getR c_45_59 sc_4.n rfl rfl rfl r_4_4 (n_iload_n c_45_62 rfl (n_ialoadV c_45_63 sc_7.n rfl rfl rfl (by omega) (t_7d hS hd (by omega) (by omega)) ?_)))))))
    intro z14 ez14 f15
    refine n_iload c_45_64 rfl (n_imul c_45_66 rfl (n_aload_n c_45_67 rfl (n_getR c_45_68 sc_4.n rfl rfl rfl r_4_4 (n_iload c_45_71 rfl (n_ialoadV c_45_73 sc_7.n rfl rfl rfl (by omega) (t_7d hS hd (by omega) (by omega)) ?_)))))
    intro z16 ez16 f17
    refine n_iadd c_45_74 rfl (n_iload c_45_75 rfl (n_imul c_45_77 rfl (n_istore (L2 := [some (2, 27), some (2, 4), some (2, (p + 2)), some (0, i), some (0, j), some (0, 3), some (0, (((z6 * 3) + z8) * 3)), some (0, (((z10 * 3) + z12) * 3)), some (0, (((z14 * 3) + z16) * 3)), none, none, none, none, none, none]) c_45_78 rfl rfl (n_iconst c_45_80 (n_istore (L2 := [some (2, 27), some (2, 4), some (2, (p + 2)), some (0, i), some (0, j), some (0, 3), some (0, (((z6 * 3) + z8) * 3)), some (0, (((z10 * 3) + z12) * 3)), some (0, (((z14 * 3) + z16) * 3)), some (0, 0), none, none, none, none, none]) c_45_81 rfl rfl (n_iconst c_45_83 (n_istore (L2 := [some (2, 27), some (2, 4), some (2, (p + 2)), some (0, i), some (0, j), some (0, 3), some (0, (((z6 * 3) + z8) * 3)), some (0, (((z10 * 3) + z12) * 3)), some (0, (((z14 * 3) + z16) * 3)), some (0, 0), some (0, 0), none, none, none, none]) c_45_84 rfl rfl (n_fg (le_s (le_n (le_s (le_n (le_n (le_s (le_s (le_s (le_s (le_s (le_s (le_n (le_n (le_n (le_n le_0))))))))))))))) ?_))))))))
    exact (fillM27U_2_3_c hS hp hpl hi hj hK hg 320).1 _ _ _ _ _ _ M hS (by omega) (by omega) (by omega) (by omega) (by omega) (by omega) hK (by omega) (by omega) (by omega)
  · intro h18
    exfalso; omega

set_option maxHeartbeats 4000000 in
theorem fillM29U_2_3_c {xs : List Int32} {e : Nat} {ac : Int} {M0 M : nM} {p i j g : Int} (hS : Sf 3 ac M0 M) (hp : ActAt p) (hpl : p < 55 + 3 * ac) (hi : 0 ≤ i ∧ i ≤ 26) (hj : 0 ≤ j ∧ j ≤ 26) (hK : MK 19683 27 26 702 18954 1 3 9 27 81 243 729 2187 6561 M) (hg : M 15 10 = g) : ∀ nn : Nat, (∀ (x5 x6 x7 x8 x9 x10 : Int) (M : nM), Sf 3 ac M0 M → (3 ≤ x5 ∧ x5 ≤ 3) → (0 ≤ x6 ∧ x6 ≤ 24) → (0 ≤ x7 ∧ x7 ≤ 24) → (0 ≤ x8 ∧ x8 ≤ 24) → (0 ≤ x9 ∧ x9 ≤ 27) → (0 ≤ x10 ∧ x10 ≤ 3) → (MK 19683 27 26 702 18954 1 3 9 27 81 243 729 2187 6561 M) → (M 15 10 = g) → (x9 = 9 * x10) → (3 - x10) * 31 + 31 < (nn : Int) → nW xs e 45 86 [some (2, 29), none, some (2, (p + 2)), none, none, some (0, x5), some (0, x6), some (0, x7), some (0, x8), some (0, x9), some (0, x10), none, none, none, none] [] M (nPV fun M1 => Sf 3 ac M0 M1 ∧ (M1 15 10 = g) ∧ MK 19683 27 26 702 18954 1 3 9 27 81 243 729 2187 6561 M1)) ∧ (∀ (x5 x6 x7 x8 x9 x10 x11 x12 : Int) (M : nM), Sf 3 ac M0 M → (3 ≤ x5 ∧ x5 ≤ 3) → (0 ≤ x6 ∧ x6 ≤ 24) → (0 ≤ x7 ∧ x7 ≤ 24) → (0 ≤ x8 ∧ x8 ≤ 24) → (0 ≤ x9 ∧ x9 ≤ 27) → (0 ≤ x10 ∧ x10 ≤ 2) → (0 ≤ x11 ∧ x11 ≤ 1458) → (0 ≤ x12 ∧ x12 ≤ 3) → (MK 19683 27 26 702 18954 1 3 9 27 81 243 729 2187 6561 M) → (M 15 10 = g) → (x9 = 9 * x10 + 3 * x12) → (3 - x10) * 31 + (3 - x12) * 6 + 6 < (nn : Int) → nW xs e 45 110 [some (2, 29), none, some (2, (p + 2)), none, none, some (0, x5), some (0, x6), some (0, x7), some (0, x8), some (0, x9), some (0, x10), some (0, x11), some (0, x12), none, none] [] M (nPV fun M1 => Sf 3 ac M0 M1 ∧ (M1 15 10 = g) ∧ MK 19683 27 26 702 18954 1 3 9 27 81 243 729 2187 6561 M1)) ∧ (∀ (x5 x6 x7 x8 x9 x10 x11 x12 x13 x14 : Int) (M : nM), Sf 3 ac M0 M → (3 ≤ x5 ∧ x5 ≤ 3) → (0 ≤ x6 ∧ x6 ≤ 24) → (0 ≤ x7 ∧ x7 ≤ 24) → (0 ≤ x8 ∧ x8 ≤ 24) → (0 ≤ x9 ∧ x9 ≤ 27) → (0 ≤ x10 ∧ x10 ≤ 2) → (0 ≤ x11 ∧ x11 ≤ 1458) → (0 ≤ x12 ∧ x12 ≤ 2) → (0 ≤ x13 ∧ x13 ≤ 5832) → (0 ≤ x14 ∧ x14 ≤ 3) → (MK 19683 27 26 702 18954 1 3 9 27 81 243 729 2187 6561 M) → (M 15 10 = g) → (x9 = 9 * x10 + 3 * x12 + x14) → (3 - x10) * 31 + (3 - x12) * 6 + (3 - x14) * 1 + 1 < (nn : Int) → nW xs e 45 137 [some (2, 29), none, some (2, (p + 2)), none, none, some (0, x5), some (0, x6), some (0, x7), some (0, x8), some (0, x9), some (0, x10), some (0, x11), some (0, x12), some (0, x13), some (0, x14)] [] M (nPV fun M1 => Sf 3 ac M0 M1 ∧ (M1 15 10 = g) ∧ MK 19683 27 26 702 18954 1 3 9 27 81 243 729 2187 6561 M1)) := by
  have hd : (3 : Int) = 2 ∨ (3 : Int) = 3 := by decide
  have hac := hS.2.2.2.2
  intro nn
  induction nn with
  | zero => refine ⟨?_, ?_, ?_⟩ <;> (intros; omega)
  | succ nn ih =>
    refine ⟨?_, ?_, ?_⟩
    · intro x5 x6 x7 x8 x9 x10 M hS k5 k6 k7 k8 k9 k10 hK hgg v0 hnn
      refine n_iload c_45_86 rfl (n_iload c_45_88 rfl ?_)
      refine n_if2_ge c_45_90 (by omega) (by omega) ?_ ?_
      · intro h1
        exact n_rV c_45_187 rfl ⟨hS, by omega, hK⟩
      · intro h2
        refine n_aload_n c_45_93 rfl (n_iload c_45_94 rfl (n_iload c_45_96 rfl (n_iadd c_45_98 rfl (n_ialoadV c_45_99 hp.c0.2.2.n rfl rfl rfl (by omega) (t_actrl hS hp hpl (Or.inr rfl) (by omega) (by omega)) ?_))))
        intro z3 ez3 f4
        refine n_aload_n c_45_100 rfl (n_getV (bi := 1) c_45_101 sc_29.n rfl rfl rfl hK.w29.1 ?_)
        intro z5 ez5 f6
        obtain rfl : z5 = 729 := by omega
        refine n_imul c_45_104 rfl (n_istore (L2 := [some (2, 29), none, some (2, (p + 2)), none, none, some (0, x5), some (0, x6), some (0, x7), some (0, x8), some (0, x9), some (0, x10), some (0, (z3 * 729)), none, none, none]) c_45_105 rfl rfl (n_iconst c_45_107 (n_istore (L2 := [some (2, 29), none, some (2, (p + 2)), none, none, some (0, x5), some (0, x6), some (0, x7), some (0, x8), some (0, x9), some (0, x10), some (0, (z3 * 729)), some (0, 0), none, none]) c_45_108 rfl rfl (n_fg (le_s (le_n (le_s (le_n (le_n (le_s (le_s (le_s (le_s (le_s (le_s (le_s (le_s (le_n (le_n le_0))))))))))))))) ?_))))
        exact ih.2.1 _ _ _ _ _ _ _ _ M hS (by omega) (by omega) (by omega) (by omega) (by omega) (by omega) (by omega) (by omega) hK (by omega) (by omega) (by omega)
    · intro x5 x6 x7 x8 x9 x10 x11 x12 M hS k5 k6 k7 k8 k9 k10 k11 k12 hK hgg v0 hnn
      refine n_iload c_45_110 rfl (n_iload c_45_112 rfl ?_)
      refine n_if2_ge c_45_114 (by omega) (by omega) ?_ ?_
      · intro h1
        refine n_iinc (L2 := [some (2, 29), none, some (2, (p + 2)), none, none, some (0, x5), some (0, x6), some (0, x7), some (0, x8), some (0, x9), some (0, (x10 + 1)), some (0, x11), some (0, x12), none, none]) c_45_181 rfl rfl rfl (n_goto c_45_184 (n_fg (le_s (le_n (le_s (le_n (le_n (le_s (le_s (le_s (le_s (le_s (le_s (le_n (le_n (le_n (le_n le_0))))))))))))))) ?_))
        exact ih.1 _ _ _ _ _ _ M hS (by omega) (by omega) (by omega) (by omega) (by omega) (by omega) hK (by omega) (by omega) (by omega)
      · intro h2
        refine n_iload c_45_117 rfl (n_aload_n c_45_119 rfl (n_iload c_45_120 rfl (n_iload c_45_122 rfl (n_iadd c_45_124 rfl (n_ialoadV c_45_125 hp.c0.2.2.n rfl rfl rfl (by omega) (t_actrl hS hp hpl (Or.inr rfl) (by omega) (by omega)) ?_)))))
        intro z3 ez3 f4
        refine n_aload_n c_45_126 rfl (n_getV (bi := 2) c_45_127 sc_29.n rfl rfl rfl hK.w29.2.1 ?_)
        intro z5 ez5 f6
        obtain rfl : z5 = 2187 := by omega
        refine n_imul c_45_130 rfl (n_iadd c_45_131 rfl (n_istore (L2 := [some (2, 29), none, some (2, (p + 2)), none, none, some (0, x5), some (0, x6), some (0, x7), some (0, x8), some (0, x9), some (0, x10), some (0, x11), some (0, x12), some (0, (x11 + (z3 * 2187))), none]) c_45_132 rfl rfl (n_iconst c_45_134 (n_istore (L2 := [some (2, 29), none, some (2, (p + 2)), none, none, some (0, x5), some (0, x6), some (0, x7), some (0, x8), some (0, x9), some (0, x10), some (0, x11), some (0, x12), some (0, (x11 + (z3 * 2187))), some (0, 0)]) c_45_135 rfl rfl (n_fg (le_s (le_n (le_s (le_n (le_n (le_s (le_s (le_s (le_s (le_s (le_s (le_s (le_s (le_s (le_s le_0))))))))))))))) ?_)))))
        exact ih.2.2 _ _ _ _ _ _ _ _ _ _ M hS (by omega) (by omega) (by omega) (by omega) (by omega) (by omega) (by omega) (by omega) (by omega) (by omega) hK (by omega) (by omega) (by omega)
    · intro x5 x6 x7 x8 x9 x10 x11 x12 x13 x14 M hS k5 k6 k7 k8 k9 k10 k11 k12 k13 k14 hK hgg v0 hnn
      refine n_iload c_45_137 rfl (n_iload c_45_139 rfl ?_)
      refine n_if2_ge c_45_141 (by omega) (by omega) ?_ ?_
      · intro h1
        refine n_iinc (L2 := [some (2, 29), none, some (2, (p + 2)), none, none, some (0, x5), some (0, x6), some (0, x7), some (0, x8), some (0, x9), some (0, x10), some (0, x11), some (0, (x12 + 1)), some (0, x13), some (0, x14)]) c_45_175 rfl rfl rfl (n_goto c_45_178 (n_fg (le_s (le_n (le_s (le_n (le_n (le_s (le_s (le_s (le_s (le_s (le_s (le_s (le_s (le_n (le_n le_0))))))))))))))) ?_))
        exact ih.2.1 _ _ _ _ _ _ _ _ M hS (by omega) (by omega) (by omega) (by omega) (by omega) (by omega) (by omega) (by omega) hK (by omega) (by omega) (by omega)
      · intro h2
        refine n_aload_n c_45_144 rfl (n_getR c_45_145 sc_29.n rfl rfl rfl r_29_0 (n_iload c_45_148 rfl (n_iload c_45_150 rfl (n_aload_n c_45_152 rfl (n_iload c_45_153 rfl (n_iload c_45_155 rfl (n_iadd c_45_157 rfl (n_ialoadV c_45_158 hp.c0.2.2.n rfl rfl rfl (by omega) (t_actrl hS hp hpl (Or.inr rfl) (by omega) (by omega)) ?_))))))))
        intro z3 ez3 f4
        refine n_aload_n c_45_159 rfl (n_getV (bi := 3) c_45_160 sc_29.n rfl rfl rfl hK.w29.2.2 ?_)
        intro z5 ez5 f6
        obtain rfl : z5 = 6561 := by omega
        refine n_imul c_45_163 rfl (n_iadd c_45_164 rfl (n_iastoreV hS c_45_165 sc_30.n rfl (by omega) (w_30 (by omega) (by omega)) ?_))
        intro M7 eM7 hS7
        have hK7 := hK.u (by unfold Kok; omega) eM7
        have g7_0 : M7 15 10 = M 15 10 := by rw [eM7]; exact nu_a (by omega)
        refine n_iinc (L2 := [some (2, 29), none, some (2, (p + 2)), none, none, some (0, x5), some (0, x6), some (0, x7), some (0, x8), some (0, (x9 + 1)), some (0, x10), some (0, x11), some (0, x12), some (0, x13), some (0, x14)]) c_45_166 rfl rfl rfl (n_iinc (L2 := [some (2, 29), none, some (2, (p + 2)), none, none, some (0, x5), some (0, x6), some (0, x7), some (0, x8), some (0, (x9 + 1)), some (0, x10), some (0, x11), some (0, x12), some (0, x13), some (0, (x14 + 1))]) c_45_169 rfl rfl rfl (n_goto c_45_172 (n_fg (le_s (le_n (le_s (le_n (le_n (le_s (le_s (le_s (le_s (le_s (le_s (le_s (le_s (le_s (le_s le_0))))))))))))))) ?_)))
        exact ih.2.2 _ _ _ _ _ _ _ _ _ _ M7 hS7 (by omega) (by omega) (by omega) (by omega) (by omega) (by omega) (by omega) (by omega) (by omega) (by omega) hK7 (by omega) (by omega) (by omega)
set_option maxHeartbeats 4000000 in
theorem fillM29U_2_3 {xs : List Int32} {e : Nat} {ac : Int} {M0 M : nM} {p i j g : Int} (hS : Sf 3 ac M0 M) (hp : ActAt p) (hpl : p < 55 + 3 * ac) (hi : 0 ≤ i ∧ i ≤ 26) (hj : 0 ≤ j ∧ j ≤ 26) (hK : MK 19683 27 26 702 18954 1 3 9 27 81 243 729 2187 6561 M) (hg : M 15 10 = g) : nW xs e 45 0 [some (2, 29), some (2, 4), some (2, (p + 2)), some (0, i), some (0, j), none, none, none, none, none, none, none, none, none, none] [] M (nPV fun M1 => Sf 3 ac M0 M1 ∧ (M1 15 10 = g) ∧ MK 19683 27 26 702 18954 1 3 9 27 81 243 729 2187 6561 M1) := by
  have hd : (3 : Int) = 2 ∨ (3 : Int) = 3 := by decide
  have hac := hS.2.2.2.2
  refine n_aload_n c_45_0 rfl (n_getV (bi := 1) c_45_1 sc_29.n rfl rfl rfl hK.w29.1 ?_)
  intro z1 ez1 f2
  obtain rfl : z1 = 729 := by omega
  refine n_if0_ne c_45_4 (by omega) ?_ ?_
  · intro h3
    refine n_aload_n c_45_8 rfl (n_getV (bi := 0) c_45_9 sc_4.n rfl rfl rfl (t_4_0 hS) ?_)
    intro z4 ez4 f5
    obtain rfl : z4 = 3 := by omega
    refine n_istore (L2 := [some (2, 29), some (2, 4), some (2, (p + 2)), some (0, i), some (0, j), some (0, 3), none, none, none, none, none, none, none, none, none]) c_45_12 rfl rfl (n_aload_n c_45_14 rfl (n_getR c_45_15 sc_4.n rfl rfl rfl r_4_2 (n_iload_n c_45_18 rfl (n_ialoadV c_45_19 sc_5.n rfl rfl rfl (by omega) (t_5d hS hd (by omega) (by omega)) ?_))))
    intro z6 ez6 f7
    refine n_iload c_45_20 rfl (n_imul c_45_22 rfl (n_aload_n c_45_23 rfl (n_getR c_45_24 sc_4.n rfl rfl rfl r_4_2 (n_iload c_45_27 rfl (n_ialoadV c_45_29 sc_5.n rfl rfl rfl (by omega) (t_5d hS hd (by omega) (by omega)) ?_)))))
    intro z8 ez8 f9
    refine n_iadd c_45_30 rfl (n_iload c_45_31 rfl (n_imul c_45_33 rfl (n_istore (L2 := [some (2, 29), some (2, 4), some (2, (p + 2)), some (0, i), some (0, j), some (0, 3), some (0, (((z6 * 3) + z8) * 3)), none, none, none, none, none, none, none, none]) c_45_34 rfl rfl (n_aload_n c_45_36 rfl (n_getR c_45_37 sc_4.n rfl rfl rfl r_4_3 (n_iload_n c_45_40 rfl (n_ialoadV c_45_41 sc_6.n rfl rfl rfl (by omega) (t_6d hS hd (by omega) (by omega)) ?_)))))))
    intro z10 ez10 f11
    refine n_iload c_45_42 rfl (n_imul c_45_44 rfl (n_aload_n c_45_45 rfl (n_getR c_45_46 sc_4.n rfl rfl rfl r_4_3 (n_iload c_45_49 rfl (n_ialoadV c_45_51 sc_6.n rfl rfl rfl (by omega) (t_6d hS hd (by omega) (by omega)) ?_)))))
    intro z12 ez12 f13
    refine n_iadd c_45_52 rfl (n_iload c_45_53 rfl (n_imul c_45_55 rfl (n_istore (L2 := [some (2, 29), some (2, 4), some (2, (p + 2)), some (0, i), some (0, j), some (0, 3), some (0, (((z6 * 3) + z8) * 3)), some (0, (((z10 * 3) + z12) * 3)), none, none, none, none, none, none, none]) c_45_56 rfl rfl (n_aload_n c_45_58 rfl (n_getR c_45_59 sc_4.n rfl rfl rfl r_4_4 (n_iload_n c_45_62 rfl (n_ialoadV c_45_63 sc_7.n rfl rfl rfl (by omega) (t_7d hS hd (by omega) (by omega)) ?_)))))))
    intro z14 ez14 f15
    refine n_iload c_45_64 rfl (n_imul c_45_66 rfl (n_aload_n c_45_67 rfl (n_getR c_45_68 sc_4.n rfl rfl rfl r_4_4 (n_iload c_45_71 rfl (n_ialoadV c_45_73 sc_7.n rfl rfl rfl (by omega) (t_7d hS hd (by omega) (by omega)) ?_)))))
    intro z16 ez16 f17
    refine n_iadd c_45_74 rfl (n_iload c_45_75 rfl (n_imul c_45_77 rfl (n_istore (L2 := [some (2, 29), some (2, 4), some (2, (p + 2)), some (0, i), some (0, j), some (0, 3), some (0, (((z6 * 3) + z8) * 3)), some (0, (((z10 * 3) + z12) * 3)), some (0, (((z14 * 3) + z16) * 3)), none, none, none, none, none, none]) c_45_78 rfl rfl (n_iconst c_45_80 (n_istore (L2 := [some (2, 29), some (2, 4), some (2, (p + 2)), some (0, i), some (0, j), some (0, 3), some (0, (((z6 * 3) + z8) * 3)), some (0, (((z10 * 3) + z12) * 3)), some (0, (((z14 * 3) + z16) * 3)), some (0, 0), none, none, none, none, none]) c_45_81 rfl rfl (n_iconst c_45_83 (n_istore (L2 := [some (2, 29), some (2, 4), some (2, (p + 2)), some (0, i), some (0, j), some (0, 3), some (0, (((z6 * 3) + z8) * 3)), some (0, (((z10 * 3) + z12) * 3)), some (0, (((z14 * 3) + z16) * 3)), some (0, 0), some (0, 0), none, none, none, none]) c_45_84 rfl rfl (n_fg (le_s (le_n (le_s (le_n (le_n (le_s (le_s (le_s (le_s (le_s (le_s (le_n (le_n (le_n (le_n le_0))))))))))))))) ?_))))))))
    exact (fillM29U_2_3_c hS hp hpl hi hj hK hg 320).1 _ _ _ _ _ _ M hS (by omega) (by omega) (by omega) (by omega) (by omega) (by omega) hK (by omega) (by omega) (by omega)
  · intro h18
    exfalso; omega

set_option maxHeartbeats 4000000 in
theorem sweepT_2_3_c {xs : List Int32} {e : Nat} {ac : Int} {M0 M : nM} {p x y f t s : Int} {g : Int} (hS : Sf 3 ac M0 M) (hp : ActAt p) (hpl : p < 55 + 3 * ac) (hx : 0 ≤ x ∧ x ≤ 256) (hy : 0 ≤ y ∧ y ≤ 256) (hf : 0 ≤ f ∧ f ≤ 256) (ht : -1 ≤ t ∧ t ≤ 256) (hs : -2147483648 ≤ s ∧ s ≤ 2147483647) (hK : MK 19683 27 26 702 18954 1 3 9 27 81 243 729 2187 6561 M) (hxg : x < g) (hyg : y < g) (htg : t < g) (hg : g ≤ M 15 10) : ∀ nn : Nat, (∀ (x7 : Int) (M : nM), Sf 3 ac M0 M → (0 ≤ t ∧ t ≤ 256) → (0 ≤ x7 ∧ x7 ≤ 257) → (MK 19683 27 26 702 18954 1 3 9 27 81 243 729 2187 6561 M) → (g ≤ M 15 10) → (257 - x7) * 2 + 2 < (nn : Int) → nW xs (e + 2) 55 111 [some (2, 15), none, none, none, none, some (0, t), some (0, s), some (0, x7), none, none, none] [] M (nPV fun M1 => Sf 3 ac M0 M1 ∧ MK 19683 27 26 702 18954 1 3 9 27 81 243 729 2187 6561 M1 ∧ (g ≤ M1 15 10))) ∧ (∀ (x7 : Int) (M : nM), Sf 3 ac M0 M → (0 ≤ t ∧ t ≤ 256) → (0 ≤ x7 ∧ x7 ≤ 256) → (MK 19683 27 26 702 18954 1 3 9 27 81 243 729 2187 6561 M) → (g ≤ M 15 10) → (257 - x7) * 2 + 1 < (nn : Int) → nW xs (e + 2) 55 242 [some (2, 15), none, none, none, none, some (0, t), some (0, s), some (0, x7), none, none, none] [] M (nPV fun M1 => Sf 3 ac M0 M1 ∧ MK 19683 27 26 702 18954 1 3 9 27 81 243 729 2187 6561 M1 ∧ (g ≤ M1 15 10))) := by
  have hd : (3 : Int) = 2 ∨ (3 : Int) = 3 := by decide
  have hac := hS.2.2.2.2
  intro nn
  induction nn with
  | zero => refine ⟨?_, ?_⟩ <;> (intros; omega)
  | succ nn ih =>
    refine ⟨?_, ?_⟩
    · intro x7 M hS k5 k7 hK v0 hnn
      refine n_iload c_55_111 rfl (n_iload c_55_113 rfl ?_)
      refine n_if2_gt c_55_115 (by omega) (by omega) ?_ ?_
      · intro h1
        exact n_rV c_55_248 rfl ⟨hS, hK, by omega⟩
      · intro h2
        refine n_iload c_55_118 rfl (n_aload_n c_55_120 rfl (n_getR c_55_121 sc_15.n rfl rfl rfl r_15_2 (n_iload c_55_124 rfl (n_ialoadV c_55_126 sc_21.n rfl rfl rfl (by omega) (t_21 hS (by omega)) ?_))))
        intro z3 ez3 f4
        refine n_iadd c_55_127 rfl (n_wrap ?_)
        have f5 := n_wr_r (s + z3)
        generalize n_wr (s + z3) = z6 at f5 ⊢
        refine n_istore (L2 := [some (2, 15), none, none, none, none, some (0, t), some (0, s), some (0, x7), some (0, z6), none, none]) c_55_128 rfl rfl (n_iload c_55_130 rfl (n_aload_n c_55_132 rfl (n_getV (bi := 11) c_55_133 sc_15.n rfl rfl rfl (t_15_11 hS) ?_)))
        intro z7 ez7 f8
        refine n_if2_lt c_55_136 (by omega) (by omega) ?_ ?_
        · intro h9
          refine n_aload_n c_55_140 rfl (n_getR c_55_141 sc_15.n rfl rfl rfl r_15_6 (n_getR c_55_144 sc_25.n rfl rfl rfl r_25_0 (n_aload_n c_55_147 rfl (n_getR c_55_148 sc_15.n rfl rfl rfl r_15_3 (n_iload c_55_151 rfl (n_ialoadV c_55_153 sc_22.n rfl rfl rfl (by omega) (hK.r22 hS (by omega) (by omega)) ?_))))))
          intro z10 ez10 f11
          refine n_ialoadV c_55_154 sc_26.n rfl rfl rfl (by omega) (hK.l26 (by omega) (by omega)) ?_
          intro z12 ez12 f13
          refine n_aload_n c_55_155 rfl (n_getR c_55_156 sc_15.n rfl rfl rfl r_15_7 (n_getR c_55_159 sc_27.n rfl rfl rfl r_27_0 (n_aload_n c_55_162 rfl (n_getR c_55_163 sc_15.n rfl rfl rfl r_15_4 (n_iload c_55_166 rfl (n_ialoadV c_55_168 sc_23.n rfl rfl rfl (by omega) (hK.r23 hS (by omega) (by omega)) ?_))))))
          intro z14 ez14 f15
          refine n_ialoadV c_55_169 sc_28.n rfl rfl rfl (by omega) (hK.l28 (by omega) (by omega)) ?_
          intro z16 ez16 f17
          refine n_iadd c_55_170 rfl (n_aload_n c_55_171 rfl (n_getR c_55_172 sc_15.n rfl rfl rfl r_15_8 (n_getR c_55_175 sc_29.n rfl rfl rfl r_29_0 (n_aload_n c_55_178 rfl (n_getR c_55_179 sc_15.n rfl rfl rfl r_15_5 (n_iload c_55_182 rfl (n_ialoadV c_55_184 sc_24.n rfl rfl rfl (by omega) (hK.r24 hS (by omega) (by omega)) ?_)))))))
          intro z18 ez18 f19
          refine n_ialoadV c_55_185 sc_30.n rfl rfl rfl (by omega) (hK.l30 (by omega) (by omega)) ?_
          intro z20 ez20 f21
          refine n_iadd c_55_186 rfl (n_istore (L2 := [some (2, 15), none, none, none, none, some (0, t), some (0, s), some (0, x7), some (0, z6), some (0, ((z12 + z16) + z20)), none]) c_55_187 rfl rfl (n_aload_n c_55_189 rfl (n_getP c_55_190 ?_)))
          intro p22 ep22
          refine n_iload c_55_193 rfl (n_ialoadP hS hK c_55_195 ep22 (by omega) ?_)
          intro z23 hz23
          refine n_iconst c_55_196 (n_isub c_55_197 rfl (n_istore (L2 := [some (2, 15), none, none, none, none, some (0, t), some (0, s), some (0, x7), some (0, z6), some (0, ((z12 + z16) + z20)), some (0, (z23 - 1))]) c_55_198 rfl rfl (n_iload c_55_200 rfl ?_)))
          refine n_if0_ge c_55_202 (by omega) ?_ ?_
          · intro h24
            refine n_iload c_55_221 rfl (n_aload_n c_55_223 rfl (n_getR c_55_224 sc_15.n rfl rfl rfl r_15_2 (n_iload c_55_227 rfl (n_ialoadV c_55_229 sc_21.n rfl rfl rfl (by omega) (t_21 hS (by omega)) ?_))))
            intro z25 ez25 f26
            refine n_if2_ge c_55_230 (by omega) (by omega) ?_ ?_
            · intro h27
              refine n_fg (le_s (le_n (le_n (le_n (le_n (le_s (le_s (le_s (le_n (le_n (le_n le_0))))))))))) ?_
              exact ih.2 _ M hS (by omega) (by omega) hK (by omega) (by omega)
            · intro h28
              refine n_aload_n c_55_233 rfl (n_getR c_55_234 sc_15.n rfl rfl rfl r_15_2 (n_iload c_55_237 rfl (n_iload c_55_239 rfl (n_iastoreV hS c_55_241 sc_21.n rfl (by omega) (w_21 (by omega) (by omega)) ?_))))
              intro M29 eM29 hS29
              have hK29 := hK.u (by unfold Kok; omega) eM29
              have g29_0 : M29 15 10 = M 15 10 := by rw [eM29]; exact nu_a (by omega)
              have g29_1 : M29 15 11 = M 15 11 := by rw [eM29]; exact nu_a (by omega)
              refine n_fg (le_s (le_n (le_n (le_n (le_n (le_s (le_s (le_s (le_n (le_n (le_n le_0))))))))))) ?_
              exact ih.2 _ M29 hS29 (by omega) (by omega) hK29 (by omega) (by omega)
          · intro h30
            refine n_aload_n c_55_205 rfl (n_iload c_55_206 rfl (n_iload c_55_208 rfl (n_ldc (n := 1000000) c_55_210 rfl (n_s2I c_55_212 rfl rfl rfl rfl (imin_3 (x := z6) (y := 1000000) hS (by omega) (by omega)) ?_))))
            intro z31 M32 hP33
            obtain ⟨eM, f33, f33p0⟩ := hP33
            subst eM
            refine n_v2V c_55_215 rfl sc_15.n rfl rfl rfl rfl (add_2_3 (c := ((z12 + z16) + z20)) (s := z31) hS (by omega) (by omega) hK) ?_
            intro  M34 hP35
            obtain ⟨hS34, f35K, f35p0⟩ := hP35
            refine n_goto c_55_218 (n_fg (le_s (le_n (le_n (le_n (le_n (le_s (le_s (le_s (le_n (le_n (le_n le_0))))))))))) ?_)
            exact ih.2 _ M34 hS34 (by omega) (by omega) f35K (by omega) (by omega)
        · intro h36
          exact n_rV c_55_139 rfl ⟨hS, hK, by omega⟩
    · intro x7 M hS k5 k7 hK v0 hnn
      refine n_iinc (L2 := [some (2, 15), none, none, none, none, some (0, t), some (0, s), some (0, (x7 + 1)), none, none, none]) c_55_242 rfl rfl rfl (n_goto c_55_245 (n_fg (le_s (le_n (le_n (le_n (le_n (le_s (le_s (le_s (le_n (le_n (le_n le_0))))))))))) ?_))
      exact ih.1 _ M hS (by omega) (by omega) hK (by omega) (by omega)
set_option maxHeartbeats 4000000 in
theorem sweepT_2_3 {xs : List Int32} {e : Nat} {ac : Int} {M0 M : nM} {p x y f t s : Int} {g : Int} (hS : Sf 3 ac M0 M) (hp : ActAt p) (hpl : p < 55 + 3 * ac) (hx : 0 ≤ x ∧ x ≤ 256) (hy : 0 ≤ y ∧ y ≤ 256) (hf : 0 ≤ f ∧ f ≤ 256) (ht : -1 ≤ t ∧ t ≤ 256) (hs : -2147483648 ≤ s ∧ s ≤ 2147483647) (hK : MK 19683 27 26 702 18954 1 3 9 27 81 243 729 2187 6561 M) (hxg : x < g) (hyg : y < g) (htg : t < g) (hg : g ≤ M 15 10) : nW xs (e + 2) 55 0 [some (2, 15), some (2, (p + 1)), some (0, x), some (0, y), some (0, f), some (0, t), some (0, s), none, none, none, none] [] M (nPV fun M1 => Sf 3 ac M0 M1 ∧ MK 19683 27 26 702 18954 1 3 9 27 81 243 729 2187 6561 M1 ∧ (g ≤ M1 15 10)) := by
  have hd : (3 : Int) = 2 ∨ (3 : Int) = 3 := by decide
  have hac := hS.2.2.2.2
  refine n_iload c_55_0 rfl (n_iload c_55_2 rfl ?_)
  refine n_if2_gt c_55_4 (by omega) (by omega) ?_ ?_
  · intro h1
    exact n_rV c_55_34 rfl ⟨hS, hK, by omega⟩
  · intro h2
    refine n_aload_n c_55_7 rfl (n_getV (bi := 10) c_55_8 sc_15.n rfl rfl rfl (t_15_10 hS) ?_)
    intro z3 ez3 f4
    refine n_sipush c_55_11 rfl ?_
    refine n_if2_gt c_55_14 (by omega) (by omega) ?_ ?_
    · intro h5
      exact n_rV c_55_34 rfl ⟨hS, hK, by omega⟩
    · intro h6
      refine n_iload c_55_17 rfl (n_aload_n c_55_19 rfl (n_getR c_55_20 sc_15.n rfl rfl rfl r_15_2 (n_iload c_55_23 rfl (n_ialoadV c_55_25 sc_21.n rfl rfl rfl (by omega) (t_21 hS (by omega)) ?_))))
      intro z7 ez7 f8
      refine n_iadd c_55_26 rfl (n_wrap ?_)
      have f9 := n_wr_r (s + z7)
      generalize n_wr (s + z7) = z10 at f9 ⊢
      refine n_aload_n c_55_27 rfl (n_getV (bi := 11) c_55_28 sc_15.n rfl rfl rfl (t_15_11 hS) ?_)
      intro z11 ez11 f12
      refine n_if2_lt c_55_31 (by omega) (by omega) ?_ ?_
      · intro h13
        refine n_aload_n c_55_35 rfl (n_getR c_55_36 sc_15.n rfl rfl rfl r_15_6 (n_aload_n c_55_39 rfl (n_getB c_55_40 hK.b (n_aload_n c_55_43 rfl (n_aload_n c_55_44 rfl (n_getR c_55_45 sc_15.n rfl rfl rfl r_15_3 (n_iload_n c_55_48 rfl (n_ialoadV c_55_49 sc_22.n rfl rfl rfl (by omega) (hK.r22 hS (by omega) (by omega)) ?_))))))))
        intro z14 ez14 f15
        refine n_aload_n c_55_50 rfl (n_getR c_55_51 sc_15.n rfl rfl rfl r_15_3 (n_iload_n c_55_54 rfl (n_ialoadV c_55_55 sc_22.n rfl rfl rfl (by omega) (hK.r22 hS (by omega) (by omega)) ?_)))
        intro z16 ez16 f17
        refine n_v4V c_55_56 rfl sc_25.n rfl rfl rfl rfl (fillM25T_2_3 (p := p) (i := z14) (j := z16) (g := (M 15 10)) hS hp hpl (by omega) (by omega) hK rfl) ?_
        intro  M18 hP19
        obtain ⟨hS18, f19g0, f19K⟩ := hP19
        refine n_aload_n c_55_59 rfl (n_getR c_55_60 sc_15.n rfl rfl rfl r_15_7 (n_aload_n c_55_63 rfl (n_getB c_55_64 f19K.b (n_aload_n c_55_67 rfl (n_aload_n c_55_68 rfl (n_getR c_55_69 sc_15.n rfl rfl rfl r_15_4 (n_iload_n c_55_72 rfl (n_ialoadV c_55_73 sc_23.n rfl rfl rfl (by omega) (f19K.r23 hS18 (by omega) (by omega)) ?_))))))))
        intro z20 ez20 f21
        refine n_aload_n c_55_74 rfl (n_getR c_55_75 sc_15.n rfl rfl rfl r_15_4 (n_iload_n c_55_78 rfl (n_ialoadV c_55_79 sc_23.n rfl rfl rfl (by omega) (f19K.r23 hS18 (by omega) (by omega)) ?_)))
        intro z22 ez22 f23
        refine n_v4V c_55_80 rfl sc_27.n rfl rfl rfl rfl (fillM27T_2_3 (p := p) (i := z20) (j := z22) (g := (M18 15 10)) hS18 hp hpl (by omega) (by omega) f19K rfl) ?_
        intro  M24 hP25
        obtain ⟨hS24, f25g0, f25K⟩ := hP25
        refine n_aload_n c_55_83 rfl (n_getR c_55_84 sc_15.n rfl rfl rfl r_15_8 (n_aload_n c_55_87 rfl (n_getB c_55_88 f25K.b (n_aload_n c_55_91 rfl (n_aload_n c_55_92 rfl (n_getR c_55_93 sc_15.n rfl rfl rfl r_15_5 (n_iload_n c_55_96 rfl (n_ialoadV c_55_97 sc_24.n rfl rfl rfl (by omega) (f25K.r24 hS24 (by omega) (by omega)) ?_))))))))
        intro z26 ez26 f27
        refine n_aload_n c_55_98 rfl (n_getR c_55_99 sc_15.n rfl rfl rfl r_15_5 (n_iload_n c_55_102 rfl (n_ialoadV c_55_103 sc_24.n rfl rfl rfl (by omega) (f25K.r24 hS24 (by omega) (by omega)) ?_)))
        intro z28 ez28 f29
        refine n_v4V c_55_104 rfl sc_29.n rfl rfl rfl rfl (fillM29T_2_3 (p := p) (i := z26) (j := z28) (g := (M24 15 10)) hS24 hp hpl (by omega) (by omega) f25K rfl) ?_
        intro  M30 hP31
        obtain ⟨hS30, f31g0, f31K⟩ := hP31
        refine n_iload c_55_107 rfl (n_istore (L2 := [some (2, 15), some (2, (p + 1)), some (0, x), some (0, y), some (0, f), some (0, t), some (0, s), some (0, f), none, none, none]) c_55_109 rfl rfl (n_fg (le_s (le_n (le_n (le_n (le_n (le_s (le_s (le_s (le_n (le_n (le_n le_0))))))))))) ?_))
        exact (sweepT_2_3_c hS hp hpl hx hy hf ht hs hK hxg hyg htg hg 1046).1 _ M30 hS30 (by omega) (by omega) f31K (by omega) (by omega)
      · intro h32
        exact n_rV c_55_34 rfl ⟨hS, hK, by omega⟩

set_option maxHeartbeats 4000000 in
theorem sweepU_2_3_c {xs : List Int32} {e : Nat} {ac : Int} {M0 M : nM} {p x y f t s : Int} {g : Int} (hS : Sf 3 ac M0 M) (hp : ActAt p) (hpl : p < 55 + 3 * ac) (hx : 0 ≤ x ∧ x ≤ 256) (hy : 0 ≤ y ∧ y ≤ 256) (hf : 0 ≤ f ∧ f ≤ 256) (ht : -1 ≤ t ∧ t ≤ 256) (hs : -2147483648 ≤ s ∧ s ≤ 2147483647) (hK : MK 19683 27 26 702 18954 1 3 9 27 81 243 729 2187 6561 M) (hxg : x < g) (hyg : y < g) (htg : t < g) (hg : g ≤ M 15 10) : ∀ nn : Nat, (∀ (x7 : Int) (M : nM), Sf 3 ac M0 M → (0 ≤ t ∧ t ≤ 256) → (0 ≤ x7 ∧ x7 ≤ 257) → (MK 19683 27 26 702 18954 1 3 9 27 81 243 729 2187 6561 M) → (g ≤ M 15 10) → (257 - x7) * 2 + 2 < (nn : Int) → nW xs (e + 2) 55 111 [some (2, 15), none, none, none, none, some (0, t), some (0, s), some (0, x7), none, none, none] [] M (nPV fun M1 => Sf 3 ac M0 M1 ∧ MK 19683 27 26 702 18954 1 3 9 27 81 243 729 2187 6561 M1 ∧ (g ≤ M1 15 10))) ∧ (∀ (x7 : Int) (M : nM), Sf 3 ac M0 M → (0 ≤ t ∧ t ≤ 256) → (0 ≤ x7 ∧ x7 ≤ 256) → (MK 19683 27 26 702 18954 1 3 9 27 81 243 729 2187 6561 M) → (g ≤ M 15 10) → (257 - x7) * 2 + 1 < (nn : Int) → nW xs (e + 2) 55 242 [some (2, 15), none, none, none, none, some (0, t), some (0, s), some (0, x7), none, none, none] [] M (nPV fun M1 => Sf 3 ac M0 M1 ∧ MK 19683 27 26 702 18954 1 3 9 27 81 243 729 2187 6561 M1 ∧ (g ≤ M1 15 10))) := by
  have hd : (3 : Int) = 2 ∨ (3 : Int) = 3 := by decide
  have hac := hS.2.2.2.2
  intro nn
  induction nn with
  | zero => refine ⟨?_, ?_⟩ <;> (intros; omega)
  | succ nn ih =>
    refine ⟨?_, ?_⟩
    · intro x7 M hS k5 k7 hK v0 hnn
      refine n_iload c_55_111 rfl (n_iload c_55_113 rfl ?_)
      refine n_if2_gt c_55_115 (by omega) (by omega) ?_ ?_
      · intro h1
        exact n_rV c_55_248 rfl ⟨hS, hK, by omega⟩
      · intro h2
        refine n_iload c_55_118 rfl (n_aload_n c_55_120 rfl (n_getR c_55_121 sc_15.n rfl rfl rfl r_15_2 (n_iload c_55_124 rfl (n_ialoadV c_55_126 sc_21.n rfl rfl rfl (by omega) (t_21 hS (by omega)) ?_))))
        intro z3 ez3 f4
        refine n_iadd c_55_127 rfl (n_wrap ?_)
        have f5 := n_wr_r (s + z3)
        generalize n_wr (s + z3) = z6 at f5 ⊢
        refine n_istore (L2 := [some (2, 15), none, none, none, none, some (0, t), some (0, s), some (0, x7), some (0, z6), none, none]) c_55_128 rfl rfl (n_iload c_55_130 rfl (n_aload_n c_55_132 rfl (n_getV (bi := 11) c_55_133 sc_15.n rfl rfl rfl (t_15_11 hS) ?_)))
        intro z7 ez7 f8
        refine n_if2_lt c_55_136 (by omega) (by omega) ?_ ?_
        · intro h9
          refine n_aload_n c_55_140 rfl (n_getR c_55_141 sc_15.n rfl rfl rfl r_15_6 (n_getR c_55_144 sc_25.n rfl rfl rfl r_25_0 (n_aload_n c_55_147 rfl (n_getR c_55_148 sc_15.n rfl rfl rfl r_15_3 (n_iload c_55_151 rfl (n_ialoadV c_55_153 sc_22.n rfl rfl rfl (by omega) (hK.r22 hS (by omega) (by omega)) ?_))))))
          intro z10 ez10 f11
          refine n_ialoadV c_55_154 sc_26.n rfl rfl rfl (by omega) (hK.l26 (by omega) (by omega)) ?_
          intro z12 ez12 f13
          refine n_aload_n c_55_155 rfl (n_getR c_55_156 sc_15.n rfl rfl rfl r_15_7 (n_getR c_55_159 sc_27.n rfl rfl rfl r_27_0 (n_aload_n c_55_162 rfl (n_getR c_55_163 sc_15.n rfl rfl rfl r_15_4 (n_iload c_55_166 rfl (n_ialoadV c_55_168 sc_23.n rfl rfl rfl (by omega) (hK.r23 hS (by omega) (by omega)) ?_))))))
          intro z14 ez14 f15
          refine n_ialoadV c_55_169 sc_28.n rfl rfl rfl (by omega) (hK.l28 (by omega) (by omega)) ?_
          intro z16 ez16 f17
          refine n_iadd c_55_170 rfl (n_aload_n c_55_171 rfl (n_getR c_55_172 sc_15.n rfl rfl rfl r_15_8 (n_getR c_55_175 sc_29.n rfl rfl rfl r_29_0 (n_aload_n c_55_178 rfl (n_getR c_55_179 sc_15.n rfl rfl rfl r_15_5 (n_iload c_55_182 rfl (n_ialoadV c_55_184 sc_24.n rfl rfl rfl (by omega) (hK.r24 hS (by omega) (by omega)) ?_)))))))
          intro z18 ez18 f19
          refine n_ialoadV c_55_185 sc_30.n rfl rfl rfl (by omega) (hK.l30 (by omega) (by omega)) ?_
          intro z20 ez20 f21
          refine n_iadd c_55_186 rfl (n_istore (L2 := [some (2, 15), none, none, none, none, some (0, t), some (0, s), some (0, x7), some (0, z6), some (0, ((z12 + z16) + z20)), none]) c_55_187 rfl rfl (n_aload_n c_55_189 rfl (n_getP c_55_190 ?_)))
          intro p22 ep22
          refine n_iload c_55_193 rfl (n_ialoadP hS hK c_55_195 ep22 (by omega) ?_)
          intro z23 hz23
          refine n_iconst c_55_196 (n_isub c_55_197 rfl (n_istore (L2 := [some (2, 15), none, none, none, none, some (0, t), some (0, s), some (0, x7), some (0, z6), some (0, ((z12 + z16) + z20)), some (0, (z23 - 1))]) c_55_198 rfl rfl (n_iload c_55_200 rfl ?_)))
          refine n_if0_ge c_55_202 (by omega) ?_ ?_
          · intro h24
            refine n_iload c_55_221 rfl (n_aload_n c_55_223 rfl (n_getR c_55_224 sc_15.n rfl rfl rfl r_15_2 (n_iload c_55_227 rfl (n_ialoadV c_55_229 sc_21.n rfl rfl rfl (by omega) (t_21 hS (by omega)) ?_))))
            intro z25 ez25 f26
            refine n_if2_ge c_55_230 (by omega) (by omega) ?_ ?_
            · intro h27
              refine n_fg (le_s (le_n (le_n (le_n (le_n (le_s (le_s (le_s (le_n (le_n (le_n le_0))))))))))) ?_
              exact ih.2 _ M hS (by omega) (by omega) hK (by omega) (by omega)
            · intro h28
              refine n_aload_n c_55_233 rfl (n_getR c_55_234 sc_15.n rfl rfl rfl r_15_2 (n_iload c_55_237 rfl (n_iload c_55_239 rfl (n_iastoreV hS c_55_241 sc_21.n rfl (by omega) (w_21 (by omega) (by omega)) ?_))))
              intro M29 eM29 hS29
              have hK29 := hK.u (by unfold Kok; omega) eM29
              have g29_0 : M29 15 10 = M 15 10 := by rw [eM29]; exact nu_a (by omega)
              have g29_1 : M29 15 11 = M 15 11 := by rw [eM29]; exact nu_a (by omega)
              refine n_fg (le_s (le_n (le_n (le_n (le_n (le_s (le_s (le_s (le_n (le_n (le_n le_0))))))))))) ?_
              exact ih.2 _ M29 hS29 (by omega) (by omega) hK29 (by omega) (by omega)
          · intro h30
            refine n_aload_n c_55_205 rfl (n_iload c_55_206 rfl (n_iload c_55_208 rfl (n_ldc (n := 1000000) c_55_210 rfl (n_s2I c_55_212 rfl rfl rfl rfl (imin_3 (x := z6) (y := 1000000) hS (by omega) (by omega)) ?_))))
            intro z31 M32 hP33
            obtain ⟨eM, f33, f33p0⟩ := hP33
            subst eM
            refine n_v2V c_55_215 rfl sc_15.n rfl rfl rfl rfl (add_2_3 (c := ((z12 + z16) + z20)) (s := z31) hS (by omega) (by omega) hK) ?_
            intro  M34 hP35
            obtain ⟨hS34, f35K, f35p0⟩ := hP35
            refine n_goto c_55_218 (n_fg (le_s (le_n (le_n (le_n (le_n (le_s (le_s (le_s (le_n (le_n (le_n le_0))))))))))) ?_)
            exact ih.2 _ M34 hS34 (by omega) (by omega) f35K (by omega) (by omega)
        · intro h36
          exact n_rV c_55_139 rfl ⟨hS, hK, by omega⟩
    · intro x7 M hS k5 k7 hK v0 hnn
      refine n_iinc (L2 := [some (2, 15), none, none, none, none, some (0, t), some (0, s), some (0, (x7 + 1)), none, none, none]) c_55_242 rfl rfl rfl (n_goto c_55_245 (n_fg (le_s (le_n (le_n (le_n (le_n (le_s (le_s (le_s (le_n (le_n (le_n le_0))))))))))) ?_))
      exact ih.1 _ M hS (by omega) (by omega) hK (by omega) (by omega)
set_option maxHeartbeats 4000000 in
theorem sweepU_2_3 {xs : List Int32} {e : Nat} {ac : Int} {M0 M : nM} {p x y f t s : Int} {g : Int} (hS : Sf 3 ac M0 M) (hp : ActAt p) (hpl : p < 55 + 3 * ac) (hx : 0 ≤ x ∧ x ≤ 256) (hy : 0 ≤ y ∧ y ≤ 256) (hf : 0 ≤ f ∧ f ≤ 256) (ht : -1 ≤ t ∧ t ≤ 256) (hs : -2147483648 ≤ s ∧ s ≤ 2147483647) (hK : MK 19683 27 26 702 18954 1 3 9 27 81 243 729 2187 6561 M) (hxg : x < g) (hyg : y < g) (htg : t < g) (hg : g ≤ M 15 10) : nW xs (e + 2) 55 0 [some (2, 15), some (2, (p + 2)), some (0, x), some (0, y), some (0, f), some (0, t), some (0, s), none, none, none, none] [] M (nPV fun M1 => Sf 3 ac M0 M1 ∧ MK 19683 27 26 702 18954 1 3 9 27 81 243 729 2187 6561 M1 ∧ (g ≤ M1 15 10)) := by
  have hd : (3 : Int) = 2 ∨ (3 : Int) = 3 := by decide
  have hac := hS.2.2.2.2
  refine n_iload c_55_0 rfl (n_iload c_55_2 rfl ?_)
  refine n_if2_gt c_55_4 (by omega) (by omega) ?_ ?_
  · intro h1
    exact n_rV c_55_34 rfl ⟨hS, hK, by omega⟩
  · intro h2
    refine n_aload_n c_55_7 rfl (n_getV (bi := 10) c_55_8 sc_15.n rfl rfl rfl (t_15_10 hS) ?_)
    intro z3 ez3 f4
    refine n_sipush c_55_11 rfl ?_
    refine n_if2_gt c_55_14 (by omega) (by omega) ?_ ?_
    · intro h5
      exact n_rV c_55_34 rfl ⟨hS, hK, by omega⟩
    · intro h6
      refine n_iload c_55_17 rfl (n_aload_n c_55_19 rfl (n_getR c_55_20 sc_15.n rfl rfl rfl r_15_2 (n_iload c_55_23 rfl (n_ialoadV c_55_25 sc_21.n rfl rfl rfl (by omega) (t_21 hS (by omega)) ?_))))
      intro z7 ez7 f8
      refine n_iadd c_55_26 rfl (n_wrap ?_)
      have f9 := n_wr_r (s + z7)
      generalize n_wr (s + z7) = z10 at f9 ⊢
      refine n_aload_n c_55_27 rfl (n_getV (bi := 11) c_55_28 sc_15.n rfl rfl rfl (t_15_11 hS) ?_)
      intro z11 ez11 f12
      refine n_if2_lt c_55_31 (by omega) (by omega) ?_ ?_
      · intro h13
        refine n_aload_n c_55_35 rfl (n_getR c_55_36 sc_15.n rfl rfl rfl r_15_6 (n_aload_n c_55_39 rfl (n_getB c_55_40 hK.b (n_aload_n c_55_43 rfl (n_aload_n c_55_44 rfl (n_getR c_55_45 sc_15.n rfl rfl rfl r_15_3 (n_iload_n c_55_48 rfl (n_ialoadV c_55_49 sc_22.n rfl rfl rfl (by omega) (hK.r22 hS (by omega) (by omega)) ?_))))))))
        intro z14 ez14 f15
        refine n_aload_n c_55_50 rfl (n_getR c_55_51 sc_15.n rfl rfl rfl r_15_3 (n_iload_n c_55_54 rfl (n_ialoadV c_55_55 sc_22.n rfl rfl rfl (by omega) (hK.r22 hS (by omega) (by omega)) ?_)))
        intro z16 ez16 f17
        refine n_v4V c_55_56 rfl sc_25.n rfl rfl rfl rfl (fillM25U_2_3 (p := p) (i := z14) (j := z16) (g := (M 15 10)) hS hp hpl (by omega) (by omega) hK rfl) ?_
        intro  M18 hP19
        obtain ⟨hS18, f19g0, f19K⟩ := hP19
        refine n_aload_n c_55_59 rfl (n_getR c_55_60 sc_15.n rfl rfl rfl r_15_7 (n_aload_n c_55_63 rfl (n_getB c_55_64 f19K.b (n_aload_n c_55_67 rfl (n_aload_n c_55_68 rfl (n_getR c_55_69 sc_15.n rfl rfl rfl r_15_4 (n_iload_n c_55_72 rfl (n_ialoadV c_55_73 sc_23.n rfl rfl rfl (by omega) (f19K.r23 hS18 (by omega) (by omega)) ?_))))))))
        intro z20 ez20 f21
        refine n_aload_n c_55_74 rfl (n_getR c_55_75 sc_15.n rfl rfl rfl r_15_4 (n_iload_n c_55_78 rfl (n_ialoadV c_55_79 sc_23.n rfl rfl rfl (by omega) (f19K.r23 hS18 (by omega) (by omega)) ?_)))
        intro z22 ez22 f23
        refine n_v4V c_55_80 rfl sc_27.n rfl rfl rfl rfl (fillM27U_2_3 (p := p) (i := z20) (j := z22) (g := (M18 15 10)) hS18 hp hpl (by omega) (by omega) f19K rfl) ?_
        intro  M24 hP25
        obtain ⟨hS24, f25g0, f25K⟩ := hP25
        refine n_aload_n c_55_83 rfl (n_getR c_55_84 sc_15.n rfl rfl rfl r_15_8 (n_aload_n c_55_87 rfl (n_getB c_55_88 f25K.b (n_aload_n c_55_91 rfl (n_aload_n c_55_92 rfl (n_getR c_55_93 sc_15.n rfl rfl rfl r_15_5 (n_iload_n c_55_96 rfl (n_ialoadV c_55_97 sc_24.n rfl rfl rfl (by omega) (f25K.r24 hS24 (by omega) (by omega)) ?_))))))))
        intro z26 ez26 f27
        refine n_aload_n c_55_98 rfl (n_getR c_55_99 sc_15.n rfl rfl rfl r_15_5 (n_iload_n c_55_102 rfl (n_ialoadV c_55_103 sc_24.n rfl rfl rfl (by omega) (f25K.r24 hS24 (by omega) (by omega)) ?_)))
        intro z28 ez28 f29
        refine n_v4V c_55_104 rfl sc_29.n rfl rfl rfl rfl (fillM29U_2_3 (p := p) (i := z26) (j := z28) (g := (M24 15 10)) hS24 hp hpl (by omega) (by omega) f25K rfl) ?_
        intro  M30 hP31
        obtain ⟨hS30, f31g0, f31K⟩ := hP31
        refine n_iload c_55_107 rfl (n_istore (L2 := [some (2, 15), some (2, (p + 2)), some (0, x), some (0, y), some (0, f), some (0, t), some (0, s), some (0, f), none, none, none]) c_55_109 rfl rfl (n_fg (le_s (le_n (le_n (le_n (le_n (le_s (le_s (le_s (le_n (le_n (le_n le_0))))))))))) ?_))
        exact (sweepU_2_3_c hS hp hpl hx hy hf ht hs hK hxg hyg htg hg 1046).1 _ M30 hS30 (by omega) (by omega) f31K (by omega) (by omega)
      · intro h32
        exact n_rV c_55_34 rfl ⟨hS, hK, by omega⟩

set_option maxHeartbeats 4000000 in
theorem putOn_2_3_c {xs : List Int32} {e : Nat} {ac : Int} {M0 M : nM} {p e0 : Int} {g : Int} (hS : Sf 3 ac M0 M) (hp : ActAt p) (hpl : p < 55 + 3 * ac) (he0 : 0 ≤ e0 ∧ e0 ≤ 256) (hK : MK 19683 27 26 702 18954 1 3 9 27 81 243 729 2187 6561 M) (heg : e0 < g) (hg : g ≤ M 15 10) : ∀ nn : Nat, (∀ (x3 x4 : Int) (M : nM), Sf 3 ac M0 M → (-2147483648 ≤ x3 ∧ x3 ≤ 2147483647) → (0 ≤ x4 ∧ x4 ≤ 257) → (MK 19683 27 26 702 18954 1 3 9 27 81 243 729 2187 6561 M) → (g ≤ M 15 10) → (257 - x4) * 1 + 260 < (nn : Int) → nW xs (e + 3) 54 75 [some (2, 15), some (2, p), some (0, e0), some (0, x3), some (0, x4)] [] M (nPV fun M1 => Sf 3 ac M0 M1 ∧ MK 19683 27 26 702 18954 1 3 9 27 81 243 729 2187 6561 M1 ∧ (g ≤ M1 15 10))) ∧ (∀ (x3 x4 : Int) (M : nM), Sf 3 ac M0 M → (-2147483648 ≤ x3 ∧ x3 ≤ 2147483647) → (0 ≤ x4 ∧ x4 ≤ 256) → (MK 19683 27 26 702 18954 1 3 9 27 81 243 729 2187 6561 M) → (g ≤ M 15 10) → (256 - x4) * 1 + 2 < (nn : Int) → nW xs (e + 3) 54 112 [some (2, 15), some (2, p), some (0, e0), some (0, x3), some (0, x4)] [] M (nPV fun M1 => Sf 3 ac M0 M1 ∧ MK 19683 27 26 702 18954 1 3 9 27 81 243 729 2187 6561 M1 ∧ (g ≤ M1 15 10))) ∧ (∀ (M : nM), Sf 3 ac M0 M → (MK 19683 27 26 702 18954 1 3 9 27 81 243 729 2187 6561 M) → (g ≤ M 15 10) → 1 < (nn : Int) → nW xs (e + 3) 54 170 [none, none, none, none, none] [] M (nPV fun M1 => Sf 3 ac M0 M1 ∧ MK 19683 27 26 702 18954 1 3 9 27 81 243 729 2187 6561 M1 ∧ (g ≤ M1 15 10))) := by
  have hd : (3 : Int) = 2 ∨ (3 : Int) = 3 := by decide
  have hac := hS.2.2.2.2
  intro nn
  induction nn with
  | zero => refine ⟨?_, ?_, ?_⟩ <;> (intros; omega)
  | succ nn ih =>
    refine ⟨?_, ?_, ?_⟩
    · intro x3 x4 M hS k3 k4 hK v0 hnn
      refine n_iload c_54_75 rfl (n_iload_n c_54_77 rfl ?_)
      refine n_if2_gt c_54_78 (by omega) (by omega) ?_ ?_
      · intro h1
        refine n_iconst c_54_109 (n_istore (L2 := [some (2, 15), some (2, p), some (0, e0), some (0, x3), some (0, 0)]) c_54_110 rfl rfl (n_fg (le_s (le_s (le_s (le_s (le_s le_0))))) ?_))
        exact ih.2.1 _ _ M hS (by omega) (by omega) hK (by omega) (by omega)
      · intro h2
        refine n_aload_n c_54_81 rfl (n_aload_n c_54_82 rfl (n_getR c_54_83 hp.c0.1.n rfl rfl rfl hp.r.1 (n_iload_n c_54_86 rfl (n_iload c_54_87 rfl (n_iconst c_54_89 (n_iload_n c_54_90 rfl (n_iload_n c_54_91 rfl (n_aload_n c_54_92 rfl (n_getR c_54_93 sc_15.n rfl rfl rfl r_15_2 (n_iload c_54_96 rfl (n_ialoadV c_54_98 sc_21.n rfl rfl rfl (by omega) (t_21 hS (by omega)) ?_)))))))))))
        intro z3 ez3 f4
        refine n_iadd c_54_99 rfl (n_wrap ?_)
        have f5 := n_wr_r (x3 + z3)
        generalize n_wr (x3 + z3) = z6 at f5 ⊢
        refine n_v6V c_54_100 rfl sc_15.n rfl rfl rfl rfl (sweepT_2_3 (p := p) (x := e0) (y := x4) (f := 0) (t := e0) (s := z6) (g := (M 15 10)) hS hp hpl (by omega) (by omega) (by omega) (by omega) (by omega) hK (by omega) (by omega) (by omega) (by omega)) ?_
        intro  M7 hP8
        obtain ⟨hS7, f8K, f8p0⟩ := hP8
        refine n_iinc (L2 := [some (2, 15), some (2, p), some (0, e0), some (0, x3), some (0, (x4 + 1))]) c_54_103 rfl rfl rfl (n_goto c_54_106 (n_fg (le_s (le_s (le_s (le_s (le_s le_0))))) ?_))
        exact ih.1 _ _ M7 hS7 (by omega) (by omega) f8K (by omega) (by omega)
    · intro x3 x4 M hS k3 k4 hK v0 hnn
      refine n_iload c_54_112 rfl (n_iload_n c_54_114 rfl ?_)
      refine n_if2_ge c_54_115 (by omega) (by omega) ?_ ?_
      · intro h1
        refine n_fg (le_n (le_n (le_n (le_n (le_n le_0))))) ?_
        exact ih.2.2  M hS hK (by omega) (by omega)
      · intro h2
        refine n_aload_n c_54_118 rfl (n_aload_n c_54_119 rfl (n_getR c_54_120 hp.c0.1.n rfl rfl rfl hp.r.1 (n_iload c_54_123 rfl (n_iload_n c_54_125 rfl (n_iconst c_54_126 (n_iload_n c_54_127 rfl (n_iload_n c_54_128 rfl (n_aload_n c_54_129 rfl (n_getR c_54_130 sc_15.n rfl rfl rfl r_15_2 (n_iload c_54_133 rfl (n_ialoadV c_54_135 sc_21.n rfl rfl rfl (by omega) (t_21 hS (by omega)) ?_)))))))))))
        intro z3 ez3 f4
        refine n_iadd c_54_136 rfl (n_wrap ?_)
        have f5 := n_wr_r (x3 + z3)
        generalize n_wr (x3 + z3) = z6 at f5 ⊢
        refine n_v6V c_54_137 rfl sc_15.n rfl rfl rfl rfl (sweepT_2_3 (p := p) (x := x4) (y := e0) (f := 0) (t := e0) (s := z6) (g := (M 15 10)) hS hp hpl (by omega) (by omega) (by omega) (by omega) (by omega) hK (by omega) (by omega) (by omega) (by omega)) ?_
        intro  M7 hP8
        obtain ⟨hS7, f8K, f8p0⟩ := hP8
        refine n_aload_n c_54_140 rfl (n_aload_n c_54_141 rfl (n_getR c_54_142 hp.c0.1.n rfl rfl rfl hp.r.2 (n_iload c_54_145 rfl (n_iload_n c_54_147 rfl (n_iconst c_54_148 (n_iload_n c_54_149 rfl (n_iconst c_54_150 (n_isub c_54_151 rfl (n_iload_n c_54_152 rfl (n_aload_n c_54_153 rfl (n_getR c_54_154 sc_15.n rfl rfl rfl r_15_2 ?_)))))))))))
        refine n_iload c_54_157 rfl (n_ialoadV c_54_159 sc_21.n rfl rfl rfl (by omega) (t_21 hS7 (by omega)) ?_)
        intro z9 ez9 f10
        refine n_iadd c_54_160 rfl (n_wrap ?_)
        have f11 := n_wr_r (x3 + z9)
        generalize n_wr (x3 + z9) = z12 at f11 ⊢
        refine n_v6V c_54_161 rfl sc_15.n rfl rfl rfl rfl (sweepU_2_3 (p := p) (x := x4) (y := e0) (f := 0) (t := (e0 - 1)) (s := z12) (g := (M7 15 10)) hS7 hp hpl (by omega) (by omega) (by omega) (by omega) (by omega) f8K (by omega) (by omega) (by omega) (by omega)) ?_
        intro  M13 hP14
        obtain ⟨hS13, f14K, f14p0⟩ := hP14
        refine n_iinc (L2 := [some (2, 15), some (2, p), some (0, e0), some (0, x3), some (0, (x4 + 1))]) c_54_164 rfl rfl rfl (n_goto c_54_167 (n_fg (le_s (le_s (le_s (le_s (le_s le_0))))) ?_))
        exact ih.2.1 _ _ M13 hS13 (by omega) (by omega) f14K (by omega) (by omega)
    · intro M hS hK v0 hnn
      exact n_rV c_54_170 rfl ⟨hS, hK, by omega⟩
set_option maxHeartbeats 4000000 in
theorem putOn_2_3 {xs : List Int32} {e : Nat} {ac : Int} {M0 M : nM} {p e0 : Int} {g : Int} (hS : Sf 3 ac M0 M) (hp : ActAt p) (hpl : p < 55 + 3 * ac) (he0 : 0 ≤ e0 ∧ e0 ≤ 256) (hK : MK 19683 27 26 702 18954 1 3 9 27 81 243 729 2187 6561 M) (heg : e0 < g) (hg : g ≤ M 15 10) : nW xs (e + 3) 54 0 [some (2, 15), some (2, p), some (0, e0), none, none] [] M (nPV fun M1 => Sf 3 ac M0 M1 ∧ MK 19683 27 26 702 18954 1 3 9 27 81 243 729 2187 6561 M1 ∧ (g ≤ M1 15 10)) := by
  have hd : (3 : Int) = 2 ∨ (3 : Int) = 3 := by decide
  have hac := hS.2.2.2.2
  refine n_iconst c_54_0 (n_aload_n c_54_1 rfl (n_getR c_54_2 sc_15.n rfl rfl rfl r_15_2 (n_iload_n c_54_5 rfl (n_ialoadV c_54_6 sc_21.n rfl rfl rfl (by omega) (t_21 hS (by omega)) ?_))))
  intro z1 ez1 f2
  refine n_iadd c_54_7 rfl (n_wrap ?_)
  have f3 := n_wr_r (1 + z1)
  generalize n_wr (1 + z1) = z4 at f3 ⊢
  refine n_istore_n (L2 := [some (2, 15), some (2, p), some (0, e0), some (0, z4), none]) c_54_8 rfl rfl (n_aload_n c_54_9 rfl (n_getV (bi := 0) c_54_10 hp.c0.1.n rfl rfl rfl (t_actl hS hp hpl).1 ?_))
  intro z5 ez5 f6
  refine n_iconst c_54_13 ?_
  refine n_if2_ne c_54_14 (by omega) (by omega) ?_ ?_
  · intro h7
    refine n_aload_n c_54_33 rfl (n_getV (bi := 0) c_54_34 hp.c0.1.n rfl rfl rfl (t_actl hS hp hpl).1 ?_)
    intro z8 ez8 f9
    refine n_iconst c_54_37 ?_
    refine n_if2_ne c_54_38 (by omega) (by omega) ?_ ?_
    · intro h10
      refine n_iconst c_54_72 (n_istore (L2 := [some (2, 15), some (2, p), some (0, e0), some (0, z4), some (0, 0)]) c_54_73 rfl rfl (n_fg (le_s (le_s (le_s (le_s (le_s le_0))))) ?_))
      exact (putOn_2_3_c hS hp hpl he0 hK heg hg 1046).1 _ _ M hS (by omega) (by omega) hK (by omega) (by omega)
    · intro h11
      refine n_aload_n c_54_41 rfl (n_aload_n c_54_42 rfl (n_getR c_54_43 hp.c0.1.n rfl rfl rfl hp.r.1 (n_iload_n c_54_46 rfl (n_iload_n c_54_47 rfl (n_iconst c_54_48 (n_iload_n c_54_49 rfl (n_iload_n c_54_50 rfl (n_v6V c_54_51 rfl sc_15.n rfl rfl rfl rfl (sweepT_2_3 (p := p) (x := e0) (y := e0) (f := 0) (t := e0) (s := z4) (g := (M 15 10)) hS hp hpl (by omega) (by omega) (by omega) (by omega) (by omega) hK (by omega) (by omega) (by omega) (by omega)) ?_))))))))
      intro  M12 hP13
      obtain ⟨hS12, f13K, f13p0⟩ := hP13
      refine n_aload_n c_54_54 rfl (n_aload_n c_54_55 rfl (n_getR c_54_56 hp.c0.1.n rfl rfl rfl hp.r.2 (n_iload_n c_54_59 rfl (n_iload_n c_54_60 rfl (n_iconst c_54_61 (n_iload_n c_54_62 rfl (n_iconst c_54_63 (n_isub c_54_64 rfl (n_iload_n c_54_65 rfl (n_v6V c_54_66 rfl sc_15.n rfl rfl rfl rfl (sweepU_2_3 (p := p) (x := e0) (y := e0) (f := 0) (t := (e0 - 1)) (s := z4) (g := (M12 15 10)) hS12 hp hpl (by omega) (by omega) (by omega) (by omega) (by omega) f13K (by omega) (by omega) (by omega) (by omega)) ?_))))))))))
      intro  M14 hP15
      obtain ⟨hS14, f15K, f15p0⟩ := hP15
      refine n_goto c_54_69 (n_fg (le_n (le_n (le_n (le_n (le_n le_0))))) ?_)
      exact (putOn_2_3_c hS hp hpl he0 hK heg hg 1046).2.2  M14 hS14 f15K (by omega) (by omega)
  · intro h16
    refine n_aload_n c_54_17 rfl (n_aload_n c_54_18 rfl (n_getR c_54_19 hp.c0.1.n rfl rfl rfl hp.r.1 (n_iload_n c_54_22 rfl (n_iload_n c_54_23 rfl (n_iload_n c_54_24 rfl (n_iload_n c_54_25 rfl (n_iconst c_54_26 (n_v6V c_54_27 rfl sc_15.n rfl rfl rfl rfl (sweepT_2_3 (p := p) (x := e0) (y := e0) (f := e0) (t := e0) (s := 1) (g := (M 15 10)) hS hp hpl (by omega) (by omega) (by omega) (by omega) (by omega) hK (by omega) (by omega) (by omega) (by omega)) ?_))))))))
    intro  M17 hP18
    obtain ⟨hS17, f18K, f18p0⟩ := hP18
    refine n_goto c_54_30 (n_fg (le_n (le_n (le_n (le_n (le_n le_0))))) ?_)
    exact (putOn_2_3_c hS hp hpl he0 hK heg hg 1046).2.2  M17 hS17 f18K (by omega) (by omega)

set_option maxHeartbeats 4000000 in
theorem changeIn20_2_3 {xs : List Int32} {e : Nat} {ac : Int} {M0 M : nM} {i j g g2 : Int} (hS : Sf 3 ac M0 M) (hi : 0 ≤ i ∧ i ≤ 256) (hj : 0 ≤ j ∧ j ≤ 256) (hK : MK 19683 27 26 702 18954 1 3 9 27 81 243 729 2187 6561 M) (hg : M 15 10 = g) (hg2 : M 106 2 = g2) (hig : i < g) (hjg : j < g) : nW xs e 61 0 [some (2, 15), some (2, 20), some (0, i), some (0, j), none] [] M (nPV fun M1 => Sf 3 ac M0 M1 ∧ (M1 15 10 = g) ∧ (M1 106 2 = g2) ∧ MK 19683 27 26 702 18954 1 3 9 27 81 243 729 2187 6561 M1) := by
  have hd : (3 : Int) = 2 ∨ (3 : Int) = 3 := by decide
  have hac := hS.2.2.2.2
  refine n_aload_n c_61_0 rfl (n_iload_n c_61_1 rfl (n_ialoadV c_61_2 sc_20.n rfl rfl rfl (by omega) (hK.r20 hS (by omega) (by omega)) ?_))
  intro z1 ez1 f2
  refine n_istore (L2 := [some (2, 15), some (2, 20), some (0, i), some (0, j), some (0, z1)]) c_61_3 rfl rfl (n_aload_n c_61_5 rfl (n_iload_n c_61_6 rfl (n_aload_n c_61_7 rfl (n_iload_n c_61_8 rfl (n_ialoadV c_61_9 sc_20.n rfl rfl rfl (by omega) (hK.r20 hS (by omega) (by omega)) ?_)))))
  intro z3 ez3 f4
  refine n_iastoreV hS c_61_10 sc_20.n rfl (by omega) (w_20 (by omega) (by omega)) ?_
  intro M5 eM5 hS5
  have hK5 := hK.u (by unfold Kok; omega) eM5
  have g5_0 : M5 15 10 = M 15 10 := by rw [eM5]; exact nu_a (by omega)
  have g5_1 : M5 106 2 = M 106 2 := by rw [eM5]; exact nu_a (by omega)
  refine n_aload_n c_61_11 rfl (n_iload_n c_61_12 rfl (n_iload c_61_13 rfl (n_iastoreV hS5 c_61_15 sc_20.n rfl (by omega) (w_20 (by omega) (by omega)) ?_)))
  intro M6 eM6 hS6
  have hK6 := hK5.u (by unfold Kok; omega) eM6
  have g6_0 : M6 15 10 = M5 15 10 := by rw [eM6]; exact nu_a (by omega)
  have g6_1 : M6 106 2 = M5 106 2 := by rw [eM6]; exact nu_a (by omega)
  exact n_rV c_61_16 rfl ⟨hS6, by omega, by omega, hK6⟩

set_option maxHeartbeats 4000000 in
theorem changeIn21_2_3 {xs : List Int32} {e : Nat} {ac : Int} {M0 M : nM} {i j g g2 : Int} (hS : Sf 3 ac M0 M) (hi : 0 ≤ i ∧ i ≤ 256) (hj : 0 ≤ j ∧ j ≤ 256) (hK : MK 19683 27 26 702 18954 1 3 9 27 81 243 729 2187 6561 M) (hg : M 15 10 = g) (hg2 : M 106 2 = g2) (hig : i < g) (hjg : j < g) : nW xs e 61 0 [some (2, 15), some (2, 21), some (0, i), some (0, j), none] [] M (nPV fun M1 => Sf 3 ac M0 M1 ∧ (M1 15 10 = g) ∧ (M1 106 2 = g2) ∧ MK 19683 27 26 702 18954 1 3 9 27 81 243 729 2187 6561 M1) := by
  have hd : (3 : Int) = 2 ∨ (3 : Int) = 3 := by decide
  have hac := hS.2.2.2.2
  refine n_aload_n c_61_0 rfl (n_iload_n c_61_1 rfl (n_ialoadV c_61_2 sc_21.n rfl rfl rfl (by omega) (t_21 hS (by omega)) ?_))
  intro z1 ez1 f2
  refine n_istore (L2 := [some (2, 15), some (2, 21), some (0, i), some (0, j), some (0, z1)]) c_61_3 rfl rfl (n_aload_n c_61_5 rfl (n_iload_n c_61_6 rfl (n_aload_n c_61_7 rfl (n_iload_n c_61_8 rfl (n_ialoadV c_61_9 sc_21.n rfl rfl rfl (by omega) (t_21 hS (by omega)) ?_)))))
  intro z3 ez3 f4
  refine n_iastoreV hS c_61_10 sc_21.n rfl (by omega) (w_21 (by omega) (by omega)) ?_
  intro M5 eM5 hS5
  have hK5 := hK.u (by unfold Kok; omega) eM5
  have g5_0 : M5 15 10 = M 15 10 := by rw [eM5]; exact nu_a (by omega)
  have g5_1 : M5 106 2 = M 106 2 := by rw [eM5]; exact nu_a (by omega)
  refine n_aload_n c_61_11 rfl (n_iload_n c_61_12 rfl (n_iload c_61_13 rfl (n_iastoreV hS5 c_61_15 sc_21.n rfl (by omega) (w_21 (by omega) (by omega)) ?_)))
  intro M6 eM6 hS6
  have hK6 := hK5.u (by unfold Kok; omega) eM6
  have g6_0 : M6 15 10 = M5 15 10 := by rw [eM6]; exact nu_a (by omega)
  have g6_1 : M6 106 2 = M5 106 2 := by rw [eM6]; exact nu_a (by omega)
  exact n_rV c_61_16 rfl ⟨hS6, by omega, by omega, hK6⟩

set_option maxHeartbeats 4000000 in
theorem changeIn22_2_3 {xs : List Int32} {e : Nat} {ac : Int} {M0 M : nM} {i j g g2 : Int} (hS : Sf 3 ac M0 M) (hi : 0 ≤ i ∧ i ≤ 256) (hj : 0 ≤ j ∧ j ≤ 256) (hK : MK 19683 27 26 702 18954 1 3 9 27 81 243 729 2187 6561 M) (hg : M 15 10 = g) (hg2 : M 106 2 = g2) (hig : i < g) (hjg : j < g) : nW xs e 61 0 [some (2, 15), some (2, 22), some (0, i), some (0, j), none] [] M (nPV fun M1 => Sf 3 ac M0 M1 ∧ (M1 15 10 = g) ∧ (M1 106 2 = g2) ∧ MK 19683 27 26 702 18954 1 3 9 27 81 243 729 2187 6561 M1) := by
  have hd : (3 : Int) = 2 ∨ (3 : Int) = 3 := by decide
  have hac := hS.2.2.2.2
  refine n_aload_n c_61_0 rfl (n_iload_n c_61_1 rfl (n_ialoadV c_61_2 sc_22.n rfl rfl rfl (by omega) (hK.r22 hS (by omega) (by omega)) ?_))
  intro z1 ez1 f2
  refine n_istore (L2 := [some (2, 15), some (2, 22), some (0, i), some (0, j), some (0, z1)]) c_61_3 rfl rfl (n_aload_n c_61_5 rfl (n_iload_n c_61_6 rfl (n_aload_n c_61_7 rfl (n_iload_n c_61_8 rfl (n_ialoadV c_61_9 sc_22.n rfl rfl rfl (by omega) (hK.r22 hS (by omega) (by omega)) ?_)))))
  intro z3 ez3 f4
  refine n_iastoreV hS c_61_10 sc_22.n rfl (by omega) (w_22 (by omega) (by omega)) ?_
  intro M5 eM5 hS5
  have hK5 := hK.u (by unfold Kok; omega) eM5
  have g5_0 : M5 15 10 = M 15 10 := by rw [eM5]; exact nu_a (by omega)
  have g5_1 : M5 106 2 = M 106 2 := by rw [eM5]; exact nu_a (by omega)
  refine n_aload_n c_61_11 rfl (n_iload_n c_61_12 rfl (n_iload c_61_13 rfl (n_iastoreV hS5 c_61_15 sc_22.n rfl (by omega) (w_22 (by omega) (by omega)) ?_)))
  intro M6 eM6 hS6
  have hK6 := hK5.u (by unfold Kok; omega) eM6
  have g6_0 : M6 15 10 = M5 15 10 := by rw [eM6]; exact nu_a (by omega)
  have g6_1 : M6 106 2 = M5 106 2 := by rw [eM6]; exact nu_a (by omega)
  exact n_rV c_61_16 rfl ⟨hS6, by omega, by omega, hK6⟩

set_option maxHeartbeats 4000000 in
theorem changeIn23_2_3 {xs : List Int32} {e : Nat} {ac : Int} {M0 M : nM} {i j g g2 : Int} (hS : Sf 3 ac M0 M) (hi : 0 ≤ i ∧ i ≤ 256) (hj : 0 ≤ j ∧ j ≤ 256) (hK : MK 19683 27 26 702 18954 1 3 9 27 81 243 729 2187 6561 M) (hg : M 15 10 = g) (hg2 : M 106 2 = g2) (hig : i < g) (hjg : j < g) : nW xs e 61 0 [some (2, 15), some (2, 23), some (0, i), some (0, j), none] [] M (nPV fun M1 => Sf 3 ac M0 M1 ∧ (M1 15 10 = g) ∧ (M1 106 2 = g2) ∧ MK 19683 27 26 702 18954 1 3 9 27 81 243 729 2187 6561 M1) := by
  have hd : (3 : Int) = 2 ∨ (3 : Int) = 3 := by decide
  have hac := hS.2.2.2.2
  refine n_aload_n c_61_0 rfl (n_iload_n c_61_1 rfl (n_ialoadV c_61_2 sc_23.n rfl rfl rfl (by omega) (hK.r23 hS (by omega) (by omega)) ?_))
  intro z1 ez1 f2
  refine n_istore (L2 := [some (2, 15), some (2, 23), some (0, i), some (0, j), some (0, z1)]) c_61_3 rfl rfl (n_aload_n c_61_5 rfl (n_iload_n c_61_6 rfl (n_aload_n c_61_7 rfl (n_iload_n c_61_8 rfl (n_ialoadV c_61_9 sc_23.n rfl rfl rfl (by omega) (hK.r23 hS (by omega) (by omega)) ?_)))))
  intro z3 ez3 f4
  refine n_iastoreV hS c_61_10 sc_23.n rfl (by omega) (w_23 (by omega) (by omega)) ?_
  intro M5 eM5 hS5
  have hK5 := hK.u (by unfold Kok; omega) eM5
  have g5_0 : M5 15 10 = M 15 10 := by rw [eM5]; exact nu_a (by omega)
  have g5_1 : M5 106 2 = M 106 2 := by rw [eM5]; exact nu_a (by omega)
  refine n_aload_n c_61_11 rfl (n_iload_n c_61_12 rfl (n_iload c_61_13 rfl (n_iastoreV hS5 c_61_15 sc_23.n rfl (by omega) (w_23 (by omega) (by omega)) ?_)))
  intro M6 eM6 hS6
  have hK6 := hK5.u (by unfold Kok; omega) eM6
  have g6_0 : M6 15 10 = M5 15 10 := by rw [eM6]; exact nu_a (by omega)
  have g6_1 : M6 106 2 = M5 106 2 := by rw [eM6]; exact nu_a (by omega)
  exact n_rV c_61_16 rfl ⟨hS6, by omega, by omega, hK6⟩

set_option maxHeartbeats 4000000 in
theorem changeIn24_2_3 {xs : List Int32} {e : Nat} {ac : Int} {M0 M : nM} {i j g g2 : Int} (hS : Sf 3 ac M0 M) (hi : 0 ≤ i ∧ i ≤ 256) (hj : 0 ≤ j ∧ j ≤ 256) (hK : MK 19683 27 26 702 18954 1 3 9 27 81 243 729 2187 6561 M) (hg : M 15 10 = g) (hg2 : M 106 2 = g2) (hig : i < g) (hjg : j < g) : nW xs e 61 0 [some (2, 15), some (2, 24), some (0, i), some (0, j), none] [] M (nPV fun M1 => Sf 3 ac M0 M1 ∧ (M1 15 10 = g) ∧ (M1 106 2 = g2) ∧ MK 19683 27 26 702 18954 1 3 9 27 81 243 729 2187 6561 M1) := by
  have hd : (3 : Int) = 2 ∨ (3 : Int) = 3 := by decide
  have hac := hS.2.2.2.2
  refine n_aload_n c_61_0 rfl (n_iload_n c_61_1 rfl (n_ialoadV c_61_2 sc_24.n rfl rfl rfl (by omega) (hK.r24 hS (by omega) (by omega)) ?_))
  intro z1 ez1 f2
  refine n_istore (L2 := [some (2, 15), some (2, 24), some (0, i), some (0, j), some (0, z1)]) c_61_3 rfl rfl (n_aload_n c_61_5 rfl (n_iload_n c_61_6 rfl (n_aload_n c_61_7 rfl (n_iload_n c_61_8 rfl (n_ialoadV c_61_9 sc_24.n rfl rfl rfl (by omega) (hK.r24 hS (by omega) (by omega)) ?_)))))
  intro z3 ez3 f4
  refine n_iastoreV hS c_61_10 sc_24.n rfl (by omega) (w_24 (by omega) (by omega)) ?_
  intro M5 eM5 hS5
  have hK5 := hK.u (by unfold Kok; omega) eM5
  have g5_0 : M5 15 10 = M 15 10 := by rw [eM5]; exact nu_a (by omega)
  have g5_1 : M5 106 2 = M 106 2 := by rw [eM5]; exact nu_a (by omega)
  refine n_aload_n c_61_11 rfl (n_iload_n c_61_12 rfl (n_iload c_61_13 rfl (n_iastoreV hS5 c_61_15 sc_24.n rfl (by omega) (w_24 (by omega) (by omega)) ?_)))
  intro M6 eM6 hS6
  have hK6 := hK5.u (by unfold Kok; omega) eM6
  have g6_0 : M6 15 10 = M5 15 10 := by rw [eM6]; exact nu_a (by omega)
  have g6_1 : M6 106 2 = M5 106 2 := by rw [eM6]; exact nu_a (by omega)
  exact n_rV c_61_16 rfl ⟨hS6, by omega, by omega, hK6⟩

set_option maxHeartbeats 4000000 in
theorem change_2_3 {xs : List Int32} {e : Nat} {ac : Int} {M0 M : nM} {i j g g2 : Int} (hS : Sf 3 ac M0 M) (hi : 0 ≤ i ∧ i ≤ 256) (hj : 0 ≤ j ∧ j ≤ 256) (hK : MK 19683 27 26 702 18954 1 3 9 27 81 243 729 2187 6561 M) (hg : M 15 10 = g) (hg2 : M 106 2 = g2) (hig : i < g) (hjg : j < g) : nW xs (e + 1) 60 0 [some (2, 15), some (0, i), some (0, j)] [] M (nPV fun M1 => Sf 3 ac M0 M1 ∧ (M1 15 10 = g) ∧ (M1 106 2 = g2) ∧ MK 19683 27 26 702 18954 1 3 9 27 81 243 729 2187 6561 M1) := by
  have hd : (3 : Int) = 2 ∨ (3 : Int) = 3 := by decide
  have hac := hS.2.2.2.2
  refine n_aload_n c_60_0 rfl (n_aload_n c_60_1 rfl (n_getR c_60_2 sc_15.n rfl rfl rfl r_15_1 (n_iload_n c_60_5 rfl (n_iload_n c_60_6 rfl (n_v3V c_60_7 rfl sc_15.n rfl rfl rfl rfl (changeIn20_2_3 (i := i) (j := j) (g := (M 15 10)) (g2 := (M 106 2)) hS (by omega) (by omega) hK rfl rfl (by omega) (by omega)) ?_)))))
  intro  M1 hP2
  obtain ⟨hS1, f2g0, f2g1, f2K⟩ := hP2
  refine n_aload_n c_60_10 rfl (n_aload_n c_60_11 rfl (n_getR c_60_12 sc_15.n rfl rfl rfl r_15_2 (n_iload_n c_60_15 rfl (n_iload_n c_60_16 rfl (n_v3V c_60_17 rfl sc_15.n rfl rfl rfl rfl (changeIn21_2_3 (i := i) (j := j) (g := (M1 15 10)) (g2 := (M1 106 2)) hS1 (by omega) (by omega) f2K rfl rfl (by omega) (by omega)) ?_)))))
  intro  M3 hP4
  obtain ⟨hS3, f4g0, f4g1, f4K⟩ := hP4
  refine n_aload_n c_60_20 rfl (n_aload_n c_60_21 rfl (n_getR c_60_22 sc_15.n rfl rfl rfl r_15_3 (n_iload_n c_60_25 rfl (n_iload_n c_60_26 rfl (n_v3V c_60_27 rfl sc_15.n rfl rfl rfl rfl (changeIn22_2_3 (i := i) (j := j) (g := (M3 15 10)) (g2 := (M3 106 2)) hS3 (by omega) (by omega) f4K rfl rfl (by omega) (by omega)) ?_)))))
  intro  M5 hP6
  obtain ⟨hS5, f6g0, f6g1, f6K⟩ := hP6
  refine n_aload_n c_60_30 rfl (n_aload_n c_60_31 rfl (n_getR c_60_32 sc_15.n rfl rfl rfl r_15_4 (n_iload_n c_60_35 rfl (n_iload_n c_60_36 rfl (n_v3V c_60_37 rfl sc_15.n rfl rfl rfl rfl (changeIn23_2_3 (i := i) (j := j) (g := (M5 15 10)) (g2 := (M5 106 2)) hS5 (by omega) (by omega) f6K rfl rfl (by omega) (by omega)) ?_)))))
  intro  M7 hP8
  obtain ⟨hS7, f8g0, f8g1, f8K⟩ := hP8
  refine n_aload_n c_60_40 rfl (n_aload_n c_60_41 rfl (n_getR c_60_42 sc_15.n rfl rfl rfl r_15_5 (n_iload_n c_60_45 rfl (n_iload_n c_60_46 rfl (n_v3V c_60_47 rfl sc_15.n rfl rfl rfl rfl (changeIn24_2_3 (i := i) (j := j) (g := (M7 15 10)) (g2 := (M7 106 2)) hS7 (by omega) (by omega) f8K rfl rfl (by omega) (by omega)) ?_)))))
  intro  M9 hP10
  obtain ⟨hS9, f10g0, f10g1, f10K⟩ := hP10
  refine n_aload_n c_60_50 rfl (n_getP c_60_51 ?_)
  intro p11 ep11
  refine n_aload_n c_60_54 rfl (n_getR c_60_55 sc_15.n rfl rfl rfl r_15_1 (n_iload_n c_60_58 rfl (n_ialoadV c_60_59 sc_20.n rfl rfl rfl (by omega) (f10K.r20 hS9 (by omega) (by omega)) ?_)))
  intro z12 ez12 f13
  refine n_iload_n c_60_60 rfl (n_iconst c_60_61 (n_iadd c_60_62 rfl (n_iastoreP hS9 f10K c_60_63 ep11 (by omega) (by omega) ?_)))
  intro M14 fM14 hS14 hK14
  have g14_0 := fM14 15 10 (by omega) (by omega)
  have g14_1 := fM14 106 2 (by omega) (by omega)
  refine n_aload_n c_60_64 rfl (n_getP c_60_65 ?_)
  intro p15 ep15
  refine n_aload_n c_60_68 rfl (n_getR c_60_69 sc_15.n rfl rfl rfl r_15_1 (n_iload_n c_60_72 rfl (n_ialoadV c_60_73 sc_20.n rfl rfl rfl (by omega) (hK14.r20 hS14 (by omega) (by omega)) ?_)))
  intro z16 ez16 f17
  refine n_iload_n c_60_74 rfl (n_iconst c_60_75 (n_iadd c_60_76 rfl (n_iastoreP hS14 hK14 c_60_77 ep15 (by omega) (by omega) ?_)))
  intro M18 fM18 hS18 hK18
  have g18_0 := fM18 15 10 (by omega) (by omega)
  have g18_1 := fM18 106 2 (by omega) (by omega)
  exact n_rV c_60_78 rfl ⟨hS18, by omega, by omega, hK18⟩

set_option maxHeartbeats 4000000 in
theorem bringLeast_2_3_c {xs : List Int32} {e : Nat} {ac : Int} {M0 M : nM} {e0 g g2 : Int} (hS : Sf 3 ac M0 M) (he0 : 0 ≤ e0 ∧ e0 ≤ 256) (hK : MK 19683 27 26 702 18954 1 3 9 27 81 243 729 2187 6561 M) (hg : M 15 10 = g) (hg2 : M 106 2 = g2) (heg : e0 < g) : ∀ nn : Nat, (∀ (x2 x3 : Int) (M : nM), Sf 3 ac M0 M → (0 ≤ x2 ∧ x2 ≤ 256) → (1 ≤ x3 ∧ x3 ≤ 257) → (MK 19683 27 26 702 18954 1 3 9 27 81 243 729 2187 6561 M) → (M 15 10 = g) → (M 106 2 = g2) → (x2 < g) → (257 - x3) * 1 + 1 < (nn : Int) → nW xs (e + 2) 57 6 [some (2, 15), some (0, e0), some (0, x2), some (0, x3)] [] M (nPV fun M1 => Sf 3 ac M0 M1 ∧ (M1 15 10 = g) ∧ (M1 106 2 = g2) ∧ MK 19683 27 26 702 18954 1 3 9 27 81 243 729 2187 6561 M1)) := by
  have hd : (3 : Int) = 2 ∨ (3 : Int) = 3 := by decide
  have hac := hS.2.2.2.2
  intro nn
  induction nn with
  | zero => intros; omega
  | succ nn ih =>
    intro x2 x3 M hS k2 k3 hK hgg hgg2 v0 hnn
    refine n_iload_n c_57_6 rfl (n_aload_n c_57_7 rfl (n_getV (bi := 10) c_57_8 sc_15.n rfl rfl rfl (t_15_10 hS) ?_))
    intro z1 ez1 f2
    refine n_if2_ge c_57_11 (by omega) (by omega) ?_ ?_
    · intro h3
      refine n_aload_n c_57_31 rfl (n_iload_n c_57_32 rfl (n_iload_n c_57_33 rfl (n_v2V c_57_34 rfl sc_15.n rfl rfl rfl rfl (change_2_3 (i := e0) (j := x2) (g := (M 15 10)) (g2 := (M 106 2)) hS (by omega) (by omega) hK rfl rfl (by omega) (by omega)) ?_)))
      intro  M4 hP5
      obtain ⟨hS4, f5g0, f5g1, f5K⟩ := hP5
      exact n_rV c_57_37 rfl ⟨hS4, by omega, by omega, f5K⟩
    · intro h6
      refine n_aload_n c_57_14 rfl (n_iload_n c_57_15 rfl (n_iload_n c_57_16 rfl (n_v2I c_57_17 rfl sc_15.n rfl rfl rfl rfl (isAhead_3 (i := x3) (j := x2) hS (by omega) (by omega)) ?_)))
      intro z7 M8 hP9
      obtain ⟨eM, f9⟩ := hP9
      subst eM
      refine n_if0_eq c_57_20 (by omega) ?_ ?_
      · intro h10
        refine n_iinc (L2 := [some (2, 15), some (0, e0), some (0, x2), some (0, (x3 + 1))]) c_57_25 rfl rfl rfl (n_goto c_57_28 (n_fg (le_s (le_s (le_s (le_s le_0)))) ?_))
        exact ih _ _ M hS (by omega) (by omega) hK (by omega) (by omega) (by omega) (by omega)
      · intro h11
        refine n_iload_n c_57_23 rfl (n_istore_n (L2 := [some (2, 15), some (0, e0), some (0, x3), some (0, x3)]) c_57_24 rfl rfl (n_iinc (L2 := [some (2, 15), some (0, e0), some (0, x3), some (0, (x3 + 1))]) c_57_25 rfl rfl rfl (n_goto c_57_28 (n_fg (le_s (le_s (le_s (le_s le_0)))) ?_))))
        exact ih _ _ M hS (by omega) (by omega) hK (by omega) (by omega) (by omega) (by omega)
set_option maxHeartbeats 4000000 in
theorem bringLeast_2_3 {xs : List Int32} {e : Nat} {ac : Int} {M0 M : nM} {e0 g g2 : Int} (hS : Sf 3 ac M0 M) (he0 : 0 ≤ e0 ∧ e0 ≤ 256) (hK : MK 19683 27 26 702 18954 1 3 9 27 81 243 729 2187 6561 M) (hg : M 15 10 = g) (hg2 : M 106 2 = g2) (heg : e0 < g) : nW xs (e + 2) 57 0 [some (2, 15), some (0, e0), none, none] [] M (nPV fun M1 => Sf 3 ac M0 M1 ∧ (M1 15 10 = g) ∧ (M1 106 2 = g2) ∧ MK 19683 27 26 702 18954 1 3 9 27 81 243 729 2187 6561 M1) := by
  have hd : (3 : Int) = 2 ∨ (3 : Int) = 3 := by decide
  have hac := hS.2.2.2.2
  refine n_iload_n c_57_0 rfl (n_istore_n (L2 := [some (2, 15), some (0, e0), some (0, e0), none]) c_57_1 rfl rfl (n_iload_n c_57_2 rfl (n_iconst c_57_3 (n_iadd c_57_4 rfl (n_istore_n (L2 := [some (2, 15), some (0, e0), some (0, e0), some (0, (e0 + 1))]) c_57_5 rfl rfl (n_fg (le_s (le_s (le_s (le_s le_0)))) ?_))))))
  exact (bringLeast_2_3_c hS he0 hK hg hg2 heg 526) _ _ M hS (by omega) (by omega) hK (by omega) (by omega) (by omega) (by omega)

set_option maxHeartbeats 4000000 in
theorem end_2_3_c {xs : List Int32} {e : Nat} {ac : Int} {M0 M : nM} (hS : Sf 3 ac M0 M) (hK : MK 19683 27 26 702 18954 1 3 9 27 81 243 729 2187 6561 M) : ∀ nn : Nat, (∀ (x2 : Int) (M : nM), Sf 3 ac M0 M → (0 ≤ x2 ∧ x2 ≤ 256) → (MK 19683 27 26 702 18954 1 3 9 27 81 243 729 2187 6561 M) → (M 106 2 ≤ M 15 10) → (256 - x2) * 1 + 260 < (nn : Int) → nW xs (e + 3) 62 45 [some (2, 15), some (2, 106), some (0, x2)] [] M (nPV fun M1 => Sf 3 ac M0 M1 ∧ MK 19683 27 26 702 18954 1 3 9 27 81 243 729 2187 6561 M1)) ∧ (∀ (x2 : Int) (M : nM), Sf 3 ac M0 M → (0 ≤ x2 ∧ x2 ≤ 257) → (MK 19683 27 26 702 18954 1 3 9 27 81 243 729 2187 6561 M) → (257 - x2) * 1 + 1 < (nn : Int) → nW xs (e + 3) 62 90 [some (2, 15), none, some (0, x2)] [] M (nPV fun M1 => Sf 3 ac M0 M1 ∧ MK 19683 27 26 702 18954 1 3 9 27 81 243 729 2187 6561 M1)) := by
  have hd : (3 : Int) = 2 ∨ (3 : Int) = 3 := by decide
  have hac := hS.2.2.2.2
  intro nn
  induction nn with
  | zero => refine ⟨?_, ?_⟩ <;> (intros; omega)
  | succ nn ih =>
    refine ⟨?_, ?_⟩
    · intro x2 M hS k2 hK v0 hnn
      refine n_iload_n c_62_45 rfl (n_aload_n c_62_46 rfl (n_getV (bi := 2) c_62_47 made106.c0.1.n rfl rfl rfl (t_made hS made106).2.2 ?_))
      intro z1 ez1 f2
      refine n_if2_ge c_62_50 (by omega) (by omega) ?_ ?_
      · intro h3
        refine n_iconst c_62_88 (n_istore_n (L2 := [some (2, 15), some (2, 106), some (0, 0)]) c_62_89 rfl rfl (n_fg (le_s (le_n (le_s le_0))) ?_))
        exact ih.2 _ M hS (by omega) hK (by omega)
      · intro h4
        refine n_aload_n c_62_53 rfl (n_iload_n c_62_54 rfl (n_v1V c_62_55 rfl sc_15.n rfl rfl rfl rfl (bringLeast_2_3 (e0 := x2) (g := (M 15 10)) (g2 := (M 106 2)) hS (by omega) hK rfl rfl (by omega)) ?_))
        intro  M5 hP6
        obtain ⟨hS5, f6g0, f6g1, f6K⟩ := hP6
        refine n_aload_n c_62_58 rfl (n_getR c_62_59 made106.c0.1.n rfl rfl rfl made106.r.1 (n_iload_n c_62_62 rfl (n_aload_n c_62_63 rfl (n_getR c_62_64 sc_15.n rfl rfl rfl r_15_1 (n_iload_n c_62_67 rfl (n_ialoadV c_62_68 sc_20.n rfl rfl rfl (by omega) (f6K.r20 hS5 (by omega) (by omega)) ?_))))))
        intro z7 ez7 f8
        refine n_iastoreV hS5 c_62_69 made106.c0.2.1.n rfl (by omega) (w_mader made106 (Or.inl rfl) (by omega) (by omega)) ?_
        intro M9 eM9 hS9
        have hK9 := f6K.u (by unfold Kok; omega) eM9
        have g9_0 : M9 15 10 = M5 15 10 := by rw [eM9]; exact nu_a (by omega)
        have g9_1 : M9 106 2 = M5 106 2 := by rw [eM9]; exact nu_a (by omega)
        refine n_aload_n c_62_70 rfl (n_getR c_62_71 made106.c0.1.n rfl rfl rfl made106.r.2 (n_iload_n c_62_74 rfl (n_aload_n c_62_75 rfl (n_getR c_62_76 sc_15.n rfl rfl rfl r_15_2 (n_iload_n c_62_79 rfl (n_ialoadV c_62_80 sc_21.n rfl rfl rfl (by omega) (t_21 hS9 (by omega)) ?_))))))
        intro z10 ez10 f11
        refine n_iastoreV hS9 c_62_81 made106.c0.2.2.n rfl (by omega) (w_mader made106 (Or.inr rfl) (by omega) (by omega)) ?_
        intro M12 eM12 hS12
        have hK12 := hK9.u (by unfold Kok; omega) eM12
        have g12_0 : M12 15 10 = M9 15 10 := by rw [eM12]; exact nu_a (by omega)
        have g12_1 : M12 106 2 = M9 106 2 := by rw [eM12]; exact nu_a (by omega)
        refine n_iinc (L2 := [some (2, 15), some (2, 106), some (0, (x2 + 1))]) c_62_82 rfl rfl rfl (n_goto c_62_85 (n_fg (le_s (le_s (le_s le_0))) ?_))
        exact ih.1 _ M12 hS12 (by omega) hK12 (by omega) (by omega)
    · intro x2 M hS k2 hK hnn
      refine n_iload_n c_62_90 rfl (n_aload_n c_62_91 rfl (n_getV (bi := 10) c_62_92 sc_15.n rfl rfl rfl (t_15_10 hS) ?_))
      intro z1 ez1 f2
      refine n_if2_ge c_62_95 (by omega) (by omega) ?_ ?_
      · intro h3
        exact n_rV c_62_116 rfl ⟨hS, hK⟩
      · intro h4
        refine n_aload_n c_62_98 rfl (n_getP c_62_99 ?_)
        intro p5 ep5
        refine n_aload_n c_62_102 rfl (n_getR c_62_103 sc_15.n rfl rfl rfl r_15_1 (n_iload_n c_62_106 rfl (n_ialoadV c_62_107 sc_20.n rfl rfl rfl (by omega) (hK.r20 hS (by omega) (by omega)) ?_)))
        intro z6 ez6 f7
        refine n_iconst c_62_108 (n_iastoreP hS hK c_62_109 ep5 (by omega) (by omega) ?_)
        intro M8 fM8 hS8 hK8
        have g8_0 := fM8 15 10 (by omega) (by omega)
        refine n_iinc (L2 := [some (2, 15), none, some (0, (x2 + 1))]) c_62_110 rfl rfl rfl (n_goto c_62_113 (n_fg (le_s (le_n (le_s le_0))) ?_))
        exact ih.2 _ M8 hS8 (by omega) hK8 (by omega)
set_option maxHeartbeats 4000000 in
theorem end_2_3 {xs : List Int32} {e : Nat} {ac : Int} {M0 M : nM} (hS : Sf 3 ac M0 M) (hK : MK 19683 27 26 702 18954 1 3 9 27 81 243 729 2187 6561 M) : nW xs (e + 3) 62 0 [some (2, 15), some (2, 106), none] [] M (nPV fun M1 => Sf 3 ac M0 M1 ∧ MK 19683 27 26 702 18954 1 3 9 27 81 243 729 2187 6561 M1) := by
  have hd : (3 : Int) = 2 ∨ (3 : Int) = 3 := by decide
  have hac := hS.2.2.2.2
  refine n_aload_n c_62_0 rfl (n_iconst c_62_1 (n_putZV (bi := 0) hS c_62_2 made106.c0.1.n rfl rfl rfl (by omega) rfl (w_made made106 (by omega) (by omega)) ?_))
  intro M1 eM1 hS1
  have hK1 := hK.u (by unfold Kok; omega) eM1
  have g1_0 : M1 15 10 = M 15 10 := by rw [eM1]; exact nu_a (by omega)
  have g1_1 : M1 106 0 = 1 := by rw [eM1]; exact nu_s _ _ _ _
  refine n_aload_n c_62_5 rfl (n_aload_n c_62_6 rfl (n_getV (bi := 10) c_62_7 sc_15.n rfl rfl rfl (t_15_10 hS1) ?_))
  intro z2 ez2 f3
  refine n_sipush c_62_10 rfl ?_
  refine n_if2_le c_62_13 (by omega) (by omega) ?_ ?_
  · intro h4
    refine n_iconst c_62_20 (n_putZV (bi := 1) hS1 c_62_21 made106.c0.1.n rfl rfl rfl (by omega) rfl (w_made made106 (by omega) (by omega)) ?_)
    intro M5 eM5 hS5
    have hK5 := hK1.u (by unfold Kok; omega) eM5
    have g5_0 : M5 15 10 = M1 15 10 := by rw [eM5]; exact nu_a (by omega)
    have g5_1 : M5 106 0 = M1 106 0 := by rw [eM5]; exact nu_i (by omega)
    have g5_2 : M5 106 1 = 0 := by rw [eM5]; exact nu_s _ _ _ _
    refine n_aload_n c_62_24 rfl (n_aload_n c_62_25 rfl (n_getV (bi := 1) c_62_26 made106.c0.1.n rfl rfl rfl (t_made hS5 made106).2.1 ?_))
    intro z6 ez6 f7
    obtain rfl : z6 = 0 := by omega
    refine n_if0_eq c_62_29 (by omega) ?_ ?_
    · intro h8
      refine n_aload_n c_62_36 rfl (n_getV (bi := 10) c_62_37 sc_15.n rfl rfl rfl (t_15_10 hS5) ?_)
      intro z9 ez9 f10
      refine n_putV (bi := 2) hS5 c_62_40 made106.c0.1.n rfl rfl rfl rfl (w_made made106 (by omega) (by omega)) ?_
      intro M11 eM11 hS11
      have hK11 := hK5.u (by unfold Kok; omega) eM11
      have g11_0 : M11 15 10 = M5 15 10 := by rw [eM11]; exact nu_a (by omega)
      have g11_1 : M11 106 0 = M5 106 0 := by rw [eM11]; exact nu_i (by omega)
      have g11_2 : M11 106 1 = M5 106 1 := by rw [eM11]; exact nu_i (by omega)
      have g11_3 : M11 106 2 = z9 := by rw [eM11]; exact nu_s _ _ _ _
      refine n_iconst c_62_43 (n_istore_n (L2 := [some (2, 15), some (2, 106), some (0, 0)]) c_62_44 rfl rfl (n_fg (le_s (le_s (le_s le_0))) ?_))
      exact (end_2_3_c hS hK 1044).1 _ M11 hS11 (by omega) hK11 (by omega) (by omega)
    · intro h12
      exfalso; omega
  · intro h13
    refine n_iconst c_62_16 (n_goto c_62_17 (n_putZV (bi := 1) hS1 c_62_21 made106.c0.1.n rfl rfl rfl (by omega) rfl (w_made made106 (by omega) (by omega)) ?_))
    intro M14 eM14 hS14
    have hK14 := hK1.u (by unfold Kok; omega) eM14
    have g14_0 : M14 15 10 = M1 15 10 := by rw [eM14]; exact nu_a (by omega)
    have g14_1 : M14 106 0 = M1 106 0 := by rw [eM14]; exact nu_i (by omega)
    have g14_2 : M14 106 1 = 1 := by rw [eM14]; exact nu_s _ _ _ _
    refine n_aload_n c_62_24 rfl (n_aload_n c_62_25 rfl (n_getV (bi := 1) c_62_26 made106.c0.1.n rfl rfl rfl (t_made hS14 made106).2.1 ?_))
    intro z15 ez15 f16
    obtain rfl : z15 = 1 := by omega
    refine n_if0_eq c_62_29 (by omega) ?_ ?_
    · intro h17
      exfalso; omega
    · intro h18
      refine n_iconst c_62_32 (n_goto c_62_33 (n_putV (bi := 2) hS14 c_62_40 made106.c0.1.n rfl rfl rfl rfl (w_made made106 (by omega) (by omega)) ?_))
      intro M19 eM19 hS19
      have hK19 := hK14.u (by unfold Kok; omega) eM19
      have g19_0 : M19 15 10 = M14 15 10 := by rw [eM19]; exact nu_a (by omega)
      have g19_1 : M19 106 0 = M14 106 0 := by rw [eM19]; exact nu_i (by omega)
      have g19_2 : M19 106 1 = M14 106 1 := by rw [eM19]; exact nu_i (by omega)
      have g19_3 : M19 106 2 = 0 := by rw [eM19]; exact nu_s _ _ _ _
      refine n_iconst c_62_43 (n_istore_n (L2 := [some (2, 15), some (2, 106), some (0, 0)]) c_62_44 rfl rfl (n_fg (le_s (le_s (le_s le_0))) ?_))
      exact (end_2_3_c hS hK 1044).1 _ M19 hS19 (by omega) hK19 (by omega) (by omega)

set_option maxHeartbeats 4000000 in
theorem begin_2_3 {xs : List Int32} {e : Nat} {ac : Int} {M0 M : nM} (hS : Sf 3 ac M0 M) (hB : M 15 0 = 4) : nW xs (e + 3) 50 0 [some (2, 15), some (0, 2), none] [] M (nPV fun M1 => Sf 3 ac M0 M1 ∧ MK 19683 27 26 702 18954 1 3 9 27 81 243 729 2187 6561 M1) := by
  have hd : (3 : Int) = 2 ∨ (3 : Int) = 3 := by decide
  have hac := hS.2.2.2.2
  refine n_aload_n c_50_0 rfl (n_getB c_50_1 hB (n_iload_n c_50_4 rfl (n_v1I c_50_5 rfl sc_4.n rfl rfl rfl rfl (power2_3  hS ) ?_)))
  intro z1 M2 hP3
  obtain ⟨eM, f3⟩ := hP3
  subst eM
  obtain rfl : z1 = 9 := by omega
  refine n_istore_n (L2 := [some (2, 15), some (0, 2), some (0, 9)]) c_50_8 rfl rfl (n_aload_n c_50_9 rfl (n_getP c_50_10 ?_))
  intro p4 ep4
  refine n_alenP hS c_50_13 ep4 ?_
  intro z5 hz5
  refine n_aload_n c_50_14 rfl (n_getB c_50_15 hB (n_iload_n c_50_18 rfl (n_v1I c_50_19 rfl sc_4.n rfl rfl rfl rfl (codes2_3  hS ) ?_)))
  intro z6 M7 hP8
  obtain ⟨eM, f8⟩ := hP8
  subst eM
  obtain rfl : z6 = 19683 := by omega
  refine n_if2_ge c_50_22 (by omega) (by omega) ?_ ?_
  · intro h9
    refine n_aload_n c_50_34 rfl (n_aload_n c_50_35 rfl (n_getR c_50_36 sc_15.n rfl rfl rfl r_15_6 (n_iconst c_50_39 (n_iload_n c_50_40 rfl (n_v3V c_50_41 rfl sc_15.n rfl rfl rfl rfl (weighFrom25_2_3 (Ms := M) hS (by exact hB)) ?_)))))
    intro  M10 hP11
    obtain ⟨hS10, f11p0, f11p1⟩ := hP11
    have hBM10 := (f11p0 15 0 (by omega) (by omega)).trans hB
    have hPM10 := f11p0 15 9 (by omega) (by omega)
    refine n_aload_n c_50_44 rfl (n_aload_n c_50_45 rfl (n_getR c_50_46 sc_15.n rfl rfl rfl r_15_7 (n_iconst c_50_49 (n_iload_n c_50_50 rfl (n_v3V c_50_51 rfl sc_15.n rfl rfl rfl rfl (weighFrom27_2_3 (Ms := M10) hS10 (by exact hBM10)) ?_)))))
    intro  M12 hP13
    obtain ⟨hS12, f13p0, f13p1⟩ := hP13
    have hBM12 := (f13p0 15 0 (by omega) (by omega)).trans hBM10
    have hPM12 := f13p0 15 9 (by omega) (by omega)
    have f11p1M12 := f11p1.of (fun i => f13p0 25 i (by omega) (by omega)) (fun i => f13p0 26 i (by omega) (by omega))
    refine n_aload_n c_50_54 rfl (n_aload_n c_50_55 rfl (n_getR c_50_56 sc_15.n rfl rfl rfl r_15_8 (n_bipush c_50_59 rfl (n_iload_n c_50_61 rfl (n_v3V c_50_62 rfl sc_15.n rfl rfl rfl rfl (weighFrom29_2_3 (Ms := M12) hS12 (by exact hBM12)) ?_)))))
    intro  M14 hP15
    obtain ⟨hS14, f15p0, f15p1⟩ := hP15
    have hBM14 := (f15p0 15 0 (by omega) (by omega)).trans hBM12
    have hPM14 := f15p0 15 9 (by omega) (by omega)
    have f11p1M12M14 := f11p1M12.of (fun i => f15p0 25 i (by omega) (by omega)) (fun i => f15p0 26 i (by omega) (by omega))
    have f13p1M14 := f13p1.of (fun i => f15p0 27 i (by omega) (by omega)) (fun i => f15p0 28 i (by omega) (by omega))
    refine n_aload_n c_50_65 rfl (n_iconst c_50_66 (n_putV (bi := 10) hS14 c_50_67 sc_15.n rfl rfl rfl rfl (w_15_10 (by omega)) ?_))
    intro M16 eM16 hS16
    have g16_0 : M16 15 10 = 0 := by rw [eM16]; exact nu_s _ _ _ _
    have qa : M16 15 0 = M14 15 0 := by rw [eM16]; exact nu_i (by omega)
    have qb : M16 15 9 = M14 15 9 := by rw [eM16]; exact nu_i (by omega)
    have hKb : MK 19683 27 26 702 18954 1 3 9 27 81 243 729 2187 6561 M16 := MK.mk0 (qa.trans hBM14) (by omega) (by omega) (by omega) (by omega) (f11p1M12M14.of (fun i => by rw [eM16]; exact nu_a (by omega)) (fun i => by rw [eM16]; exact nu_a (by omega))) (f13p1M14.of (fun i => by rw [eM16]; exact nu_a (by omega)) (fun i => by rw [eM16]; exact nu_a (by omega))) (f15p1.of (fun i => by rw [eM16]; exact nu_a (by omega)) (fun i => by rw [eM16]; exact nu_a (by omega)))
    refine n_aload_n c_50_70 rfl (n_aload_n c_50_71 rfl (n_aload_n c_50_72 rfl (n_getB c_50_73 hKb.b (n_getR c_50_76 sc_4.n rfl rfl rfl r_4_4 (n_iload_n c_50_79 rfl (n_v2I c_50_80 rfl sc_15.n rfl rfl rfl rfl (codeOf7_2_3  hS16 (by exact hKb.b)) ?_))))))
    intro z17 M18 hP19
    obtain ⟨eM, f19⟩ := hP19
    subst eM
    refine n_iconst c_50_83 (n_v2V c_50_84 rfl sc_15.n rfl rfl rfl rfl (add_2_3 (c := z17) (s := 0) hS16 (by omega) (by omega) hKb) ?_)
    intro  M20 hP21
    obtain ⟨hS20, f21K, f21p0⟩ := hP21
    refine n_iload_n c_50_87 rfl (n_iconst c_50_88 ?_)
    refine n_if2_le c_50_89 (by omega) (by omega) ?_ ?_
    · intro h22
      exfalso; omega
    · intro h23
      refine n_aload_n c_50_92 rfl (n_aload_n c_50_93 rfl (n_aload_n c_50_94 rfl (n_getB c_50_95 f21K.b (n_getR c_50_98 sc_4.n rfl rfl rfl r_4_3 (n_iload_n c_50_101 rfl (n_v2I c_50_102 rfl sc_15.n rfl rfl rfl rfl (codeOf6_2_3  hS20 (by exact f21K.b)) ?_))))))
      intro z24 M25 hP26
      obtain ⟨eM, f26⟩ := hP26
      subst eM
      refine n_iconst c_50_105 (n_v2V c_50_106 rfl sc_15.n rfl rfl rfl rfl (add_2_3 (c := z24) (s := 0) hS20 (by omega) (by omega) f21K) ?_)
      intro  M27 hP28
      obtain ⟨hS27, f28K, f28p0⟩ := hP28
      refine n_iload_n c_50_109 rfl (n_iconst c_50_110 ?_)
      refine n_if2_le c_50_111 (by omega) (by omega) ?_ ?_
      · intro h29
        exact n_rV c_50_131 rfl ⟨hS27, f28K⟩
      · intro h30
        exfalso; omega
  · intro h31
    refine n_aload_n c_50_25 rfl (n_sipush c_50_26 rfl (n_bigP hS c_50_29 c_50_31 (by omega) ?_))
    intro M32 fM32 eM32 hS32
    have hB32 := (fM32 15 0 (by omega) (by omega) (by omega)).trans hB
    refine n_aload_n c_50_34 rfl (n_aload_n c_50_35 rfl (n_getR c_50_36 sc_15.n rfl rfl rfl r_15_6 (n_iconst c_50_39 (n_iload_n c_50_40 rfl (n_v3V c_50_41 rfl sc_15.n rfl rfl rfl rfl (weighFrom25_2_3 (Ms := M32) hS32 (by exact hB32)) ?_)))))
    intro  M33 hP34
    obtain ⟨hS33, f34p0, f34p1⟩ := hP34
    have hBM33 := (f34p0 15 0 (by omega) (by omega)).trans hB32
    have hPM33 := f34p0 15 9 (by omega) (by omega)
    refine n_aload_n c_50_44 rfl (n_aload_n c_50_45 rfl (n_getR c_50_46 sc_15.n rfl rfl rfl r_15_7 (n_iconst c_50_49 (n_iload_n c_50_50 rfl (n_v3V c_50_51 rfl sc_15.n rfl rfl rfl rfl (weighFrom27_2_3 (Ms := M33) hS33 (by exact hBM33)) ?_)))))
    intro  M35 hP36
    obtain ⟨hS35, f36p0, f36p1⟩ := hP36
    have hBM35 := (f36p0 15 0 (by omega) (by omega)).trans hBM33
    have hPM35 := f36p0 15 9 (by omega) (by omega)
    have f34p1M35 := f34p1.of (fun i => f36p0 25 i (by omega) (by omega)) (fun i => f36p0 26 i (by omega) (by omega))
    refine n_aload_n c_50_54 rfl (n_aload_n c_50_55 rfl (n_getR c_50_56 sc_15.n rfl rfl rfl r_15_8 (n_bipush c_50_59 rfl (n_iload_n c_50_61 rfl (n_v3V c_50_62 rfl sc_15.n rfl rfl rfl rfl (weighFrom29_2_3 (Ms := M35) hS35 (by exact hBM35)) ?_)))))
    intro  M37 hP38
    obtain ⟨hS37, f38p0, f38p1⟩ := hP38
    have hBM37 := (f38p0 15 0 (by omega) (by omega)).trans hBM35
    have hPM37 := f38p0 15 9 (by omega) (by omega)
    have f34p1M35M37 := f34p1M35.of (fun i => f38p0 25 i (by omega) (by omega)) (fun i => f38p0 26 i (by omega) (by omega))
    have f36p1M37 := f36p1.of (fun i => f38p0 27 i (by omega) (by omega)) (fun i => f38p0 28 i (by omega) (by omega))
    refine n_aload_n c_50_65 rfl (n_iconst c_50_66 (n_putV (bi := 10) hS37 c_50_67 sc_15.n rfl rfl rfl rfl (w_15_10 (by omega)) ?_))
    intro M39 eM39 hS39
    have g39_0 : M39 15 10 = 0 := by rw [eM39]; exact nu_s _ _ _ _
    have qa : M39 15 0 = M37 15 0 := by rw [eM39]; exact nu_i (by omega)
    have qb : M39 15 9 = M37 15 9 := by rw [eM39]; exact nu_i (by omega)
    have hKb : MK 19683 27 26 702 18954 1 3 9 27 81 243 729 2187 6561 M39 := MK.mk0 (qa.trans hBM37) (by omega) (by omega) (by omega) (by omega) (f34p1M35M37.of (fun i => by rw [eM39]; exact nu_a (by omega)) (fun i => by rw [eM39]; exact nu_a (by omega))) (f36p1M37.of (fun i => by rw [eM39]; exact nu_a (by omega)) (fun i => by rw [eM39]; exact nu_a (by omega))) (f38p1.of (fun i => by rw [eM39]; exact nu_a (by omega)) (fun i => by rw [eM39]; exact nu_a (by omega)))
    refine n_aload_n c_50_70 rfl (n_aload_n c_50_71 rfl (n_aload_n c_50_72 rfl (n_getB c_50_73 hKb.b (n_getR c_50_76 sc_4.n rfl rfl rfl r_4_4 (n_iload_n c_50_79 rfl (n_v2I c_50_80 rfl sc_15.n rfl rfl rfl rfl (codeOf7_2_3  hS39 (by exact hKb.b)) ?_))))))
    intro z40 M41 hP42
    obtain ⟨eM, f42⟩ := hP42
    subst eM
    refine n_iconst c_50_83 (n_v2V c_50_84 rfl sc_15.n rfl rfl rfl rfl (add_2_3 (c := z40) (s := 0) hS39 (by omega) (by omega) hKb) ?_)
    intro  M43 hP44
    obtain ⟨hS43, f44K, f44p0⟩ := hP44
    refine n_iload_n c_50_87 rfl (n_iconst c_50_88 ?_)
    refine n_if2_le c_50_89 (by omega) (by omega) ?_ ?_
    · intro h45
      exfalso; omega
    · intro h46
      refine n_aload_n c_50_92 rfl (n_aload_n c_50_93 rfl (n_aload_n c_50_94 rfl (n_getB c_50_95 f44K.b (n_getR c_50_98 sc_4.n rfl rfl rfl r_4_3 (n_iload_n c_50_101 rfl (n_v2I c_50_102 rfl sc_15.n rfl rfl rfl rfl (codeOf6_2_3  hS43 (by exact f44K.b)) ?_))))))
      intro z47 M48 hP49
      obtain ⟨eM, f49⟩ := hP49
      subst eM
      refine n_iconst c_50_105 (n_v2V c_50_106 rfl sc_15.n rfl rfl rfl rfl (add_2_3 (c := z47) (s := 0) hS43 (by omega) (by omega) f44K) ?_)
      intro  M50 hP51
      obtain ⟨hS50, f51K, f51p0⟩ := hP51
      refine n_iload_n c_50_109 rfl (n_iconst c_50_110 ?_)
      refine n_if2_le c_50_111 (by omega) (by omega) ?_ ?_
      · intro h52
        exact n_rV c_50_131 rfl ⟨hS50, f51K⟩
      · intro h53
        exfalso; omega

set_option maxHeartbeats 4000000 in
theorem make_2_3_c {xs : List Int32} {e : Nat} {ac : Int} {M0 M : nM} {c m : Int} (hS : Sf 3 ac M0 M) (hc : 0 ≤ c ∧ c ≤ 8) (hm : -2147483648 ≤ m ∧ m ≤ 2147483647) (hca : c = ac) : ∀ nn : Nat, (∀ (x7 : Int) (M : nM), Sf 3 ac M0 M → (0 ≤ x7 ∧ x7 ≤ 257) → (MK 19683 27 26 702 18954 1 3 9 27 81 243 729 2187 6561 M) → (257 - x7) * 12 + 13 < (nn : Int) → nW xs (e + 4) 49 13 [some (2, 15), none, none, some (2, 12), some (0, c), some (0, m), some (2, 106), some (0, x7), none] [] M (nPV fun M1 => Sf 3 ac M0 M1 ∧ MK 19683 27 26 702 18954 1 3 9 27 81 243 729 2187 6561 M1)) ∧ (∀ (x7 x8 : Int) (M : nM), Sf 3 ac M0 M → (0 ≤ x7 ∧ x7 ≤ 256) → (0 ≤ x8 ∧ x8 ≤ 8) → (MK 19683 27 26 702 18954 1 3 9 27 81 243 729 2187 6561 M) → (x7 < M 15 10) → (257 - x7) * 12 + (8 - x8) * 1 + 3 < (nn : Int) → nW xs (e + 4) 49 65 [some (2, 15), none, none, some (2, 12), some (0, c), some (0, m), some (2, 106), some (0, x7), some (0, x8)] [] M (nPV fun M1 => Sf 3 ac M0 M1 ∧ MK 19683 27 26 702 18954 1 3 9 27 81 243 729 2187 6561 M1)) ∧ (∀ (x7 : Int) (M : nM), Sf 3 ac M0 M → (0 ≤ x7 ∧ x7 ≤ 256) → (MK 19683 27 26 702 18954 1 3 9 27 81 243 729 2187 6561 M) → (257 - x7) * 12 + 2 < (nn : Int) → nW xs (e + 4) 49 104 [some (2, 15), none, none, some (2, 12), some (0, c), some (0, m), some (2, 106), some (0, x7), none] [] M (nPV fun M1 => Sf 3 ac M0 M1 ∧ MK 19683 27 26 702 18954 1 3 9 27 81 243 729 2187 6561 M1)) ∧ (∀ (M : nM), Sf 3 ac M0 M → (MK 19683 27 26 702 18954 1 3 9 27 81 243 729 2187 6561 M) → 1 < (nn : Int) → nW xs (e + 4) 49 110 [some (2, 15), none, none, none, none, none, some (2, 106), none, none] [] M (nPV fun M1 => Sf 3 ac M0 M1 ∧ MK 19683 27 26 702 18954 1 3 9 27 81 243 729 2187 6561 M1)) := by
  have hd : (3 : Int) = 2 ∨ (3 : Int) = 3 := by decide
  have hac := hS.2.2.2.2
  intro nn
  induction nn with
  | zero => refine ⟨?_, ?_, ?_, ?_⟩ <;> (intros; omega)
  | succ nn ih =>
    refine ⟨?_, ?_, ?_, ?_⟩
    · intro x7 M hS k7 hK hnn
      refine n_iload c_49_13 rfl (n_aload_n c_49_15 rfl (n_getV (bi := 10) c_49_16 sc_15.n rfl rfl rfl (t_15_10 hS) ?_))
      intro z1 ez1 f2
      refine n_if2_ge c_49_19 (by omega) (by omega) ?_ ?_
      · intro h3
        refine n_fg (le_s (le_n (le_n (le_n (le_n (le_n (le_s (le_n (le_n le_0))))))))) ?_
        exact ih.2.2.2  M hS hK (by omega)
      · intro h4
        refine n_aload_n c_49_22 rfl (n_getV (bi := 10) c_49_23 sc_15.n rfl rfl rfl (t_15_10 hS) ?_)
        intro z5 ez5 f6
        refine n_sipush c_49_26 rfl ?_
        refine n_if2_gt c_49_29 (by omega) (by omega) ?_ ?_
        · intro h7
          refine n_fg (le_s (le_n (le_n (le_n (le_n (le_n (le_s (le_n (le_n le_0))))))))) ?_
          exact ih.2.2.2  M hS hK (by omega)
        · intro h8
          refine n_aload_n c_49_32 rfl (n_iload c_49_33 rfl (n_v1V c_49_35 rfl sc_15.n rfl rfl rfl rfl (bringLeast_2_3 (e0 := x7) (g := (M 15 10)) (g2 := (M 106 2)) hS (by omega) hK rfl rfl (by omega)) ?_))
          intro  M9 hP10
          obtain ⟨hS9, f10g0, f10g1, f10K⟩ := hP10
          refine n_aload_n c_49_38 rfl (n_aload_n c_49_39 rfl (n_getV (bi := 10) c_49_40 sc_15.n rfl rfl rfl (t_15_10 hS9) ?_))
          intro z11 ez11 f12
          refine n_iload c_49_43 rfl ?_
          refine n_if2_ne c_49_45 (by omega) (by omega) ?_ ?_
          · intro h13
            refine n_ldc (n := 3000002) c_49_57 rfl (n_putV (bi := 11) hS9 c_49_59 sc_15.n rfl rfl rfl rfl (w_15_11 (by omega)) ?_)
            intro M14 eM14 hS14
            have hK14 := f10K.u (by unfold Kok; omega) eM14
            have g14_0 : M14 15 10 = M9 15 10 := by rw [eM14]; exact nu_i (by omega)
            have g14_1 : M14 15 11 = 3000002 := by rw [eM14]; exact nu_s _ _ _ _
            refine n_iconst c_49_62 (n_istore (L2 := [some (2, 15), none, none, some (2, 12), some (0, c), some (0, m), some (2, 106), some (0, x7), some (0, 0)]) c_49_63 rfl rfl (n_fg (le_s (le_n (le_n (le_s (le_s (le_s (le_s (le_s (le_s le_0))))))))) ?_))
            exact ih.2.1 _ _ M14 hS14 (by omega) (by omega) hK14 (by omega) (by omega)
          · intro h15
            refine n_aload_n c_49_48 rfl (n_iload c_49_49 rfl (n_v1I c_49_51 rfl sc_15.n rfl rfl rfl rfl (largestSize_3 (f := x7) hS9 (by omega)) ?_))
            intro z16 M17 hP18
            obtain ⟨eM, f18⟩ := hP18
            subst eM
            refine n_goto c_49_54 (n_putV (bi := 11) hS9 c_49_59 sc_15.n rfl rfl rfl rfl (w_15_11 (by omega)) ?_)
            intro M19 eM19 hS19
            have hK19 := f10K.u (by unfold Kok; omega) eM19
            have g19_0 : M19 15 10 = M9 15 10 := by rw [eM19]; exact nu_i (by omega)
            have g19_1 : M19 15 11 = z16 := by rw [eM19]; exact nu_s _ _ _ _
            refine n_iconst c_49_62 (n_istore (L2 := [some (2, 15), none, none, some (2, 12), some (0, c), some (0, m), some (2, 106), some (0, x7), some (0, 0)]) c_49_63 rfl rfl (n_fg (le_s (le_n (le_n (le_s (le_s (le_s (le_s (le_s (le_s le_0))))))))) ?_))
            exact ih.2.1 _ _ M19 hS19 (by omega) (by omega) hK19 (by omega) (by omega)
    · intro x7 x8 M hS k7 k8 hK v0 hnn
      refine n_iload c_49_65 rfl (n_iload c_49_67 rfl ?_)
      refine n_if2_ge c_49_69 (by omega) (by omega) ?_ ?_
      · intro h1
        refine n_fg (le_s (le_n (le_n (le_s (le_s (le_s (le_s (le_s (le_n le_0))))))))) ?_
        exact ih.2.2.1 _ M hS (by omega) hK (by omega)
      · intro h2
        refine n_aload_n c_49_72 rfl (n_getR c_49_73 sc_15.n rfl rfl rfl r_15_2 (n_iload c_49_76 rfl (n_ialoadV c_49_78 sc_21.n rfl rfl rfl (by omega) (t_21 hS (by omega)) ?_)))
        intro z3 ez3 f4
        refine n_iconst c_49_79 (n_iadd c_49_80 rfl (n_wrap ?_))
        have f5 := n_wr_r (z3 + 1)
        generalize n_wr (z3 + 1) = z6 at f5 ⊢
        refine n_aload_n c_49_81 rfl (n_getV (bi := 11) c_49_82 sc_15.n rfl rfl rfl (t_15_11 hS) ?_)
        intro z7 ez7 f8
        refine n_if2_ge c_49_85 (by omega) (by omega) ?_ ?_
        · intro h9
          refine n_fg (le_s (le_n (le_n (le_s (le_s (le_s (le_s (le_s (le_n le_0))))))))) ?_
          exact ih.2.2.1 _ M hS (by omega) hK (by omega)
        · intro h10
          refine n_aload_n c_49_88 rfl (n_aload_n c_49_89 rfl (n_iload c_49_90 rfl (n_aaload c_49_92 sc_12.n rfl rfl rfl (by omega) (r_acts _) ?_)))
          have q11 : ActAt (55 + 3 * x8) := by unfold ActAt; omega
          have q11l : (55 + 3 * x8) < 55 + 3 * ac := by omega
          refine n_iload c_49_93 rfl (n_v2V c_49_95 rfl sc_15.n rfl rfl rfl rfl (putOn_2_3 (p := (55 + 3 * x8)) (e0 := x7) (g := (M 15 10)) hS q11 q11l (by omega) hK (by omega) (by omega)) ?_)
          intro  M12 hP13
          obtain ⟨hS12, f13K, f13p0⟩ := hP13
          refine n_iinc (L2 := [some (2, 15), none, none, some (2, 12), some (0, c), some (0, m), some (2, 106), some (0, x7), some (0, (x8 + 1))]) c_49_98 rfl rfl rfl (n_goto c_49_101 (n_fg (le_s (le_n (le_n (le_s (le_s (le_s (le_s (le_s (le_s le_0))))))))) ?_))
          exact ih.2.1 _ _ M12 hS12 (by omega) (by omega) f13K (by omega) (by omega)
    · intro x7 M hS k7 hK hnn
      refine n_iinc (L2 := [some (2, 15), none, none, some (2, 12), some (0, c), some (0, m), some (2, 106), some (0, (x7 + 1)), none]) c_49_104 rfl rfl rfl (n_goto c_49_107 (n_fg (le_s (le_n (le_n (le_s (le_s (le_s (le_s (le_s (le_n le_0))))))))) ?_))
      exact ih.1 _ M hS (by omega) hK (by omega)
    · intro M hS hK hnn
      refine n_aload_n c_49_110 rfl (n_aload c_49_111 rfl (n_v1V c_49_113 rfl sc_15.n rfl rfl rfl rfl (end_2_3  hS hK) ?_))
      intro  M1 hP2
      obtain ⟨hS1, f2K⟩ := hP2
      exact n_rV c_49_116 rfl ⟨hS1, f2K⟩
set_option maxHeartbeats 4000000 in
theorem make_2_3 {xs : List Int32} {e : Nat} {ac : Int} {M0 M : nM} {c m : Int} (hS : Sf 3 ac M0 M) (hc : 0 ≤ c ∧ c ≤ 8) (hm : -2147483648 ≤ m ∧ m ≤ 2147483647) (hca : c = ac) : nW xs (e + 4) 49 0 [some (2, 15), some (0, 2), some (2, 4), some (2, 12), some (0, c), some (0, m), some (2, 106), none, none] [] M (nPV fun M1 => Sf 3 ac M0 M1 ∧ MK 19683 27 26 702 18954 1 3 9 27 81 243 729 2187 6561 M1) := by
  have hd : (3 : Int) = 2 ∨ (3 : Int) = 3 := by decide
  have hac := hS.2.2.2.2
  refine n_aload_n c_49_0 rfl (n_aload_n c_49_1 rfl (n_putB hS c_49_2 ?_))
  intro M1 eM1 hS1
  have hB1 : M1 15 0 = 4 := by rw [eM1]; exact nu_s _ _ _ _
  refine n_aload_n c_49_5 rfl (n_iload_n c_49_6 rfl (n_v1V c_49_7 rfl sc_15.n rfl rfl rfl rfl (begin_2_3  hS1 (by exact hB1)) ?_))
  intro  M2 hP3
  obtain ⟨hS2, f3K⟩ := hP3
  refine n_iconst c_49_10 (n_istore (L2 := [some (2, 15), some (0, 2), some (2, 4), some (2, 12), some (0, c), some (0, m), some (2, 106), some (0, 0), none]) c_49_11 rfl rfl (n_fg (le_s (le_n (le_n (le_s (le_s (le_s (le_s (le_s (le_n le_0))))))))) ?_))
  exact (make_2_3_c hS hc hm hca 6228).1 _ M2 hS2 (by omega) f3K (by omega)
