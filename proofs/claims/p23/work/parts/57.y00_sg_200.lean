/-! What the methods tell. -/
set_option maxHeartbeats 4000000 in
theorem neverFallsX_2_c {xs : List Int32} {e : Nat} {ac : Int} {M0 M : nM} {p : Int} (hS : Sf 2 ac M0 M) (hp : ActAt p) (hpl : p < 55 + 3 * ac) : ∀ nn : Nat, (∀ (x1 : Int), (0 ≤ x1 ∧ x1 ≤ 8) → (NFx (fun i => M (p + 1) i) (M p 1) x1) → (8 - x1) * 16 + 16 < (nn : Int) → nW xs e 7 2 [some (2, p), some (0, x1), none] [] M (nPI fun z M1 => M = M1 ∧ (0 ≤ z ∧ z ≤ 1) ∧ (z = bb (NF (fun i => M (p + 1) i) (M p 1))))) ∧ (∀ (x1 x2 : Int), (0 ≤ x1 ∧ x1 ≤ 7) → (1 ≤ x2 ∧ x2 ≤ 14) → (NFx (fun i => M (p + 1) i) (M p 1) x1) → (x1 < M p 1) → (x2 = 1 ∨ x2 = 2 ∨ x2 = 4 ∨ x2 = 8) → (NFp (fun i => M (p + 1) i) (M p 1) x1 x2) → (8 - x1) * 16 + (14 - x2) * 1 + 1 < (nn : Int) → nW xs e 7 12 [some (2, p), some (0, x1), some (0, x2)] [] M (nPI fun z M1 => M = M1 ∧ (0 ≤ z ∧ z ≤ 1) ∧ (z = bb (NF (fun i => M (p + 1) i) (M p 1))))) := by
  have hd : (2 : Int) = 2 ∨ (2 : Int) = 3 := by decide
  have hac := hS.2.2.2.2
  intro nn
  induction nn with
  | zero => refine ⟨?_, ?_⟩ <;> (intros; omega)
  | succ nn ih =>
    refine ⟨?_, ?_⟩
    · intro x1 k1 v0 hnn
      refine n_iload_n c_7_2 rfl (n_aload_n c_7_3 rfl (n_getV (bi := 1) c_7_4 hp.c0.1.n rfl rfl rfl (t_actl hS hp hpl).2 ?_))
      intro z1 ez1 f2
      refine n_if2_ge c_7_7 (by omega) (by omega) ?_ ?_
      · intro h3
        refine n_iconst c_7_52 ?_
        exact n_rZ c_7_53 rfl (by omega) ⟨rfl, by omega, by exact (bb_t (NFx.all v0 (by omega))).symm⟩
      · intro h4
        refine n_iconst c_7_10 (n_istore_n (L2 := [some (2, p), some (0, x1), some (0, 1)]) c_7_11 rfl rfl (n_fg (le_s (le_s (le_s le_0))) ?_))
        exact ih.2 _ _ (by omega) (by omega) (by exact v0) (by omega) (by omega) (by exact fun q h0 h1 => by omega) (by omega)
    · intro x1 x2 k1 k2 v0 v1 v2 v3 hnn
      refine n_iload_n c_7_12 rfl (n_aload_n c_7_13 rfl (n_getV (bi := 1) c_7_14 hp.c0.1.n rfl rfl rfl (t_actl hS hp hpl).2 ?_))
      intro z1 ez1 f2
      refine n_if2_ge c_7_17 (by omega) (by omega) ?_ ?_
      · intro h3
        refine n_iinc (L2 := [some (2, p), some (0, (x1 + 1)), some (0, x2)]) c_7_46 rfl rfl rfl (n_goto c_7_49 (n_fg (le_s (le_s (le_n le_0))) ?_))
        exact ih.1 _ (by omega) (by exact NFx.step v0 (by omega) v3) (by omega)
      · intro h4
        refine n_aload_n c_7_20 rfl (n_getR c_7_21 hp.c0.1.n rfl rfl rfl hp.r.1 (n_iload_n c_7_24 rfl (n_ialoadV c_7_25 hp.c0.2.1.n rfl rfl rfl (by omega) (t_actrl hS hp hpl (Or.inl rfl) (by omega) (by omega)) ?_)))
        intro z5 ez5 f6
        refine n_aload_n c_7_26 rfl (n_getR c_7_27 hp.c0.1.n rfl rfl rfl hp.r.1 (n_iload_n c_7_30 rfl (n_iload_n c_7_31 rfl (n_i_ior c_7_32 rfl ?_))))
        have f7 := n_or_k (x := x1) (y := x2) (n := 3) (by decide) (by omega) (by omega)
        generalize gz8 : (n_or x1 x2) = z8 at f7 ⊢
        refine n_ialoadV c_7_33 hp.c0.2.1.n rfl rfl rfl (by omega) (t_actrl hS hp hpl (Or.inl rfl) (by omega) (by omega)) ?_
        intro z9 ez9 f10
        refine n_if2_le c_7_34 (by omega) (by omega) ?_ ?_
        · intro h11
          refine n_iload_n c_7_39 rfl (n_iconst c_7_40 (n_imul c_7_41 rfl (n_istore_n (L2 := [some (2, p), some (0, x1), some (0, (x2 * 2))]) c_7_42 rfl rfl (n_goto c_7_43 (n_fg (le_s (le_s (le_s le_0))) ?_)))))
          exact ih.2 _ _ (by omega) (by omega) (by exact v0) (by omega) (by omega) (by exact NFp.step v3 (by omega) (by show M (p + 1) x1 ≤ M (p + 1) (n_or x1 x2); subst_vars; omega)) (by omega)
        · intro h12
          refine n_iconst c_7_37 ?_
          exact n_rZ c_7_38 rfl (by omega) ⟨rfl, by omega, by exact (bb_f (fun q => by have q1 : M (p + 1) x1 ≤ M (p + 1) (n_or x1 x2) := q x1 x2 (by omega) (by omega) (by omega) (by omega); subst_vars; omega)).symm⟩
set_option maxHeartbeats 4000000 in
theorem neverFallsX_2 {xs : List Int32} {e : Nat} {ac : Int} {M0 M : nM} {p : Int} (hS : Sf 2 ac M0 M) (hp : ActAt p) (hpl : p < 55 + 3 * ac) : nW xs e 7 0 [some (2, p), none, none] [] M (nPI fun z M1 => M = M1 ∧ (0 ≤ z ∧ z ≤ 1) ∧ (z = bb (NF (fun i => M (p + 1) i) (M p 1)))) := by
  have hd : (2 : Int) = 2 ∨ (2 : Int) = 3 := by decide
  have hac := hS.2.2.2.2
  refine n_iconst c_7_0 (n_istore_n (L2 := [some (2, p), some (0, 0), none]) c_7_1 rfl rfl (n_fg (le_s (le_s (le_n le_0))) ?_))
  exact (neverFallsX_2_c hS hp hpl 330).1 _ (by omega) (by exact fun x q h0 h1 => by omega) (by omega)

set_option maxHeartbeats 4000000 in
theorem turnsOverX_2_c {xs : List Int32} {e : Nat} {ac : Int} {M0 M : nM} {p : Int} (hS : Sf 2 ac M0 M) (hp : ActAt p) (hpl : p < 55 + 3 * ac) : ∀ nn : Nat, (∀ (x1 : Int), (0 ≤ x1 ∧ x1 ≤ 8) → (TOx (fun i => M (p + 1) i) (M p 1) x1) → (8 - x1) * 1 + 1 < (nn : Int) → nW xs e 8 2 [some (2, p), some (0, x1)] [] M (nPI fun z M1 => M = M1 ∧ (0 ≤ z ∧ z ≤ 1) ∧ (z = bb (TO (fun i => M (p + 1) i) (M p 1))))) := by
  have hd : (2 : Int) = 2 ∨ (2 : Int) = 3 := by decide
  have hac := hS.2.2.2.2
  intro nn
  induction nn with
  | zero => intros; omega
  | succ nn ih =>
    intro x1 k1 v0 hnn
    refine n_iload_n c_8_2 rfl (n_aload_n c_8_3 rfl (n_getV (bi := 1) c_8_4 hp.c0.1.n rfl rfl rfl (t_actl hS hp hpl).2 ?_))
    intro z1 ez1 f2
    refine n_if2_ge c_8_7 (by omega) (by omega) ?_ ?_
    · intro h3
      refine n_iconst c_8_40 ?_
      exact n_rZ c_8_41 rfl (by omega) ⟨rfl, by omega, by exact (bb_t (TOx.all v0 (by omega))).symm⟩
    · intro h4
      refine n_aload_n c_8_10 rfl (n_getR c_8_11 hp.c0.1.n rfl rfl rfl hp.r.1 (n_iload_n c_8_14 rfl (n_ialoadV c_8_15 hp.c0.2.1.n rfl rfl rfl (by omega) (t_actrl hS hp hpl (Or.inl rfl) (by omega) (by omega)) ?_)))
      intro z5 ez5 f6
      refine n_aload_n c_8_16 rfl (n_getR c_8_17 hp.c0.1.n rfl rfl rfl hp.r.1 (n_aload_n c_8_20 rfl (n_getV (bi := 1) c_8_21 hp.c0.1.n rfl rfl rfl (t_actl hS hp hpl).2 ?_)))
      intro z7 ez7 f8
      refine n_iconst c_8_24 (n_isub c_8_25 rfl (n_iload_n c_8_26 rfl (n_isub c_8_27 rfl (n_ialoadV c_8_28 hp.c0.2.1.n rfl rfl rfl (by omega) (t_actrl hS hp hpl (Or.inl rfl) (by omega) (by omega)) ?_))))
      intro z9 ez9 f10
      refine n_if2_ne c_8_29 (by omega) (by omega) ?_ ?_
      · intro h11
        refine n_iinc (L2 := [some (2, p), some (0, (x1 + 1))]) c_8_34 rfl rfl rfl (n_goto c_8_37 (n_fg (le_s (le_s le_0)) ?_))
        exact ih _ (by omega) (by exact TOx.step v0 (by show M (p + 1) x1 ≠ M (p + 1) (M p 1 - 1 - x1); subst_vars; omega)) (by omega)
      · intro h12
        refine n_iconst c_8_32 ?_
        exact n_rZ c_8_33 rfl (by omega) ⟨rfl, by omega, by exact (bb_f (fun q => by have q1 : M (p + 1) x1 ≠ M (p + 1) (M p 1 - 1 - x1) := q x1 (by omega) (by omega); subst_vars; omega)).symm⟩
set_option maxHeartbeats 4000000 in
theorem turnsOverX_2 {xs : List Int32} {e : Nat} {ac : Int} {M0 M : nM} {p : Int} (hS : Sf 2 ac M0 M) (hp : ActAt p) (hpl : p < 55 + 3 * ac) : nW xs e 8 0 [some (2, p), none] [] M (nPI fun z M1 => M = M1 ∧ (0 ≤ z ∧ z ≤ 1) ∧ (z = bb (TO (fun i => M (p + 1) i) (M p 1)))) := by
  have hd : (2 : Int) = 2 ∨ (2 : Int) = 3 := by decide
  have hac := hS.2.2.2.2
  refine n_iconst c_8_0 (n_istore_n (L2 := [some (2, p), some (0, 0)]) c_8_1 rfl rfl (n_fg (le_s (le_s le_0)) ?_))
  exact (turnsOverX_2_c hS hp hpl 30) _ (by omega) (by exact fun x h0 h1 => by omega) (by omega)

set_option maxHeartbeats 4000000 in
theorem isSumX_2_c {xs : List Int32} {e : Nat} {ac : Int} {M0 M : nM} {p : Int} (hS : Sf 2 ac M0 M) (hp : ActAt p) (hpl : p < 55 + 3 * ac) : ∀ nn : Nat, (∀ (x1 : Int), (0 ≤ x1 ∧ x1 ≤ 8) → (SCx (fun i => M (p + 1) i) (M p 1) x1) → (8 - x1) * 16 + 16 < (nn : Int) → nW xs e 9 2 [some (2, p), some (0, x1), none, none] [] M (nPI fun z M1 => M = M1 ∧ (0 ≤ z ∧ z ≤ 1) ∧ (z = bb (SC (fun i => M (p + 1) i) (M p 1))))) ∧ (∀ (x1 x2 x3 : Int), (0 ≤ x1 ∧ x1 ≤ 7) → (0 ≤ x2 ∧ x2 ≤ 1) → (1 ≤ x3 ∧ x3 ≤ 14) → (SCx (fun i => M (p + 1) i) (M p 1) x1) → (x1 < M p 1) → (x3 = 1 ∨ x3 = 2 ∨ x3 = 4 ∨ x3 = 8) → (x2 = csn (fun i => M (p + 1) i) (M p 1) x1 x3) → (8 - x1) * 16 + (14 - x3) * 1 + 1 < (nn : Int) → nW xs e 9 19 [some (2, p), some (0, x1), some (0, x2), some (0, x3)] [] M (nPI fun z M1 => M = M1 ∧ (0 ≤ z ∧ z ≤ 1) ∧ (z = bb (SC (fun i => M (p + 1) i) (M p 1))))) := by
  have hd : (2 : Int) = 2 ∨ (2 : Int) = 3 := by decide
  have hac := hS.2.2.2.2
  intro nn
  induction nn with
  | zero => refine ⟨?_, ?_⟩ <;> (intros; omega)
  | succ nn ih =>
    refine ⟨?_, ?_⟩
    · intro x1 k1 v0 hnn
      refine n_iload_n c_9_2 rfl (n_aload_n c_9_3 rfl (n_getV (bi := 1) c_9_4 hp.c0.1.n rfl rfl rfl (t_actl hS hp hpl).2 ?_))
      intro z1 ez1 f2
      refine n_if2_ge c_9_7 (by omega) (by omega) ?_ ?_
      · intro h3
        refine n_iconst c_9_74 ?_
        exact n_rZ c_9_75 rfl (by omega) ⟨rfl, by omega, by exact (bb_t (SCx.all v0 (by omega))).symm⟩
      · intro h4
        refine n_aload_n c_9_10 rfl (n_getR c_9_11 hp.c0.1.n rfl rfl rfl hp.r.1 (n_iconst c_9_14 (n_ialoadV c_9_15 hp.c0.2.1.n rfl rfl rfl (by omega) (t_actrl hS hp hpl (Or.inl rfl) (by omega) (by omega)) ?_)))
        intro z5 ez5 f6
        refine n_istore_n (L2 := [some (2, p), some (0, x1), some (0, z5), none]) c_9_16 rfl rfl (n_iconst c_9_17 (n_istore_n (L2 := [some (2, p), some (0, x1), some (0, z5), some (0, 1)]) c_9_18 rfl rfl (n_fg (le_s (le_s (le_s (le_s le_0)))) ?_)))
        exact ih.2 _ _ _ (by omega) (by omega) (by omega) (by exact v0) (by omega) (by omega) (by show _ = M (p + 1) 0; omega) (by omega)
    · intro x1 x2 x3 k1 k2 k3 v0 v1 v2 v3 hnn
      refine n_iload_n c_9_19 rfl (n_aload_n c_9_20 rfl (n_getV (bi := 1) c_9_21 hp.c0.1.n rfl rfl rfl (t_actl hS hp hpl).2 ?_))
      intro z1 ez1 f2
      refine n_if2_ge c_9_24 (by omega) (by omega) ?_ ?_
      · intro h3
        refine n_iload_n c_9_56 rfl (n_aload_n c_9_57 rfl (n_getR c_9_58 hp.c0.1.n rfl rfl rfl hp.r.1 (n_iload_n c_9_61 rfl (n_ialoadV c_9_62 hp.c0.2.1.n rfl rfl rfl (by omega) (t_actrl hS hp hpl (Or.inl rfl) (by omega) (by omega)) ?_))))
        intro z4 ez4 f5
        refine n_if2_eq c_9_63 (by omega) (by omega) ?_ ?_
        · intro h6
          refine n_iinc (L2 := [some (2, p), some (0, (x1 + 1)), some (0, x2), some (0, x3)]) c_9_68 rfl rfl rfl (n_goto c_9_71 (n_fg (le_s (le_s (le_n (le_n le_0)))) ?_))
          exact ih.1 _ (by omega) (by exact SCx.step (f := (fun i => M (p + 1) i)) v0 v2 (by omega) v3 (by show x2 = M (p + 1) x1; omega)) (by omega)
        · intro h7
          refine n_iconst c_9_66 ?_
          exact n_rZ c_9_67 rfl (by omega) ⟨rfl, by omega, by exact (bb_f (SCx.no (f := (fun i => M (p + 1) i)) (by omega) (by omega) v2 (by omega) v3 (by show x2 ≠ M (p + 1) x1; omega))).symm⟩
      · intro h8
        refine n_iload_n c_9_27 rfl (n_iload_n c_9_28 rfl (n_i_iand c_9_29 rfl ?_))
        have f9 := n_and_y (x := x1) (y := x3) (by omega)
        generalize gz10 : (n_and x1 x3) = z10 at f9 ⊢
        refine n_if0_eq c_9_30 (by omega) ?_ ?_
        · intro h11
          refine n_iload_n c_9_49 rfl (n_iconst c_9_50 (n_imul c_9_51 rfl (n_istore_n (L2 := [some (2, p), some (0, x1), some (0, x2), some (0, (x3 * 2))]) c_9_52 rfl rfl (n_goto c_9_53 (n_fg (le_s (le_s (le_s (le_s le_0)))) ?_)))))
          exact ih.2 _ _ _ (by omega) (by omega) (by omega) (by exact v0) (by omega) (by omega) (by exact csn_a (by omega) (by omega) v3) (by omega)
        · intro h12
          refine n_iload_n c_9_33 rfl (n_aload_n c_9_34 rfl (n_getR c_9_35 hp.c0.1.n rfl rfl rfl hp.r.1 (n_iload_n c_9_38 rfl (n_ialoadV c_9_39 hp.c0.2.1.n rfl rfl rfl (by omega) (t_actrl hS hp hpl (Or.inl rfl) (by omega) (by omega)) ?_))))
          intro z13 ez13 f14
          refine n_aload_n c_9_40 rfl (n_getR c_9_41 hp.c0.1.n rfl rfl rfl hp.r.1 (n_iconst c_9_44 (n_ialoadV c_9_45 hp.c0.2.1.n rfl rfl rfl (by omega) (t_actrl hS hp hpl (Or.inl rfl) (by omega) (by omega)) ?_)))
          intro z15 ez15 f16
          refine n_i_ixor c_9_46 rfl ?_
          have f17 := n_xor_1 (x := z13) (y := z15) (by omega) (by omega)
          generalize gz18 : (n_xor z13 z15) = z18 at f17 ⊢
          refine n_i_ixor c_9_47 rfl ?_
          have f19 := n_xor_1 (x := x2) (y := z18) (by omega) (by omega)
          generalize gz20 : (n_xor x2 z18) = z20 at f19 ⊢
          refine n_istore_n (L2 := [some (2, p), some (0, x1), some (0, z20), some (0, x3)]) c_9_48 rfl rfl (n_iload_n c_9_49 rfl (n_iconst c_9_50 (n_imul c_9_51 rfl (n_istore_n (L2 := [some (2, p), some (0, x1), some (0, z20), some (0, (x3 * 2))]) c_9_52 rfl rfl (n_goto c_9_53 (n_fg (le_s (le_s (le_s (le_s le_0)))) ?_))))))
          exact ih.2 _ _ _ (by omega) (by omega) (by omega) (by exact v0) (by omega) (by omega) (by have q := csn_b (f := (fun i => M (p + 1) i)) (r := (M p 1)) (x := x1) (n := x3) (by omega) (by omega) (by omega) v3; subst_vars; exact q) (by omega)
set_option maxHeartbeats 4000000 in
theorem isSumX_2 {xs : List Int32} {e : Nat} {ac : Int} {M0 M : nM} {p : Int} (hS : Sf 2 ac M0 M) (hp : ActAt p) (hpl : p < 55 + 3 * ac) : nW xs e 9 0 [some (2, p), none, none, none] [] M (nPI fun z M1 => M = M1 ∧ (0 ≤ z ∧ z ≤ 1) ∧ (z = bb (SC (fun i => M (p + 1) i) (M p 1)))) := by
  have hd : (2 : Int) = 2 ∨ (2 : Int) = 3 := by decide
  have hac := hS.2.2.2.2
  refine n_iconst c_9_0 (n_istore_n (L2 := [some (2, p), some (0, 0), none, none]) c_9_1 rfl rfl (n_fg (le_s (le_s (le_n (le_n le_0)))) ?_))
  exact (isSumX_2_c hS hp hpl 330).1 _ (by omega) (by exact fun x h0 h1 => by omega) (by omega)

set_option maxHeartbeats 4000000 in
theorem signBitsX_2 {xs : List Int32} {e : Nat} {ac : Int} {M0 M : nM} {p : Int} (hS : Sf 2 ac M0 M) (hp : ActAt p) (hpl : p < 55 + 3 * ac) : nW xs (e + 1) 5 0 [some (2, p), none] [] M (nPI fun z M1 => M = M1 ∧ (0 ≤ z ∧ z ≤ 31) ∧ (z = sgc (fun i => M (p + 1) i) (M p 1))) := by
  have hd : (2 : Int) = 2 ∨ (2 : Int) = 3 := by decide
  have hac := hS.2.2.2.2
  refine n_iconst c_5_0 (n_istore_n (L2 := [some (2, p), some (0, 0)]) c_5_1 rfl rfl (n_aload_n c_5_2 rfl (n_getR c_5_3 hp.c0.1.n rfl rfl rfl hp.r.1 (n_iconst c_5_6 (n_ialoadV c_5_7 hp.c0.2.1.n rfl rfl rfl (by omega) (t_actrl hS hp hpl (Or.inl rfl) (by omega) (by omega)) ?_)))))
  intro z1 ez1 f2
  refine n_if0_ne c_5_8 (by omega) ?_ ?_
  · intro h3
    refine n_aload_n c_5_15 rfl (n_getR c_5_16 hp.c0.1.n rfl rfl rfl hp.r.1 (n_aload_n c_5_19 rfl (n_getV (bi := 1) c_5_20 hp.c0.1.n rfl rfl rfl (t_actl hS hp hpl).2 ?_)))
    intro z4 ez4 f5
    refine n_iconst c_5_23 (n_isub c_5_24 rfl (n_ialoadV c_5_25 hp.c0.2.1.n rfl rfl rfl (by omega) (t_actrl hS hp hpl (Or.inl rfl) (by omega) (by omega)) ?_))
    intro z6 ez6 f7
    have h25 : z6 = M (p + 1) (M p 1 - 1) := by subst_vars; rfl
    refine n_iconst c_5_26 ?_
    refine n_if2_ne c_5_27 (by omega) (by omega) ?_ ?_
    · intro h8
      refine n_aload_n c_5_34 rfl (n_v0I c_5_35 rfl hp.c0.1.n rfl rfl rfl rfl (neverFallsX_2 (p := p) hS hp hpl) ?_)
      intro z9 M10 hP11
      obtain ⟨eM, f11, f11p0⟩ := hP11
      subst eM
      refine n_if0_eq c_5_38 (by omega) ?_ ?_
      · intro h12
        refine n_aload_n c_5_45 rfl (n_v0I c_5_46 rfl hp.c0.1.n rfl rfl rfl rfl (turnsOverX_2 (p := p) hS hp hpl) ?_)
        intro z13 M14 hP15
        obtain ⟨eM, f15, f15p0⟩ := hP15
        subst eM
        refine n_if0_eq c_5_49 (by omega) ?_ ?_
        · intro h16
          refine n_aload_n c_5_57 rfl (n_v0I c_5_58 rfl hp.c0.1.n rfl rfl rfl rfl (isSumX_2 (p := p) hS hp hpl) ?_)
          intro z17 M18 hP19
          obtain ⟨eM, f19, f19p0⟩ := hP19
          subst eM
          refine n_if0_eq c_5_61 (by omega) ?_ ?_
          · intro h20
            refine n_iload_n c_5_69 rfl ?_
            exact n_rI c_5_70 rfl ⟨rfl, by omega, by have q0 : bb (((fun i => M (p + 1) i)) 0 = 0) = 0 := bb_f (show ¬ (M (p + 1) 0 = 0) by omega); have q1 : bb (((fun i => M (p + 1) i)) ((M p 1) - 1) = 1) = 0 := bb_f (show ¬ (M (p + 1) (M p 1 - 1) = 1) by omega); have q2 := f11p0; have q3 := f15p0; have q4 := f19p0; show _ = bb (((fun i => M (p + 1) i)) 0 = 0) + 2 * bb (((fun i => M (p + 1) i)) ((M p 1) - 1) = 1) + 4 * bb (NF (fun i => M (p + 1) i) (M p 1)) + 8 * bb (TO (fun i => M (p + 1) i) (M p 1)) + 16 * bb (SC (fun i => M (p + 1) i) (M p 1)); rw [q0, q1]; omega⟩
          · intro h21
            refine n_iload_n c_5_64 rfl (n_bipush c_5_65 rfl (n_i_ior (z := 16) c_5_67 (by decide) ?_))
            refine n_istore_n (L2 := [some (2, p), some (0, 16)]) c_5_68 rfl rfl (n_iload_n c_5_69 rfl ?_)
            exact n_rI c_5_70 rfl ⟨rfl, by omega, by have q0 : bb (((fun i => M (p + 1) i)) 0 = 0) = 0 := bb_f (show ¬ (M (p + 1) 0 = 0) by omega); have q1 : bb (((fun i => M (p + 1) i)) ((M p 1) - 1) = 1) = 0 := bb_f (show ¬ (M (p + 1) (M p 1 - 1) = 1) by omega); have q2 := f11p0; have q3 := f15p0; have q4 := f19p0; show _ = bb (((fun i => M (p + 1) i)) 0 = 0) + 2 * bb (((fun i => M (p + 1) i)) ((M p 1) - 1) = 1) + 4 * bb (NF (fun i => M (p + 1) i) (M p 1)) + 8 * bb (TO (fun i => M (p + 1) i) (M p 1)) + 16 * bb (SC (fun i => M (p + 1) i) (M p 1)); rw [q0, q1]; omega⟩
        · intro h22
          refine n_iload_n c_5_52 rfl (n_bipush c_5_53 rfl (n_i_ior (z := 8) c_5_55 (by decide) ?_))
          refine n_istore_n (L2 := [some (2, p), some (0, 8)]) c_5_56 rfl rfl (n_aload_n c_5_57 rfl (n_v0I c_5_58 rfl hp.c0.1.n rfl rfl rfl rfl (isSumX_2 (p := p) hS hp hpl) ?_))
          intro z23 M24 hP25
          obtain ⟨eM, f25, f25p0⟩ := hP25
          subst eM
          refine n_if0_eq c_5_61 (by omega) ?_ ?_
          · intro h26
            refine n_iload_n c_5_69 rfl ?_
            exact n_rI c_5_70 rfl ⟨rfl, by omega, by have q0 : bb (((fun i => M (p + 1) i)) 0 = 0) = 0 := bb_f (show ¬ (M (p + 1) 0 = 0) by omega); have q1 : bb (((fun i => M (p + 1) i)) ((M p 1) - 1) = 1) = 0 := bb_f (show ¬ (M (p + 1) (M p 1 - 1) = 1) by omega); have q2 := f11p0; have q3 := f15p0; have q4 := f25p0; show _ = bb (((fun i => M (p + 1) i)) 0 = 0) + 2 * bb (((fun i => M (p + 1) i)) ((M p 1) - 1) = 1) + 4 * bb (NF (fun i => M (p + 1) i) (M p 1)) + 8 * bb (TO (fun i => M (p + 1) i) (M p 1)) + 16 * bb (SC (fun i => M (p + 1) i) (M p 1)); rw [q0, q1]; omega⟩
          · intro h27
            refine n_iload_n c_5_64 rfl (n_bipush c_5_65 rfl (n_i_ior (z := 24) c_5_67 (by decide) ?_))
            refine n_istore_n (L2 := [some (2, p), some (0, 24)]) c_5_68 rfl rfl (n_iload_n c_5_69 rfl ?_)
            exact n_rI c_5_70 rfl ⟨rfl, by omega, by have q0 : bb (((fun i => M (p + 1) i)) 0 = 0) = 0 := bb_f (show ¬ (M (p + 1) 0 = 0) by omega); have q1 : bb (((fun i => M (p + 1) i)) ((M p 1) - 1) = 1) = 0 := bb_f (show ¬ (M (p + 1) (M p 1 - 1) = 1) by omega); have q2 := f11p0; have q3 := f15p0; have q4 := f25p0; show _ = bb (((fun i => M (p + 1) i)) 0 = 0) + 2 * bb (((fun i => M (p + 1) i)) ((M p 1) - 1) = 1) + 4 * bb (NF (fun i => M (p + 1) i) (M p 1)) + 8 * bb (TO (fun i => M (p + 1) i) (M p 1)) + 16 * bb (SC (fun i => M (p + 1) i) (M p 1)); rw [q0, q1]; omega⟩
      · intro h28
        refine n_iload_n c_5_41 rfl (n_iconst c_5_42 (n_i_ior (z := 4) c_5_43 (by decide) ?_))
        refine n_istore_n (L2 := [some (2, p), some (0, 4)]) c_5_44 rfl rfl (n_aload_n c_5_45 rfl (n_v0I c_5_46 rfl hp.c0.1.n rfl rfl rfl rfl (turnsOverX_2 (p := p) hS hp hpl) ?_))
        intro z29 M30 hP31
        obtain ⟨eM, f31, f31p0⟩ := hP31
        subst eM
        refine n_if0_eq c_5_49 (by omega) ?_ ?_
        · intro h32
          refine n_aload_n c_5_57 rfl (n_v0I c_5_58 rfl hp.c0.1.n rfl rfl rfl rfl (isSumX_2 (p := p) hS hp hpl) ?_)
          intro z33 M34 hP35
          obtain ⟨eM, f35, f35p0⟩ := hP35
          subst eM
          refine n_if0_eq c_5_61 (by omega) ?_ ?_
          · intro h36
            refine n_iload_n c_5_69 rfl ?_
            exact n_rI c_5_70 rfl ⟨rfl, by omega, by have q0 : bb (((fun i => M (p + 1) i)) 0 = 0) = 0 := bb_f (show ¬ (M (p + 1) 0 = 0) by omega); have q1 : bb (((fun i => M (p + 1) i)) ((M p 1) - 1) = 1) = 0 := bb_f (show ¬ (M (p + 1) (M p 1 - 1) = 1) by omega); have q2 := f11p0; have q3 := f31p0; have q4 := f35p0; show _ = bb (((fun i => M (p + 1) i)) 0 = 0) + 2 * bb (((fun i => M (p + 1) i)) ((M p 1) - 1) = 1) + 4 * bb (NF (fun i => M (p + 1) i) (M p 1)) + 8 * bb (TO (fun i => M (p + 1) i) (M p 1)) + 16 * bb (SC (fun i => M (p + 1) i) (M p 1)); rw [q0, q1]; omega⟩
          · intro h37
            refine n_iload_n c_5_64 rfl (n_bipush c_5_65 rfl (n_i_ior (z := 20) c_5_67 (by decide) ?_))
            refine n_istore_n (L2 := [some (2, p), some (0, 20)]) c_5_68 rfl rfl (n_iload_n c_5_69 rfl ?_)
            exact n_rI c_5_70 rfl ⟨rfl, by omega, by have q0 : bb (((fun i => M (p + 1) i)) 0 = 0) = 0 := bb_f (show ¬ (M (p + 1) 0 = 0) by omega); have q1 : bb (((fun i => M (p + 1) i)) ((M p 1) - 1) = 1) = 0 := bb_f (show ¬ (M (p + 1) (M p 1 - 1) = 1) by omega); have q2 := f11p0; have q3 := f31p0; have q4 := f35p0; show _ = bb (((fun i => M (p + 1) i)) 0 = 0) + 2 * bb (((fun i => M (p + 1) i)) ((M p 1) - 1) = 1) + 4 * bb (NF (fun i => M (p + 1) i) (M p 1)) + 8 * bb (TO (fun i => M (p + 1) i) (M p 1)) + 16 * bb (SC (fun i => M (p + 1) i) (M p 1)); rw [q0, q1]; omega⟩
        · intro h38
          refine n_iload_n c_5_52 rfl (n_bipush c_5_53 rfl (n_i_ior (z := 12) c_5_55 (by decide) ?_))
          refine n_istore_n (L2 := [some (2, p), some (0, 12)]) c_5_56 rfl rfl (n_aload_n c_5_57 rfl (n_v0I c_5_58 rfl hp.c0.1.n rfl rfl rfl rfl (isSumX_2 (p := p) hS hp hpl) ?_))
          intro z39 M40 hP41
          obtain ⟨eM, f41, f41p0⟩ := hP41
          subst eM
          refine n_if0_eq c_5_61 (by omega) ?_ ?_
          · intro h42
            refine n_iload_n c_5_69 rfl ?_
            exact n_rI c_5_70 rfl ⟨rfl, by omega, by have q0 : bb (((fun i => M (p + 1) i)) 0 = 0) = 0 := bb_f (show ¬ (M (p + 1) 0 = 0) by omega); have q1 : bb (((fun i => M (p + 1) i)) ((M p 1) - 1) = 1) = 0 := bb_f (show ¬ (M (p + 1) (M p 1 - 1) = 1) by omega); have q2 := f11p0; have q3 := f31p0; have q4 := f41p0; show _ = bb (((fun i => M (p + 1) i)) 0 = 0) + 2 * bb (((fun i => M (p + 1) i)) ((M p 1) - 1) = 1) + 4 * bb (NF (fun i => M (p + 1) i) (M p 1)) + 8 * bb (TO (fun i => M (p + 1) i) (M p 1)) + 16 * bb (SC (fun i => M (p + 1) i) (M p 1)); rw [q0, q1]; omega⟩
          · intro h43
            refine n_iload_n c_5_64 rfl (n_bipush c_5_65 rfl (n_i_ior (z := 28) c_5_67 (by decide) ?_))
            refine n_istore_n (L2 := [some (2, p), some (0, 28)]) c_5_68 rfl rfl (n_iload_n c_5_69 rfl ?_)
            exact n_rI c_5_70 rfl ⟨rfl, by omega, by have q0 : bb (((fun i => M (p + 1) i)) 0 = 0) = 0 := bb_f (show ¬ (M (p + 1) 0 = 0) by omega); have q1 : bb (((fun i => M (p + 1) i)) ((M p 1) - 1) = 1) = 0 := bb_f (show ¬ (M (p + 1) (M p 1 - 1) = 1) by omega); have q2 := f11p0; have q3 := f31p0; have q4 := f41p0; show _ = bb (((fun i => M (p + 1) i)) 0 = 0) + 2 * bb (((fun i => M (p + 1) i)) ((M p 1) - 1) = 1) + 4 * bb (NF (fun i => M (p + 1) i) (M p 1)) + 8 * bb (TO (fun i => M (p + 1) i) (M p 1)) + 16 * bb (SC (fun i => M (p + 1) i) (M p 1)); rw [q0, q1]; omega⟩
    · intro h44
      refine n_iload_n c_5_30 rfl (n_iconst c_5_31 (n_i_ior (z := 2) c_5_32 (by decide) ?_))
      refine n_istore_n (L2 := [some (2, p), some (0, 2)]) c_5_33 rfl rfl (n_aload_n c_5_34 rfl (n_v0I c_5_35 rfl hp.c0.1.n rfl rfl rfl rfl (neverFallsX_2 (p := p) hS hp hpl) ?_))
      intro z45 M46 hP47
      obtain ⟨eM, f47, f47p0⟩ := hP47
      subst eM
      refine n_if0_eq c_5_38 (by omega) ?_ ?_
      · intro h48
        refine n_aload_n c_5_45 rfl (n_v0I c_5_46 rfl hp.c0.1.n rfl rfl rfl rfl (turnsOverX_2 (p := p) hS hp hpl) ?_)
        intro z49 M50 hP51
        obtain ⟨eM, f51, f51p0⟩ := hP51
        subst eM
        refine n_if0_eq c_5_49 (by omega) ?_ ?_
        · intro h52
          refine n_aload_n c_5_57 rfl (n_v0I c_5_58 rfl hp.c0.1.n rfl rfl rfl rfl (isSumX_2 (p := p) hS hp hpl) ?_)
          intro z53 M54 hP55
          obtain ⟨eM, f55, f55p0⟩ := hP55
          subst eM
          refine n_if0_eq c_5_61 (by omega) ?_ ?_
          · intro h56
            refine n_iload_n c_5_69 rfl ?_
            exact n_rI c_5_70 rfl ⟨rfl, by omega, by have q0 : bb (((fun i => M (p + 1) i)) 0 = 0) = 0 := bb_f (show ¬ (M (p + 1) 0 = 0) by omega); have q1 : bb (((fun i => M (p + 1) i)) ((M p 1) - 1) = 1) = 1 := bb_t (show M (p + 1) (M p 1 - 1) = 1 by omega); have q2 := f47p0; have q3 := f51p0; have q4 := f55p0; show _ = bb (((fun i => M (p + 1) i)) 0 = 0) + 2 * bb (((fun i => M (p + 1) i)) ((M p 1) - 1) = 1) + 4 * bb (NF (fun i => M (p + 1) i) (M p 1)) + 8 * bb (TO (fun i => M (p + 1) i) (M p 1)) + 16 * bb (SC (fun i => M (p + 1) i) (M p 1)); rw [q0, q1]; omega⟩
          · intro h57
            refine n_iload_n c_5_64 rfl (n_bipush c_5_65 rfl (n_i_ior (z := 18) c_5_67 (by decide) ?_))
            refine n_istore_n (L2 := [some (2, p), some (0, 18)]) c_5_68 rfl rfl (n_iload_n c_5_69 rfl ?_)
            exact n_rI c_5_70 rfl ⟨rfl, by omega, by have q0 : bb (((fun i => M (p + 1) i)) 0 = 0) = 0 := bb_f (show ¬ (M (p + 1) 0 = 0) by omega); have q1 : bb (((fun i => M (p + 1) i)) ((M p 1) - 1) = 1) = 1 := bb_t (show M (p + 1) (M p 1 - 1) = 1 by omega); have q2 := f47p0; have q3 := f51p0; have q4 := f55p0; show _ = bb (((fun i => M (p + 1) i)) 0 = 0) + 2 * bb (((fun i => M (p + 1) i)) ((M p 1) - 1) = 1) + 4 * bb (NF (fun i => M (p + 1) i) (M p 1)) + 8 * bb (TO (fun i => M (p + 1) i) (M p 1)) + 16 * bb (SC (fun i => M (p + 1) i) (M p 1)); rw [q0, q1]; omega⟩
        · intro h58
          refine n_iload_n c_5_52 rfl (n_bipush c_5_53 rfl (n_i_ior (z := 10) c_5_55 (by decide) ?_))
          refine n_istore_n (L2 := [some (2, p), some (0, 10)]) c_5_56 rfl rfl (n_aload_n c_5_57 rfl (n_v0I c_5_58 rfl hp.c0.1.n rfl rfl rfl rfl (isSumX_2 (p := p) hS hp hpl) ?_))
          intro z59 M60 hP61
          obtain ⟨eM, f61, f61p0⟩ := hP61
          subst eM
          refine n_if0_eq c_5_61 (by omega) ?_ ?_
          · intro h62
            refine n_iload_n c_5_69 rfl ?_
            exact n_rI c_5_70 rfl ⟨rfl, by omega, by have q0 : bb (((fun i => M (p + 1) i)) 0 = 0) = 0 := bb_f (show ¬ (M (p + 1) 0 = 0) by omega); have q1 : bb (((fun i => M (p + 1) i)) ((M p 1) - 1) = 1) = 1 := bb_t (show M (p + 1) (M p 1 - 1) = 1 by omega); have q2 := f47p0; have q3 := f51p0; have q4 := f61p0; show _ = bb (((fun i => M (p + 1) i)) 0 = 0) + 2 * bb (((fun i => M (p + 1) i)) ((M p 1) - 1) = 1) + 4 * bb (NF (fun i => M (p + 1) i) (M p 1)) + 8 * bb (TO (fun i => M (p + 1) i) (M p 1)) + 16 * bb (SC (fun i => M (p + 1) i) (M p 1)); rw [q0, q1]; omega⟩
          · intro h63
            refine n_iload_n c_5_64 rfl (n_bipush c_5_65 rfl (n_i_ior (z := 26) c_5_67 (by decide) ?_))
            refine n_istore_n (L2 := [some (2, p), some (0, 26)]) c_5_68 rfl rfl (n_iload_n c_5_69 rfl ?_)
            exact n_rI c_5_70 rfl ⟨rfl, by omega, by have q0 : bb (((fun i => M (p + 1) i)) 0 = 0) = 0 := bb_f (show ¬ (M (p + 1) 0 = 0) by omega); have q1 : bb (((fun i => M (p + 1) i)) ((M p 1) - 1) = 1) = 1 := bb_t (show M (p + 1) (M p 1 - 1) = 1 by omega); have q2 := f47p0; have q3 := f51p0; have q4 := f61p0; show _ = bb (((fun i => M (p + 1) i)) 0 = 0) + 2 * bb (((fun i => M (p + 1) i)) ((M p 1) - 1) = 1) + 4 * bb (NF (fun i => M (p + 1) i) (M p 1)) + 8 * bb (TO (fun i => M (p + 1) i) (M p 1)) + 16 * bb (SC (fun i => M (p + 1) i) (M p 1)); rw [q0, q1]; omega⟩
      · intro h64
        refine n_iload_n c_5_41 rfl (n_iconst c_5_42 (n_i_ior (z := 6) c_5_43 (by decide) ?_))
        refine n_istore_n (L2 := [some (2, p), some (0, 6)]) c_5_44 rfl rfl (n_aload_n c_5_45 rfl (n_v0I c_5_46 rfl hp.c0.1.n rfl rfl rfl rfl (turnsOverX_2 (p := p) hS hp hpl) ?_))
        intro z65 M66 hP67
        obtain ⟨eM, f67, f67p0⟩ := hP67
        subst eM
        refine n_if0_eq c_5_49 (by omega) ?_ ?_
        · intro h68
          refine n_aload_n c_5_57 rfl (n_v0I c_5_58 rfl hp.c0.1.n rfl rfl rfl rfl (isSumX_2 (p := p) hS hp hpl) ?_)
          intro z69 M70 hP71
          obtain ⟨eM, f71, f71p0⟩ := hP71
          subst eM
          refine n_if0_eq c_5_61 (by omega) ?_ ?_
          · intro h72
            refine n_iload_n c_5_69 rfl ?_
            exact n_rI c_5_70 rfl ⟨rfl, by omega, by have q0 : bb (((fun i => M (p + 1) i)) 0 = 0) = 0 := bb_f (show ¬ (M (p + 1) 0 = 0) by omega); have q1 : bb (((fun i => M (p + 1) i)) ((M p 1) - 1) = 1) = 1 := bb_t (show M (p + 1) (M p 1 - 1) = 1 by omega); have q2 := f47p0; have q3 := f67p0; have q4 := f71p0; show _ = bb (((fun i => M (p + 1) i)) 0 = 0) + 2 * bb (((fun i => M (p + 1) i)) ((M p 1) - 1) = 1) + 4 * bb (NF (fun i => M (p + 1) i) (M p 1)) + 8 * bb (TO (fun i => M (p + 1) i) (M p 1)) + 16 * bb (SC (fun i => M (p + 1) i) (M p 1)); rw [q0, q1]; omega⟩
          · intro h73
            refine n_iload_n c_5_64 rfl (n_bipush c_5_65 rfl (n_i_ior (z := 22) c_5_67 (by decide) ?_))
            refine n_istore_n (L2 := [some (2, p), some (0, 22)]) c_5_68 rfl rfl (n_iload_n c_5_69 rfl ?_)
            exact n_rI c_5_70 rfl ⟨rfl, by omega, by have q0 : bb (((fun i => M (p + 1) i)) 0 = 0) = 0 := bb_f (show ¬ (M (p + 1) 0 = 0) by omega); have q1 : bb (((fun i => M (p + 1) i)) ((M p 1) - 1) = 1) = 1 := bb_t (show M (p + 1) (M p 1 - 1) = 1 by omega); have q2 := f47p0; have q3 := f67p0; have q4 := f71p0; show _ = bb (((fun i => M (p + 1) i)) 0 = 0) + 2 * bb (((fun i => M (p + 1) i)) ((M p 1) - 1) = 1) + 4 * bb (NF (fun i => M (p + 1) i) (M p 1)) + 8 * bb (TO (fun i => M (p + 1) i) (M p 1)) + 16 * bb (SC (fun i => M (p + 1) i) (M p 1)); rw [q0, q1]; omega⟩
        · intro h74
          refine n_iload_n c_5_52 rfl (n_bipush c_5_53 rfl (n_i_ior (z := 14) c_5_55 (by decide) ?_))
          refine n_istore_n (L2 := [some (2, p), some (0, 14)]) c_5_56 rfl rfl (n_aload_n c_5_57 rfl (n_v0I c_5_58 rfl hp.c0.1.n rfl rfl rfl rfl (isSumX_2 (p := p) hS hp hpl) ?_))
          intro z75 M76 hP77
          obtain ⟨eM, f77, f77p0⟩ := hP77
          subst eM
          refine n_if0_eq c_5_61 (by omega) ?_ ?_
          · intro h78
            refine n_iload_n c_5_69 rfl ?_
            exact n_rI c_5_70 rfl ⟨rfl, by omega, by have q0 : bb (((fun i => M (p + 1) i)) 0 = 0) = 0 := bb_f (show ¬ (M (p + 1) 0 = 0) by omega); have q1 : bb (((fun i => M (p + 1) i)) ((M p 1) - 1) = 1) = 1 := bb_t (show M (p + 1) (M p 1 - 1) = 1 by omega); have q2 := f47p0; have q3 := f67p0; have q4 := f77p0; show _ = bb (((fun i => M (p + 1) i)) 0 = 0) + 2 * bb (((fun i => M (p + 1) i)) ((M p 1) - 1) = 1) + 4 * bb (NF (fun i => M (p + 1) i) (M p 1)) + 8 * bb (TO (fun i => M (p + 1) i) (M p 1)) + 16 * bb (SC (fun i => M (p + 1) i) (M p 1)); rw [q0, q1]; omega⟩
          · intro h79
            refine n_iload_n c_5_64 rfl (n_bipush c_5_65 rfl (n_i_ior (z := 30) c_5_67 (by decide) ?_))
            refine n_istore_n (L2 := [some (2, p), some (0, 30)]) c_5_68 rfl rfl (n_iload_n c_5_69 rfl ?_)
            exact n_rI c_5_70 rfl ⟨rfl, by omega, by have q0 : bb (((fun i => M (p + 1) i)) 0 = 0) = 0 := bb_f (show ¬ (M (p + 1) 0 = 0) by omega); have q1 : bb (((fun i => M (p + 1) i)) ((M p 1) - 1) = 1) = 1 := bb_t (show M (p + 1) (M p 1 - 1) = 1 by omega); have q2 := f47p0; have q3 := f67p0; have q4 := f77p0; show _ = bb (((fun i => M (p + 1) i)) 0 = 0) + 2 * bb (((fun i => M (p + 1) i)) ((M p 1) - 1) = 1) + 4 * bb (NF (fun i => M (p + 1) i) (M p 1)) + 8 * bb (TO (fun i => M (p + 1) i) (M p 1)) + 16 * bb (SC (fun i => M (p + 1) i) (M p 1)); rw [q0, q1]; omega⟩
  · intro h80
    refine n_iload_n c_5_11 rfl (n_iconst c_5_12 (n_i_ior (z := 1) c_5_13 (by decide) ?_))
    refine n_istore_n (L2 := [some (2, p), some (0, 1)]) c_5_14 rfl rfl (n_aload_n c_5_15 rfl (n_getR c_5_16 hp.c0.1.n rfl rfl rfl hp.r.1 (n_aload_n c_5_19 rfl (n_getV (bi := 1) c_5_20 hp.c0.1.n rfl rfl rfl (t_actl hS hp hpl).2 ?_))))
    intro z81 ez81 f82
    refine n_iconst c_5_23 (n_isub c_5_24 rfl (n_ialoadV c_5_25 hp.c0.2.1.n rfl rfl rfl (by omega) (t_actrl hS hp hpl (Or.inl rfl) (by omega) (by omega)) ?_))
    intro z83 ez83 f84
    have h25 : z83 = M (p + 1) (M p 1 - 1) := by subst_vars; rfl
    refine n_iconst c_5_26 ?_
    refine n_if2_ne c_5_27 (by omega) (by omega) ?_ ?_
    · intro h85
      refine n_aload_n c_5_34 rfl (n_v0I c_5_35 rfl hp.c0.1.n rfl rfl rfl rfl (neverFallsX_2 (p := p) hS hp hpl) ?_)
      intro z86 M87 hP88
      obtain ⟨eM, f88, f88p0⟩ := hP88
      subst eM
      refine n_if0_eq c_5_38 (by omega) ?_ ?_
      · intro h89
        refine n_aload_n c_5_45 rfl (n_v0I c_5_46 rfl hp.c0.1.n rfl rfl rfl rfl (turnsOverX_2 (p := p) hS hp hpl) ?_)
        intro z90 M91 hP92
        obtain ⟨eM, f92, f92p0⟩ := hP92
        subst eM
        refine n_if0_eq c_5_49 (by omega) ?_ ?_
        · intro h93
          refine n_aload_n c_5_57 rfl (n_v0I c_5_58 rfl hp.c0.1.n rfl rfl rfl rfl (isSumX_2 (p := p) hS hp hpl) ?_)
          intro z94 M95 hP96
          obtain ⟨eM, f96, f96p0⟩ := hP96
          subst eM
          refine n_if0_eq c_5_61 (by omega) ?_ ?_
          · intro h97
            refine n_iload_n c_5_69 rfl ?_
            exact n_rI c_5_70 rfl ⟨rfl, by omega, by have q0 : bb (((fun i => M (p + 1) i)) 0 = 0) = 1 := bb_t (show M (p + 1) 0 = 0 by omega); have q1 : bb (((fun i => M (p + 1) i)) ((M p 1) - 1) = 1) = 0 := bb_f (show ¬ (M (p + 1) (M p 1 - 1) = 1) by omega); have q2 := f88p0; have q3 := f92p0; have q4 := f96p0; show _ = bb (((fun i => M (p + 1) i)) 0 = 0) + 2 * bb (((fun i => M (p + 1) i)) ((M p 1) - 1) = 1) + 4 * bb (NF (fun i => M (p + 1) i) (M p 1)) + 8 * bb (TO (fun i => M (p + 1) i) (M p 1)) + 16 * bb (SC (fun i => M (p + 1) i) (M p 1)); rw [q0, q1]; omega⟩
          · intro h98
            refine n_iload_n c_5_64 rfl (n_bipush c_5_65 rfl (n_i_ior (z := 17) c_5_67 (by decide) ?_))
            refine n_istore_n (L2 := [some (2, p), some (0, 17)]) c_5_68 rfl rfl (n_iload_n c_5_69 rfl ?_)
            exact n_rI c_5_70 rfl ⟨rfl, by omega, by have q0 : bb (((fun i => M (p + 1) i)) 0 = 0) = 1 := bb_t (show M (p + 1) 0 = 0 by omega); have q1 : bb (((fun i => M (p + 1) i)) ((M p 1) - 1) = 1) = 0 := bb_f (show ¬ (M (p + 1) (M p 1 - 1) = 1) by omega); have q2 := f88p0; have q3 := f92p0; have q4 := f96p0; show _ = bb (((fun i => M (p + 1) i)) 0 = 0) + 2 * bb (((fun i => M (p + 1) i)) ((M p 1) - 1) = 1) + 4 * bb (NF (fun i => M (p + 1) i) (M p 1)) + 8 * bb (TO (fun i => M (p + 1) i) (M p 1)) + 16 * bb (SC (fun i => M (p + 1) i) (M p 1)); rw [q0, q1]; omega⟩
        · intro h99
          refine n_iload_n c_5_52 rfl (n_bipush c_5_53 rfl (n_i_ior (z := 9) c_5_55 (by decide) ?_))
          refine n_istore_n (L2 := [some (2, p), some (0, 9)]) c_5_56 rfl rfl (n_aload_n c_5_57 rfl (n_v0I c_5_58 rfl hp.c0.1.n rfl rfl rfl rfl (isSumX_2 (p := p) hS hp hpl) ?_))
          intro z100 M101 hP102
          obtain ⟨eM, f102, f102p0⟩ := hP102
          subst eM
          refine n_if0_eq c_5_61 (by omega) ?_ ?_
          · intro h103
            refine n_iload_n c_5_69 rfl ?_
            exact n_rI c_5_70 rfl ⟨rfl, by omega, by have q0 : bb (((fun i => M (p + 1) i)) 0 = 0) = 1 := bb_t (show M (p + 1) 0 = 0 by omega); have q1 : bb (((fun i => M (p + 1) i)) ((M p 1) - 1) = 1) = 0 := bb_f (show ¬ (M (p + 1) (M p 1 - 1) = 1) by omega); have q2 := f88p0; have q3 := f92p0; have q4 := f102p0; show _ = bb (((fun i => M (p + 1) i)) 0 = 0) + 2 * bb (((fun i => M (p + 1) i)) ((M p 1) - 1) = 1) + 4 * bb (NF (fun i => M (p + 1) i) (M p 1)) + 8 * bb (TO (fun i => M (p + 1) i) (M p 1)) + 16 * bb (SC (fun i => M (p + 1) i) (M p 1)); rw [q0, q1]; omega⟩
          · intro h104
            refine n_iload_n c_5_64 rfl (n_bipush c_5_65 rfl (n_i_ior (z := 25) c_5_67 (by decide) ?_))
            refine n_istore_n (L2 := [some (2, p), some (0, 25)]) c_5_68 rfl rfl (n_iload_n c_5_69 rfl ?_)
            exact n_rI c_5_70 rfl ⟨rfl, by omega, by have q0 : bb (((fun i => M (p + 1) i)) 0 = 0) = 1 := bb_t (show M (p + 1) 0 = 0 by omega); have q1 : bb (((fun i => M (p + 1) i)) ((M p 1) - 1) = 1) = 0 := bb_f (show ¬ (M (p + 1) (M p 1 - 1) = 1) by omega); have q2 := f88p0; have q3 := f92p0; have q4 := f102p0; show _ = bb (((fun i => M (p + 1) i)) 0 = 0) + 2 * bb (((fun i => M (p + 1) i)) ((M p 1) - 1) = 1) + 4 * bb (NF (fun i => M (p + 1) i) (M p 1)) + 8 * bb (TO (fun i => M (p + 1) i) (M p 1)) + 16 * bb (SC (fun i => M (p + 1) i) (M p 1)); rw [q0, q1]; omega⟩
      · intro h105
        refine n_iload_n c_5_41 rfl (n_iconst c_5_42 (n_i_ior (z := 5) c_5_43 (by decide) ?_))
        refine n_istore_n (L2 := [some (2, p), some (0, 5)]) c_5_44 rfl rfl (n_aload_n c_5_45 rfl (n_v0I c_5_46 rfl hp.c0.1.n rfl rfl rfl rfl (turnsOverX_2 (p := p) hS hp hpl) ?_))
        intro z106 M107 hP108
        obtain ⟨eM, f108, f108p0⟩ := hP108
        subst eM
        refine n_if0_eq c_5_49 (by omega) ?_ ?_
        · intro h109
          refine n_aload_n c_5_57 rfl (n_v0I c_5_58 rfl hp.c0.1.n rfl rfl rfl rfl (isSumX_2 (p := p) hS hp hpl) ?_)
          intro z110 M111 hP112
          obtain ⟨eM, f112, f112p0⟩ := hP112
          subst eM
          refine n_if0_eq c_5_61 (by omega) ?_ ?_
          · intro h113
            refine n_iload_n c_5_69 rfl ?_
            exact n_rI c_5_70 rfl ⟨rfl, by omega, by have q0 : bb (((fun i => M (p + 1) i)) 0 = 0) = 1 := bb_t (show M (p + 1) 0 = 0 by omega); have q1 : bb (((fun i => M (p + 1) i)) ((M p 1) - 1) = 1) = 0 := bb_f (show ¬ (M (p + 1) (M p 1 - 1) = 1) by omega); have q2 := f88p0; have q3 := f108p0; have q4 := f112p0; show _ = bb (((fun i => M (p + 1) i)) 0 = 0) + 2 * bb (((fun i => M (p + 1) i)) ((M p 1) - 1) = 1) + 4 * bb (NF (fun i => M (p + 1) i) (M p 1)) + 8 * bb (TO (fun i => M (p + 1) i) (M p 1)) + 16 * bb (SC (fun i => M (p + 1) i) (M p 1)); rw [q0, q1]; omega⟩
          · intro h114
            refine n_iload_n c_5_64 rfl (n_bipush c_5_65 rfl (n_i_ior (z := 21) c_5_67 (by decide) ?_))
            refine n_istore_n (L2 := [some (2, p), some (0, 21)]) c_5_68 rfl rfl (n_iload_n c_5_69 rfl ?_)
            exact n_rI c_5_70 rfl ⟨rfl, by omega, by have q0 : bb (((fun i => M (p + 1) i)) 0 = 0) = 1 := bb_t (show M (p + 1) 0 = 0 by omega); have q1 : bb (((fun i => M (p + 1) i)) ((M p 1) - 1) = 1) = 0 := bb_f (show ¬ (M (p + 1) (M p 1 - 1) = 1) by omega); have q2 := f88p0; have q3 := f108p0; have q4 := f112p0; show _ = bb (((fun i => M (p + 1) i)) 0 = 0) + 2 * bb (((fun i => M (p + 1) i)) ((M p 1) - 1) = 1) + 4 * bb (NF (fun i => M (p + 1) i) (M p 1)) + 8 * bb (TO (fun i => M (p + 1) i) (M p 1)) + 16 * bb (SC (fun i => M (p + 1) i) (M p 1)); rw [q0, q1]; omega⟩
        · intro h115
          refine n_iload_n c_5_52 rfl (n_bipush c_5_53 rfl (n_i_ior (z := 13) c_5_55 (by decide) ?_))
          refine n_istore_n (L2 := [some (2, p), some (0, 13)]) c_5_56 rfl rfl (n_aload_n c_5_57 rfl (n_v0I c_5_58 rfl hp.c0.1.n rfl rfl rfl rfl (isSumX_2 (p := p) hS hp hpl) ?_))
          intro z116 M117 hP118
          obtain ⟨eM, f118, f118p0⟩ := hP118
          subst eM
          refine n_if0_eq c_5_61 (by omega) ?_ ?_
          · intro h119
            refine n_iload_n c_5_69 rfl ?_
            exact n_rI c_5_70 rfl ⟨rfl, by omega, by have q0 : bb (((fun i => M (p + 1) i)) 0 = 0) = 1 := bb_t (show M (p + 1) 0 = 0 by omega); have q1 : bb (((fun i => M (p + 1) i)) ((M p 1) - 1) = 1) = 0 := bb_f (show ¬ (M (p + 1) (M p 1 - 1) = 1) by omega); have q2 := f88p0; have q3 := f108p0; have q4 := f118p0; show _ = bb (((fun i => M (p + 1) i)) 0 = 0) + 2 * bb (((fun i => M (p + 1) i)) ((M p 1) - 1) = 1) + 4 * bb (NF (fun i => M (p + 1) i) (M p 1)) + 8 * bb (TO (fun i => M (p + 1) i) (M p 1)) + 16 * bb (SC (fun i => M (p + 1) i) (M p 1)); rw [q0, q1]; omega⟩
          · intro h120
            refine n_iload_n c_5_64 rfl (n_bipush c_5_65 rfl (n_i_ior (z := 29) c_5_67 (by decide) ?_))
            refine n_istore_n (L2 := [some (2, p), some (0, 29)]) c_5_68 rfl rfl (n_iload_n c_5_69 rfl ?_)
            exact n_rI c_5_70 rfl ⟨rfl, by omega, by have q0 : bb (((fun i => M (p + 1) i)) 0 = 0) = 1 := bb_t (show M (p + 1) 0 = 0 by omega); have q1 : bb (((fun i => M (p + 1) i)) ((M p 1) - 1) = 1) = 0 := bb_f (show ¬ (M (p + 1) (M p 1 - 1) = 1) by omega); have q2 := f88p0; have q3 := f108p0; have q4 := f118p0; show _ = bb (((fun i => M (p + 1) i)) 0 = 0) + 2 * bb (((fun i => M (p + 1) i)) ((M p 1) - 1) = 1) + 4 * bb (NF (fun i => M (p + 1) i) (M p 1)) + 8 * bb (TO (fun i => M (p + 1) i) (M p 1)) + 16 * bb (SC (fun i => M (p + 1) i) (M p 1)); rw [q0, q1]; omega⟩
    · intro h121
      refine n_iload_n c_5_30 rfl (n_iconst c_5_31 (n_i_ior (z := 3) c_5_32 (by decide) ?_))
      refine n_istore_n (L2 := [some (2, p), some (0, 3)]) c_5_33 rfl rfl (n_aload_n c_5_34 rfl (n_v0I c_5_35 rfl hp.c0.1.n rfl rfl rfl rfl (neverFallsX_2 (p := p) hS hp hpl) ?_))
      intro z122 M123 hP124
      obtain ⟨eM, f124, f124p0⟩ := hP124
      subst eM
      refine n_if0_eq c_5_38 (by omega) ?_ ?_
      · intro h125
        refine n_aload_n c_5_45 rfl (n_v0I c_5_46 rfl hp.c0.1.n rfl rfl rfl rfl (turnsOverX_2 (p := p) hS hp hpl) ?_)
        intro z126 M127 hP128
        obtain ⟨eM, f128, f128p0⟩ := hP128
        subst eM
        refine n_if0_eq c_5_49 (by omega) ?_ ?_
        · intro h129
          refine n_aload_n c_5_57 rfl (n_v0I c_5_58 rfl hp.c0.1.n rfl rfl rfl rfl (isSumX_2 (p := p) hS hp hpl) ?_)
          intro z130 M131 hP132
          obtain ⟨eM, f132, f132p0⟩ := hP132
          subst eM
          refine n_if0_eq c_5_61 (by omega) ?_ ?_
          · intro h133
            refine n_iload_n c_5_69 rfl ?_
            exact n_rI c_5_70 rfl ⟨rfl, by omega, by have q0 : bb (((fun i => M (p + 1) i)) 0 = 0) = 1 := bb_t (show M (p + 1) 0 = 0 by omega); have q1 : bb (((fun i => M (p + 1) i)) ((M p 1) - 1) = 1) = 1 := bb_t (show M (p + 1) (M p 1 - 1) = 1 by omega); have q2 := f124p0; have q3 := f128p0; have q4 := f132p0; show _ = bb (((fun i => M (p + 1) i)) 0 = 0) + 2 * bb (((fun i => M (p + 1) i)) ((M p 1) - 1) = 1) + 4 * bb (NF (fun i => M (p + 1) i) (M p 1)) + 8 * bb (TO (fun i => M (p + 1) i) (M p 1)) + 16 * bb (SC (fun i => M (p + 1) i) (M p 1)); rw [q0, q1]; omega⟩
          · intro h134
            refine n_iload_n c_5_64 rfl (n_bipush c_5_65 rfl (n_i_ior (z := 19) c_5_67 (by decide) ?_))
            refine n_istore_n (L2 := [some (2, p), some (0, 19)]) c_5_68 rfl rfl (n_iload_n c_5_69 rfl ?_)
            exact n_rI c_5_70 rfl ⟨rfl, by omega, by have q0 : bb (((fun i => M (p + 1) i)) 0 = 0) = 1 := bb_t (show M (p + 1) 0 = 0 by omega); have q1 : bb (((fun i => M (p + 1) i)) ((M p 1) - 1) = 1) = 1 := bb_t (show M (p + 1) (M p 1 - 1) = 1 by omega); have q2 := f124p0; have q3 := f128p0; have q4 := f132p0; show _ = bb (((fun i => M (p + 1) i)) 0 = 0) + 2 * bb (((fun i => M (p + 1) i)) ((M p 1) - 1) = 1) + 4 * bb (NF (fun i => M (p + 1) i) (M p 1)) + 8 * bb (TO (fun i => M (p + 1) i) (M p 1)) + 16 * bb (SC (fun i => M (p + 1) i) (M p 1)); rw [q0, q1]; omega⟩
        · intro h135
          refine n_iload_n c_5_52 rfl (n_bipush c_5_53 rfl (n_i_ior (z := 11) c_5_55 (by decide) ?_))
          refine n_istore_n (L2 := [some (2, p), some (0, 11)]) c_5_56 rfl rfl (n_aload_n c_5_57 rfl (n_v0I c_5_58 rfl hp.c0.1.n rfl rfl rfl rfl (isSumX_2 (p := p) hS hp hpl) ?_))
          intro z136 M137 hP138
          obtain ⟨eM, f138, f138p0⟩ := hP138
          subst eM
          refine n_if0_eq c_5_61 (by omega) ?_ ?_
          · intro h139
            refine n_iload_n c_5_69 rfl ?_
            exact n_rI c_5_70 rfl ⟨rfl, by omega, by have q0 : bb (((fun i => M (p + 1) i)) 0 = 0) = 1 := bb_t (show M (p + 1) 0 = 0 by omega); have q1 : bb (((fun i => M (p + 1) i)) ((M p 1) - 1) = 1) = 1 := bb_t (show M (p + 1) (M p 1 - 1) = 1 by omega); have q2 := f124p0; have q3 := f128p0; have q4 := f138p0; show _ = bb (((fun i => M (p + 1) i)) 0 = 0) + 2 * bb (((fun i => M (p + 1) i)) ((M p 1) - 1) = 1) + 4 * bb (NF (fun i => M (p + 1) i) (M p 1)) + 8 * bb (TO (fun i => M (p + 1) i) (M p 1)) + 16 * bb (SC (fun i => M (p + 1) i) (M p 1)); rw [q0, q1]; omega⟩
          · intro h140
            refine n_iload_n c_5_64 rfl (n_bipush c_5_65 rfl (n_i_ior (z := 27) c_5_67 (by decide) ?_))
            refine n_istore_n (L2 := [some (2, p), some (0, 27)]) c_5_68 rfl rfl (n_iload_n c_5_69 rfl ?_)
            exact n_rI c_5_70 rfl ⟨rfl, by omega, by have q0 : bb (((fun i => M (p + 1) i)) 0 = 0) = 1 := bb_t (show M (p + 1) 0 = 0 by omega); have q1 : bb (((fun i => M (p + 1) i)) ((M p 1) - 1) = 1) = 1 := bb_t (show M (p + 1) (M p 1 - 1) = 1 by omega); have q2 := f124p0; have q3 := f128p0; have q4 := f138p0; show _ = bb (((fun i => M (p + 1) i)) 0 = 0) + 2 * bb (((fun i => M (p + 1) i)) ((M p 1) - 1) = 1) + 4 * bb (NF (fun i => M (p + 1) i) (M p 1)) + 8 * bb (TO (fun i => M (p + 1) i) (M p 1)) + 16 * bb (SC (fun i => M (p + 1) i) (M p 1)); rw [q0, q1]; omega⟩
      · intro h141
        refine n_iload_n c_5_41 rfl (n_iconst c_5_42 (n_i_ior (z := 7) c_5_43 (by decide) ?_))
        refine n_istore_n (L2 := [some (2, p), some (0, 7)]) c_5_44 rfl rfl (n_aload_n c_5_45 rfl (n_v0I c_5_46 rfl hp.c0.1.n rfl rfl rfl rfl (turnsOverX_2 (p := p) hS hp hpl) ?_))
        intro z142 M143 hP144
        obtain ⟨eM, f144, f144p0⟩ := hP144
        subst eM
        refine n_if0_eq c_5_49 (by omega) ?_ ?_
        · intro h145
          refine n_aload_n c_5_57 rfl (n_v0I c_5_58 rfl hp.c0.1.n rfl rfl rfl rfl (isSumX_2 (p := p) hS hp hpl) ?_)
          intro z146 M147 hP148
          obtain ⟨eM, f148, f148p0⟩ := hP148
          subst eM
          refine n_if0_eq c_5_61 (by omega) ?_ ?_
          · intro h149
            refine n_iload_n c_5_69 rfl ?_
            exact n_rI c_5_70 rfl ⟨rfl, by omega, by have q0 : bb (((fun i => M (p + 1) i)) 0 = 0) = 1 := bb_t (show M (p + 1) 0 = 0 by omega); have q1 : bb (((fun i => M (p + 1) i)) ((M p 1) - 1) = 1) = 1 := bb_t (show M (p + 1) (M p 1 - 1) = 1 by omega); have q2 := f124p0; have q3 := f144p0; have q4 := f148p0; show _ = bb (((fun i => M (p + 1) i)) 0 = 0) + 2 * bb (((fun i => M (p + 1) i)) ((M p 1) - 1) = 1) + 4 * bb (NF (fun i => M (p + 1) i) (M p 1)) + 8 * bb (TO (fun i => M (p + 1) i) (M p 1)) + 16 * bb (SC (fun i => M (p + 1) i) (M p 1)); rw [q0, q1]; omega⟩
          · intro h150
            refine n_iload_n c_5_64 rfl (n_bipush c_5_65 rfl (n_i_ior (z := 23) c_5_67 (by decide) ?_))
            refine n_istore_n (L2 := [some (2, p), some (0, 23)]) c_5_68 rfl rfl (n_iload_n c_5_69 rfl ?_)
            exact n_rI c_5_70 rfl ⟨rfl, by omega, by have q0 : bb (((fun i => M (p + 1) i)) 0 = 0) = 1 := bb_t (show M (p + 1) 0 = 0 by omega); have q1 : bb (((fun i => M (p + 1) i)) ((M p 1) - 1) = 1) = 1 := bb_t (show M (p + 1) (M p 1 - 1) = 1 by omega); have q2 := f124p0; have q3 := f144p0; have q4 := f148p0; show _ = bb (((fun i => M (p + 1) i)) 0 = 0) + 2 * bb (((fun i => M (p + 1) i)) ((M p 1) - 1) = 1) + 4 * bb (NF (fun i => M (p + 1) i) (M p 1)) + 8 * bb (TO (fun i => M (p + 1) i) (M p 1)) + 16 * bb (SC (fun i => M (p + 1) i) (M p 1)); rw [q0, q1]; omega⟩
        · intro h151
          refine n_iload_n c_5_52 rfl (n_bipush c_5_53 rfl (n_i_ior (z := 15) c_5_55 (by decide) ?_))
          refine n_istore_n (L2 := [some (2, p), some (0, 15)]) c_5_56 rfl rfl (n_aload_n c_5_57 rfl (n_v0I c_5_58 rfl hp.c0.1.n rfl rfl rfl rfl (isSumX_2 (p := p) hS hp hpl) ?_))
          intro z152 M153 hP154
          obtain ⟨eM, f154, f154p0⟩ := hP154
          subst eM
          refine n_if0_eq c_5_61 (by omega) ?_ ?_
          · intro h155
            refine n_iload_n c_5_69 rfl ?_
            exact n_rI c_5_70 rfl ⟨rfl, by omega, by have q0 : bb (((fun i => M (p + 1) i)) 0 = 0) = 1 := bb_t (show M (p + 1) 0 = 0 by omega); have q1 : bb (((fun i => M (p + 1) i)) ((M p 1) - 1) = 1) = 1 := bb_t (show M (p + 1) (M p 1 - 1) = 1 by omega); have q2 := f124p0; have q3 := f144p0; have q4 := f154p0; show _ = bb (((fun i => M (p + 1) i)) 0 = 0) + 2 * bb (((fun i => M (p + 1) i)) ((M p 1) - 1) = 1) + 4 * bb (NF (fun i => M (p + 1) i) (M p 1)) + 8 * bb (TO (fun i => M (p + 1) i) (M p 1)) + 16 * bb (SC (fun i => M (p + 1) i) (M p 1)); rw [q0, q1]; omega⟩
          · intro h156
            refine n_iload_n c_5_64 rfl (n_bipush c_5_65 rfl (n_i_ior (z := 31) c_5_67 (by decide) ?_))
            refine n_istore_n (L2 := [some (2, p), some (0, 31)]) c_5_68 rfl rfl (n_iload_n c_5_69 rfl ?_)
            exact n_rI c_5_70 rfl ⟨rfl, by omega, by have q0 : bb (((fun i => M (p + 1) i)) 0 = 0) = 1 := bb_t (show M (p + 1) 0 = 0 by omega); have q1 : bb (((fun i => M (p + 1) i)) ((M p 1) - 1) = 1) = 1 := bb_t (show M (p + 1) (M p 1 - 1) = 1 by omega); have q2 := f124p0; have q3 := f144p0; have q4 := f154p0; show _ = bb (((fun i => M (p + 1) i)) 0 = 0) + 2 * bb (((fun i => M (p + 1) i)) ((M p 1) - 1) = 1) + 4 * bb (NF (fun i => M (p + 1) i) (M p 1)) + 8 * bb (TO (fun i => M (p + 1) i) (M p 1)) + 16 * bb (SC (fun i => M (p + 1) i) (M p 1)); rw [q0, q1]; omega⟩

set_option maxHeartbeats 4000000 in
theorem signsX_2 {xs : List Int32} {e : Nat} {ac : Int} {M0 M : nM} {a : Int} (hS : Sf 2 ac M0 M) (ha : -2147483648 ≤ a ∧ a ≤ 2147483647) : nW xs (e + 2) 113 0 [some (2, 3), some (0, a)] [] M (nPI fun z M1 => M = M1 ∧ (-2147483648 ≤ z ∧ z ≤ 2147483647) ∧ (cSg 2 a z M)) := by
  have hd : (2 : Int) = 2 ∨ (2 : Int) = 3 := by decide
  have hac := hS.2.2.2.2
  refine n_aload_n c_113_0 rfl (n_iload_n c_113_1 rfl (n_v1I c_113_2 rfl sc_3.n rfl rfl rfl rfl (isActF_2 (a := a) hS (by omega)) ?_))
  intro z1 M2 hP3
  obtain ⟨eM, f3, f3p0⟩ := hP3
  subst eM
  refine n_if0_eq c_113_5 (by omega) ?_ ?_
  · intro h4
    refine n_iconst c_113_19 ?_
    exact n_rI c_113_20 rfl ⟨rfl, by omega, by have t14 := t_ac hS; exact Or.inl ⟨by omega, rfl⟩⟩
  · intro h5
    refine n_aload_n c_113_8 rfl (n_getR c_113_9 sc_3.n rfl rfl rfl r_3_0 (n_getV (bi := 0) c_113_12 sc_4.n rfl rfl rfl (t_4_0 hS) ?_))
    intro z6 ez6 f7
    obtain rfl : z6 = 2 := by omega
    refine n_iconst c_113_15 ?_
    refine n_if2_ne c_113_16 (by omega) (by omega) ?_ ?_
    · intro h8
      refine n_aload_n c_113_21 rfl (n_getR c_113_22 sc_3.n rfl rfl rfl r_3_2 (n_iload_n c_113_25 rfl (n_aaload c_113_26 sc_12.n rfl rfl rfl (by omega) (r_acts _) ?_)))
      have q9 : ActAt (55 + 3 * a) := by unfold ActAt; omega
      have q9l : (55 + 3 * a) < 55 + 3 * ac := by omega
      refine n_v0I c_113_27 rfl q9.c0.1.n rfl rfl rfl rfl (signBitsX_2 (p := (55 + 3 * a)) hS q9 q9l) ?_
      intro z10 M11 hP12
      obtain ⟨eM, f12, f12p0⟩ := hP12
      subst eM
      exact n_rI c_113_30 rfl ⟨rfl, by omega, by have t14 := t_ac hS; exact Or.inr ⟨rfl, by omega, by omega, f12p0⟩⟩
    · intro h13
      exfalso; omega

set_option maxHeartbeats 4000000 in
theorem wholeX_2_c {xs : List Int32} {e : Nat} {ac : Int} {M0 M : nM} (hS : Sf 2 ac M0 M)  : ∀ nn : Nat, (∀ (x1 x2 : Int), (0 ≤ x1 ∧ x1 ≤ 31) → (0 ≤ x2 ∧ x2 ≤ 8) → (x1 = wh (fun a => sgc (fun i => M (55 + 3 * a + 1) i) (M (55 + 3 * a) 1)) x2.toNat) → (x2 ≤ M 3 14) → (8 - x2) * 1 + 1 < (nn : Int) → nW xs (e + 2) 114 18 [some (2, 3), some (0, x1), some (0, x2)] [] M (nPI fun z M1 => M = M1 ∧ (-2147483648 ≤ z ∧ z ≤ 2147483647) ∧ (cWh 2 z M))) := by
  have hd : (2 : Int) = 2 ∨ (2 : Int) = 3 := by decide
  have hac := hS.2.2.2.2
  intro nn
  induction nn with
  | zero => intros; omega
  | succ nn ih =>
    intro x1 x2 k1 k2 v0 v1 hnn
    refine n_iload_n c_114_18 rfl (n_aload_n c_114_19 rfl (n_getV (bi := 14) c_114_20 sc_3.n rfl rfl rfl (t_3_14x hS) ?_))
    intro z1 ez1 f2
    have f2a := t_ac hS
    refine n_if2_ge c_114_23 (by omega) (by omega) ?_ ?_
    · intro h3
      refine n_iload_n c_114_44 rfl ?_
      refine n_if0_ne c_114_45 (by omega) ?_ ?_
      · intro h4
        refine n_iconst c_114_52 ?_
        exact n_rI c_114_53 rfl ⟨rfl, by omega, by have t14 := t_ac hS; have q : x2 = M 3 14 := (by omega); rw [q] at v0; first | exact Or.inr ⟨rfl, Or.inl ⟨by omega, rfl⟩⟩ | exact Or.inr ⟨rfl, Or.inr ⟨by omega, rfl⟩⟩⟩
      · intro h5
        refine n_iconst c_114_48 (n_goto c_114_49 ?_)
        exact n_rI c_114_53 rfl ⟨rfl, by omega, by have t14 := t_ac hS; have q : x2 = M 3 14 := (by omega); rw [q] at v0; first | exact Or.inr ⟨rfl, Or.inl ⟨by omega, rfl⟩⟩ | exact Or.inr ⟨rfl, Or.inr ⟨by omega, rfl⟩⟩⟩
    · intro h6
      refine n_iload_n c_114_26 rfl (n_aload_n c_114_27 rfl (n_getR c_114_28 sc_3.n rfl rfl rfl r_3_2 (n_iload_n c_114_31 rfl (n_aaload c_114_32 sc_12.n rfl rfl rfl (by omega) (r_acts _) ?_))))
      have q7 : ActAt (55 + 3 * x2) := by unfold ActAt; omega
      have q7l : (55 + 3 * x2) < 55 + 3 * ac := by omega
      refine n_v0I c_114_33 rfl q7.c0.1.n rfl rfl rfl rfl (signBitsX_2 (p := (55 + 3 * x2)) hS q7 q7l) ?_
      intro z8 M9 hP10
      obtain ⟨eM, f10, f10p0⟩ := hP10
      subst eM
      refine n_i_iand c_114_36 rfl ?_
      have f11 := n_and_y (x := x1) (y := z8) (by omega)
      generalize gz12 : (n_and x1 z8) = z12 at f11 ⊢
      refine n_istore_n (L2 := [some (2, 3), some (0, z12), some (0, x2)]) c_114_37 rfl rfl (n_iinc (L2 := [some (2, 3), some (0, z12), some (0, (x2 + 1))]) c_114_38 rfl rfl rfl (n_goto c_114_41 (n_fg (le_s (le_s (le_s le_0))) ?_)))
      exact ih _ _ (by omega) (by omega) (by rw [wh_step (by omega), ← v0]; have q := f10p0; subst_vars; exact congrArg _ q) (by have t14 := t_ac hS; omega) (by omega)
set_option maxHeartbeats 4000000 in
theorem wholeX_2 {xs : List Int32} {e : Nat} {ac : Int} {M0 M : nM} (hS : Sf 2 ac M0 M)  : nW xs (e + 2) 114 0 [some (2, 3), none, none] [] M (nPI fun z M1 => M = M1 ∧ (-2147483648 ≤ z ∧ z ≤ 2147483647) ∧ (cWh 2 z M)) := by
  have hd : (2 : Int) = 2 ∨ (2 : Int) = 3 := by decide
  have hac := hS.2.2.2.2
  refine n_aload_n c_114_0 rfl (n_getR c_114_1 sc_3.n rfl rfl rfl r_3_0 (n_getV (bi := 0) c_114_4 sc_4.n rfl rfl rfl (t_4_0 hS) ?_))
  intro z1 ez1 f2
  obtain rfl : z1 = 2 := by omega
  refine n_iconst c_114_7 ?_
  refine n_if2_ne c_114_8 (by omega) (by omega) ?_ ?_
  · intro h3
    refine n_bipush c_114_13 rfl (n_istore_n (L2 := [some (2, 3), some (0, 31), none]) c_114_15 rfl rfl (n_iconst c_114_16 (n_istore_n (L2 := [some (2, 3), some (0, 31), some (0, 0)]) c_114_17 rfl rfl (n_fg (le_s (le_s (le_s le_0))) ?_))))
    exact (wholeX_2_c hS  30) _ _ (by omega) (by omega) (by rfl) (by have t14 := t_ac hS; omega) (by omega)
  · intro h4
    exfalso; omega

set_option maxHeartbeats 4000000 in
theorem mrisesX_2_c {xs : List Int32} {e : Nat} {ac : Int} {M0 M : nM} {a : Int} (hS : Sf 2 ac M0 M) (hdm : M0 112 0 = 2) (ha : 0 ≤ a ∧ a ≤ 7) : ∀ nn : Nat, (∀ (x2 x3 : Int), (1 ≤ x2 ∧ x2 ≤ 8) → (0 ≤ x3 ∧ x3 ≤ 8) → (x2 = n_shl 1 (M 116 a)) → (RIx (fun i => M 117 (27 * a + i)) (n_shl 1 (M 116 a)) x3) → (8 - x3) * 11 + 11 < (nn : Int) → nW xs e 182 11 [some (2, 112), some (0, a), some (0, x2), some (0, x3), none] [] M (nPI fun z M1 => M = M1 ∧ (0 ≤ z ∧ z ≤ 1) ∧ (z = bb (RI (fun i => M 117 (27 * a + i)) (n_shl 1 (M 116 a)))))) ∧ (∀ (x2 x3 x4 : Int), (1 ≤ x2 ∧ x2 ≤ 8) → (0 ≤ x3 ∧ x3 ≤ 7) → (0 ≤ x4 ∧ x4 ≤ 8) → (x2 = n_shl 1 (M 116 a)) → (RIx (fun i => M 117 (27 * a + i)) (n_shl 1 (M 116 a)) x3) → (x3 < x2) → (RIy (fun i => M 117 (27 * a + i)) x3 x4) → (8 - x3) * 11 + (8 - x4) * 1 + 1 < (nn : Int) → nW xs e 182 19 [some (2, 112), some (0, a), some (0, x2), some (0, x3), some (0, x4)] [] M (nPI fun z M1 => M = M1 ∧ (0 ≤ z ∧ z ≤ 1) ∧ (z = bb (RI (fun i => M 117 (27 * a + i)) (n_shl 1 (M 116 a)))))) := by
  have hd : (2 : Int) = 2 ∨ (2 : Int) = 3 := by decide
  have hac := hS.2.2.2.2
  intro nn
  induction nn with
  | zero => refine ⟨?_, ?_⟩ <;> (intros; omega)
  | succ nn ih =>
    refine ⟨?_, ?_⟩
    · intro x2 x3 k2 k3 v0 v1 hnn
      refine n_iload_n c_182_11 rfl (n_iload_n c_182_12 rfl ?_)
      refine n_if2_ge c_182_13 (by omega) (by omega) ?_ ?_
      · intro h1
        refine n_iconst c_182_73 ?_
        exact n_rZ c_182_74 rfl (by omega) ⟨rfl, by omega, by exact (bb_t (RIx.all v1 (by omega))).symm⟩
      · intro h2
        refine n_iconst c_182_16 (n_istore (L2 := [some (2, 112), some (0, a), some (0, x2), some (0, x3), some (0, 0)]) c_182_17 rfl rfl (n_fg (le_s (le_s (le_s (le_s (le_s le_0))))) ?_))
        exact ih.2 _ _ _ (by omega) (by omega) (by omega) (by exact v0) (by exact v1) (by omega) (by exact fun y h0 h1 => by omega) (by omega)
    · intro x2 x3 x4 k2 k3 k4 v0 v1 v2 v3 hnn
      refine n_iload c_182_19 rfl (n_iload_n c_182_21 rfl ?_)
      refine n_if2_ge c_182_22 (by omega) (by omega) ?_ ?_
      · intro h1
        refine n_iinc (L2 := [some (2, 112), some (0, a), some (0, x2), some (0, (x3 + 1)), some (0, x4)]) c_182_67 rfl rfl rfl (n_goto c_182_70 (n_fg (le_s (le_s (le_s (le_s (le_n le_0))))) ?_))
        exact ih.1 _ _ (by omega) (by omega) (by exact v0) (by exact RIx.step v1 (by omega) v3) (by omega)
      · intro h2
        refine n_iload_n c_182_25 rfl (n_iload c_182_26 rfl (n_i_iand c_182_28 rfl ?_))
        have f3 := n_and_y (x := x3) (y := x4) (by omega)
        generalize gz4 : (n_and x3 x4) = z4 at f3 ⊢
        refine n_iload_n c_182_29 rfl ?_
        refine n_if2_ne c_182_30 (by omega) (by omega) ?_ ?_
        · intro h5
          refine n_iinc (L2 := [some (2, 112), some (0, a), some (0, x2), some (0, x3), some (0, (x4 + 1))]) c_182_61 rfl rfl rfl (n_goto c_182_64 (n_fg (le_s (le_s (le_s (le_s (le_s le_0))))) ?_))
          exact ih.2 _ _ _ (by omega) (by omega) (by omega) (by exact v0) (by exact v1) (by omega) (by exact RIy.step v3 (fun q => by show M 117 (27 * a + x3) ≤ M 117 (27 * a + x4); subst_vars; omega)) (by omega)
        · intro h6
          refine n_aload_n c_182_33 rfl (n_getR c_182_34 sc_112.n rfl rfl rfl r_112_6 (n_bipush c_182_37 rfl (n_iload_n c_182_39 rfl (n_imul c_182_40 rfl (n_iload_n c_182_41 rfl (n_iadd c_182_42 rfl (n_ialoadV c_182_43 sc_117.n rfl rfl rfl (by omega) (t_117 hS (by omega)) ?_)))))))
          intro z7 ez7 f8
          refine n_aload_n c_182_44 rfl (n_getR c_182_45 sc_112.n rfl rfl rfl r_112_6 (n_bipush c_182_48 rfl (n_iload_n c_182_50 rfl (n_imul c_182_51 rfl (n_iload c_182_52 rfl (n_iadd c_182_54 rfl (n_ialoadV c_182_55 sc_117.n rfl rfl rfl (by omega) (t_117 hS (by omega)) ?_)))))))
          intro z9 ez9 f10
          refine n_if2_le c_182_56 (by omega) (by omega) ?_ ?_
          · intro h11
            refine n_iinc (L2 := [some (2, 112), some (0, a), some (0, x2), some (0, x3), some (0, (x4 + 1))]) c_182_61 rfl rfl rfl (n_goto c_182_64 (n_fg (le_s (le_s (le_s (le_s (le_s le_0))))) ?_))
            exact ih.2 _ _ _ (by omega) (by omega) (by omega) (by exact v0) (by exact v1) (by omega) (by exact RIy.step v3 (fun q => by show M 117 (27 * a + x3) ≤ M 117 (27 * a + x4); subst_vars; omega)) (by omega)
          · intro h12
            refine n_iconst c_182_59 ?_
            exact n_rZ c_182_60 rfl (by omega) ⟨rfl, by omega, by exact (bb_f (fun q => by have q1 : n_and x3 x4 = x3 → M 117 (27 * a + x3) ≤ M 117 (27 * a + x4) := q x3 x4 (by omega) (by omega) (by omega) (by omega); have q2 := q1 (by omega); subst_vars; omega)).symm⟩
set_option maxHeartbeats 4000000 in
theorem mrisesX_2 {xs : List Int32} {e : Nat} {ac : Int} {M0 M : nM} {a : Int} (hS : Sf 2 ac M0 M) (hdm : M0 112 0 = 2) (ha : 0 ≤ a ∧ a ≤ 7) : nW xs e 182 0 [some (2, 112), some (0, a), none, none, none] [] M (nPI fun z M1 => M = M1 ∧ (0 ≤ z ∧ z ≤ 1) ∧ (z = bb (RI (fun i => M 117 (27 * a + i)) (n_shl 1 (M 116 a))))) := by
  have hd : (2 : Int) = 2 ∨ (2 : Int) = 3 := by decide
  have hac := hS.2.2.2.2
  refine n_iconst c_182_0 (n_aload_n c_182_1 rfl (n_getR c_182_2 sc_112.n rfl rfl rfl r_112_5 (n_iload_n c_182_5 rfl (n_ialoadV c_182_6 sc_116.n rfl rfl rfl (by omega) (t_116 hS (by omega)) ?_))))
  intro z1 ez1 f2
  refine n_i_ishl c_182_7 rfl ?_
  have f3 := n_shl_1 (y := z1) (a := 0) (b := 3) (by decide) (by omega)
  generalize gz4 : (n_shl 1 z1) = z4 at f3 ⊢
  refine n_istore_n (L2 := [some (2, 112), some (0, a), some (0, z4), none, none]) c_182_8 rfl rfl (n_iconst c_182_9 (n_istore_n (L2 := [some (2, 112), some (0, a), some (0, z4), some (0, 0), none]) c_182_10 rfl rfl (n_fg (le_s (le_s (le_s (le_s (le_n le_0))))) ?_)))
  exact (mrisesX_2_c hS hdm ha 230).1 _ _ (by omega) (by omega) (by subst_vars; rfl) (by exact fun x y h0 h1 => by omega) (by omega)

set_option maxHeartbeats 4000000 in
theorem mturnsX_2_c {xs : List Int32} {e : Nat} {ac : Int} {M0 M : nM} {a : Int} (hS : Sf 2 ac M0 M) (hdm : M0 112 0 = 2) (ha : 0 ≤ a ∧ a ≤ 7) : ∀ nn : Nat, (∀ (x2 x3 : Int), (1 ≤ x2 ∧ x2 ≤ 8) → (0 ≤ x3 ∧ x3 ≤ 8) → (x2 = n_shl 1 (M 116 a)) → (TOx (fun i => M 117 (27 * a + i)) (n_shl 1 (M 116 a)) x3) → (8 - x3) * 1 + 1 < (nn : Int) → nW xs e 183 11 [some (2, 112), some (0, a), some (0, x2), some (0, x3)] [] M (nPI fun z M1 => M = M1 ∧ (0 ≤ z ∧ z ≤ 1) ∧ (z = bb (TO (fun i => M 117 (27 * a + i)) (n_shl 1 (M 116 a)))))) := by
  have hd : (2 : Int) = 2 ∨ (2 : Int) = 3 := by decide
  have hac := hS.2.2.2.2
  intro nn
  induction nn with
  | zero => intros; omega
  | succ nn ih =>
    intro x2 x3 k2 k3 v0 v1 hnn
    refine n_iload_n c_183_11 rfl (n_iload_n c_183_12 rfl ?_)
    refine n_if2_ge c_183_13 (by omega) (by omega) ?_ ?_
    · intro h1
      refine n_iconst c_183_53 ?_
      exact n_rZ c_183_54 rfl (by omega) ⟨rfl, by omega, by exact (bb_t (TOx.all v1 (by omega))).symm⟩
    · intro h2
      refine n_aload_n c_183_16 rfl (n_getR c_183_17 sc_112.n rfl rfl rfl r_112_6 (n_bipush c_183_20 rfl (n_iload_n c_183_22 rfl (n_imul c_183_23 rfl (n_iload_n c_183_24 rfl (n_iadd c_183_25 rfl (n_ialoadV c_183_26 sc_117.n rfl rfl rfl (by omega) (t_117 hS (by omega)) ?_)))))))
      intro z3 ez3 f4
      refine n_aload_n c_183_27 rfl (n_getR c_183_28 sc_112.n rfl rfl rfl r_112_6 (n_bipush c_183_31 rfl (n_iload_n c_183_33 rfl (n_imul c_183_34 rfl (n_iload_n c_183_35 rfl (n_iadd c_183_36 rfl (n_iconst c_183_37 (n_isub c_183_38 rfl (n_iload_n c_183_39 rfl (n_isub c_183_40 rfl (n_ialoadV c_183_41 sc_117.n rfl rfl rfl (by omega) (t_117 hS (by omega)) ?_)))))))))))
      intro z5 ez5 f6
      refine n_if2_ne c_183_42 (by omega) (by omega) ?_ ?_
      · intro h7
        refine n_iinc (L2 := [some (2, 112), some (0, a), some (0, x2), some (0, (x3 + 1))]) c_183_47 rfl rfl rfl (n_goto c_183_50 (n_fg (le_s (le_s (le_s (le_s le_0)))) ?_))
        exact ih _ _ (by omega) (by omega) (by exact v0) (by exact TOx.step v1 (by show M 117 (27 * a + x3) ≠ M 117 (27 * a + (n_shl 1 (M 116 a) - 1 - x3)); rw [show (27 * a + (n_shl 1 (M 116 a) - 1 - x3) : Int) = 27 * a + n_shl 1 (M 116 a) - 1 - x3 by omega]; subst_vars; omega)) (by omega)
      · intro h8
        refine n_iconst c_183_45 ?_
        exact n_rZ c_183_46 rfl (by omega) ⟨rfl, by omega, by exact (bb_f (fun q => by have q1 : M 117 (27 * a + x3) ≠ M 117 (27 * a + (n_shl 1 (M 116 a) - 1 - x3)) := q x3 (by omega) (by omega); rw [show (27 * a + (n_shl 1 (M 116 a) - 1 - x3) : Int) = 27 * a + n_shl 1 (M 116 a) - 1 - x3 by omega] at q1; subst_vars; omega)).symm⟩
set_option maxHeartbeats 4000000 in
theorem mturnsX_2 {xs : List Int32} {e : Nat} {ac : Int} {M0 M : nM} {a : Int} (hS : Sf 2 ac M0 M) (hdm : M0 112 0 = 2) (ha : 0 ≤ a ∧ a ≤ 7) : nW xs e 183 0 [some (2, 112), some (0, a), none, none] [] M (nPI fun z M1 => M = M1 ∧ (0 ≤ z ∧ z ≤ 1) ∧ (z = bb (TO (fun i => M 117 (27 * a + i)) (n_shl 1 (M 116 a))))) := by
  have hd : (2 : Int) = 2 ∨ (2 : Int) = 3 := by decide
  have hac := hS.2.2.2.2
  refine n_iconst c_183_0 (n_aload_n c_183_1 rfl (n_getR c_183_2 sc_112.n rfl rfl rfl r_112_5 (n_iload_n c_183_5 rfl (n_ialoadV c_183_6 sc_116.n rfl rfl rfl (by omega) (t_116 hS (by omega)) ?_))))
  intro z1 ez1 f2
  refine n_i_ishl c_183_7 rfl ?_
  have f3 := n_shl_1 (y := z1) (a := 0) (b := 3) (by decide) (by omega)
  generalize gz4 : (n_shl 1 z1) = z4 at f3 ⊢
  refine n_istore_n (L2 := [some (2, 112), some (0, a), some (0, z4), none]) c_183_8 rfl rfl (n_iconst c_183_9 (n_istore_n (L2 := [some (2, 112), some (0, a), some (0, z4), some (0, 0)]) c_183_10 rfl rfl (n_fg (le_s (le_s (le_s (le_s le_0)))) ?_)))
  exact (mturnsX_2_c hS hdm ha 30) _ _ (by omega) (by omega) (by subst_vars; rfl) (by exact fun x h0 h1 => by omega) (by omega)

set_option maxHeartbeats 4000000 in
theorem misSumX_2_c {xs : List Int32} {e : Nat} {ac : Int} {M0 M : nM} {a : Int} (hS : Sf 2 ac M0 M) (hdm : M0 112 0 = 2) (ha : 0 ≤ a ∧ a ≤ 7) : ∀ nn : Nat, (∀ (x2 x3 : Int), (1 ≤ x2 ∧ x2 ≤ 8) → (0 ≤ x3 ∧ x3 ≤ 8) → (x2 = n_shl 1 (M 116 a)) → (RSn (fun i => M 117 (27 * a + i)) (n_shl 1 (M 116 a)) x3) → (8 - x3) * 405 + 405 < (nn : Int) → nW xs e 184 11 [some (2, 112), some (0, a), some (0, x2), some (0, x3), none, none, none, none, none] [] M (nPI fun z M1 => M = M1 ∧ (0 ≤ z ∧ z ≤ 1) ∧ (z = bb (RS (fun i => M 117 (27 * a + i)) (n_shl 1 (M 116 a)))))) ∧ (∀ (x2 x3 x4 : Int), (1 ≤ x2 ∧ x2 ≤ 8) → (0 ≤ x3 ∧ x3 ≤ 7) → (0 ≤ x4 ∧ x4 ≤ 2) → (x2 = n_shl 1 (M 116 a)) → (RSn (fun i => M 117 (27 * a + i)) (n_shl 1 (M 116 a)) x3) → (x3 < x2) → (RSm (fun i => M 117 (27 * a + i)) (n_shl 1 (M 116 a)) x3 x4) → (8 - x3) * 405 + (2 - x4) * 101 + 101 < (nn : Int) → nW xs e 184 19 [some (2, 112), some (0, a), some (0, x2), some (0, x3), some (0, x4), none, none, none, none] [] M (nPI fun z M1 => M = M1 ∧ (0 ≤ z ∧ z ≤ 1) ∧ (z = bb (RS (fun i => M 117 (27 * a + i)) (n_shl 1 (M 116 a)))))) ∧ (∀ (x2 x3 x4 x5 x6 : Int), (1 ≤ x2 ∧ x2 ≤ 8) → (0 ≤ x3 ∧ x3 ≤ 7) → (0 ≤ x4 ∧ x4 ≤ 1) → (0 ≤ x5 ∧ x5 ≤ 1) → (0 ≤ x6 ∧ x6 ≤ 8) → (x2 = n_shl 1 (M 116 a)) → (RSn (fun i => M 117 (27 * a + i)) (n_shl 1 (M 116 a)) x3) → (x3 < x2) → (RSm (fun i => M 117 (27 * a + i)) (n_shl 1 (M 116 a)) x3 x4) → (x5 = bb (RSx (fun i => M 117 (27 * a + i)) x3 x4 x6)) → (x6 ≤ x2) → (8 - x3) * 405 + (2 - x4) * 101 + (8 - x6) * 10 + 10 < (nn : Int) → nW xs e 184 31 [some (2, 112), some (0, a), some (0, x2), some (0, x3), some (0, x4), some (0, x5), some (0, x6), none, none] [] M (nPI fun z M1 => M = M1 ∧ (0 ≤ z ∧ z ≤ 1) ∧ (z = bb (RS (fun i => M 117 (27 * a + i)) (n_shl 1 (M 116 a)))))) ∧ (∀ (x2 x3 x4 x5 x6 x7 x8 : Int), (1 ≤ x2 ∧ x2 ≤ 8) → (0 ≤ x3 ∧ x3 ≤ 7) → (0 ≤ x4 ∧ x4 ≤ 1) → (0 ≤ x5 ∧ x5 ≤ 1) → (0 ≤ x6 ∧ x6 ≤ 7) → (0 ≤ x7 ∧ x7 ≤ 1) → (0 ≤ x8 ∧ x8 ≤ 7) → (x2 = n_shl 1 (M 116 a)) → (RSn (fun i => M 117 (27 * a + i)) (n_shl 1 (M 116 a)) x3) → (x3 < x2) → (RSm (fun i => M 117 (27 * a + i)) (n_shl 1 (M 116 a)) x3 x4) → (x5 = bb (RSx (fun i => M 117 (27 * a + i)) x3 x4 x6)) → (x6 < x2) → (pvb x7 x8 = pvb x4 (n_and x6 x3)) → (8 - x3) * 405 + (2 - x4) * 101 + (8 - x6) * 10 + (x8 - 0) * 1 + 1 < (nn : Int) → nW xs e 184 47 [some (2, 112), some (0, a), some (0, x2), some (0, x3), some (0, x4), some (0, x5), some (0, x6), some (0, x7), some (0, x8)] [] M (nPI fun z M1 => M = M1 ∧ (0 ≤ z ∧ z ≤ 1) ∧ (z = bb (RS (fun i => M 117 (27 * a + i)) (n_shl 1 (M 116 a)))))) := by
  have hd : (2 : Int) = 2 ∨ (2 : Int) = 3 := by decide
  have hac := hS.2.2.2.2
  intro nn
  induction nn with
  | zero => refine ⟨?_, ?_, ?_, ?_⟩ <;> (intros; omega)
  | succ nn ih =>
    refine ⟨?_, ?_, ?_, ?_⟩
    · intro x2 x3 k2 k3 v0 v1 hnn
      refine n_iload_n c_184_11 rfl (n_iload_n c_184_12 rfl ?_)
      refine n_if2_ge c_184_13 (by omega) (by omega) ?_ ?_
      · intro h1
        refine n_iconst c_184_124 ?_
        exact n_rZ c_184_125 rfl (by omega) ⟨rfl, by omega, by exact (bb_f (RSn.all v1 (by omega))).symm⟩
      · intro h2
        refine n_iconst c_184_16 (n_istore (L2 := [some (2, 112), some (0, a), some (0, x2), some (0, x3), some (0, 0), none, none, none, none]) c_184_17 rfl rfl (n_fg (le_s (le_s (le_s (le_s (le_s (le_n (le_n (le_n (le_n le_0))))))))) ?_))
        exact ih.2.1 _ _ _ (by omega) (by omega) (by omega) (by exact v0) (by exact v1) (by omega) (by exact fun y h0 h1 => by omega) (by omega)
    · intro x2 x3 x4 k2 k3 k4 v0 v1 v2 v3 hnn
      refine n_iload c_184_19 rfl (n_iconst c_184_21 ?_)
      refine n_if2_ge c_184_22 (by omega) (by omega) ?_ ?_
      · intro h1
        refine n_iinc (L2 := [some (2, 112), some (0, a), some (0, x2), some (0, (x3 + 1)), some (0, x4), none, none, none, none]) c_184_118 rfl rfl rfl (n_goto c_184_121 (n_fg (le_s (le_s (le_s (le_s (le_n (le_n (le_n (le_n (le_n le_0))))))))) ?_))
        exact ih.1 _ _ (by omega) (by omega) (by exact v0) (by exact RSn.step v1 v3 (by omega)) (by omega)
      · intro h2
        refine n_iconst c_184_25 (n_istore (L2 := [some (2, 112), some (0, a), some (0, x2), some (0, x3), some (0, x4), some (0, 1), none, none, none]) c_184_26 rfl rfl (n_iconst c_184_28 (n_istore (L2 := [some (2, 112), some (0, a), some (0, x2), some (0, x3), some (0, x4), some (0, 1), some (0, 0), none, none]) c_184_29 rfl rfl (n_fg (le_s (le_s (le_s (le_s (le_s (le_s (le_s (le_n (le_n le_0))))))))) ?_))))
        exact ih.2.2.1 _ _ _ _ _ (by omega) (by omega) (by omega) (by omega) (by omega) (by exact v0) (by exact v1) (by omega) (by exact v3) (by exact (bb_t (fun x h0 h1 => by omega)).symm) (by omega) (by omega)
    · intro x2 x3 x4 x5 x6 k2 k3 k4 k5 k6 v0 v1 v2 v3 v4 v5 hnn
      refine n_iload c_184_31 rfl (n_iload_n c_184_33 rfl ?_)
      refine n_if2_ge c_184_34 (by omega) (by omega) ?_ ?_
      · intro h1
        refine n_iload c_184_105 rfl ?_
        refine n_if0_eq c_184_107 (by omega) ?_ ?_
        · intro h2
          refine n_iinc (L2 := [some (2, 112), some (0, a), some (0, x2), some (0, x3), some (0, (x4 + 1)), some (0, x5), some (0, x6), none, none]) c_184_112 rfl rfl rfl (n_goto c_184_115 (n_fg (le_s (le_s (le_s (le_s (le_s (le_n (le_n (le_n (le_n le_0))))))))) ?_))
          exact ih.2.1 _ _ _ (by omega) (by omega) (by omega) (by exact v0) (by exact v1) (by omega) (by exact RSm.step v3 v4 (by omega) (by omega)) (by omega)
        · intro h3
          refine n_iconst c_184_110 ?_
          exact n_rZ c_184_111 rfl (by omega) ⟨rfl, by omega, by exact (bb_t ⟨x3, x4, by omega, by omega, by omega, by omega, RSx.more (bb_n (by rw [← v4]; omega)) (by omega)⟩).symm⟩
      · intro h4
        refine n_iload c_184_37 rfl (n_istore (L2 := [some (2, 112), some (0, a), some (0, x2), some (0, x3), some (0, x4), some (0, x5), some (0, x6), some (0, x4), none]) c_184_39 rfl rfl (n_iload c_184_41 rfl (n_iload_n c_184_43 rfl (n_i_iand c_184_44 rfl ?_))))
        have f5 := n_and_y (x := x6) (y := x3) (by omega)
        generalize gz6 : (n_and x6 x3) = z6 at f5 ⊢
        refine n_istore (L2 := [some (2, 112), some (0, a), some (0, x2), some (0, x3), some (0, x4), some (0, x5), some (0, x6), some (0, x4), some (0, z6)]) c_184_45 rfl rfl (n_fg (le_s (le_s (le_s (le_s (le_s (le_s (le_s (le_s (le_s le_0))))))))) ?_)
        exact ih.2.2.2 _ _ _ _ _ _ _ (by omega) (by omega) (by omega) (by omega) (by omega) (by omega) (by omega) (by exact v0) (by exact v1) (by omega) (by exact v3) (by exact v4) (by omega) (by subst_vars; rfl) (by omega)
    · intro x2 x3 x4 x5 x6 x7 x8 k2 k3 k4 k5 k6 k7 k8 v0 v1 v2 v3 v4 v5 v6 hnn
      refine n_iload c_184_47 rfl ?_
      refine n_if0_le c_184_49 (by omega) ?_ ?_
      · intro h1
        refine n_iload c_184_70 rfl ?_
        refine n_if0_eq c_184_72 (by omega) ?_ ?_
        · intro h2
          refine n_iconst c_184_96 (n_istore (L2 := [some (2, 112), some (0, a), some (0, x2), some (0, x3), some (0, x4), some (0, 0), some (0, x6), some (0, x7), some (0, x8)]) c_184_97 rfl rfl (n_iinc (L2 := [some (2, 112), some (0, a), some (0, x2), some (0, x3), some (0, x4), some (0, 0), some (0, (x6 + 1)), some (0, x7), some (0, x8)]) c_184_99 rfl rfl rfl (n_goto c_184_102 (n_fg (le_s (le_s (le_s (le_s (le_s (le_s (le_s (le_n (le_n le_0))))))))) ?_))))
          exact ih.2.2.1 _ _ _ _ _ (by omega) (by omega) (by omega) (by omega) (by omega) (by exact v0) (by exact v1) (by omega) (by exact v3) (by have e7 : x7 = pvb x4 (n_and x6 x3) := (by rw [← v6, show x8 = 0 by omega]; exact (pvb_0 (by omega)).symm); exact RSx_0 (f := (fun i => M 117 (27 * a + i))) v4 (by omega) (by first | exact Or.inl (by omega) | exact Or.inr (by rw [← e7]; show x7 ≠ M 117 (27 * a + x6); omega))) (by omega) (by omega)
        · intro h3
          refine n_iload c_184_75 rfl (n_aload_n c_184_77 rfl (n_getR c_184_78 sc_112.n rfl rfl rfl r_112_6 (n_bipush c_184_81 rfl (n_iload_n c_184_83 rfl (n_imul c_184_84 rfl (n_iload c_184_85 rfl (n_iadd c_184_87 rfl (n_ialoadV c_184_88 sc_117.n rfl rfl rfl (by omega) (t_117 hS (by omega)) ?_))))))))
          intro z4 ez4 f5
          refine n_if2_ne c_184_89 (by omega) (by omega) ?_ ?_
          · intro h6
            refine n_iconst c_184_96 (n_istore (L2 := [some (2, 112), some (0, a), some (0, x2), some (0, x3), some (0, x4), some (0, 0), some (0, x6), some (0, x7), some (0, x8)]) c_184_97 rfl rfl (n_iinc (L2 := [some (2, 112), some (0, a), some (0, x2), some (0, x3), some (0, x4), some (0, 0), some (0, (x6 + 1)), some (0, x7), some (0, x8)]) c_184_99 rfl rfl rfl (n_goto c_184_102 (n_fg (le_s (le_s (le_s (le_s (le_s (le_s (le_s (le_n (le_n le_0))))))))) ?_))))
            exact ih.2.2.1 _ _ _ _ _ (by omega) (by omega) (by omega) (by omega) (by omega) (by exact v0) (by exact v1) (by omega) (by exact v3) (by have e7 : x7 = pvb x4 (n_and x6 x3) := (by rw [← v6, show x8 = 0 by omega]; exact (pvb_0 (by omega)).symm); exact RSx_0 (f := (fun i => M 117 (27 * a + i))) v4 (by omega) (by first | exact Or.inl (by omega) | exact Or.inr (by rw [← e7]; show x7 ≠ M 117 (27 * a + x6); omega))) (by omega) (by omega)
          · intro h7
            refine n_iconst c_184_92 (n_goto c_184_93 (n_istore (L2 := [some (2, 112), some (0, a), some (0, x2), some (0, x3), some (0, x4), some (0, 1), some (0, x6), some (0, x7), some (0, x8)]) c_184_97 rfl rfl (n_iinc (L2 := [some (2, 112), some (0, a), some (0, x2), some (0, x3), some (0, x4), some (0, 1), some (0, (x6 + 1)), some (0, x7), some (0, x8)]) c_184_99 rfl rfl rfl (n_goto c_184_102 (n_fg (le_s (le_s (le_s (le_s (le_s (le_s (le_s (le_n (le_n le_0))))))))) ?_)))))
            exact ih.2.2.1 _ _ _ _ _ (by omega) (by omega) (by omega) (by omega) (by omega) (by exact v0) (by exact v1) (by omega) (by exact v3) (by have e7 : x7 = pvb x4 (n_and x6 x3) := (by rw [← v6, show x8 = 0 by omega]; exact (pvb_0 (by omega)).symm); exact RSx_1 (f := (fun i => M 117 (27 * a + i))) v4 (by omega) (by rw [← e7]; show x7 = M 117 (27 * a + x6); omega)) (by omega) (by omega)
      · intro h8
        refine n_iload c_184_52 rfl (n_iload c_184_54 rfl (n_iconst c_184_56 (n_i_iand c_184_57 rfl ?_)))
        have f9 := n_and_y (x := x8) (y := 1) (by omega)
        generalize gz10 : (n_and x8 1) = z10 at f9 ⊢
        refine n_i_ixor c_184_58 rfl ?_
        have f11 := n_xor_1 (x := x7) (y := z10) (by omega) (by omega)
        generalize gz12 : (n_xor x7 z10) = z12 at f11 ⊢
        refine n_istore (L2 := [some (2, 112), some (0, a), some (0, x2), some (0, x3), some (0, x4), some (0, x5), some (0, x6), some (0, z12), some (0, x8)]) c_184_59 rfl rfl (n_iload c_184_61 rfl (n_iconst c_184_63 (n_i_ishr c_184_64 rfl ?_)))
        have f13 := n_shr_1 (x := x8) (by omega)
        generalize gz14 : (n_shr x8 1) = z14 at f13 ⊢
        refine n_istore (L2 := [some (2, 112), some (0, a), some (0, x2), some (0, x3), some (0, x4), some (0, x5), some (0, x6), some (0, z12), some (0, z14)]) c_184_65 rfl rfl (n_goto c_184_67 (n_fg (le_s (le_s (le_s (le_s (le_s (le_s (le_s (le_s (le_s le_0))))))))) ?_))
        exact ih.2.2.2 _ _ _ _ _ _ _ (by omega) (by omega) (by omega) (by omega) (by omega) (by omega) (by omega) (by exact v0) (by exact v1) (by omega) (by exact v3) (by exact v4) (by omega) (by rw [← v6]; have q := pvb_step (v := x7) (b := x8) (by omega) (by omega); subst_vars; exact q) (by omega)
set_option maxHeartbeats 4000000 in
theorem misSumX_2 {xs : List Int32} {e : Nat} {ac : Int} {M0 M : nM} {a : Int} (hS : Sf 2 ac M0 M) (hdm : M0 112 0 = 2) (ha : 0 ≤ a ∧ a ≤ 7) : nW xs e 184 0 [some (2, 112), some (0, a), none, none, none, none, none, none, none] [] M (nPI fun z M1 => M = M1 ∧ (0 ≤ z ∧ z ≤ 1) ∧ (z = bb (RS (fun i => M 117 (27 * a + i)) (n_shl 1 (M 116 a))))) := by
  have hd : (2 : Int) = 2 ∨ (2 : Int) = 3 := by decide
  have hac := hS.2.2.2.2
  refine n_iconst c_184_0 (n_aload_n c_184_1 rfl (n_getR c_184_2 sc_112.n rfl rfl rfl r_112_5 (n_iload_n c_184_5 rfl (n_ialoadV c_184_6 sc_116.n rfl rfl rfl (by omega) (t_116 hS (by omega)) ?_))))
  intro z1 ez1 f2
  refine n_i_ishl c_184_7 rfl ?_
  have f3 := n_shl_1 (y := z1) (a := 0) (b := 3) (by decide) (by omega)
  generalize gz4 : (n_shl 1 z1) = z4 at f3 ⊢
  refine n_istore_n (L2 := [some (2, 112), some (0, a), some (0, z4), none, none, none, none, none, none]) c_184_8 rfl rfl (n_iconst c_184_9 (n_istore_n (L2 := [some (2, 112), some (0, a), some (0, z4), some (0, 0), none, none, none, none, none]) c_184_10 rfl rfl (n_fg (le_s (le_s (le_s (le_s (le_n (le_n (le_n (le_n (le_n le_0))))))))) ?_)))
  exact (misSumX_2_c hS hdm ha 8110).1 _ _ (by omega) (by omega) (by subst_vars; rfl) (by exact fun x y h0 h1 => by omega) (by omega)

set_option maxHeartbeats 4000000 in
theorem msignsX_2 {xs : List Int32} {e : Nat} {ac : Int} {M0 M : nM} {a : Int} (hS : Sf 2 ac M0 M) (hdm : M0 112 0 = 2) (ha : -2147483648 ≤ a ∧ a ≤ 2147483647) : nW xs (e + 1) 185 0 [some (2, 112), some (0, a), none, none] [] M (nPI fun z M1 => M = M1 ∧ (-2147483648 ≤ z ∧ z ≤ 2147483647) ∧ (mSg 2 a z M) ∧ (z ≤ 31)) := by
  have hd : (2 : Int) = 2 ∨ (2 : Int) = 3 := by decide
  have hac := hS.2.2.2.2
  refine n_iload_n c_185_0 rfl ?_
  refine n_if0_lt c_185_1 (by omega) ?_ ?_
  · intro h1
    refine n_iconst c_185_20 ?_
    exact n_rI c_185_21 rfl ⟨rfl, by omega, by exact Or.inl ⟨by omega, rfl⟩, by omega⟩
  · intro h2
    refine n_iload_n c_185_4 rfl (n_aload_n c_185_5 rfl (n_getV (bi := 4) c_185_6 sc_112.n rfl rfl rfl (t_112_4 hS) ?_))
    intro z3 ez3 f4
    refine n_if2_ge c_185_9 (by omega) (by omega) ?_ ?_
    · intro h5
      refine n_iconst c_185_20 ?_
      exact n_rI c_185_21 rfl ⟨rfl, by omega, by exact Or.inl ⟨by omega, rfl⟩, by omega⟩
    · intro h6
      refine n_aload_n c_185_12 rfl (n_getV (bi := 0) c_185_13 sc_112.n rfl rfl rfl (t_dm hS hdm) ?_)
      intro z7 ez7 f8
      obtain rfl : z7 = 2 := by omega
      refine n_iconst c_185_16 ?_
      refine n_if2_ne c_185_17 (by omega) (by omega) ?_ ?_
      · intro h9
        refine n_iconst c_185_22 (n_aload_n c_185_23 rfl (n_getR c_185_24 sc_112.n rfl rfl rfl r_112_5 (n_iload_n c_185_27 rfl (n_ialoadV c_185_28 sc_116.n rfl rfl rfl (by omega) (t_116 hS (by omega)) ?_))))
        intro z10 ez10 f11
        refine n_i_ishl c_185_29 rfl ?_
        have f12 := n_shl_1 (y := z10) (a := 0) (b := 3) (by decide) (by omega)
        generalize gz13 : (n_shl 1 z10) = z13 at f12 ⊢
        refine n_istore_n (L2 := [some (2, 112), some (0, a), some (0, z13), none]) c_185_30 rfl rfl (n_aload_n c_185_31 rfl (n_getR c_185_32 sc_112.n rfl rfl rfl r_112_6 (n_bipush c_185_35 rfl (n_iload_n c_185_37 rfl (n_imul c_185_38 rfl (n_ialoadV c_185_39 sc_117.n rfl rfl rfl (by omega) (t_117 hS (by omega)) ?_))))))
        intro z14 ez14 f15
        have h39 : z14 = M 117 (27 * a + 0) := by rw [show (27 * a + 0 : Int) = 27 * a by omega]; omega
        refine n_if0_ne c_185_40 (by omega) ?_ ?_
        · intro h16
          refine n_iconst c_185_47 (n_istore_n (L2 := [some (2, 112), some (0, a), some (0, z13), some (0, 0)]) c_185_48 rfl rfl (n_iload_n c_185_49 rfl (n_aload_n c_185_50 rfl (n_getR c_185_51 sc_112.n rfl rfl rfl r_112_6 (n_bipush c_185_54 rfl (n_iload_n c_185_56 rfl (n_imul c_185_57 rfl (n_iload_n c_185_58 rfl (n_iadd c_185_59 rfl (n_iconst c_185_60 (n_isub c_185_61 rfl ?_)))))))))))
          refine n_ialoadV c_185_62 sc_117.n rfl rfl rfl (by omega) (t_117 hS (by omega)) ?_
          intro z17 ez17 f18
          have h62 : z17 = M 117 (27 * a + (n_shl 1 (M 116 a) - 1)) := by rw [show (27 * a + (n_shl 1 (M 116 a) - 1) : Int) = 27 * a + n_shl 1 (M 116 a) - 1 by omega]; subst_vars; rfl
          refine n_iconst c_185_63 ?_
          refine n_if2_ne c_185_64 (by omega) (by omega) ?_ ?_
          · intro h19
            refine n_iconst c_185_71 (n_i_ior (z := 0) c_185_72 (by decide) ?_)
            refine n_istore_n (L2 := [some (2, 112), some (0, a), some (0, z13), some (0, 0)]) c_185_73 rfl rfl (n_iload_n c_185_74 rfl (n_aload_n c_185_75 rfl (n_iload_n c_185_76 rfl (n_v1I c_185_77 rfl sc_112.n rfl rfl rfl rfl (mrisesX_2 (a := a) hS hdm (by omega)) ?_))))
            intro z20 M21 hP22
            obtain ⟨eM, f22, f22p0⟩ := hP22
            subst eM
            refine n_if0_eq c_185_80 (by omega) ?_ ?_
            · intro h23
              refine n_iconst c_185_87 (n_i_ior (z := 0) c_185_88 (by decide) ?_)
              refine n_istore_n (L2 := [some (2, 112), some (0, a), some (0, z13), some (0, 0)]) c_185_89 rfl rfl (n_iload_n c_185_90 rfl (n_aload_n c_185_91 rfl (n_iload_n c_185_92 rfl (n_v1I c_185_93 rfl sc_112.n rfl rfl rfl rfl (mturnsX_2 (a := a) hS hdm (by omega)) ?_))))
              intro z24 M25 hP26
              obtain ⟨eM, f26, f26p0⟩ := hP26
              subst eM
              refine n_if0_eq c_185_96 (by omega) ?_ ?_
              · intro h27
                refine n_iconst c_185_104 (n_i_ior (z := 0) c_185_105 (by decide) ?_)
                refine n_istore_n (L2 := [some (2, 112), some (0, a), some (0, z13), some (0, 0)]) c_185_106 rfl rfl (n_iload_n c_185_107 rfl (n_aload_n c_185_108 rfl (n_iload_n c_185_109 rfl (n_v1I c_185_110 rfl sc_112.n rfl rfl rfl rfl (misSumX_2 (a := a) hS hdm (by omega)) ?_))))
                intro z28 M29 hP30
                obtain ⟨eM, f30, f30p0⟩ := hP30
                subst eM
                refine n_if0_eq c_185_113 (by omega) ?_ ?_
                · intro h31
                  refine n_iconst c_185_121 (n_i_ior (z := 0) c_185_122 (by decide) ?_)
                  exact n_rI c_185_123 rfl ⟨rfl, by omega, by refine Or.inr ⟨rfl, by omega, by omega, ?_⟩; have q0 : bb (((fun i => M 117 (27 * a + i))) 0 = 0) = 0 := bb_f (show ¬ (M 117 (27 * a + 0) = 0) by omega); have q1 : bb (((fun i => M 117 (27 * a + i))) ((n_shl 1 (M 116 a)) - 1) = 1) = 0 := bb_f (show ¬ (M 117 (27 * a + (n_shl 1 (M 116 a) - 1)) = 1) by omega); have q2 := f22p0; have q3 := f26p0; have q4 := f30p0; show _ = bb (((fun i => M 117 (27 * a + i))) 0 = 0) + 2 * bb (((fun i => M 117 (27 * a + i))) ((n_shl 1 (M 116 a)) - 1) = 1) + 4 * bb (RI (fun i => M 117 (27 * a + i)) (n_shl 1 (M 116 a))) + 8 * bb (TO (fun i => M 117 (27 * a + i)) (n_shl 1 (M 116 a))) + 16 * bb (RS (fun i => M 117 (27 * a + i)) (n_shl 1 (M 116 a))); rw [q0, q1]; omega, by omega⟩
                · intro h32
                  refine n_bipush c_185_116 rfl (n_goto c_185_118 (n_i_ior (z := 16) c_185_122 (by decide) ?_))
                  exact n_rI c_185_123 rfl ⟨rfl, by omega, by refine Or.inr ⟨rfl, by omega, by omega, ?_⟩; have q0 : bb (((fun i => M 117 (27 * a + i))) 0 = 0) = 0 := bb_f (show ¬ (M 117 (27 * a + 0) = 0) by omega); have q1 : bb (((fun i => M 117 (27 * a + i))) ((n_shl 1 (M 116 a)) - 1) = 1) = 0 := bb_f (show ¬ (M 117 (27 * a + (n_shl 1 (M 116 a) - 1)) = 1) by omega); have q2 := f22p0; have q3 := f26p0; have q4 := f30p0; show _ = bb (((fun i => M 117 (27 * a + i))) 0 = 0) + 2 * bb (((fun i => M 117 (27 * a + i))) ((n_shl 1 (M 116 a)) - 1) = 1) + 4 * bb (RI (fun i => M 117 (27 * a + i)) (n_shl 1 (M 116 a))) + 8 * bb (TO (fun i => M 117 (27 * a + i)) (n_shl 1 (M 116 a))) + 16 * bb (RS (fun i => M 117 (27 * a + i)) (n_shl 1 (M 116 a))); rw [q0, q1]; omega, by omega⟩
              · intro h33
                refine n_bipush c_185_99 rfl (n_goto c_185_101 (n_i_ior (z := 8) c_185_105 (by decide) ?_))
                refine n_istore_n (L2 := [some (2, 112), some (0, a), some (0, z13), some (0, 8)]) c_185_106 rfl rfl (n_iload_n c_185_107 rfl (n_aload_n c_185_108 rfl (n_iload_n c_185_109 rfl (n_v1I c_185_110 rfl sc_112.n rfl rfl rfl rfl (misSumX_2 (a := a) hS hdm (by omega)) ?_))))
                intro z34 M35 hP36
                obtain ⟨eM, f36, f36p0⟩ := hP36
                subst eM
                refine n_if0_eq c_185_113 (by omega) ?_ ?_
                · intro h37
                  refine n_iconst c_185_121 (n_i_ior (z := 8) c_185_122 (by decide) ?_)
                  exact n_rI c_185_123 rfl ⟨rfl, by omega, by refine Or.inr ⟨rfl, by omega, by omega, ?_⟩; have q0 : bb (((fun i => M 117 (27 * a + i))) 0 = 0) = 0 := bb_f (show ¬ (M 117 (27 * a + 0) = 0) by omega); have q1 : bb (((fun i => M 117 (27 * a + i))) ((n_shl 1 (M 116 a)) - 1) = 1) = 0 := bb_f (show ¬ (M 117 (27 * a + (n_shl 1 (M 116 a) - 1)) = 1) by omega); have q2 := f22p0; have q3 := f26p0; have q4 := f36p0; show _ = bb (((fun i => M 117 (27 * a + i))) 0 = 0) + 2 * bb (((fun i => M 117 (27 * a + i))) ((n_shl 1 (M 116 a)) - 1) = 1) + 4 * bb (RI (fun i => M 117 (27 * a + i)) (n_shl 1 (M 116 a))) + 8 * bb (TO (fun i => M 117 (27 * a + i)) (n_shl 1 (M 116 a))) + 16 * bb (RS (fun i => M 117 (27 * a + i)) (n_shl 1 (M 116 a))); rw [q0, q1]; omega, by omega⟩
                · intro h38
                  refine n_bipush c_185_116 rfl (n_goto c_185_118 (n_i_ior (z := 24) c_185_122 (by decide) ?_))
                  exact n_rI c_185_123 rfl ⟨rfl, by omega, by refine Or.inr ⟨rfl, by omega, by omega, ?_⟩; have q0 : bb (((fun i => M 117 (27 * a + i))) 0 = 0) = 0 := bb_f (show ¬ (M 117 (27 * a + 0) = 0) by omega); have q1 : bb (((fun i => M 117 (27 * a + i))) ((n_shl 1 (M 116 a)) - 1) = 1) = 0 := bb_f (show ¬ (M 117 (27 * a + (n_shl 1 (M 116 a) - 1)) = 1) by omega); have q2 := f22p0; have q3 := f26p0; have q4 := f36p0; show _ = bb (((fun i => M 117 (27 * a + i))) 0 = 0) + 2 * bb (((fun i => M 117 (27 * a + i))) ((n_shl 1 (M 116 a)) - 1) = 1) + 4 * bb (RI (fun i => M 117 (27 * a + i)) (n_shl 1 (M 116 a))) + 8 * bb (TO (fun i => M 117 (27 * a + i)) (n_shl 1 (M 116 a))) + 16 * bb (RS (fun i => M 117 (27 * a + i)) (n_shl 1 (M 116 a))); rw [q0, q1]; omega, by omega⟩
            · intro h39
              refine n_iconst c_185_83 (n_goto c_185_84 (n_i_ior (z := 4) c_185_88 (by decide) ?_))
              refine n_istore_n (L2 := [some (2, 112), some (0, a), some (0, z13), some (0, 4)]) c_185_89 rfl rfl (n_iload_n c_185_90 rfl (n_aload_n c_185_91 rfl (n_iload_n c_185_92 rfl (n_v1I c_185_93 rfl sc_112.n rfl rfl rfl rfl (mturnsX_2 (a := a) hS hdm (by omega)) ?_))))
              intro z40 M41 hP42
              obtain ⟨eM, f42, f42p0⟩ := hP42
              subst eM
              refine n_if0_eq c_185_96 (by omega) ?_ ?_
              · intro h43
                refine n_iconst c_185_104 (n_i_ior (z := 4) c_185_105 (by decide) ?_)
                refine n_istore_n (L2 := [some (2, 112), some (0, a), some (0, z13), some (0, 4)]) c_185_106 rfl rfl (n_iload_n c_185_107 rfl (n_aload_n c_185_108 rfl (n_iload_n c_185_109 rfl (n_v1I c_185_110 rfl sc_112.n rfl rfl rfl rfl (misSumX_2 (a := a) hS hdm (by omega)) ?_))))
                intro z44 M45 hP46
                obtain ⟨eM, f46, f46p0⟩ := hP46
                subst eM
                refine n_if0_eq c_185_113 (by omega) ?_ ?_
                · intro h47
                  refine n_iconst c_185_121 (n_i_ior (z := 4) c_185_122 (by decide) ?_)
                  exact n_rI c_185_123 rfl ⟨rfl, by omega, by refine Or.inr ⟨rfl, by omega, by omega, ?_⟩; have q0 : bb (((fun i => M 117 (27 * a + i))) 0 = 0) = 0 := bb_f (show ¬ (M 117 (27 * a + 0) = 0) by omega); have q1 : bb (((fun i => M 117 (27 * a + i))) ((n_shl 1 (M 116 a)) - 1) = 1) = 0 := bb_f (show ¬ (M 117 (27 * a + (n_shl 1 (M 116 a) - 1)) = 1) by omega); have q2 := f22p0; have q3 := f42p0; have q4 := f46p0; show _ = bb (((fun i => M 117 (27 * a + i))) 0 = 0) + 2 * bb (((fun i => M 117 (27 * a + i))) ((n_shl 1 (M 116 a)) - 1) = 1) + 4 * bb (RI (fun i => M 117 (27 * a + i)) (n_shl 1 (M 116 a))) + 8 * bb (TO (fun i => M 117 (27 * a + i)) (n_shl 1 (M 116 a))) + 16 * bb (RS (fun i => M 117 (27 * a + i)) (n_shl 1 (M 116 a))); rw [q0, q1]; omega, by omega⟩
                · intro h48
                  refine n_bipush c_185_116 rfl (n_goto c_185_118 (n_i_ior (z := 20) c_185_122 (by decide) ?_))
                  exact n_rI c_185_123 rfl ⟨rfl, by omega, by refine Or.inr ⟨rfl, by omega, by omega, ?_⟩; have q0 : bb (((fun i => M 117 (27 * a + i))) 0 = 0) = 0 := bb_f (show ¬ (M 117 (27 * a + 0) = 0) by omega); have q1 : bb (((fun i => M 117 (27 * a + i))) ((n_shl 1 (M 116 a)) - 1) = 1) = 0 := bb_f (show ¬ (M 117 (27 * a + (n_shl 1 (M 116 a) - 1)) = 1) by omega); have q2 := f22p0; have q3 := f42p0; have q4 := f46p0; show _ = bb (((fun i => M 117 (27 * a + i))) 0 = 0) + 2 * bb (((fun i => M 117 (27 * a + i))) ((n_shl 1 (M 116 a)) - 1) = 1) + 4 * bb (RI (fun i => M 117 (27 * a + i)) (n_shl 1 (M 116 a))) + 8 * bb (TO (fun i => M 117 (27 * a + i)) (n_shl 1 (M 116 a))) + 16 * bb (RS (fun i => M 117 (27 * a + i)) (n_shl 1 (M 116 a))); rw [q0, q1]; omega, by omega⟩
              · intro h49
                refine n_bipush c_185_99 rfl (n_goto c_185_101 (n_i_ior (z := 12) c_185_105 (by decide) ?_))
                refine n_istore_n (L2 := [some (2, 112), some (0, a), some (0, z13), some (0, 12)]) c_185_106 rfl rfl (n_iload_n c_185_107 rfl (n_aload_n c_185_108 rfl (n_iload_n c_185_109 rfl (n_v1I c_185_110 rfl sc_112.n rfl rfl rfl rfl (misSumX_2 (a := a) hS hdm (by omega)) ?_))))
                intro z50 M51 hP52
                obtain ⟨eM, f52, f52p0⟩ := hP52
                subst eM
                refine n_if0_eq c_185_113 (by omega) ?_ ?_
                · intro h53
                  refine n_iconst c_185_121 (n_i_ior (z := 12) c_185_122 (by decide) ?_)
                  exact n_rI c_185_123 rfl ⟨rfl, by omega, by refine Or.inr ⟨rfl, by omega, by omega, ?_⟩; have q0 : bb (((fun i => M 117 (27 * a + i))) 0 = 0) = 0 := bb_f (show ¬ (M 117 (27 * a + 0) = 0) by omega); have q1 : bb (((fun i => M 117 (27 * a + i))) ((n_shl 1 (M 116 a)) - 1) = 1) = 0 := bb_f (show ¬ (M 117 (27 * a + (n_shl 1 (M 116 a) - 1)) = 1) by omega); have q2 := f22p0; have q3 := f42p0; have q4 := f52p0; show _ = bb (((fun i => M 117 (27 * a + i))) 0 = 0) + 2 * bb (((fun i => M 117 (27 * a + i))) ((n_shl 1 (M 116 a)) - 1) = 1) + 4 * bb (RI (fun i => M 117 (27 * a + i)) (n_shl 1 (M 116 a))) + 8 * bb (TO (fun i => M 117 (27 * a + i)) (n_shl 1 (M 116 a))) + 16 * bb (RS (fun i => M 117 (27 * a + i)) (n_shl 1 (M 116 a))); rw [q0, q1]; omega, by omega⟩
                · intro h54
                  refine n_bipush c_185_116 rfl (n_goto c_185_118 (n_i_ior (z := 28) c_185_122 (by decide) ?_))
                  exact n_rI c_185_123 rfl ⟨rfl, by omega, by refine Or.inr ⟨rfl, by omega, by omega, ?_⟩; have q0 : bb (((fun i => M 117 (27 * a + i))) 0 = 0) = 0 := bb_f (show ¬ (M 117 (27 * a + 0) = 0) by omega); have q1 : bb (((fun i => M 117 (27 * a + i))) ((n_shl 1 (M 116 a)) - 1) = 1) = 0 := bb_f (show ¬ (M 117 (27 * a + (n_shl 1 (M 116 a) - 1)) = 1) by omega); have q2 := f22p0; have q3 := f42p0; have q4 := f52p0; show _ = bb (((fun i => M 117 (27 * a + i))) 0 = 0) + 2 * bb (((fun i => M 117 (27 * a + i))) ((n_shl 1 (M 116 a)) - 1) = 1) + 4 * bb (RI (fun i => M 117 (27 * a + i)) (n_shl 1 (M 116 a))) + 8 * bb (TO (fun i => M 117 (27 * a + i)) (n_shl 1 (M 116 a))) + 16 * bb (RS (fun i => M 117 (27 * a + i)) (n_shl 1 (M 116 a))); rw [q0, q1]; omega, by omega⟩
          · intro h55
            refine n_iconst c_185_67 (n_goto c_185_68 (n_i_ior (z := 2) c_185_72 (by decide) ?_))
            refine n_istore_n (L2 := [some (2, 112), some (0, a), some (0, z13), some (0, 2)]) c_185_73 rfl rfl (n_iload_n c_185_74 rfl (n_aload_n c_185_75 rfl (n_iload_n c_185_76 rfl (n_v1I c_185_77 rfl sc_112.n rfl rfl rfl rfl (mrisesX_2 (a := a) hS hdm (by omega)) ?_))))
            intro z56 M57 hP58
            obtain ⟨eM, f58, f58p0⟩ := hP58
            subst eM
            refine n_if0_eq c_185_80 (by omega) ?_ ?_
            · intro h59
              refine n_iconst c_185_87 (n_i_ior (z := 2) c_185_88 (by decide) ?_)
              refine n_istore_n (L2 := [some (2, 112), some (0, a), some (0, z13), some (0, 2)]) c_185_89 rfl rfl (n_iload_n c_185_90 rfl (n_aload_n c_185_91 rfl (n_iload_n c_185_92 rfl (n_v1I c_185_93 rfl sc_112.n rfl rfl rfl rfl (mturnsX_2 (a := a) hS hdm (by omega)) ?_))))
              intro z60 M61 hP62
              obtain ⟨eM, f62, f62p0⟩ := hP62
              subst eM
              refine n_if0_eq c_185_96 (by omega) ?_ ?_
              · intro h63
                refine n_iconst c_185_104 (n_i_ior (z := 2) c_185_105 (by decide) ?_)
                refine n_istore_n (L2 := [some (2, 112), some (0, a), some (0, z13), some (0, 2)]) c_185_106 rfl rfl (n_iload_n c_185_107 rfl (n_aload_n c_185_108 rfl (n_iload_n c_185_109 rfl (n_v1I c_185_110 rfl sc_112.n rfl rfl rfl rfl (misSumX_2 (a := a) hS hdm (by omega)) ?_))))
                intro z64 M65 hP66
                obtain ⟨eM, f66, f66p0⟩ := hP66
                subst eM
                refine n_if0_eq c_185_113 (by omega) ?_ ?_
                · intro h67
                  refine n_iconst c_185_121 (n_i_ior (z := 2) c_185_122 (by decide) ?_)
                  exact n_rI c_185_123 rfl ⟨rfl, by omega, by refine Or.inr ⟨rfl, by omega, by omega, ?_⟩; have q0 : bb (((fun i => M 117 (27 * a + i))) 0 = 0) = 0 := bb_f (show ¬ (M 117 (27 * a + 0) = 0) by omega); have q1 : bb (((fun i => M 117 (27 * a + i))) ((n_shl 1 (M 116 a)) - 1) = 1) = 1 := bb_t (show M 117 (27 * a + (n_shl 1 (M 116 a) - 1)) = 1 by omega); have q2 := f58p0; have q3 := f62p0; have q4 := f66p0; show _ = bb (((fun i => M 117 (27 * a + i))) 0 = 0) + 2 * bb (((fun i => M 117 (27 * a + i))) ((n_shl 1 (M 116 a)) - 1) = 1) + 4 * bb (RI (fun i => M 117 (27 * a + i)) (n_shl 1 (M 116 a))) + 8 * bb (TO (fun i => M 117 (27 * a + i)) (n_shl 1 (M 116 a))) + 16 * bb (RS (fun i => M 117 (27 * a + i)) (n_shl 1 (M 116 a))); rw [q0, q1]; omega, by omega⟩
                · intro h68
                  refine n_bipush c_185_116 rfl (n_goto c_185_118 (n_i_ior (z := 18) c_185_122 (by decide) ?_))
                  exact n_rI c_185_123 rfl ⟨rfl, by omega, by refine Or.inr ⟨rfl, by omega, by omega, ?_⟩; have q0 : bb (((fun i => M 117 (27 * a + i))) 0 = 0) = 0 := bb_f (show ¬ (M 117 (27 * a + 0) = 0) by omega); have q1 : bb (((fun i => M 117 (27 * a + i))) ((n_shl 1 (M 116 a)) - 1) = 1) = 1 := bb_t (show M 117 (27 * a + (n_shl 1 (M 116 a) - 1)) = 1 by omega); have q2 := f58p0; have q3 := f62p0; have q4 := f66p0; show _ = bb (((fun i => M 117 (27 * a + i))) 0 = 0) + 2 * bb (((fun i => M 117 (27 * a + i))) ((n_shl 1 (M 116 a)) - 1) = 1) + 4 * bb (RI (fun i => M 117 (27 * a + i)) (n_shl 1 (M 116 a))) + 8 * bb (TO (fun i => M 117 (27 * a + i)) (n_shl 1 (M 116 a))) + 16 * bb (RS (fun i => M 117 (27 * a + i)) (n_shl 1 (M 116 a))); rw [q0, q1]; omega, by omega⟩
              · intro h69
                refine n_bipush c_185_99 rfl (n_goto c_185_101 (n_i_ior (z := 10) c_185_105 (by decide) ?_))
                refine n_istore_n (L2 := [some (2, 112), some (0, a), some (0, z13), some (0, 10)]) c_185_106 rfl rfl (n_iload_n c_185_107 rfl (n_aload_n c_185_108 rfl (n_iload_n c_185_109 rfl (n_v1I c_185_110 rfl sc_112.n rfl rfl rfl rfl (misSumX_2 (a := a) hS hdm (by omega)) ?_))))
                intro z70 M71 hP72
                obtain ⟨eM, f72, f72p0⟩ := hP72
                subst eM
                refine n_if0_eq c_185_113 (by omega) ?_ ?_
                · intro h73
                  refine n_iconst c_185_121 (n_i_ior (z := 10) c_185_122 (by decide) ?_)
                  exact n_rI c_185_123 rfl ⟨rfl, by omega, by refine Or.inr ⟨rfl, by omega, by omega, ?_⟩; have q0 : bb (((fun i => M 117 (27 * a + i))) 0 = 0) = 0 := bb_f (show ¬ (M 117 (27 * a + 0) = 0) by omega); have q1 : bb (((fun i => M 117 (27 * a + i))) ((n_shl 1 (M 116 a)) - 1) = 1) = 1 := bb_t (show M 117 (27 * a + (n_shl 1 (M 116 a) - 1)) = 1 by omega); have q2 := f58p0; have q3 := f62p0; have q4 := f72p0; show _ = bb (((fun i => M 117 (27 * a + i))) 0 = 0) + 2 * bb (((fun i => M 117 (27 * a + i))) ((n_shl 1 (M 116 a)) - 1) = 1) + 4 * bb (RI (fun i => M 117 (27 * a + i)) (n_shl 1 (M 116 a))) + 8 * bb (TO (fun i => M 117 (27 * a + i)) (n_shl 1 (M 116 a))) + 16 * bb (RS (fun i => M 117 (27 * a + i)) (n_shl 1 (M 116 a))); rw [q0, q1]; omega, by omega⟩
                · intro h74
                  refine n_bipush c_185_116 rfl (n_goto c_185_118 (n_i_ior (z := 26) c_185_122 (by decide) ?_))
                  exact n_rI c_185_123 rfl ⟨rfl, by omega, by refine Or.inr ⟨rfl, by omega, by omega, ?_⟩; have q0 : bb (((fun i => M 117 (27 * a + i))) 0 = 0) = 0 := bb_f (show ¬ (M 117 (27 * a + 0) = 0) by omega); have q1 : bb (((fun i => M 117 (27 * a + i))) ((n_shl 1 (M 116 a)) - 1) = 1) = 1 := bb_t (show M 117 (27 * a + (n_shl 1 (M 116 a) - 1)) = 1 by omega); have q2 := f58p0; have q3 := f62p0; have q4 := f72p0; show _ = bb (((fun i => M 117 (27 * a + i))) 0 = 0) + 2 * bb (((fun i => M 117 (27 * a + i))) ((n_shl 1 (M 116 a)) - 1) = 1) + 4 * bb (RI (fun i => M 117 (27 * a + i)) (n_shl 1 (M 116 a))) + 8 * bb (TO (fun i => M 117 (27 * a + i)) (n_shl 1 (M 116 a))) + 16 * bb (RS (fun i => M 117 (27 * a + i)) (n_shl 1 (M 116 a))); rw [q0, q1]; omega, by omega⟩
            · intro h75
              refine n_iconst c_185_83 (n_goto c_185_84 (n_i_ior (z := 6) c_185_88 (by decide) ?_))
              refine n_istore_n (L2 := [some (2, 112), some (0, a), some (0, z13), some (0, 6)]) c_185_89 rfl rfl (n_iload_n c_185_90 rfl (n_aload_n c_185_91 rfl (n_iload_n c_185_92 rfl (n_v1I c_185_93 rfl sc_112.n rfl rfl rfl rfl (mturnsX_2 (a := a) hS hdm (by omega)) ?_))))
              intro z76 M77 hP78
              obtain ⟨eM, f78, f78p0⟩ := hP78
              subst eM
              refine n_if0_eq c_185_96 (by omega) ?_ ?_
              · intro h79
                refine n_iconst c_185_104 (n_i_ior (z := 6) c_185_105 (by decide) ?_)
                refine n_istore_n (L2 := [some (2, 112), some (0, a), some (0, z13), some (0, 6)]) c_185_106 rfl rfl (n_iload_n c_185_107 rfl (n_aload_n c_185_108 rfl (n_iload_n c_185_109 rfl (n_v1I c_185_110 rfl sc_112.n rfl rfl rfl rfl (misSumX_2 (a := a) hS hdm (by omega)) ?_))))
                intro z80 M81 hP82
                obtain ⟨eM, f82, f82p0⟩ := hP82
                subst eM
                refine n_if0_eq c_185_113 (by omega) ?_ ?_
                · intro h83
                  refine n_iconst c_185_121 (n_i_ior (z := 6) c_185_122 (by decide) ?_)
                  exact n_rI c_185_123 rfl ⟨rfl, by omega, by refine Or.inr ⟨rfl, by omega, by omega, ?_⟩; have q0 : bb (((fun i => M 117 (27 * a + i))) 0 = 0) = 0 := bb_f (show ¬ (M 117 (27 * a + 0) = 0) by omega); have q1 : bb (((fun i => M 117 (27 * a + i))) ((n_shl 1 (M 116 a)) - 1) = 1) = 1 := bb_t (show M 117 (27 * a + (n_shl 1 (M 116 a) - 1)) = 1 by omega); have q2 := f58p0; have q3 := f78p0; have q4 := f82p0; show _ = bb (((fun i => M 117 (27 * a + i))) 0 = 0) + 2 * bb (((fun i => M 117 (27 * a + i))) ((n_shl 1 (M 116 a)) - 1) = 1) + 4 * bb (RI (fun i => M 117 (27 * a + i)) (n_shl 1 (M 116 a))) + 8 * bb (TO (fun i => M 117 (27 * a + i)) (n_shl 1 (M 116 a))) + 16 * bb (RS (fun i => M 117 (27 * a + i)) (n_shl 1 (M 116 a))); rw [q0, q1]; omega, by omega⟩
                · intro h84
                  refine n_bipush c_185_116 rfl (n_goto c_185_118 (n_i_ior (z := 22) c_185_122 (by decide) ?_))
                  exact n_rI c_185_123 rfl ⟨rfl, by omega, by refine Or.inr ⟨rfl, by omega, by omega, ?_⟩; have q0 : bb (((fun i => M 117 (27 * a + i))) 0 = 0) = 0 := bb_f (show ¬ (M 117 (27 * a + 0) = 0) by omega); have q1 : bb (((fun i => M 117 (27 * a + i))) ((n_shl 1 (M 116 a)) - 1) = 1) = 1 := bb_t (show M 117 (27 * a + (n_shl 1 (M 116 a) - 1)) = 1 by omega); have q2 := f58p0; have q3 := f78p0; have q4 := f82p0; show _ = bb (((fun i => M 117 (27 * a + i))) 0 = 0) + 2 * bb (((fun i => M 117 (27 * a + i))) ((n_shl 1 (M 116 a)) - 1) = 1) + 4 * bb (RI (fun i => M 117 (27 * a + i)) (n_shl 1 (M 116 a))) + 8 * bb (TO (fun i => M 117 (27 * a + i)) (n_shl 1 (M 116 a))) + 16 * bb (RS (fun i => M 117 (27 * a + i)) (n_shl 1 (M 116 a))); rw [q0, q1]; omega, by omega⟩
              · intro h85
                refine n_bipush c_185_99 rfl (n_goto c_185_101 (n_i_ior (z := 14) c_185_105 (by decide) ?_))
                refine n_istore_n (L2 := [some (2, 112), some (0, a), some (0, z13), some (0, 14)]) c_185_106 rfl rfl (n_iload_n c_185_107 rfl (n_aload_n c_185_108 rfl (n_iload_n c_185_109 rfl (n_v1I c_185_110 rfl sc_112.n rfl rfl rfl rfl (misSumX_2 (a := a) hS hdm (by omega)) ?_))))
                intro z86 M87 hP88
                obtain ⟨eM, f88, f88p0⟩ := hP88
                subst eM
                refine n_if0_eq c_185_113 (by omega) ?_ ?_
                · intro h89
                  refine n_iconst c_185_121 (n_i_ior (z := 14) c_185_122 (by decide) ?_)
                  exact n_rI c_185_123 rfl ⟨rfl, by omega, by refine Or.inr ⟨rfl, by omega, by omega, ?_⟩; have q0 : bb (((fun i => M 117 (27 * a + i))) 0 = 0) = 0 := bb_f (show ¬ (M 117 (27 * a + 0) = 0) by omega); have q1 : bb (((fun i => M 117 (27 * a + i))) ((n_shl 1 (M 116 a)) - 1) = 1) = 1 := bb_t (show M 117 (27 * a + (n_shl 1 (M 116 a) - 1)) = 1 by omega); have q2 := f58p0; have q3 := f78p0; have q4 := f88p0; show _ = bb (((fun i => M 117 (27 * a + i))) 0 = 0) + 2 * bb (((fun i => M 117 (27 * a + i))) ((n_shl 1 (M 116 a)) - 1) = 1) + 4 * bb (RI (fun i => M 117 (27 * a + i)) (n_shl 1 (M 116 a))) + 8 * bb (TO (fun i => M 117 (27 * a + i)) (n_shl 1 (M 116 a))) + 16 * bb (RS (fun i => M 117 (27 * a + i)) (n_shl 1 (M 116 a))); rw [q0, q1]; omega, by omega⟩
                · intro h90
                  refine n_bipush c_185_116 rfl (n_goto c_185_118 (n_i_ior (z := 30) c_185_122 (by decide) ?_))
                  exact n_rI c_185_123 rfl ⟨rfl, by omega, by refine Or.inr ⟨rfl, by omega, by omega, ?_⟩; have q0 : bb (((fun i => M 117 (27 * a + i))) 0 = 0) = 0 := bb_f (show ¬ (M 117 (27 * a + 0) = 0) by omega); have q1 : bb (((fun i => M 117 (27 * a + i))) ((n_shl 1 (M 116 a)) - 1) = 1) = 1 := bb_t (show M 117 (27 * a + (n_shl 1 (M 116 a) - 1)) = 1 by omega); have q2 := f58p0; have q3 := f78p0; have q4 := f88p0; show _ = bb (((fun i => M 117 (27 * a + i))) 0 = 0) + 2 * bb (((fun i => M 117 (27 * a + i))) ((n_shl 1 (M 116 a)) - 1) = 1) + 4 * bb (RI (fun i => M 117 (27 * a + i)) (n_shl 1 (M 116 a))) + 8 * bb (TO (fun i => M 117 (27 * a + i)) (n_shl 1 (M 116 a))) + 16 * bb (RS (fun i => M 117 (27 * a + i)) (n_shl 1 (M 116 a))); rw [q0, q1]; omega, by omega⟩
        · intro h91
          refine n_iconst c_185_43 (n_goto c_185_44 (n_istore_n (L2 := [some (2, 112), some (0, a), some (0, z13), some (0, 1)]) c_185_48 rfl rfl (n_iload_n c_185_49 rfl (n_aload_n c_185_50 rfl (n_getR c_185_51 sc_112.n rfl rfl rfl r_112_6 (n_bipush c_185_54 rfl (n_iload_n c_185_56 rfl (n_imul c_185_57 rfl (n_iload_n c_185_58 rfl (n_iadd c_185_59 rfl (n_iconst c_185_60 ?_)))))))))))
          refine n_isub c_185_61 rfl (n_ialoadV c_185_62 sc_117.n rfl rfl rfl (by omega) (t_117 hS (by omega)) ?_)
          intro z92 ez92 f93
          have h62 : z92 = M 117 (27 * a + (n_shl 1 (M 116 a) - 1)) := by rw [show (27 * a + (n_shl 1 (M 116 a) - 1) : Int) = 27 * a + n_shl 1 (M 116 a) - 1 by omega]; subst_vars; rfl
          refine n_iconst c_185_63 ?_
          refine n_if2_ne c_185_64 (by omega) (by omega) ?_ ?_
          · intro h94
            refine n_iconst c_185_71 (n_i_ior (z := 1) c_185_72 (by decide) ?_)
            refine n_istore_n (L2 := [some (2, 112), some (0, a), some (0, z13), some (0, 1)]) c_185_73 rfl rfl (n_iload_n c_185_74 rfl (n_aload_n c_185_75 rfl (n_iload_n c_185_76 rfl (n_v1I c_185_77 rfl sc_112.n rfl rfl rfl rfl (mrisesX_2 (a := a) hS hdm (by omega)) ?_))))
            intro z95 M96 hP97
            obtain ⟨eM, f97, f97p0⟩ := hP97
            subst eM
            refine n_if0_eq c_185_80 (by omega) ?_ ?_
            · intro h98
              refine n_iconst c_185_87 (n_i_ior (z := 1) c_185_88 (by decide) ?_)
              refine n_istore_n (L2 := [some (2, 112), some (0, a), some (0, z13), some (0, 1)]) c_185_89 rfl rfl (n_iload_n c_185_90 rfl (n_aload_n c_185_91 rfl (n_iload_n c_185_92 rfl (n_v1I c_185_93 rfl sc_112.n rfl rfl rfl rfl (mturnsX_2 (a := a) hS hdm (by omega)) ?_))))
              intro z99 M100 hP101
              obtain ⟨eM, f101, f101p0⟩ := hP101
              subst eM
              refine n_if0_eq c_185_96 (by omega) ?_ ?_
              · intro h102
                refine n_iconst c_185_104 (n_i_ior (z := 1) c_185_105 (by decide) ?_)
                refine n_istore_n (L2 := [some (2, 112), some (0, a), some (0, z13), some (0, 1)]) c_185_106 rfl rfl (n_iload_n c_185_107 rfl (n_aload_n c_185_108 rfl (n_iload_n c_185_109 rfl (n_v1I c_185_110 rfl sc_112.n rfl rfl rfl rfl (misSumX_2 (a := a) hS hdm (by omega)) ?_))))
                intro z103 M104 hP105
                obtain ⟨eM, f105, f105p0⟩ := hP105
                subst eM
                refine n_if0_eq c_185_113 (by omega) ?_ ?_
                · intro h106
                  refine n_iconst c_185_121 (n_i_ior (z := 1) c_185_122 (by decide) ?_)
                  exact n_rI c_185_123 rfl ⟨rfl, by omega, by refine Or.inr ⟨rfl, by omega, by omega, ?_⟩; have q0 : bb (((fun i => M 117 (27 * a + i))) 0 = 0) = 1 := bb_t (show M 117 (27 * a + 0) = 0 by omega); have q1 : bb (((fun i => M 117 (27 * a + i))) ((n_shl 1 (M 116 a)) - 1) = 1) = 0 := bb_f (show ¬ (M 117 (27 * a + (n_shl 1 (M 116 a) - 1)) = 1) by omega); have q2 := f97p0; have q3 := f101p0; have q4 := f105p0; show _ = bb (((fun i => M 117 (27 * a + i))) 0 = 0) + 2 * bb (((fun i => M 117 (27 * a + i))) ((n_shl 1 (M 116 a)) - 1) = 1) + 4 * bb (RI (fun i => M 117 (27 * a + i)) (n_shl 1 (M 116 a))) + 8 * bb (TO (fun i => M 117 (27 * a + i)) (n_shl 1 (M 116 a))) + 16 * bb (RS (fun i => M 117 (27 * a + i)) (n_shl 1 (M 116 a))); rw [q0, q1]; omega, by omega⟩
                · intro h107
                  refine n_bipush c_185_116 rfl (n_goto c_185_118 (n_i_ior (z := 17) c_185_122 (by decide) ?_))
                  exact n_rI c_185_123 rfl ⟨rfl, by omega, by refine Or.inr ⟨rfl, by omega, by omega, ?_⟩; have q0 : bb (((fun i => M 117 (27 * a + i))) 0 = 0) = 1 := bb_t (show M 117 (27 * a + 0) = 0 by omega); have q1 : bb (((fun i => M 117 (27 * a + i))) ((n_shl 1 (M 116 a)) - 1) = 1) = 0 := bb_f (show ¬ (M 117 (27 * a + (n_shl 1 (M 116 a) - 1)) = 1) by omega); have q2 := f97p0; have q3 := f101p0; have q4 := f105p0; show _ = bb (((fun i => M 117 (27 * a + i))) 0 = 0) + 2 * bb (((fun i => M 117 (27 * a + i))) ((n_shl 1 (M 116 a)) - 1) = 1) + 4 * bb (RI (fun i => M 117 (27 * a + i)) (n_shl 1 (M 116 a))) + 8 * bb (TO (fun i => M 117 (27 * a + i)) (n_shl 1 (M 116 a))) + 16 * bb (RS (fun i => M 117 (27 * a + i)) (n_shl 1 (M 116 a))); rw [q0, q1]; omega, by omega⟩
              · intro h108
                refine n_bipush c_185_99 rfl (n_goto c_185_101 (n_i_ior (z := 9) c_185_105 (by decide) ?_))
                refine n_istore_n (L2 := [some (2, 112), some (0, a), some (0, z13), some (0, 9)]) c_185_106 rfl rfl (n_iload_n c_185_107 rfl (n_aload_n c_185_108 rfl (n_iload_n c_185_109 rfl (n_v1I c_185_110 rfl sc_112.n rfl rfl rfl rfl (misSumX_2 (a := a) hS hdm (by omega)) ?_))))
                intro z109 M110 hP111
                obtain ⟨eM, f111, f111p0⟩ := hP111
                subst eM
                refine n_if0_eq c_185_113 (by omega) ?_ ?_
                · intro h112
                  refine n_iconst c_185_121 (n_i_ior (z := 9) c_185_122 (by decide) ?_)
                  exact n_rI c_185_123 rfl ⟨rfl, by omega, by refine Or.inr ⟨rfl, by omega, by omega, ?_⟩; have q0 : bb (((fun i => M 117 (27 * a + i))) 0 = 0) = 1 := bb_t (show M 117 (27 * a + 0) = 0 by omega); have q1 : bb (((fun i => M 117 (27 * a + i))) ((n_shl 1 (M 116 a)) - 1) = 1) = 0 := bb_f (show ¬ (M 117 (27 * a + (n_shl 1 (M 116 a) - 1)) = 1) by omega); have q2 := f97p0; have q3 := f101p0; have q4 := f111p0; show _ = bb (((fun i => M 117 (27 * a + i))) 0 = 0) + 2 * bb (((fun i => M 117 (27 * a + i))) ((n_shl 1 (M 116 a)) - 1) = 1) + 4 * bb (RI (fun i => M 117 (27 * a + i)) (n_shl 1 (M 116 a))) + 8 * bb (TO (fun i => M 117 (27 * a + i)) (n_shl 1 (M 116 a))) + 16 * bb (RS (fun i => M 117 (27 * a + i)) (n_shl 1 (M 116 a))); rw [q0, q1]; omega, by omega⟩
                · intro h113
                  refine n_bipush c_185_116 rfl (n_goto c_185_118 (n_i_ior (z := 25) c_185_122 (by decide) ?_))
                  exact n_rI c_185_123 rfl ⟨rfl, by omega, by refine Or.inr ⟨rfl, by omega, by omega, ?_⟩; have q0 : bb (((fun i => M 117 (27 * a + i))) 0 = 0) = 1 := bb_t (show M 117 (27 * a + 0) = 0 by omega); have q1 : bb (((fun i => M 117 (27 * a + i))) ((n_shl 1 (M 116 a)) - 1) = 1) = 0 := bb_f (show ¬ (M 117 (27 * a + (n_shl 1 (M 116 a) - 1)) = 1) by omega); have q2 := f97p0; have q3 := f101p0; have q4 := f111p0; show _ = bb (((fun i => M 117 (27 * a + i))) 0 = 0) + 2 * bb (((fun i => M 117 (27 * a + i))) ((n_shl 1 (M 116 a)) - 1) = 1) + 4 * bb (RI (fun i => M 117 (27 * a + i)) (n_shl 1 (M 116 a))) + 8 * bb (TO (fun i => M 117 (27 * a + i)) (n_shl 1 (M 116 a))) + 16 * bb (RS (fun i => M 117 (27 * a + i)) (n_shl 1 (M 116 a))); rw [q0, q1]; omega, by omega⟩
            · intro h114
              refine n_iconst c_185_83 (n_goto c_185_84 (n_i_ior (z := 5) c_185_88 (by decide) ?_))
              refine n_istore_n (L2 := [some (2, 112), some (0, a), some (0, z13), some (0, 5)]) c_185_89 rfl rfl (n_iload_n c_185_90 rfl (n_aload_n c_185_91 rfl (n_iload_n c_185_92 rfl (n_v1I c_185_93 rfl sc_112.n rfl rfl rfl rfl (mturnsX_2 (a := a) hS hdm (by omega)) ?_))))
              intro z115 M116 hP117
              obtain ⟨eM, f117, f117p0⟩ := hP117
              subst eM
              refine n_if0_eq c_185_96 (by omega) ?_ ?_
              · intro h118
                refine n_iconst c_185_104 (n_i_ior (z := 5) c_185_105 (by decide) ?_)
                refine n_istore_n (L2 := [some (2, 112), some (0, a), some (0, z13), some (0, 5)]) c_185_106 rfl rfl (n_iload_n c_185_107 rfl (n_aload_n c_185_108 rfl (n_iload_n c_185_109 rfl (n_v1I c_185_110 rfl sc_112.n rfl rfl rfl rfl (misSumX_2 (a := a) hS hdm (by omega)) ?_))))
                intro z119 M120 hP121
                obtain ⟨eM, f121, f121p0⟩ := hP121
                subst eM
                refine n_if0_eq c_185_113 (by omega) ?_ ?_
                · intro h122
                  refine n_iconst c_185_121 (n_i_ior (z := 5) c_185_122 (by decide) ?_)
                  exact n_rI c_185_123 rfl ⟨rfl, by omega, by refine Or.inr ⟨rfl, by omega, by omega, ?_⟩; have q0 : bb (((fun i => M 117 (27 * a + i))) 0 = 0) = 1 := bb_t (show M 117 (27 * a + 0) = 0 by omega); have q1 : bb (((fun i => M 117 (27 * a + i))) ((n_shl 1 (M 116 a)) - 1) = 1) = 0 := bb_f (show ¬ (M 117 (27 * a + (n_shl 1 (M 116 a) - 1)) = 1) by omega); have q2 := f97p0; have q3 := f117p0; have q4 := f121p0; show _ = bb (((fun i => M 117 (27 * a + i))) 0 = 0) + 2 * bb (((fun i => M 117 (27 * a + i))) ((n_shl 1 (M 116 a)) - 1) = 1) + 4 * bb (RI (fun i => M 117 (27 * a + i)) (n_shl 1 (M 116 a))) + 8 * bb (TO (fun i => M 117 (27 * a + i)) (n_shl 1 (M 116 a))) + 16 * bb (RS (fun i => M 117 (27 * a + i)) (n_shl 1 (M 116 a))); rw [q0, q1]; omega, by omega⟩
                · intro h123
                  refine n_bipush c_185_116 rfl (n_goto c_185_118 (n_i_ior (z := 21) c_185_122 (by decide) ?_))
                  exact n_rI c_185_123 rfl ⟨rfl, by omega, by refine Or.inr ⟨rfl, by omega, by omega, ?_⟩; have q0 : bb (((fun i => M 117 (27 * a + i))) 0 = 0) = 1 := bb_t (show M 117 (27 * a + 0) = 0 by omega); have q1 : bb (((fun i => M 117 (27 * a + i))) ((n_shl 1 (M 116 a)) - 1) = 1) = 0 := bb_f (show ¬ (M 117 (27 * a + (n_shl 1 (M 116 a) - 1)) = 1) by omega); have q2 := f97p0; have q3 := f117p0; have q4 := f121p0; show _ = bb (((fun i => M 117 (27 * a + i))) 0 = 0) + 2 * bb (((fun i => M 117 (27 * a + i))) ((n_shl 1 (M 116 a)) - 1) = 1) + 4 * bb (RI (fun i => M 117 (27 * a + i)) (n_shl 1 (M 116 a))) + 8 * bb (TO (fun i => M 117 (27 * a + i)) (n_shl 1 (M 116 a))) + 16 * bb (RS (fun i => M 117 (27 * a + i)) (n_shl 1 (M 116 a))); rw [q0, q1]; omega, by omega⟩
              · intro h124
                refine n_bipush c_185_99 rfl (n_goto c_185_101 (n_i_ior (z := 13) c_185_105 (by decide) ?_))
                refine n_istore_n (L2 := [some (2, 112), some (0, a), some (0, z13), some (0, 13)]) c_185_106 rfl rfl (n_iload_n c_185_107 rfl (n_aload_n c_185_108 rfl (n_iload_n c_185_109 rfl (n_v1I c_185_110 rfl sc_112.n rfl rfl rfl rfl (misSumX_2 (a := a) hS hdm (by omega)) ?_))))
                intro z125 M126 hP127
                obtain ⟨eM, f127, f127p0⟩ := hP127
                subst eM
                refine n_if0_eq c_185_113 (by omega) ?_ ?_
                · intro h128
                  refine n_iconst c_185_121 (n_i_ior (z := 13) c_185_122 (by decide) ?_)
                  exact n_rI c_185_123 rfl ⟨rfl, by omega, by refine Or.inr ⟨rfl, by omega, by omega, ?_⟩; have q0 : bb (((fun i => M 117 (27 * a + i))) 0 = 0) = 1 := bb_t (show M 117 (27 * a + 0) = 0 by omega); have q1 : bb (((fun i => M 117 (27 * a + i))) ((n_shl 1 (M 116 a)) - 1) = 1) = 0 := bb_f (show ¬ (M 117 (27 * a + (n_shl 1 (M 116 a) - 1)) = 1) by omega); have q2 := f97p0; have q3 := f117p0; have q4 := f127p0; show _ = bb (((fun i => M 117 (27 * a + i))) 0 = 0) + 2 * bb (((fun i => M 117 (27 * a + i))) ((n_shl 1 (M 116 a)) - 1) = 1) + 4 * bb (RI (fun i => M 117 (27 * a + i)) (n_shl 1 (M 116 a))) + 8 * bb (TO (fun i => M 117 (27 * a + i)) (n_shl 1 (M 116 a))) + 16 * bb (RS (fun i => M 117 (27 * a + i)) (n_shl 1 (M 116 a))); rw [q0, q1]; omega, by omega⟩
                · intro h129
                  refine n_bipush c_185_116 rfl (n_goto c_185_118 (n_i_ior (z := 29) c_185_122 (by decide) ?_))
                  exact n_rI c_185_123 rfl ⟨rfl, by omega, by refine Or.inr ⟨rfl, by omega, by omega, ?_⟩; have q0 : bb (((fun i => M 117 (27 * a + i))) 0 = 0) = 1 := bb_t (show M 117 (27 * a + 0) = 0 by omega); have q1 : bb (((fun i => M 117 (27 * a + i))) ((n_shl 1 (M 116 a)) - 1) = 1) = 0 := bb_f (show ¬ (M 117 (27 * a + (n_shl 1 (M 116 a) - 1)) = 1) by omega); have q2 := f97p0; have q3 := f117p0; have q4 := f127p0; show _ = bb (((fun i => M 117 (27 * a + i))) 0 = 0) + 2 * bb (((fun i => M 117 (27 * a + i))) ((n_shl 1 (M 116 a)) - 1) = 1) + 4 * bb (RI (fun i => M 117 (27 * a + i)) (n_shl 1 (M 116 a))) + 8 * bb (TO (fun i => M 117 (27 * a + i)) (n_shl 1 (M 116 a))) + 16 * bb (RS (fun i => M 117 (27 * a + i)) (n_shl 1 (M 116 a))); rw [q0, q1]; omega, by omega⟩
          · intro h130
            refine n_iconst c_185_67 (n_goto c_185_68 (n_i_ior (z := 3) c_185_72 (by decide) ?_))
            refine n_istore_n (L2 := [some (2, 112), some (0, a), some (0, z13), some (0, 3)]) c_185_73 rfl rfl (n_iload_n c_185_74 rfl (n_aload_n c_185_75 rfl (n_iload_n c_185_76 rfl (n_v1I c_185_77 rfl sc_112.n rfl rfl rfl rfl (mrisesX_2 (a := a) hS hdm (by omega)) ?_))))
            intro z131 M132 hP133
            obtain ⟨eM, f133, f133p0⟩ := hP133
            subst eM
            refine n_if0_eq c_185_80 (by omega) ?_ ?_
            · intro h134
              refine n_iconst c_185_87 (n_i_ior (z := 3) c_185_88 (by decide) ?_)
              refine n_istore_n (L2 := [some (2, 112), some (0, a), some (0, z13), some (0, 3)]) c_185_89 rfl rfl (n_iload_n c_185_90 rfl (n_aload_n c_185_91 rfl (n_iload_n c_185_92 rfl (n_v1I c_185_93 rfl sc_112.n rfl rfl rfl rfl (mturnsX_2 (a := a) hS hdm (by omega)) ?_))))
              intro z135 M136 hP137
              obtain ⟨eM, f137, f137p0⟩ := hP137
              subst eM
              refine n_if0_eq c_185_96 (by omega) ?_ ?_
              · intro h138
                refine n_iconst c_185_104 (n_i_ior (z := 3) c_185_105 (by decide) ?_)
                refine n_istore_n (L2 := [some (2, 112), some (0, a), some (0, z13), some (0, 3)]) c_185_106 rfl rfl (n_iload_n c_185_107 rfl (n_aload_n c_185_108 rfl (n_iload_n c_185_109 rfl (n_v1I c_185_110 rfl sc_112.n rfl rfl rfl rfl (misSumX_2 (a := a) hS hdm (by omega)) ?_))))
                intro z139 M140 hP141
                obtain ⟨eM, f141, f141p0⟩ := hP141
                subst eM
                refine n_if0_eq c_185_113 (by omega) ?_ ?_
                · intro h142
                  refine n_iconst c_185_121 (n_i_ior (z := 3) c_185_122 (by decide) ?_)
                  exact n_rI c_185_123 rfl ⟨rfl, by omega, by refine Or.inr ⟨rfl, by omega, by omega, ?_⟩; have q0 : bb (((fun i => M 117 (27 * a + i))) 0 = 0) = 1 := bb_t (show M 117 (27 * a + 0) = 0 by omega); have q1 : bb (((fun i => M 117 (27 * a + i))) ((n_shl 1 (M 116 a)) - 1) = 1) = 1 := bb_t (show M 117 (27 * a + (n_shl 1 (M 116 a) - 1)) = 1 by omega); have q2 := f133p0; have q3 := f137p0; have q4 := f141p0; show _ = bb (((fun i => M 117 (27 * a + i))) 0 = 0) + 2 * bb (((fun i => M 117 (27 * a + i))) ((n_shl 1 (M 116 a)) - 1) = 1) + 4 * bb (RI (fun i => M 117 (27 * a + i)) (n_shl 1 (M 116 a))) + 8 * bb (TO (fun i => M 117 (27 * a + i)) (n_shl 1 (M 116 a))) + 16 * bb (RS (fun i => M 117 (27 * a + i)) (n_shl 1 (M 116 a))); rw [q0, q1]; omega, by omega⟩
                · intro h143
                  refine n_bipush c_185_116 rfl (n_goto c_185_118 (n_i_ior (z := 19) c_185_122 (by decide) ?_))
                  exact n_rI c_185_123 rfl ⟨rfl, by omega, by refine Or.inr ⟨rfl, by omega, by omega, ?_⟩; have q0 : bb (((fun i => M 117 (27 * a + i))) 0 = 0) = 1 := bb_t (show M 117 (27 * a + 0) = 0 by omega); have q1 : bb (((fun i => M 117 (27 * a + i))) ((n_shl 1 (M 116 a)) - 1) = 1) = 1 := bb_t (show M 117 (27 * a + (n_shl 1 (M 116 a) - 1)) = 1 by omega); have q2 := f133p0; have q3 := f137p0; have q4 := f141p0; show _ = bb (((fun i => M 117 (27 * a + i))) 0 = 0) + 2 * bb (((fun i => M 117 (27 * a + i))) ((n_shl 1 (M 116 a)) - 1) = 1) + 4 * bb (RI (fun i => M 117 (27 * a + i)) (n_shl 1 (M 116 a))) + 8 * bb (TO (fun i => M 117 (27 * a + i)) (n_shl 1 (M 116 a))) + 16 * bb (RS (fun i => M 117 (27 * a + i)) (n_shl 1 (M 116 a))); rw [q0, q1]; omega, by omega⟩
              · intro h144
                refine n_bipush c_185_99 rfl (n_goto c_185_101 (n_i_ior (z := 11) c_185_105 (by decide) ?_))
                refine n_istore_n (L2 := [some (2, 112), some (0, a), some (0, z13), some (0, 11)]) c_185_106 rfl rfl (n_iload_n c_185_107 rfl (n_aload_n c_185_108 rfl (n_iload_n c_185_109 rfl (n_v1I c_185_110 rfl sc_112.n rfl rfl rfl rfl (misSumX_2 (a := a) hS hdm (by omega)) ?_))))
                intro z145 M146 hP147
                obtain ⟨eM, f147, f147p0⟩ := hP147
                subst eM
                refine n_if0_eq c_185_113 (by omega) ?_ ?_
                · intro h148
                  refine n_iconst c_185_121 (n_i_ior (z := 11) c_185_122 (by decide) ?_)
                  exact n_rI c_185_123 rfl ⟨rfl, by omega, by refine Or.inr ⟨rfl, by omega, by omega, ?_⟩; have q0 : bb (((fun i => M 117 (27 * a + i))) 0 = 0) = 1 := bb_t (show M 117 (27 * a + 0) = 0 by omega); have q1 : bb (((fun i => M 117 (27 * a + i))) ((n_shl 1 (M 116 a)) - 1) = 1) = 1 := bb_t (show M 117 (27 * a + (n_shl 1 (M 116 a) - 1)) = 1 by omega); have q2 := f133p0; have q3 := f137p0; have q4 := f147p0; show _ = bb (((fun i => M 117 (27 * a + i))) 0 = 0) + 2 * bb (((fun i => M 117 (27 * a + i))) ((n_shl 1 (M 116 a)) - 1) = 1) + 4 * bb (RI (fun i => M 117 (27 * a + i)) (n_shl 1 (M 116 a))) + 8 * bb (TO (fun i => M 117 (27 * a + i)) (n_shl 1 (M 116 a))) + 16 * bb (RS (fun i => M 117 (27 * a + i)) (n_shl 1 (M 116 a))); rw [q0, q1]; omega, by omega⟩
                · intro h149
                  refine n_bipush c_185_116 rfl (n_goto c_185_118 (n_i_ior (z := 27) c_185_122 (by decide) ?_))
                  exact n_rI c_185_123 rfl ⟨rfl, by omega, by refine Or.inr ⟨rfl, by omega, by omega, ?_⟩; have q0 : bb (((fun i => M 117 (27 * a + i))) 0 = 0) = 1 := bb_t (show M 117 (27 * a + 0) = 0 by omega); have q1 : bb (((fun i => M 117 (27 * a + i))) ((n_shl 1 (M 116 a)) - 1) = 1) = 1 := bb_t (show M 117 (27 * a + (n_shl 1 (M 116 a) - 1)) = 1 by omega); have q2 := f133p0; have q3 := f137p0; have q4 := f147p0; show _ = bb (((fun i => M 117 (27 * a + i))) 0 = 0) + 2 * bb (((fun i => M 117 (27 * a + i))) ((n_shl 1 (M 116 a)) - 1) = 1) + 4 * bb (RI (fun i => M 117 (27 * a + i)) (n_shl 1 (M 116 a))) + 8 * bb (TO (fun i => M 117 (27 * a + i)) (n_shl 1 (M 116 a))) + 16 * bb (RS (fun i => M 117 (27 * a + i)) (n_shl 1 (M 116 a))); rw [q0, q1]; omega, by omega⟩
            · intro h150
              refine n_iconst c_185_83 (n_goto c_185_84 (n_i_ior (z := 7) c_185_88 (by decide) ?_))
              refine n_istore_n (L2 := [some (2, 112), some (0, a), some (0, z13), some (0, 7)]) c_185_89 rfl rfl (n_iload_n c_185_90 rfl (n_aload_n c_185_91 rfl (n_iload_n c_185_92 rfl (n_v1I c_185_93 rfl sc_112.n rfl rfl rfl rfl (mturnsX_2 (a := a) hS hdm (by omega)) ?_))))
              intro z151 M152 hP153
              obtain ⟨eM, f153, f153p0⟩ := hP153
              subst eM
              refine n_if0_eq c_185_96 (by omega) ?_ ?_
              · intro h154
                refine n_iconst c_185_104 (n_i_ior (z := 7) c_185_105 (by decide) ?_)
                refine n_istore_n (L2 := [some (2, 112), some (0, a), some (0, z13), some (0, 7)]) c_185_106 rfl rfl (n_iload_n c_185_107 rfl (n_aload_n c_185_108 rfl (n_iload_n c_185_109 rfl (n_v1I c_185_110 rfl sc_112.n rfl rfl rfl rfl (misSumX_2 (a := a) hS hdm (by omega)) ?_))))
                intro z155 M156 hP157
                obtain ⟨eM, f157, f157p0⟩ := hP157
                subst eM
                refine n_if0_eq c_185_113 (by omega) ?_ ?_
                · intro h158
                  refine n_iconst c_185_121 (n_i_ior (z := 7) c_185_122 (by decide) ?_)
                  exact n_rI c_185_123 rfl ⟨rfl, by omega, by refine Or.inr ⟨rfl, by omega, by omega, ?_⟩; have q0 : bb (((fun i => M 117 (27 * a + i))) 0 = 0) = 1 := bb_t (show M 117 (27 * a + 0) = 0 by omega); have q1 : bb (((fun i => M 117 (27 * a + i))) ((n_shl 1 (M 116 a)) - 1) = 1) = 1 := bb_t (show M 117 (27 * a + (n_shl 1 (M 116 a) - 1)) = 1 by omega); have q2 := f133p0; have q3 := f153p0; have q4 := f157p0; show _ = bb (((fun i => M 117 (27 * a + i))) 0 = 0) + 2 * bb (((fun i => M 117 (27 * a + i))) ((n_shl 1 (M 116 a)) - 1) = 1) + 4 * bb (RI (fun i => M 117 (27 * a + i)) (n_shl 1 (M 116 a))) + 8 * bb (TO (fun i => M 117 (27 * a + i)) (n_shl 1 (M 116 a))) + 16 * bb (RS (fun i => M 117 (27 * a + i)) (n_shl 1 (M 116 a))); rw [q0, q1]; omega, by omega⟩
                · intro h159
                  refine n_bipush c_185_116 rfl (n_goto c_185_118 (n_i_ior (z := 23) c_185_122 (by decide) ?_))
                  exact n_rI c_185_123 rfl ⟨rfl, by omega, by refine Or.inr ⟨rfl, by omega, by omega, ?_⟩; have q0 : bb (((fun i => M 117 (27 * a + i))) 0 = 0) = 1 := bb_t (show M 117 (27 * a + 0) = 0 by omega); have q1 : bb (((fun i => M 117 (27 * a + i))) ((n_shl 1 (M 116 a)) - 1) = 1) = 1 := bb_t (show M 117 (27 * a + (n_shl 1 (M 116 a) - 1)) = 1 by omega); have q2 := f133p0; have q3 := f153p0; have q4 := f157p0; show _ = bb (((fun i => M 117 (27 * a + i))) 0 = 0) + 2 * bb (((fun i => M 117 (27 * a + i))) ((n_shl 1 (M 116 a)) - 1) = 1) + 4 * bb (RI (fun i => M 117 (27 * a + i)) (n_shl 1 (M 116 a))) + 8 * bb (TO (fun i => M 117 (27 * a + i)) (n_shl 1 (M 116 a))) + 16 * bb (RS (fun i => M 117 (27 * a + i)) (n_shl 1 (M 116 a))); rw [q0, q1]; omega, by omega⟩
              · intro h160
                refine n_bipush c_185_99 rfl (n_goto c_185_101 (n_i_ior (z := 15) c_185_105 (by decide) ?_))
                refine n_istore_n (L2 := [some (2, 112), some (0, a), some (0, z13), some (0, 15)]) c_185_106 rfl rfl (n_iload_n c_185_107 rfl (n_aload_n c_185_108 rfl (n_iload_n c_185_109 rfl (n_v1I c_185_110 rfl sc_112.n rfl rfl rfl rfl (misSumX_2 (a := a) hS hdm (by omega)) ?_))))
                intro z161 M162 hP163
                obtain ⟨eM, f163, f163p0⟩ := hP163
                subst eM
                refine n_if0_eq c_185_113 (by omega) ?_ ?_
                · intro h164
                  refine n_iconst c_185_121 (n_i_ior (z := 15) c_185_122 (by decide) ?_)
                  exact n_rI c_185_123 rfl ⟨rfl, by omega, by refine Or.inr ⟨rfl, by omega, by omega, ?_⟩; have q0 : bb (((fun i => M 117 (27 * a + i))) 0 = 0) = 1 := bb_t (show M 117 (27 * a + 0) = 0 by omega); have q1 : bb (((fun i => M 117 (27 * a + i))) ((n_shl 1 (M 116 a)) - 1) = 1) = 1 := bb_t (show M 117 (27 * a + (n_shl 1 (M 116 a) - 1)) = 1 by omega); have q2 := f133p0; have q3 := f153p0; have q4 := f163p0; show _ = bb (((fun i => M 117 (27 * a + i))) 0 = 0) + 2 * bb (((fun i => M 117 (27 * a + i))) ((n_shl 1 (M 116 a)) - 1) = 1) + 4 * bb (RI (fun i => M 117 (27 * a + i)) (n_shl 1 (M 116 a))) + 8 * bb (TO (fun i => M 117 (27 * a + i)) (n_shl 1 (M 116 a))) + 16 * bb (RS (fun i => M 117 (27 * a + i)) (n_shl 1 (M 116 a))); rw [q0, q1]; omega, by omega⟩
                · intro h165
                  refine n_bipush c_185_116 rfl (n_goto c_185_118 (n_i_ior (z := 31) c_185_122 (by decide) ?_))
                  exact n_rI c_185_123 rfl ⟨rfl, by omega, by refine Or.inr ⟨rfl, by omega, by omega, ?_⟩; have q0 : bb (((fun i => M 117 (27 * a + i))) 0 = 0) = 1 := bb_t (show M 117 (27 * a + 0) = 0 by omega); have q1 : bb (((fun i => M 117 (27 * a + i))) ((n_shl 1 (M 116 a)) - 1) = 1) = 1 := bb_t (show M 117 (27 * a + (n_shl 1 (M 116 a) - 1)) = 1 by omega); have q2 := f133p0; have q3 := f153p0; have q4 := f163p0; show _ = bb (((fun i => M 117 (27 * a + i))) 0 = 0) + 2 * bb (((fun i => M 117 (27 * a + i))) ((n_shl 1 (M 116 a)) - 1) = 1) + 4 * bb (RI (fun i => M 117 (27 * a + i)) (n_shl 1 (M 116 a))) + 8 * bb (TO (fun i => M 117 (27 * a + i)) (n_shl 1 (M 116 a))) + 16 * bb (RS (fun i => M 117 (27 * a + i)) (n_shl 1 (M 116 a))); rw [q0, q1]; omega, by omega⟩
      · intro h166
        exfalso; omega
