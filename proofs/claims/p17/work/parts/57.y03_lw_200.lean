/-! What the methods tell. -/
set_option maxHeartbeats 4000000 in
theorem widenX1_2 {xs : List Int32} {e : Nat} {ac : Int} {M0 M : nM} {n : Int} (hS : Sf 2 ac M0 M) (hn : 0 ≤ n ∧ n ≤ 1) : nW xs e 17 0 [some (2, 4), some (0, n), some (0, 1), none, none] [] M (nPI fun z M1 => M = M1 ∧ (0 ≤ z ∧ z ≤ 7) ∧ (z = wd 2 1 n)) := by
  have hd : (2 : Int) = 2 ∨ (2 : Int) = 3 := by decide
  have hac := hS.2.2.2.2
  refine n_iload_n c_17_0 rfl (n_istore_n (L2 := [some (2, 4), some (0, n), some (0, 1), some (0, n), none]) c_17_1 rfl rfl (n_iload_n c_17_2 rfl (n_istore (L2 := [some (2, 4), some (0, n), some (0, 1), some (0, n), some (0, 1)]) c_17_3 rfl rfl (n_iload c_17_5 rfl (n_iconst c_17_7 ?_)))))
  refine n_if2_ge c_17_8 (by omega) (by omega) ?_ ?_
  · intro h1
    exfalso; omega
  · intro h2
    refine n_iload_n c_17_11 rfl (n_aload_n c_17_12 rfl (n_getV (bi := 0) c_17_13 sc_4.n rfl rfl rfl (t_4_0 hS) ?_))
    intro z3 ez3 f4
    obtain rfl : z3 = 2 := by omega
    refine n_imul c_17_16 rfl (n_aload_n c_17_17 rfl (n_getR c_17_18 sc_4.n rfl rfl rfl r_4_4 (n_iload_n c_17_21 rfl (n_ialoadV c_17_22 sc_7.n rfl rfl rfl (by omega) (t_7d hS hd (by omega) (by omega)) ?_))))
    intro z5 ez5 f6
    have q7 := t_7e hS (i := n) (by omega) (by omega)
    refine n_iadd c_17_23 rfl (n_istore_n (L2 := [some (2, 4), some (0, n), some (0, 1), some (0, ((n * 2) + z5)), some (0, 1)]) c_17_24 rfl rfl (n_iinc (L2 := [some (2, 4), some (0, n), some (0, 1), some (0, ((n * 2) + z5)), some (0, (1 + 1))]) c_17_25 rfl rfl rfl (n_goto c_17_28 (n_iload c_17_5 rfl (n_iconst c_17_7 ?_)))))
    refine n_if2_ge c_17_8 (by omega) (by omega) ?_ ?_
    · intro h7
      exfalso; omega
    · intro h8
      refine n_iload_n c_17_11 rfl (n_aload_n c_17_12 rfl (n_getV (bi := 0) c_17_13 sc_4.n rfl rfl rfl (t_4_0 hS) ?_))
      intro z9 ez9 f10
      obtain rfl : z9 = 2 := by omega
      refine n_imul c_17_16 rfl (n_aload_n c_17_17 rfl (n_getR c_17_18 sc_4.n rfl rfl rfl r_4_4 (n_iload_n c_17_21 rfl (n_ialoadV c_17_22 sc_7.n rfl rfl rfl (by omega) (t_7d hS hd (by omega) (by omega)) ?_))))
      intro z11 ez11 f12
      refine n_iadd c_17_23 rfl (n_istore_n (L2 := [some (2, 4), some (0, n), some (0, 1), some (0, ((((n * 2) + z5) * 2) + z11)), some (0, (1 + 1))]) c_17_24 rfl rfl (n_iinc (L2 := [some (2, 4), some (0, n), some (0, 1), some (0, ((((n * 2) + z5) * 2) + z11)), some (0, ((1 + 1) + 1))]) c_17_25 rfl rfl rfl (n_goto c_17_28 (n_iload c_17_5 rfl (n_iconst c_17_7 ?_)))))
      refine n_if2_ge c_17_8 (by omega) (by omega) ?_ ?_
      · intro h13
        refine n_iload_n c_17_31 rfl ?_
        exact n_rI c_17_32 rfl ⟨rfl, by omega, by show _ = n * (2 * 2 + 2 + 1); omega⟩
      · intro h14
        exfalso; omega

set_option maxHeartbeats 4000000 in
theorem widenX2_2 {xs : List Int32} {e : Nat} {ac : Int} {M0 M : nM} {n : Int} (hS : Sf 2 ac M0 M) (hn : 0 ≤ n ∧ n ≤ 3) : nW xs e 17 0 [some (2, 4), some (0, n), some (0, 2), none, none] [] M (nPI fun z M1 => M = M1 ∧ (0 ≤ z ∧ z ≤ 7) ∧ (z = wd 2 2 n)) := by
  have hd : (2 : Int) = 2 ∨ (2 : Int) = 3 := by decide
  have hac := hS.2.2.2.2
  refine n_iload_n c_17_0 rfl (n_istore_n (L2 := [some (2, 4), some (0, n), some (0, 2), some (0, n), none]) c_17_1 rfl rfl (n_iload_n c_17_2 rfl (n_istore (L2 := [some (2, 4), some (0, n), some (0, 2), some (0, n), some (0, 2)]) c_17_3 rfl rfl (n_iload c_17_5 rfl (n_iconst c_17_7 ?_)))))
  refine n_if2_ge c_17_8 (by omega) (by omega) ?_ ?_
  · intro h1
    exfalso; omega
  · intro h2
    refine n_iload_n c_17_11 rfl (n_aload_n c_17_12 rfl (n_getV (bi := 0) c_17_13 sc_4.n rfl rfl rfl (t_4_0 hS) ?_))
    intro z3 ez3 f4
    obtain rfl : z3 = 2 := by omega
    refine n_imul c_17_16 rfl (n_aload_n c_17_17 rfl (n_getR c_17_18 sc_4.n rfl rfl rfl r_4_4 (n_iload_n c_17_21 rfl (n_ialoadV c_17_22 sc_7.n rfl rfl rfl (by omega) (t_7d hS hd (by omega) (by omega)) ?_))))
    intro z5 ez5 f6
    have q7 := t_7e hS (i := n) (by omega) (by omega)
    refine n_iadd c_17_23 rfl (n_istore_n (L2 := [some (2, 4), some (0, n), some (0, 2), some (0, ((n * 2) + z5)), some (0, 2)]) c_17_24 rfl rfl (n_iinc (L2 := [some (2, 4), some (0, n), some (0, 2), some (0, ((n * 2) + z5)), some (0, (2 + 1))]) c_17_25 rfl rfl rfl (n_goto c_17_28 (n_iload c_17_5 rfl (n_iconst c_17_7 ?_)))))
    refine n_if2_ge c_17_8 (by omega) (by omega) ?_ ?_
    · intro h7
      refine n_iload_n c_17_31 rfl ?_
      exact n_rI c_17_32 rfl ⟨rfl, by omega, by show _ = n * 2 + n % 2; omega⟩
    · intro h8
      exfalso; omega

set_option maxHeartbeats 4000000 in
theorem widenX3_2 {xs : List Int32} {e : Nat} {ac : Int} {M0 M : nM} {n : Int} (hS : Sf 2 ac M0 M) (hn : 0 ≤ n ∧ n ≤ 7) : nW xs e 17 0 [some (2, 4), some (0, n), some (0, 3), none, none] [] M (nPI fun z M1 => M = M1 ∧ (0 ≤ z ∧ z ≤ 7) ∧ (z = wd 2 3 n)) := by
  have hd : (2 : Int) = 2 ∨ (2 : Int) = 3 := by decide
  have hac := hS.2.2.2.2
  refine n_iload_n c_17_0 rfl (n_istore_n (L2 := [some (2, 4), some (0, n), some (0, 3), some (0, n), none]) c_17_1 rfl rfl (n_iload_n c_17_2 rfl (n_istore (L2 := [some (2, 4), some (0, n), some (0, 3), some (0, n), some (0, 3)]) c_17_3 rfl rfl (n_iload c_17_5 rfl (n_iconst c_17_7 ?_)))))
  refine n_if2_ge c_17_8 (by omega) (by omega) ?_ ?_
  · intro h1
    refine n_iload_n c_17_31 rfl ?_
    exact n_rI c_17_32 rfl ⟨rfl, by omega, by show _ = n; omega⟩
  · intro h2
    exfalso; omega

set_option maxHeartbeats 4000000 in
theorem addWideY_2 {xs : List Int32} {e : Nat} {ac : Int} {M : nM} {q r g gd : Int} (hS : Sf 2 ac M M) (hq : LawAt q) (hr : 0 ≤ r ∧ r ≤ 26) (hg : M 3 15 = g) (hgd : M 112 0 = gd) (hw : 0 ≤ M q 2 ∧ M q 2 ≤ 134217727) : nW xs e 42 0 [some (2, q), some (0, r)] [] M (nPV fun M1 => Sf 2 ac M1 M1 ∧ (M1 3 15 = g) ∧ (M1 112 0 = gd) ∧ (AW q r M M1)) := by
  have hd : (2 : Int) = 2 ∨ (2 : Int) = 3 := by decide
  have hac := hS.2.2.2.2
  refine n_aload_n c_42_0 rfl (n_getV (bi := 3) c_42_1 hq.c0.1.n rfl rfl rfl (t_law hS hq).2.2.2 ?_)
  intro z1 ez1 f2
  refine n_bipush c_42_4 rfl ?_
  refine n_if2_ge c_42_6 (by omega) (by omega) ?_ ?_
  · intro h3
    exact n_rV c_42_52 rfl ⟨hS, by omega, by omega, by exact AW.no (Or.inl (by omega))⟩
  · intro h4
    refine n_aload_n c_42_9 rfl (n_getV (bi := 2) c_42_10 hq.c0.1.n rfl rfl rfl (t_law hS hq).2.2.1 ?_)
    intro z5 ez5 f6
    refine n_iload_n c_42_13 rfl (n_i_ishr c_42_14 rfl ?_)
    have f7 := n_shr_r z5 r
    generalize gz8 : (n_shr z5 r) = z8 at f7 ⊢
    refine n_iconst c_42_15 (n_i_iand c_42_16 rfl ?_)
    have f9 := n_and_y (x := z8) (y := 1) (by omega)
    generalize gz10 : (n_and z8 1) = z10 at f9 ⊢
    have hb16 : z10 = z5 / 2 ^ (r).toNat % 2 := by rw [← gz10, ← gz8]; exact ib_v (by omega) (by omega)
    refine n_if0_ne c_42_17 (by omega) ?_ ?_
    · intro h11
      exact n_rV c_42_52 rfl ⟨hS, by omega, by omega, by exact AW.no (Or.inr (by unfold bt; subst_vars; omega))⟩
    · intro h12
      refine n_aload_n c_42_20 rfl (n_getR c_42_21 hq.c0.1.n rfl rfl rfl hq.r (n_aload_n c_42_24 rfl (n_getV (bi := 3) c_42_25 hq.c0.1.n rfl rfl rfl (t_law hS hq).2.2.2 ?_)))
      intro z13 ez13 f14
      refine n_iload_n c_42_28 rfl (n_iastoreM hS c_42_29 hq.c0.2.n rfl (by omega) (m_lawr hq (by omega) (by omega)) ?_)
      intro M15 eM15 hS15
      have g15_0 : M15 3 15 = M 3 15 := by rw [eM15]; exact nu_a (by unfold LawAt at *; omega)
      have g15_1 : M15 112 0 = M 112 0 := by rw [eM15]; exact nu_a (by unfold LawAt at *; omega)
      have g15_2 : M15 q 3 = M q 3 := by rw [eM15]; exact nu_a (by omega)
      refine n_aload_n c_42_30 rfl (n_dup2 c_42_31 (n_getV (bi := 3) c_42_32 hq.c0.1.n rfl rfl rfl (t_law hS15 hq).2.2.2 ?_))
      intro z16 ez16 f17
      refine n_iconst c_42_35 (n_iadd c_42_36 rfl (n_putM (bi := 3) hS15 c_42_37 hq.c0.1.n rfl rfl rfl rfl (m_law hq (by omega) (by omega)) ?_))
      intro M18 eM18 hS18
      have g18_0 : M18 3 15 = M15 3 15 := by rw [eM18]; exact nu_a (by unfold LawAt at *; omega)
      have g18_1 : M18 112 0 = M15 112 0 := by rw [eM18]; exact nu_a (by unfold LawAt at *; omega)
      have g18_2 : M18 q 3 = (z16 + 1) := by rw [eM18]; exact nu_s _ _ _ _
      refine n_aload_n c_42_40 rfl (n_dup2 c_42_41 (n_getV (bi := 2) c_42_42 hq.c0.1.n rfl rfl rfl (t_law hS18 hq).2.2.1 ?_))
      intro z19 ez19 f20
      refine n_iconst c_42_45 (n_iload_n c_42_46 rfl (n_i_ishl c_42_47 rfl ?_))
      have f21 := n_shl_1 (y := r) (a := 0) (b := 26) (by decide) (by omega)
      generalize gz22 : (n_shl 1 r) = z22 at f21 ⊢
      refine n_i_ior c_42_48 rfl ?_
      have f23 := n_or_r z19 z22
      generalize gz24 : (n_or z19 z22) = z24 at f23 ⊢
      refine n_putM (bi := 2) hS18 c_42_49 hq.c0.1.n rfl rfl rfl rfl (m_law hq (by omega) (by omega)) ?_
      intro M25 eM25 hS25
      have g25_0 : M25 3 15 = M18 3 15 := by rw [eM25]; exact nu_a (by unfold LawAt at *; omega)
      have g25_1 : M25 112 0 = M18 112 0 := by rw [eM25]; exact nu_a (by unfold LawAt at *; omega)
      have g25_2 : M25 q 3 = M18 q 3 := by rw [eM25]; exact nu_i (by omega)
      have g25_3 : M25 q 2 = z24 := by rw [eM25]; exact nu_s _ _ _ _
      exact n_rV c_42_52 rfl ⟨hS25, by omega, by omega, by have d1 : z16 = M q 3 := (by rw [ez16, eM15, nu_a (by omega)]); have d2 : z19 = M q 2 := (by rw [ez19, eM18, nu_i (by omega), eM15, nu_a (by omega)]); exact AW.mk (q := q) (c := z13) (by omega) ez13 (by rw [← gz24, ← gz22, d2]) (by omega) (by unfold bt; subst_vars; omega) eM15 (by rw [eM18, show z16 = z13 by omega]) eM25⟩

set_option maxHeartbeats 4000000 in
theorem addWideS_2 {xs : List Int32} {e : Nat} {ac : Int} {M0 M : nM} {r : Int} (hS : Sf 2 ac M0 M) (hr : 0 ≤ r ∧ r ≤ 26) (hw : 0 ≤ M 50 2 ∧ M 50 2 ≤ 134217727) : nW xs e 42 0 [some (2, 50), some (0, r)] [] M (nPV fun M1 => Sf 2 ac M0 M1 ∧ (AW 50 r M M1)) := by
  have hd : (2 : Int) = 2 ∨ (2 : Int) = 3 := by decide
  have hac := hS.2.2.2.2
  refine n_aload_n c_42_0 rfl (n_getV (bi := 3) c_42_1 law50.c0.1.n rfl rfl rfl (t_law hS law50).2.2.2 ?_)
  intro z1 ez1 f2
  refine n_bipush c_42_4 rfl ?_
  refine n_if2_ge c_42_6 (by omega) (by omega) ?_ ?_
  · intro h3
    exact n_rV c_42_52 rfl ⟨hS, by exact AW.no (Or.inl (by omega))⟩
  · intro h4
    refine n_aload_n c_42_9 rfl (n_getV (bi := 2) c_42_10 law50.c0.1.n rfl rfl rfl (t_law hS law50).2.2.1 ?_)
    intro z5 ez5 f6
    refine n_iload_n c_42_13 rfl (n_i_ishr c_42_14 rfl ?_)
    have f7 := n_shr_r z5 r
    generalize gz8 : (n_shr z5 r) = z8 at f7 ⊢
    refine n_iconst c_42_15 (n_i_iand c_42_16 rfl ?_)
    have f9 := n_and_y (x := z8) (y := 1) (by omega)
    generalize gz10 : (n_and z8 1) = z10 at f9 ⊢
    have hb16 : z10 = z5 / 2 ^ (r).toNat % 2 := by rw [← gz10, ← gz8]; exact ib_v (by omega) (by omega)
    refine n_if0_ne c_42_17 (by omega) ?_ ?_
    · intro h11
      exact n_rV c_42_52 rfl ⟨hS, by exact AW.no (Or.inr (by unfold bt; subst_vars; omega))⟩
    · intro h12
      refine n_aload_n c_42_20 rfl (n_getR c_42_21 law50.c0.1.n rfl rfl rfl law50.r (n_aload_n c_42_24 rfl (n_getV (bi := 3) c_42_25 law50.c0.1.n rfl rfl rfl (t_law hS law50).2.2.2 ?_)))
      intro z13 ez13 f14
      refine n_iload_n c_42_28 rfl (n_iastoreV hS c_42_29 law50.c0.2.n rfl (by omega) (w_51 (by omega) (by omega)) ?_)
      intro M15 eM15 hS15
      have g15_0 : M15 50 3 = M 50 3 := by rw [eM15]; exact nu_a (by omega)
      refine n_aload_n c_42_30 rfl (n_dup2 c_42_31 (n_getV (bi := 3) c_42_32 law50.c0.1.n rfl rfl rfl (t_law hS15 law50).2.2.2 ?_))
      intro z16 ez16 f17
      refine n_iconst c_42_35 (n_iadd c_42_36 rfl (n_putV (bi := 3) hS15 c_42_37 law50.c0.1.n rfl rfl rfl rfl (w_50 (by omega) (by omega)) ?_))
      intro M18 eM18 hS18
      have g18_0 : M18 50 3 = (z16 + 1) := by rw [eM18]; exact nu_s _ _ _ _
      refine n_aload_n c_42_40 rfl (n_dup2 c_42_41 (n_getV (bi := 2) c_42_42 law50.c0.1.n rfl rfl rfl (t_law hS18 law50).2.2.1 ?_))
      intro z19 ez19 f20
      refine n_iconst c_42_45 (n_iload_n c_42_46 rfl (n_i_ishl c_42_47 rfl ?_))
      have f21 := n_shl_1 (y := r) (a := 0) (b := 26) (by decide) (by omega)
      generalize gz22 : (n_shl 1 r) = z22 at f21 ⊢
      refine n_i_ior c_42_48 rfl ?_
      have f23 := n_or_r z19 z22
      generalize gz24 : (n_or z19 z22) = z24 at f23 ⊢
      refine n_putV (bi := 2) hS18 c_42_49 law50.c0.1.n rfl rfl rfl rfl (w_50 (by omega) (by omega)) ?_
      intro M25 eM25 hS25
      have g25_0 : M25 50 3 = M18 50 3 := by rw [eM25]; exact nu_i (by omega)
      have g25_1 : M25 50 2 = z24 := by rw [eM25]; exact nu_s _ _ _ _
      exact n_rV c_42_52 rfl ⟨hS25, by have d1 : z16 = M 50 3 := (by rw [ez16, eM15, nu_a (by omega)]); have d2 : z19 = M 50 2 := (by rw [ez19, eM18, nu_i (by omega), eM15, nu_a (by omega)]); exact AW.mk (q := 50) (c := z13) (by omega) ez13 (by rw [← gz24, ← gz22, d2]) (by omega) (by unfold bt; subst_vars; omega) eM15 (by rw [eM18, show z16 = z13 by omega]) eM25⟩

set_option maxHeartbeats 4000000 in
theorem takeLY1_2_c {xs : List Int32} {e : Nat} {ac : Int} {M : nM} {q s g gd : Int} {Ms : nM} (hS : Sf 2 ac M M) (hq : LawAt q) (hs : 0 ≤ s ∧ s ≤ 134217727) (hg : M 3 15 = g) (hgd : M 112 0 = gd) (hms : M = Ms) : ∀ nn : Nat, (∀ (x4 x5 : Int) (M : nM), Sf 2 ac M M → (2 ≤ x4 ∧ x4 ≤ 2) → (0 ≤ x5 ∧ x5 ≤ 2) → (M 3 15 = g) → (M 112 0 = gd) → (M q 0 = 1) → (M q 1 = s) → (LQ 2 1 s x5 q M) → (FQ q Ms M) → (2 - x5) * 1 + 1 < (nn : Int) → nW xs (e + 1) 36 30 [some (2, q), some (0, 1), some (0, s), some (2, 4), some (0, x4), some (0, x5)] [] M (nPV fun M1 => Sf 2 ac M1 M1 ∧ (M1 3 15 = g) ∧ (M1 112 0 = gd) ∧ (M1 q 0 = 1 ∧ M1 q 1 = s) ∧ (LQ 2 1 s 2 q M1) ∧ (FQ q Ms M1))) := by
  have hd : (2 : Int) = 2 ∨ (2 : Int) = 3 := by decide
  have hac := hS.2.2.2.2
  intro nn
  induction nn with
  | zero => intros; omega
  | succ nn ih =>
    intro x4 x5 M hS k4 k5 hgg hggd v0 v1 v2 v3 hnn
    have hw := v2.2.1
    refine n_iload c_36_30 rfl (n_iload c_36_32 rfl ?_)
    refine n_if2_ge c_36_34 (by omega) (by omega) ?_ ?_
    · intro h1
      exact n_rV c_36_63 rfl ⟨hS, by omega, by omega, by exact ⟨v0, v1⟩, by have q5 : x5 = 2 := (by omega); rw [q5] at v2; exact v2, by exact v3⟩
    · intro h2
      refine n_iload_n c_36_37 rfl (n_iload c_36_38 rfl (n_i_ishr c_36_40 rfl ?_))
      have f3 := n_shr_r s x5
      generalize gz4 : (n_shr s x5) = z4 at f3 ⊢
      refine n_iconst c_36_41 (n_i_iand c_36_42 rfl ?_)
      have f5 := n_and_y (x := z4) (y := 1) (by omega)
      generalize gz6 : (n_and z4 1) = z6 at f5 ⊢
      have hb42 : z6 = s / 2 ^ (x5).toNat % 2 := by rw [← gz6, ← gz4]; exact ib_v (by omega) (by omega)
      refine n_if0_eq c_36_43 (by omega) ?_ ?_
      · intro h7
        refine n_iinc (L2 := [some (2, q), some (0, 1), some (0, s), some (2, 4), some (0, x4), some (0, (x5 + 1))]) c_36_57 rfl rfl rfl (n_goto c_36_60 (n_fg (le_s (le_s (le_s (le_s (le_s (le_s le_0)))))) ?_))
        exact ih _ _ M hS (by omega) (by omega) (by omega) (by omega) (by exact v0) (by exact v1) (by exact LRn.skip v2 (by omega) (by unfold bt; omega)) (by exact v3) (by omega)
      · intro h8
        refine n_aload_n c_36_46 rfl (n_aload_n c_36_47 rfl (n_iload c_36_48 rfl (n_iload_n c_36_50 rfl (n_v2I c_36_51 rfl sc_4.n rfl rfl rfl rfl (widenX1_2 (n := x5) hS (by omega)) ?_))))
        intro z9 M10 hP11
        obtain ⟨eM, f11, f11p0⟩ := hP11
        subst eM
        refine n_v1V c_36_54 rfl hq.c0.1.n rfl rfl rfl rfl (addWideY_2 (q := q) (r := z9) (g := (M 3 15)) (gd := (M 112 0)) hS hq (by omega) rfl rfl (by omega)) ?_
        intro  M12 hP13
        obtain ⟨hS12, f13g0, f13g1, f13p0⟩ := hP13
        refine n_iinc (L2 := [some (2, q), some (0, 1), some (0, s), some (2, 4), some (0, x4), some (0, (x5 + 1))]) c_36_57 rfl rfl rfl (n_goto c_36_60 (n_fg (le_s (le_s (le_s (le_s (le_s (le_s le_0)))))) ?_))
        exact ih _ _ M12 hS12 (by omega) (by omega) (by omega) (by omega) (by exact f13p0.2.1.trans v0) (by exact f13p0.2.2.1.trans v1) (by exact LQ.add (by decide) (by decide) v2 ⟨by omega, by show x5 < 2; omega⟩ (by unfold bt; omega) (by rw [← f11p0]; exact f13p0)) (by exact FQ.tr v3 f13p0.2.2.2) (by omega)
set_option maxHeartbeats 4000000 in
theorem takeLY1_2 {xs : List Int32} {e : Nat} {ac : Int} {M : nM} {q s g gd : Int} {Ms : nM} (hS : Sf 2 ac M M) (hq : LawAt q) (hs : 0 ≤ s ∧ s ≤ 134217727) (hg : M 3 15 = g) (hgd : M 112 0 = gd) (hms : M = Ms) : nW xs (e + 1) 36 0 [some (2, q), some (0, 1), some (0, s), some (2, 4), none, none] [] M (nPV fun M1 => Sf 2 ac M1 M1 ∧ (M1 3 15 = g) ∧ (M1 112 0 = gd) ∧ (M1 q 0 = 1 ∧ M1 q 1 = s) ∧ (LQ 2 1 s 2 q M1) ∧ (FQ q Ms M1)) := by
  have hd : (2 : Int) = 2 ∨ (2 : Int) = 3 := by decide
  have hac := hS.2.2.2.2
  refine n_aload_n c_36_0 rfl (n_iload_n c_36_1 rfl (n_putM (bi := 0) hS c_36_2 hq.c0.1.n rfl rfl rfl rfl (m_law hq (by omega) (by omega)) ?_))
  intro M1 eM1 hS1
  have g1_0 : M1 3 15 = M 3 15 := by rw [eM1]; exact nu_a (by unfold LawAt at *; omega)
  have g1_1 : M1 112 0 = M 112 0 := by rw [eM1]; exact nu_a (by unfold LawAt at *; omega)
  have g1_2 : M1 q 0 = 1 := by rw [eM1]; exact nu_s _ _ _ _
  refine n_aload_n c_36_5 rfl (n_iload_n c_36_6 rfl (n_putM (bi := 1) hS1 c_36_7 hq.c0.1.n rfl rfl rfl rfl (m_law hq (by omega) (by omega)) ?_))
  intro M2 eM2 hS2
  have g2_0 : M2 3 15 = M1 3 15 := by rw [eM2]; exact nu_a (by unfold LawAt at *; omega)
  have g2_1 : M2 112 0 = M1 112 0 := by rw [eM2]; exact nu_a (by unfold LawAt at *; omega)
  have g2_2 : M2 q 0 = M1 q 0 := by rw [eM2]; exact nu_i (by omega)
  have g2_3 : M2 q 1 = s := by rw [eM2]; exact nu_s _ _ _ _
  refine n_aload_n c_36_10 rfl (n_iconst c_36_11 (n_putM (bi := 2) hS2 c_36_12 hq.c0.1.n rfl rfl rfl rfl (m_law hq (by omega) (by omega)) ?_))
  intro M3 eM3 hS3
  have g3_0 : M3 3 15 = M2 3 15 := by rw [eM3]; exact nu_a (by unfold LawAt at *; omega)
  have g3_1 : M3 112 0 = M2 112 0 := by rw [eM3]; exact nu_a (by unfold LawAt at *; omega)
  have g3_2 : M3 q 0 = M2 q 0 := by rw [eM3]; exact nu_i (by omega)
  have g3_3 : M3 q 1 = M2 q 1 := by rw [eM3]; exact nu_i (by omega)
  have g3_4 : M3 q 2 = 0 := by rw [eM3]; exact nu_s _ _ _ _
  refine n_aload_n c_36_15 rfl (n_iconst c_36_16 (n_putM (bi := 3) hS3 c_36_17 hq.c0.1.n rfl rfl rfl rfl (m_law hq (by omega) (by omega)) ?_))
  intro M4 eM4 hS4
  have g4_0 : M4 3 15 = M3 3 15 := by rw [eM4]; exact nu_a (by unfold LawAt at *; omega)
  have g4_1 : M4 112 0 = M3 112 0 := by rw [eM4]; exact nu_a (by unfold LawAt at *; omega)
  have g4_2 : M4 q 0 = M3 q 0 := by rw [eM4]; exact nu_i (by omega)
  have g4_3 : M4 q 1 = M3 q 1 := by rw [eM4]; exact nu_i (by omega)
  have g4_4 : M4 q 2 = M3 q 2 := by rw [eM4]; exact nu_i (by omega)
  have g4_5 : M4 q 3 = 0 := by rw [eM4]; exact nu_s _ _ _ _
  refine n_aload_n c_36_20 rfl (n_iload_n c_36_21 rfl (n_v1I c_36_22 rfl sc_4.n rfl rfl rfl rfl (power1_2  hS4 ) ?_))
  intro z5 M6 hP7
  obtain ⟨eM, f7⟩ := hP7
  subst eM
  obtain rfl : z5 = 2 := by omega
  refine n_istore (L2 := [some (2, q), some (0, 1), some (0, s), some (2, 4), some (0, 2), none]) c_36_25 rfl rfl (n_iconst c_36_27 (n_istore (L2 := [some (2, q), some (0, 1), some (0, s), some (2, 4), some (0, 2), some (0, 0)]) c_36_28 rfl rfl (n_fg (le_s (le_s (le_s (le_s (le_s (le_s le_0)))))) ?_)))
  exact (takeLY1_2_c hS hq hs hg hgd hms 18) _ _ M4 hS4 (by omega) (by omega) (by omega) (by omega) (by omega) (by omega) (by have u3 : M4 q 3 = 0 := (by rw [eM4, nu_s]); have u2 : M4 q 2 = 0 := (by rw [eM4, nu_i (by omega), eM3, nu_s]); unfold LQ; rw [u2, u3]; exact LRn.init) (by subst hms; exact (FQ.u (FQ.u (FQ.u (FQ.u (fun _ _ _ => rfl) eM1 (by omega)) eM2 (by omega)) eM3 (by omega)) eM4 (by omega))) (by omega)

set_option maxHeartbeats 4000000 in
theorem takeLY2_2_c {xs : List Int32} {e : Nat} {ac : Int} {M : nM} {q s g gd : Int} {Ms : nM} (hS : Sf 2 ac M M) (hq : LawAt q) (hs : 0 ≤ s ∧ s ≤ 134217727) (hg : M 3 15 = g) (hgd : M 112 0 = gd) (hms : M = Ms) : ∀ nn : Nat, (∀ (x4 x5 : Int) (M : nM), Sf 2 ac M M → (4 ≤ x4 ∧ x4 ≤ 4) → (0 ≤ x5 ∧ x5 ≤ 4) → (M 3 15 = g) → (M 112 0 = gd) → (M q 0 = 2) → (M q 1 = s) → (LQ 2 2 s x5 q M) → (FQ q Ms M) → (4 - x5) * 1 + 1 < (nn : Int) → nW xs (e + 1) 36 30 [some (2, q), some (0, 2), some (0, s), some (2, 4), some (0, x4), some (0, x5)] [] M (nPV fun M1 => Sf 2 ac M1 M1 ∧ (M1 3 15 = g) ∧ (M1 112 0 = gd) ∧ (M1 q 0 = 2 ∧ M1 q 1 = s) ∧ (LQ 2 2 s 4 q M1) ∧ (FQ q Ms M1))) := by
  have hd : (2 : Int) = 2 ∨ (2 : Int) = 3 := by decide
  have hac := hS.2.2.2.2
  intro nn
  induction nn with
  | zero => intros; omega
  | succ nn ih =>
    intro x4 x5 M hS k4 k5 hgg hggd v0 v1 v2 v3 hnn
    have hw := v2.2.1
    refine n_iload c_36_30 rfl (n_iload c_36_32 rfl ?_)
    refine n_if2_ge c_36_34 (by omega) (by omega) ?_ ?_
    · intro h1
      exact n_rV c_36_63 rfl ⟨hS, by omega, by omega, by exact ⟨v0, v1⟩, by have q5 : x5 = 4 := (by omega); rw [q5] at v2; exact v2, by exact v3⟩
    · intro h2
      refine n_iload_n c_36_37 rfl (n_iload c_36_38 rfl (n_i_ishr c_36_40 rfl ?_))
      have f3 := n_shr_r s x5
      generalize gz4 : (n_shr s x5) = z4 at f3 ⊢
      refine n_iconst c_36_41 (n_i_iand c_36_42 rfl ?_)
      have f5 := n_and_y (x := z4) (y := 1) (by omega)
      generalize gz6 : (n_and z4 1) = z6 at f5 ⊢
      have hb42 : z6 = s / 2 ^ (x5).toNat % 2 := by rw [← gz6, ← gz4]; exact ib_v (by omega) (by omega)
      refine n_if0_eq c_36_43 (by omega) ?_ ?_
      · intro h7
        refine n_iinc (L2 := [some (2, q), some (0, 2), some (0, s), some (2, 4), some (0, x4), some (0, (x5 + 1))]) c_36_57 rfl rfl rfl (n_goto c_36_60 (n_fg (le_s (le_s (le_s (le_s (le_s (le_s le_0)))))) ?_))
        exact ih _ _ M hS (by omega) (by omega) (by omega) (by omega) (by exact v0) (by exact v1) (by exact LRn.skip v2 (by omega) (by unfold bt; omega)) (by exact v3) (by omega)
      · intro h8
        refine n_aload_n c_36_46 rfl (n_aload_n c_36_47 rfl (n_iload c_36_48 rfl (n_iload_n c_36_50 rfl (n_v2I c_36_51 rfl sc_4.n rfl rfl rfl rfl (widenX2_2 (n := x5) hS (by omega)) ?_))))
        intro z9 M10 hP11
        obtain ⟨eM, f11, f11p0⟩ := hP11
        subst eM
        refine n_v1V c_36_54 rfl hq.c0.1.n rfl rfl rfl rfl (addWideY_2 (q := q) (r := z9) (g := (M 3 15)) (gd := (M 112 0)) hS hq (by omega) rfl rfl (by omega)) ?_
        intro  M12 hP13
        obtain ⟨hS12, f13g0, f13g1, f13p0⟩ := hP13
        refine n_iinc (L2 := [some (2, q), some (0, 2), some (0, s), some (2, 4), some (0, x4), some (0, (x5 + 1))]) c_36_57 rfl rfl rfl (n_goto c_36_60 (n_fg (le_s (le_s (le_s (le_s (le_s (le_s le_0)))))) ?_))
        exact ih _ _ M12 hS12 (by omega) (by omega) (by omega) (by omega) (by exact f13p0.2.1.trans v0) (by exact f13p0.2.2.1.trans v1) (by exact LQ.add (by decide) (by decide) v2 ⟨by omega, by show x5 < 4; omega⟩ (by unfold bt; omega) (by rw [← f11p0]; exact f13p0)) (by exact FQ.tr v3 f13p0.2.2.2) (by omega)
set_option maxHeartbeats 4000000 in
theorem takeLY2_2 {xs : List Int32} {e : Nat} {ac : Int} {M : nM} {q s g gd : Int} {Ms : nM} (hS : Sf 2 ac M M) (hq : LawAt q) (hs : 0 ≤ s ∧ s ≤ 134217727) (hg : M 3 15 = g) (hgd : M 112 0 = gd) (hms : M = Ms) : nW xs (e + 1) 36 0 [some (2, q), some (0, 2), some (0, s), some (2, 4), none, none] [] M (nPV fun M1 => Sf 2 ac M1 M1 ∧ (M1 3 15 = g) ∧ (M1 112 0 = gd) ∧ (M1 q 0 = 2 ∧ M1 q 1 = s) ∧ (LQ 2 2 s 4 q M1) ∧ (FQ q Ms M1)) := by
  have hd : (2 : Int) = 2 ∨ (2 : Int) = 3 := by decide
  have hac := hS.2.2.2.2
  refine n_aload_n c_36_0 rfl (n_iload_n c_36_1 rfl (n_putM (bi := 0) hS c_36_2 hq.c0.1.n rfl rfl rfl rfl (m_law hq (by omega) (by omega)) ?_))
  intro M1 eM1 hS1
  have g1_0 : M1 3 15 = M 3 15 := by rw [eM1]; exact nu_a (by unfold LawAt at *; omega)
  have g1_1 : M1 112 0 = M 112 0 := by rw [eM1]; exact nu_a (by unfold LawAt at *; omega)
  have g1_2 : M1 q 0 = 2 := by rw [eM1]; exact nu_s _ _ _ _
  refine n_aload_n c_36_5 rfl (n_iload_n c_36_6 rfl (n_putM (bi := 1) hS1 c_36_7 hq.c0.1.n rfl rfl rfl rfl (m_law hq (by omega) (by omega)) ?_))
  intro M2 eM2 hS2
  have g2_0 : M2 3 15 = M1 3 15 := by rw [eM2]; exact nu_a (by unfold LawAt at *; omega)
  have g2_1 : M2 112 0 = M1 112 0 := by rw [eM2]; exact nu_a (by unfold LawAt at *; omega)
  have g2_2 : M2 q 0 = M1 q 0 := by rw [eM2]; exact nu_i (by omega)
  have g2_3 : M2 q 1 = s := by rw [eM2]; exact nu_s _ _ _ _
  refine n_aload_n c_36_10 rfl (n_iconst c_36_11 (n_putM (bi := 2) hS2 c_36_12 hq.c0.1.n rfl rfl rfl rfl (m_law hq (by omega) (by omega)) ?_))
  intro M3 eM3 hS3
  have g3_0 : M3 3 15 = M2 3 15 := by rw [eM3]; exact nu_a (by unfold LawAt at *; omega)
  have g3_1 : M3 112 0 = M2 112 0 := by rw [eM3]; exact nu_a (by unfold LawAt at *; omega)
  have g3_2 : M3 q 0 = M2 q 0 := by rw [eM3]; exact nu_i (by omega)
  have g3_3 : M3 q 1 = M2 q 1 := by rw [eM3]; exact nu_i (by omega)
  have g3_4 : M3 q 2 = 0 := by rw [eM3]; exact nu_s _ _ _ _
  refine n_aload_n c_36_15 rfl (n_iconst c_36_16 (n_putM (bi := 3) hS3 c_36_17 hq.c0.1.n rfl rfl rfl rfl (m_law hq (by omega) (by omega)) ?_))
  intro M4 eM4 hS4
  have g4_0 : M4 3 15 = M3 3 15 := by rw [eM4]; exact nu_a (by unfold LawAt at *; omega)
  have g4_1 : M4 112 0 = M3 112 0 := by rw [eM4]; exact nu_a (by unfold LawAt at *; omega)
  have g4_2 : M4 q 0 = M3 q 0 := by rw [eM4]; exact nu_i (by omega)
  have g4_3 : M4 q 1 = M3 q 1 := by rw [eM4]; exact nu_i (by omega)
  have g4_4 : M4 q 2 = M3 q 2 := by rw [eM4]; exact nu_i (by omega)
  have g4_5 : M4 q 3 = 0 := by rw [eM4]; exact nu_s _ _ _ _
  refine n_aload_n c_36_20 rfl (n_iload_n c_36_21 rfl (n_v1I c_36_22 rfl sc_4.n rfl rfl rfl rfl (power2_2  hS4 ) ?_))
  intro z5 M6 hP7
  obtain ⟨eM, f7⟩ := hP7
  subst eM
  obtain rfl : z5 = 4 := by omega
  refine n_istore (L2 := [some (2, q), some (0, 2), some (0, s), some (2, 4), some (0, 4), none]) c_36_25 rfl rfl (n_iconst c_36_27 (n_istore (L2 := [some (2, q), some (0, 2), some (0, s), some (2, 4), some (0, 4), some (0, 0)]) c_36_28 rfl rfl (n_fg (le_s (le_s (le_s (le_s (le_s (le_s le_0)))))) ?_)))
  exact (takeLY2_2_c hS hq hs hg hgd hms 22) _ _ M4 hS4 (by omega) (by omega) (by omega) (by omega) (by omega) (by omega) (by have u3 : M4 q 3 = 0 := (by rw [eM4, nu_s]); have u2 : M4 q 2 = 0 := (by rw [eM4, nu_i (by omega), eM3, nu_s]); unfold LQ; rw [u2, u3]; exact LRn.init) (by subst hms; exact (FQ.u (FQ.u (FQ.u (FQ.u (fun _ _ _ => rfl) eM1 (by omega)) eM2 (by omega)) eM3 (by omega)) eM4 (by omega))) (by omega)

set_option maxHeartbeats 4000000 in
theorem takeLY3_2_c {xs : List Int32} {e : Nat} {ac : Int} {M : nM} {q s g gd : Int} {Ms : nM} (hS : Sf 2 ac M M) (hq : LawAt q) (hs : 0 ≤ s ∧ s ≤ 134217727) (hg : M 3 15 = g) (hgd : M 112 0 = gd) (hms : M = Ms) : ∀ nn : Nat, (∀ (x4 x5 : Int) (M : nM), Sf 2 ac M M → (8 ≤ x4 ∧ x4 ≤ 8) → (0 ≤ x5 ∧ x5 ≤ 8) → (M 3 15 = g) → (M 112 0 = gd) → (M q 0 = 3) → (M q 1 = s) → (LQ 2 3 s x5 q M) → (FQ q Ms M) → (8 - x5) * 1 + 1 < (nn : Int) → nW xs (e + 1) 36 30 [some (2, q), some (0, 3), some (0, s), some (2, 4), some (0, x4), some (0, x5)] [] M (nPV fun M1 => Sf 2 ac M1 M1 ∧ (M1 3 15 = g) ∧ (M1 112 0 = gd) ∧ (M1 q 0 = 3 ∧ M1 q 1 = s) ∧ (LQ 2 3 s 8 q M1) ∧ (FQ q Ms M1))) := by
  have hd : (2 : Int) = 2 ∨ (2 : Int) = 3 := by decide
  have hac := hS.2.2.2.2
  intro nn
  induction nn with
  | zero => intros; omega
  | succ nn ih =>
    intro x4 x5 M hS k4 k5 hgg hggd v0 v1 v2 v3 hnn
    have hw := v2.2.1
    refine n_iload c_36_30 rfl (n_iload c_36_32 rfl ?_)
    refine n_if2_ge c_36_34 (by omega) (by omega) ?_ ?_
    · intro h1
      exact n_rV c_36_63 rfl ⟨hS, by omega, by omega, by exact ⟨v0, v1⟩, by have q5 : x5 = 8 := (by omega); rw [q5] at v2; exact v2, by exact v3⟩
    · intro h2
      refine n_iload_n c_36_37 rfl (n_iload c_36_38 rfl (n_i_ishr c_36_40 rfl ?_))
      have f3 := n_shr_r s x5
      generalize gz4 : (n_shr s x5) = z4 at f3 ⊢
      refine n_iconst c_36_41 (n_i_iand c_36_42 rfl ?_)
      have f5 := n_and_y (x := z4) (y := 1) (by omega)
      generalize gz6 : (n_and z4 1) = z6 at f5 ⊢
      have hb42 : z6 = s / 2 ^ (x5).toNat % 2 := by rw [← gz6, ← gz4]; exact ib_v (by omega) (by omega)
      refine n_if0_eq c_36_43 (by omega) ?_ ?_
      · intro h7
        refine n_iinc (L2 := [some (2, q), some (0, 3), some (0, s), some (2, 4), some (0, x4), some (0, (x5 + 1))]) c_36_57 rfl rfl rfl (n_goto c_36_60 (n_fg (le_s (le_s (le_s (le_s (le_s (le_s le_0)))))) ?_))
        exact ih _ _ M hS (by omega) (by omega) (by omega) (by omega) (by exact v0) (by exact v1) (by exact LRn.skip v2 (by omega) (by unfold bt; omega)) (by exact v3) (by omega)
      · intro h8
        refine n_aload_n c_36_46 rfl (n_aload_n c_36_47 rfl (n_iload c_36_48 rfl (n_iload_n c_36_50 rfl (n_v2I c_36_51 rfl sc_4.n rfl rfl rfl rfl (widenX3_2 (n := x5) hS (by omega)) ?_))))
        intro z9 M10 hP11
        obtain ⟨eM, f11, f11p0⟩ := hP11
        subst eM
        refine n_v1V c_36_54 rfl hq.c0.1.n rfl rfl rfl rfl (addWideY_2 (q := q) (r := z9) (g := (M 3 15)) (gd := (M 112 0)) hS hq (by omega) rfl rfl (by omega)) ?_
        intro  M12 hP13
        obtain ⟨hS12, f13g0, f13g1, f13p0⟩ := hP13
        refine n_iinc (L2 := [some (2, q), some (0, 3), some (0, s), some (2, 4), some (0, x4), some (0, (x5 + 1))]) c_36_57 rfl rfl rfl (n_goto c_36_60 (n_fg (le_s (le_s (le_s (le_s (le_s (le_s le_0)))))) ?_))
        exact ih _ _ M12 hS12 (by omega) (by omega) (by omega) (by omega) (by exact f13p0.2.1.trans v0) (by exact f13p0.2.2.1.trans v1) (by exact LQ.add (by decide) (by decide) v2 ⟨by omega, by show x5 < 8; omega⟩ (by unfold bt; omega) (by rw [← f11p0]; exact f13p0)) (by exact FQ.tr v3 f13p0.2.2.2) (by omega)
set_option maxHeartbeats 4000000 in
theorem takeLY3_2 {xs : List Int32} {e : Nat} {ac : Int} {M : nM} {q s g gd : Int} {Ms : nM} (hS : Sf 2 ac M M) (hq : LawAt q) (hs : 0 ≤ s ∧ s ≤ 134217727) (hg : M 3 15 = g) (hgd : M 112 0 = gd) (hms : M = Ms) : nW xs (e + 1) 36 0 [some (2, q), some (0, 3), some (0, s), some (2, 4), none, none] [] M (nPV fun M1 => Sf 2 ac M1 M1 ∧ (M1 3 15 = g) ∧ (M1 112 0 = gd) ∧ (M1 q 0 = 3 ∧ M1 q 1 = s) ∧ (LQ 2 3 s 8 q M1) ∧ (FQ q Ms M1)) := by
  have hd : (2 : Int) = 2 ∨ (2 : Int) = 3 := by decide
  have hac := hS.2.2.2.2
  refine n_aload_n c_36_0 rfl (n_iload_n c_36_1 rfl (n_putM (bi := 0) hS c_36_2 hq.c0.1.n rfl rfl rfl rfl (m_law hq (by omega) (by omega)) ?_))
  intro M1 eM1 hS1
  have g1_0 : M1 3 15 = M 3 15 := by rw [eM1]; exact nu_a (by unfold LawAt at *; omega)
  have g1_1 : M1 112 0 = M 112 0 := by rw [eM1]; exact nu_a (by unfold LawAt at *; omega)
  have g1_2 : M1 q 0 = 3 := by rw [eM1]; exact nu_s _ _ _ _
  refine n_aload_n c_36_5 rfl (n_iload_n c_36_6 rfl (n_putM (bi := 1) hS1 c_36_7 hq.c0.1.n rfl rfl rfl rfl (m_law hq (by omega) (by omega)) ?_))
  intro M2 eM2 hS2
  have g2_0 : M2 3 15 = M1 3 15 := by rw [eM2]; exact nu_a (by unfold LawAt at *; omega)
  have g2_1 : M2 112 0 = M1 112 0 := by rw [eM2]; exact nu_a (by unfold LawAt at *; omega)
  have g2_2 : M2 q 0 = M1 q 0 := by rw [eM2]; exact nu_i (by omega)
  have g2_3 : M2 q 1 = s := by rw [eM2]; exact nu_s _ _ _ _
  refine n_aload_n c_36_10 rfl (n_iconst c_36_11 (n_putM (bi := 2) hS2 c_36_12 hq.c0.1.n rfl rfl rfl rfl (m_law hq (by omega) (by omega)) ?_))
  intro M3 eM3 hS3
  have g3_0 : M3 3 15 = M2 3 15 := by rw [eM3]; exact nu_a (by unfold LawAt at *; omega)
  have g3_1 : M3 112 0 = M2 112 0 := by rw [eM3]; exact nu_a (by unfold LawAt at *; omega)
  have g3_2 : M3 q 0 = M2 q 0 := by rw [eM3]; exact nu_i (by omega)
  have g3_3 : M3 q 1 = M2 q 1 := by rw [eM3]; exact nu_i (by omega)
  have g3_4 : M3 q 2 = 0 := by rw [eM3]; exact nu_s _ _ _ _
  refine n_aload_n c_36_15 rfl (n_iconst c_36_16 (n_putM (bi := 3) hS3 c_36_17 hq.c0.1.n rfl rfl rfl rfl (m_law hq (by omega) (by omega)) ?_))
  intro M4 eM4 hS4
  have g4_0 : M4 3 15 = M3 3 15 := by rw [eM4]; exact nu_a (by unfold LawAt at *; omega)
  have g4_1 : M4 112 0 = M3 112 0 := by rw [eM4]; exact nu_a (by unfold LawAt at *; omega)
  have g4_2 : M4 q 0 = M3 q 0 := by rw [eM4]; exact nu_i (by omega)
  have g4_3 : M4 q 1 = M3 q 1 := by rw [eM4]; exact nu_i (by omega)
  have g4_4 : M4 q 2 = M3 q 2 := by rw [eM4]; exact nu_i (by omega)
  have g4_5 : M4 q 3 = 0 := by rw [eM4]; exact nu_s _ _ _ _
  refine n_aload_n c_36_20 rfl (n_iload_n c_36_21 rfl (n_v1I c_36_22 rfl sc_4.n rfl rfl rfl rfl (power3_2  hS4 ) ?_))
  intro z5 M6 hP7
  obtain ⟨eM, f7⟩ := hP7
  subst eM
  obtain rfl : z5 = 8 := by omega
  refine n_istore (L2 := [some (2, q), some (0, 3), some (0, s), some (2, 4), some (0, 8), none]) c_36_25 rfl rfl (n_iconst c_36_27 (n_istore (L2 := [some (2, q), some (0, 3), some (0, s), some (2, 4), some (0, 8), some (0, 0)]) c_36_28 rfl rfl (n_fg (le_s (le_s (le_s (le_s (le_s (le_s le_0)))))) ?_)))
  exact (takeLY3_2_c hS hq hs hg hgd hms 30) _ _ M4 hS4 (by omega) (by omega) (by omega) (by omega) (by omega) (by omega) (by have u3 : M4 q 3 = 0 := (by rw [eM4, nu_s]); have u2 : M4 q 2 = 0 := (by rw [eM4, nu_i (by omega), eM3, nu_s]); unfold LQ; rw [u2, u3]; exact LRn.init) (by subst hms; exact (FQ.u (FQ.u (FQ.u (FQ.u (fun _ _ _ => rfl) eM1 (by omega)) eM2 (by omega)) eM3 (by omega)) eM4 (by omega))) (by omega)

set_option maxHeartbeats 4000000 in
theorem takeSY1_2_c {xs : List Int32} {e : Nat} {ac : Int} {M0 M : nM} {s : Int} {Ms : nM} (hS : Sf 2 ac M0 M) (hs : 0 ≤ s ∧ s ≤ 134217727) (hms : M = Ms) : ∀ nn : Nat, (∀ (x4 x5 : Int) (M : nM), Sf 2 ac M0 M → (2 ≤ x4 ∧ x4 ≤ 2) → (0 ≤ x5 ∧ x5 ≤ 2) → (M 50 0 = 1) → (M 50 1 = s) → (LQ 2 1 s x5 50 M) → (FQ 50 Ms M) → (2 - x5) * 1 + 1 < (nn : Int) → nW xs (e + 1) 36 30 [some (2, 50), some (0, 1), some (0, s), some (2, 4), some (0, x4), some (0, x5)] [] M (nPV fun M1 => Sf 2 ac M0 M1 ∧ (M1 50 0 = 1 ∧ M1 50 1 = s) ∧ (LQ 2 1 s 2 50 M1) ∧ (FQ 50 Ms M1))) := by
  have hd : (2 : Int) = 2 ∨ (2 : Int) = 3 := by decide
  have hac := hS.2.2.2.2
  intro nn
  induction nn with
  | zero => intros; omega
  | succ nn ih =>
    intro x4 x5 M hS k4 k5 v0 v1 v2 v3 hnn
    have hw := v2.2.1
    refine n_iload c_36_30 rfl (n_iload c_36_32 rfl ?_)
    refine n_if2_ge c_36_34 (by omega) (by omega) ?_ ?_
    · intro h1
      exact n_rV c_36_63 rfl ⟨hS, by exact ⟨v0, v1⟩, by have q5 : x5 = 2 := (by omega); rw [q5] at v2; exact v2, by exact v3⟩
    · intro h2
      refine n_iload_n c_36_37 rfl (n_iload c_36_38 rfl (n_i_ishr c_36_40 rfl ?_))
      have f3 := n_shr_r s x5
      generalize gz4 : (n_shr s x5) = z4 at f3 ⊢
      refine n_iconst c_36_41 (n_i_iand c_36_42 rfl ?_)
      have f5 := n_and_y (x := z4) (y := 1) (by omega)
      generalize gz6 : (n_and z4 1) = z6 at f5 ⊢
      have hb42 : z6 = s / 2 ^ (x5).toNat % 2 := by rw [← gz6, ← gz4]; exact ib_v (by omega) (by omega)
      refine n_if0_eq c_36_43 (by omega) ?_ ?_
      · intro h7
        refine n_iinc (L2 := [some (2, 50), some (0, 1), some (0, s), some (2, 4), some (0, x4), some (0, (x5 + 1))]) c_36_57 rfl rfl rfl (n_goto c_36_60 (n_fg (le_s (le_s (le_s (le_s (le_s (le_s le_0)))))) ?_))
        exact ih _ _ M hS (by omega) (by omega) (by exact v0) (by exact v1) (by exact LRn.skip v2 (by omega) (by unfold bt; omega)) (by exact v3) (by omega)
      · intro h8
        refine n_aload_n c_36_46 rfl (n_aload_n c_36_47 rfl (n_iload c_36_48 rfl (n_iload_n c_36_50 rfl (n_v2I c_36_51 rfl sc_4.n rfl rfl rfl rfl (widenX1_2 (n := x5) hS (by omega)) ?_))))
        intro z9 M10 hP11
        obtain ⟨eM, f11, f11p0⟩ := hP11
        subst eM
        refine n_v1V c_36_54 rfl law50.c0.1.n rfl rfl rfl rfl (addWideS_2 (r := z9) hS (by omega) (by omega)) ?_
        intro  M12 hP13
        obtain ⟨hS12, f13p0⟩ := hP13
        refine n_iinc (L2 := [some (2, 50), some (0, 1), some (0, s), some (2, 4), some (0, x4), some (0, (x5 + 1))]) c_36_57 rfl rfl rfl (n_goto c_36_60 (n_fg (le_s (le_s (le_s (le_s (le_s (le_s le_0)))))) ?_))
        exact ih _ _ M12 hS12 (by omega) (by omega) (by exact f13p0.2.1.trans v0) (by exact f13p0.2.2.1.trans v1) (by exact LQ.add (by decide) (by decide) v2 ⟨by omega, by show x5 < 2; omega⟩ (by unfold bt; omega) (by rw [← f11p0]; exact f13p0)) (by exact FQ.tr v3 f13p0.2.2.2) (by omega)
set_option maxHeartbeats 4000000 in
theorem takeSY1_2 {xs : List Int32} {e : Nat} {ac : Int} {M0 M : nM} {s : Int} {Ms : nM} (hS : Sf 2 ac M0 M) (hs : 0 ≤ s ∧ s ≤ 134217727) (hms : M = Ms) : nW xs (e + 1) 36 0 [some (2, 50), some (0, 1), some (0, s), some (2, 4), none, none] [] M (nPV fun M1 => Sf 2 ac M0 M1 ∧ (M1 50 0 = 1 ∧ M1 50 1 = s) ∧ (LQ 2 1 s 2 50 M1) ∧ (FQ 50 Ms M1)) := by
  have hd : (2 : Int) = 2 ∨ (2 : Int) = 3 := by decide
  have hac := hS.2.2.2.2
  refine n_aload_n c_36_0 rfl (n_iload_n c_36_1 rfl (n_putV (bi := 0) hS c_36_2 law50.c0.1.n rfl rfl rfl rfl (w_50 (by omega) (by omega)) ?_))
  intro M1 eM1 hS1
  have g1_0 : M1 50 0 = 1 := by rw [eM1]; exact nu_s _ _ _ _
  refine n_aload_n c_36_5 rfl (n_iload_n c_36_6 rfl (n_putV (bi := 1) hS1 c_36_7 law50.c0.1.n rfl rfl rfl rfl (w_50 (by omega) (by omega)) ?_))
  intro M2 eM2 hS2
  have g2_0 : M2 50 0 = M1 50 0 := by rw [eM2]; exact nu_i (by omega)
  have g2_1 : M2 50 1 = s := by rw [eM2]; exact nu_s _ _ _ _
  refine n_aload_n c_36_10 rfl (n_iconst c_36_11 (n_putV (bi := 2) hS2 c_36_12 law50.c0.1.n rfl rfl rfl rfl (w_50 (by omega) (by omega)) ?_))
  intro M3 eM3 hS3
  have g3_0 : M3 50 0 = M2 50 0 := by rw [eM3]; exact nu_i (by omega)
  have g3_1 : M3 50 1 = M2 50 1 := by rw [eM3]; exact nu_i (by omega)
  have g3_2 : M3 50 2 = 0 := by rw [eM3]; exact nu_s _ _ _ _
  refine n_aload_n c_36_15 rfl (n_iconst c_36_16 (n_putV (bi := 3) hS3 c_36_17 law50.c0.1.n rfl rfl rfl rfl (w_50 (by omega) (by omega)) ?_))
  intro M4 eM4 hS4
  have g4_0 : M4 50 0 = M3 50 0 := by rw [eM4]; exact nu_i (by omega)
  have g4_1 : M4 50 1 = M3 50 1 := by rw [eM4]; exact nu_i (by omega)
  have g4_2 : M4 50 2 = M3 50 2 := by rw [eM4]; exact nu_i (by omega)
  have g4_3 : M4 50 3 = 0 := by rw [eM4]; exact nu_s _ _ _ _
  refine n_aload_n c_36_20 rfl (n_iload_n c_36_21 rfl (n_v1I c_36_22 rfl sc_4.n rfl rfl rfl rfl (power1_2  hS4 ) ?_))
  intro z5 M6 hP7
  obtain ⟨eM, f7⟩ := hP7
  subst eM
  obtain rfl : z5 = 2 := by omega
  refine n_istore (L2 := [some (2, 50), some (0, 1), some (0, s), some (2, 4), some (0, 2), none]) c_36_25 rfl rfl (n_iconst c_36_27 (n_istore (L2 := [some (2, 50), some (0, 1), some (0, s), some (2, 4), some (0, 2), some (0, 0)]) c_36_28 rfl rfl (n_fg (le_s (le_s (le_s (le_s (le_s (le_s le_0)))))) ?_)))
  exact (takeSY1_2_c hS hs hms 18) _ _ M4 hS4 (by omega) (by omega) (by omega) (by omega) (by have u3 : M4 50 3 = 0 := (by rw [eM4, nu_s]); have u2 : M4 50 2 = 0 := (by rw [eM4, nu_i (by omega), eM3, nu_s]); unfold LQ; rw [u2, u3]; exact LRn.init) (by subst hms; exact (FQ.u (FQ.u (FQ.u (FQ.u (fun _ _ _ => rfl) eM1 (by omega)) eM2 (by omega)) eM3 (by omega)) eM4 (by omega))) (by omega)

set_option maxHeartbeats 4000000 in
theorem takeSY2_2_c {xs : List Int32} {e : Nat} {ac : Int} {M0 M : nM} {s : Int} {Ms : nM} (hS : Sf 2 ac M0 M) (hs : 0 ≤ s ∧ s ≤ 134217727) (hms : M = Ms) : ∀ nn : Nat, (∀ (x4 x5 : Int) (M : nM), Sf 2 ac M0 M → (4 ≤ x4 ∧ x4 ≤ 4) → (0 ≤ x5 ∧ x5 ≤ 4) → (M 50 0 = 2) → (M 50 1 = s) → (LQ 2 2 s x5 50 M) → (FQ 50 Ms M) → (4 - x5) * 1 + 1 < (nn : Int) → nW xs (e + 1) 36 30 [some (2, 50), some (0, 2), some (0, s), some (2, 4), some (0, x4), some (0, x5)] [] M (nPV fun M1 => Sf 2 ac M0 M1 ∧ (M1 50 0 = 2 ∧ M1 50 1 = s) ∧ (LQ 2 2 s 4 50 M1) ∧ (FQ 50 Ms M1))) := by
  have hd : (2 : Int) = 2 ∨ (2 : Int) = 3 := by decide
  have hac := hS.2.2.2.2
  intro nn
  induction nn with
  | zero => intros; omega
  | succ nn ih =>
    intro x4 x5 M hS k4 k5 v0 v1 v2 v3 hnn
    have hw := v2.2.1
    refine n_iload c_36_30 rfl (n_iload c_36_32 rfl ?_)
    refine n_if2_ge c_36_34 (by omega) (by omega) ?_ ?_
    · intro h1
      exact n_rV c_36_63 rfl ⟨hS, by exact ⟨v0, v1⟩, by have q5 : x5 = 4 := (by omega); rw [q5] at v2; exact v2, by exact v3⟩
    · intro h2
      refine n_iload_n c_36_37 rfl (n_iload c_36_38 rfl (n_i_ishr c_36_40 rfl ?_))
      have f3 := n_shr_r s x5
      generalize gz4 : (n_shr s x5) = z4 at f3 ⊢
      refine n_iconst c_36_41 (n_i_iand c_36_42 rfl ?_)
      have f5 := n_and_y (x := z4) (y := 1) (by omega)
      generalize gz6 : (n_and z4 1) = z6 at f5 ⊢
      have hb42 : z6 = s / 2 ^ (x5).toNat % 2 := by rw [← gz6, ← gz4]; exact ib_v (by omega) (by omega)
      refine n_if0_eq c_36_43 (by omega) ?_ ?_
      · intro h7
        refine n_iinc (L2 := [some (2, 50), some (0, 2), some (0, s), some (2, 4), some (0, x4), some (0, (x5 + 1))]) c_36_57 rfl rfl rfl (n_goto c_36_60 (n_fg (le_s (le_s (le_s (le_s (le_s (le_s le_0)))))) ?_))
        exact ih _ _ M hS (by omega) (by omega) (by exact v0) (by exact v1) (by exact LRn.skip v2 (by omega) (by unfold bt; omega)) (by exact v3) (by omega)
      · intro h8
        refine n_aload_n c_36_46 rfl (n_aload_n c_36_47 rfl (n_iload c_36_48 rfl (n_iload_n c_36_50 rfl (n_v2I c_36_51 rfl sc_4.n rfl rfl rfl rfl (widenX2_2 (n := x5) hS (by omega)) ?_))))
        intro z9 M10 hP11
        obtain ⟨eM, f11, f11p0⟩ := hP11
        subst eM
        refine n_v1V c_36_54 rfl law50.c0.1.n rfl rfl rfl rfl (addWideS_2 (r := z9) hS (by omega) (by omega)) ?_
        intro  M12 hP13
        obtain ⟨hS12, f13p0⟩ := hP13
        refine n_iinc (L2 := [some (2, 50), some (0, 2), some (0, s), some (2, 4), some (0, x4), some (0, (x5 + 1))]) c_36_57 rfl rfl rfl (n_goto c_36_60 (n_fg (le_s (le_s (le_s (le_s (le_s (le_s le_0)))))) ?_))
        exact ih _ _ M12 hS12 (by omega) (by omega) (by exact f13p0.2.1.trans v0) (by exact f13p0.2.2.1.trans v1) (by exact LQ.add (by decide) (by decide) v2 ⟨by omega, by show x5 < 4; omega⟩ (by unfold bt; omega) (by rw [← f11p0]; exact f13p0)) (by exact FQ.tr v3 f13p0.2.2.2) (by omega)
set_option maxHeartbeats 4000000 in
theorem takeSY2_2 {xs : List Int32} {e : Nat} {ac : Int} {M0 M : nM} {s : Int} {Ms : nM} (hS : Sf 2 ac M0 M) (hs : 0 ≤ s ∧ s ≤ 134217727) (hms : M = Ms) : nW xs (e + 1) 36 0 [some (2, 50), some (0, 2), some (0, s), some (2, 4), none, none] [] M (nPV fun M1 => Sf 2 ac M0 M1 ∧ (M1 50 0 = 2 ∧ M1 50 1 = s) ∧ (LQ 2 2 s 4 50 M1) ∧ (FQ 50 Ms M1)) := by
  have hd : (2 : Int) = 2 ∨ (2 : Int) = 3 := by decide
  have hac := hS.2.2.2.2
  refine n_aload_n c_36_0 rfl (n_iload_n c_36_1 rfl (n_putV (bi := 0) hS c_36_2 law50.c0.1.n rfl rfl rfl rfl (w_50 (by omega) (by omega)) ?_))
  intro M1 eM1 hS1
  have g1_0 : M1 50 0 = 2 := by rw [eM1]; exact nu_s _ _ _ _
  refine n_aload_n c_36_5 rfl (n_iload_n c_36_6 rfl (n_putV (bi := 1) hS1 c_36_7 law50.c0.1.n rfl rfl rfl rfl (w_50 (by omega) (by omega)) ?_))
  intro M2 eM2 hS2
  have g2_0 : M2 50 0 = M1 50 0 := by rw [eM2]; exact nu_i (by omega)
  have g2_1 : M2 50 1 = s := by rw [eM2]; exact nu_s _ _ _ _
  refine n_aload_n c_36_10 rfl (n_iconst c_36_11 (n_putV (bi := 2) hS2 c_36_12 law50.c0.1.n rfl rfl rfl rfl (w_50 (by omega) (by omega)) ?_))
  intro M3 eM3 hS3
  have g3_0 : M3 50 0 = M2 50 0 := by rw [eM3]; exact nu_i (by omega)
  have g3_1 : M3 50 1 = M2 50 1 := by rw [eM3]; exact nu_i (by omega)
  have g3_2 : M3 50 2 = 0 := by rw [eM3]; exact nu_s _ _ _ _
  refine n_aload_n c_36_15 rfl (n_iconst c_36_16 (n_putV (bi := 3) hS3 c_36_17 law50.c0.1.n rfl rfl rfl rfl (w_50 (by omega) (by omega)) ?_))
  intro M4 eM4 hS4
  have g4_0 : M4 50 0 = M3 50 0 := by rw [eM4]; exact nu_i (by omega)
  have g4_1 : M4 50 1 = M3 50 1 := by rw [eM4]; exact nu_i (by omega)
  have g4_2 : M4 50 2 = M3 50 2 := by rw [eM4]; exact nu_i (by omega)
  have g4_3 : M4 50 3 = 0 := by rw [eM4]; exact nu_s _ _ _ _
  refine n_aload_n c_36_20 rfl (n_iload_n c_36_21 rfl (n_v1I c_36_22 rfl sc_4.n rfl rfl rfl rfl (power2_2  hS4 ) ?_))
  intro z5 M6 hP7
  obtain ⟨eM, f7⟩ := hP7
  subst eM
  obtain rfl : z5 = 4 := by omega
  refine n_istore (L2 := [some (2, 50), some (0, 2), some (0, s), some (2, 4), some (0, 4), none]) c_36_25 rfl rfl (n_iconst c_36_27 (n_istore (L2 := [some (2, 50), some (0, 2), some (0, s), some (2, 4), some (0, 4), some (0, 0)]) c_36_28 rfl rfl (n_fg (le_s (le_s (le_s (le_s (le_s (le_s le_0)))))) ?_)))
  exact (takeSY2_2_c hS hs hms 22) _ _ M4 hS4 (by omega) (by omega) (by omega) (by omega) (by have u3 : M4 50 3 = 0 := (by rw [eM4, nu_s]); have u2 : M4 50 2 = 0 := (by rw [eM4, nu_i (by omega), eM3, nu_s]); unfold LQ; rw [u2, u3]; exact LRn.init) (by subst hms; exact (FQ.u (FQ.u (FQ.u (FQ.u (fun _ _ _ => rfl) eM1 (by omega)) eM2 (by omega)) eM3 (by omega)) eM4 (by omega))) (by omega)

set_option maxHeartbeats 4000000 in
theorem takeSY3_2_c {xs : List Int32} {e : Nat} {ac : Int} {M0 M : nM} {s : Int} {Ms : nM} (hS : Sf 2 ac M0 M) (hs : 0 ≤ s ∧ s ≤ 134217727) (hms : M = Ms) : ∀ nn : Nat, (∀ (x4 x5 : Int) (M : nM), Sf 2 ac M0 M → (8 ≤ x4 ∧ x4 ≤ 8) → (0 ≤ x5 ∧ x5 ≤ 8) → (M 50 0 = 3) → (M 50 1 = s) → (LQ 2 3 s x5 50 M) → (FQ 50 Ms M) → (8 - x5) * 1 + 1 < (nn : Int) → nW xs (e + 1) 36 30 [some (2, 50), some (0, 3), some (0, s), some (2, 4), some (0, x4), some (0, x5)] [] M (nPV fun M1 => Sf 2 ac M0 M1 ∧ (M1 50 0 = 3 ∧ M1 50 1 = s) ∧ (LQ 2 3 s 8 50 M1) ∧ (FQ 50 Ms M1))) := by
  have hd : (2 : Int) = 2 ∨ (2 : Int) = 3 := by decide
  have hac := hS.2.2.2.2
  intro nn
  induction nn with
  | zero => intros; omega
  | succ nn ih =>
    intro x4 x5 M hS k4 k5 v0 v1 v2 v3 hnn
    have hw := v2.2.1
    refine n_iload c_36_30 rfl (n_iload c_36_32 rfl ?_)
    refine n_if2_ge c_36_34 (by omega) (by omega) ?_ ?_
    · intro h1
      exact n_rV c_36_63 rfl ⟨hS, by exact ⟨v0, v1⟩, by have q5 : x5 = 8 := (by omega); rw [q5] at v2; exact v2, by exact v3⟩
    · intro h2
      refine n_iload_n c_36_37 rfl (n_iload c_36_38 rfl (n_i_ishr c_36_40 rfl ?_))
      have f3 := n_shr_r s x5
      generalize gz4 : (n_shr s x5) = z4 at f3 ⊢
      refine n_iconst c_36_41 (n_i_iand c_36_42 rfl ?_)
      have f5 := n_and_y (x := z4) (y := 1) (by omega)
      generalize gz6 : (n_and z4 1) = z6 at f5 ⊢
      have hb42 : z6 = s / 2 ^ (x5).toNat % 2 := by rw [← gz6, ← gz4]; exact ib_v (by omega) (by omega)
      refine n_if0_eq c_36_43 (by omega) ?_ ?_
      · intro h7
        refine n_iinc (L2 := [some (2, 50), some (0, 3), some (0, s), some (2, 4), some (0, x4), some (0, (x5 + 1))]) c_36_57 rfl rfl rfl (n_goto c_36_60 (n_fg (le_s (le_s (le_s (le_s (le_s (le_s le_0)))))) ?_))
        exact ih _ _ M hS (by omega) (by omega) (by exact v0) (by exact v1) (by exact LRn.skip v2 (by omega) (by unfold bt; omega)) (by exact v3) (by omega)
      · intro h8
        refine n_aload_n c_36_46 rfl (n_aload_n c_36_47 rfl (n_iload c_36_48 rfl (n_iload_n c_36_50 rfl (n_v2I c_36_51 rfl sc_4.n rfl rfl rfl rfl (widenX3_2 (n := x5) hS (by omega)) ?_))))
        intro z9 M10 hP11
        obtain ⟨eM, f11, f11p0⟩ := hP11
        subst eM
        refine n_v1V c_36_54 rfl law50.c0.1.n rfl rfl rfl rfl (addWideS_2 (r := z9) hS (by omega) (by omega)) ?_
        intro  M12 hP13
        obtain ⟨hS12, f13p0⟩ := hP13
        refine n_iinc (L2 := [some (2, 50), some (0, 3), some (0, s), some (2, 4), some (0, x4), some (0, (x5 + 1))]) c_36_57 rfl rfl rfl (n_goto c_36_60 (n_fg (le_s (le_s (le_s (le_s (le_s (le_s le_0)))))) ?_))
        exact ih _ _ M12 hS12 (by omega) (by omega) (by exact f13p0.2.1.trans v0) (by exact f13p0.2.2.1.trans v1) (by exact LQ.add (by decide) (by decide) v2 ⟨by omega, by show x5 < 8; omega⟩ (by unfold bt; omega) (by rw [← f11p0]; exact f13p0)) (by exact FQ.tr v3 f13p0.2.2.2) (by omega)
set_option maxHeartbeats 4000000 in
theorem takeSY3_2 {xs : List Int32} {e : Nat} {ac : Int} {M0 M : nM} {s : Int} {Ms : nM} (hS : Sf 2 ac M0 M) (hs : 0 ≤ s ∧ s ≤ 134217727) (hms : M = Ms) : nW xs (e + 1) 36 0 [some (2, 50), some (0, 3), some (0, s), some (2, 4), none, none] [] M (nPV fun M1 => Sf 2 ac M0 M1 ∧ (M1 50 0 = 3 ∧ M1 50 1 = s) ∧ (LQ 2 3 s 8 50 M1) ∧ (FQ 50 Ms M1)) := by
  have hd : (2 : Int) = 2 ∨ (2 : Int) = 3 := by decide
  have hac := hS.2.2.2.2
  refine n_aload_n c_36_0 rfl (n_iload_n c_36_1 rfl (n_putV (bi := 0) hS c_36_2 law50.c0.1.n rfl rfl rfl rfl (w_50 (by omega) (by omega)) ?_))
  intro M1 eM1 hS1
  have g1_0 : M1 50 0 = 3 := by rw [eM1]; exact nu_s _ _ _ _
  refine n_aload_n c_36_5 rfl (n_iload_n c_36_6 rfl (n_putV (bi := 1) hS1 c_36_7 law50.c0.1.n rfl rfl rfl rfl (w_50 (by omega) (by omega)) ?_))
  intro M2 eM2 hS2
  have g2_0 : M2 50 0 = M1 50 0 := by rw [eM2]; exact nu_i (by omega)
  have g2_1 : M2 50 1 = s := by rw [eM2]; exact nu_s _ _ _ _
  refine n_aload_n c_36_10 rfl (n_iconst c_36_11 (n_putV (bi := 2) hS2 c_36_12 law50.c0.1.n rfl rfl rfl rfl (w_50 (by omega) (by omega)) ?_))
  intro M3 eM3 hS3
  have g3_0 : M3 50 0 = M2 50 0 := by rw [eM3]; exact nu_i (by omega)
  have g3_1 : M3 50 1 = M2 50 1 := by rw [eM3]; exact nu_i (by omega)
  have g3_2 : M3 50 2 = 0 := by rw [eM3]; exact nu_s _ _ _ _
  refine n_aload_n c_36_15 rfl (n_iconst c_36_16 (n_putV (bi := 3) hS3 c_36_17 law50.c0.1.n rfl rfl rfl rfl (w_50 (by omega) (by omega)) ?_))
  intro M4 eM4 hS4
  have g4_0 : M4 50 0 = M3 50 0 := by rw [eM4]; exact nu_i (by omega)
  have g4_1 : M4 50 1 = M3 50 1 := by rw [eM4]; exact nu_i (by omega)
  have g4_2 : M4 50 2 = M3 50 2 := by rw [eM4]; exact nu_i (by omega)
  have g4_3 : M4 50 3 = 0 := by rw [eM4]; exact nu_s _ _ _ _
  refine n_aload_n c_36_20 rfl (n_iload_n c_36_21 rfl (n_v1I c_36_22 rfl sc_4.n rfl rfl rfl rfl (power3_2  hS4 ) ?_))
  intro z5 M6 hP7
  obtain ⟨eM, f7⟩ := hP7
  subst eM
  obtain rfl : z5 = 8 := by omega
  refine n_istore (L2 := [some (2, 50), some (0, 3), some (0, s), some (2, 4), some (0, 8), none]) c_36_25 rfl rfl (n_iconst c_36_27 (n_istore (L2 := [some (2, 50), some (0, 3), some (0, s), some (2, 4), some (0, 8), some (0, 0)]) c_36_28 rfl rfl (n_fg (le_s (le_s (le_s (le_s (le_s (le_s le_0)))))) ?_)))
  exact (takeSY3_2_c hS hs hms 30) _ _ M4 hS4 (by omega) (by omega) (by omega) (by omega) (by have u3 : M4 50 3 = 0 := (by rw [eM4, nu_s]); have u2 : M4 50 2 = 0 := (by rw [eM4, nu_i (by omega), eM3, nu_s]); unfold LQ; rw [u2, u3]; exact LRn.init) (by subst hms; exact (FQ.u (FQ.u (FQ.u (FQ.u (fun _ _ _ => rfl) eM1 (by omega)) eM2 (by omega)) eM3 (by omega)) eM4 (by omega))) (by omega)

set_option maxHeartbeats 4000000 in
theorem triedX_2 {xs : List Int32} {e : Nat} {ac : Int} {M0 M : nM} {q a n : Int} (hS : Sf 2 ac M0 M) (hq : LawAt q) (ha : -2147483648 ≤ a ∧ a ≤ 2147483647) (hn : -2147483648 ≤ n ∧ n ≤ 2147483647) : nW xs (e + 1) 41 0 [some (2, q), some (0, a), some (0, n)] [] M (nPI fun z M1 => M = M1 ∧ (0 ≤ z ∧ z ≤ 27) ∧ (z = tf a n (M q 3))) := by
  have hd : (2 : Int) = 2 ∨ (2 : Int) = 3 := by decide
  have hac := hS.2.2.2.2
  refine n_iload_n c_41_0 rfl (n_iload_n c_41_1 rfl ?_)
  refine n_if2_lt c_41_2 (by omega) (by omega) ?_ ?_
  · intro h1
    refine n_aload_n c_41_12 rfl (n_getV (bi := 3) c_41_13 hq.c0.1.n rfl rfl rfl (t_law hS hq).2.2.2 ?_)
    intro z2 ez2 f3
    refine n_iconst c_41_16 (n_s2I c_41_17 rfl rfl rfl rfl (imin_2 (x := z2) (y := 1) hS (by omega) (by omega)) ?_)
    intro z4 M5 hP6
    obtain ⟨eM, f6, f6p0⟩ := hP6
    subst eM
    exact n_rI c_41_20 rfl ⟨rfl, by omega, by first | (rw [show tf a n (M q 3) = M q 3 from if_pos (by omega)]; omega) | (rw [show tf a n (M q 3) = (if M q 3 ≤ 1 then M q 3 else 1) from if_neg (by omega)]; split <;> omega)⟩
  · intro h7
    refine n_aload_n c_41_5 rfl (n_getV (bi := 3) c_41_6 hq.c0.1.n rfl rfl rfl (t_law hS hq).2.2.2 ?_)
    intro z8 ez8 f9
    refine n_goto c_41_9 ?_
    exact n_rI c_41_20 rfl ⟨rfl, by omega, by first | (rw [show tf a n (M q 3) = M q 3 from if_pos (by omega)]; omega) | (rw [show tf a n (M q 3) = (if M q 3 ≤ 1 then M q 3 else 1) from if_neg (by omega)]; split <;> omega)⟩

set_option maxHeartbeats 4000000 in
theorem fillXT_2_c {xs : List Int32} {e : Nat} {ac : Int} {M0 M : nM} {p i j : Int} {Ms : nM} (hS : Sf 2 ac M0 M) (hp : ActAt p) (hpl : p < 55 + 3 * ac) (hi : 0 ≤ i ∧ i ≤ 7) (hj : 0 ≤ j ∧ j ≤ 7) (hms : M = Ms) : ∀ nn : Nat, (∀ (x5 x6 x7 x8 x9 x10 : Int) (M : nM), Sf 2 ac M0 M → (2 ≤ x5 ∧ x5 ≤ 2) → (0 ≤ x6 ∧ x6 ≤ 6) → (0 ≤ x7 ∧ x7 ≤ 6) → (0 ≤ x8 ∧ x8 ≤ 6) → (0 ≤ x9 ∧ x9 ≤ 8) → (0 ≤ x10 ∧ x10 ≤ 2) → (x9 = 4 * x10) → (x6 = (i / (2 * 2) * 2 + j / (2 * 2)) * 2) → (x7 = (i / 2 % 2 * 2 + j / 2 % 2) * 2) → (x8 = (i % 2 * 2 + j % 2) * 2) → (FC 53 Ms M) → (∀ c : Int, 0 ≤ c → c < x9 → M 53 c = lin 2 (fun n => Ms (p + 1) n) i j c) → (2 - x10) * 21 + 21 < (nn : Int) → nW xs e 45 86 [some (2, 52), none, some (2, (p + 1)), none, none, some (0, x5), some (0, x6), some (0, x7), some (0, x8), some (0, x9), some (0, x10), none, none, none, none] [] M (nPV fun M1 => Sf 2 ac M0 M1 ∧ (FC 53 Ms M1) ∧ (∀ c : Int, 0 ≤ c → c < 8 → M1 53 c = lin 2 (fun n => Ms (p + 1) n) i j c))) ∧ (∀ (x5 x6 x7 x8 x9 x10 x11 x12 : Int) (M : nM), Sf 2 ac M0 M → (2 ≤ x5 ∧ x5 ≤ 2) → (0 ≤ x6 ∧ x6 ≤ 6) → (0 ≤ x7 ∧ x7 ≤ 6) → (0 ≤ x8 ∧ x8 ≤ 6) → (0 ≤ x9 ∧ x9 ≤ 8) → (0 ≤ x10 ∧ x10 ≤ 1) → (0 ≤ x11 ∧ x11 ≤ 4) → (0 ≤ x12 ∧ x12 ≤ 2) → (x9 = 4 * x10 + 2 * x12) → (x6 = (i / (2 * 2) * 2 + j / (2 * 2)) * 2) → (x7 = (i / 2 % 2 * 2 + j / 2 % 2) * 2) → (x8 = (i % 2 * 2 + j % 2) * 2) → (FC 53 Ms M) → (∀ c : Int, 0 ≤ c → c < x9 → M 53 c = lin 2 (fun n => Ms (p + 1) n) i j c) → (x11 = Ms (p + 1) (x6 + x10) * 4) → (2 - x10) * 21 + (2 - x12) * 5 + 5 < (nn : Int) → nW xs e 45 110 [some (2, 52), none, some (2, (p + 1)), none, none, some (0, x5), some (0, x6), some (0, x7), some (0, x8), some (0, x9), some (0, x10), some (0, x11), some (0, x12), none, none] [] M (nPV fun M1 => Sf 2 ac M0 M1 ∧ (FC 53 Ms M1) ∧ (∀ c : Int, 0 ≤ c → c < 8 → M1 53 c = lin 2 (fun n => Ms (p + 1) n) i j c))) ∧ (∀ (x5 x6 x7 x8 x9 x10 x11 x12 x13 x14 : Int) (M : nM), Sf 2 ac M0 M → (2 ≤ x5 ∧ x5 ≤ 2) → (0 ≤ x6 ∧ x6 ≤ 6) → (0 ≤ x7 ∧ x7 ≤ 6) → (0 ≤ x8 ∧ x8 ≤ 6) → (0 ≤ x9 ∧ x9 ≤ 8) → (0 ≤ x10 ∧ x10 ≤ 1) → (0 ≤ x11 ∧ x11 ≤ 4) → (0 ≤ x12 ∧ x12 ≤ 1) → (0 ≤ x13 ∧ x13 ≤ 6) → (0 ≤ x14 ∧ x14 ≤ 2) → (x9 = 4 * x10 + 2 * x12 + x14) → (x6 = (i / (2 * 2) * 2 + j / (2 * 2)) * 2) → (x7 = (i / 2 % 2 * 2 + j / 2 % 2) * 2) → (x8 = (i % 2 * 2 + j % 2) * 2) → (FC 53 Ms M) → (∀ c : Int, 0 ≤ c → c < x9 → M 53 c = lin 2 (fun n => Ms (p + 1) n) i j c) → (x11 = Ms (p + 1) (x6 + x10) * 4) → (x13 = Ms (p + 1) (x6 + x10) * 4 + Ms (p + 1) (x7 + x12) * 2) → (2 - x10) * 21 + (2 - x12) * 5 + (2 - x14) * 1 + 1 < (nn : Int) → nW xs e 45 137 [some (2, 52), none, some (2, (p + 1)), none, none, some (0, x5), some (0, x6), some (0, x7), some (0, x8), some (0, x9), some (0, x10), some (0, x11), some (0, x12), some (0, x13), some (0, x14)] [] M (nPV fun M1 => Sf 2 ac M0 M1 ∧ (FC 53 Ms M1) ∧ (∀ c : Int, 0 ≤ c → c < 8 → M1 53 c = lin 2 (fun n => Ms (p + 1) n) i j c))) := by
  have hd : (2 : Int) = 2 ∨ (2 : Int) = 3 := by decide
  have hac := hS.2.2.2.2
  have hpb := hp.1
  intro nn
  induction nn with
  | zero => refine ⟨?_, ?_, ?_⟩ <;> (intros; omega)
  | succ nn ih =>
    refine ⟨?_, ?_, ?_⟩
    · intro x5 x6 x7 x8 x9 x10 M hS k5 k6 k7 k8 k9 k10 v0 v1 v2 v3 v4 v5 hnn
      refine n_iload c_45_86 rfl (n_iload c_45_88 rfl ?_)
      refine n_if2_ge c_45_90 (by omega) (by omega) ?_ ?_
      · intro h1
        exact n_rV c_45_187 rfl ⟨hS, by exact v4, by exact fun c h0 h1 => v5 c h0 (by omega)⟩
      · intro h2
        refine n_aload_n c_45_93 rfl (n_iload c_45_94 rfl (n_iload c_45_96 rfl (n_iadd c_45_98 rfl (n_ialoadV c_45_99 hp.c0.2.1.n rfl rfl rfl (by omega) (t_actrl hS hp hpl (Or.inl rfl) (by omega) (by omega)) ?_))))
        intro z3 ez3 f4
        refine n_aload_n c_45_100 rfl (n_getV (bi := 1) c_45_101 sc_52.n rfl rfl rfl (t_52_1 hS) ?_)
        intro z5 ez5 f6
        obtain rfl : z5 = 4 := by omega
        refine n_imul c_45_104 rfl (n_istore (L2 := [some (2, 52), none, some (2, (p + 1)), none, none, some (0, x5), some (0, x6), some (0, x7), some (0, x8), some (0, x9), some (0, x10), some (0, (z3 * 4)), none, none, none]) c_45_105 rfl rfl (n_iconst c_45_107 (n_istore (L2 := [some (2, 52), none, some (2, (p + 1)), none, none, some (0, x5), some (0, x6), some (0, x7), some (0, x8), some (0, x9), some (0, x10), some (0, (z3 * 4)), some (0, 0), none, none]) c_45_108 rfl rfl (n_fg (le_s (le_n (le_s (le_n (le_n (le_s (le_s (le_s (le_s (le_s (le_s (le_s (le_s (le_n (le_n le_0))))))))))))))) ?_))))
        exact ih.2.1 _ _ _ _ _ _ _ _ M hS (by omega) (by omega) (by omega) (by omega) (by omega) (by omega) (by omega) (by omega) (by omega) (by exact v1) (by exact v2) (by exact v3) (by exact v4) (by exact v5) (by have u1 := v4 (p + 1) (x6 + x10) (by omega); omega) (by omega)
    · intro x5 x6 x7 x8 x9 x10 x11 x12 M hS k5 k6 k7 k8 k9 k10 k11 k12 v0 v1 v2 v3 v4 v5 v6 hnn
      refine n_iload c_45_110 rfl (n_iload c_45_112 rfl ?_)
      refine n_if2_ge c_45_114 (by omega) (by omega) ?_ ?_
      · intro h1
        refine n_iinc (L2 := [some (2, 52), none, some (2, (p + 1)), none, none, some (0, x5), some (0, x6), some (0, x7), some (0, x8), some (0, x9), some (0, (x10 + 1)), some (0, x11), some (0, x12), none, none]) c_45_181 rfl rfl rfl (n_goto c_45_184 (n_fg (le_s (le_n (le_s (le_n (le_n (le_s (le_s (le_s (le_s (le_s (le_s (le_n (le_n (le_n (le_n le_0))))))))))))))) ?_))
        exact ih.1 _ _ _ _ _ _ M hS (by omega) (by omega) (by omega) (by omega) (by omega) (by omega) (by omega) (by exact v1) (by exact v2) (by exact v3) (by exact v4) (by exact v5) (by omega)
      · intro h2
        refine n_iload c_45_117 rfl (n_aload_n c_45_119 rfl (n_iload c_45_120 rfl (n_iload c_45_122 rfl (n_iadd c_45_124 rfl (n_ialoadV c_45_125 hp.c0.2.1.n rfl rfl rfl (by omega) (t_actrl hS hp hpl (Or.inl rfl) (by omega) (by omega)) ?_)))))
        intro z3 ez3 f4
        refine n_aload_n c_45_126 rfl (n_getV (bi := 2) c_45_127 sc_52.n rfl rfl rfl (t_52_2 hS) ?_)
        intro z5 ez5 f6
        obtain rfl : z5 = 2 := by omega
        refine n_imul c_45_130 rfl (n_iadd c_45_131 rfl (n_istore (L2 := [some (2, 52), none, some (2, (p + 1)), none, none, some (0, x5), some (0, x6), some (0, x7), some (0, x8), some (0, x9), some (0, x10), some (0, x11), some (0, x12), some (0, (x11 + (z3 * 2))), none]) c_45_132 rfl rfl (n_iconst c_45_134 (n_istore (L2 := [some (2, 52), none, some (2, (p + 1)), none, none, some (0, x5), some (0, x6), some (0, x7), some (0, x8), some (0, x9), some (0, x10), some (0, x11), some (0, x12), some (0, (x11 + (z3 * 2))), some (0, 0)]) c_45_135 rfl rfl (n_fg (le_s (le_n (le_s (le_n (le_n (le_s (le_s (le_s (le_s (le_s (le_s (le_s (le_s (le_s (le_s le_0))))))))))))))) ?_)))))
        exact ih.2.2 _ _ _ _ _ _ _ _ _ _ M hS (by omega) (by omega) (by omega) (by omega) (by omega) (by omega) (by omega) (by omega) (by omega) (by omega) (by omega) (by exact v1) (by exact v2) (by exact v3) (by exact v4) (by exact v5) (by exact v6) (by have u1 := v4 (p + 1) (x7 + x12) (by omega); omega) (by omega)
    · intro x5 x6 x7 x8 x9 x10 x11 x12 x13 x14 M hS k5 k6 k7 k8 k9 k10 k11 k12 k13 k14 v0 v1 v2 v3 v4 v5 v6 v7 hnn
      have vf := v4
      refine n_iload c_45_137 rfl (n_iload c_45_139 rfl ?_)
      refine n_if2_ge c_45_141 (by omega) (by omega) ?_ ?_
      · intro h1
        refine n_iinc (L2 := [some (2, 52), none, some (2, (p + 1)), none, none, some (0, x5), some (0, x6), some (0, x7), some (0, x8), some (0, x9), some (0, x10), some (0, x11), some (0, (x12 + 1)), some (0, x13), some (0, x14)]) c_45_175 rfl rfl rfl (n_goto c_45_178 (n_fg (le_s (le_n (le_s (le_n (le_n (le_s (le_s (le_s (le_s (le_s (le_s (le_s (le_s (le_n (le_n le_0))))))))))))))) ?_))
        exact ih.2.1 _ _ _ _ _ _ _ _ M hS (by omega) (by omega) (by omega) (by omega) (by omega) (by omega) (by omega) (by omega) (by omega) (by exact v1) (by exact v2) (by exact v3) (by exact v4) (by exact v5) (by exact v6) (by omega)
      · intro h2
        refine n_aload_n c_45_144 rfl (n_getR c_45_145 sc_52.n rfl rfl rfl r_52_0 (n_iload c_45_148 rfl (n_iload c_45_150 rfl (n_aload_n c_45_152 rfl (n_iload c_45_153 rfl (n_iload c_45_155 rfl (n_iadd c_45_157 rfl (n_ialoadV c_45_158 hp.c0.2.1.n rfl rfl rfl (by omega) (t_actrl hS hp hpl (Or.inl rfl) (by omega) (by omega)) ?_))))))))
        intro z3 ez3 f4
        refine n_aload_n c_45_159 rfl (n_getV (bi := 3) c_45_160 sc_52.n rfl rfl rfl (t_52_3 hS) ?_)
        intro z5 ez5 f6
        obtain rfl : z5 = 1 := by omega
        refine n_imul c_45_163 rfl (n_iadd c_45_164 rfl (n_iastoreV hS c_45_165 sc_53.n rfl (by omega) (w_53 (by omega) (by omega)) ?_))
        intro M7 eM7 hS7
        refine n_iinc (L2 := [some (2, 52), none, some (2, (p + 1)), none, none, some (0, x5), some (0, x6), some (0, x7), some (0, x8), some (0, (x9 + 1)), some (0, x10), some (0, x11), some (0, x12), some (0, x13), some (0, x14)]) c_45_166 rfl rfl rfl (n_iinc (L2 := [some (2, 52), none, some (2, (p + 1)), none, none, some (0, x5), some (0, x6), some (0, x7), some (0, x8), some (0, (x9 + 1)), some (0, x10), some (0, x11), some (0, x12), some (0, x13), some (0, (x14 + 1))]) c_45_169 rfl rfl rfl (n_goto c_45_172 (n_fg (le_s (le_n (le_s (le_n (le_n (le_s (le_s (le_s (le_s (le_s (le_s (le_s (le_s (le_s (le_s le_0))))))))))))))) ?_)))
        exact ih.2.2 _ _ _ _ _ _ _ _ _ _ M7 hS7 (by omega) (by omega) (by omega) (by omega) (by omega) (by omega) (by omega) (by omega) (by omega) (by omega) (by omega) (by exact v1) (by exact v2) (by exact v3) (by exact FC.u v4 eM7) (by exact fun c h0 h1 => by rw [eM7, nu_e]; by_cases e : c = x9; (rw [if_pos ⟨rfl, e⟩, e]; show _ = Ms (p + 1) ((i / (2 * 2) * 2 + j / (2 * 2)) * 2 + x9 / (2 * 2)) * (2 * 2) + Ms (p + 1) ((i / 2 % 2 * 2 + j / 2 % 2) * 2 + x9 / 2 % 2) * 2 + Ms (p + 1) ((i % 2 * 2 + j % 2) * 2 + x9 % 2); rw [show x9 / (2 * 2) = x10 by omega, show x9 / 2 % 2 = x12 by omega, show x9 % 2 = x14 by omega, ← v1, ← v2, ← v3]; have u3 := vf (p + 1) (x8 + x14) (by omega); omega); (rw [if_neg (fun u => e u.2)]; exact v5 c h0 (by omega))) (by exact v6) (by exact v7) (by omega)
set_option maxHeartbeats 4000000 in
theorem fillXT_2 {xs : List Int32} {e : Nat} {ac : Int} {M0 M : nM} {p i j : Int} {Ms : nM} (hS : Sf 2 ac M0 M) (hp : ActAt p) (hpl : p < 55 + 3 * ac) (hi : 0 ≤ i ∧ i ≤ 7) (hj : 0 ≤ j ∧ j ≤ 7) (hms : M = Ms) : nW xs e 45 0 [some (2, 52), some (2, 4), some (2, (p + 1)), some (0, i), some (0, j), none, none, none, none, none, none, none, none, none, none] [] M (nPV fun M1 => Sf 2 ac M0 M1 ∧ (FC 53 Ms M1) ∧ (∀ c : Int, 0 ≤ c → c < 8 → M1 53 c = lin 2 (fun n => Ms (p + 1) n) i j c)) := by
  have hd : (2 : Int) = 2 ∨ (2 : Int) = 3 := by decide
  have hac := hS.2.2.2.2
  have hpb := hp.1
  refine n_aload_n c_45_0 rfl (n_getV (bi := 1) c_45_1 sc_52.n rfl rfl rfl (t_52_1 hS) ?_)
  intro z1 ez1 f2
  obtain rfl : z1 = 4 := by omega
  refine n_if0_ne c_45_4 (by omega) ?_ ?_
  · intro h3
    refine n_aload_n c_45_8 rfl (n_getV (bi := 0) c_45_9 sc_4.n rfl rfl rfl (t_4_0 hS) ?_)
    intro z4 ez4 f5
    obtain rfl : z4 = 2 := by omega
    refine n_istore (L2 := [some (2, 52), some (2, 4), some (2, (p + 1)), some (0, i), some (0, j), some (0, 2), none, none, none, none, none, none, none, none, none]) c_45_12 rfl rfl (n_aload_n c_45_14 rfl (n_getR c_45_15 sc_4.n rfl rfl rfl r_4_2 (n_iload_n c_45_18 rfl (n_ialoadV c_45_19 sc_5.n rfl rfl rfl (by omega) (t_5d hS hd (by omega) (by omega)) ?_))))
    intro z6 ez6 f7
    have q19 := t_5e hS (i := i) (by omega) (by omega)
    refine n_iload c_45_20 rfl (n_imul c_45_22 rfl (n_aload_n c_45_23 rfl (n_getR c_45_24 sc_4.n rfl rfl rfl r_4_2 (n_iload c_45_27 rfl (n_ialoadV c_45_29 sc_5.n rfl rfl rfl (by omega) (t_5d hS hd (by omega) (by omega)) ?_)))))
    intro z8 ez8 f9
    have q29 := t_5e hS (i := j) (by omega) (by omega)
    refine n_iadd c_45_30 rfl (n_iload c_45_31 rfl (n_imul c_45_33 rfl (n_istore (L2 := [some (2, 52), some (2, 4), some (2, (p + 1)), some (0, i), some (0, j), some (0, 2), some (0, (((z6 * 2) + z8) * 2)), none, none, none, none, none, none, none, none]) c_45_34 rfl rfl (n_aload_n c_45_36 rfl (n_getR c_45_37 sc_4.n rfl rfl rfl r_4_3 (n_iload_n c_45_40 rfl (n_ialoadV c_45_41 sc_6.n rfl rfl rfl (by omega) (t_6d hS hd (by omega) (by omega)) ?_)))))))
    intro z10 ez10 f11
    have q41 := t_6e hS (i := i) (by omega) (by omega)
    refine n_iload c_45_42 rfl (n_imul c_45_44 rfl (n_aload_n c_45_45 rfl (n_getR c_45_46 sc_4.n rfl rfl rfl r_4_3 (n_iload c_45_49 rfl (n_ialoadV c_45_51 sc_6.n rfl rfl rfl (by omega) (t_6d hS hd (by omega) (by omega)) ?_)))))
    intro z12 ez12 f13
    have q51 := t_6e hS (i := j) (by omega) (by omega)
    refine n_iadd c_45_52 rfl (n_iload c_45_53 rfl (n_imul c_45_55 rfl (n_istore (L2 := [some (2, 52), some (2, 4), some (2, (p + 1)), some (0, i), some (0, j), some (0, 2), some (0, (((z6 * 2) + z8) * 2)), some (0, (((z10 * 2) + z12) * 2)), none, none, none, none, none, none, none]) c_45_56 rfl rfl (n_aload_n c_45_58 rfl (n_getR c_45_59 sc_4.n rfl rfl rfl r_4_4 (n_iload_n c_45_62 rfl (n_ialoadV c_45_63 sc_7.n rfl rfl rfl (by omega) (t_7d hS hd (by omega) (by omega)) ?_)))))))
    intro z14 ez14 f15
    have q63 := t_7e hS (i := i) (by omega) (by omega)
    refine n_iload c_45_64 rfl (n_imul c_45_66 rfl (n_aload_n c_45_67 rfl (n_getR c_45_68 sc_4.n rfl rfl rfl r_4_4 (n_iload c_45_71 rfl (n_ialoadV c_45_73 sc_7.n rfl rfl rfl (by omega) (t_7d hS hd (by omega) (by omega)) ?_)))))
    intro z16 ez16 f17
    have q73 := t_7e hS (i := j) (by omega) (by omega)
    refine n_iadd c_45_74 rfl (n_iload c_45_75 rfl (n_imul c_45_77 rfl (n_istore (L2 := [some (2, 52), some (2, 4), some (2, (p + 1)), some (0, i), some (0, j), some (0, 2), some (0, (((z6 * 2) + z8) * 2)), some (0, (((z10 * 2) + z12) * 2)), some (0, (((z14 * 2) + z16) * 2)), none, none, none, none, none, none]) c_45_78 rfl rfl (n_iconst c_45_80 (n_istore (L2 := [some (2, 52), some (2, 4), some (2, (p + 1)), some (0, i), some (0, j), some (0, 2), some (0, (((z6 * 2) + z8) * 2)), some (0, (((z10 * 2) + z12) * 2)), some (0, (((z14 * 2) + z16) * 2)), some (0, 0), none, none, none, none, none]) c_45_81 rfl rfl (n_iconst c_45_83 (n_istore (L2 := [some (2, 52), some (2, 4), some (2, (p + 1)), some (0, i), some (0, j), some (0, 2), some (0, (((z6 * 2) + z8) * 2)), some (0, (((z10 * 2) + z12) * 2)), some (0, (((z14 * 2) + z16) * 2)), some (0, 0), some (0, 0), none, none, none, none]) c_45_84 rfl rfl (n_fg (le_s (le_n (le_s (le_n (le_n (le_s (le_s (le_s (le_s (le_s (le_s (le_n (le_n (le_n (le_n le_0))))))))))))))) ?_))))))))
    exact (fillXT_2_c hS hp hpl hi hj hms 178).1 _ _ _ _ _ _ M hS (by omega) (by omega) (by omega) (by omega) (by omega) (by omega) (by omega) (by omega) (by omega) (by omega) (by subst hms; exact fun _ _ _ => rfl) (by exact fun c h0 h1 => by omega) (by omega)
  · intro h18
    exfalso; omega

set_option maxHeartbeats 4000000 in
theorem fillXU_2_c {xs : List Int32} {e : Nat} {ac : Int} {M0 M : nM} {p i j : Int} {Ms : nM} (hS : Sf 2 ac M0 M) (hp : ActAt p) (hpl : p < 55 + 3 * ac) (hi : 0 ≤ i ∧ i ≤ 7) (hj : 0 ≤ j ∧ j ≤ 7) (hms : M = Ms) : ∀ nn : Nat, (∀ (x5 x6 x7 x8 x9 x10 : Int) (M : nM), Sf 2 ac M0 M → (2 ≤ x5 ∧ x5 ≤ 2) → (0 ≤ x6 ∧ x6 ≤ 6) → (0 ≤ x7 ∧ x7 ≤ 6) → (0 ≤ x8 ∧ x8 ≤ 6) → (0 ≤ x9 ∧ x9 ≤ 8) → (0 ≤ x10 ∧ x10 ≤ 2) → (x9 = 4 * x10) → (x6 = (i / (2 * 2) * 2 + j / (2 * 2)) * 2) → (x7 = (i / 2 % 2 * 2 + j / 2 % 2) * 2) → (x8 = (i % 2 * 2 + j % 2) * 2) → (FC 53 Ms M) → (∀ c : Int, 0 ≤ c → c < x9 → M 53 c = lin 2 (fun n => Ms (p + 2) n) i j c) → (2 - x10) * 21 + 21 < (nn : Int) → nW xs e 45 86 [some (2, 52), none, some (2, (p + 2)), none, none, some (0, x5), some (0, x6), some (0, x7), some (0, x8), some (0, x9), some (0, x10), none, none, none, none] [] M (nPV fun M1 => Sf 2 ac M0 M1 ∧ (FC 53 Ms M1) ∧ (∀ c : Int, 0 ≤ c → c < 8 → M1 53 c = lin 2 (fun n => Ms (p + 2) n) i j c))) ∧ (∀ (x5 x6 x7 x8 x9 x10 x11 x12 : Int) (M : nM), Sf 2 ac M0 M → (2 ≤ x5 ∧ x5 ≤ 2) → (0 ≤ x6 ∧ x6 ≤ 6) → (0 ≤ x7 ∧ x7 ≤ 6) → (0 ≤ x8 ∧ x8 ≤ 6) → (0 ≤ x9 ∧ x9 ≤ 8) → (0 ≤ x10 ∧ x10 ≤ 1) → (0 ≤ x11 ∧ x11 ≤ 4) → (0 ≤ x12 ∧ x12 ≤ 2) → (x9 = 4 * x10 + 2 * x12) → (x6 = (i / (2 * 2) * 2 + j / (2 * 2)) * 2) → (x7 = (i / 2 % 2 * 2 + j / 2 % 2) * 2) → (x8 = (i % 2 * 2 + j % 2) * 2) → (FC 53 Ms M) → (∀ c : Int, 0 ≤ c → c < x9 → M 53 c = lin 2 (fun n => Ms (p + 2) n) i j c) → (x11 = Ms (p + 2) (x6 + x10) * 4) → (2 - x10) * 21 + (2 - x12) * 5 + 5 < (nn : Int) → nW xs e 45 110 [some (2, 52), none, some (2, (p + 2)), none, none, some (0, x5), some (0, x6), some (0, x7), some (0, x8), some (0, x9), some (0, x10), some (0, x11), some (0, x12), none, none] [] M (nPV fun M1 => Sf 2 ac M0 M1 ∧ (FC 53 Ms M1) ∧ (∀ c : Int, 0 ≤ c → c < 8 → M1 53 c = lin 2 (fun n => Ms (p + 2) n) i j c))) ∧ (∀ (x5 x6 x7 x8 x9 x10 x11 x12 x13 x14 : Int) (M : nM), Sf 2 ac M0 M → (2 ≤ x5 ∧ x5 ≤ 2) → (0 ≤ x6 ∧ x6 ≤ 6) → (0 ≤ x7 ∧ x7 ≤ 6) → (0 ≤ x8 ∧ x8 ≤ 6) → (0 ≤ x9 ∧ x9 ≤ 8) → (0 ≤ x10 ∧ x10 ≤ 1) → (0 ≤ x11 ∧ x11 ≤ 4) → (0 ≤ x12 ∧ x12 ≤ 1) → (0 ≤ x13 ∧ x13 ≤ 6) → (0 ≤ x14 ∧ x14 ≤ 2) → (x9 = 4 * x10 + 2 * x12 + x14) → (x6 = (i / (2 * 2) * 2 + j / (2 * 2)) * 2) → (x7 = (i / 2 % 2 * 2 + j / 2 % 2) * 2) → (x8 = (i % 2 * 2 + j % 2) * 2) → (FC 53 Ms M) → (∀ c : Int, 0 ≤ c → c < x9 → M 53 c = lin 2 (fun n => Ms (p + 2) n) i j c) → (x11 = Ms (p + 2) (x6 + x10) * 4) → (x13 = Ms (p + 2) (x6 + x10) * 4 + Ms (p + 2) (x7 + x12) * 2) → (2 - x10) * 21 + (2 - x12) * 5 + (2 - x14) * 1 + 1 < (nn : Int) → nW xs e 45 137 [some (2, 52), none, some (2, (p + 2)), none, none, some (0, x5), some (0, x6), some (0, x7), some (0, x8), some (0, x9), some (0, x10), some (0, x11), some (0, x12), some (0, x13), some (0, x14)] [] M (nPV fun M1 => Sf 2 ac M0 M1 ∧ (FC 53 Ms M1) ∧ (∀ c : Int, 0 ≤ c → c < 8 → M1 53 c = lin 2 (fun n => Ms (p + 2) n) i j c))) := by
  have hd : (2 : Int) = 2 ∨ (2 : Int) = 3 := by decide
  have hac := hS.2.2.2.2
  have hpb := hp.1
  intro nn
  induction nn with
  | zero => refine ⟨?_, ?_, ?_⟩ <;> (intros; omega)
  | succ nn ih =>
    refine ⟨?_, ?_, ?_⟩
    · intro x5 x6 x7 x8 x9 x10 M hS k5 k6 k7 k8 k9 k10 v0 v1 v2 v3 v4 v5 hnn
      refine n_iload c_45_86 rfl (n_iload c_45_88 rfl ?_)
      refine n_if2_ge c_45_90 (by omega) (by omega) ?_ ?_
      · intro h1
        exact n_rV c_45_187 rfl ⟨hS, by exact v4, by exact fun c h0 h1 => v5 c h0 (by omega)⟩
      · intro h2
        refine n_aload_n c_45_93 rfl (n_iload c_45_94 rfl (n_iload c_45_96 rfl (n_iadd c_45_98 rfl (n_ialoadV c_45_99 hp.c0.2.2.n rfl rfl rfl (by omega) (t_actrl hS hp hpl (Or.inr rfl) (by omega) (by omega)) ?_))))
        intro z3 ez3 f4
        refine n_aload_n c_45_100 rfl (n_getV (bi := 1) c_45_101 sc_52.n rfl rfl rfl (t_52_1 hS) ?_)
        intro z5 ez5 f6
        obtain rfl : z5 = 4 := by omega
        refine n_imul c_45_104 rfl (n_istore (L2 := [some (2, 52), none, some (2, (p + 2)), none, none, some (0, x5), some (0, x6), some (0, x7), some (0, x8), some (0, x9), some (0, x10), some (0, (z3 * 4)), none, none, none]) c_45_105 rfl rfl (n_iconst c_45_107 (n_istore (L2 := [some (2, 52), none, some (2, (p + 2)), none, none, some (0, x5), some (0, x6), some (0, x7), some (0, x8), some (0, x9), some (0, x10), some (0, (z3 * 4)), some (0, 0), none, none]) c_45_108 rfl rfl (n_fg (le_s (le_n (le_s (le_n (le_n (le_s (le_s (le_s (le_s (le_s (le_s (le_s (le_s (le_n (le_n le_0))))))))))))))) ?_))))
        exact ih.2.1 _ _ _ _ _ _ _ _ M hS (by omega) (by omega) (by omega) (by omega) (by omega) (by omega) (by omega) (by omega) (by omega) (by exact v1) (by exact v2) (by exact v3) (by exact v4) (by exact v5) (by have u1 := v4 (p + 2) (x6 + x10) (by omega); omega) (by omega)
    · intro x5 x6 x7 x8 x9 x10 x11 x12 M hS k5 k6 k7 k8 k9 k10 k11 k12 v0 v1 v2 v3 v4 v5 v6 hnn
      refine n_iload c_45_110 rfl (n_iload c_45_112 rfl ?_)
      refine n_if2_ge c_45_114 (by omega) (by omega) ?_ ?_
      · intro h1
        refine n_iinc (L2 := [some (2, 52), none, some (2, (p + 2)), none, none, some (0, x5), some (0, x6), some (0, x7), some (0, x8), some (0, x9), some (0, (x10 + 1)), some (0, x11), some (0, x12), none, none]) c_45_181 rfl rfl rfl (n_goto c_45_184 (n_fg (le_s (le_n (le_s (le_n (le_n (le_s (le_s (le_s (le_s (le_s (le_s (le_n (le_n (le_n (le_n le_0))))))))))))))) ?_))
        exact ih.1 _ _ _ _ _ _ M hS (by omega) (by omega) (by omega) (by omega) (by omega) (by omega) (by omega) (by exact v1) (by exact v2) (by exact v3) (by exact v4) (by exact v5) (by omega)
      · intro h2
        refine n_iload c_45_117 rfl (n_aload_n c_45_119 rfl (n_iload c_45_120 rfl (n_iload c_45_122 rfl (n_iadd c_45_124 rfl (n_ialoadV c_45_125 hp.c0.2.2.n rfl rfl rfl (by omega) (t_actrl hS hp hpl (Or.inr rfl) (by omega) (by omega)) ?_)))))
        intro z3 ez3 f4
        refine n_aload_n c_45_126 rfl (n_getV (bi := 2) c_45_127 sc_52.n rfl rfl rfl (t_52_2 hS) ?_)
        intro z5 ez5 f6
        obtain rfl : z5 = 2 := by omega
        refine n_imul c_45_130 rfl (n_iadd c_45_131 rfl (n_istore (L2 := [some (2, 52), none, some (2, (p + 2)), none, none, some (0, x5), some (0, x6), some (0, x7), some (0, x8), some (0, x9), some (0, x10), some (0, x11), some (0, x12), some (0, (x11 + (z3 * 2))), none]) c_45_132 rfl rfl (n_iconst c_45_134 (n_istore (L2 := [some (2, 52), none, some (2, (p + 2)), none, none, some (0, x5), some (0, x6), some (0, x7), some (0, x8), some (0, x9), some (0, x10), some (0, x11), some (0, x12), some (0, (x11 + (z3 * 2))), some (0, 0)]) c_45_135 rfl rfl (n_fg (le_s (le_n (le_s (le_n (le_n (le_s (le_s (le_s (le_s (le_s (le_s (le_s (le_s (le_s (le_s le_0))))))))))))))) ?_)))))
        exact ih.2.2 _ _ _ _ _ _ _ _ _ _ M hS (by omega) (by omega) (by omega) (by omega) (by omega) (by omega) (by omega) (by omega) (by omega) (by omega) (by omega) (by exact v1) (by exact v2) (by exact v3) (by exact v4) (by exact v5) (by exact v6) (by have u1 := v4 (p + 2) (x7 + x12) (by omega); omega) (by omega)
    · intro x5 x6 x7 x8 x9 x10 x11 x12 x13 x14 M hS k5 k6 k7 k8 k9 k10 k11 k12 k13 k14 v0 v1 v2 v3 v4 v5 v6 v7 hnn
      have vf := v4
      refine n_iload c_45_137 rfl (n_iload c_45_139 rfl ?_)
      refine n_if2_ge c_45_141 (by omega) (by omega) ?_ ?_
      · intro h1
        refine n_iinc (L2 := [some (2, 52), none, some (2, (p + 2)), none, none, some (0, x5), some (0, x6), some (0, x7), some (0, x8), some (0, x9), some (0, x10), some (0, x11), some (0, (x12 + 1)), some (0, x13), some (0, x14)]) c_45_175 rfl rfl rfl (n_goto c_45_178 (n_fg (le_s (le_n (le_s (le_n (le_n (le_s (le_s (le_s (le_s (le_s (le_s (le_s (le_s (le_n (le_n le_0))))))))))))))) ?_))
        exact ih.2.1 _ _ _ _ _ _ _ _ M hS (by omega) (by omega) (by omega) (by omega) (by omega) (by omega) (by omega) (by omega) (by omega) (by exact v1) (by exact v2) (by exact v3) (by exact v4) (by exact v5) (by exact v6) (by omega)
      · intro h2
        refine n_aload_n c_45_144 rfl (n_getR c_45_145 sc_52.n rfl rfl rfl r_52_0 (n_iload c_45_148 rfl (n_iload c_45_150 rfl (n_aload_n c_45_152 rfl (n_iload c_45_153 rfl (n_iload c_45_155 rfl (n_iadd c_45_157 rfl (n_ialoadV c_45_158 hp.c0.2.2.n rfl rfl rfl (by omega) (t_actrl hS hp hpl (Or.inr rfl) (by omega) (by omega)) ?_))))))))
        intro z3 ez3 f4
        refine n_aload_n c_45_159 rfl (n_getV (bi := 3) c_45_160 sc_52.n rfl rfl rfl (t_52_3 hS) ?_)
        intro z5 ez5 f6
        obtain rfl : z5 = 1 := by omega
        refine n_imul c_45_163 rfl (n_iadd c_45_164 rfl (n_iastoreV hS c_45_165 sc_53.n rfl (by omega) (w_53 (by omega) (by omega)) ?_))
        intro M7 eM7 hS7
        refine n_iinc (L2 := [some (2, 52), none, some (2, (p + 2)), none, none, some (0, x5), some (0, x6), some (0, x7), some (0, x8), some (0, (x9 + 1)), some (0, x10), some (0, x11), some (0, x12), some (0, x13), some (0, x14)]) c_45_166 rfl rfl rfl (n_iinc (L2 := [some (2, 52), none, some (2, (p + 2)), none, none, some (0, x5), some (0, x6), some (0, x7), some (0, x8), some (0, (x9 + 1)), some (0, x10), some (0, x11), some (0, x12), some (0, x13), some (0, (x14 + 1))]) c_45_169 rfl rfl rfl (n_goto c_45_172 (n_fg (le_s (le_n (le_s (le_n (le_n (le_s (le_s (le_s (le_s (le_s (le_s (le_s (le_s (le_s (le_s le_0))))))))))))))) ?_)))
        exact ih.2.2 _ _ _ _ _ _ _ _ _ _ M7 hS7 (by omega) (by omega) (by omega) (by omega) (by omega) (by omega) (by omega) (by omega) (by omega) (by omega) (by omega) (by exact v1) (by exact v2) (by exact v3) (by exact FC.u v4 eM7) (by exact fun c h0 h1 => by rw [eM7, nu_e]; by_cases e : c = x9; (rw [if_pos ⟨rfl, e⟩, e]; show _ = Ms (p + 2) ((i / (2 * 2) * 2 + j / (2 * 2)) * 2 + x9 / (2 * 2)) * (2 * 2) + Ms (p + 2) ((i / 2 % 2 * 2 + j / 2 % 2) * 2 + x9 / 2 % 2) * 2 + Ms (p + 2) ((i % 2 * 2 + j % 2) * 2 + x9 % 2); rw [show x9 / (2 * 2) = x10 by omega, show x9 / 2 % 2 = x12 by omega, show x9 % 2 = x14 by omega, ← v1, ← v2, ← v3]; have u3 := vf (p + 2) (x8 + x14) (by omega); omega); (rw [if_neg (fun u => e u.2)]; exact v5 c h0 (by omega))) (by exact v6) (by exact v7) (by omega)
set_option maxHeartbeats 4000000 in
theorem fillXU_2 {xs : List Int32} {e : Nat} {ac : Int} {M0 M : nM} {p i j : Int} {Ms : nM} (hS : Sf 2 ac M0 M) (hp : ActAt p) (hpl : p < 55 + 3 * ac) (hi : 0 ≤ i ∧ i ≤ 7) (hj : 0 ≤ j ∧ j ≤ 7) (hms : M = Ms) : nW xs e 45 0 [some (2, 52), some (2, 4), some (2, (p + 2)), some (0, i), some (0, j), none, none, none, none, none, none, none, none, none, none] [] M (nPV fun M1 => Sf 2 ac M0 M1 ∧ (FC 53 Ms M1) ∧ (∀ c : Int, 0 ≤ c → c < 8 → M1 53 c = lin 2 (fun n => Ms (p + 2) n) i j c)) := by
  have hd : (2 : Int) = 2 ∨ (2 : Int) = 3 := by decide
  have hac := hS.2.2.2.2
  have hpb := hp.1
  refine n_aload_n c_45_0 rfl (n_getV (bi := 1) c_45_1 sc_52.n rfl rfl rfl (t_52_1 hS) ?_)
  intro z1 ez1 f2
  obtain rfl : z1 = 4 := by omega
  refine n_if0_ne c_45_4 (by omega) ?_ ?_
  · intro h3
    refine n_aload_n c_45_8 rfl (n_getV (bi := 0) c_45_9 sc_4.n rfl rfl rfl (t_4_0 hS) ?_)
    intro z4 ez4 f5
    obtain rfl : z4 = 2 := by omega
    refine n_istore (L2 := [some (2, 52), some (2, 4), some (2, (p + 2)), some (0, i), some (0, j), some (0, 2), none, none, none, none, none, none, none, none, none]) c_45_12 rfl rfl (n_aload_n c_45_14 rfl (n_getR c_45_15 sc_4.n rfl rfl rfl r_4_2 (n_iload_n c_45_18 rfl (n_ialoadV c_45_19 sc_5.n rfl rfl rfl (by omega) (t_5d hS hd (by omega) (by omega)) ?_))))
    intro z6 ez6 f7
    have q19 := t_5e hS (i := i) (by omega) (by omega)
    refine n_iload c_45_20 rfl (n_imul c_45_22 rfl (n_aload_n c_45_23 rfl (n_getR c_45_24 sc_4.n rfl rfl rfl r_4_2 (n_iload c_45_27 rfl (n_ialoadV c_45_29 sc_5.n rfl rfl rfl (by omega) (t_5d hS hd (by omega) (by omega)) ?_)))))
    intro z8 ez8 f9
    have q29 := t_5e hS (i := j) (by omega) (by omega)
    refine n_iadd c_45_30 rfl (n_iload c_45_31 rfl (n_imul c_45_33 rfl (n_istore (L2 := [some (2, 52), some (2, 4), some (2, (p + 2)), some (0, i), some (0, j), some (0, 2), some (0, (((z6 * 2) + z8) * 2)), none, none, none, none, none, none, none, none]) c_45_34 rfl rfl (n_aload_n c_45_36 rfl (n_getR c_45_37 sc_4.n rfl rfl rfl r_4_3 (n_iload_n c_45_40 rfl (n_ialoadV c_45_41 sc_6.n rfl rfl rfl (by omega) (t_6d hS hd (by omega) (by omega)) ?_)))))))
    intro z10 ez10 f11
    have q41 := t_6e hS (i := i) (by omega) (by omega)
    refine n_iload c_45_42 rfl (n_imul c_45_44 rfl (n_aload_n c_45_45 rfl (n_getR c_45_46 sc_4.n rfl rfl rfl r_4_3 (n_iload c_45_49 rfl (n_ialoadV c_45_51 sc_6.n rfl rfl rfl (by omega) (t_6d hS hd (by omega) (by omega)) ?_)))))
    intro z12 ez12 f13
    have q51 := t_6e hS (i := j) (by omega) (by omega)
    refine n_iadd c_45_52 rfl (n_iload c_45_53 rfl (n_imul c_45_55 rfl (n_istore (L2 := [some (2, 52), some (2, 4), some (2, (p + 2)), some (0, i), some (0, j), some (0, 2), some (0, (((z6 * 2) + z8) * 2)), some (0, (((z10 * 2) + z12) * 2)), none, none, none, none, none, none, none]) c_45_56 rfl rfl (n_aload_n c_45_58 rfl (n_getR c_45_59 sc_4.n rfl rfl rfl r_4_4 (n_iload_n c_45_62 rfl (n_ialoadV c_45_63 sc_7.n rfl rfl rfl (by omega) (t_7d hS hd (by omega) (by omega)) ?_)))))))
    intro z14 ez14 f15
    have q63 := t_7e hS (i := i) (by omega) (by omega)
    refine n_iload c_45_64 rfl (n_imul c_45_66 rfl (n_aload_n c_45_67 rfl (n_getR c_45_68 sc_4.n rfl rfl rfl r_4_4 (n_iload c_45_71 rfl (n_ialoadV c_45_73 sc_7.n rfl rfl rfl (by omega) (t_7d hS hd (by omega) (by omega)) ?_)))))
    intro z16 ez16 f17
    have q73 := t_7e hS (i := j) (by omega) (by omega)
    refine n_iadd c_45_74 rfl (n_iload c_45_75 rfl (n_imul c_45_77 rfl (n_istore (L2 := [some (2, 52), some (2, 4), some (2, (p + 2)), some (0, i), some (0, j), some (0, 2), some (0, (((z6 * 2) + z8) * 2)), some (0, (((z10 * 2) + z12) * 2)), some (0, (((z14 * 2) + z16) * 2)), none, none, none, none, none, none]) c_45_78 rfl rfl (n_iconst c_45_80 (n_istore (L2 := [some (2, 52), some (2, 4), some (2, (p + 2)), some (0, i), some (0, j), some (0, 2), some (0, (((z6 * 2) + z8) * 2)), some (0, (((z10 * 2) + z12) * 2)), some (0, (((z14 * 2) + z16) * 2)), some (0, 0), none, none, none, none, none]) c_45_81 rfl rfl (n_iconst c_45_83 (n_istore (L2 := [some (2, 52), some (2, 4), some (2, (p + 2)), some (0, i), some (0, j), some (0, 2), some (0, (((z6 * 2) + z8) * 2)), some (0, (((z10 * 2) + z12) * 2)), some (0, (((z14 * 2) + z16) * 2)), some (0, 0), some (0, 0), none, none, none, none]) c_45_84 rfl rfl (n_fg (le_s (le_n (le_s (le_n (le_n (le_s (le_s (le_s (le_s (le_s (le_s (le_n (le_n (le_n (le_n le_0))))))))))))))) ?_))))))))
    exact (fillXU_2_c hS hp hpl hi hj hms 178).1 _ _ _ _ _ _ M hS (by omega) (by omega) (by omega) (by omega) (by omega) (by omega) (by omega) (by omega) (by omega) (by omega) (by subst hms; exact fun _ _ _ => rfl) (by exact fun c h0 h1 => by omega) (by omega)
  · intro h18
    exfalso; omega
