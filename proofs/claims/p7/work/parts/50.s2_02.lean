/-! The methods, by program. -/
set_option maxHeartbeats 4000000 in
theorem takeS3_2_c {xs : List Int32} {e : Nat} {ac : Int} {M0 M : nM} {s : Int} (hS : Sf 2 ac M0 M) (hs : -2147483648 ≤ s ∧ s ≤ 2147483647) : ∀ nn : Nat, (∀ (x4 x5 : Int) (M : nM), Sf 2 ac M0 M → (8 ≤ x4 ∧ x4 ≤ 8) → (0 ≤ x5 ∧ x5 ≤ 8) → (8 - x5) * 2 + 2 < (nn : Int) → nW xs (e + 1) 36 30 [some (2, 50), some (0, 3), some (0, s), some (2, 4), some (0, x4), some (0, x5)] [] M (nPV fun M1 => Sf 2 ac M0 M1)) ∧ (∀ (x4 x5 : Int) (M : nM), Sf 2 ac M0 M → (8 ≤ x4 ∧ x4 ≤ 8) → (0 ≤ x5 ∧ x5 ≤ 7) → (8 - x5) * 2 + 1 < (nn : Int) → nW xs (e + 1) 36 57 [some (2, 50), some (0, 3), some (0, s), some (2, 4), some (0, x4), some (0, x5)] [] M (nPV fun M1 => Sf 2 ac M0 M1)) := by
  have hd : (2 : Int) = 2 ∨ (2 : Int) = 3 := by decide
  have hac := hS.2.2.2.2
  intro nn
  induction nn with
  | zero => refine ⟨?_, ?_⟩ <;> (intros; omega)
  | succ nn ih =>
    refine ⟨?_, ?_⟩
    · intro x4 x5 M hS k4 k5 hnn
      refine n_iload c_36_30 rfl ?_
      refine n_iload c_36_32 rfl ?_
      refine n_if2_ge c_36_34 (by omega) (by omega) ?_ ?_
      · intro h1
        exact n_rV c_36_63 rfl hS
      · intro h2
        refine n_iload_n c_36_37 rfl ?_
        refine n_iload c_36_38 rfl ?_
        refine n_i_ishr c_36_40 rfl ?_
        have f3 := n_shr_r s x5
        generalize (n_shr s x5) = z4 at f3 ⊢
        refine n_iconst c_36_41 ?_
        refine n_i_iand c_36_42 rfl ?_
        have f5 := n_and_y (x := z4) (y := 1) (by omega)
        generalize (n_and z4 1) = z6 at f5 ⊢
        refine n_if0_eq c_36_43 (by omega) ?_ ?_
        · intro h7
          refine n_fg (le_s (le_s (le_s (le_s (le_s (le_s le_0)))))) ?_
          exact ih.2 _ _ M hS (by omega) (by omega) (by omega)
        · intro h8
          refine n_aload_n c_36_46 rfl ?_
          refine n_aload_n c_36_47 rfl ?_
          refine n_iload c_36_48 rfl ?_
          refine n_iload_n c_36_50 rfl ?_
          refine n_v2I c_36_51 rfl sc_4.n rfl rfl rfl rfl (widen3_2 (n := x5) hS (by omega)) ?_
          intro z9 M10 hP11
          obtain ⟨eM, f11⟩ := hP11
          subst eM
          refine n_v1V c_36_54 rfl law50.c0.1.n rfl rfl rfl rfl (addWide_2 (r := z9) hS (by omega)) ?_
          intro  M12 hP13
          have hS12 := hP13
          refine n_fg (le_s (le_s (le_s (le_s (le_s (le_s le_0)))))) ?_
          exact ih.2 _ _ M12 hS12 (by omega) (by omega) (by omega)
    · intro x4 x5 M hS k4 k5 hnn
      refine n_iinc (L2 := [some (2, 50), some (0, 3), some (0, s), some (2, 4), some (0, x4), some (0, (x5 + 1))]) c_36_57 rfl rfl rfl ?_
      refine n_goto c_36_60 ?_
      refine n_fg (le_s (le_s (le_s (le_s (le_s (le_s le_0)))))) ?_
      exact ih.1 _ _ M hS (by omega) (by omega) (by omega)
set_option maxHeartbeats 4000000 in
theorem takeS3_2 {xs : List Int32} {e : Nat} {ac : Int} {M0 M : nM} {s : Int} (hS : Sf 2 ac M0 M) (hs : -2147483648 ≤ s ∧ s ≤ 2147483647) : nW xs (e + 1) 36 0 [some (2, 50), some (0, 3), some (0, s), some (2, 4), none, none] [] M (nPV fun M1 => Sf 2 ac M0 M1) := by
  have hd : (2 : Int) = 2 ∨ (2 : Int) = 3 := by decide
  have hac := hS.2.2.2.2
  refine n_aload_n c_36_0 rfl ?_
  refine n_iload_n c_36_1 rfl ?_
  refine n_putV (bi := 0) hS c_36_2 law50.c0.1.n rfl rfl rfl rfl (w_50 (by omega) (by omega)) ?_
  intro M1 eM1 hS1
  have g1_0 : M1 50 0 = 3 := by rw [eM1]; exact nu_s _ _ _ _
  refine n_aload_n c_36_5 rfl ?_
  refine n_iload_n c_36_6 rfl ?_
  refine n_putV (bi := 1) hS1 c_36_7 law50.c0.1.n rfl rfl rfl rfl (w_50 (by omega) (by omega)) ?_
  intro M2 eM2 hS2
  have g2_0 : M2 50 0 = M1 50 0 := by rw [eM2]; exact nu_i (by omega)
  have g2_1 : M2 50 1 = s := by rw [eM2]; exact nu_s _ _ _ _
  refine n_aload_n c_36_10 rfl ?_
  refine n_iconst c_36_11 ?_
  refine n_putV (bi := 2) hS2 c_36_12 law50.c0.1.n rfl rfl rfl rfl (w_50 (by omega) (by omega)) ?_
  intro M3 eM3 hS3
  have g3_0 : M3 50 0 = M2 50 0 := by rw [eM3]; exact nu_i (by omega)
  have g3_1 : M3 50 1 = M2 50 1 := by rw [eM3]; exact nu_i (by omega)
  have g3_2 : M3 50 2 = 0 := by rw [eM3]; exact nu_s _ _ _ _
  refine n_aload_n c_36_15 rfl ?_
  refine n_iconst c_36_16 ?_
  refine n_putV (bi := 3) hS3 c_36_17 law50.c0.1.n rfl rfl rfl rfl (w_50 (by omega) (by omega)) ?_
  intro M4 eM4 hS4
  have g4_0 : M4 50 0 = M3 50 0 := by rw [eM4]; exact nu_i (by omega)
  have g4_1 : M4 50 1 = M3 50 1 := by rw [eM4]; exact nu_i (by omega)
  have g4_2 : M4 50 2 = M3 50 2 := by rw [eM4]; exact nu_i (by omega)
  have g4_3 : M4 50 3 = 0 := by rw [eM4]; exact nu_s _ _ _ _
  refine n_aload_n c_36_20 rfl ?_
  refine n_iload_n c_36_21 rfl ?_
  refine n_v1I c_36_22 rfl sc_4.n rfl rfl rfl rfl (power3_2  hS4 ) ?_
  intro z5 M6 hP7
  obtain ⟨eM, f7⟩ := hP7
  subst eM
  obtain rfl : z5 = 8 := by omega
  refine n_istore (L2 := [some (2, 50), some (0, 3), some (0, s), some (2, 4), some (0, 8), none]) c_36_25 rfl rfl ?_
  refine n_iconst c_36_27 ?_
  refine n_istore (L2 := [some (2, 50), some (0, 3), some (0, s), some (2, 4), some (0, 8), some (0, 0)]) c_36_28 rfl rfl ?_
  refine n_fg (le_s (le_s (le_s (le_s (le_s (le_s le_0)))))) ?_
  exact (takeS3_2_c hS hs 50).1 _ _ M4 hS4 (by omega) (by omega) (by omega)

set_option maxHeartbeats 4000000 in
theorem takeS_2 {xs : List Int32} {e : Nat} {ac : Int} {M0 M : nM} {k s : Int} (hS : Sf 2 ac M0 M) (hk : 0 ≤ k ∧ k ≤ 3) (hs : -2147483648 ≤ s ∧ s ≤ 2147483647) : nW xs (e + 1) 36 0 [some (2, 50), some (0, k), some (0, s), some (2, 4), none, none] [] M (nPV fun M1 => Sf 2 ac M0 M1) := by
  rcases (show k = 0 ∨ k = 1 ∨ k = 2 ∨ k = 3 by omega) with rfl | rfl | rfl | rfl
  · exact n_post (takeS0_2 hS (by omega)) (fun w M1 h => h)
  · exact n_post (takeS1_2 hS (by omega)) (fun w M1 h => h)
  · exact n_post (takeS2_2 hS (by omega)) (fun w M1 h => h)
  · exact n_post (takeS3_2 hS (by omega)) (fun w M1 h => h)

set_option maxHeartbeats 4000000 in
theorem tried_2 {xs : List Int32} {e : Nat} {ac : Int} {M0 M : nM} {q a n : Int} (hS : Sf 2 ac M0 M) (hq : LawAt q) (ha : -2147483648 ≤ a ∧ a ≤ 2147483647) (hn : -2147483648 ≤ n ∧ n ≤ 2147483647) : nW xs (e + 1) 41 0 [some (2, q), some (0, a), some (0, n)] [] M (nPI fun z M1 => M = M1 ∧ (0 ≤ z ∧ z ≤ 27)) := by
  have hd : (2 : Int) = 2 ∨ (2 : Int) = 3 := by decide
  have hac := hS.2.2.2.2
  refine n_iload_n c_41_0 rfl ?_
  refine n_iload_n c_41_1 rfl ?_
  refine n_if2_lt c_41_2 (by omega) (by omega) ?_ ?_
  · intro h1
    refine n_aload_n c_41_12 rfl ?_
    refine n_getV (bi := 3) c_41_13 hq.c0.1.n rfl rfl rfl (t_law hS hq).2.2.2 ?_
    intro z2 ez2 f3
    refine n_iconst c_41_16 ?_
    refine n_s2I c_41_17 rfl rfl rfl rfl (imin_2 (x := z2) (y := 1) hS (by omega) (by omega)) ?_
    intro z4 M5 hP6
    obtain ⟨eM, f6, f6p0⟩ := hP6
    subst eM
    exact n_rI c_41_20 rfl ⟨rfl, by omega⟩
  · intro h7
    refine n_aload_n c_41_5 rfl ?_
    refine n_getV (bi := 3) c_41_6 hq.c0.1.n rfl rfl rfl (t_law hS hq).2.2.2 ?_
    intro z8 ez8 f9
    refine n_goto c_41_9 ?_
    exact n_rI c_41_20 rfl ⟨rfl, by omega⟩

set_option maxHeartbeats 4000000 in
theorem hasAllRows_2 {xs : List Int32} {e : Nat} {ac : Int} {M0 M : nM} {q : Int} (hS : Sf 2 ac M0 M) (hq : LawAt q) : nW xs (e + 1) 37 0 [some (2, q), some (2, 4)] [] M (nPI fun z M1 => M = M1 ∧ (0 ≤ z ∧ z ≤ 1)) := by
  have hd : (2 : Int) = 2 ∨ (2 : Int) = 3 := by decide
  have hac := hS.2.2.2.2
  refine n_aload_n c_37_0 rfl ?_
  refine n_getV (bi := 3) c_37_1 hq.c0.1.n rfl rfl rfl (t_law hS hq).2.2.2 ?_
  intro z1 ez1 f2
  refine n_aload_n c_37_4 rfl ?_
  refine n_aload_n c_37_5 rfl ?_
  refine n_getV (bi := 0) c_37_6 hq.c0.1.n rfl rfl rfl (t_law hS hq).1 ?_
  intro z3 ez3 f4
  refine n_v1I c_37_9 rfl sc_4.n rfl rfl rfl rfl (powerU_2 (n := z3) hS (by omega)) ?_
  intro z5 M6 hP7
  obtain ⟨eM, f7⟩ := hP7
  subst eM
  refine n_if2_ne c_37_12 (by omega) (by omega) ?_ ?_
  · intro h8
    refine n_iconst c_37_19 ?_
    exact n_rZ c_37_20 rfl (by omega) ⟨rfl, by omega⟩
  · intro h9
    refine n_iconst c_37_15 ?_
    refine n_goto c_37_16 ?_
    exact n_rZ c_37_20 rfl (by omega) ⟨rfl, by omega⟩

set_option maxHeartbeats 4000000 in
theorem isKeptBy_2_c {xs : List Int32} {e : Nat} {ac : Int} {M0 M : nM} {q p : Int} (hS : Sf 2 ac M0 M) (hq : LawAt q) (hp : ActAt p) (hpl : p < 55 + 3 * ac) : ∀ nn : Nat, (∀ (x4 x5 x6 : Int) (M : nM), Sf 2 ac M0 M → (0 ≤ x4 ∧ x4 ≤ 27) → (0 ≤ x5 ∧ x5 ≤ 27) → (0 ≤ x6 ∧ x6 ≤ 27) → (27 - x6) * 871 + 871 < (nn : Int) → nW xs (e + 2) 38 25 [some (2, q), some (2, p), some (2, 4), some (2, 52), some (0, x4), some (0, x5), some (0, x6), none, none] [] M (nPI fun z M1 => Sf 2 ac M0 M1 ∧ (0 ≤ z ∧ z ≤ 1))) ∧ (∀ (x4 x5 x6 x7 : Int) (M : nM), Sf 2 ac M0 M → (1 ≤ x4 ∧ x4 ≤ 27) → (0 ≤ x5 ∧ x5 ≤ 27) → (0 ≤ x6 ∧ x6 ≤ 26) → (0 ≤ x7 ∧ x7 ≤ 27) → (27 - x6) * 871 + (27 - x7) * 30 + 30 < (nn : Int) → nW xs (e + 2) 38 35 [some (2, q), some (2, p), some (2, 4), some (2, 52), some (0, x4), some (0, x5), some (0, x6), some (0, x7), none] [] M (nPI fun z M1 => Sf 2 ac M0 M1 ∧ (0 ≤ z ∧ z ≤ 1))) ∧ (∀ (x4 x5 x6 x7 x8 : Int) (M : nM), Sf 2 ac M0 M → (1 ≤ x4 ∧ x4 ≤ 27) → (1 ≤ x5 ∧ x5 ≤ 27) → (0 ≤ x6 ∧ x6 ≤ 26) → (0 ≤ x7 ∧ x7 ≤ 26) → (0 ≤ x8 ∧ x8 ≤ 27) → (27 - x6) * 871 + (27 - x7) * 30 + (27 - x8) * 1 + 1 < (nn : Int) → nW xs (e + 2) 38 68 [some (2, q), some (2, p), some (2, 4), some (2, 52), some (0, x4), some (0, x5), some (0, x6), some (0, x7), some (0, x8)] [] M (nPI fun z M1 => Sf 2 ac M0 M1 ∧ (0 ≤ z ∧ z ≤ 1))) := by
  have hd : (2 : Int) = 2 ∨ (2 : Int) = 3 := by decide
  have hac := hS.2.2.2.2
  intro nn
  induction nn with
  | zero => refine ⟨?_, ?_, ?_⟩ <;> (intros; omega)
  | succ nn ih =>
    refine ⟨?_, ?_, ?_⟩
    · intro x4 x5 x6 M hS k4 k5 k6 hnn
      refine n_iload c_38_25 rfl ?_
      refine n_iload c_38_27 rfl ?_
      refine n_if2_ge c_38_29 (by omega) (by omega) ?_ ?_
      · intro h1
        refine n_iconst c_38_119 ?_
        exact n_rZ c_38_120 rfl (by omega) ⟨hS, by omega⟩
      · intro h2
        refine n_iconst c_38_32 ?_
        refine n_istore (L2 := [some (2, q), some (2, p), some (2, 4), some (2, 52), some (0, x4), some (0, x5), some (0, x6), some (0, 0), none]) c_38_33 rfl rfl ?_
        refine n_fg (le_s (le_s (le_s (le_s (le_s (le_s (le_s (le_s (le_n le_0))))))))) ?_
        exact ih.2.1 _ _ _ _ M hS (by omega) (by omega) (by omega) (by omega) (by omega)
    · intro x4 x5 x6 x7 M hS k4 k5 k6 k7 hnn
      refine n_iload c_38_35 rfl ?_
      refine n_iload c_38_37 rfl ?_
      refine n_if2_ge c_38_39 (by omega) (by omega) ?_ ?_
      · intro h1
        refine n_iinc (L2 := [some (2, q), some (2, p), some (2, 4), some (2, 52), some (0, x4), some (0, x5), some (0, (x6 + 1)), some (0, x7), none]) c_38_113 rfl rfl rfl ?_
        refine n_goto c_38_116 ?_
        refine n_fg (le_s (le_s (le_s (le_s (le_s (le_s (le_s (le_n (le_n le_0))))))))) ?_
        exact ih.1 _ _ _ M hS (by omega) (by omega) (by omega) (by omega)
      · intro h2
        refine n_aload_n c_38_42 rfl ?_
        refine n_aload_n c_38_43 rfl ?_
        refine n_aload_n c_38_44 rfl ?_
        refine n_getR c_38_45 hp.c0.1.n rfl rfl rfl hp.r.1 ?_
        refine n_aload_n c_38_48 rfl ?_
        refine n_getR c_38_49 hq.c0.1.n rfl rfl rfl hq.r ?_
        refine n_iload c_38_52 rfl ?_
        refine n_ialoadV c_38_54 hq.c0.2.n rfl rfl rfl (by omega) (t_lawr hS hq (by omega)) ?_
        intro z3 ez3 f4
        refine n_aload_n c_38_55 rfl ?_
        refine n_getR c_38_56 hq.c0.1.n rfl rfl rfl hq.r ?_
        refine n_iload c_38_59 rfl ?_
        refine n_ialoadV c_38_61 hq.c0.2.n rfl rfl rfl (by omega) (t_lawr hS hq (by omega)) ?_
        intro z5 ez5 f6
        refine n_v4V c_38_62 rfl sc_52.n rfl rfl rfl rfl (fillLT_2 (p := p) (i := z3) (j := z5) hS hp hpl (by omega) (by omega)) ?_
        intro  M7 hP8
        have hS7 := hP8
        refine n_iconst c_38_65 ?_
        refine n_istore (L2 := [some (2, q), some (2, p), some (2, 4), some (2, 52), some (0, x4), some (0, x5), some (0, x6), some (0, x7), some (0, 0)]) c_38_66 rfl rfl ?_
        refine n_fg (le_s (le_s (le_s (le_s (le_s (le_s (le_s (le_s (le_s le_0))))))))) ?_
        exact ih.2.2 _ _ _ _ _ M7 hS7 (by omega) (by omega) (by omega) (by omega) (by omega) (by omega)
    · intro x4 x5 x6 x7 x8 M hS k4 k5 k6 k7 k8 hnn
      refine n_iload c_38_68 rfl ?_
      refine n_aload_n c_38_70 rfl ?_
      refine n_getV (bi := 3) c_38_71 hq.c0.1.n rfl rfl rfl (t_law hS hq).2.2.2 ?_
      intro z1 ez1 f2
      refine n_if2_ge c_38_74 (by omega) (by omega) ?_ ?_
      · intro h3
        refine n_iinc (L2 := [some (2, q), some (2, p), some (2, 4), some (2, 52), some (0, x4), some (0, x5), some (0, x6), some (0, (x7 + 1)), some (0, x8)]) c_38_107 rfl rfl rfl ?_
        refine n_goto c_38_110 ?_
        refine n_fg (le_s (le_s (le_s (le_s (le_s (le_s (le_s (le_s (le_n le_0))))))))) ?_
        exact ih.2.1 _ _ _ _ M hS (by omega) (by omega) (by omega) (by omega) (by omega)
      · intro h4
        refine n_aload_n c_38_77 rfl ?_
        refine n_getV (bi := 2) c_38_78 hq.c0.1.n rfl rfl rfl (t_law hS hq).2.2.1 ?_
        intro z5 ez5 f6
        refine n_aload_n c_38_81 rfl ?_
        refine n_getR c_38_82 sc_52.n rfl rfl rfl r_52_0 ?_
        refine n_aload_n c_38_85 rfl ?_
        refine n_getR c_38_86 hq.c0.1.n rfl rfl rfl hq.r ?_
        refine n_iload c_38_89 rfl ?_
        refine n_ialoadV c_38_91 hq.c0.2.n rfl rfl rfl (by omega) (t_lawr hS hq (by omega)) ?_
        intro z7 ez7 f8
        refine n_ialoadV c_38_92 sc_53.n rfl rfl rfl (by omega) (t_53 hS (by omega)) ?_
        intro z9 ez9 f10
        refine n_i_ishr c_38_93 rfl ?_
        have f11 := n_shr_r z5 z9
        generalize (n_shr z5 z9) = z12 at f11 ⊢
        refine n_iconst c_38_94 ?_
        refine n_i_iand c_38_95 rfl ?_
        have f13 := n_and_y (x := z12) (y := 1) (by omega)
        generalize (n_and z12 1) = z14 at f13 ⊢
        refine n_if0_ne c_38_96 (by omega) ?_ ?_
        · intro h15
          refine n_iinc (L2 := [some (2, q), some (2, p), some (2, 4), some (2, 52), some (0, x4), some (0, x5), some (0, x6), some (0, x7), some (0, (x8 + 1))]) c_38_101 rfl rfl rfl ?_
          refine n_goto c_38_104 ?_
          refine n_fg (le_s (le_s (le_s (le_s (le_s (le_s (le_s (le_s (le_s le_0))))))))) ?_
          exact ih.2.2 _ _ _ _ _ M hS (by omega) (by omega) (by omega) (by omega) (by omega) (by omega)
        · intro h16
          refine n_iconst c_38_99 ?_
          exact n_rZ c_38_100 rfl (by omega) ⟨hS, by omega⟩
set_option maxHeartbeats 4000000 in
theorem isKeptBy_2 {xs : List Int32} {e : Nat} {ac : Int} {M0 M : nM} {q p : Int} (hS : Sf 2 ac M0 M) (hq : LawAt q) (hp : ActAt p) (hpl : p < 55 + 3 * ac) : nW xs (e + 2) 38 0 [some (2, q), some (2, p), some (2, 4), some (2, 52), none, none, none, none, none] [] M (nPI fun z M1 => Sf 2 ac M0 M1 ∧ (0 ≤ z ∧ z ≤ 1)) := by
  have hd : (2 : Int) = 2 ∨ (2 : Int) = 3 := by decide
  have hac := hS.2.2.2.2
  refine n_aload_n c_38_0 rfl ?_
  refine n_aload_n c_38_1 rfl ?_
  refine n_getV (bi := 0) c_38_2 hp.c0.1.n rfl rfl rfl (t_actl hS hp hpl).1 ?_
  intro z1 ez1 f2
  refine n_iconst c_38_5 ?_
  refine n_v2I c_38_6 rfl hq.c0.1.n rfl rfl rfl rfl (tried_2 (q := q) (a := z1) (n := 3) hS hq (by omega) (by omega)) ?_
  intro z3 M4 hP5
  obtain ⟨eM, f5⟩ := hP5
  subst eM
  refine n_istore (L2 := [some (2, q), some (2, p), some (2, 4), some (2, 52), some (0, z3), none, none, none, none]) c_38_9 rfl rfl ?_
  refine n_aload_n c_38_11 rfl ?_
  refine n_aload_n c_38_12 rfl ?_
  refine n_getV (bi := 0) c_38_13 hp.c0.1.n rfl rfl rfl (t_actl hS hp hpl).1 ?_
  intro z6 ez6 f7
  refine n_iconst c_38_16 ?_
  refine n_v2I c_38_17 rfl hq.c0.1.n rfl rfl rfl rfl (tried_2 (q := q) (a := z6) (n := 2) hS hq (by omega) (by omega)) ?_
  intro z8 M9 hP10
  obtain ⟨eM, f10⟩ := hP10
  subst eM
  refine n_istore (L2 := [some (2, q), some (2, p), some (2, 4), some (2, 52), some (0, z3), some (0, z8), none, none, none]) c_38_20 rfl rfl ?_
  refine n_iconst c_38_22 ?_
  refine n_istore (L2 := [some (2, q), some (2, p), some (2, 4), some (2, 52), some (0, z3), some (0, z8), some (0, 0), none, none]) c_38_23 rfl rfl ?_
  refine n_fg (le_s (le_s (le_s (le_s (le_s (le_s (le_s (le_n (le_n le_0))))))))) ?_
  exact (isKeptBy_2_c hS hq hp hpl 50528).1 _ _ _ M hS (by omega) (by omega) (by omega) (by omega)

set_option maxHeartbeats 4000000 in
theorem growsBy_2_c {xs : List Int32} {e : Nat} {ac : Int} {M0 M : nM} {p : Int} (hS : Sf 2 ac M0 M) (hp : ActAt p) (hpl : p < 55 + 3 * ac) : ∀ nn : Nat, (∀ (x4 x5 x6 x7 : Int) (M : nM), Sf 2 ac M0 M → (0 ≤ x4 ∧ x4 ≤ 27) → (0 ≤ x5 ∧ x5 ≤ 27) → (0 ≤ x6 ∧ x6 ≤ 27) → (0 ≤ x7 ∧ x7 ≤ 27) → (27 - x7) * 871 + 871 < (nn : Int) → nW xs (e + 2) 39 31 [some (2, 50), some (2, p), some (2, 4), some (2, 52), some (0, x4), some (0, x5), some (0, x6), some (0, x7), none, none] [] M (nPI fun z M1 => Sf 2 ac M0 M1 ∧ (0 ≤ z ∧ z ≤ 1))) ∧ (∀ (x4 x5 x6 x7 x8 : Int) (M : nM), Sf 2 ac M0 M → (0 ≤ x4 ∧ x4 ≤ 27) → (1 ≤ x5 ∧ x5 ≤ 27) → (0 ≤ x6 ∧ x6 ≤ 27) → (0 ≤ x7 ∧ x7 ≤ 26) → (0 ≤ x8 ∧ x8 ≤ 27) → (27 - x7) * 871 + (27 - x8) * 30 + 30 < (nn : Int) → nW xs (e + 2) 39 41 [some (2, 50), some (2, p), some (2, 4), some (2, 52), some (0, x4), some (0, x5), some (0, x6), some (0, x7), some (0, x8), none] [] M (nPI fun z M1 => Sf 2 ac M0 M1 ∧ (0 ≤ z ∧ z ≤ 1))) ∧ (∀ (x4 x5 x6 x7 x8 x9 : Int) (M : nM), Sf 2 ac M0 M → (0 ≤ x4 ∧ x4 ≤ 27) → (1 ≤ x5 ∧ x5 ≤ 27) → (1 ≤ x6 ∧ x6 ≤ 27) → (0 ≤ x7 ∧ x7 ≤ 26) → (0 ≤ x8 ∧ x8 ≤ 26) → (0 ≤ x9 ∧ x9 ≤ 27) → (27 - x7) * 871 + (27 - x8) * 30 + (27 - x9) * 1 + 1 < (nn : Int) → nW xs (e + 2) 39 74 [some (2, 50), some (2, p), some (2, 4), some (2, 52), some (0, x4), some (0, x5), some (0, x6), some (0, x7), some (0, x8), some (0, x9)] [] M (nPI fun z M1 => Sf 2 ac M0 M1 ∧ (0 ≤ z ∧ z ≤ 1))) := by
  have hd : (2 : Int) = 2 ∨ (2 : Int) = 3 := by decide
  have hac := hS.2.2.2.2
  intro nn
  induction nn with
  | zero => refine ⟨?_, ?_, ?_⟩ <;> (intros; omega)
  | succ nn ih =>
    refine ⟨?_, ?_, ?_⟩
    · intro x4 x5 x6 x7 M hS k4 k5 k6 k7 hnn
      refine n_iload c_39_31 rfl ?_
      refine n_iload c_39_33 rfl ?_
      refine n_if2_ge c_39_35 (by omega) (by omega) ?_ ?_
      · intro h1
        refine n_aload_n c_39_115 rfl ?_
        refine n_getV (bi := 3) c_39_116 law50.c0.1.n rfl rfl rfl (t_law hS law50).2.2.2 ?_
        intro z2 ez2 f3
        refine n_iload c_39_119 rfl ?_
        refine n_if2_le c_39_121 (by omega) (by omega) ?_ ?_
        · intro h4
          refine n_iconst c_39_128 ?_
          exact n_rZ c_39_129 rfl (by omega) ⟨hS, by omega⟩
        · intro h5
          refine n_iconst c_39_124 ?_
          refine n_goto c_39_125 ?_
          exact n_rZ c_39_129 rfl (by omega) ⟨hS, by omega⟩
      · intro h6
        refine n_iconst c_39_38 ?_
        refine n_istore (L2 := [some (2, 50), some (2, p), some (2, 4), some (2, 52), some (0, x4), some (0, x5), some (0, x6), some (0, x7), some (0, 0), none]) c_39_39 rfl rfl ?_
        refine n_fg (le_s (le_s (le_s (le_s (le_s (le_s (le_s (le_s (le_s (le_n le_0)))))))))) ?_
        exact ih.2.1 _ _ _ _ _ M hS (by omega) (by omega) (by omega) (by omega) (by omega) (by omega)
    · intro x4 x5 x6 x7 x8 M hS k4 k5 k6 k7 k8 hnn
      refine n_iload c_39_41 rfl ?_
      refine n_iload c_39_43 rfl ?_
      refine n_if2_ge c_39_45 (by omega) (by omega) ?_ ?_
      · intro h1
        refine n_iinc (L2 := [some (2, 50), some (2, p), some (2, 4), some (2, 52), some (0, x4), some (0, x5), some (0, x6), some (0, (x7 + 1)), some (0, x8), none]) c_39_109 rfl rfl rfl ?_
        refine n_goto c_39_112 ?_
        refine n_fg (le_s (le_s (le_s (le_s (le_s (le_s (le_s (le_s (le_n (le_n le_0)))))))))) ?_
        exact ih.1 _ _ _ _ M hS (by omega) (by omega) (by omega) (by omega) (by omega)
      · intro h2
        refine n_aload_n c_39_48 rfl ?_
        refine n_aload_n c_39_49 rfl ?_
        refine n_aload_n c_39_50 rfl ?_
        refine n_getR c_39_51 hp.c0.1.n rfl rfl rfl hp.r.1 ?_
        refine n_aload_n c_39_54 rfl ?_
        refine n_getR c_39_55 law50.c0.1.n rfl rfl rfl law50.r ?_
        refine n_iload c_39_58 rfl ?_
        refine n_ialoadV c_39_60 law50.c0.2.n rfl rfl rfl (by omega) (t_lawr hS law50 (by omega)) ?_
        intro z3 ez3 f4
        refine n_aload_n c_39_61 rfl ?_
        refine n_getR c_39_62 law50.c0.1.n rfl rfl rfl law50.r ?_
        refine n_iload c_39_65 rfl ?_
        refine n_ialoadV c_39_67 law50.c0.2.n rfl rfl rfl (by omega) (t_lawr hS law50 (by omega)) ?_
        intro z5 ez5 f6
        refine n_v4V c_39_68 rfl sc_52.n rfl rfl rfl rfl (fillLT_2 (p := p) (i := z3) (j := z5) hS hp hpl (by omega) (by omega)) ?_
        intro  M7 hP8
        have hS7 := hP8
        refine n_iconst c_39_71 ?_
        refine n_istore (L2 := [some (2, 50), some (2, p), some (2, 4), some (2, 52), some (0, x4), some (0, x5), some (0, x6), some (0, x7), some (0, x8), some (0, 0)]) c_39_72 rfl rfl ?_
        refine n_fg (le_s (le_s (le_s (le_s (le_s (le_s (le_s (le_s (le_s (le_s le_0)))))))))) ?_
        exact ih.2.2 _ _ _ _ _ _ M7 hS7 (by omega) (by omega) (by omega) (by omega) (by omega) (by omega) (by omega)
    · intro x4 x5 x6 x7 x8 x9 M hS k4 k5 k6 k7 k8 k9 hnn
      refine n_iload c_39_74 rfl ?_
      refine n_iload c_39_76 rfl ?_
      refine n_if2_ge c_39_78 (by omega) (by omega) ?_ ?_
      · intro h1
        refine n_iinc (L2 := [some (2, 50), some (2, p), some (2, 4), some (2, 52), some (0, x4), some (0, x5), some (0, x6), some (0, x7), some (0, (x8 + 1)), some (0, x9)]) c_39_103 rfl rfl rfl ?_
        refine n_goto c_39_106 ?_
        refine n_fg (le_s (le_s (le_s (le_s (le_s (le_s (le_s (le_s (le_s (le_n le_0)))))))))) ?_
        exact ih.2.1 _ _ _ _ _ M hS (by omega) (by omega) (by omega) (by omega) (by omega) (by omega)
      · intro h2
        refine n_aload_n c_39_81 rfl ?_
        refine n_aload_n c_39_82 rfl ?_
        refine n_getR c_39_83 sc_52.n rfl rfl rfl r_52_0 ?_
        refine n_aload_n c_39_86 rfl ?_
        refine n_getR c_39_87 law50.c0.1.n rfl rfl rfl law50.r ?_
        refine n_iload c_39_90 rfl ?_
        refine n_ialoadV c_39_92 law50.c0.2.n rfl rfl rfl (by omega) (t_lawr hS law50 (by omega)) ?_
        intro z3 ez3 f4
        refine n_ialoadV c_39_93 sc_53.n rfl rfl rfl (by omega) (t_53 hS (by omega)) ?_
        intro z5 ez5 f6
        refine n_v1V c_39_94 rfl law50.c0.1.n rfl rfl rfl rfl (addWide_2 (r := z5) hS (by omega)) ?_
        intro  M7 hP8
        have hS7 := hP8
        refine n_iinc (L2 := [some (2, 50), some (2, p), some (2, 4), some (2, 52), some (0, x4), some (0, x5), some (0, x6), some (0, x7), some (0, x8), some (0, (x9 + 1))]) c_39_97 rfl rfl rfl ?_
        refine n_goto c_39_100 ?_
        refine n_fg (le_s (le_s (le_s (le_s (le_s (le_s (le_s (le_s (le_s (le_s le_0)))))))))) ?_
        exact ih.2.2 _ _ _ _ _ _ M7 hS7 (by omega) (by omega) (by omega) (by omega) (by omega) (by omega) (by omega)
set_option maxHeartbeats 4000000 in
theorem growsBy_2 {xs : List Int32} {e : Nat} {ac : Int} {M0 M : nM} {p : Int} (hS : Sf 2 ac M0 M) (hp : ActAt p) (hpl : p < 55 + 3 * ac) : nW xs (e + 2) 39 0 [some (2, 50), some (2, p), some (2, 4), some (2, 52), none, none, none, none, none, none] [] M (nPI fun z M1 => Sf 2 ac M0 M1 ∧ (0 ≤ z ∧ z ≤ 1)) := by
  have hd : (2 : Int) = 2 ∨ (2 : Int) = 3 := by decide
  have hac := hS.2.2.2.2
  refine n_aload_n c_39_0 rfl ?_
  refine n_getV (bi := 3) c_39_1 law50.c0.1.n rfl rfl rfl (t_law hS law50).2.2.2 ?_
  intro z1 ez1 f2
  refine n_istore (L2 := [some (2, 50), some (2, p), some (2, 4), some (2, 52), some (0, z1), none, none, none, none, none]) c_39_4 rfl rfl ?_
  refine n_aload_n c_39_6 rfl ?_
  refine n_aload_n c_39_7 rfl ?_
  refine n_getV (bi := 0) c_39_8 hp.c0.1.n rfl rfl rfl (t_actl hS hp hpl).1 ?_
  intro z3 ez3 f4
  refine n_iconst c_39_11 ?_
  refine n_v2I c_39_12 rfl law50.c0.1.n rfl rfl rfl rfl (tried_2 (q := 50) (a := z3) (n := 3) hS law50 (by omega) (by omega)) ?_
  intro z5 M6 hP7
  obtain ⟨eM, f7⟩ := hP7
  subst eM
  refine n_istore (L2 := [some (2, 50), some (2, p), some (2, 4), some (2, 52), some (0, z1), some (0, z5), none, none, none, none]) c_39_15 rfl rfl ?_
  refine n_aload_n c_39_17 rfl ?_
  refine n_aload_n c_39_18 rfl ?_
  refine n_getV (bi := 0) c_39_19 hp.c0.1.n rfl rfl rfl (t_actl hS hp hpl).1 ?_
  intro z8 ez8 f9
  refine n_iconst c_39_22 ?_
  refine n_v2I c_39_23 rfl law50.c0.1.n rfl rfl rfl rfl (tried_2 (q := 50) (a := z8) (n := 2) hS law50 (by omega) (by omega)) ?_
  intro z10 M11 hP12
  obtain ⟨eM, f12⟩ := hP12
  subst eM
  refine n_istore (L2 := [some (2, 50), some (2, p), some (2, 4), some (2, 52), some (0, z1), some (0, z5), some (0, z10), none, none, none]) c_39_26 rfl rfl ?_
  refine n_iconst c_39_28 ?_
  refine n_istore (L2 := [some (2, 50), some (2, p), some (2, 4), some (2, 52), some (0, z1), some (0, z5), some (0, z10), some (0, 0), none, none]) c_39_29 rfl rfl ?_
  refine n_fg (le_s (le_s (le_s (le_s (le_s (le_s (le_s (le_s (le_n (le_n le_0)))))))))) ?_
  exact (growsBy_2_c hS hp hpl 50528).1 _ _ _ _ M hS (by omega) (by omega) (by omega) (by omega) (by omega)

set_option maxHeartbeats 4000000 in
theorem narrowSet_2_c {xs : List Int32} {e : Nat} {ac : Int} {M0 M : nM} (hS : Sf 2 ac M0 M)  : ∀ nn : Nat, (∀ (x2 x3 x4 : Int), (0 ≤ x2 ∧ x2 ≤ 255) → (1 ≤ x3 ∧ x3 ≤ 8) → (0 ≤ x4 ∧ x4 ≤ 8) → (8 - x4) * 2 + 2 < (nn : Int) → nW xs (e + 1) 40 14 [some (2, 50), some (2, 4), some (0, x2), some (0, x3), some (0, x4)] [] M (nPI fun z M1 => M = M1 ∧ (-2147483648 ≤ z ∧ z ≤ 2147483647))) ∧ (∀ (x2 x3 x4 : Int), (0 ≤ x2 ∧ x2 ≤ 255) → (1 ≤ x3 ∧ x3 ≤ 8) → (0 ≤ x4 ∧ x4 ≤ 7) → (8 - x4) * 2 + 1 < (nn : Int) → nW xs (e + 1) 40 47 [some (2, 50), some (2, 4), some (0, x2), some (0, x3), some (0, x4)] [] M (nPI fun z M1 => M = M1 ∧ (-2147483648 ≤ z ∧ z ≤ 2147483647))) := by
  have hd : (2 : Int) = 2 ∨ (2 : Int) = 3 := by decide
  have hac := hS.2.2.2.2
  intro nn
  induction nn with
  | zero => refine ⟨?_, ?_⟩ <;> (intros; omega)
  | succ nn ih =>
    refine ⟨?_, ?_⟩
    · intro x2 x3 x4 k2 k3 k4 hnn
      refine n_iload c_40_14 rfl ?_
      refine n_iload_n c_40_16 rfl ?_
      refine n_if2_ge c_40_17 (by omega) (by omega) ?_ ?_
      · intro h1
        refine n_iload_n c_40_53 rfl ?_
        exact n_rI c_40_54 rfl ⟨rfl, by omega⟩
      · intro h2
        refine n_aload_n c_40_20 rfl ?_
        refine n_getV (bi := 2) c_40_21 law50.c0.1.n rfl rfl rfl (t_law hS law50).2.2.1 ?_
        intro z3 ez3 f4
        refine n_aload_n c_40_24 rfl ?_
        refine n_iload c_40_25 rfl ?_
        refine n_aload_n c_40_27 rfl ?_
        refine n_getV (bi := 0) c_40_28 law50.c0.1.n rfl rfl rfl (t_law hS law50).1 ?_
        intro z5 ez5 f6
        refine n_v2I c_40_31 rfl sc_4.n rfl rfl rfl rfl (widenW_2 (n := x4) (p := z5) hS (by omega) (by omega)) ?_
        intro z7 M8 hP9
        obtain ⟨eM, f9⟩ := hP9
        subst eM
        refine n_i_ishr c_40_34 rfl ?_
        have f10 := n_shr_r z3 z7
        generalize (n_shr z3 z7) = z11 at f10 ⊢
        refine n_iconst c_40_35 ?_
        refine n_i_iand c_40_36 rfl ?_
        have f12 := n_and_y (x := z11) (y := 1) (by omega)
        generalize (n_and z11 1) = z13 at f12 ⊢
        refine n_if0_eq c_40_37 (by omega) ?_ ?_
        · intro h14
          refine n_fg (le_s (le_s (le_s (le_s (le_s le_0))))) ?_
          exact ih.2 _ _ _ (by omega) (by omega) (by omega) (by omega)
        · intro h15
          refine n_iload_n c_40_40 rfl ?_
          refine n_iconst c_40_41 ?_
          refine n_iload c_40_42 rfl ?_
          refine n_i_ishl c_40_44 rfl ?_
          have f16 := n_shl_1 (y := x4) (a := 0) (b := 7) (by decide) (by omega)
          generalize (n_shl 1 x4) = z17 at f16 ⊢
          refine n_i_ior c_40_45 rfl ?_
          have f18 := n_or_k (x := x2) (y := z17) (n := 8) (by decide) (by omega) (by omega)
          generalize (n_or x2 z17) = z19 at f18 ⊢
          refine n_istore_n (L2 := [some (2, 50), some (2, 4), some (0, z19), some (0, x3), some (0, x4)]) c_40_46 rfl rfl ?_
          refine n_fg (le_s (le_s (le_s (le_s (le_s le_0))))) ?_
          exact ih.2 _ _ _ (by omega) (by omega) (by omega) (by omega)
    · intro x2 x3 x4 k2 k3 k4 hnn
      refine n_iinc (L2 := [some (2, 50), some (2, 4), some (0, x2), some (0, x3), some (0, (x4 + 1))]) c_40_47 rfl rfl rfl ?_
      refine n_goto c_40_50 ?_
      refine n_fg (le_s (le_s (le_s (le_s (le_s le_0))))) ?_
      exact ih.1 _ _ _ (by omega) (by omega) (by omega) (by omega)
set_option maxHeartbeats 4000000 in
theorem narrowSet_2 {xs : List Int32} {e : Nat} {ac : Int} {M0 M : nM} (hS : Sf 2 ac M0 M)  : nW xs (e + 1) 40 0 [some (2, 50), some (2, 4), none, none, none] [] M (nPI fun z M1 => M = M1 ∧ (-2147483648 ≤ z ∧ z ≤ 2147483647)) := by
  have hd : (2 : Int) = 2 ∨ (2 : Int) = 3 := by decide
  have hac := hS.2.2.2.2
  refine n_iconst c_40_0 ?_
  refine n_istore_n (L2 := [some (2, 50), some (2, 4), some (0, 0), none, none]) c_40_1 rfl rfl ?_
  refine n_aload_n c_40_2 rfl ?_
  refine n_aload_n c_40_3 rfl ?_
  refine n_getV (bi := 0) c_40_4 law50.c0.1.n rfl rfl rfl (t_law hS law50).1 ?_
  intro z1 ez1 f2
  refine n_v1I c_40_7 rfl sc_4.n rfl rfl rfl rfl (powerU_2 (n := z1) hS (by omega)) ?_
  intro z3 M4 hP5
  obtain ⟨eM, f5⟩ := hP5
  subst eM
  refine n_istore_n (L2 := [some (2, 50), some (2, 4), some (0, 0), some (0, z3), none]) c_40_10 rfl rfl ?_
  refine n_iconst c_40_11 ?_
  refine n_istore (L2 := [some (2, 50), some (2, 4), some (0, 0), some (0, z3), some (0, 0)]) c_40_12 rfl rfl ?_
  refine n_fg (le_s (le_s (le_s (le_s (le_s le_0))))) ?_
  exact (narrowSet_2_c hS  50).1 _ _ _ (by omega) (by omega) (by omega) (by omega)

set_option maxHeartbeats 4000000 in
theorem clear46_2 {xs : List Int32} {e : Nat} {ac : Int} {M0 M : nM} (hS : Sf 2 ac M0 M)  : nW xs (e + 1) 31 0 [some (2, 46)] [] M (nPV fun M1 => Sf 2 ac M0 M1) := by
  have hd : (2 : Int) = 2 ∨ (2 : Int) = 3 := by decide
  have hac := hS.2.2.2.2
  refine n_aload_n c_31_0 rfl ?_
  refine n_getR c_31_1 sc_46.n rfl rfl rfl r_46_0 ?_
  refine n_lconst (n := 0) c_31_4 rfl ?_
  refine n_s2V c_31_5 rfl rfl rfl rfl (fill47_2 (v := 0) hS (by omega)) ?_
  intro  M1 hP2
  have hS1 := hP2
  refine n_aload_n c_31_8 rfl ?_
  refine n_iconst c_31_9 ?_
  refine n_putV (bi := 1) hS1 c_31_10 sc_46.n rfl rfl rfl rfl (w_46_1 (by omega)) ?_
  intro M3 eM3 hS3
  have g3_0 : M3 46 1 = 0 := by rw [eM3]; exact nu_s _ _ _ _
  exact n_rV c_31_13 rfl hS3

set_option maxHeartbeats 4000000 in
theorem add46_2_c {xs : List Int32} {e : Nat} {ac : Int} {M0 M : nM} {n : Int} (hS : Sf 2 ac M0 M) (hn : -2147483648 ≤ n ∧ n ≤ 2147483647) : ∀ nn : Nat, (∀ (M : nM), Sf 2 ac M0 M → 1 < (nn : Int) → nW xs e 32 43 [none, none, none] [] M (nPV fun M1 => Sf 2 ac M0 M1)) := by
  have hd : (2 : Int) = 2 ∨ (2 : Int) = 3 := by decide
  have hac := hS.2.2.2.2
  intro nn
  induction nn with
  | zero => intros; omega
  | succ nn ih =>
    intro M hS hnn
    exact n_rV c_32_43 rfl hS
set_option maxHeartbeats 4000000 in
theorem add46_2 {xs : List Int32} {e : Nat} {ac : Int} {M0 M : nM} {n : Int} (hS : Sf 2 ac M0 M) (hn : -2147483648 ≤ n ∧ n ≤ 2147483647) : nW xs e 32 0 [some (2, 46), some (0, n), none] [] M (nPV fun M1 => Sf 2 ac M0 M1) := by
  have hd : (2 : Int) = 2 ∨ (2 : Int) = 3 := by decide
  have hac := hS.2.2.2.2
  refine n_iload_n c_32_0 rfl ?_
  refine n_bipush c_32_1 rfl ?_
  refine n_i_ishr c_32_3 rfl ?_
  have f1 := n_shr_r n 6
  generalize (n_shr n 6) = z2 at f1 ⊢
  refine n_istore_n (L2 := [some (2, 46), some (0, n), some (0, z2)]) c_32_4 rfl rfl ?_
  refine n_iload_n c_32_5 rfl ?_
  refine n_if0_lt c_32_6 (by omega) ?_ ?_
  · intro h3
    refine n_fg (le_n (le_n (le_n le_0))) ?_
    exact (add46_2_c hS hn 12)  M hS  (by omega)
  · intro h4
    refine n_iload_n c_32_9 rfl ?_
    refine n_aload_n c_32_10 rfl ?_
    refine n_getR c_32_11 sc_46.n rfl rfl rfl r_46_0 ?_
    refine n_alen c_32_14 sc_47.n rfl ?_
    refine n_if2_ge c_32_15 (by omega) (by omega) ?_ ?_
    · intro h5
      refine n_fg (le_n (le_n (le_n le_0))) ?_
      exact (add46_2_c hS hn 12)  M hS  (by omega)
    · intro h6
      refine n_aload_n c_32_18 rfl ?_
      refine n_getR c_32_19 sc_46.n rfl rfl rfl r_46_0 ?_
      refine n_iload_n c_32_22 rfl ?_
      refine n_dup202 c_32_23 ?_
      refine n_laloadV c_32_24 sc_47.n rfl rfl rfl (by omega) (t_47 hS (by omega)) ?_
      intro z7 ez7 f8
      refine n_lconst (n := 1) c_32_25 rfl ?_
      refine n_iload_n c_32_26 rfl ?_
      refine n_bipush c_32_27 rfl ?_
      refine n_i_iand c_32_29 rfl ?_
      have f9 := n_and_y (x := n) (y := 63) (by omega)
      generalize (n_and n 63) = z10 at f9 ⊢
      refine n_i_lshl c_32_30 rfl ?_
      have f11 := n_lshl_r 1 z10
      generalize (n_lshl 1 z10) = z12 at f11 ⊢
      refine n_i_lor c_32_31 rfl ?_
      have f13 := n_lor_r z7 z12
      generalize (n_lor z7 z12) = z14 at f13 ⊢
      refine n_lastoreV hS c_32_32 sc_47.n rfl (by omega) (w_47 (by omega) (by omega)) ?_
      intro M15 eM15 hS15
      have g15_0 : M15 47 z2 = z14 := by rw [eM15]; exact nu_s _ _ _ _
      refine n_aload_n c_32_33 rfl ?_
      refine n_dup2 c_32_34 ?_
      refine n_getV (bi := 1) c_32_35 sc_46.n rfl rfl rfl (t_46_1 hS15) ?_
      intro z16 ez16 f17
      refine n_iconst c_32_38 ?_
      refine n_iadd c_32_39 rfl ?_
      refine n_wrap ?_
      have f18 := n_wr_r (z16 + 1)
      generalize n_wr (z16 + 1) = z19 at f18 ⊢
      refine n_putV (bi := 1) hS15 c_32_40 sc_46.n rfl rfl rfl rfl (w_46_1 (by omega)) ?_
      intro M20 eM20 hS20
      have g20_0 : M20 47 z2 = M15 47 z2 := by rw [eM20]; exact nu_a (by omega)
      have g20_1 : M20 46 1 = z19 := by rw [eM20]; exact nu_s _ _ _ _
      refine n_fg (le_n (le_n (le_n le_0))) ?_
      exact (add46_2_c hS hn 12)  M20 hS20  (by omega)

set_option maxHeartbeats 4000000 in
theorem nthBit46_2_c {xs : List Int32} {e : Nat} {ac : Int} {M0 M : nM} {w n : Int} (hS : Sf 2 ac M0 M) (hw : -9223372036854775808 ≤ w ∧ w ≤ 9223372036854775807) (hn : -2147483648 ≤ n ∧ n ≤ 2147483647) : ∀ nn : Nat, (∀ (x4 x5 : Int), (-2147483648 ≤ x4 ∧ x4 ≤ 2147483647) → (0 ≤ x5 ∧ x5 ≤ 64) → (64 - x5) * 2 + 2 < (nn : Int) → nW xs e 34 6 [none, some (1, w), none, none, some (0, x4), some (0, x5)] [] M (nPI fun z M1 => M = M1 ∧ (-2147483648 ≤ z ∧ z ≤ 2147483647))) ∧ (∀ (x4 x5 : Int), (-2147483648 ≤ x4 ∧ x4 ≤ 2147483647) → (0 ≤ x5 ∧ x5 ≤ 63) → (64 - x5) * 2 + 1 < (nn : Int) → nW xs e 34 35 [none, some (1, w), none, none, some (0, x4), some (0, x5)] [] M (nPI fun z M1 => M = M1 ∧ (-2147483648 ≤ z ∧ z ≤ 2147483647))) := by
  have hd : (2 : Int) = 2 ∨ (2 : Int) = 3 := by decide
  have hac := hS.2.2.2.2
  intro nn
  induction nn with
  | zero => refine ⟨?_, ?_⟩ <;> (intros; omega)
  | succ nn ih =>
    refine ⟨?_, ?_⟩
    · intro x4 x5 k4 k5 hnn
      refine n_iload c_34_6 rfl ?_
      refine n_bipush c_34_8 rfl ?_
      refine n_if2_ge c_34_10 (by omega) (by omega) ?_ ?_
      · intro h1
        refine n_iconst c_34_41 ?_
        exact n_rI c_34_42 rfl ⟨rfl, by omega⟩
      · intro h2
        refine n_lload_n c_34_13 rfl ?_
        refine n_iload c_34_14 rfl ?_
        refine n_i_lushr c_34_16 rfl ?_
        have f3 := n_lushr_r w x5
        generalize (n_lushr w x5) = z4 at f3 ⊢
        refine n_lconst (n := 1) c_34_17 rfl ?_
        refine n_i_land c_34_18 rfl ?_
        have f5 := n_land_r z4 1
        generalize (n_land z4 1) = z6 at f5 ⊢
        refine n_lconst (n := 0) c_34_19 rfl ?_
        refine n_lcmp c_34_20 ?_
        refine n_lif_eq c_34_21 (by omega) (by omega) ?_ ?_
        · intro h7
          refine n_fg (le_n (le_s (le_n (le_n (le_s (le_s le_0)))))) ?_
          exact ih.2 _ _ (by omega) (by omega) (by omega)
        · intro h8
          refine n_iload c_34_24 rfl ?_
          refine n_if0_ne c_34_26 (by omega) ?_ ?_
          · intro h9
            refine n_iincW (L2 := [none, some (1, w), none, none, some (0, n_wr (x4 + (-1))), some (0, x5)]) c_34_32 rfl rfl ?_
            have f10 := n_wr_r (x4 + (-1))
            generalize n_wr (x4 + (-1)) = z11 at f10 ⊢
            refine n_fg (le_n (le_s (le_n (le_n (le_s (le_s le_0)))))) ?_
            exact ih.2 _ _ (by omega) (by omega) (by omega)
          · intro h12
            refine n_iload c_34_29 rfl ?_
            exact n_rI c_34_31 rfl ⟨rfl, by omega⟩
    · intro x4 x5 k4 k5 hnn
      refine n_iinc (L2 := [none, some (1, w), none, none, some (0, x4), some (0, (x5 + 1))]) c_34_35 rfl rfl rfl ?_
      refine n_goto c_34_38 ?_
      refine n_fg (le_n (le_s (le_n (le_n (le_s (le_s le_0)))))) ?_
      exact ih.1 _ _ (by omega) (by omega) (by omega)
set_option maxHeartbeats 4000000 in
theorem nthBit46_2 {xs : List Int32} {e : Nat} {ac : Int} {M0 M : nM} {w n : Int} (hS : Sf 2 ac M0 M) (hw : -9223372036854775808 ≤ w ∧ w ≤ 9223372036854775807) (hn : -2147483648 ≤ n ∧ n ≤ 2147483647) : nW xs e 34 0 [some (2, 46), some (1, w), none, some (0, n), none, none] [] M (nPI fun z M1 => M = M1 ∧ (-2147483648 ≤ z ∧ z ≤ 2147483647)) := by
  have hd : (2 : Int) = 2 ∨ (2 : Int) = 3 := by decide
  have hac := hS.2.2.2.2
  refine n_iload_n c_34_0 rfl ?_
  refine n_istore (L2 := [some (2, 46), some (1, w), none, some (0, n), some (0, n), none]) c_34_1 rfl rfl ?_
  refine n_iconst c_34_3 ?_
  refine n_istore (L2 := [some (2, 46), some (1, w), none, some (0, n), some (0, n), some (0, 0)]) c_34_4 rfl rfl ?_
  refine n_fg (le_n (le_s (le_n (le_n (le_s (le_s le_0)))))) ?_
  exact (nthBit46_2_c hS hw hn 274).1 _ _ (by omega) (by omega) (by omega)

set_option maxHeartbeats 4000000 in
theorem nth46_2_c {xs : List Int32} {e : Nat} {ac : Int} {M0 M : nM} {i : Int} (hS : Sf 2 ac M0 M) (hi : -2147483648 ≤ i ∧ i ≤ 2147483647) : ∀ nn : Nat, (311 < (nn : Int) → nW xs (e + 1) 33 12 [none, none, none, none, none] [] M (nPI fun z M1 => M = M1 ∧ (-2147483648 ≤ z ∧ z ≤ 2147483647))) ∧ (∀ (x2 x3 : Int), (-127 ≤ x2 ∧ x2 ≤ 2147483646) → (0 ≤ x3 ∧ x3 ≤ 308) → (308 - x3) * 1 + 1 < (nn : Int) → nW xs (e + 1) 33 18 [some (2, 46), none, some (0, x2), some (0, x3), none] [] M (nPI fun z M1 => M = M1 ∧ (-2147483648 ≤ z ∧ z ≤ 2147483647))) := by
  have hd : (2 : Int) = 2 ∨ (2 : Int) = 3 := by decide
  have hac := hS.2.2.2.2
  intro nn
  induction nn with
  | zero => refine ⟨?_, ?_⟩ <;> (intros; omega)
  | succ nn ih =>
    refine ⟨?_, ?_⟩
    · intro hnn
      refine n_iconst c_33_12 ?_
      exact n_rI c_33_13 rfl ⟨rfl, by omega⟩
    · intro x2 x3 k2 k3 hnn
      refine n_iload_n c_33_18 rfl ?_
      refine n_aload_n c_33_19 rfl ?_
      refine n_getR c_33_20 sc_46.n rfl rfl rfl r_46_0 ?_
      refine n_alen c_33_23 sc_47.n rfl ?_
      refine n_if2_ge c_33_24 (by omega) (by omega) ?_ ?_
      · intro h1
        refine n_iconst c_33_72 ?_
        exact n_rI c_33_73 rfl ⟨rfl, by omega⟩
      · intro h2
        refine n_aload_n c_33_27 rfl ?_
        refine n_getR c_33_28 sc_46.n rfl rfl rfl r_46_0 ?_
        refine n_iload_n c_33_31 rfl ?_
        refine n_laloadV c_33_32 sc_47.n rfl rfl rfl (by omega) (t_47 hS (by omega)) ?_
        intro z3 ez3 f4
        refine n_s1I c_33_33 rfl rfl rfl rfl (lbits_2 (x := z3) hS (by omega)) ?_
        intro z5 M6 hP7
        obtain ⟨eM, f7⟩ := hP7
        subst eM
        refine n_istore (L2 := [some (2, 46), none, some (0, x2), some (0, x3), some (0, z5)]) c_33_36 rfl rfl ?_
        refine n_iload_n c_33_38 rfl ?_
        refine n_iload c_33_39 rfl ?_
        refine n_if2_ge c_33_41 (by omega) (by omega) ?_ ?_
        · intro h8
          refine n_iload_n c_33_61 rfl ?_
          refine n_iload c_33_62 rfl ?_
          refine n_isub c_33_64 rfl ?_
          refine n_istore_n (L2 := [some (2, 46), none, some (0, (x2 - z5)), some (0, x3), some (0, z5)]) c_33_65 rfl rfl ?_
          refine n_iinc (L2 := [some (2, 46), none, some (0, (x2 - z5)), some (0, (x3 + 1)), some (0, z5)]) c_33_66 rfl rfl rfl ?_
          refine n_goto c_33_69 ?_
          refine n_fg (le_s (le_n (le_s (le_s (le_n le_0))))) ?_
          exact ih.2 _ _ (by omega) (by omega) (by omega)
        · intro h9
          refine n_iload_n c_33_44 rfl ?_
          refine n_bipush c_33_45 rfl ?_
          refine n_imul c_33_47 rfl ?_
          refine n_aload_n c_33_48 rfl ?_
          refine n_aload_n c_33_49 rfl ?_
          refine n_getR c_33_50 sc_46.n rfl rfl rfl r_46_0 ?_
          refine n_iload_n c_33_53 rfl ?_
          refine n_laloadV c_33_54 sc_47.n rfl rfl rfl (by omega) (t_47 hS (by omega)) ?_
          intro z10 ez10 f11
          refine n_iload_n c_33_55 rfl ?_
          refine n_v2I c_33_56 rfl sc_46.n rfl rfl rfl rfl (nthBit46_2 (w := z10) (n := x2) hS (by omega) (by omega)) ?_
          intro z12 M13 hP14
          obtain ⟨eM, f14⟩ := hP14
          subst eM
          refine n_iadd c_33_59 rfl ?_
          refine n_wrap ?_
          have f15 := n_wr_r ((x3 * 64) + z12)
          generalize n_wr ((x3 * 64) + z12) = z16 at f15 ⊢
          exact n_rI c_33_60 rfl ⟨rfl, by omega⟩
set_option maxHeartbeats 4000000 in
theorem nth46_2 {xs : List Int32} {e : Nat} {ac : Int} {M0 M : nM} {i : Int} (hS : Sf 2 ac M0 M) (hi : -2147483648 ≤ i ∧ i ≤ 2147483647) : nW xs (e + 1) 33 0 [some (2, 46), some (0, i), none, none, none] [] M (nPI fun z M1 => M = M1 ∧ (-2147483648 ≤ z ∧ z ≤ 2147483647)) := by
  have hd : (2 : Int) = 2 ∨ (2 : Int) = 3 := by decide
  have hac := hS.2.2.2.2
  refine n_iload_n c_33_0 rfl ?_
  refine n_if0_lt c_33_1 (by omega) ?_ ?_
  · intro h1
    refine n_fg (le_n (le_n (le_n (le_n (le_n le_0))))) ?_
    exact (nth46_2_c hS hi 632).1   (by omega)
  · intro h2
    refine n_iload_n c_33_4 rfl ?_
    refine n_aload_n c_33_5 rfl ?_
    refine n_getV (bi := 1) c_33_6 sc_46.n rfl rfl rfl (t_46_1 hS) ?_
    intro z3 ez3 f4
    refine n_if2_lt c_33_9 (by omega) (by omega) ?_ ?_
    · intro h5
      refine n_iload_n c_33_14 rfl ?_
      refine n_istore_n (L2 := [some (2, 46), some (0, i), some (0, i), none, none]) c_33_15 rfl rfl ?_
      refine n_iconst c_33_16 ?_
      refine n_istore_n (L2 := [some (2, 46), some (0, i), some (0, i), some (0, 0), none]) c_33_17 rfl rfl ?_
      refine n_fg (le_s (le_n (le_s (le_s (le_n le_0))))) ?_
      exact (nth46_2_c hS hi 632).2 _ _ (by omega) (by omega) (by omega)
    · intro h6
      refine n_fg (le_n (le_n (le_n (le_n (le_n le_0))))) ?_
      exact (nth46_2_c hS hi 632).1   (by omega)

set_option maxHeartbeats 4000000 in
theorem clear48_2 {xs : List Int32} {e : Nat} {ac : Int} {M0 M : nM} (hS : Sf 2 ac M0 M)  : nW xs (e + 1) 31 0 [some (2, 48)] [] M (nPV fun M1 => Sf 2 ac M0 M1) := by
  have hd : (2 : Int) = 2 ∨ (2 : Int) = 3 := by decide
  have hac := hS.2.2.2.2
  refine n_aload_n c_31_0 rfl ?_
  refine n_getR c_31_1 sc_48.n rfl rfl rfl r_48_0 ?_
  refine n_lconst (n := 0) c_31_4 rfl ?_
  refine n_s2V c_31_5 rfl rfl rfl rfl (fill49_2 (v := 0) hS (by omega)) ?_
  intro  M1 hP2
  have hS1 := hP2
  refine n_aload_n c_31_8 rfl ?_
  refine n_iconst c_31_9 ?_
  refine n_putV (bi := 1) hS1 c_31_10 sc_48.n rfl rfl rfl rfl (w_48_1 (by omega)) ?_
  intro M3 eM3 hS3
  have g3_0 : M3 48 1 = 0 := by rw [eM3]; exact nu_s _ _ _ _
  exact n_rV c_31_13 rfl hS3

set_option maxHeartbeats 4000000 in
theorem add48_2_c {xs : List Int32} {e : Nat} {ac : Int} {M0 M : nM} {n : Int} (hS : Sf 2 ac M0 M) (hn : -2147483648 ≤ n ∧ n ≤ 2147483647) : ∀ nn : Nat, (∀ (M : nM), Sf 2 ac M0 M → 1 < (nn : Int) → nW xs e 32 43 [none, none, none] [] M (nPV fun M1 => Sf 2 ac M0 M1)) := by
  have hd : (2 : Int) = 2 ∨ (2 : Int) = 3 := by decide
  have hac := hS.2.2.2.2
  intro nn
  induction nn with
  | zero => intros; omega
  | succ nn ih =>
    intro M hS hnn
    exact n_rV c_32_43 rfl hS
set_option maxHeartbeats 4000000 in
theorem add48_2 {xs : List Int32} {e : Nat} {ac : Int} {M0 M : nM} {n : Int} (hS : Sf 2 ac M0 M) (hn : -2147483648 ≤ n ∧ n ≤ 2147483647) : nW xs e 32 0 [some (2, 48), some (0, n), none] [] M (nPV fun M1 => Sf 2 ac M0 M1) := by
  have hd : (2 : Int) = 2 ∨ (2 : Int) = 3 := by decide
  have hac := hS.2.2.2.2
  refine n_iload_n c_32_0 rfl ?_
  refine n_bipush c_32_1 rfl ?_
  refine n_i_ishr c_32_3 rfl ?_
  have f1 := n_shr_r n 6
  generalize (n_shr n 6) = z2 at f1 ⊢
  refine n_istore_n (L2 := [some (2, 48), some (0, n), some (0, z2)]) c_32_4 rfl rfl ?_
  refine n_iload_n c_32_5 rfl ?_
  refine n_if0_lt c_32_6 (by omega) ?_ ?_
  · intro h3
    refine n_fg (le_n (le_n (le_n le_0))) ?_
    exact (add48_2_c hS hn 12)  M hS  (by omega)
  · intro h4
    refine n_iload_n c_32_9 rfl ?_
    refine n_aload_n c_32_10 rfl ?_
    refine n_getR c_32_11 sc_48.n rfl rfl rfl r_48_0 ?_
    refine n_alen c_32_14 sc_49.n rfl ?_
    refine n_if2_ge c_32_15 (by omega) (by omega) ?_ ?_
    · intro h5
      refine n_fg (le_n (le_n (le_n le_0))) ?_
      exact (add48_2_c hS hn 12)  M hS  (by omega)
    · intro h6
      refine n_aload_n c_32_18 rfl ?_
      refine n_getR c_32_19 sc_48.n rfl rfl rfl r_48_0 ?_
      refine n_iload_n c_32_22 rfl ?_
      refine n_dup202 c_32_23 ?_
      refine n_laloadV c_32_24 sc_49.n rfl rfl rfl (by omega) (t_49 hS (by omega)) ?_
      intro z7 ez7 f8
      refine n_lconst (n := 1) c_32_25 rfl ?_
      refine n_iload_n c_32_26 rfl ?_
      refine n_bipush c_32_27 rfl ?_
      refine n_i_iand c_32_29 rfl ?_
      have f9 := n_and_y (x := n) (y := 63) (by omega)
      generalize (n_and n 63) = z10 at f9 ⊢
      refine n_i_lshl c_32_30 rfl ?_
      have f11 := n_lshl_r 1 z10
      generalize (n_lshl 1 z10) = z12 at f11 ⊢
      refine n_i_lor c_32_31 rfl ?_
      have f13 := n_lor_r z7 z12
      generalize (n_lor z7 z12) = z14 at f13 ⊢
      refine n_lastoreV hS c_32_32 sc_49.n rfl (by omega) (w_49 (by omega) (by omega)) ?_
      intro M15 eM15 hS15
      have g15_0 : M15 49 z2 = z14 := by rw [eM15]; exact nu_s _ _ _ _
      refine n_aload_n c_32_33 rfl ?_
      refine n_dup2 c_32_34 ?_
      refine n_getV (bi := 1) c_32_35 sc_48.n rfl rfl rfl (t_48_1 hS15) ?_
      intro z16 ez16 f17
      refine n_iconst c_32_38 ?_
      refine n_iadd c_32_39 rfl ?_
      refine n_wrap ?_
      have f18 := n_wr_r (z16 + 1)
      generalize n_wr (z16 + 1) = z19 at f18 ⊢
      refine n_putV (bi := 1) hS15 c_32_40 sc_48.n rfl rfl rfl rfl (w_48_1 (by omega)) ?_
      intro M20 eM20 hS20
      have g20_0 : M20 49 z2 = M15 49 z2 := by rw [eM20]; exact nu_a (by omega)
      have g20_1 : M20 48 1 = z19 := by rw [eM20]; exact nu_s _ _ _ _
      refine n_fg (le_n (le_n (le_n le_0))) ?_
      exact (add48_2_c hS hn 12)  M20 hS20  (by omega)

set_option maxHeartbeats 4000000 in
theorem nthBit48_2_c {xs : List Int32} {e : Nat} {ac : Int} {M0 M : nM} {w n : Int} (hS : Sf 2 ac M0 M) (hw : -9223372036854775808 ≤ w ∧ w ≤ 9223372036854775807) (hn : -2147483648 ≤ n ∧ n ≤ 2147483647) : ∀ nn : Nat, (∀ (x4 x5 : Int), (-2147483648 ≤ x4 ∧ x4 ≤ 2147483647) → (0 ≤ x5 ∧ x5 ≤ 64) → (64 - x5) * 2 + 2 < (nn : Int) → nW xs e 34 6 [none, some (1, w), none, none, some (0, x4), some (0, x5)] [] M (nPI fun z M1 => M = M1 ∧ (-2147483648 ≤ z ∧ z ≤ 2147483647))) ∧ (∀ (x4 x5 : Int), (-2147483648 ≤ x4 ∧ x4 ≤ 2147483647) → (0 ≤ x5 ∧ x5 ≤ 63) → (64 - x5) * 2 + 1 < (nn : Int) → nW xs e 34 35 [none, some (1, w), none, none, some (0, x4), some (0, x5)] [] M (nPI fun z M1 => M = M1 ∧ (-2147483648 ≤ z ∧ z ≤ 2147483647))) := by
  have hd : (2 : Int) = 2 ∨ (2 : Int) = 3 := by decide
  have hac := hS.2.2.2.2
  intro nn
  induction nn with
  | zero => refine ⟨?_, ?_⟩ <;> (intros; omega)
  | succ nn ih =>
    refine ⟨?_, ?_⟩
    · intro x4 x5 k4 k5 hnn
      refine n_iload c_34_6 rfl ?_
      refine n_bipush c_34_8 rfl ?_
      refine n_if2_ge c_34_10 (by omega) (by omega) ?_ ?_
      · intro h1
        refine n_iconst c_34_41 ?_
        exact n_rI c_34_42 rfl ⟨rfl, by omega⟩
      · intro h2
        refine n_lload_n c_34_13 rfl ?_
        refine n_iload c_34_14 rfl ?_
        refine n_i_lushr c_34_16 rfl ?_
        have f3 := n_lushr_r w x5
        generalize (n_lushr w x5) = z4 at f3 ⊢
        refine n_lconst (n := 1) c_34_17 rfl ?_
        refine n_i_land c_34_18 rfl ?_
        have f5 := n_land_r z4 1
        generalize (n_land z4 1) = z6 at f5 ⊢
        refine n_lconst (n := 0) c_34_19 rfl ?_
        refine n_lcmp c_34_20 ?_
        refine n_lif_eq c_34_21 (by omega) (by omega) ?_ ?_
        · intro h7
          refine n_fg (le_n (le_s (le_n (le_n (le_s (le_s le_0)))))) ?_
          exact ih.2 _ _ (by omega) (by omega) (by omega)
        · intro h8
          refine n_iload c_34_24 rfl ?_
          refine n_if0_ne c_34_26 (by omega) ?_ ?_
          · intro h9
            refine n_iincW (L2 := [none, some (1, w), none, none, some (0, n_wr (x4 + (-1))), some (0, x5)]) c_34_32 rfl rfl ?_
            have f10 := n_wr_r (x4 + (-1))
            generalize n_wr (x4 + (-1)) = z11 at f10 ⊢
            refine n_fg (le_n (le_s (le_n (le_n (le_s (le_s le_0)))))) ?_
            exact ih.2 _ _ (by omega) (by omega) (by omega)
          · intro h12
            refine n_iload c_34_29 rfl ?_
            exact n_rI c_34_31 rfl ⟨rfl, by omega⟩
    · intro x4 x5 k4 k5 hnn
      refine n_iinc (L2 := [none, some (1, w), none, none, some (0, x4), some (0, (x5 + 1))]) c_34_35 rfl rfl rfl ?_
      refine n_goto c_34_38 ?_
      refine n_fg (le_n (le_s (le_n (le_n (le_s (le_s le_0)))))) ?_
      exact ih.1 _ _ (by omega) (by omega) (by omega)
set_option maxHeartbeats 4000000 in
theorem nthBit48_2 {xs : List Int32} {e : Nat} {ac : Int} {M0 M : nM} {w n : Int} (hS : Sf 2 ac M0 M) (hw : -9223372036854775808 ≤ w ∧ w ≤ 9223372036854775807) (hn : -2147483648 ≤ n ∧ n ≤ 2147483647) : nW xs e 34 0 [some (2, 48), some (1, w), none, some (0, n), none, none] [] M (nPI fun z M1 => M = M1 ∧ (-2147483648 ≤ z ∧ z ≤ 2147483647)) := by
  have hd : (2 : Int) = 2 ∨ (2 : Int) = 3 := by decide
  have hac := hS.2.2.2.2
  refine n_iload_n c_34_0 rfl ?_
  refine n_istore (L2 := [some (2, 48), some (1, w), none, some (0, n), some (0, n), none]) c_34_1 rfl rfl ?_
  refine n_iconst c_34_3 ?_
  refine n_istore (L2 := [some (2, 48), some (1, w), none, some (0, n), some (0, n), some (0, 0)]) c_34_4 rfl rfl ?_
  refine n_fg (le_n (le_s (le_n (le_n (le_s (le_s le_0)))))) ?_
  exact (nthBit48_2_c hS hw hn 274).1 _ _ (by omega) (by omega) (by omega)

set_option maxHeartbeats 4000000 in
theorem nth48_2_c {xs : List Int32} {e : Nat} {ac : Int} {M0 M : nM} {i : Int} (hS : Sf 2 ac M0 M) (hi : -2147483648 ≤ i ∧ i ≤ 2147483647) : ∀ nn : Nat, (106 < (nn : Int) → nW xs (e + 1) 33 12 [none, none, none, none, none] [] M (nPI fun z M1 => M = M1 ∧ (-2147483648 ≤ z ∧ z ≤ 2147483647))) ∧ (∀ (x2 x3 : Int), (-127 ≤ x2 ∧ x2 ≤ 2147483646) → (0 ≤ x3 ∧ x3 ≤ 103) → (103 - x3) * 1 + 1 < (nn : Int) → nW xs (e + 1) 33 18 [some (2, 48), none, some (0, x2), some (0, x3), none] [] M (nPI fun z M1 => M = M1 ∧ (-2147483648 ≤ z ∧ z ≤ 2147483647))) := by
  have hd : (2 : Int) = 2 ∨ (2 : Int) = 3 := by decide
  have hac := hS.2.2.2.2
  intro nn
  induction nn with
  | zero => refine ⟨?_, ?_⟩ <;> (intros; omega)
  | succ nn ih =>
    refine ⟨?_, ?_⟩
    · intro hnn
      refine n_iconst c_33_12 ?_
      exact n_rI c_33_13 rfl ⟨rfl, by omega⟩
    · intro x2 x3 k2 k3 hnn
      refine n_iload_n c_33_18 rfl ?_
      refine n_aload_n c_33_19 rfl ?_
      refine n_getR c_33_20 sc_48.n rfl rfl rfl r_48_0 ?_
      refine n_alen c_33_23 sc_49.n rfl ?_
      refine n_if2_ge c_33_24 (by omega) (by omega) ?_ ?_
      · intro h1
        refine n_iconst c_33_72 ?_
        exact n_rI c_33_73 rfl ⟨rfl, by omega⟩
      · intro h2
        refine n_aload_n c_33_27 rfl ?_
        refine n_getR c_33_28 sc_48.n rfl rfl rfl r_48_0 ?_
        refine n_iload_n c_33_31 rfl ?_
        refine n_laloadV c_33_32 sc_49.n rfl rfl rfl (by omega) (t_49 hS (by omega)) ?_
        intro z3 ez3 f4
        refine n_s1I c_33_33 rfl rfl rfl rfl (lbits_2 (x := z3) hS (by omega)) ?_
        intro z5 M6 hP7
        obtain ⟨eM, f7⟩ := hP7
        subst eM
        refine n_istore (L2 := [some (2, 48), none, some (0, x2), some (0, x3), some (0, z5)]) c_33_36 rfl rfl ?_
        refine n_iload_n c_33_38 rfl ?_
        refine n_iload c_33_39 rfl ?_
        refine n_if2_ge c_33_41 (by omega) (by omega) ?_ ?_
        · intro h8
          refine n_iload_n c_33_61 rfl ?_
          refine n_iload c_33_62 rfl ?_
          refine n_isub c_33_64 rfl ?_
          refine n_istore_n (L2 := [some (2, 48), none, some (0, (x2 - z5)), some (0, x3), some (0, z5)]) c_33_65 rfl rfl ?_
          refine n_iinc (L2 := [some (2, 48), none, some (0, (x2 - z5)), some (0, (x3 + 1)), some (0, z5)]) c_33_66 rfl rfl rfl ?_
          refine n_goto c_33_69 ?_
          refine n_fg (le_s (le_n (le_s (le_s (le_n le_0))))) ?_
          exact ih.2 _ _ (by omega) (by omega) (by omega)
        · intro h9
          refine n_iload_n c_33_44 rfl ?_
          refine n_bipush c_33_45 rfl ?_
          refine n_imul c_33_47 rfl ?_
          refine n_aload_n c_33_48 rfl ?_
          refine n_aload_n c_33_49 rfl ?_
          refine n_getR c_33_50 sc_48.n rfl rfl rfl r_48_0 ?_
          refine n_iload_n c_33_53 rfl ?_
          refine n_laloadV c_33_54 sc_49.n rfl rfl rfl (by omega) (t_49 hS (by omega)) ?_
          intro z10 ez10 f11
          refine n_iload_n c_33_55 rfl ?_
          refine n_v2I c_33_56 rfl sc_48.n rfl rfl rfl rfl (nthBit48_2 (w := z10) (n := x2) hS (by omega) (by omega)) ?_
          intro z12 M13 hP14
          obtain ⟨eM, f14⟩ := hP14
          subst eM
          refine n_iadd c_33_59 rfl ?_
          refine n_wrap ?_
          have f15 := n_wr_r ((x3 * 64) + z12)
          generalize n_wr ((x3 * 64) + z12) = z16 at f15 ⊢
          exact n_rI c_33_60 rfl ⟨rfl, by omega⟩
set_option maxHeartbeats 4000000 in
theorem nth48_2 {xs : List Int32} {e : Nat} {ac : Int} {M0 M : nM} {i : Int} (hS : Sf 2 ac M0 M) (hi : -2147483648 ≤ i ∧ i ≤ 2147483647) : nW xs (e + 1) 33 0 [some (2, 48), some (0, i), none, none, none] [] M (nPI fun z M1 => M = M1 ∧ (-2147483648 ≤ z ∧ z ≤ 2147483647)) := by
  have hd : (2 : Int) = 2 ∨ (2 : Int) = 3 := by decide
  have hac := hS.2.2.2.2
  refine n_iload_n c_33_0 rfl ?_
  refine n_if0_lt c_33_1 (by omega) ?_ ?_
  · intro h1
    refine n_fg (le_n (le_n (le_n (le_n (le_n le_0))))) ?_
    exact (nth48_2_c hS hi 222).1   (by omega)
  · intro h2
    refine n_iload_n c_33_4 rfl ?_
    refine n_aload_n c_33_5 rfl ?_
    refine n_getV (bi := 1) c_33_6 sc_48.n rfl rfl rfl (t_48_1 hS) ?_
    intro z3 ez3 f4
    refine n_if2_lt c_33_9 (by omega) (by omega) ?_ ?_
    · intro h5
      refine n_iload_n c_33_14 rfl ?_
      refine n_istore_n (L2 := [some (2, 48), some (0, i), some (0, i), none, none]) c_33_15 rfl rfl ?_
      refine n_iconst c_33_16 ?_
      refine n_istore_n (L2 := [some (2, 48), some (0, i), some (0, i), some (0, 0), none]) c_33_17 rfl rfl ?_
      refine n_fg (le_s (le_n (le_s (le_s (le_n le_0))))) ?_
      exact (nth48_2_c hS hi 222).2 _ _ (by omega) (by omega) (by omega)
    · intro h6
      refine n_fg (le_n (le_n (le_n (le_n (le_n le_0))))) ?_
      exact (nth48_2_c hS hi 222).1   (by omega)

set_option maxHeartbeats 4000000 in
theorem fmod1_2 {xs : List Int32} {e : Nat} {ac : Int} {M0 M : nM} (hS : Sf 2 ac M0 M)  : nW xs e 204 0 [some (0, (-1)), some (0, 2), none] [] M (nPI fun z M1 => M = M1 ∧ (1 ≤ z ∧ z ≤ 1)) := by
  have hd : (2 : Int) = 2 ∨ (2 : Int) = 3 := by decide
  have hac := hS.2.2.2.2
  refine n_iload_n c_204_0 rfl ?_
  refine n_iload_n c_204_1 rfl ?_
  refine n_iremT (z := (-1)) c_204_2 (by omega) (by omega) (by omega) (by decide) ?_
  refine n_istore_n (L2 := [some (0, (-1)), some (0, 2), some (0, (-1))]) c_204_3 rfl rfl ?_
  refine n_iload_n c_204_4 rfl ?_
  refine n_iload_n c_204_5 rfl ?_
  refine n_i_ixor (z := (-3)) c_204_6 (by decide) ?_
  refine n_if0_ge c_204_7 (by omega) ?_ ?_
  · intro h1
    exfalso; omega
  · intro h2
    refine n_iload_n c_204_10 rfl ?_
    refine n_if0_eq c_204_11 (by omega) ?_ ?_
    · intro h3
      exfalso; omega
    · intro h4
      refine n_iload_n c_204_14 rfl ?_
      refine n_iload_n c_204_15 rfl ?_
      refine n_iadd c_204_16 rfl ?_
      exact n_rI c_204_17 rfl ⟨rfl, by omega⟩

set_option maxHeartbeats 4000000 in
theorem fmod2_2_c {xs : List Int32} {e : Nat} {ac : Int} {M0 M : nM} (hS : Sf 2 ac M0 M)  : ∀ nn : Nat, (∀ (x2 : Int), (0 ≤ x2 ∧ x2 ≤ 0) → 1 < (nn : Int) → nW xs e 204 18 [none, none, some (0, x2)] [] M (nPI fun z M1 => M = M1 ∧ (0 ≤ z ∧ z ≤ 0))) := by
  have hd : (2 : Int) = 2 ∨ (2 : Int) = 3 := by decide
  have hac := hS.2.2.2.2
  intro nn
  induction nn with
  | zero => intros; omega
  | succ nn ih =>
    intro x2 k2 hnn
    refine n_iload_n c_204_18 rfl ?_
    exact n_rI c_204_19 rfl ⟨rfl, by omega⟩
set_option maxHeartbeats 4000000 in
theorem fmod2_2 {xs : List Int32} {e : Nat} {ac : Int} {M0 M : nM} (hS : Sf 2 ac M0 M)  : nW xs e 204 0 [some (0, 0), some (0, 2), none] [] M (nPI fun z M1 => M = M1 ∧ (0 ≤ z ∧ z ≤ 0)) := by
  have hd : (2 : Int) = 2 ∨ (2 : Int) = 3 := by decide
  have hac := hS.2.2.2.2
  refine n_iload_n c_204_0 rfl ?_
  refine n_iload_n c_204_1 rfl ?_
  refine n_iremT (z := 0) c_204_2 (by omega) (by omega) (by omega) (by decide) ?_
  refine n_istore_n (L2 := [some (0, 0), some (0, 2), some (0, 0)]) c_204_3 rfl rfl ?_
  refine n_iload_n c_204_4 rfl ?_
  refine n_iload_n c_204_5 rfl ?_
  refine n_i_ixor (z := 2) c_204_6 (by decide) ?_
  refine n_if0_ge c_204_7 (by omega) ?_ ?_
  · intro h1
    refine n_fg (le_n (le_n (le_s le_0))) ?_
    exact (fmod2_2_c hS  12) _ (by omega) (by omega)
  · intro h2
    exfalso; omega

set_option maxHeartbeats 4000000 in
theorem fmod3_2_c {xs : List Int32} {e : Nat} {ac : Int} {M0 M : nM} (hS : Sf 2 ac M0 M)  : ∀ nn : Nat, (∀ (x2 : Int), (1 ≤ x2 ∧ x2 ≤ 1) → 1 < (nn : Int) → nW xs e 204 18 [none, none, some (0, x2)] [] M (nPI fun z M1 => M = M1 ∧ (1 ≤ z ∧ z ≤ 1))) := by
  have hd : (2 : Int) = 2 ∨ (2 : Int) = 3 := by decide
  have hac := hS.2.2.2.2
  intro nn
  induction nn with
  | zero => intros; omega
  | succ nn ih =>
    intro x2 k2 hnn
    refine n_iload_n c_204_18 rfl ?_
    exact n_rI c_204_19 rfl ⟨rfl, by omega⟩
set_option maxHeartbeats 4000000 in
theorem fmod3_2 {xs : List Int32} {e : Nat} {ac : Int} {M0 M : nM} (hS : Sf 2 ac M0 M)  : nW xs e 204 0 [some (0, 1), some (0, 2), none] [] M (nPI fun z M1 => M = M1 ∧ (1 ≤ z ∧ z ≤ 1)) := by
  have hd : (2 : Int) = 2 ∨ (2 : Int) = 3 := by decide
  have hac := hS.2.2.2.2
  refine n_iload_n c_204_0 rfl ?_
  refine n_iload_n c_204_1 rfl ?_
  refine n_iremT (z := 1) c_204_2 (by omega) (by omega) (by omega) (by decide) ?_
  refine n_istore_n (L2 := [some (0, 1), some (0, 2), some (0, 1)]) c_204_3 rfl rfl ?_
  refine n_iload_n c_204_4 rfl ?_
  refine n_iload_n c_204_5 rfl ?_
  refine n_i_ixor (z := 3) c_204_6 (by decide) ?_
  refine n_if0_ge c_204_7 (by omega) ?_ ?_
  · intro h1
    refine n_fg (le_n (le_n (le_s le_0))) ?_
    exact (fmod3_2_c hS  12) _ (by omega) (by omega)
  · intro h2
    exfalso; omega

set_option maxHeartbeats 4000000 in
theorem fmod4_2_c {xs : List Int32} {e : Nat} {ac : Int} {M0 M : nM} (hS : Sf 2 ac M0 M)  : ∀ nn : Nat, (∀ (x2 : Int), (0 ≤ x2 ∧ x2 ≤ 0) → 1 < (nn : Int) → nW xs e 204 18 [none, none, some (0, x2)] [] M (nPI fun z M1 => M = M1 ∧ (0 ≤ z ∧ z ≤ 0))) := by
  have hd : (2 : Int) = 2 ∨ (2 : Int) = 3 := by decide
  have hac := hS.2.2.2.2
  intro nn
  induction nn with
  | zero => intros; omega
  | succ nn ih =>
    intro x2 k2 hnn
    refine n_iload_n c_204_18 rfl ?_
    exact n_rI c_204_19 rfl ⟨rfl, by omega⟩
set_option maxHeartbeats 4000000 in
theorem fmod4_2 {xs : List Int32} {e : Nat} {ac : Int} {M0 M : nM} (hS : Sf 2 ac M0 M)  : nW xs e 204 0 [some (0, 2), some (0, 2), none] [] M (nPI fun z M1 => M = M1 ∧ (0 ≤ z ∧ z ≤ 0)) := by
  have hd : (2 : Int) = 2 ∨ (2 : Int) = 3 := by decide
  have hac := hS.2.2.2.2
  refine n_iload_n c_204_0 rfl ?_
  refine n_iload_n c_204_1 rfl ?_
  refine n_iremT (z := 0) c_204_2 (by omega) (by omega) (by omega) (by decide) ?_
  refine n_istore_n (L2 := [some (0, 2), some (0, 2), some (0, 0)]) c_204_3 rfl rfl ?_
  refine n_iload_n c_204_4 rfl ?_
  refine n_iload_n c_204_5 rfl ?_
  refine n_i_ixor (z := 0) c_204_6 (by decide) ?_
  refine n_if0_ge c_204_7 (by omega) ?_ ?_
  · intro h1
    refine n_fg (le_n (le_n (le_s le_0))) ?_
    exact (fmod4_2_c hS  12) _ (by omega) (by omega)
  · intro h2
    exfalso; omega

set_option maxHeartbeats 4000000 in
theorem begin_2 {xs : List Int32} {e : Nat} {ac : Int} {M0 M : nM} {n c : Int} (hS : Sf 2 ac M0 M) (hn : 0 ≤ n ∧ n ≤ 3) (hc : 0 ≤ c ∧ c ≤ 3) : nW xs e 27 0 [some (2, 44), some (0, n), some (0, c), some (2, 4)] [] M (nPV fun M1 => Sf 2 ac M0 M1 ∧ (M1 44 2 = c ∧ M1 44 0 = n ∧ M1 44 5 = 2)) := by
  have hd : (2 : Int) = 2 ∨ (2 : Int) = 3 := by decide
  have hac := hS.2.2.2.2
  refine n_aload_n c_27_0 rfl ?_
  refine n_aload_n c_27_1 rfl ?_
  refine n_getV (bi := 0) c_27_2 sc_4.n rfl rfl rfl (t_4_0 hS) ?_
  intro z1 ez1 f2
  obtain rfl : z1 = 2 := by omega
  refine n_putV (bi := 5) hS c_27_5 sc_44.n rfl rfl rfl rfl (w_44_5 (by omega)) ?_
  intro M3 eM3 hS3
  have g3_0 : M3 44 5 = 2 := by rw [eM3]; exact nu_s _ _ _ _
  refine n_aload_n c_27_8 rfl ?_
  refine n_iload_n c_27_9 rfl ?_
  refine n_putV (bi := 0) hS3 c_27_10 sc_44.n rfl rfl rfl rfl (w_44_0 (by omega)) ?_
  intro M4 eM4 hS4
  have g4_0 : M4 44 5 = M3 44 5 := by rw [eM4]; exact nu_i (by omega)
  have g4_1 : M4 44 0 = n := by rw [eM4]; exact nu_s _ _ _ _
  refine n_aload_n c_27_13 rfl ?_
  refine n_iload_n c_27_14 rfl ?_
  refine n_putV (bi := 1) hS4 c_27_15 sc_44.n rfl rfl rfl rfl (w_44_1 (by omega)) ?_
  intro M5 eM5 hS5
  have g5_0 : M5 44 5 = M4 44 5 := by rw [eM5]; exact nu_i (by omega)
  have g5_1 : M5 44 0 = M4 44 0 := by rw [eM5]; exact nu_i (by omega)
  have g5_2 : M5 44 1 = c := by rw [eM5]; exact nu_s _ _ _ _
  refine n_aload_n c_27_18 rfl ?_
  refine n_iload_n c_27_19 rfl ?_
  refine n_putV (bi := 2) hS5 c_27_20 sc_44.n rfl rfl rfl rfl (w_44_2 (by omega)) ?_
  intro M6 eM6 hS6
  have g6_0 : M6 44 5 = M5 44 5 := by rw [eM6]; exact nu_i (by omega)
  have g6_1 : M6 44 0 = M5 44 0 := by rw [eM6]; exact nu_i (by omega)
  have g6_2 : M6 44 1 = M5 44 1 := by rw [eM6]; exact nu_i (by omega)
  have g6_3 : M6 44 2 = c := by rw [eM6]; exact nu_s _ _ _ _
  refine n_aload_n c_27_23 rfl ?_
  refine n_iconst c_27_24 ?_
  refine n_putZV (bi := 3) hS6 c_27_25 sc_44.n rfl rfl rfl (by omega) rfl (w_44_3 (by omega)) ?_
  intro M7 eM7 hS7
  have g7_0 : M7 44 5 = M6 44 5 := by rw [eM7]; exact nu_i (by omega)
  have g7_1 : M7 44 0 = M6 44 0 := by rw [eM7]; exact nu_i (by omega)
  have g7_2 : M7 44 1 = M6 44 1 := by rw [eM7]; exact nu_i (by omega)
  have g7_3 : M7 44 2 = M6 44 2 := by rw [eM7]; exact nu_i (by omega)
  have g7_4 : M7 44 3 = 0 := by rw [eM7]; exact nu_s _ _ _ _
  exact n_rV c_27_28 rfl ⟨hS7, by omega⟩

set_option maxHeartbeats 4000000 in
theorem repeat_2_c {xs : List Int32} {e : Nat} {ac : Int} {M0 M : nM} (hS : Sf 2 ac M0 M)  : ∀ nn : Nat, (∀ (x2 x3 : Int) (M : nM), Sf 2 ac M0 M → (1 ≤ x2 ∧ x2 ≤ 8) → (1 ≤ x3 ∧ x3 ≤ 8) → (x2 ≤ x3) → (8 - x3) * 1 + 1 < (nn : Int) → nW xs (e + 1) 28 11 [some (2, 44), some (2, 4), some (0, x2), some (0, x3)] [] M (nPV fun M1 => Sf 2 ac M0 M1)) := by
  have hd : (2 : Int) = 2 ∨ (2 : Int) = 3 := by decide
  have hac := hS.2.2.2.2
  intro nn
  induction nn with
  | zero => intros; omega
  | succ nn ih =>
    intro x2 x3 M hS k2 k3 v0 hnn
    refine n_iload_n c_28_11 rfl ?_
    refine n_aload_n c_28_12 rfl ?_
    refine n_getV (bi := 1) c_28_13 sc_4.n rfl rfl rfl (t_4_1 hS) ?_
    intro z1 ez1 f2
    obtain rfl : z1 = 8 := by omega
    refine n_if2_ge c_28_16 (by omega) (by omega) ?_ ?_
    · intro h3
      exact n_rV c_28_39 rfl hS
    · intro h4
      refine n_aload_n c_28_19 rfl ?_
      refine n_getR c_28_20 sc_44.n rfl rfl rfl r_44_4 ?_
      refine n_iload_n c_28_23 rfl ?_
      refine n_aload_n c_28_24 rfl ?_
      refine n_getR c_28_25 sc_44.n rfl rfl rfl r_44_4 ?_
      refine n_iload_n c_28_28 rfl ?_
      refine n_iload_n c_28_29 rfl ?_
      refine n_isub c_28_30 rfl ?_
      refine n_ialoadV c_28_31 sc_45.n rfl rfl rfl (by omega) (t_45 hS (by omega)) ?_
      intro z5 ez5 f6
      refine n_iastoreV hS c_28_32 sc_45.n rfl (by omega) (w_45 (by omega) (by omega)) ?_
      intro M7 eM7 hS7
      have g7_0 : M7 45 x3 = z5 := by rw [eM7]; exact nu_s _ _ _ _
      refine n_iinc (L2 := [some (2, 44), some (2, 4), some (0, x2), some (0, (x3 + 1))]) c_28_33 rfl rfl rfl ?_
      refine n_goto c_28_36 ?_
      refine n_fg (le_s (le_s (le_s (le_s le_0)))) ?_
      exact ih _ _ M7 hS7 (by omega) (by omega) (by omega) (by omega)
set_option maxHeartbeats 4000000 in
theorem repeat_2 {xs : List Int32} {e : Nat} {ac : Int} {M0 M : nM} (hS : Sf 2 ac M0 M)  : nW xs (e + 1) 28 0 [some (2, 44), some (2, 4), none, none] [] M (nPV fun M1 => Sf 2 ac M0 M1) := by
  have hd : (2 : Int) = 2 ∨ (2 : Int) = 3 := by decide
  have hac := hS.2.2.2.2
  refine n_aload_n c_28_0 rfl ?_
  refine n_aload_n c_28_1 rfl ?_
  refine n_getV (bi := 0) c_28_2 sc_44.n rfl rfl rfl (t_44_0 hS) ?_
  intro z1 ez1 f2
  refine n_v1I c_28_5 rfl sc_4.n rfl rfl rfl rfl (powerU_2 (n := z1) hS (by omega)) ?_
  intro z3 M4 hP5
  obtain ⟨eM, f5⟩ := hP5
  subst eM
  refine n_istore_n (L2 := [some (2, 44), some (2, 4), some (0, z3), none]) c_28_8 rfl rfl ?_
  refine n_iload_n c_28_9 rfl ?_
  refine n_istore_n (L2 := [some (2, 44), some (2, 4), some (0, z3), some (0, z3)]) c_28_10 rfl rfl ?_
  refine n_fg (le_s (le_s (le_s (le_s le_0)))) ?_
  exact (repeat_2_c hS  28) _ _ M hS (by omega) (by omega) (by omega) (by omega)

set_option maxHeartbeats 4000000 in
theorem beFree1_2 {xs : List Int32} {e : Nat} {ac : Int} {M0 M : nM} (hS : Sf 2 ac M0 M)  : nW xs (e + 2) 20 0 [some (2, 44), some (0, 1), some (2, 4), none] [] M (nPV fun M1 => Sf 2 ac M0 M1) := by
  have hd : (2 : Int) = 2 ∨ (2 : Int) = 3 := by decide
  have hac := hS.2.2.2.2
  refine n_aload_n c_20_0 rfl ?_
  refine n_iload_n c_20_1 rfl ?_
  refine n_iconst c_20_2 ?_
  refine n_aload_n c_20_3 rfl ?_
  refine n_v3V c_20_4 rfl sc_44.n rfl rfl rfl rfl (begin_2 (n := 1) (c := 0) hS (by omega) (by omega)) ?_
  intro  M1 hP2
  obtain ⟨hS1, f2p0⟩ := hP2
  refine n_aload_n c_20_7 rfl ?_
  refine n_iload_n c_20_8 rfl ?_
  refine n_v1I c_20_9 rfl sc_4.n rfl rfl rfl rfl (power1_2  hS1 ) ?_
  intro z3 M4 hP5
  obtain ⟨eM, f5⟩ := hP5
  subst eM
  obtain rfl : z3 = 2 := by omega
  refine n_iconst c_20_12 ?_
  refine n_isub c_20_13 rfl ?_
  refine n_istore_n (L2 := [some (2, 44), some (0, 1), some (2, 4), some (0, (2 - 1))]) c_20_14 rfl rfl ?_
  refine n_iload_n c_20_15 rfl ?_
  refine n_if0_lt c_20_16 (by omega) ?_ ?_
  · intro h6
    exfalso; omega
  · intro h7
    refine n_aload_n c_20_19 rfl ?_
    refine n_getR c_20_20 sc_44.n rfl rfl rfl r_44_4 ?_
    refine n_iload_n c_20_23 rfl ?_
    refine n_aload_n c_20_24 rfl ?_
    refine n_dup2 c_20_25 ?_
    refine n_getV (bi := 2) c_20_26 sc_44.n rfl rfl rfl (t_44_2 hS1) ?_
    intro z8 ez8 f9
    obtain rfl : z8 = 0 := by omega
    refine n_dup_x102 c_20_29 ?_
    refine n_iconst c_20_30 ?_
    refine n_iadd c_20_31 rfl ?_
    refine n_putV (bi := 2) hS1 c_20_32 sc_44.n rfl rfl rfl rfl (w_44_2 (by omega)) ?_
    intro M10 eM10 hS10
    have g10_0 : M10 44 0 = M1 44 0 := by rw [eM10]; exact nu_i (by omega)
    have g10_1 : M10 44 5 = M1 44 5 := by rw [eM10]; exact nu_i (by omega)
    have g10_2 : M10 44 2 = (0 + 1) := by rw [eM10]; exact nu_s _ _ _ _
    refine n_iastoreV hS10 c_20_35 sc_45.n rfl (by omega) (w_45 (by omega) (by omega)) ?_
    intro M11 eM11 hS11
    have g11_0 : M11 44 0 = M10 44 0 := by rw [eM11]; exact nu_a (by omega)
    have g11_1 : M11 44 5 = M10 44 5 := by rw [eM11]; exact nu_a (by omega)
    have g11_2 : M11 44 2 = M10 44 2 := by rw [eM11]; exact nu_a (by omega)
    have g11_3 : M11 45 (2 - 1) = 0 := by rw [eM11]; exact nu_s _ _ _ _
    refine n_iinc (L2 := [some (2, 44), some (0, 1), some (2, 4), some (0, ((2 - 1) + (-1)))]) c_20_36 rfl rfl rfl ?_
    refine n_goto c_20_39 ?_
    refine n_iload_n c_20_15 rfl ?_
    refine n_if0_lt c_20_16 (by omega) ?_ ?_
    · intro h12
      exfalso; omega
    · intro h13
      refine n_aload_n c_20_19 rfl ?_
      refine n_getR c_20_20 sc_44.n rfl rfl rfl r_44_4 ?_
      refine n_iload_n c_20_23 rfl ?_
      refine n_aload_n c_20_24 rfl ?_
      refine n_dup2 c_20_25 ?_
      refine n_getV (bi := 2) c_20_26 sc_44.n rfl rfl rfl (t_44_2 hS11) ?_
      intro z14 ez14 f15
      obtain rfl : z14 = 1 := by omega
      refine n_dup_x102 c_20_29 ?_
      refine n_iconst c_20_30 ?_
      refine n_iadd c_20_31 rfl ?_
      refine n_putV (bi := 2) hS11 c_20_32 sc_44.n rfl rfl rfl rfl (w_44_2 (by omega)) ?_
      intro M16 eM16 hS16
      have g16_0 : M16 44 0 = M11 44 0 := by rw [eM16]; exact nu_i (by omega)
      have g16_1 : M16 44 5 = M11 44 5 := by rw [eM16]; exact nu_i (by omega)
      have g16_2 : M16 45 (2 - 1) = M11 45 (2 - 1) := by rw [eM16]; exact nu_a (by omega)
      have g16_3 : M16 44 2 = (1 + 1) := by rw [eM16]; exact nu_s _ _ _ _
      refine n_iastoreV hS16 c_20_35 sc_45.n rfl (by omega) (w_45 (by omega) (by omega)) ?_
      intro M17 eM17 hS17
      have g17_0 : M17 44 0 = M16 44 0 := by rw [eM17]; exact nu_a (by omega)
      have g17_1 : M17 44 5 = M16 44 5 := by rw [eM17]; exact nu_a (by omega)
      have g17_2 : M17 44 2 = M16 44 2 := by rw [eM17]; exact nu_a (by omega)
      have g17_3 : M17 45 ((2 - 1) + (-1)) = 1 := by rw [eM17]; exact nu_s _ _ _ _
      refine n_iinc (L2 := [some (2, 44), some (0, 1), some (2, 4), some (0, (((2 - 1) + (-1)) + (-1)))]) c_20_36 rfl rfl rfl ?_
      refine n_goto c_20_39 ?_
      refine n_iload_n c_20_15 rfl ?_
      refine n_if0_lt c_20_16 (by omega) ?_ ?_
      · intro h18
        refine n_aload_n c_20_42 rfl ?_
        refine n_aload_n c_20_43 rfl ?_
        refine n_v1V c_20_44 rfl sc_44.n rfl rfl rfl rfl (repeat_2  hS17 ) ?_
        intro  M19 hP20
        have hS19 := hP20
        exact n_rV c_20_47 rfl hS19
      · intro h21
        exfalso; omega

set_option maxHeartbeats 4000000 in
theorem beFree2_2 {xs : List Int32} {e : Nat} {ac : Int} {M0 M : nM} (hS : Sf 2 ac M0 M)  : nW xs (e + 2) 20 0 [some (2, 44), some (0, 2), some (2, 4), none] [] M (nPV fun M1 => Sf 2 ac M0 M1) := by
  have hd : (2 : Int) = 2 ∨ (2 : Int) = 3 := by decide
  have hac := hS.2.2.2.2
  refine n_aload_n c_20_0 rfl ?_
  refine n_iload_n c_20_1 rfl ?_
  refine n_iconst c_20_2 ?_
  refine n_aload_n c_20_3 rfl ?_
  refine n_v3V c_20_4 rfl sc_44.n rfl rfl rfl rfl (begin_2 (n := 2) (c := 0) hS (by omega) (by omega)) ?_
  intro  M1 hP2
  obtain ⟨hS1, f2p0⟩ := hP2
  refine n_aload_n c_20_7 rfl ?_
  refine n_iload_n c_20_8 rfl ?_
  refine n_v1I c_20_9 rfl sc_4.n rfl rfl rfl rfl (power2_2  hS1 ) ?_
  intro z3 M4 hP5
  obtain ⟨eM, f5⟩ := hP5
  subst eM
  obtain rfl : z3 = 4 := by omega
  refine n_iconst c_20_12 ?_
  refine n_isub c_20_13 rfl ?_
  refine n_istore_n (L2 := [some (2, 44), some (0, 2), some (2, 4), some (0, (4 - 1))]) c_20_14 rfl rfl ?_
  refine n_iload_n c_20_15 rfl ?_
  refine n_if0_lt c_20_16 (by omega) ?_ ?_
  · intro h6
    exfalso; omega
  · intro h7
    refine n_aload_n c_20_19 rfl ?_
    refine n_getR c_20_20 sc_44.n rfl rfl rfl r_44_4 ?_
    refine n_iload_n c_20_23 rfl ?_
    refine n_aload_n c_20_24 rfl ?_
    refine n_dup2 c_20_25 ?_
    refine n_getV (bi := 2) c_20_26 sc_44.n rfl rfl rfl (t_44_2 hS1) ?_
    intro z8 ez8 f9
    obtain rfl : z8 = 0 := by omega
    refine n_dup_x102 c_20_29 ?_
    refine n_iconst c_20_30 ?_
    refine n_iadd c_20_31 rfl ?_
    refine n_putV (bi := 2) hS1 c_20_32 sc_44.n rfl rfl rfl rfl (w_44_2 (by omega)) ?_
    intro M10 eM10 hS10
    have g10_0 : M10 44 0 = M1 44 0 := by rw [eM10]; exact nu_i (by omega)
    have g10_1 : M10 44 5 = M1 44 5 := by rw [eM10]; exact nu_i (by omega)
    have g10_2 : M10 44 2 = (0 + 1) := by rw [eM10]; exact nu_s _ _ _ _
    refine n_iastoreV hS10 c_20_35 sc_45.n rfl (by omega) (w_45 (by omega) (by omega)) ?_
    intro M11 eM11 hS11
    have g11_0 : M11 44 0 = M10 44 0 := by rw [eM11]; exact nu_a (by omega)
    have g11_1 : M11 44 5 = M10 44 5 := by rw [eM11]; exact nu_a (by omega)
    have g11_2 : M11 44 2 = M10 44 2 := by rw [eM11]; exact nu_a (by omega)
    have g11_3 : M11 45 (4 - 1) = 0 := by rw [eM11]; exact nu_s _ _ _ _
    refine n_iinc (L2 := [some (2, 44), some (0, 2), some (2, 4), some (0, ((4 - 1) + (-1)))]) c_20_36 rfl rfl rfl ?_
    refine n_goto c_20_39 ?_
    refine n_iload_n c_20_15 rfl ?_
    refine n_if0_lt c_20_16 (by omega) ?_ ?_
    · intro h12
      exfalso; omega
    · intro h13
      refine n_aload_n c_20_19 rfl ?_
      refine n_getR c_20_20 sc_44.n rfl rfl rfl r_44_4 ?_
      refine n_iload_n c_20_23 rfl ?_
      refine n_aload_n c_20_24 rfl ?_
      refine n_dup2 c_20_25 ?_
      refine n_getV (bi := 2) c_20_26 sc_44.n rfl rfl rfl (t_44_2 hS11) ?_
      intro z14 ez14 f15
      obtain rfl : z14 = 1 := by omega
      refine n_dup_x102 c_20_29 ?_
      refine n_iconst c_20_30 ?_
      refine n_iadd c_20_31 rfl ?_
      refine n_putV (bi := 2) hS11 c_20_32 sc_44.n rfl rfl rfl rfl (w_44_2 (by omega)) ?_
      intro M16 eM16 hS16
      have g16_0 : M16 44 0 = M11 44 0 := by rw [eM16]; exact nu_i (by omega)
      have g16_1 : M16 44 5 = M11 44 5 := by rw [eM16]; exact nu_i (by omega)
      have g16_2 : M16 45 (4 - 1) = M11 45 (4 - 1) := by rw [eM16]; exact nu_a (by omega)
      have g16_3 : M16 44 2 = (1 + 1) := by rw [eM16]; exact nu_s _ _ _ _
      refine n_iastoreV hS16 c_20_35 sc_45.n rfl (by omega) (w_45 (by omega) (by omega)) ?_
      intro M17 eM17 hS17
      have g17_0 : M17 44 0 = M16 44 0 := by rw [eM17]; exact nu_a (by omega)
      have g17_1 : M17 44 5 = M16 44 5 := by rw [eM17]; exact nu_a (by omega)
      have g17_2 : M17 44 2 = M16 44 2 := by rw [eM17]; exact nu_a (by omega)
      have g17_3 : M17 45 ((4 - 1) + (-1)) = 1 := by rw [eM17]; exact nu_s _ _ _ _
      refine n_iinc (L2 := [some (2, 44), some (0, 2), some (2, 4), some (0, (((4 - 1) + (-1)) + (-1)))]) c_20_36 rfl rfl rfl ?_
      refine n_goto c_20_39 ?_
      refine n_iload_n c_20_15 rfl ?_
      refine n_if0_lt c_20_16 (by omega) ?_ ?_
      · intro h18
        exfalso; omega
      · intro h19
        refine n_aload_n c_20_19 rfl ?_
        refine n_getR c_20_20 sc_44.n rfl rfl rfl r_44_4 ?_
        refine n_iload_n c_20_23 rfl ?_
        refine n_aload_n c_20_24 rfl ?_
        refine n_dup2 c_20_25 ?_
        refine n_getV (bi := 2) c_20_26 sc_44.n rfl rfl rfl (t_44_2 hS17) ?_
        intro z20 ez20 f21
        obtain rfl : z20 = 2 := by omega
        refine n_dup_x102 c_20_29 ?_
        refine n_iconst c_20_30 ?_
        refine n_iadd c_20_31 rfl ?_
        refine n_putV (bi := 2) hS17 c_20_32 sc_44.n rfl rfl rfl rfl (w_44_2 (by omega)) ?_
        intro M22 eM22 hS22
        have g22_0 : M22 44 0 = M17 44 0 := by rw [eM22]; exact nu_i (by omega)
        have g22_1 : M22 44 5 = M17 44 5 := by rw [eM22]; exact nu_i (by omega)
        have g22_2 : M22 45 ((4 - 1) + (-1)) = M17 45 ((4 - 1) + (-1)) := by rw [eM22]; exact nu_a (by omega)
        have g22_3 : M22 44 2 = (2 + 1) := by rw [eM22]; exact nu_s _ _ _ _
        refine n_iastoreV hS22 c_20_35 sc_45.n rfl (by omega) (w_45 (by omega) (by omega)) ?_
        intro M23 eM23 hS23
        have g23_0 : M23 44 0 = M22 44 0 := by rw [eM23]; exact nu_a (by omega)
        have g23_1 : M23 44 5 = M22 44 5 := by rw [eM23]; exact nu_a (by omega)
        have g23_2 : M23 44 2 = M22 44 2 := by rw [eM23]; exact nu_a (by omega)
        have g23_3 : M23 45 (((4 - 1) + (-1)) + (-1)) = 2 := by rw [eM23]; exact nu_s _ _ _ _
        refine n_iinc (L2 := [some (2, 44), some (0, 2), some (2, 4), some (0, ((((4 - 1) + (-1)) + (-1)) + (-1)))]) c_20_36 rfl rfl rfl ?_
        refine n_goto c_20_39 ?_
        refine n_iload_n c_20_15 rfl ?_
        refine n_if0_lt c_20_16 (by omega) ?_ ?_
        · intro h24
          exfalso; omega
        · intro h25
          refine n_aload_n c_20_19 rfl ?_
          refine n_getR c_20_20 sc_44.n rfl rfl rfl r_44_4 ?_
          refine n_iload_n c_20_23 rfl ?_
          refine n_aload_n c_20_24 rfl ?_
          refine n_dup2 c_20_25 ?_
          refine n_getV (bi := 2) c_20_26 sc_44.n rfl rfl rfl (t_44_2 hS23) ?_
          intro z26 ez26 f27
          obtain rfl : z26 = 3 := by omega
          refine n_dup_x102 c_20_29 ?_
          refine n_iconst c_20_30 ?_
          refine n_iadd c_20_31 rfl ?_
          refine n_putV (bi := 2) hS23 c_20_32 sc_44.n rfl rfl rfl rfl (w_44_2 (by omega)) ?_
          intro M28 eM28 hS28
          have g28_0 : M28 44 0 = M23 44 0 := by rw [eM28]; exact nu_i (by omega)
          have g28_1 : M28 44 5 = M23 44 5 := by rw [eM28]; exact nu_i (by omega)
          have g28_2 : M28 45 (((4 - 1) + (-1)) + (-1)) = M23 45 (((4 - 1) + (-1)) + (-1)) := by rw [eM28]; exact nu_a (by omega)
          have g28_3 : M28 44 2 = (3 + 1) := by rw [eM28]; exact nu_s _ _ _ _
          refine n_iastoreV hS28 c_20_35 sc_45.n rfl (by omega) (w_45 (by omega) (by omega)) ?_
          intro M29 eM29 hS29
          have g29_0 : M29 44 0 = M28 44 0 := by rw [eM29]; exact nu_a (by omega)
          have g29_1 : M29 44 5 = M28 44 5 := by rw [eM29]; exact nu_a (by omega)
          have g29_2 : M29 44 2 = M28 44 2 := by rw [eM29]; exact nu_a (by omega)
          have g29_3 : M29 45 ((((4 - 1) + (-1)) + (-1)) + (-1)) = 3 := by rw [eM29]; exact nu_s _ _ _ _
          refine n_iinc (L2 := [some (2, 44), some (0, 2), some (2, 4), some (0, (((((4 - 1) + (-1)) + (-1)) + (-1)) + (-1)))]) c_20_36 rfl rfl rfl ?_
          refine n_goto c_20_39 ?_
          refine n_iload_n c_20_15 rfl ?_
          refine n_if0_lt c_20_16 (by omega) ?_ ?_
          · intro h30
            refine n_aload_n c_20_42 rfl ?_
            refine n_aload_n c_20_43 rfl ?_
            refine n_v1V c_20_44 rfl sc_44.n rfl rfl rfl rfl (repeat_2  hS29 ) ?_
            intro  M31 hP32
            have hS31 := hP32
            exact n_rV c_20_47 rfl hS31
          · intro h33
            exfalso; omega

set_option maxHeartbeats 4000000 in
theorem beFree3_2 {xs : List Int32} {e : Nat} {ac : Int} {M0 M : nM} (hS : Sf 2 ac M0 M)  : nW xs (e + 2) 20 0 [some (2, 44), some (0, 3), some (2, 4), none] [] M (nPV fun M1 => Sf 2 ac M0 M1) := by
  have hd : (2 : Int) = 2 ∨ (2 : Int) = 3 := by decide
  have hac := hS.2.2.2.2
  refine n_aload_n c_20_0 rfl ?_
  refine n_iload_n c_20_1 rfl ?_
  refine n_iconst c_20_2 ?_
  refine n_aload_n c_20_3 rfl ?_
  refine n_v3V c_20_4 rfl sc_44.n rfl rfl rfl rfl (begin_2 (n := 3) (c := 0) hS (by omega) (by omega)) ?_
  intro  M1 hP2
  obtain ⟨hS1, f2p0⟩ := hP2
  refine n_aload_n c_20_7 rfl ?_
  refine n_iload_n c_20_8 rfl ?_
  refine n_v1I c_20_9 rfl sc_4.n rfl rfl rfl rfl (power3_2  hS1 ) ?_
  intro z3 M4 hP5
  obtain ⟨eM, f5⟩ := hP5
  subst eM
  obtain rfl : z3 = 8 := by omega
  refine n_iconst c_20_12 ?_
  refine n_isub c_20_13 rfl ?_
  refine n_istore_n (L2 := [some (2, 44), some (0, 3), some (2, 4), some (0, (8 - 1))]) c_20_14 rfl rfl ?_
  refine n_iload_n c_20_15 rfl ?_
  refine n_if0_lt c_20_16 (by omega) ?_ ?_
  · intro h6
    exfalso; omega
  · intro h7
    refine n_aload_n c_20_19 rfl ?_
    refine n_getR c_20_20 sc_44.n rfl rfl rfl r_44_4 ?_
    refine n_iload_n c_20_23 rfl ?_
    refine n_aload_n c_20_24 rfl ?_
    refine n_dup2 c_20_25 ?_
    refine n_getV (bi := 2) c_20_26 sc_44.n rfl rfl rfl (t_44_2 hS1) ?_
    intro z8 ez8 f9
    obtain rfl : z8 = 0 := by omega
    refine n_dup_x102 c_20_29 ?_
    refine n_iconst c_20_30 ?_
    refine n_iadd c_20_31 rfl ?_
    refine n_putV (bi := 2) hS1 c_20_32 sc_44.n rfl rfl rfl rfl (w_44_2 (by omega)) ?_
    intro M10 eM10 hS10
    have g10_0 : M10 44 0 = M1 44 0 := by rw [eM10]; exact nu_i (by omega)
    have g10_1 : M10 44 5 = M1 44 5 := by rw [eM10]; exact nu_i (by omega)
    have g10_2 : M10 44 2 = (0 + 1) := by rw [eM10]; exact nu_s _ _ _ _
    refine n_iastoreV hS10 c_20_35 sc_45.n rfl (by omega) (w_45 (by omega) (by omega)) ?_
    intro M11 eM11 hS11
    have g11_0 : M11 44 0 = M10 44 0 := by rw [eM11]; exact nu_a (by omega)
    have g11_1 : M11 44 5 = M10 44 5 := by rw [eM11]; exact nu_a (by omega)
    have g11_2 : M11 44 2 = M10 44 2 := by rw [eM11]; exact nu_a (by omega)
    have g11_3 : M11 45 (8 - 1) = 0 := by rw [eM11]; exact nu_s _ _ _ _
    refine n_iinc (L2 := [some (2, 44), some (0, 3), some (2, 4), some (0, ((8 - 1) + (-1)))]) c_20_36 rfl rfl rfl ?_
    refine n_goto c_20_39 ?_
    refine n_iload_n c_20_15 rfl ?_
    refine n_if0_lt c_20_16 (by omega) ?_ ?_
    · intro h12
      exfalso; omega
    · intro h13
      refine n_aload_n c_20_19 rfl ?_
      refine n_getR c_20_20 sc_44.n rfl rfl rfl r_44_4 ?_
      refine n_iload_n c_20_23 rfl ?_
      refine n_aload_n c_20_24 rfl ?_
      refine n_dup2 c_20_25 ?_
      refine n_getV (bi := 2) c_20_26 sc_44.n rfl rfl rfl (t_44_2 hS11) ?_
      intro z14 ez14 f15
      obtain rfl : z14 = 1 := by omega
      refine n_dup_x102 c_20_29 ?_
      refine n_iconst c_20_30 ?_
      refine n_iadd c_20_31 rfl ?_
      refine n_putV (bi := 2) hS11 c_20_32 sc_44.n rfl rfl rfl rfl (w_44_2 (by omega)) ?_
      intro M16 eM16 hS16
      have g16_0 : M16 44 0 = M11 44 0 := by rw [eM16]; exact nu_i (by omega)
      have g16_1 : M16 44 5 = M11 44 5 := by rw [eM16]; exact nu_i (by omega)
      have g16_2 : M16 45 (8 - 1) = M11 45 (8 - 1) := by rw [eM16]; exact nu_a (by omega)
      have g16_3 : M16 44 2 = (1 + 1) := by rw [eM16]; exact nu_s _ _ _ _
      refine n_iastoreV hS16 c_20_35 sc_45.n rfl (by omega) (w_45 (by omega) (by omega)) ?_
      intro M17 eM17 hS17
      have g17_0 : M17 44 0 = M16 44 0 := by rw [eM17]; exact nu_a (by omega)
      have g17_1 : M17 44 5 = M16 44 5 := by rw [eM17]; exact nu_a (by omega)
      have g17_2 : M17 44 2 = M16 44 2 := by rw [eM17]; exact nu_a (by omega)
      have g17_3 : M17 45 ((8 - 1) + (-1)) = 1 := by rw [eM17]; exact nu_s _ _ _ _
      refine n_iinc (L2 := [some (2, 44), some (0, 3), some (2, 4), some (0, (((8 - 1) + (-1)) + (-1)))]) c_20_36 rfl rfl rfl ?_
      refine n_goto c_20_39 ?_
      refine n_iload_n c_20_15 rfl ?_
      refine n_if0_lt c_20_16 (by omega) ?_ ?_
      · intro h18
        exfalso; omega
      · intro h19
        refine n_aload_n c_20_19 rfl ?_
        refine n_getR c_20_20 sc_44.n rfl rfl rfl r_44_4 ?_
        refine n_iload_n c_20_23 rfl ?_
        refine n_aload_n c_20_24 rfl ?_
        refine n_dup2 c_20_25 ?_
        refine n_getV (bi := 2) c_20_26 sc_44.n rfl rfl rfl (t_44_2 hS17) ?_
        intro z20 ez20 f21
        obtain rfl : z20 = 2 := by omega
        refine n_dup_x102 c_20_29 ?_
        refine n_iconst c_20_30 ?_
        refine n_iadd c_20_31 rfl ?_
        refine n_putV (bi := 2) hS17 c_20_32 sc_44.n rfl rfl rfl rfl (w_44_2 (by omega)) ?_
        intro M22 eM22 hS22
        have g22_0 : M22 44 0 = M17 44 0 := by rw [eM22]; exact nu_i (by omega)
        have g22_1 : M22 44 5 = M17 44 5 := by rw [eM22]; exact nu_i (by omega)
        have g22_2 : M22 45 ((8 - 1) + (-1)) = M17 45 ((8 - 1) + (-1)) := by rw [eM22]; exact nu_a (by omega)
        have g22_3 : M22 44 2 = (2 + 1) := by rw [eM22]; exact nu_s _ _ _ _
        refine n_iastoreV hS22 c_20_35 sc_45.n rfl (by omega) (w_45 (by omega) (by omega)) ?_
        intro M23 eM23 hS23
        have g23_0 : M23 44 0 = M22 44 0 := by rw [eM23]; exact nu_a (by omega)
        have g23_1 : M23 44 5 = M22 44 5 := by rw [eM23]; exact nu_a (by omega)
        have g23_2 : M23 44 2 = M22 44 2 := by rw [eM23]; exact nu_a (by omega)
        have g23_3 : M23 45 (((8 - 1) + (-1)) + (-1)) = 2 := by rw [eM23]; exact nu_s _ _ _ _
        refine n_iinc (L2 := [some (2, 44), some (0, 3), some (2, 4), some (0, ((((8 - 1) + (-1)) + (-1)) + (-1)))]) c_20_36 rfl rfl rfl ?_
        refine n_goto c_20_39 ?_
        refine n_iload_n c_20_15 rfl ?_
        refine n_if0_lt c_20_16 (by omega) ?_ ?_
        · intro h24
          exfalso; omega
        · intro h25
          refine n_aload_n c_20_19 rfl ?_
          refine n_getR c_20_20 sc_44.n rfl rfl rfl r_44_4 ?_
          refine n_iload_n c_20_23 rfl ?_
          refine n_aload_n c_20_24 rfl ?_
          refine n_dup2 c_20_25 ?_
          refine n_getV (bi := 2) c_20_26 sc_44.n rfl rfl rfl (t_44_2 hS23) ?_
          intro z26 ez26 f27
          obtain rfl : z26 = 3 := by omega
          refine n_dup_x102 c_20_29 ?_
          refine n_iconst c_20_30 ?_
          refine n_iadd c_20_31 rfl ?_
          refine n_putV (bi := 2) hS23 c_20_32 sc_44.n rfl rfl rfl rfl (w_44_2 (by omega)) ?_
          intro M28 eM28 hS28
          have g28_0 : M28 44 0 = M23 44 0 := by rw [eM28]; exact nu_i (by omega)
          have g28_1 : M28 44 5 = M23 44 5 := by rw [eM28]; exact nu_i (by omega)
          have g28_2 : M28 45 (((8 - 1) + (-1)) + (-1)) = M23 45 (((8 - 1) + (-1)) + (-1)) := by rw [eM28]; exact nu_a (by omega)
          have g28_3 : M28 44 2 = (3 + 1) := by rw [eM28]; exact nu_s _ _ _ _
          refine n_iastoreV hS28 c_20_35 sc_45.n rfl (by omega) (w_45 (by omega) (by omega)) ?_
          intro M29 eM29 hS29
          have g29_0 : M29 44 0 = M28 44 0 := by rw [eM29]; exact nu_a (by omega)
          have g29_1 : M29 44 5 = M28 44 5 := by rw [eM29]; exact nu_a (by omega)
          have g29_2 : M29 44 2 = M28 44 2 := by rw [eM29]; exact nu_a (by omega)
          have g29_3 : M29 45 ((((8 - 1) + (-1)) + (-1)) + (-1)) = 3 := by rw [eM29]; exact nu_s _ _ _ _
          refine n_iinc (L2 := [some (2, 44), some (0, 3), some (2, 4), some (0, (((((8 - 1) + (-1)) + (-1)) + (-1)) + (-1)))]) c_20_36 rfl rfl rfl ?_
          refine n_goto c_20_39 ?_
          refine n_iload_n c_20_15 rfl ?_
          refine n_if0_lt c_20_16 (by omega) ?_ ?_
          · intro h30
            exfalso; omega
          · intro h31
            refine n_aload_n c_20_19 rfl ?_
            refine n_getR c_20_20 sc_44.n rfl rfl rfl r_44_4 ?_
            refine n_iload_n c_20_23 rfl ?_
            refine n_aload_n c_20_24 rfl ?_
            refine n_dup2 c_20_25 ?_
            refine n_getV (bi := 2) c_20_26 sc_44.n rfl rfl rfl (t_44_2 hS29) ?_
            intro z32 ez32 f33
            obtain rfl : z32 = 4 := by omega
            refine n_dup_x102 c_20_29 ?_
            refine n_iconst c_20_30 ?_
            refine n_iadd c_20_31 rfl ?_
            refine n_putV (bi := 2) hS29 c_20_32 sc_44.n rfl rfl rfl rfl (w_44_2 (by omega)) ?_
            intro M34 eM34 hS34
            have g34_0 : M34 44 0 = M29 44 0 := by rw [eM34]; exact nu_i (by omega)
            have g34_1 : M34 44 5 = M29 44 5 := by rw [eM34]; exact nu_i (by omega)
            have g34_2 : M34 45 ((((8 - 1) + (-1)) + (-1)) + (-1)) = M29 45 ((((8 - 1) + (-1)) + (-1)) + (-1)) := by rw [eM34]; exact nu_a (by omega)
            have g34_3 : M34 44 2 = (4 + 1) := by rw [eM34]; exact nu_s _ _ _ _
            refine n_iastoreV hS34 c_20_35 sc_45.n rfl (by omega) (w_45 (by omega) (by omega)) ?_
            intro M35 eM35 hS35
            have g35_0 : M35 44 0 = M34 44 0 := by rw [eM35]; exact nu_a (by omega)
            have g35_1 : M35 44 5 = M34 44 5 := by rw [eM35]; exact nu_a (by omega)
            have g35_2 : M35 44 2 = M34 44 2 := by rw [eM35]; exact nu_a (by omega)
            have g35_3 : M35 45 (((((8 - 1) + (-1)) + (-1)) + (-1)) + (-1)) = 4 := by rw [eM35]; exact nu_s _ _ _ _
            refine n_iinc (L2 := [some (2, 44), some (0, 3), some (2, 4), some (0, ((((((8 - 1) + (-1)) + (-1)) + (-1)) + (-1)) + (-1)))]) c_20_36 rfl rfl rfl ?_
            refine n_goto c_20_39 ?_
            refine n_iload_n c_20_15 rfl ?_
            refine n_if0_lt c_20_16 (by omega) ?_ ?_
            · intro h36
              exfalso; omega
            · intro h37
              refine n_aload_n c_20_19 rfl ?_
              refine n_getR c_20_20 sc_44.n rfl rfl rfl r_44_4 ?_
              refine n_iload_n c_20_23 rfl ?_
              refine n_aload_n c_20_24 rfl ?_
              refine n_dup2 c_20_25 ?_
              refine n_getV (bi := 2) c_20_26 sc_44.n rfl rfl rfl (t_44_2 hS35) ?_
              intro z38 ez38 f39
              obtain rfl : z38 = 5 := by omega
              refine n_dup_x102 c_20_29 ?_
              refine n_iconst c_20_30 ?_
              refine n_iadd c_20_31 rfl ?_
              refine n_putV (bi := 2) hS35 c_20_32 sc_44.n rfl rfl rfl rfl (w_44_2 (by omega)) ?_
              intro M40 eM40 hS40
              have g40_0 : M40 44 0 = M35 44 0 := by rw [eM40]; exact nu_i (by omega)
              have g40_1 : M40 44 5 = M35 44 5 := by rw [eM40]; exact nu_i (by omega)
              have g40_2 : M40 45 (((((8 - 1) + (-1)) + (-1)) + (-1)) + (-1)) = M35 45 (((((8 - 1) + (-1)) + (-1)) + (-1)) + (-1)) := by rw [eM40]; exact nu_a (by omega)
              have g40_3 : M40 44 2 = (5 + 1) := by rw [eM40]; exact nu_s _ _ _ _
              refine n_iastoreV hS40 c_20_35 sc_45.n rfl (by omega) (w_45 (by omega) (by omega)) ?_
              intro M41 eM41 hS41
              have g41_0 : M41 44 0 = M40 44 0 := by rw [eM41]; exact nu_a (by omega)
              have g41_1 : M41 44 5 = M40 44 5 := by rw [eM41]; exact nu_a (by omega)
              have g41_2 : M41 44 2 = M40 44 2 := by rw [eM41]; exact nu_a (by omega)
              have g41_3 : M41 45 ((((((8 - 1) + (-1)) + (-1)) + (-1)) + (-1)) + (-1)) = 5 := by rw [eM41]; exact nu_s _ _ _ _
              refine n_iinc (L2 := [some (2, 44), some (0, 3), some (2, 4), some (0, (((((((8 - 1) + (-1)) + (-1)) + (-1)) + (-1)) + (-1)) + (-1)))]) c_20_36 rfl rfl rfl ?_
              refine n_goto c_20_39 ?_
              refine n_iload_n c_20_15 rfl ?_
              refine n_if0_lt c_20_16 (by omega) ?_ ?_
              · intro h42
                exfalso; omega
              · intro h43
                refine n_aload_n c_20_19 rfl ?_
                refine n_getR c_20_20 sc_44.n rfl rfl rfl r_44_4 ?_
                refine n_iload_n c_20_23 rfl ?_
                refine n_aload_n c_20_24 rfl ?_
                refine n_dup2 c_20_25 ?_
                refine n_getV (bi := 2) c_20_26 sc_44.n rfl rfl rfl (t_44_2 hS41) ?_
                intro z44 ez44 f45
                obtain rfl : z44 = 6 := by omega
                refine n_dup_x102 c_20_29 ?_
                refine n_iconst c_20_30 ?_
                refine n_iadd c_20_31 rfl ?_
                refine n_putV (bi := 2) hS41 c_20_32 sc_44.n rfl rfl rfl rfl (w_44_2 (by omega)) ?_
                intro M46 eM46 hS46
                have g46_0 : M46 44 0 = M41 44 0 := by rw [eM46]; exact nu_i (by omega)
                have g46_1 : M46 44 5 = M41 44 5 := by rw [eM46]; exact nu_i (by omega)
                have g46_2 : M46 45 ((((((8 - 1) + (-1)) + (-1)) + (-1)) + (-1)) + (-1)) = M41 45 ((((((8 - 1) + (-1)) + (-1)) + (-1)) + (-1)) + (-1)) := by rw [eM46]; exact nu_a (by omega)
                have g46_3 : M46 44 2 = (6 + 1) := by rw [eM46]; exact nu_s _ _ _ _
                refine n_iastoreV hS46 c_20_35 sc_45.n rfl (by omega) (w_45 (by omega) (by omega)) ?_
                intro M47 eM47 hS47
                have g47_0 : M47 44 0 = M46 44 0 := by rw [eM47]; exact nu_a (by omega)
                have g47_1 : M47 44 5 = M46 44 5 := by rw [eM47]; exact nu_a (by omega)
                have g47_2 : M47 44 2 = M46 44 2 := by rw [eM47]; exact nu_a (by omega)
                have g47_3 : M47 45 (((((((8 - 1) + (-1)) + (-1)) + (-1)) + (-1)) + (-1)) + (-1)) = 6 := by rw [eM47]; exact nu_s _ _ _ _
                refine n_iinc (L2 := [some (2, 44), some (0, 3), some (2, 4), some (0, ((((((((8 - 1) + (-1)) + (-1)) + (-1)) + (-1)) + (-1)) + (-1)) + (-1)))]) c_20_36 rfl rfl rfl ?_
                refine n_goto c_20_39 ?_
                refine n_iload_n c_20_15 rfl ?_
                refine n_if0_lt c_20_16 (by omega) ?_ ?_
                · intro h48
                  exfalso; omega
                · intro h49
                  refine n_aload_n c_20_19 rfl ?_
                  refine n_getR c_20_20 sc_44.n rfl rfl rfl r_44_4 ?_
                  refine n_iload_n c_20_23 rfl ?_
                  refine n_aload_n c_20_24 rfl ?_
                  refine n_dup2 c_20_25 ?_
                  refine n_getV (bi := 2) c_20_26 sc_44.n rfl rfl rfl (t_44_2 hS47) ?_
                  intro z50 ez50 f51
                  obtain rfl : z50 = 7 := by omega
                  refine n_dup_x102 c_20_29 ?_
                  refine n_iconst c_20_30 ?_
                  refine n_iadd c_20_31 rfl ?_
                  refine n_putV (bi := 2) hS47 c_20_32 sc_44.n rfl rfl rfl rfl (w_44_2 (by omega)) ?_
                  intro M52 eM52 hS52
                  have g52_0 : M52 44 0 = M47 44 0 := by rw [eM52]; exact nu_i (by omega)
                  have g52_1 : M52 44 5 = M47 44 5 := by rw [eM52]; exact nu_i (by omega)
                  have g52_2 : M52 45 (((((((8 - 1) + (-1)) + (-1)) + (-1)) + (-1)) + (-1)) + (-1)) = M47 45 (((((((8 - 1) + (-1)) + (-1)) + (-1)) + (-1)) + (-1)) + (-1)) := by rw [eM52]; exact nu_a (by omega)
                  have g52_3 : M52 44 2 = (7 + 1) := by rw [eM52]; exact nu_s _ _ _ _
                  refine n_iastoreV hS52 c_20_35 sc_45.n rfl (by omega) (w_45 (by omega) (by omega)) ?_
                  intro M53 eM53 hS53
                  have g53_0 : M53 44 0 = M52 44 0 := by rw [eM53]; exact nu_a (by omega)
                  have g53_1 : M53 44 5 = M52 44 5 := by rw [eM53]; exact nu_a (by omega)
                  have g53_2 : M53 44 2 = M52 44 2 := by rw [eM53]; exact nu_a (by omega)
                  have g53_3 : M53 45 ((((((((8 - 1) + (-1)) + (-1)) + (-1)) + (-1)) + (-1)) + (-1)) + (-1)) = 7 := by rw [eM53]; exact nu_s _ _ _ _
                  refine n_iinc (L2 := [some (2, 44), some (0, 3), some (2, 4), some (0, (((((((((8 - 1) + (-1)) + (-1)) + (-1)) + (-1)) + (-1)) + (-1)) + (-1)) + (-1)))]) c_20_36 rfl rfl rfl ?_
                  refine n_goto c_20_39 ?_
                  refine n_iload_n c_20_15 rfl ?_
                  refine n_if0_lt c_20_16 (by omega) ?_ ?_
                  · intro h54
                    refine n_aload_n c_20_42 rfl ?_
                    refine n_aload_n c_20_43 rfl ?_
                    refine n_v1V c_20_44 rfl sc_44.n rfl rfl rfl rfl (repeat_2  hS53 ) ?_
                    intro  M55 hP56
                    have hS55 := hP56
                    exact n_rV c_20_47 rfl hS55
                  · intro h57
                    exfalso; omega

set_option maxHeartbeats 4000000 in
theorem beFree_2 {xs : List Int32} {e : Nat} {ac : Int} {M0 M : nM} {n : Int} (hS : Sf 2 ac M0 M) (hn : 1 ≤ n ∧ n ≤ 3) : nW xs (e + 2) 20 0 [some (2, 44), some (0, n), some (2, 4), none] [] M (nPV fun M1 => Sf 2 ac M0 M1) := by
  rcases (show n = 1 ∨ n = 2 ∨ n = 3 by omega) with rfl | rfl | rfl
  · exact n_post (beFree1_2 hS ) (fun w M1 h => h)
  · exact n_post (beFree2_2 hS ) (fun w M1 h => h)
  · exact n_post (beFree3_2 hS ) (fun w M1 h => h)

set_option maxHeartbeats 4000000 in
theorem beHalf_2 {xs : List Int32} {e : Nat} {ac : Int} {M0 M : nM} (hS : Sf 2 ac M0 M)  : nW xs (e + 2) 21 0 [some (2, 44), some (2, 4), none, none] [] M (nPV fun M1 => Sf 2 ac M0 M1) := by
  have hd : (2 : Int) = 2 ∨ (2 : Int) = 3 := by decide
  have hac := hS.2.2.2.2
  refine n_aload_n c_21_0 rfl ?_
  refine n_iconst c_21_1 ?_
  refine n_aload_n c_21_2 rfl ?_
  refine n_getV (bi := 0) c_21_3 sc_4.n rfl rfl rfl (t_4_0 hS) ?_
  intro z1 ez1 f2
  obtain rfl : z1 = 2 := by omega
  refine n_aload_n c_21_6 rfl ?_
  refine n_v3V c_21_7 rfl sc_44.n rfl rfl rfl rfl (begin_2 (n := 2) (c := 2) hS (by omega) (by omega)) ?_
  intro  M3 hP4
  obtain ⟨hS3, f4p0⟩ := hP4
  refine n_aload_n c_21_10 rfl ?_
  refine n_iconst c_21_11 ?_
  refine n_putZV (bi := 3) hS3 c_21_12 sc_44.n rfl rfl rfl (by omega) rfl (w_44_3 (by omega)) ?_
  intro M5 eM5 hS5
  have g5_0 : M5 44 2 = M3 44 2 := by rw [eM5]; exact nu_i (by omega)
  have g5_1 : M5 44 0 = M3 44 0 := by rw [eM5]; exact nu_i (by omega)
  have g5_2 : M5 44 5 = M3 44 5 := by rw [eM5]; exact nu_i (by omega)
  have g5_3 : M5 44 3 = 1 := by rw [eM5]; exact nu_s _ _ _ _
  refine n_aload_n c_21_15 rfl ?_
  refine n_getV (bi := 5) c_21_16 sc_44.n rfl rfl rfl (t_44_5 hS5) ?_
  intro z6 ez6 f7
  obtain rfl : z6 = 2 := by omega
  refine n_iconst c_21_19 ?_
  refine n_isub c_21_20 rfl ?_
  refine n_istore_n (L2 := [some (2, 44), some (2, 4), some (0, (2 - 1)), none]) c_21_21 rfl rfl ?_
  refine n_iload_n c_21_22 rfl ?_
  refine n_if0_lt c_21_23 (by omega) ?_ ?_
  · intro h8
    exfalso; omega
  · intro h9
    refine n_aload_n c_21_26 rfl ?_
    refine n_getR c_21_27 sc_44.n rfl rfl rfl r_44_4 ?_
    refine n_iload_n c_21_30 rfl ?_
    refine n_aload_n c_21_31 rfl ?_
    refine n_getV (bi := 5) c_21_32 sc_44.n rfl rfl rfl (t_44_5 hS5) ?_
    intro z10 ez10 f11
    obtain rfl : z10 = 2 := by omega
    refine n_imul c_21_35 rfl ?_
    refine n_iload_n c_21_36 rfl ?_
    refine n_iadd c_21_37 rfl ?_
    refine n_iload_n c_21_38 rfl ?_
    refine n_iastoreV hS5 c_21_39 sc_45.n rfl (by omega) (w_45 (by omega) (by omega)) ?_
    intro M12 eM12 hS12
    have g12_0 : M12 44 2 = M5 44 2 := by rw [eM12]; exact nu_a (by omega)
    have g12_1 : M12 44 0 = M5 44 0 := by rw [eM12]; exact nu_a (by omega)
    have g12_2 : M12 44 5 = M5 44 5 := by rw [eM12]; exact nu_a (by omega)
    have g12_3 : M12 44 3 = M5 44 3 := by rw [eM12]; exact nu_a (by omega)
    have g12_4 : M12 45 (((2 - 1) * 2) + (2 - 1)) = (2 - 1) := by rw [eM12]; exact nu_s _ _ _ _
    refine n_iload_n c_21_40 rfl ?_
    refine n_iconst c_21_41 ?_
    refine n_isub c_21_42 rfl ?_
    refine n_istore_n (L2 := [some (2, 44), some (2, 4), some (0, (2 - 1)), some (0, ((2 - 1) - 1))]) c_21_43 rfl rfl ?_
    refine n_iload_n c_21_44 rfl ?_
    refine n_if0_lt c_21_45 (by omega) ?_ ?_
    · intro h13
      exfalso; omega
    · intro h14
      refine n_aload_n c_21_48 rfl ?_
      refine n_getR c_21_49 sc_44.n rfl rfl rfl r_44_4 ?_
      refine n_iload_n c_21_52 rfl ?_
      refine n_aload_n c_21_53 rfl ?_
      refine n_getV (bi := 5) c_21_54 sc_44.n rfl rfl rfl (t_44_5 hS12) ?_
      intro z15 ez15 f16
      obtain rfl : z15 = 2 := by omega
      refine n_imul c_21_57 rfl ?_
      refine n_iload_n c_21_58 rfl ?_
      refine n_iadd c_21_59 rfl ?_
      refine n_aload_n c_21_60 rfl ?_
      refine n_getV (bi := 2) c_21_61 sc_44.n rfl rfl rfl (t_44_2 hS12) ?_
      intro z17 ez17 f18
      obtain rfl : z17 = 2 := by omega
      refine n_iastoreV hS12 c_21_64 sc_45.n rfl (by omega) (w_45 (by omega) (by omega)) ?_
      intro M19 eM19 hS19
      have g19_0 : M19 44 2 = M12 44 2 := by rw [eM19]; exact nu_a (by omega)
      have g19_1 : M19 44 0 = M12 44 0 := by rw [eM19]; exact nu_a (by omega)
      have g19_2 : M19 44 5 = M12 44 5 := by rw [eM19]; exact nu_a (by omega)
      have g19_3 : M19 44 3 = M12 44 3 := by rw [eM19]; exact nu_a (by omega)
      have g19_4 : M19 45 (((2 - 1) * 2) + ((2 - 1) - 1)) = 2 := by rw [eM19]; exact nu_s _ _ _ _
      refine n_aload_n c_21_65 rfl ?_
      refine n_getR c_21_66 sc_44.n rfl rfl rfl r_44_4 ?_
      refine n_iload_n c_21_69 rfl ?_
      refine n_aload_n c_21_70 rfl ?_
      refine n_getV (bi := 5) c_21_71 sc_44.n rfl rfl rfl (t_44_5 hS19) ?_
      intro z20 ez20 f21
      obtain rfl : z20 = 2 := by omega
      refine n_imul c_21_74 rfl ?_
      refine n_iload_n c_21_75 rfl ?_
      refine n_iadd c_21_76 rfl ?_
      refine n_aload_n c_21_77 rfl ?_
      refine n_getV (bi := 2) c_21_78 sc_44.n rfl rfl rfl (t_44_2 hS19) ?_
      intro z22 ez22 f23
      obtain rfl : z22 = 2 := by omega
      refine n_iastoreV hS19 c_21_81 sc_45.n rfl (by omega) (w_45 (by omega) (by omega)) ?_
      intro M24 eM24 hS24
      have g24_0 : M24 44 2 = M19 44 2 := by rw [eM24]; exact nu_a (by omega)
      have g24_1 : M24 44 0 = M19 44 0 := by rw [eM24]; exact nu_a (by omega)
      have g24_2 : M24 44 5 = M19 44 5 := by rw [eM24]; exact nu_a (by omega)
      have g24_3 : M24 44 3 = M19 44 3 := by rw [eM24]; exact nu_a (by omega)
      have g24_4 : M24 45 ((((2 - 1) - 1) * 2) + (2 - 1)) = 2 := by rw [eM24]; exact nu_s _ _ _ _
      refine n_aload_n c_21_82 rfl ?_
      refine n_dup2 c_21_83 ?_
      refine n_getV (bi := 2) c_21_84 sc_44.n rfl rfl rfl (t_44_2 hS24) ?_
      intro z25 ez25 f26
      obtain rfl : z25 = 2 := by omega
      refine n_iconst c_21_87 ?_
      refine n_iadd c_21_88 rfl ?_
      refine n_putV (bi := 2) hS24 c_21_89 sc_44.n rfl rfl rfl rfl (w_44_2 (by omega)) ?_
      intro M27 eM27 hS27
      have g27_0 : M27 44 0 = M24 44 0 := by rw [eM27]; exact nu_i (by omega)
      have g27_1 : M27 44 5 = M24 44 5 := by rw [eM27]; exact nu_i (by omega)
      have g27_2 : M27 44 3 = M24 44 3 := by rw [eM27]; exact nu_i (by omega)
      have g27_3 : M27 45 ((((2 - 1) - 1) * 2) + (2 - 1)) = M24 45 ((((2 - 1) - 1) * 2) + (2 - 1)) := by rw [eM27]; exact nu_a (by omega)
      have g27_4 : M27 44 2 = (2 + 1) := by rw [eM27]; exact nu_s _ _ _ _
      refine n_iinc (L2 := [some (2, 44), some (2, 4), some (0, (2 - 1)), some (0, (((2 - 1) - 1) + (-1)))]) c_21_92 rfl rfl rfl ?_
      refine n_goto c_21_95 ?_
      refine n_iload_n c_21_44 rfl ?_
      refine n_if0_lt c_21_45 (by omega) ?_ ?_
      · intro h28
        refine n_iinc (L2 := [some (2, 44), some (2, 4), some (0, ((2 - 1) + (-1))), some (0, (((2 - 1) - 1) + (-1)))]) c_21_98 rfl rfl rfl ?_
        refine n_goto c_21_101 ?_
        refine n_iload_n c_21_22 rfl ?_
        refine n_if0_lt c_21_23 (by omega) ?_ ?_
        · intro h29
          exfalso; omega
        · intro h30
          refine n_aload_n c_21_26 rfl ?_
          refine n_getR c_21_27 sc_44.n rfl rfl rfl r_44_4 ?_
          refine n_iload_n c_21_30 rfl ?_
          refine n_aload_n c_21_31 rfl ?_
          refine n_getV (bi := 5) c_21_32 sc_44.n rfl rfl rfl (t_44_5 hS27) ?_
          intro z31 ez31 f32
          obtain rfl : z31 = 2 := by omega
          refine n_imul c_21_35 rfl ?_
          refine n_iload_n c_21_36 rfl ?_
          refine n_iadd c_21_37 rfl ?_
          refine n_iload_n c_21_38 rfl ?_
          refine n_iastoreV hS27 c_21_39 sc_45.n rfl (by omega) (w_45 (by omega) (by omega)) ?_
          intro M33 eM33 hS33
          have g33_0 : M33 44 0 = M27 44 0 := by rw [eM33]; exact nu_a (by omega)
          have g33_1 : M33 44 5 = M27 44 5 := by rw [eM33]; exact nu_a (by omega)
          have g33_2 : M33 44 3 = M27 44 3 := by rw [eM33]; exact nu_a (by omega)
          have g33_3 : M33 44 2 = M27 44 2 := by rw [eM33]; exact nu_a (by omega)
          have g33_4 : M33 45 ((((2 - 1) + (-1)) * 2) + ((2 - 1) + (-1))) = ((2 - 1) + (-1)) := by rw [eM33]; exact nu_s _ _ _ _
          refine n_iload_n c_21_40 rfl ?_
          refine n_iconst c_21_41 ?_
          refine n_isub c_21_42 rfl ?_
          refine n_istore_n (L2 := [some (2, 44), some (2, 4), some (0, ((2 - 1) + (-1))), some (0, (((2 - 1) + (-1)) - 1))]) c_21_43 rfl rfl ?_
          refine n_iload_n c_21_44 rfl ?_
          refine n_if0_lt c_21_45 (by omega) ?_ ?_
          · intro h34
            refine n_iinc (L2 := [some (2, 44), some (2, 4), some (0, (((2 - 1) + (-1)) + (-1))), some (0, (((2 - 1) + (-1)) - 1))]) c_21_98 rfl rfl rfl ?_
            refine n_goto c_21_101 ?_
            refine n_iload_n c_21_22 rfl ?_
            refine n_if0_lt c_21_23 (by omega) ?_ ?_
            · intro h35
              refine n_aload_n c_21_104 rfl ?_
              refine n_aload_n c_21_105 rfl ?_
              refine n_v1V c_21_106 rfl sc_44.n rfl rfl rfl rfl (repeat_2  hS33 ) ?_
              intro  M36 hP37
              have hS36 := hP37
              exact n_rV c_21_109 rfl hS36
            · intro h38
              exfalso; omega
          · intro h39
            exfalso; omega
      · intro h40
        exfalso; omega

set_option maxHeartbeats 4000000 in
theorem beMost_2 {xs : List Int32} {e : Nat} {ac : Int} {M0 M : nM} (hS : Sf 2 ac M0 M)  : nW xs (e + 1) 22 0 [some (2, 44), some (2, 4), none, none, none, none] [] M (nPV fun M1 => Sf 2 ac M0 M1) := by
  have hd : (2 : Int) = 2 ∨ (2 : Int) = 3 := by decide
  have hac := hS.2.2.2.2
  refine n_aload_n c_22_0 rfl ?_
  refine n_iconst c_22_1 ?_
  refine n_aload_n c_22_2 rfl ?_
  refine n_getV (bi := 0) c_22_3 sc_4.n rfl rfl rfl (t_4_0 hS) ?_
  intro z1 ez1 f2
  obtain rfl : z1 = 2 := by omega
  refine n_aload_n c_22_6 rfl ?_
  refine n_v3V c_22_7 rfl sc_44.n rfl rfl rfl rfl (begin_2 (n := 3) (c := 2) hS (by omega) (by omega)) ?_
  intro  M3 hP4
  obtain ⟨hS3, f4p0⟩ := hP4
  refine n_aload_n c_22_10 rfl ?_
  refine n_getV (bi := 1) c_22_11 sc_4.n rfl rfl rfl (t_4_1 hS3) ?_
  intro z5 ez5 f6
  obtain rfl : z5 = 8 := by omega
  refine n_iconst c_22_14 ?_
  refine n_isub c_22_15 rfl ?_
  refine n_istore_n (L2 := [some (2, 44), some (2, 4), some (0, (8 - 1)), none, none, none]) c_22_16 rfl rfl ?_
  refine n_iload_n c_22_17 rfl ?_
  refine n_if0_lt c_22_18 (by omega) ?_ ?_
  · intro h7
    exfalso; omega
  · intro h8
    refine n_aload_n c_22_21 rfl ?_
    refine n_getR c_22_22 sc_4.n rfl rfl rfl r_4_2 ?_
    refine n_iload_n c_22_25 rfl ?_
    refine n_ialoadV c_22_26 sc_5.n rfl rfl rfl (by omega) (t_5k (z := 1) hS3 (by omega) (by omega) (by omega)) ?_
    intro z9 ez9 f10
    refine n_istore_n (L2 := [some (2, 44), some (2, 4), some (0, (8 - 1)), some (0, z9), none, none]) c_22_27 rfl rfl ?_
    refine n_aload_n c_22_28 rfl ?_
    refine n_getR c_22_29 sc_4.n rfl rfl rfl r_4_3 ?_
    refine n_iload_n c_22_32 rfl ?_
    refine n_ialoadV c_22_33 sc_6.n rfl rfl rfl (by omega) (t_6k (z := 1) hS3 (by omega) (by omega) (by omega)) ?_
    intro z11 ez11 f12
    refine n_istore (L2 := [some (2, 44), some (2, 4), some (0, (8 - 1)), some (0, z9), some (0, z11), none]) c_22_34 rfl rfl ?_
    refine n_aload_n c_22_36 rfl ?_
    refine n_getR c_22_37 sc_4.n rfl rfl rfl r_4_4 ?_
    refine n_iload_n c_22_40 rfl ?_
    refine n_ialoadV c_22_41 sc_7.n rfl rfl rfl (by omega) (t_7k (z := 1) hS3 (by omega) (by omega) (by omega)) ?_
    intro z13 ez13 f14
    refine n_istore (L2 := [some (2, 44), some (2, 4), some (0, (8 - 1)), some (0, z9), some (0, z11), some (0, z13)]) c_22_42 rfl rfl ?_
    refine n_iload_n c_22_44 rfl ?_
    refine n_iload c_22_45 rfl ?_
    refine n_if2_eq c_22_47 (by omega) (by omega) ?_ ?_
    · intro h15
      refine n_aload_n c_22_56 rfl ?_
      refine n_getR c_22_57 sc_44.n rfl rfl rfl r_44_4 ?_
      refine n_iload_n c_22_60 rfl ?_
      refine n_iload_n c_22_61 rfl ?_
      refine n_iastoreV hS3 c_22_62 sc_45.n rfl (by omega) (w_45 (by omega) (by omega)) ?_
      intro M16 eM16 hS16
      have g16_0 : M16 44 2 = M3 44 2 := by rw [eM16]; exact nu_a (by omega)
      have g16_1 : M16 44 0 = M3 44 0 := by rw [eM16]; exact nu_a (by omega)
      have g16_2 : M16 44 5 = M3 44 5 := by rw [eM16]; exact nu_a (by omega)
      have g16_3 : M16 45 (8 - 1) = z9 := by rw [eM16]; exact nu_s _ _ _ _
      refine n_goto c_22_63 ?_
      refine n_iinc (L2 := [some (2, 44), some (2, 4), some (0, ((8 - 1) + (-1))), some (0, z9), some (0, z11), some (0, z13)]) c_22_101 rfl rfl rfl ?_
      refine n_goto c_22_104 ?_
      refine n_iload_n c_22_17 rfl ?_
      refine n_if0_lt c_22_18 (by omega) ?_ ?_
      · intro h17
        exfalso; omega
      · intro h18
        refine n_aload_n c_22_21 rfl ?_
        refine n_getR c_22_22 sc_4.n rfl rfl rfl r_4_2 ?_
        refine n_iload_n c_22_25 rfl ?_
        refine n_ialoadV c_22_26 sc_5.n rfl rfl rfl (by omega) (t_5k (z := 1) hS16 (by omega) (by omega) (by omega)) ?_
        intro z19 ez19 f20
        refine n_istore_n (L2 := [some (2, 44), some (2, 4), some (0, ((8 - 1) + (-1))), some (0, z19), some (0, z11), some (0, z13)]) c_22_27 rfl rfl ?_
        refine n_aload_n c_22_28 rfl ?_
        refine n_getR c_22_29 sc_4.n rfl rfl rfl r_4_3 ?_
        refine n_iload_n c_22_32 rfl ?_
        refine n_ialoadV c_22_33 sc_6.n rfl rfl rfl (by omega) (t_6k (z := 1) hS16 (by omega) (by omega) (by omega)) ?_
        intro z21 ez21 f22
        refine n_istore (L2 := [some (2, 44), some (2, 4), some (0, ((8 - 1) + (-1))), some (0, z19), some (0, z21), some (0, z13)]) c_22_34 rfl rfl ?_
        refine n_aload_n c_22_36 rfl ?_
        refine n_getR c_22_37 sc_4.n rfl rfl rfl r_4_4 ?_
        refine n_iload_n c_22_40 rfl ?_
        refine n_ialoadV c_22_41 sc_7.n rfl rfl rfl (by omega) (t_7k (z := 0) hS16 (by omega) (by omega) (by omega)) ?_
        intro z23 ez23 f24
        refine n_istore (L2 := [some (2, 44), some (2, 4), some (0, ((8 - 1) + (-1))), some (0, z19), some (0, z21), some (0, z23)]) c_22_42 rfl rfl ?_
        refine n_iload_n c_22_44 rfl ?_
        refine n_iload c_22_45 rfl ?_
        refine n_if2_eq c_22_47 (by omega) (by omega) ?_ ?_
        · intro h25
          refine n_aload_n c_22_56 rfl ?_
          refine n_getR c_22_57 sc_44.n rfl rfl rfl r_44_4 ?_
          refine n_iload_n c_22_60 rfl ?_
          refine n_iload_n c_22_61 rfl ?_
          refine n_iastoreV hS16 c_22_62 sc_45.n rfl (by omega) (w_45 (by omega) (by omega)) ?_
          intro M26 eM26 hS26
          have g26_0 : M26 44 2 = M16 44 2 := by rw [eM26]; exact nu_a (by omega)
          have g26_1 : M26 44 0 = M16 44 0 := by rw [eM26]; exact nu_a (by omega)
          have g26_2 : M26 44 5 = M16 44 5 := by rw [eM26]; exact nu_a (by omega)
          have g26_3 : M26 45 ((8 - 1) + (-1)) = z19 := by rw [eM26]; exact nu_s _ _ _ _
          refine n_goto c_22_63 ?_
          refine n_iinc (L2 := [some (2, 44), some (2, 4), some (0, (((8 - 1) + (-1)) + (-1))), some (0, z19), some (0, z21), some (0, z23)]) c_22_101 rfl rfl rfl ?_
          refine n_goto c_22_104 ?_
          refine n_iload_n c_22_17 rfl ?_
          refine n_if0_lt c_22_18 (by omega) ?_ ?_
          · intro h27
            exfalso; omega
          · intro h28
            refine n_aload_n c_22_21 rfl ?_
            refine n_getR c_22_22 sc_4.n rfl rfl rfl r_4_2 ?_
            refine n_iload_n c_22_25 rfl ?_
            refine n_ialoadV c_22_26 sc_5.n rfl rfl rfl (by omega) (t_5k (z := 1) hS26 (by omega) (by omega) (by omega)) ?_
            intro z29 ez29 f30
            refine n_istore_n (L2 := [some (2, 44), some (2, 4), some (0, (((8 - 1) + (-1)) + (-1))), some (0, z29), some (0, z21), some (0, z23)]) c_22_27 rfl rfl ?_
            refine n_aload_n c_22_28 rfl ?_
            refine n_getR c_22_29 sc_4.n rfl rfl rfl r_4_3 ?_
            refine n_iload_n c_22_32 rfl ?_
            refine n_ialoadV c_22_33 sc_6.n rfl rfl rfl (by omega) (t_6k (z := 0) hS26 (by omega) (by omega) (by omega)) ?_
            intro z31 ez31 f32
            refine n_istore (L2 := [some (2, 44), some (2, 4), some (0, (((8 - 1) + (-1)) + (-1))), some (0, z29), some (0, z31), some (0, z23)]) c_22_34 rfl rfl ?_
            refine n_aload_n c_22_36 rfl ?_
            refine n_getR c_22_37 sc_4.n rfl rfl rfl r_4_4 ?_
            refine n_iload_n c_22_40 rfl ?_
            refine n_ialoadV c_22_41 sc_7.n rfl rfl rfl (by omega) (t_7k (z := 1) hS26 (by omega) (by omega) (by omega)) ?_
            intro z33 ez33 f34
            refine n_istore (L2 := [some (2, 44), some (2, 4), some (0, (((8 - 1) + (-1)) + (-1))), some (0, z29), some (0, z31), some (0, z33)]) c_22_42 rfl rfl ?_
            refine n_iload_n c_22_44 rfl ?_
            refine n_iload c_22_45 rfl ?_
            refine n_if2_eq c_22_47 (by omega) (by omega) ?_ ?_
            · intro h35
              exfalso; omega
            · intro h36
              refine n_iload_n c_22_50 rfl ?_
              refine n_iload c_22_51 rfl ?_
              refine n_if2_ne c_22_53 (by omega) (by omega) ?_ ?_
              · intro h37
                exfalso; omega
              · intro h38
                refine n_aload_n c_22_56 rfl ?_
                refine n_getR c_22_57 sc_44.n rfl rfl rfl r_44_4 ?_
                refine n_iload_n c_22_60 rfl ?_
                refine n_iload_n c_22_61 rfl ?_
                refine n_iastoreV hS26 c_22_62 sc_45.n rfl (by omega) (w_45 (by omega) (by omega)) ?_
                intro M39 eM39 hS39
                have g39_0 : M39 44 2 = M26 44 2 := by rw [eM39]; exact nu_a (by omega)
                have g39_1 : M39 44 0 = M26 44 0 := by rw [eM39]; exact nu_a (by omega)
                have g39_2 : M39 44 5 = M26 44 5 := by rw [eM39]; exact nu_a (by omega)
                have g39_3 : M39 45 (((8 - 1) + (-1)) + (-1)) = z29 := by rw [eM39]; exact nu_s _ _ _ _
                refine n_goto c_22_63 ?_
                refine n_iinc (L2 := [some (2, 44), some (2, 4), some (0, ((((8 - 1) + (-1)) + (-1)) + (-1))), some (0, z29), some (0, z31), some (0, z33)]) c_22_101 rfl rfl rfl ?_
                refine n_goto c_22_104 ?_
                refine n_iload_n c_22_17 rfl ?_
                refine n_if0_lt c_22_18 (by omega) ?_ ?_
                · intro h40
                  exfalso; omega
                · intro h41
                  refine n_aload_n c_22_21 rfl ?_
                  refine n_getR c_22_22 sc_4.n rfl rfl rfl r_4_2 ?_
                  refine n_iload_n c_22_25 rfl ?_
                  refine n_ialoadV c_22_26 sc_5.n rfl rfl rfl (by omega) (t_5k (z := 1) hS39 (by omega) (by omega) (by omega)) ?_
                  intro z42 ez42 f43
                  refine n_istore_n (L2 := [some (2, 44), some (2, 4), some (0, ((((8 - 1) + (-1)) + (-1)) + (-1))), some (0, z42), some (0, z31), some (0, z33)]) c_22_27 rfl rfl ?_
                  refine n_aload_n c_22_28 rfl ?_
                  refine n_getR c_22_29 sc_4.n rfl rfl rfl r_4_3 ?_
                  refine n_iload_n c_22_32 rfl ?_
                  refine n_ialoadV c_22_33 sc_6.n rfl rfl rfl (by omega) (t_6k (z := 0) hS39 (by omega) (by omega) (by omega)) ?_
                  intro z44 ez44 f45
                  refine n_istore (L2 := [some (2, 44), some (2, 4), some (0, ((((8 - 1) + (-1)) + (-1)) + (-1))), some (0, z42), some (0, z44), some (0, z33)]) c_22_34 rfl rfl ?_
                  refine n_aload_n c_22_36 rfl ?_
                  refine n_getR c_22_37 sc_4.n rfl rfl rfl r_4_4 ?_
                  refine n_iload_n c_22_40 rfl ?_
                  refine n_ialoadV c_22_41 sc_7.n rfl rfl rfl (by omega) (t_7k (z := 0) hS39 (by omega) (by omega) (by omega)) ?_
                  intro z46 ez46 f47
                  refine n_istore (L2 := [some (2, 44), some (2, 4), some (0, ((((8 - 1) + (-1)) + (-1)) + (-1))), some (0, z42), some (0, z44), some (0, z46)]) c_22_42 rfl rfl ?_
                  refine n_iload_n c_22_44 rfl ?_
                  refine n_iload c_22_45 rfl ?_
                  refine n_if2_eq c_22_47 (by omega) (by omega) ?_ ?_
                  · intro h48
                    exfalso; omega
                  · intro h49
                    refine n_iload_n c_22_50 rfl ?_
                    refine n_iload c_22_51 rfl ?_
                    refine n_if2_ne c_22_53 (by omega) (by omega) ?_ ?_
                    · intro h50
                      refine n_iload c_22_66 rfl ?_
                      refine n_iload c_22_68 rfl ?_
                      refine n_if2_ne c_22_70 (by omega) (by omega) ?_ ?_
                      · intro h51
                        exfalso; omega
                      · intro h52
                        refine n_aload_n c_22_73 rfl ?_
                        refine n_getR c_22_74 sc_44.n rfl rfl rfl r_44_4 ?_
                        refine n_iload_n c_22_77 rfl ?_
                        refine n_iload c_22_78 rfl ?_
                        refine n_iastoreV hS39 c_22_80 sc_45.n rfl (by omega) (w_45 (by omega) (by omega)) ?_
                        intro M53 eM53 hS53
                        have g53_0 : M53 44 2 = M39 44 2 := by rw [eM53]; exact nu_a (by omega)
                        have g53_1 : M53 44 0 = M39 44 0 := by rw [eM53]; exact nu_a (by omega)
                        have g53_2 : M53 44 5 = M39 44 5 := by rw [eM53]; exact nu_a (by omega)
                        have g53_3 : M53 45 ((((8 - 1) + (-1)) + (-1)) + (-1)) = z44 := by rw [eM53]; exact nu_s _ _ _ _
                        refine n_goto c_22_81 ?_
                        refine n_iinc (L2 := [some (2, 44), some (2, 4), some (0, (((((8 - 1) + (-1)) + (-1)) + (-1)) + (-1))), some (0, z42), some (0, z44), some (0, z46)]) c_22_101 rfl rfl rfl ?_
                        refine n_goto c_22_104 ?_
                        refine n_iload_n c_22_17 rfl ?_
                        refine n_if0_lt c_22_18 (by omega) ?_ ?_
                        · intro h54
                          exfalso; omega
                        · intro h55
                          refine n_aload_n c_22_21 rfl ?_
                          refine n_getR c_22_22 sc_4.n rfl rfl rfl r_4_2 ?_
                          refine n_iload_n c_22_25 rfl ?_
                          refine n_ialoadV c_22_26 sc_5.n rfl rfl rfl (by omega) (t_5k (z := 0) hS53 (by omega) (by omega) (by omega)) ?_
                          intro z56 ez56 f57
                          refine n_istore_n (L2 := [some (2, 44), some (2, 4), some (0, (((((8 - 1) + (-1)) + (-1)) + (-1)) + (-1))), some (0, z56), some (0, z44), some (0, z46)]) c_22_27 rfl rfl ?_
                          refine n_aload_n c_22_28 rfl ?_
                          refine n_getR c_22_29 sc_4.n rfl rfl rfl r_4_3 ?_
                          refine n_iload_n c_22_32 rfl ?_
                          refine n_ialoadV c_22_33 sc_6.n rfl rfl rfl (by omega) (t_6k (z := 1) hS53 (by omega) (by omega) (by omega)) ?_
                          intro z58 ez58 f59
                          refine n_istore (L2 := [some (2, 44), some (2, 4), some (0, (((((8 - 1) + (-1)) + (-1)) + (-1)) + (-1))), some (0, z56), some (0, z58), some (0, z46)]) c_22_34 rfl rfl ?_
                          refine n_aload_n c_22_36 rfl ?_
                          refine n_getR c_22_37 sc_4.n rfl rfl rfl r_4_4 ?_
                          refine n_iload_n c_22_40 rfl ?_
                          refine n_ialoadV c_22_41 sc_7.n rfl rfl rfl (by omega) (t_7k (z := 1) hS53 (by omega) (by omega) (by omega)) ?_
                          intro z60 ez60 f61
                          refine n_istore (L2 := [some (2, 44), some (2, 4), some (0, (((((8 - 1) + (-1)) + (-1)) + (-1)) + (-1))), some (0, z56), some (0, z58), some (0, z60)]) c_22_42 rfl rfl ?_
                          refine n_iload_n c_22_44 rfl ?_
                          refine n_iload c_22_45 rfl ?_
                          refine n_if2_eq c_22_47 (by omega) (by omega) ?_ ?_
                          · intro h62
                            exfalso; omega
                          · intro h63
                            refine n_iload_n c_22_50 rfl ?_
                            refine n_iload c_22_51 rfl ?_
                            refine n_if2_ne c_22_53 (by omega) (by omega) ?_ ?_
                            · intro h64
                              refine n_iload c_22_66 rfl ?_
                              refine n_iload c_22_68 rfl ?_
                              refine n_if2_ne c_22_70 (by omega) (by omega) ?_ ?_
                              · intro h65
                                exfalso; omega
                              · intro h66
                                refine n_aload_n c_22_73 rfl ?_
                                refine n_getR c_22_74 sc_44.n rfl rfl rfl r_44_4 ?_
                                refine n_iload_n c_22_77 rfl ?_
                                refine n_iload c_22_78 rfl ?_
                                refine n_iastoreV hS53 c_22_80 sc_45.n rfl (by omega) (w_45 (by omega) (by omega)) ?_
                                intro M67 eM67 hS67
                                have g67_0 : M67 44 2 = M53 44 2 := by rw [eM67]; exact nu_a (by omega)
                                have g67_1 : M67 44 0 = M53 44 0 := by rw [eM67]; exact nu_a (by omega)
                                have g67_2 : M67 44 5 = M53 44 5 := by rw [eM67]; exact nu_a (by omega)
                                have g67_3 : M67 45 (((((8 - 1) + (-1)) + (-1)) + (-1)) + (-1)) = z58 := by rw [eM67]; exact nu_s _ _ _ _
                                refine n_goto c_22_81 ?_
                                refine n_iinc (L2 := [some (2, 44), some (2, 4), some (0, ((((((8 - 1) + (-1)) + (-1)) + (-1)) + (-1)) + (-1))), some (0, z56), some (0, z58), some (0, z60)]) c_22_101 rfl rfl rfl ?_
                                refine n_goto c_22_104 ?_
                                refine n_iload_n c_22_17 rfl ?_
                                refine n_if0_lt c_22_18 (by omega) ?_ ?_
                                · intro h68
                                  exfalso; omega
                                · intro h69
                                  refine n_aload_n c_22_21 rfl ?_
                                  refine n_getR c_22_22 sc_4.n rfl rfl rfl r_4_2 ?_
                                  refine n_iload_n c_22_25 rfl ?_
                                  refine n_ialoadV c_22_26 sc_5.n rfl rfl rfl (by omega) (t_5k (z := 0) hS67 (by omega) (by omega) (by omega)) ?_
                                  intro z70 ez70 f71
                                  refine n_istore_n (L2 := [some (2, 44), some (2, 4), some (0, ((((((8 - 1) + (-1)) + (-1)) + (-1)) + (-1)) + (-1))), some (0, z70), some (0, z58), some (0, z60)]) c_22_27 rfl rfl ?_
                                  refine n_aload_n c_22_28 rfl ?_
                                  refine n_getR c_22_29 sc_4.n rfl rfl rfl r_4_3 ?_
                                  refine n_iload_n c_22_32 rfl ?_
                                  refine n_ialoadV c_22_33 sc_6.n rfl rfl rfl (by omega) (t_6k (z := 1) hS67 (by omega) (by omega) (by omega)) ?_
                                  intro z72 ez72 f73
                                  refine n_istore (L2 := [some (2, 44), some (2, 4), some (0, ((((((8 - 1) + (-1)) + (-1)) + (-1)) + (-1)) + (-1))), some (0, z70), some (0, z72), some (0, z60)]) c_22_34 rfl rfl ?_
                                  refine n_aload_n c_22_36 rfl ?_
                                  refine n_getR c_22_37 sc_4.n rfl rfl rfl r_4_4 ?_
                                  refine n_iload_n c_22_40 rfl ?_
                                  refine n_ialoadV c_22_41 sc_7.n rfl rfl rfl (by omega) (t_7k (z := 0) hS67 (by omega) (by omega) (by omega)) ?_
                                  intro z74 ez74 f75
                                  refine n_istore (L2 := [some (2, 44), some (2, 4), some (0, ((((((8 - 1) + (-1)) + (-1)) + (-1)) + (-1)) + (-1))), some (0, z70), some (0, z72), some (0, z74)]) c_22_42 rfl rfl ?_
                                  refine n_iload_n c_22_44 rfl ?_
                                  refine n_iload c_22_45 rfl ?_
                                  refine n_if2_eq c_22_47 (by omega) (by omega) ?_ ?_
                                  · intro h76
                                    exfalso; omega
                                  · intro h77
                                    refine n_iload_n c_22_50 rfl ?_
                                    refine n_iload c_22_51 rfl ?_
                                    refine n_if2_ne c_22_53 (by omega) (by omega) ?_ ?_
                                    · intro h78
                                      exfalso; omega
                                    · intro h79
                                      refine n_aload_n c_22_56 rfl ?_
                                      refine n_getR c_22_57 sc_44.n rfl rfl rfl r_44_4 ?_
                                      refine n_iload_n c_22_60 rfl ?_
                                      refine n_iload_n c_22_61 rfl ?_
                                      refine n_iastoreV hS67 c_22_62 sc_45.n rfl (by omega) (w_45 (by omega) (by omega)) ?_
                                      intro M80 eM80 hS80
                                      have g80_0 : M80 44 2 = M67 44 2 := by rw [eM80]; exact nu_a (by omega)
                                      have g80_1 : M80 44 0 = M67 44 0 := by rw [eM80]; exact nu_a (by omega)
                                      have g80_2 : M80 44 5 = M67 44 5 := by rw [eM80]; exact nu_a (by omega)
                                      have g80_3 : M80 45 ((((((8 - 1) + (-1)) + (-1)) + (-1)) + (-1)) + (-1)) = z70 := by rw [eM80]; exact nu_s _ _ _ _
                                      refine n_goto c_22_63 ?_
                                      refine n_iinc (L2 := [some (2, 44), some (2, 4), some (0, (((((((8 - 1) + (-1)) + (-1)) + (-1)) + (-1)) + (-1)) + (-1))), some (0, z70), some (0, z72), some (0, z74)]) c_22_101 rfl rfl rfl ?_
                                      refine n_goto c_22_104 ?_
                                      refine n_iload_n c_22_17 rfl ?_
                                      refine n_if0_lt c_22_18 (by omega) ?_ ?_
                                      · intro h81
                                        exfalso; omega
                                      · intro h82
                                        refine n_aload_n c_22_21 rfl ?_
                                        refine n_getR c_22_22 sc_4.n rfl rfl rfl r_4_2 ?_
                                        refine n_iload_n c_22_25 rfl ?_
                                        refine n_ialoadV c_22_26 sc_5.n rfl rfl rfl (by omega) (t_5k (z := 0) hS80 (by omega) (by omega) (by omega)) ?_
                                        intro z83 ez83 f84
                                        refine n_istore_n (L2 := [some (2, 44), some (2, 4), some (0, (((((((8 - 1) + (-1)) + (-1)) + (-1)) + (-1)) + (-1)) + (-1))), some (0, z83), some (0, z72), some (0, z74)]) c_22_27 rfl rfl ?_
                                        refine n_aload_n c_22_28 rfl ?_
                                        refine n_getR c_22_29 sc_4.n rfl rfl rfl r_4_3 ?_
                                        refine n_iload_n c_22_32 rfl ?_
                                        refine n_ialoadV c_22_33 sc_6.n rfl rfl rfl (by omega) (t_6k (z := 0) hS80 (by omega) (by omega) (by omega)) ?_
                                        intro z85 ez85 f86
                                        refine n_istore (L2 := [some (2, 44), some (2, 4), some (0, (((((((8 - 1) + (-1)) + (-1)) + (-1)) + (-1)) + (-1)) + (-1))), some (0, z83), some (0, z85), some (0, z74)]) c_22_34 rfl rfl ?_
                                        refine n_aload_n c_22_36 rfl ?_
                                        refine n_getR c_22_37 sc_4.n rfl rfl rfl r_4_4 ?_
                                        refine n_iload_n c_22_40 rfl ?_
                                        refine n_ialoadV c_22_41 sc_7.n rfl rfl rfl (by omega) (t_7k (z := 1) hS80 (by omega) (by omega) (by omega)) ?_
                                        intro z87 ez87 f88
                                        refine n_istore (L2 := [some (2, 44), some (2, 4), some (0, (((((((8 - 1) + (-1)) + (-1)) + (-1)) + (-1)) + (-1)) + (-1))), some (0, z83), some (0, z85), some (0, z87)]) c_22_42 rfl rfl ?_
                                        refine n_iload_n c_22_44 rfl ?_
                                        refine n_iload c_22_45 rfl ?_
                                        refine n_if2_eq c_22_47 (by omega) (by omega) ?_ ?_
                                        · intro h89
                                          refine n_aload_n c_22_56 rfl ?_
                                          refine n_getR c_22_57 sc_44.n rfl rfl rfl r_44_4 ?_
                                          refine n_iload_n c_22_60 rfl ?_
                                          refine n_iload_n c_22_61 rfl ?_
                                          refine n_iastoreV hS80 c_22_62 sc_45.n rfl (by omega) (w_45 (by omega) (by omega)) ?_
                                          intro M90 eM90 hS90
                                          have g90_0 : M90 44 2 = M80 44 2 := by rw [eM90]; exact nu_a (by omega)
                                          have g90_1 : M90 44 0 = M80 44 0 := by rw [eM90]; exact nu_a (by omega)
                                          have g90_2 : M90 44 5 = M80 44 5 := by rw [eM90]; exact nu_a (by omega)
                                          have g90_3 : M90 45 (((((((8 - 1) + (-1)) + (-1)) + (-1)) + (-1)) + (-1)) + (-1)) = z83 := by rw [eM90]; exact nu_s _ _ _ _
                                          refine n_goto c_22_63 ?_
                                          refine n_iinc (L2 := [some (2, 44), some (2, 4), some (0, ((((((((8 - 1) + (-1)) + (-1)) + (-1)) + (-1)) + (-1)) + (-1)) + (-1))), some (0, z83), some (0, z85), some (0, z87)]) c_22_101 rfl rfl rfl ?_
                                          refine n_goto c_22_104 ?_
                                          refine n_iload_n c_22_17 rfl ?_
                                          refine n_if0_lt c_22_18 (by omega) ?_ ?_
                                          · intro h91
                                            exfalso; omega
                                          · intro h92
                                            refine n_aload_n c_22_21 rfl ?_
                                            refine n_getR c_22_22 sc_4.n rfl rfl rfl r_4_2 ?_
                                            refine n_iload_n c_22_25 rfl ?_
                                            refine n_ialoadV c_22_26 sc_5.n rfl rfl rfl (by omega) (t_5k (z := 0) hS90 (by omega) (by omega) (by omega)) ?_
                                            intro z93 ez93 f94
                                            refine n_istore_n (L2 := [some (2, 44), some (2, 4), some (0, ((((((((8 - 1) + (-1)) + (-1)) + (-1)) + (-1)) + (-1)) + (-1)) + (-1))), some (0, z93), some (0, z85), some (0, z87)]) c_22_27 rfl rfl ?_
                                            refine n_aload_n c_22_28 rfl ?_
                                            refine n_getR c_22_29 sc_4.n rfl rfl rfl r_4_3 ?_
                                            refine n_iload_n c_22_32 rfl ?_
                                            refine n_ialoadV c_22_33 sc_6.n rfl rfl rfl (by omega) (t_6k (z := 0) hS90 (by omega) (by omega) (by omega)) ?_
                                            intro z95 ez95 f96
                                            refine n_istore (L2 := [some (2, 44), some (2, 4), some (0, ((((((((8 - 1) + (-1)) + (-1)) + (-1)) + (-1)) + (-1)) + (-1)) + (-1))), some (0, z93), some (0, z95), some (0, z87)]) c_22_34 rfl rfl ?_
                                            refine n_aload_n c_22_36 rfl ?_
                                            refine n_getR c_22_37 sc_4.n rfl rfl rfl r_4_4 ?_
                                            refine n_iload_n c_22_40 rfl ?_
                                            refine n_ialoadV c_22_41 sc_7.n rfl rfl rfl (by omega) (t_7k (z := 0) hS90 (by omega) (by omega) (by omega)) ?_
                                            intro z97 ez97 f98
                                            refine n_istore (L2 := [some (2, 44), some (2, 4), some (0, ((((((((8 - 1) + (-1)) + (-1)) + (-1)) + (-1)) + (-1)) + (-1)) + (-1))), some (0, z93), some (0, z95), some (0, z97)]) c_22_42 rfl rfl ?_
                                            refine n_iload_n c_22_44 rfl ?_
                                            refine n_iload c_22_45 rfl ?_
                                            refine n_if2_eq c_22_47 (by omega) (by omega) ?_ ?_
                                            · intro h99
                                              refine n_aload_n c_22_56 rfl ?_
                                              refine n_getR c_22_57 sc_44.n rfl rfl rfl r_44_4 ?_
                                              refine n_iload_n c_22_60 rfl ?_
                                              refine n_iload_n c_22_61 rfl ?_
                                              refine n_iastoreV hS90 c_22_62 sc_45.n rfl (by omega) (w_45 (by omega) (by omega)) ?_
                                              intro M100 eM100 hS100
                                              have g100_0 : M100 44 2 = M90 44 2 := by rw [eM100]; exact nu_a (by omega)
                                              have g100_1 : M100 44 0 = M90 44 0 := by rw [eM100]; exact nu_a (by omega)
                                              have g100_2 : M100 44 5 = M90 44 5 := by rw [eM100]; exact nu_a (by omega)
                                              have g100_3 : M100 45 ((((((((8 - 1) + (-1)) + (-1)) + (-1)) + (-1)) + (-1)) + (-1)) + (-1)) = z93 := by rw [eM100]; exact nu_s _ _ _ _
                                              refine n_goto c_22_63 ?_
                                              refine n_iinc (L2 := [some (2, 44), some (2, 4), some (0, (((((((((8 - 1) + (-1)) + (-1)) + (-1)) + (-1)) + (-1)) + (-1)) + (-1)) + (-1))), some (0, z93), some (0, z95), some (0, z97)]) c_22_101 rfl rfl rfl ?_
                                              refine n_goto c_22_104 ?_
                                              refine n_iload_n c_22_17 rfl ?_
                                              refine n_if0_lt c_22_18 (by omega) ?_ ?_
                                              · intro h101
                                                exact n_rV c_22_107 rfl hS100
                                              · intro h102
                                                exfalso; omega
                                            · intro h103
                                              exfalso; omega
                                        · intro h104
                                          exfalso; omega
                            · intro h105
                              exfalso; omega
                    · intro h106
                      exfalso; omega
        · intro h107
          exfalso; omega
    · intro h108
      exfalso; omega
