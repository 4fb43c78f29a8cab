/-! What the methods tell. -/
set_option maxHeartbeats 4000000 in
theorem isMadeF_3 {xs : List Int32} {e : Nat} {ac : Int} {M0 M : nM} {n : Int} (hS : Sf 3 ac M0 M) (hn : 1 ≤ n ∧ n ≤ 2) : nW xs e 13 0 [some (2, 4), some (0, n)] [] M (nPI fun z M1 => M = M1 ∧ (1 ≤ z ∧ z ≤ 1)) := by
  have hd : (3 : Int) = 2 ∨ (3 : Int) = 3 := by decide
  have hac := hS.2.2.2.2
  refine n_iload_n c_13_0 rfl (n_iconst c_13_1 ?_)
  refine n_if2_lt c_13_2 (by omega) (by omega) ?_ ?_
  · intro h1
    exfalso; omega
  · intro h2
    refine n_iload_n c_13_5 rfl (n_aload_n c_13_6 rfl (n_getV (bi := 0) c_13_7 sc_4.n rfl rfl rfl (t_4_0 hS) ?_))
    intro z3 ez3 f4
    obtain rfl : z3 = 3 := by omega
    refine n_iconst c_13_10 ?_
    refine n_if2_ne c_13_11 (by omega) (by omega) ?_ ?_
    · intro h5
      refine n_iconst c_13_18 ?_
      refine n_if2_gt c_13_19 (by omega) (by omega) ?_ ?_
      · intro h6
        exfalso; omega
      · intro h7
        refine n_iconst c_13_22 (n_goto c_13_23 ?_)
        exact n_rZ c_13_27 rfl (by omega) ⟨rfl, by omega⟩
    · intro h8
      exfalso; omega

set_option maxHeartbeats 4000000 in
theorem misMakeF_3 {xs : List Int32} {e : Nat} {ac : Int} {M0 M : nM} {n : Int} (hS : Sf 3 ac M0 M) (hdm : M0 112 0 = 3) (hn : 1 ≤ n ∧ n ≤ 2) : nW xs e 161 0 [some (2, 112), some (0, n)] [] M (nPI fun z M1 => M = M1 ∧ (1 ≤ z ∧ z ≤ 1)) := by
  have hd : (3 : Int) = 2 ∨ (3 : Int) = 3 := by decide
  have hac := hS.2.2.2.2
  refine n_iload_n c_161_0 rfl (n_iconst c_161_1 ?_)
  refine n_if2_lt c_161_2 (by omega) (by omega) ?_ ?_
  · intro h1
    exfalso; omega
  · intro h2
    refine n_iload_n c_161_5 rfl (n_aload_n c_161_6 rfl (n_getV (bi := 0) c_161_7 sc_112.n rfl rfl rfl (t_dm hS hdm) ?_))
    intro z3 ez3 f4
    obtain rfl : z3 = 3 := by omega
    refine n_iconst c_161_10 ?_
    refine n_if2_ne c_161_11 (by omega) (by omega) ?_ ?_
    · intro h5
      refine n_iconst c_161_18 ?_
      refine n_if2_gt c_161_19 (by omega) (by omega) ?_ ?_
      · intro h6
        exfalso; omega
      · intro h7
        refine n_iconst c_161_22 (n_goto c_161_23 ?_)
        exact n_rZ c_161_27 rfl (by omega) ⟨rfl, by omega⟩
    · intro h8
      exfalso; omega

set_option maxHeartbeats 4000000 in
theorem isMadeL_3 {xs : List Int32} {e : Nat} {ac : Int} {M0 M : nM} {n : Int} (hS : Sf 3 ac M0 M) (hn : -2147483648 ≤ n ∧ n ≤ 0) : nW xs e 13 0 [some (2, 4), some (0, n)] [] M (nPI fun z M1 => M = M1 ∧ (0 ≤ z ∧ z ≤ 0)) := by
  have hd : (3 : Int) = 2 ∨ (3 : Int) = 3 := by decide
  have hac := hS.2.2.2.2
  refine n_iload_n c_13_0 rfl (n_iconst c_13_1 ?_)
  refine n_if2_lt c_13_2 (by omega) (by omega) ?_ ?_
  · intro h1
    refine n_iconst c_13_26 ?_
    exact n_rZ c_13_27 rfl (by omega) ⟨rfl, by omega⟩
  · intro h2
    exfalso; omega

set_option maxHeartbeats 4000000 in
theorem misMakeL_3 {xs : List Int32} {e : Nat} {ac : Int} {M0 M : nM} {n : Int} (hS : Sf 3 ac M0 M) (hdm : M0 112 0 = 3) (hn : -2147483648 ≤ n ∧ n ≤ 0) : nW xs e 161 0 [some (2, 112), some (0, n)] [] M (nPI fun z M1 => M = M1 ∧ (0 ≤ z ∧ z ≤ 0)) := by
  have hd : (3 : Int) = 2 ∨ (3 : Int) = 3 := by decide
  have hac := hS.2.2.2.2
  refine n_iload_n c_161_0 rfl (n_iconst c_161_1 ?_)
  refine n_if2_lt c_161_2 (by omega) (by omega) ?_ ?_
  · intro h1
    refine n_iconst c_161_26 ?_
    exact n_rZ c_161_27 rfl (by omega) ⟨rfl, by omega⟩
  · intro h2
    exfalso; omega

set_option maxHeartbeats 4000000 in
theorem isMadeH_3 {xs : List Int32} {e : Nat} {ac : Int} {M0 M : nM} {n : Int} (hS : Sf 3 ac M0 M) (hn : 3 ≤ n ∧ n ≤ 2147483647) : nW xs e 13 0 [some (2, 4), some (0, n)] [] M (nPI fun z M1 => M = M1 ∧ (0 ≤ z ∧ z ≤ 0)) := by
  have hd : (3 : Int) = 2 ∨ (3 : Int) = 3 := by decide
  have hac := hS.2.2.2.2
  refine n_iload_n c_13_0 rfl (n_iconst c_13_1 ?_)
  refine n_if2_lt c_13_2 (by omega) (by omega) ?_ ?_
  · intro h1
    exfalso; omega
  · intro h2
    refine n_iload_n c_13_5 rfl (n_aload_n c_13_6 rfl (n_getV (bi := 0) c_13_7 sc_4.n rfl rfl rfl (t_4_0 hS) ?_))
    intro z3 ez3 f4
    obtain rfl : z3 = 3 := by omega
    refine n_iconst c_13_10 ?_
    refine n_if2_ne c_13_11 (by omega) (by omega) ?_ ?_
    · intro h5
      refine n_iconst c_13_18 ?_
      refine n_if2_gt c_13_19 (by omega) (by omega) ?_ ?_
      · intro h6
        refine n_iconst c_13_26 ?_
        exact n_rZ c_13_27 rfl (by omega) ⟨rfl, by omega⟩
      · intro h7
        exfalso; omega
    · intro h8
      exfalso; omega

set_option maxHeartbeats 4000000 in
theorem misMakeH_3 {xs : List Int32} {e : Nat} {ac : Int} {M0 M : nM} {n : Int} (hS : Sf 3 ac M0 M) (hdm : M0 112 0 = 3) (hn : 3 ≤ n ∧ n ≤ 2147483647) : nW xs e 161 0 [some (2, 112), some (0, n)] [] M (nPI fun z M1 => M = M1 ∧ (0 ≤ z ∧ z ≤ 0)) := by
  have hd : (3 : Int) = 2 ∨ (3 : Int) = 3 := by decide
  have hac := hS.2.2.2.2
  refine n_iload_n c_161_0 rfl (n_iconst c_161_1 ?_)
  refine n_if2_lt c_161_2 (by omega) (by omega) ?_ ?_
  · intro h1
    exfalso; omega
  · intro h2
    refine n_iload_n c_161_5 rfl (n_aload_n c_161_6 rfl (n_getV (bi := 0) c_161_7 sc_112.n rfl rfl rfl (t_dm hS hdm) ?_))
    intro z3 ez3 f4
    obtain rfl : z3 = 3 := by omega
    refine n_iconst c_161_10 ?_
    refine n_if2_ne c_161_11 (by omega) (by omega) ?_ ?_
    · intro h5
      refine n_iconst c_161_18 ?_
      refine n_if2_gt c_161_19 (by omega) (by omega) ?_ ?_
      · intro h6
        refine n_iconst c_161_26 ?_
        exact n_rZ c_161_27 rfl (by omega) ⟨rfl, by omega⟩
      · intro h7
        exfalso; omega
    · intro h8
      exfalso; omega

set_option maxHeartbeats 4000000 in
theorem findKeepersX1_3 {xs : List Int32} {e : Nat} {ac : Int} {M : nM} {m : Int} {Ms : nM} (hS : Sf 3 ac M M) (hm : -2147483648 ≤ m ∧ m ≤ 2147483647) (hms : M = Ms) (hxl : ∀ l : Int, 0 ≤ l → l < Ms 3 15 → LawOk 3 (79 + 2 * l) Ms) (hkp : Ms 3 17 = 1 → Ms 46 1 = KNc 3 1 (Ms 3 16) Ms ∧ BK 3 1 (Ms 3 16) Ms Ms) : nW xs (e + 30) 132 0 [some (2, 3), some (0, m), some (0, 1), none] [] M (nPV fun M1 => Sf 3 ac M1 M1 ∧ (cKp 3 1 m Ms M1)) := by
  have hd : (3 : Int) = 2 ∨ (3 : Int) = 3 := by decide
  have hac := hS.2.2.2.2
  have t15 := t_3_15 (hms ▸ hS)
  refine n_iload_n c_132_0 rfl (n_iconst c_132_1 (n_aload_n c_132_2 rfl (n_getV (bi := 15) c_132_3 sc_3.n rfl rfl rfl (t_3_15 hS) ?_)))
  intro z1 ez1 f2
  refine n_i_ishl c_132_6 rfl ?_
  have f3 := n_shl_1 (y := z1) (a := 0) (b := 12) (by decide) (by omega)
  generalize gz4 : (n_shl 1 z1) = z4 at f3 ⊢
  refine n_iconst c_132_7 (n_isub c_132_8 rfl (n_i_iand c_132_9 rfl ?_))
  have f5 := n_and_y (x := m) (y := (z4 - 1)) (by omega)
  generalize gz6 : (n_and m (z4 - 1)) = z6 at f5 ⊢
  have kz : z6 = kmask m (Ms 3 15) := by unfold kmask; rw [← gz6, ← gz4, ez1, hms]
  refine n_istore_n (L2 := [some (2, 3), some (0, m), some (0, 1), some (0, z6)]) c_132_10 rfl rfl (n_aload_n c_132_11 rfl (n_getV (bi := 17) c_132_12 sc_3.n rfl rfl rfl (t_3_17 hS) ?_))
  intro z7 ez7 f8
  refine n_iload_n c_132_15 rfl ?_
  refine n_if2_ne c_132_16 (by omega) (by omega) ?_ ?_
  · intro h9
    refine n_aload_n c_132_28 rfl (n_getR c_132_29 sc_3.n rfl rfl rfl r_3_8 (n_iload_n c_132_32 rfl (n_aload_n c_132_33 rfl (n_getR c_132_34 sc_3.n rfl rfl rfl r_3_0 (n_v2V c_132_37 rfl sc_44.n rfl rfl rfl rfl (beFreeX1_3 (Mz := M) hS (by rfl)) ?_)))))
    intro  M10 hP11
    obtain ⟨hS10, f11p0, f11p1, f11p2⟩ := hP11
    have hS10c := hS10.2.2.2.1.1
    have hS10 := hS10.refl
    have bf1 := f11p0
    have bfr : ∀ a i : Int, a ≠ 44 → a ≠ 45 → M10 a i = Ms a i := fun a i h1 h2 => by rw [f11p2 a i h1 h2, hms]
    refine n_aload_n c_132_40 rfl (n_getR c_132_41 sc_3.n rfl rfl rfl r_3_7 (n_aload_n c_132_44 rfl (n_getR c_132_45 sc_3.n rfl rfl rfl r_3_0 (n_getV (bi := 0) c_132_48 sc_4.n rfl rfl rfl (t_4_0 hS10) ?_))))
    intro z12 ez12 f13
    obtain rfl : z12 = 3 := by omega
    refine n_aload_n c_132_51 rfl (n_getR c_132_52 sc_3.n rfl rfl rfl r_3_8 (n_getV (bi := 2) c_132_55 sc_44.n rfl rfl rfl (t_44_2 hS10) ?_))
    intro z14 ez14 f15
    refine n_v2V c_132_58 rfl sc_38.n rfl rfl rfl rfl (nstartX_3 (c := z14) hS10 (by omega)) ?_
    intro  M16 hP17
    obtain ⟨hS16, f17p0, f17p1, f17p2, f17p3, f17p4⟩ := hP17
    have hS16c := hS16.2.2.2.1.1
    have hS16 := hS16.refl
    have nfr : ∀ a i : Int, a ≠ 38 → a ≠ 40 → a ≠ 44 → a ≠ 45 → M16 a i = Ms a i := fun a i h1 h2 h3 h4 => by rw [f17p4 a i h1 h2]; exact bfr a i h3 h4
    have n44 : M16 44 0 = 1 := by rw [f17p4 44 0 (by omega) (by omega)]; exact bf1.1
    have n45 : ∀ i : Int, 0 ≤ i → i < 3 * 3 * 3 → M16 45 i = 3 - 1 - i % 3 := fun i h0 h1 => by rw [f17p4 45 i (by omega) (by omega), f11p1 i h0 (by omega)] <;> omega
    have n40 : ∀ i : Int, 0 ≤ i → i < 729 → M16 40 i = ARd 3 := fun i h0 h1 => by rw [f17p3 i h0 h1]; rfl
    have n6 : M16 38 6 = 3 := by rw [f17p1]; omega
    refine n_aload_n c_132_61 rfl (n_iload_n c_132_62 rfl ?_)
    refine n_v1V c_132_63 rfl sc_3.n rfl rfl rfl rfl (restrainFormX_3 (m := z6) (Ms := M16) (V := 3) hS16 (by omega) (by rfl) (by exact fun l h0 h1 => (hxl l h0 (by have y := nfr 3 15 (by omega) (by omega) (by omega) (by omega); omega)).of (fun a i u1 u2 => nfr a i (by omega) (by omega) (by omega) (by omega))) (by exact FMk.free (k := 1) (by decide) (by decide) (by decide) n44 n45) (by omega) (by exact Aok.init (by decide) n40) (by rw [f17p4 44 5 (by omega) (by omega)]; exact bf1.2.2.2.2)) ?_
    intro  M18 hP19
    obtain ⟨hS18, f19p0⟩ := hP19
    have hS18c := hS18.2.2.2.1.1
    have hS18 := hS18.refl
    have rf := f19p0
    refine n_aload_n c_132_66 rfl (n_getR c_132_67 sc_3.n rfl rfl rfl r_3_7 ?_)
    refine n_v0V c_132_70 rfl sc_38.n rfl rfl rfl rfl (orderX_3 (Ms := M18) hS18 (by rfl) (by rw [rf.2 38 7 (by omega)]; exact f17p2) (by have y := rf.2 38 6 (by omega); omega)) ?_
    intro  M20 hP21
    obtain ⟨hS20, f21p0, f21p1⟩ := hP21
    have hS20c := hS20.2.2.2.1.1
    have hS20 := hS20.refl
    have nst : NST 3 3 M20 := NST.mk3 (by omega) (by rw [rf.2 38 5 (by omega)]; exact f17p0) (by rw [rf.2 38 6 (by omega)]; exact n6) rf.1 f21p1 f21p0
    refine n_aload_n c_132_73 rfl (n_getR c_132_74 sc_3.n rfl rfl rfl r_3_7 (n_aload_n c_132_77 rfl (n_getR c_132_78 sc_3.n rfl rfl rfl r_3_9 (n_v1V c_132_81 rfl sc_38.n rfl rfl rfl rfl (findAllX46_3 (Ms := M20) (V := 3) hS20 (by rfl) (by exact nst) (by decide)) ?_))))
    intro  M22 hP23
    obtain ⟨hS22, f23p0, f23p1, f23p2⟩ := hP23
    refine n_aload_n c_132_84 rfl (n_iload_n c_132_85 rfl (n_putM (bi := 17) hS22 c_132_86 sc_3.n rfl rfl rfl rfl (m_3_17 (by omega)) ?_))
    intro M24 eM24 hS24
    have g24_0 : M24 3 17 = 1 := by rw [eM24]; exact nu_s _ _ _ _
    refine n_aload_n c_132_89 rfl (n_iload_n c_132_90 rfl (n_putM (bi := 16) hS24 c_132_91 sc_3.n rfl rfl rfl rfl (m_3_16 (by omega)) ?_))
    intro M25 eM25 hS25
    have g25_0 : M25 3 17 = M24 3 17 := by rw [eM25]; exact nu_i (by omega)
    have g25_1 : M25 3 16 = z6 := by rw [eM25]; exact nu_s _ _ _ _
    exact n_rV c_132_94 rfl ⟨hS25, by exact ⟨by rw [eM25, nu_i (by omega), eM24, nu_s], by rw [eM25, nu_s]; exact kz, by rw [eM25, nu_a (by omega), eM24, nu_a (by omega), f23p0, gall_of (fun i => f21p1 40 i (by omega) (by omega) (by omega)), gall_kn (k := 1) (by decide) (by decide) (by decide) (by decide) rf n40 n44 n45, kz]; exact KNc.of (fun a i q => nfr a i (by omega) (by omega) (by omega) (by omega)), fun a i hc => by unfold core0 at hc; rw [eM25, nu_e, if_neg (by omega), eM24, nu_e, if_neg (by omega), f23p1 a i (by omega) (by omega) (by omega), f21p1 a i (by omega) (by omega) (by omega), rf.2 a i (by omega)]; exact nfr a i (by omega) (by omega) (by omega) (by omega), by rw [← kz]; exact BK.mk (k := 1) (by decide) (by decide) (by decide) (by decide) rf n40 n44 n45 (fun m m0 m1 => by unfold wbt; rw [eM25, nu_a (by omega), eM24, nu_a (by omega)]; have y := f23p2 m m0 m1; rw [show (fun i => M20 40 i) = fun i => M18 40 i from funext fun i => f21p1 40 i (by omega) (by omega) (by omega)] at y; exact y) (fun a i q => nfr a i (by omega) (by omega) (by omega) (by omega))⟩⟩
  · intro h26
    refine n_aload_n c_132_19 rfl (n_getV (bi := 16) c_132_20 sc_3.n rfl rfl rfl (t_3_16 hS) ?_)
    intro z27 ez27 f28
    refine n_iload_n c_132_23 rfl ?_
    refine n_if2_ne c_132_24 (by omega) (by omega) ?_ ?_
    · intro h29
      refine n_aload_n c_132_28 rfl (n_getR c_132_29 sc_3.n rfl rfl rfl r_3_8 (n_iload_n c_132_32 rfl (n_aload_n c_132_33 rfl (n_getR c_132_34 sc_3.n rfl rfl rfl r_3_0 (n_v2V c_132_37 rfl sc_44.n rfl rfl rfl rfl (beFreeX1_3 (Mz := M) hS (by rfl)) ?_)))))
      intro  M30 hP31
      obtain ⟨hS30, f31p0, f31p1, f31p2⟩ := hP31
      have hS30c := hS30.2.2.2.1.1
      have hS30 := hS30.refl
      have hS30k0 := hS30c 3 17 (by unfold core; omega)
      have bf1 := f31p0
      have bfr : ∀ a i : Int, a ≠ 44 → a ≠ 45 → M30 a i = Ms a i := fun a i h1 h2 => by rw [f31p2 a i h1 h2, hms]
      refine n_aload_n c_132_40 rfl (n_getR c_132_41 sc_3.n rfl rfl rfl r_3_7 (n_aload_n c_132_44 rfl (n_getR c_132_45 sc_3.n rfl rfl rfl r_3_0 (n_getV (bi := 0) c_132_48 sc_4.n rfl rfl rfl (t_4_0 hS30) ?_))))
      intro z32 ez32 f33
      obtain rfl : z32 = 3 := by omega
      refine n_aload_n c_132_51 rfl (n_getR c_132_52 sc_3.n rfl rfl rfl r_3_8 (n_getV (bi := 2) c_132_55 sc_44.n rfl rfl rfl (t_44_2 hS30) ?_))
      intro z34 ez34 f35
      refine n_v2V c_132_58 rfl sc_38.n rfl rfl rfl rfl (nstartX_3 (c := z34) hS30 (by omega)) ?_
      intro  M36 hP37
      obtain ⟨hS36, f37p0, f37p1, f37p2, f37p3, f37p4⟩ := hP37
      have hS36c := hS36.2.2.2.1.1
      have hS36 := hS36.refl
      have hS36k0 := hS36c 3 17 (by unfold core; omega)
      have nfr : ∀ a i : Int, a ≠ 38 → a ≠ 40 → a ≠ 44 → a ≠ 45 → M36 a i = Ms a i := fun a i h1 h2 h3 h4 => by rw [f37p4 a i h1 h2]; exact bfr a i h3 h4
      have n44 : M36 44 0 = 1 := by rw [f37p4 44 0 (by omega) (by omega)]; exact bf1.1
      have n45 : ∀ i : Int, 0 ≤ i → i < 3 * 3 * 3 → M36 45 i = 3 - 1 - i % 3 := fun i h0 h1 => by rw [f37p4 45 i (by omega) (by omega), f31p1 i h0 (by omega)] <;> omega
      have n40 : ∀ i : Int, 0 ≤ i → i < 729 → M36 40 i = ARd 3 := fun i h0 h1 => by rw [f37p3 i h0 h1]; rfl
      have n6 : M36 38 6 = 3 := by rw [f37p1]; omega
      refine n_aload_n c_132_61 rfl (n_iload_n c_132_62 rfl ?_)
      refine n_v1V c_132_63 rfl sc_3.n rfl rfl rfl rfl (restrainFormX_3 (m := z6) (Ms := M36) (V := 3) hS36 (by omega) (by rfl) (by exact fun l h0 h1 => (hxl l h0 (by have y := nfr 3 15 (by omega) (by omega) (by omega) (by omega); omega)).of (fun a i u1 u2 => nfr a i (by omega) (by omega) (by omega) (by omega))) (by exact FMk.free (k := 1) (by decide) (by decide) (by decide) n44 n45) (by omega) (by exact Aok.init (by decide) n40) (by rw [f37p4 44 5 (by omega) (by omega)]; exact bf1.2.2.2.2)) ?_
      intro  M38 hP39
      obtain ⟨hS38, f39p0⟩ := hP39
      have hS38c := hS38.2.2.2.1.1
      have hS38 := hS38.refl
      have hS38k0 := hS38c 3 17 (by unfold core; omega)
      have rf := f39p0
      refine n_aload_n c_132_66 rfl (n_getR c_132_67 sc_3.n rfl rfl rfl r_3_7 ?_)
      refine n_v0V c_132_70 rfl sc_38.n rfl rfl rfl rfl (orderX_3 (Ms := M38) hS38 (by rfl) (by rw [rf.2 38 7 (by omega)]; exact f37p2) (by have y := rf.2 38 6 (by omega); omega)) ?_
      intro  M40 hP41
      obtain ⟨hS40, f41p0, f41p1⟩ := hP41
      have hS40c := hS40.2.2.2.1.1
      have hS40 := hS40.refl
      have hS40k0 := hS40c 3 17 (by unfold core; omega)
      have nst : NST 3 3 M40 := NST.mk3 (by omega) (by rw [rf.2 38 5 (by omega)]; exact f37p0) (by rw [rf.2 38 6 (by omega)]; exact n6) rf.1 f41p1 f41p0
      refine n_aload_n c_132_73 rfl (n_getR c_132_74 sc_3.n rfl rfl rfl r_3_7 (n_aload_n c_132_77 rfl (n_getR c_132_78 sc_3.n rfl rfl rfl r_3_9 (n_v1V c_132_81 rfl sc_38.n rfl rfl rfl rfl (findAllX46_3 (Ms := M40) (V := 3) hS40 (by rfl) (by exact nst) (by decide)) ?_))))
      intro  M42 hP43
      obtain ⟨hS42, f43p0, f43p1, f43p2⟩ := hP43
      refine n_aload_n c_132_84 rfl (n_iload_n c_132_85 rfl (n_putM (bi := 17) hS42 c_132_86 sc_3.n rfl rfl rfl rfl (m_3_17 (by omega)) ?_))
      intro M44 eM44 hS44
      have g44_0 : M44 3 17 = 1 := by rw [eM44]; exact nu_s _ _ _ _
      refine n_aload_n c_132_89 rfl (n_iload_n c_132_90 rfl (n_putM (bi := 16) hS44 c_132_91 sc_3.n rfl rfl rfl rfl (m_3_16 (by omega)) ?_))
      intro M45 eM45 hS45
      have g45_0 : M45 3 17 = M44 3 17 := by rw [eM45]; exact nu_i (by omega)
      have g45_1 : M45 3 16 = z6 := by rw [eM45]; exact nu_s _ _ _ _
      exact n_rV c_132_94 rfl ⟨hS45, by exact ⟨by rw [eM45, nu_i (by omega), eM44, nu_s], by rw [eM45, nu_s]; exact kz, by rw [eM45, nu_a (by omega), eM44, nu_a (by omega), f43p0, gall_of (fun i => f41p1 40 i (by omega) (by omega) (by omega)), gall_kn (k := 1) (by decide) (by decide) (by decide) (by decide) rf n40 n44 n45, kz]; exact KNc.of (fun a i q => nfr a i (by omega) (by omega) (by omega) (by omega)), fun a i hc => by unfold core0 at hc; rw [eM45, nu_e, if_neg (by omega), eM44, nu_e, if_neg (by omega), f43p1 a i (by omega) (by omega) (by omega), f41p1 a i (by omega) (by omega) (by omega), rf.2 a i (by omega)]; exact nfr a i (by omega) (by omega) (by omega) (by omega), by rw [← kz]; exact BK.mk (k := 1) (by decide) (by decide) (by decide) (by decide) rf n40 n44 n45 (fun m m0 m1 => by unfold wbt; rw [eM45, nu_a (by omega), eM44, nu_a (by omega)]; have y := f43p2 m m0 m1; rw [show (fun i => M40 40 i) = fun i => M38 40 i from funext fun i => f41p1 40 i (by omega) (by omega) (by omega)] at y; exact y) (fun a i q => nfr a i (by omega) (by omega) (by omega) (by omega))⟩⟩
    · intro h46
      exact n_rV c_132_27 rfl ⟨hS, by rw [hms] at *; exact ⟨by omega, by omega, by rw [← kz, ← show Ms 3 16 = z6 by omega]; exact (hkp (by omega)).1, fun _ _ _ => rfl, by rw [← kz, ← show Ms 3 16 = z6 by omega]; exact (hkp (by omega)).2⟩⟩

set_option maxHeartbeats 4000000 in
theorem actsOfX1_3 {xs : List Int32} {e : Nat} {ac : Int} {M : nM} {m gd : Int} {Ms : nM} (hS : Sf 3 ac M M) (hm : -2147483648 ≤ m ∧ m ≤ 2147483647) (hgd : M 112 0 = gd) (hms : M = Ms) (hxl : ∀ l : Int, 0 ≤ l → l < Ms 3 15 → LawOk 3 (79 + 2 * l) Ms) (hkp : Ms 3 17 = 1 → Ms 46 1 = KNc 3 1 (Ms 3 16) Ms ∧ BK 3 1 (Ms 3 16) Ms Ms) : nW xs (e + 31) 107 0 [some (2, 3), some (0, m), some (0, 1)] [] M (nPI fun z M1 => Sf 3 ac M1 M1 ∧ (-2147483648 ≤ z ∧ z ≤ 2147483647) ∧ (M1 112 0 = gd) ∧ (cKp 3 1 m Ms M1) ∧ (z = M1 46 1)) := by
  have hd : (3 : Int) = 2 ∨ (3 : Int) = 3 := by decide
  have hac := hS.2.2.2.2
  refine n_aload_n c_107_0 rfl (n_getR c_107_1 sc_3.n rfl rfl rfl r_3_0 (n_iload_n c_107_4 rfl (n_v1I c_107_5 rfl sc_4.n rfl rfl rfl rfl (isMadeF_3 (n := 1) hS (by omega)) ?_)))
  intro z1 M2 hP3
  obtain ⟨eM, f3⟩ := hP3
  subst eM
  obtain rfl : z1 = 1 := by omega
  refine n_if0_ne c_107_8 (by omega) ?_ ?_
  · intro h4
    refine n_aload_n c_107_13 rfl (n_iload_n c_107_14 rfl (n_iload_n c_107_15 rfl ?_))
    refine n_v2V c_107_16 rfl sc_3.n rfl rfl rfl rfl (findKeepersX1_3 (m := m) (Ms := M) hS (by omega) (by rfl) (by rw [hms]; exact hxl) (by rw [hms]; exact hkp)) ?_
    intro  M5 hP6
    obtain ⟨hS5, f6p0⟩ := hP6
    have g112 := f6p0.2.2.2.1 112 0 (by omega)
    refine n_aload_n c_107_19 rfl (n_getR c_107_20 sc_3.n rfl rfl rfl r_3_9 (n_getV (bi := 1) c_107_23 sc_46.n rfl rfl rfl (t_46_1 hS5) ?_))
    intro z7 ez7 f8
    exact n_rI c_107_26 rfl ⟨hS5, by omega, by omega, by have y := f6p0; rw [hms] at y; exact y, by exact ez7⟩
  · intro h9
    exfalso; omega

set_option maxHeartbeats 4000000 in
theorem findKeepersX2_3 {xs : List Int32} {e : Nat} {ac : Int} {M : nM} {m : Int} {Ms : nM} (hS : Sf 3 ac M M) (hm : -2147483648 ≤ m ∧ m ≤ 2147483647) (hms : M = Ms) (hxl : ∀ l : Int, 0 ≤ l → l < Ms 3 15 → LawOk 3 (79 + 2 * l) Ms) (hkp : Ms 3 17 = 2 → Ms 46 1 = KNc 3 2 (Ms 3 16) Ms ∧ BK 3 2 (Ms 3 16) Ms Ms) : nW xs (e + 30) 132 0 [some (2, 3), some (0, m), some (0, 2), none] [] M (nPV fun M1 => Sf 3 ac M1 M1 ∧ (cKp 3 2 m Ms M1)) := by
  have hd : (3 : Int) = 2 ∨ (3 : Int) = 3 := by decide
  have hac := hS.2.2.2.2
  have t15 := t_3_15 (hms ▸ hS)
  refine n_iload_n c_132_0 rfl (n_iconst c_132_1 (n_aload_n c_132_2 rfl (n_getV (bi := 15) c_132_3 sc_3.n rfl rfl rfl (t_3_15 hS) ?_)))
  intro z1 ez1 f2
  refine n_i_ishl c_132_6 rfl ?_
  have f3 := n_shl_1 (y := z1) (a := 0) (b := 12) (by decide) (by omega)
  generalize gz4 : (n_shl 1 z1) = z4 at f3 ⊢
  refine n_iconst c_132_7 (n_isub c_132_8 rfl (n_i_iand c_132_9 rfl ?_))
  have f5 := n_and_y (x := m) (y := (z4 - 1)) (by omega)
  generalize gz6 : (n_and m (z4 - 1)) = z6 at f5 ⊢
  have kz : z6 = kmask m (Ms 3 15) := by unfold kmask; rw [← gz6, ← gz4, ez1, hms]
  refine n_istore_n (L2 := [some (2, 3), some (0, m), some (0, 2), some (0, z6)]) c_132_10 rfl rfl (n_aload_n c_132_11 rfl (n_getV (bi := 17) c_132_12 sc_3.n rfl rfl rfl (t_3_17 hS) ?_))
  intro z7 ez7 f8
  refine n_iload_n c_132_15 rfl ?_
  refine n_if2_ne c_132_16 (by omega) (by omega) ?_ ?_
  · intro h9
    refine n_aload_n c_132_28 rfl (n_getR c_132_29 sc_3.n rfl rfl rfl r_3_8 (n_iload_n c_132_32 rfl (n_aload_n c_132_33 rfl (n_getR c_132_34 sc_3.n rfl rfl rfl r_3_0 (n_v2V c_132_37 rfl sc_44.n rfl rfl rfl rfl (beFreeX2_3 (Mz := M) hS (by rfl)) ?_)))))
    intro  M10 hP11
    obtain ⟨hS10, f11p0, f11p1, f11p2⟩ := hP11
    have hS10c := hS10.2.2.2.1.1
    have hS10 := hS10.refl
    have bf1 := f11p0
    have bfr : ∀ a i : Int, a ≠ 44 → a ≠ 45 → M10 a i = Ms a i := fun a i h1 h2 => by rw [f11p2 a i h1 h2, hms]
    refine n_aload_n c_132_40 rfl (n_getR c_132_41 sc_3.n rfl rfl rfl r_3_7 (n_aload_n c_132_44 rfl (n_getR c_132_45 sc_3.n rfl rfl rfl r_3_0 (n_getV (bi := 0) c_132_48 sc_4.n rfl rfl rfl (t_4_0 hS10) ?_))))
    intro z12 ez12 f13
    obtain rfl : z12 = 3 := by omega
    refine n_aload_n c_132_51 rfl (n_getR c_132_52 sc_3.n rfl rfl rfl r_3_8 (n_getV (bi := 2) c_132_55 sc_44.n rfl rfl rfl (t_44_2 hS10) ?_))
    intro z14 ez14 f15
    refine n_v2V c_132_58 rfl sc_38.n rfl rfl rfl rfl (nstartX_3 (c := z14) hS10 (by omega)) ?_
    intro  M16 hP17
    obtain ⟨hS16, f17p0, f17p1, f17p2, f17p3, f17p4⟩ := hP17
    have hS16c := hS16.2.2.2.1.1
    have hS16 := hS16.refl
    have nfr : ∀ a i : Int, a ≠ 38 → a ≠ 40 → a ≠ 44 → a ≠ 45 → M16 a i = Ms a i := fun a i h1 h2 h3 h4 => by rw [f17p4 a i h1 h2]; exact bfr a i h3 h4
    have n44 : M16 44 0 = 2 := by rw [f17p4 44 0 (by omega) (by omega)]; exact bf1.1
    have n45 : ∀ i : Int, 0 ≤ i → i < 3 * 3 * 3 → M16 45 i = 9 - 1 - i % 9 := fun i h0 h1 => by rw [f17p4 45 i (by omega) (by omega), f11p1 i h0 (by omega)] <;> omega
    have n40 : ∀ i : Int, 0 ≤ i → i < 729 → M16 40 i = ARd 3 := fun i h0 h1 => by rw [f17p3 i h0 h1]; rfl
    have n6 : M16 38 6 = 9 := by rw [f17p1]; omega
    refine n_aload_n c_132_61 rfl (n_iload_n c_132_62 rfl ?_)
    refine n_v1V c_132_63 rfl sc_3.n rfl rfl rfl rfl (restrainFormX_3 (m := z6) (Ms := M16) (V := 9) hS16 (by omega) (by rfl) (by exact fun l h0 h1 => (hxl l h0 (by have y := nfr 3 15 (by omega) (by omega) (by omega) (by omega); omega)).of (fun a i u1 u2 => nfr a i (by omega) (by omega) (by omega) (by omega))) (by exact FMk.free (k := 2) (by decide) (by decide) (by decide) n44 n45) (by omega) (by exact Aok.init (by decide) n40) (by rw [f17p4 44 5 (by omega) (by omega)]; exact bf1.2.2.2.2)) ?_
    intro  M18 hP19
    obtain ⟨hS18, f19p0⟩ := hP19
    have hS18c := hS18.2.2.2.1.1
    have hS18 := hS18.refl
    have rf := f19p0
    refine n_aload_n c_132_66 rfl (n_getR c_132_67 sc_3.n rfl rfl rfl r_3_7 ?_)
    refine n_v0V c_132_70 rfl sc_38.n rfl rfl rfl rfl (orderX_3 (Ms := M18) hS18 (by rfl) (by rw [rf.2 38 7 (by omega)]; exact f17p2) (by have y := rf.2 38 6 (by omega); omega)) ?_
    intro  M20 hP21
    obtain ⟨hS20, f21p0, f21p1⟩ := hP21
    have hS20c := hS20.2.2.2.1.1
    have hS20 := hS20.refl
    have nst : NST 3 9 M20 := NST.mk3 (by omega) (by rw [rf.2 38 5 (by omega)]; exact f17p0) (by rw [rf.2 38 6 (by omega)]; exact n6) rf.1 f21p1 f21p0
    refine n_aload_n c_132_73 rfl (n_getR c_132_74 sc_3.n rfl rfl rfl r_3_7 (n_aload_n c_132_77 rfl (n_getR c_132_78 sc_3.n rfl rfl rfl r_3_9 (n_v1V c_132_81 rfl sc_38.n rfl rfl rfl rfl (findAllX46_3 (Ms := M20) (V := 9) hS20 (by rfl) (by exact nst) (by decide)) ?_))))
    intro  M22 hP23
    obtain ⟨hS22, f23p0, f23p1, f23p2⟩ := hP23
    refine n_aload_n c_132_84 rfl (n_iload_n c_132_85 rfl (n_putM (bi := 17) hS22 c_132_86 sc_3.n rfl rfl rfl rfl (m_3_17 (by omega)) ?_))
    intro M24 eM24 hS24
    have g24_0 : M24 3 17 = 2 := by rw [eM24]; exact nu_s _ _ _ _
    refine n_aload_n c_132_89 rfl (n_iload_n c_132_90 rfl (n_putM (bi := 16) hS24 c_132_91 sc_3.n rfl rfl rfl rfl (m_3_16 (by omega)) ?_))
    intro M25 eM25 hS25
    have g25_0 : M25 3 17 = M24 3 17 := by rw [eM25]; exact nu_i (by omega)
    have g25_1 : M25 3 16 = z6 := by rw [eM25]; exact nu_s _ _ _ _
    exact n_rV c_132_94 rfl ⟨hS25, by exact ⟨by rw [eM25, nu_i (by omega), eM24, nu_s], by rw [eM25, nu_s]; exact kz, by rw [eM25, nu_a (by omega), eM24, nu_a (by omega), f23p0, gall_of (fun i => f21p1 40 i (by omega) (by omega) (by omega)), gall_kn (k := 2) (by decide) (by decide) (by decide) (by decide) rf n40 n44 n45, kz]; exact KNc.of (fun a i q => nfr a i (by omega) (by omega) (by omega) (by omega)), fun a i hc => by unfold core0 at hc; rw [eM25, nu_e, if_neg (by omega), eM24, nu_e, if_neg (by omega), f23p1 a i (by omega) (by omega) (by omega), f21p1 a i (by omega) (by omega) (by omega), rf.2 a i (by omega)]; exact nfr a i (by omega) (by omega) (by omega) (by omega), by rw [← kz]; exact BK.mk (k := 2) (by decide) (by decide) (by decide) (by decide) rf n40 n44 n45 (fun m m0 m1 => by unfold wbt; rw [eM25, nu_a (by omega), eM24, nu_a (by omega)]; have y := f23p2 m m0 m1; rw [show (fun i => M20 40 i) = fun i => M18 40 i from funext fun i => f21p1 40 i (by omega) (by omega) (by omega)] at y; exact y) (fun a i q => nfr a i (by omega) (by omega) (by omega) (by omega))⟩⟩
  · intro h26
    refine n_aload_n c_132_19 rfl (n_getV (bi := 16) c_132_20 sc_3.n rfl rfl rfl (t_3_16 hS) ?_)
    intro z27 ez27 f28
    refine n_iload_n c_132_23 rfl ?_
    refine n_if2_ne c_132_24 (by omega) (by omega) ?_ ?_
    · intro h29
      refine n_aload_n c_132_28 rfl (n_getR c_132_29 sc_3.n rfl rfl rfl r_3_8 (n_iload_n c_132_32 rfl (n_aload_n c_132_33 rfl (n_getR c_132_34 sc_3.n rfl rfl rfl r_3_0 (n_v2V c_132_37 rfl sc_44.n rfl rfl rfl rfl (beFreeX2_3 (Mz := M) hS (by rfl)) ?_)))))
      intro  M30 hP31
      obtain ⟨hS30, f31p0, f31p1, f31p2⟩ := hP31
      have hS30c := hS30.2.2.2.1.1
      have hS30 := hS30.refl
      have hS30k0 := hS30c 3 17 (by unfold core; omega)
      have bf1 := f31p0
      have bfr : ∀ a i : Int, a ≠ 44 → a ≠ 45 → M30 a i = Ms a i := fun a i h1 h2 => by rw [f31p2 a i h1 h2, hms]
      refine n_aload_n c_132_40 rfl (n_getR c_132_41 sc_3.n rfl rfl rfl r_3_7 (n_aload_n c_132_44 rfl (n_getR c_132_45 sc_3.n rfl rfl rfl r_3_0 (n_getV (bi := 0) c_132_48 sc_4.n rfl rfl rfl (t_4_0 hS30) ?_))))
      intro z32 ez32 f33
      obtain rfl : z32 = 3 := by omega
      refine n_aload_n c_132_51 rfl (n_getR c_132_52 sc_3.n rfl rfl rfl r_3_8 (n_getV (bi := 2) c_132_55 sc_44.n rfl rfl rfl (t_44_2 hS30) ?_))
      intro z34 ez34 f35
      refine n_v2V c_132_58 rfl sc_38.n rfl rfl rfl rfl (nstartX_3 (c := z34) hS30 (by omega)) ?_
      intro  M36 hP37
      obtain ⟨hS36, f37p0, f37p1, f37p2, f37p3, f37p4⟩ := hP37
      have hS36c := hS36.2.2.2.1.1
      have hS36 := hS36.refl
      have hS36k0 := hS36c 3 17 (by unfold core; omega)
      have nfr : ∀ a i : Int, a ≠ 38 → a ≠ 40 → a ≠ 44 → a ≠ 45 → M36 a i = Ms a i := fun a i h1 h2 h3 h4 => by rw [f37p4 a i h1 h2]; exact bfr a i h3 h4
      have n44 : M36 44 0 = 2 := by rw [f37p4 44 0 (by omega) (by omega)]; exact bf1.1
      have n45 : ∀ i : Int, 0 ≤ i → i < 3 * 3 * 3 → M36 45 i = 9 - 1 - i % 9 := fun i h0 h1 => by rw [f37p4 45 i (by omega) (by omega), f31p1 i h0 (by omega)] <;> omega
      have n40 : ∀ i : Int, 0 ≤ i → i < 729 → M36 40 i = ARd 3 := fun i h0 h1 => by rw [f37p3 i h0 h1]; rfl
      have n6 : M36 38 6 = 9 := by rw [f37p1]; omega
      refine n_aload_n c_132_61 rfl (n_iload_n c_132_62 rfl ?_)
      refine n_v1V c_132_63 rfl sc_3.n rfl rfl rfl rfl (restrainFormX_3 (m := z6) (Ms := M36) (V := 9) hS36 (by omega) (by rfl) (by exact fun l h0 h1 => (hxl l h0 (by have y := nfr 3 15 (by omega) (by omega) (by omega) (by omega); omega)).of (fun a i u1 u2 => nfr a i (by omega) (by omega) (by omega) (by omega))) (by exact FMk.free (k := 2) (by decide) (by decide) (by decide) n44 n45) (by omega) (by exact Aok.init (by decide) n40) (by rw [f37p4 44 5 (by omega) (by omega)]; exact bf1.2.2.2.2)) ?_
      intro  M38 hP39
      obtain ⟨hS38, f39p0⟩ := hP39
      have hS38c := hS38.2.2.2.1.1
      have hS38 := hS38.refl
      have hS38k0 := hS38c 3 17 (by unfold core; omega)
      have rf := f39p0
      refine n_aload_n c_132_66 rfl (n_getR c_132_67 sc_3.n rfl rfl rfl r_3_7 ?_)
      refine n_v0V c_132_70 rfl sc_38.n rfl rfl rfl rfl (orderX_3 (Ms := M38) hS38 (by rfl) (by rw [rf.2 38 7 (by omega)]; exact f37p2) (by have y := rf.2 38 6 (by omega); omega)) ?_
      intro  M40 hP41
      obtain ⟨hS40, f41p0, f41p1⟩ := hP41
      have hS40c := hS40.2.2.2.1.1
      have hS40 := hS40.refl
      have hS40k0 := hS40c 3 17 (by unfold core; omega)
      have nst : NST 3 9 M40 := NST.mk3 (by omega) (by rw [rf.2 38 5 (by omega)]; exact f37p0) (by rw [rf.2 38 6 (by omega)]; exact n6) rf.1 f41p1 f41p0
      refine n_aload_n c_132_73 rfl (n_getR c_132_74 sc_3.n rfl rfl rfl r_3_7 (n_aload_n c_132_77 rfl (n_getR c_132_78 sc_3.n rfl rfl rfl r_3_9 (n_v1V c_132_81 rfl sc_38.n rfl rfl rfl rfl (findAllX46_3 (Ms := M40) (V := 9) hS40 (by rfl) (by exact nst) (by decide)) ?_))))
      intro  M42 hP43
      obtain ⟨hS42, f43p0, f43p1, f43p2⟩ := hP43
      refine n_aload_n c_132_84 rfl (n_iload_n c_132_85 rfl (n_putM (bi := 17) hS42 c_132_86 sc_3.n rfl rfl rfl rfl (m_3_17 (by omega)) ?_))
      intro M44 eM44 hS44
      have g44_0 : M44 3 17 = 2 := by rw [eM44]; exact nu_s _ _ _ _
      refine n_aload_n c_132_89 rfl (n_iload_n c_132_90 rfl (n_putM (bi := 16) hS44 c_132_91 sc_3.n rfl rfl rfl rfl (m_3_16 (by omega)) ?_))
      intro M45 eM45 hS45
      have g45_0 : M45 3 17 = M44 3 17 := by rw [eM45]; exact nu_i (by omega)
      have g45_1 : M45 3 16 = z6 := by rw [eM45]; exact nu_s _ _ _ _
      exact n_rV c_132_94 rfl ⟨hS45, by exact ⟨by rw [eM45, nu_i (by omega), eM44, nu_s], by rw [eM45, nu_s]; exact kz, by rw [eM45, nu_a (by omega), eM44, nu_a (by omega), f43p0, gall_of (fun i => f41p1 40 i (by omega) (by omega) (by omega)), gall_kn (k := 2) (by decide) (by decide) (by decide) (by decide) rf n40 n44 n45, kz]; exact KNc.of (fun a i q => nfr a i (by omega) (by omega) (by omega) (by omega)), fun a i hc => by unfold core0 at hc; rw [eM45, nu_e, if_neg (by omega), eM44, nu_e, if_neg (by omega), f43p1 a i (by omega) (by omega) (by omega), f41p1 a i (by omega) (by omega) (by omega), rf.2 a i (by omega)]; exact nfr a i (by omega) (by omega) (by omega) (by omega), by rw [← kz]; exact BK.mk (k := 2) (by decide) (by decide) (by decide) (by decide) rf n40 n44 n45 (fun m m0 m1 => by unfold wbt; rw [eM45, nu_a (by omega), eM44, nu_a (by omega)]; have y := f43p2 m m0 m1; rw [show (fun i => M40 40 i) = fun i => M38 40 i from funext fun i => f41p1 40 i (by omega) (by omega) (by omega)] at y; exact y) (fun a i q => nfr a i (by omega) (by omega) (by omega) (by omega))⟩⟩
    · intro h46
      exact n_rV c_132_27 rfl ⟨hS, by rw [hms] at *; exact ⟨by omega, by omega, by rw [← kz, ← show Ms 3 16 = z6 by omega]; exact (hkp (by omega)).1, fun _ _ _ => rfl, by rw [← kz, ← show Ms 3 16 = z6 by omega]; exact (hkp (by omega)).2⟩⟩

set_option maxHeartbeats 4000000 in
theorem actsOfX2_3 {xs : List Int32} {e : Nat} {ac : Int} {M : nM} {m gd : Int} {Ms : nM} (hS : Sf 3 ac M M) (hm : -2147483648 ≤ m ∧ m ≤ 2147483647) (hgd : M 112 0 = gd) (hms : M = Ms) (hxl : ∀ l : Int, 0 ≤ l → l < Ms 3 15 → LawOk 3 (79 + 2 * l) Ms) (hkp : Ms 3 17 = 2 → Ms 46 1 = KNc 3 2 (Ms 3 16) Ms ∧ BK 3 2 (Ms 3 16) Ms Ms) : nW xs (e + 31) 107 0 [some (2, 3), some (0, m), some (0, 2)] [] M (nPI fun z M1 => Sf 3 ac M1 M1 ∧ (-2147483648 ≤ z ∧ z ≤ 2147483647) ∧ (M1 112 0 = gd) ∧ (cKp 3 2 m Ms M1) ∧ (z = M1 46 1)) := by
  have hd : (3 : Int) = 2 ∨ (3 : Int) = 3 := by decide
  have hac := hS.2.2.2.2
  refine n_aload_n c_107_0 rfl (n_getR c_107_1 sc_3.n rfl rfl rfl r_3_0 (n_iload_n c_107_4 rfl (n_v1I c_107_5 rfl sc_4.n rfl rfl rfl rfl (isMadeF_3 (n := 2) hS (by omega)) ?_)))
  intro z1 M2 hP3
  obtain ⟨eM, f3⟩ := hP3
  subst eM
  obtain rfl : z1 = 1 := by omega
  refine n_if0_ne c_107_8 (by omega) ?_ ?_
  · intro h4
    refine n_aload_n c_107_13 rfl (n_iload_n c_107_14 rfl (n_iload_n c_107_15 rfl ?_))
    refine n_v2V c_107_16 rfl sc_3.n rfl rfl rfl rfl (findKeepersX2_3 (m := m) (Ms := M) hS (by omega) (by rfl) (by rw [hms]; exact hxl) (by rw [hms]; exact hkp)) ?_
    intro  M5 hP6
    obtain ⟨hS5, f6p0⟩ := hP6
    have g112 := f6p0.2.2.2.1 112 0 (by omega)
    refine n_aload_n c_107_19 rfl (n_getR c_107_20 sc_3.n rfl rfl rfl r_3_9 (n_getV (bi := 1) c_107_23 sc_46.n rfl rfl rfl (t_46_1 hS5) ?_))
    intro z7 ez7 f8
    exact n_rI c_107_26 rfl ⟨hS5, by omega, by omega, by have y := f6p0; rw [hms] at y; exact y, by exact ez7⟩
  · intro h9
    exfalso; omega

set_option maxHeartbeats 4000000 in
theorem actOfX1_3 {xs : List Int32} {e : Nat} {ac : Int} {M : nM} {m i gd : Int} {Ms : nM} (hS : Sf 3 ac M M) (hm : -2147483648 ≤ m ∧ m ≤ 2147483647) (hi : -2147483648 ≤ i ∧ i ≤ 2147483647) (hgd : M 112 0 = gd) (hms : M = Ms) (hxl : ∀ l : Int, 0 ≤ l → l < Ms 3 15 → LawOk 3 (79 + 2 * l) Ms) (hkp : Ms 3 17 = 1 → Ms 46 1 = KNc 3 1 (Ms 3 16) Ms ∧ BK 3 1 (Ms 3 16) Ms Ms) : nW xs (e + 31) 108 0 [some (2, 3), some (0, m), some (0, 1), some (0, i)] [] M (nPI fun z M1 => Sf 3 ac M1 M1 ∧ (-2147483648 ≤ z ∧ z ≤ 2147483647) ∧ (M1 112 0 = gd) ∧ (cKp 3 1 m Ms M1) ∧ (Nth M1 46 i z 19712)) := by
  have hd : (3 : Int) = 2 ∨ (3 : Int) = 3 := by decide
  have hac := hS.2.2.2.2
  refine n_aload_n c_108_0 rfl (n_getR c_108_1 sc_3.n rfl rfl rfl r_3_0 (n_iload_n c_108_4 rfl (n_v1I c_108_5 rfl sc_4.n rfl rfl rfl rfl (isMadeF_3 (n := 1) hS (by omega)) ?_)))
  intro z1 M2 hP3
  obtain ⟨eM, f3⟩ := hP3
  subst eM
  obtain rfl : z1 = 1 := by omega
  refine n_if0_ne c_108_8 (by omega) ?_ ?_
  · intro h4
    refine n_aload_n c_108_13 rfl (n_iload_n c_108_14 rfl (n_iload_n c_108_15 rfl ?_))
    refine n_v2V c_108_16 rfl sc_3.n rfl rfl rfl rfl (findKeepersX1_3 (m := m) (Ms := M) hS (by omega) (by rfl) (by rw [hms]; exact hxl) (by rw [hms]; exact hkp)) ?_
    intro  M5 hP6
    obtain ⟨hS5, f6p0⟩ := hP6
    have g112 := f6p0.2.2.2.1 112 0 (by omega)
    refine n_aload_n c_108_19 rfl (n_getR c_108_20 sc_3.n rfl rfl rfl r_3_9 (n_iload_n c_108_23 rfl ?_))
    refine n_v1I c_108_24 rfl sc_46.n rfl rfl rfl rfl (nthX46_3 (i := i) hS5 (by omega) (by rw [f6p0.2.2.1]; exact cf_hct (by decide +kernel) f6p0.2.2.2.2)) ?_
    intro z7 M8 hP9
    obtain ⟨eM, f9, f9p0⟩ := hP9
    subst eM
    exact n_rI c_108_27 rfl ⟨hS5, by omega, by omega, by have y := f6p0; rw [hms] at y; exact y, by exact f9p0⟩
  · intro h10
    exfalso; omega

set_option maxHeartbeats 4000000 in
theorem actOfX2_3 {xs : List Int32} {e : Nat} {ac : Int} {M : nM} {m i gd : Int} {Ms : nM} (hS : Sf 3 ac M M) (hm : -2147483648 ≤ m ∧ m ≤ 2147483647) (hi : -2147483648 ≤ i ∧ i ≤ 2147483647) (hgd : M 112 0 = gd) (hms : M = Ms) (hxl : ∀ l : Int, 0 ≤ l → l < Ms 3 15 → LawOk 3 (79 + 2 * l) Ms) (hkp : Ms 3 17 = 2 → Ms 46 1 = KNc 3 2 (Ms 3 16) Ms ∧ BK 3 2 (Ms 3 16) Ms Ms) : nW xs (e + 31) 108 0 [some (2, 3), some (0, m), some (0, 2), some (0, i)] [] M (nPI fun z M1 => Sf 3 ac M1 M1 ∧ (-2147483648 ≤ z ∧ z ≤ 2147483647) ∧ (M1 112 0 = gd) ∧ (cKp 3 2 m Ms M1) ∧ (Nth M1 46 i z 19712)) := by
  have hd : (3 : Int) = 2 ∨ (3 : Int) = 3 := by decide
  have hac := hS.2.2.2.2
  refine n_aload_n c_108_0 rfl (n_getR c_108_1 sc_3.n rfl rfl rfl r_3_0 (n_iload_n c_108_4 rfl (n_v1I c_108_5 rfl sc_4.n rfl rfl rfl rfl (isMadeF_3 (n := 2) hS (by omega)) ?_)))
  intro z1 M2 hP3
  obtain ⟨eM, f3⟩ := hP3
  subst eM
  obtain rfl : z1 = 1 := by omega
  refine n_if0_ne c_108_8 (by omega) ?_ ?_
  · intro h4
    refine n_aload_n c_108_13 rfl (n_iload_n c_108_14 rfl (n_iload_n c_108_15 rfl ?_))
    refine n_v2V c_108_16 rfl sc_3.n rfl rfl rfl rfl (findKeepersX2_3 (m := m) (Ms := M) hS (by omega) (by rfl) (by rw [hms]; exact hxl) (by rw [hms]; exact hkp)) ?_
    intro  M5 hP6
    obtain ⟨hS5, f6p0⟩ := hP6
    have g112 := f6p0.2.2.2.1 112 0 (by omega)
    refine n_aload_n c_108_19 rfl (n_getR c_108_20 sc_3.n rfl rfl rfl r_3_9 (n_iload_n c_108_23 rfl ?_))
    refine n_v1I c_108_24 rfl sc_46.n rfl rfl rfl rfl (nthX46_3 (i := i) hS5 (by omega) (by rw [f6p0.2.2.1]; exact cf_hct (by decide +kernel) f6p0.2.2.2.2)) ?_
    intro z7 M8 hP9
    obtain ⟨eM, f9, f9p0⟩ := hP9
    subst eM
    exact n_rI c_108_27 rfl ⟨hS5, by omega, by omega, by have y := f6p0; rw [hms] at y; exact y, by exact f9p0⟩
  · intro h10
    exfalso; omega

set_option maxHeartbeats 4000000 in
theorem actOfXL_3 {xs : List Int32} {e : Nat} {ac : Int} {M0 M : nM} {m n i : Int} (hS : Sf 3 ac M0 M) (hm : -2147483648 ≤ m ∧ m ≤ 2147483647) (hn : -2147483648 ≤ n ∧ n ≤ 0) (hi : -2147483648 ≤ i ∧ i ≤ 2147483647) : nW xs (e + 31) 108 0 [some (2, 3), some (0, m), some (0, n), some (0, i)] [] M (nPI fun z M1 => M = M1 ∧ (-1 ≤ z ∧ z ≤ -1)) := by
  have hd : (3 : Int) = 2 ∨ (3 : Int) = 3 := by decide
  have hac := hS.2.2.2.2
  refine n_aload_n c_108_0 rfl (n_getR c_108_1 sc_3.n rfl rfl rfl r_3_0 (n_iload_n c_108_4 rfl (n_v1I c_108_5 rfl sc_4.n rfl rfl rfl rfl (isMadeL_3 (n := n) hS (by omega)) ?_)))
  intro z1 M2 hP3
  obtain ⟨eM, f3⟩ := hP3
  subst eM
  obtain rfl : z1 = 0 := by omega
  refine n_if0_ne c_108_8 (by omega) ?_ ?_
  · intro h4
    exfalso; omega
  · intro h5
    refine n_iconst c_108_11 ?_
    exact n_rI c_108_12 rfl ⟨rfl, by omega⟩

set_option maxHeartbeats 4000000 in
theorem actsOfXL_3 {xs : List Int32} {e : Nat} {ac : Int} {M0 M : nM} {m n : Int} (hS : Sf 3 ac M0 M) (hm : -2147483648 ≤ m ∧ m ≤ 2147483647) (hn : -2147483648 ≤ n ∧ n ≤ 0) : nW xs (e + 31) 107 0 [some (2, 3), some (0, m), some (0, n)] [] M (nPI fun z M1 => M = M1 ∧ (-1 ≤ z ∧ z ≤ -1)) := by
  have hd : (3 : Int) = 2 ∨ (3 : Int) = 3 := by decide
  have hac := hS.2.2.2.2
  refine n_aload_n c_107_0 rfl (n_getR c_107_1 sc_3.n rfl rfl rfl r_3_0 (n_iload_n c_107_4 rfl (n_v1I c_107_5 rfl sc_4.n rfl rfl rfl rfl (isMadeL_3 (n := n) hS (by omega)) ?_)))
  intro z1 M2 hP3
  obtain ⟨eM, f3⟩ := hP3
  subst eM
  obtain rfl : z1 = 0 := by omega
  refine n_if0_ne c_107_8 (by omega) ?_ ?_
  · intro h4
    exfalso; omega
  · intro h5
    refine n_iconst c_107_11 ?_
    exact n_rI c_107_12 rfl ⟨rfl, by omega⟩

set_option maxHeartbeats 4000000 in
theorem actOfXH_3 {xs : List Int32} {e : Nat} {ac : Int} {M0 M : nM} {m n i : Int} (hS : Sf 3 ac M0 M) (hm : -2147483648 ≤ m ∧ m ≤ 2147483647) (hn : 3 ≤ n ∧ n ≤ 2147483647) (hi : -2147483648 ≤ i ∧ i ≤ 2147483647) : nW xs (e + 31) 108 0 [some (2, 3), some (0, m), some (0, n), some (0, i)] [] M (nPI fun z M1 => M = M1 ∧ (-1 ≤ z ∧ z ≤ -1)) := by
  have hd : (3 : Int) = 2 ∨ (3 : Int) = 3 := by decide
  have hac := hS.2.2.2.2
  refine n_aload_n c_108_0 rfl (n_getR c_108_1 sc_3.n rfl rfl rfl r_3_0 (n_iload_n c_108_4 rfl (n_v1I c_108_5 rfl sc_4.n rfl rfl rfl rfl (isMadeH_3 (n := n) hS (by omega)) ?_)))
  intro z1 M2 hP3
  obtain ⟨eM, f3⟩ := hP3
  subst eM
  obtain rfl : z1 = 0 := by omega
  refine n_if0_ne c_108_8 (by omega) ?_ ?_
  · intro h4
    exfalso; omega
  · intro h5
    refine n_iconst c_108_11 ?_
    exact n_rI c_108_12 rfl ⟨rfl, by omega⟩

set_option maxHeartbeats 4000000 in
theorem actsOfXH_3 {xs : List Int32} {e : Nat} {ac : Int} {M0 M : nM} {m n : Int} (hS : Sf 3 ac M0 M) (hm : -2147483648 ≤ m ∧ m ≤ 2147483647) (hn : 3 ≤ n ∧ n ≤ 2147483647) : nW xs (e + 31) 107 0 [some (2, 3), some (0, m), some (0, n)] [] M (nPI fun z M1 => M = M1 ∧ (-1 ≤ z ∧ z ≤ -1)) := by
  have hd : (3 : Int) = 2 ∨ (3 : Int) = 3 := by decide
  have hac := hS.2.2.2.2
  refine n_aload_n c_107_0 rfl (n_getR c_107_1 sc_3.n rfl rfl rfl r_3_0 (n_iload_n c_107_4 rfl (n_v1I c_107_5 rfl sc_4.n rfl rfl rfl rfl (isMadeH_3 (n := n) hS (by omega)) ?_)))
  intro z1 M2 hP3
  obtain ⟨eM, f3⟩ := hP3
  subst eM
  obtain rfl : z1 = 0 := by omega
  refine n_if0_ne c_107_8 (by omega) ?_ ?_
  · intro h4
    exfalso; omega
  · intro h5
    refine n_iconst c_107_11 ?_
    exact n_rI c_107_12 rfl ⟨rfl, by omega⟩

set_option maxHeartbeats 4000000 in
theorem mlayX_3_c {xs : List Int32} {e : Nat} {ac : Int} {M0 M : nM} {c r : Int} {Ms : nM} (hS : Sf 3 ac M0 M) (hdm : M0 112 0 = 3) (hc : 0 ≤ c ∧ c ≤ 20000) (hr : 0 ≤ r ∧ r ≤ 27) (hms : M = Ms) : ∀ nn : Nat, (∀ (x4 x6 : Int) (M : nM), Sf 3 ac M0 M → (0 ≤ x4 ∧ x4 ≤ 20000) → (0 ≤ x6 ∧ x6 ≤ 27) → (x4 = c / pn 3 x6.toNat) → (∀ q : Int, 0 ≤ q → q < x6 → M 127 q = cdg 3 c q) → (FC 127 Ms M) → (27 - x6) * 1 + 1 < (nn : Int) → nW xs e 171 6 [some (2, 112), none, none, some (0, r), some (1, x4), none, some (0, x6)] [] M (nPV fun M1 => Sf 3 ac M0 M1 ∧ (HD 3 c r M1) ∧ (FC 127 Ms M1))) := by
  have hd : (3 : Int) = 2 ∨ (3 : Int) = 3 := by decide
  have hac := hS.2.2.2.2
  intro nn
  induction nn with
  | zero => intros; omega
  | succ nn ih =>
    intro x4 x6 M hS k4 k6 v0 v1 v2 hnn
    refine n_iload c_171_6 rfl (n_iload_n c_171_8 rfl ?_)
    refine n_if2_ge c_171_9 (by omega) (by omega) ?_ ?_
    · intro h1
      exact n_rV c_171_44 rfl ⟨hS, by exact fun q q0 q1 => v1 q q0 (by omega), by exact v2⟩
    · intro h2
      refine n_aload_n c_171_12 rfl (n_getR c_171_13 sc_112.n rfl rfl rfl r_112_19 (n_iload c_171_16 rfl (n_lload c_171_18 rfl (n_aload_n c_171_20 rfl (n_getV (bi := 0) c_171_21 sc_112.n rfl rfl rfl (t_dm hS hdm) ?_)))))
      intro z3 ez3 f4
      obtain rfl : z3 = 3 := by omega
      refine n_i2l c_171_24 (by omega) ?_
      refine n_lremV c_171_25 (by omega) (by omega) ?_
      intro z5 ez5 f6
      refine n_l2i c_171_26 (n_iastoreV hS c_171_27 sc_127.n rfl (by omega) (w_127 (by omega) (by omega)) ?_)
      intro M7 eM7 hS7
      refine n_lload c_171_28 rfl (n_aload_n c_171_30 rfl (n_getV (bi := 0) c_171_31 sc_112.n rfl rfl rfl (t_dm hS7 hdm) ?_))
      intro z8 ez8 f9
      obtain rfl : z8 = 3 := by omega
      refine n_i2l c_171_34 (by omega) ?_
      refine n_ldivV c_171_35 (by omega) (by omega) ?_
      intro z10 ez10 f11
      refine n_lstore (L2 := [some (2, 112), none, none, some (0, r), some (1, z10), none, some (0, x6)]) c_171_36 rfl rfl (n_iinc (L2 := [some (2, 112), none, none, some (0, r), some (1, z10), none, some (0, (x6 + 1))]) c_171_38 rfl rfl rfl (n_goto c_171_41 (n_fg (le_s (le_n (le_n (le_s (le_s (le_n (le_s le_0))))))) ?_)))
      exact ih _ _ M7 hS7 (by omega) (by omega) (by rw [ez10, v0, Int.ediv_ediv_of_nonneg (by have := pn_pos (d := 3) (by decide) x6.toNat; omega), pn_t (by omega), Int.mul_comm]) (by exact fun q q0 q1 => by rw [eM7, nu_e]; by_cases y : q = x6; (rw [if_pos ⟨rfl, y⟩, y, ez5, v0]; rfl); (rw [if_neg (fun u => y u.2)]; exact v1 q q0 (by omega))) (by exact fun a i ha => by rw [eM7, nu_a ha]; exact v2 a i ha) (by omega)
set_option maxHeartbeats 4000000 in
theorem mlayX_3 {xs : List Int32} {e : Nat} {ac : Int} {M0 M : nM} {c r : Int} {Ms : nM} (hS : Sf 3 ac M0 M) (hdm : M0 112 0 = 3) (hc : 0 ≤ c ∧ c ≤ 20000) (hr : 0 ≤ r ∧ r ≤ 27) (hms : M = Ms) : nW xs e 171 0 [some (2, 112), some (1, c), none, some (0, r), none, none, none] [] M (nPV fun M1 => Sf 3 ac M0 M1 ∧ (HD 3 c r M1) ∧ (FC 127 Ms M1)) := by
  have hd : (3 : Int) = 2 ∨ (3 : Int) = 3 := by decide
  have hac := hS.2.2.2.2
  refine n_lload_n c_171_0 rfl (n_lstore (L2 := [some (2, 112), some (1, c), none, some (0, r), some (1, c), none, none]) c_171_1 rfl rfl (n_iconst c_171_3 (n_istore (L2 := [some (2, 112), some (1, c), none, some (0, r), some (1, c), none, some (0, 0)]) c_171_4 rfl rfl (n_fg (le_s (le_n (le_n (le_s (le_s (le_n (le_s le_0))))))) ?_))))
  exact (mlayX_3_c hS hdm hc hr hms 68) _ _ M hS (by omega) (by omega) (by show c = c / 1; omega) (by exact fun q q0 q1 => by omega) (by exact fun a i _ => by rw [hms]) (by omega)

set_option maxHeartbeats 4000000 in
theorem mhandKeepsX_3_c {xs : List Int32} {e : Nat} {ac : Int} {M0 M : nM} {m k : Int} (hS : Sf 3 ac M0 M) (hdm : M0 112 0 = 3) (hm : 1 ≤ m ∧ m ≤ 3) (hk : 0 ≤ k ∧ k ≤ 4095) (hlp : ∀ l : Int, 0 ≤ l → l < M 112 7 → 1 ≤ M 118 l) : ∀ nn : Nat, (∀ (x3 : Int), (0 ≤ x3 ∧ x3 ≤ 12) → (∀ l : Int, 0 ≤ l → l < x3 → bt k l → KP 3 m (fun i => M 127 i) (M 118 l) (M 119 l)) → (x3 ≤ M 112 7) → (12 - x3) * 1 + 1 < (nn : Int) → nW xs (e + 3) 172 2 [some (2, 112), some (0, m), some (0, k), some (0, x3)] [] M (nPI fun z M1 => M = M1 ∧ (0 ≤ z ∧ z ≤ 1) ∧ (z = bb (KMm 3 m (fun i => M 127 i) k M)))) := by
  have hd : (3 : Int) = 2 ∨ (3 : Int) = 3 := by decide
  have hac := hS.2.2.2.2
  intro nn
  induction nn with
  | zero => intros; omega
  | succ nn ih =>
    intro x3 k3 v0 v1 hnn
    refine n_iload_n c_172_2 rfl (n_aload_n c_172_3 rfl (n_getV (bi := 7) c_172_4 sc_112.n rfl rfl rfl (t_112_7 hS) ?_))
    intro z1 ez1 f2
    refine n_if2_ge c_172_7 (by omega) (by omega) ?_ ?_
    · intro h3
      refine n_iconst c_172_53 ?_
      exact n_rZ c_172_54 rfl (by omega) ⟨rfl, by omega, by exact (bb_t (fun l l0 l1 b => v0 l l0 (by omega) b)).symm⟩
    · intro h4
      refine n_iload_n c_172_10 rfl (n_iload_n c_172_11 rfl (n_i_ishr c_172_12 rfl ?_))
      have f5 := n_shr_r k x3
      generalize gz6 : (n_shr k x3) = z6 at f5 ⊢
      refine n_iconst c_172_13 (n_i_iand c_172_14 rfl ?_)
      have f7 := n_and_y (x := z6) (y := 1) (by omega)
      generalize gz8 : (n_and z6 1) = z8 at f7 ⊢
      have hb14 : z8 = k / 2 ^ (x3).toNat % 2 := by rw [← gz8, ← gz6]; exact ib_v (by omega) (by omega)
      refine n_iconst c_172_15 ?_
      refine n_if2_ne c_172_16 (by omega) (by omega) ?_ ?_
      · intro h9
        refine n_iinc (L2 := [some (2, 112), some (0, m), some (0, k), some (0, (x3 + 1))]) c_172_47 rfl rfl rfl (n_goto c_172_50 (n_fg (le_s (le_s (le_s (le_s le_0)))) ?_))
        exact ih _ (by omega) (by exact fun l l0 l1 b => by by_cases y : l = x3; (rw [y] at b; unfold bt at b; exfalso; omega); exact v0 l l0 (by omega) b) (by have t7 := t_112_7 hS; omega) (by omega)
      · intro h10
        refine n_aload_n c_172_19 rfl (n_iload_n c_172_20 rfl (n_aload_n c_172_21 rfl (n_getR c_172_22 sc_112.n rfl rfl rfl r_112_19 (n_iconst c_172_25 (n_aload_n c_172_26 rfl (n_getR c_172_27 sc_112.n rfl rfl rfl r_112_8 (n_iload_n c_172_30 rfl (n_ialoadV c_172_31 sc_118.n rfl rfl rfl (by omega) (t_118 hS (by omega)) ?_))))))))
        intro z11 ez11 f12
        have hl1 := hlp x3 (by omega) (by omega)
        refine n_aload_n c_172_32 rfl (n_getR c_172_33 sc_112.n rfl rfl rfl r_112_9 (n_iload_n c_172_36 rfl (n_laloadV c_172_37 sc_119.n rfl rfl rfl (by omega) (t_119 hS (by omega)) ?_)))
        intro z13 ez13 f14
        refine n_v5I c_172_38 rfl sc_112.n rfl rfl rfl rfl (escapesXH_3 (m := m) (f := 0) (k := z11) (s := z13) hS hdm (by omega) (by omega) (by omega) (by omega)) ?_
        intro z15 M16 hP17
        obtain ⟨eM, f17, f17p0⟩ := hP17
        subst eM
        have ez := ESC.n f17p0
        rw [show (fun i => M 127 (0 + i)) = fun i => M 127 i from funext fun i => by rw [Int.zero_add], ez11, ez13] at ez
        refine n_iconst c_172_41 ?_
        refine n_if2_eq c_172_42 (by omega) (by omega) ?_ ?_
        · intro h18
          refine n_iinc (L2 := [some (2, 112), some (0, m), some (0, k), some (0, (x3 + 1))]) c_172_47 rfl rfl rfl (n_goto c_172_50 (n_fg (le_s (le_s (le_s (le_s le_0)))) ?_))
          exact ih _ (by omega) (by exact fun l l0 l1 b => by by_cases y : l = x3; (rw [y]; exact bb_n (by split at ez <;> omega)); exact v0 l l0 (by omega) b) (by have t7 := t_112_7 hS; omega) (by omega)
        · intro h19
          refine n_iconst c_172_45 ?_
          exact n_rZ c_172_46 rfl (by omega) ⟨rfl, by omega, by exact (bb_f (fun q => by have y := bb_t (q x3 (by omega) (by omega) (by unfold bt; omega)); rw [y] at ez; split at ez <;> omega)).symm⟩
set_option maxHeartbeats 4000000 in
theorem mhandKeepsX_3 {xs : List Int32} {e : Nat} {ac : Int} {M0 M : nM} {m k : Int} (hS : Sf 3 ac M0 M) (hdm : M0 112 0 = 3) (hm : 1 ≤ m ∧ m ≤ 3) (hk : 0 ≤ k ∧ k ≤ 4095) (hlp : ∀ l : Int, 0 ≤ l → l < M 112 7 → 1 ≤ M 118 l) : nW xs (e + 3) 172 0 [some (2, 112), some (0, m), some (0, k), none] [] M (nPI fun z M1 => M = M1 ∧ (0 ≤ z ∧ z ≤ 1) ∧ (z = bb (KMm 3 m (fun i => M 127 i) k M))) := by
  have hd : (3 : Int) = 2 ∨ (3 : Int) = 3 := by decide
  have hac := hS.2.2.2.2
  refine n_iconst c_172_0 (n_istore_n (L2 := [some (2, 112), some (0, m), some (0, k), some (0, 0)]) c_172_1 rfl rfl (n_fg (le_s (le_s (le_s (le_s le_0)))) ?_))
  exact (mhandKeepsX_3_c hS hdm hm hk hlp 38) _ (by omega) (by exact fun l l0 l1 => by omega) (by have t7 := t_112_7 hS; omega) (by omega)

set_option maxHeartbeats 4000000 in
theorem mlistsX1_3_c {xs : List Int32} {e : Nat} {ac : Int} {M : nM} {m : Int} {Ms : nM} (hS : Sf 3 ac M M) (hdm : M 112 0 = 3) (hm : -2147483648 ≤ m ∧ m ≤ 2147483647) (hms : M = Ms) (hmk : Ms 112 21 = 1 → 0 ≤ Ms 112 20 → Ms 112 22 = KNm 3 1 (Ms 112 20) Ms ∧ LQk 3 1 (Ms 112 20) Ms Ms) (hl2 : ∀ l : Int, 0 ≤ l → l < Ms 112 7 → 1 ≤ Ms 118 l) : ∀ nn : Nat, (∀ (x3 x4 x5 x6 : Int) (M : nM), Sf 3 ac M M → (0 ≤ x3 ∧ x3 ≤ 4095) → (3 ≤ x4 ∧ x4 ≤ 3) → (27 ≤ x5 ∧ x5 ≤ 27) → (0 ≤ x6 ∧ x6 ≤ 27) → (M 112 0 = 3) → (FLs Ms M) → (M 112 20 = kmask m (Ms 112 7)) → (M 112 21 = 1) → (x3 = kmask m (Ms 112 7)) → (M 112 22 = cf (fun c => bb (KMm 3 1 (fun x => cdg 3 c x) (kmask m (Ms 112 7)) Ms)) x6.toNat) → (M 112 22 ≤ x6) → (∀ j : Int, 0 ≤ j → j < M 112 22 → (0 ≤ M 128 j ∧ M 128 j < x6) ∧ KMm 3 1 (fun x => cdg 3 (M 128 j) x) (kmask m (Ms 112 7)) Ms ∧ cf (fun c => bb (KMm 3 1 (fun x => cdg 3 c x) (kmask m (Ms 112 7)) Ms)) (M 128 j).toNat = j) → (27 - x6) * 1 + 1 < (nn : Int) → nW xs (e + 4) 173 64 [some (2, 112), none, some (0, 1), some (0, x3), some (0, x4), some (0, x5), some (0, x6)] [] M (nPV fun M1 => Sf 3 ac M1 M1 ∧ (mKp 3 1 m Ms M1))) := by
  have hd : (3 : Int) = 2 ∨ (3 : Int) = 3 := by decide
  have hac := hS.2.2.2.2
  have t7 := t_112_7 (hms ▸ hS)
  have kr := kmask_r (m := m) (n := Ms 112 7) (by omega)
  intro nn
  induction nn with
  | zero => intros; omega
  | succ nn ih =>
    intro x3 x4 x5 x6 M hS k3 k4 k5 k6 hdm v0 v1 v2 v3 v4 v5 v6 hnn
    have t22 := t_112_22 hS
    refine n_iload c_173_64 rfl (n_iload c_173_66 rfl ?_)
    refine n_if2_ge c_173_68 (by omega) (by omega) ?_ ?_
    · intro h1
      exact n_rV c_173_116 rfl ⟨hS, by exact ⟨v2, v1, by rw [v4, show x6 = 27 by omega]; unfold KNm; rw [show (pn 3 (pw 3 1).toNat).toNat = (27 : Int).toNat by decide +kernel], fun a i hc => v0 a i (by unfold core0 at hc; omega) (by unfold core0 at hc; omega) (by unfold core0 at hc; omega), fun j j0 j1 => by have y := v6 j j0 j1; rw [show pn 3 (pw 3 1).toNat = 27 by decide +kernel]; exact ⟨by omega, y.2⟩⟩⟩
    · intro h2
      refine n_aload_n c_173_71 rfl (n_iload c_173_72 rfl (n_i2l c_173_74 (by omega) ?_))
      refine n_iload c_173_75 rfl (n_v2V c_173_77 rfl sc_112.n rfl rfl rfl rfl (mlayX_3 (c := x6) (r := x4) (Ms := M) hS (by omega) (by omega) (by omega) (by rfl)) ?_)
      intro  M3 hP4
      obtain ⟨hS3, f4p0, f4p1⟩ := hP4
      have hS3c := hS3.2.2.2.1.1
      have hS3 := hS3.refl
      have hS3k0 := hS3c 112 0 (by unfold core; omega)
      have hS3k1 := hS3c 112 22 (by unfold core; omega)
      have y22 := f4p1 112 22 (by omega)
      have lfr : FLs Ms M3 := fun a i h1 h2 h3 => by rw [f4p1 a i h1]; exact v0 a i h1 h2 h3
      refine n_aload_n c_173_80 rfl (n_iload_n c_173_81 rfl (n_iload_n c_173_82 rfl ?_))
      refine n_v2I c_173_83 rfl sc_112.n rfl rfl rfl rfl (mhandKeepsX_3 (m := 1) (k := x3) hS3 (by omega) (by omega) (by omega) (by exact fun l l0 l1 => by rw [lfr 118 l (by omega) (by omega) (by omega)]; exact hl2 l l0 (by have y := lfr 112 7 (by omega) (by omega) (by omega); omega))) ?_
      intro z5 M6 hP7
      obtain ⟨eM, f7, f7p0⟩ := hP7
      subst eM
      have hk : z5 = bb (KMm 3 1 (fun x => cdg 3 x6 x) (kmask m (Ms 112 7)) Ms) := by rw [f7p0, v3]; exact bb_c ((KMm.of (fun a i q => lfr a i (by omega) (by omega) (by omega))).trans (KMm_congr (by decide) (by decide) (fun i i0 i1 => f4p0 i i0 (by have y : pw 3 1 = 3 := (by decide); omega))))
      refine n_if0_eq c_173_86 (by omega) ?_ ?_
      · intro h8
        refine n_iinc (L2 := [some (2, 112), none, some (0, 1), some (0, x3), some (0, x4), some (0, x5), some (0, (x6 + 1))]) c_173_110 rfl rfl rfl (n_goto c_173_113 (n_fg (le_s (le_n (le_s (le_s (le_s (le_s (le_s le_0))))))) ?_))
        exact ih _ _ _ _ M3 hS3 (by omega) (by omega) (by omega) (by omega) (by omega) (by exact lfr) (by rw [f4p1 112 20 (by omega)]; exact v1) (by rw [f4p1 112 21 (by omega)]; exact v2) (by exact v3) (by rw [f4p1 112 22 (by omega), cf_step (by omega), ← v4, ← hk]; omega) (by have y := f4p1 112 22 (by omega); omega) (by have w0 := f4p1 112 22 (by omega); exact fun j j0 j1 => by rw [f4p1 128 j (by omega)]; have y := v6 j j0 (by omega); exact ⟨by omega, y.2⟩) (by omega)
      · intro h9
        refine n_aload_n c_173_89 rfl (n_getR c_173_90 sc_112.n rfl rfl rfl r_112_23 (n_aload_n c_173_93 rfl (n_getV (bi := 22) c_173_94 sc_112.n rfl rfl rfl (t_112_22 hS3) ?_)))
        intro z10 ez10 f11
        refine n_iload c_173_97 rfl (n_iastoreM hS3 c_173_99 sc_128.n rfl (by omega) (m_128 (by omega) (by omega)) ?_)
        intro M12 eM12 hS12
        have g12_0 : M12 112 0 = M3 112 0 := by rw [eM12]; exact nu_a (by omega)
        have g12_1 : M12 112 22 = M3 112 22 := by rw [eM12]; exact nu_a (by omega)
        have y99 : M12 112 22 = M3 112 22 := by rw [eM12, nu_a (by omega)]
        refine n_aload_n c_173_100 rfl (n_dup2 c_173_101 (n_getV (bi := 22) c_173_102 sc_112.n rfl rfl rfl (t_112_22 hS12) ?_))
        intro z13 ez13 f14
        refine n_iconst c_173_105 (n_iadd c_173_106 rfl (n_putM (bi := 22) hS12 c_173_107 sc_112.n rfl rfl rfl rfl (m_112_22 (by omega)) ?_))
        intro M15 eM15 hS15
        have g15_0 : M15 112 0 = M12 112 0 := by rw [eM15]; exact nu_i (by omega)
        have g15_1 : M15 112 22 = (z13 + 1) := by rw [eM15]; exact nu_s _ _ _ _
        refine n_iinc (L2 := [some (2, 112), none, some (0, 1), some (0, x3), some (0, x4), some (0, x5), some (0, (x6 + 1))]) c_173_110 rfl rfl rfl (n_goto c_173_113 (n_fg (le_s (le_n (le_s (le_s (le_s (le_s (le_s le_0))))))) ?_))
        exact ih _ _ _ _ M15 hS15 (by omega) (by omega) (by omega) (by omega) (by omega) (by exact fun a i h1 h2 h3 => by rw [eM15, nu_e, if_neg (by omega), eM12, nu_a h2]; exact lfr a i h1 h2 h3) (by rw [eM15, nu_i (by omega), eM12, nu_a (by omega), f4p1 112 20 (by omega)]; exact v1) (by rw [eM15, nu_i (by omega), eM12, nu_a (by omega), f4p1 112 21 (by omega)]; exact v2) (by exact v3) (by have y := f4p1 112 22 (by omega); rw [cf_step (by omega), ← v4, ← y, ← hk]; omega) (by have y := f4p1 112 22 (by omega); omega) (by have w0 := f4p1 112 22 (by omega); have w1 : M15 112 22 = M 112 22 + 1 := (by omega); exact fun j j0 j1 => by by_cases u : j = M 112 22; (have e9 : M15 128 j = x6 := (by rw [eM15, nu_a (by omega), eM12, nu_e, if_pos ⟨rfl, by omega⟩]); rw [e9]; exact ⟨by omega, bb_n (by omega), by rw [u]; exact v4.symm⟩); (have e9 : M15 128 j = M 128 j := (by rw [eM15, nu_a (by omega), eM12, nu_i (by omega), f4p1 128 j (by omega)]); rw [e9]; have y := v6 j j0 (by omega); exact ⟨by omega, y.2⟩)) (by omega)
set_option maxHeartbeats 4000000 in
theorem mlistsX1_3 {xs : List Int32} {e : Nat} {ac : Int} {M : nM} {m : Int} {Ms : nM} (hS : Sf 3 ac M M) (hdm : M 112 0 = 3) (hm : -2147483648 ≤ m ∧ m ≤ 2147483647) (hms : M = Ms) (hmk : Ms 112 21 = 1 → 0 ≤ Ms 112 20 → Ms 112 22 = KNm 3 1 (Ms 112 20) Ms ∧ LQk 3 1 (Ms 112 20) Ms Ms) (hl2 : ∀ l : Int, 0 ≤ l → l < Ms 112 7 → 1 ≤ Ms 118 l) : nW xs (e + 4) 173 0 [some (2, 112), some (0, m), some (0, 1), none, none, none, none] [] M (nPV fun M1 => Sf 3 ac M1 M1 ∧ (mKp 3 1 m Ms M1)) := by
  have hd : (3 : Int) = 2 ∨ (3 : Int) = 3 := by decide
  have hac := hS.2.2.2.2
  have t7 := t_112_7 (hms ▸ hS)
  have kr := kmask_r (m := m) (n := Ms 112 7) (by omega)
  refine n_iload_n c_173_0 rfl (n_iconst c_173_1 (n_aload_n c_173_2 rfl (n_getV (bi := 7) c_173_3 sc_112.n rfl rfl rfl (t_112_7 hS) ?_)))
  intro z1 ez1 f2
  refine n_i_ishl c_173_6 rfl ?_
  have f3 := n_shl_1 (y := z1) (a := 0) (b := 12) (by decide) (by omega)
  generalize gz4 : (n_shl 1 z1) = z4 at f3 ⊢
  refine n_iconst c_173_7 (n_isub c_173_8 rfl (n_i_iand c_173_9 rfl ?_))
  have f5 := n_and_y (x := m) (y := (z4 - 1)) (by omega)
  generalize gz6 : (n_and m (z4 - 1)) = z6 at f5 ⊢
  have kz : z6 = kmask m (Ms 112 7) := by unfold kmask; rw [← gz6, ← gz4, ez1, hms]
  refine n_istore_n (L2 := [some (2, 112), some (0, m), some (0, 1), some (0, z6), none, none, none]) c_173_10 rfl rfl (n_aload_n c_173_11 rfl (n_getV (bi := 20) c_173_12 sc_112.n rfl rfl rfl (t_112_20 hS) ?_))
  intro z7 ez7 f8
  refine n_iload_n c_173_15 rfl ?_
  refine n_if2_ne c_173_16 (by omega) (by omega) ?_ ?_
  · intro h9
    refine n_aload_n c_173_28 rfl (n_iload_n c_173_29 rfl (n_putM (bi := 20) hS c_173_30 sc_112.n rfl rfl rfl rfl (m_112_20 (by omega)) ?_))
    intro M10 eM10 hS10
    have g10_0 : M10 112 0 = M 112 0 := by rw [eM10]; exact nu_i (by omega)
    have g10_1 : M10 112 20 = z6 := by rw [eM10]; exact nu_s _ _ _ _
    refine n_aload_n c_173_33 rfl (n_iload_n c_173_34 rfl (n_putM (bi := 21) hS10 c_173_35 sc_112.n rfl rfl rfl rfl (m_112_21 (by omega)) ?_))
    intro M11 eM11 hS11
    have g11_0 : M11 112 0 = M10 112 0 := by rw [eM11]; exact nu_i (by omega)
    have g11_1 : M11 112 20 = M10 112 20 := by rw [eM11]; exact nu_i (by omega)
    have g11_2 : M11 112 21 = 1 := by rw [eM11]; exact nu_s _ _ _ _
    refine n_aload_n c_173_38 rfl (n_iconst c_173_39 (n_putM (bi := 22) hS11 c_173_40 sc_112.n rfl rfl rfl rfl (m_112_22 (by omega)) ?_))
    intro M12 eM12 hS12
    have g12_0 : M12 112 0 = M11 112 0 := by rw [eM12]; exact nu_i (by omega)
    have g12_1 : M12 112 20 = M11 112 20 := by rw [eM12]; exact nu_i (by omega)
    have g12_2 : M12 112 21 = M11 112 21 := by rw [eM12]; exact nu_i (by omega)
    have g12_3 : M12 112 22 = 0 := by rw [eM12]; exact nu_s _ _ _ _
    refine n_aload_n c_173_43 rfl (n_iload_n c_173_44 rfl (n_v1I c_173_45 rfl sc_112.n rfl rfl rfl rfl (mrowsOf1_3  hS12 (by omega)) ?_))
    intro z13 M14 hP15
    obtain ⟨eM, f15⟩ := hP15
    subst eM
    obtain rfl : z13 = 3 := by omega
    refine n_istore (L2 := [some (2, 112), some (0, m), some (0, 1), some (0, z6), some (0, 3), none, none]) c_173_48 rfl rfl (n_aload_n c_173_50 rfl (n_getV (bi := 0) c_173_51 sc_112.n rfl rfl rfl (show 3 ≤ M12 112 0 ∧ M12 112 0 ≤ 3 by omega) ?_))
    intro z16 ez16 f17
    obtain rfl : z16 = 3 := by omega
    refine n_iload c_173_54 rfl (n_s2I c_173_56 rfl rfl rfl rfl (mpower3_3  hS12 ) ?_)
    intro z18 M19 hP20
    obtain ⟨eM, f20⟩ := hP20
    subst eM
    obtain rfl : z18 = 27 := by omega
    refine n_istore (L2 := [some (2, 112), some (0, m), some (0, 1), some (0, z6), some (0, 3), some (0, 27), none]) c_173_59 rfl rfl (n_iconst c_173_61 (n_istore (L2 := [some (2, 112), some (0, m), some (0, 1), some (0, z6), some (0, 3), some (0, 27), some (0, 0)]) c_173_62 rfl rfl (n_fg (le_s (le_n (le_s (le_s (le_s (le_s (le_s le_0))))))) ?_)))
    exact (mlistsX1_3_c hS hdm hm hms hmk hl2 68) _ _ _ _ M12 hS12 (by omega) (by omega) (by omega) (by omega) (by omega) (by exact fun a i h1 h2 h3 => by rw [eM12, nu_e, if_neg (by omega), eM11, nu_e, if_neg (by omega), eM10, nu_e, if_neg (by omega), hms]) (by rw [eM12, nu_i (by omega), eM11, nu_i (by omega), eM10, nu_s]; exact kz) (by rw [eM12, nu_i (by omega), eM11, nu_s]) (by exact kz) (by rw [eM12, nu_s]; rfl) (by omega) (by exact fun j j0 j1 => by rw [eM12, nu_s] at j1; omega) (by omega)
  · intro h21
    refine n_aload_n c_173_19 rfl (n_getV (bi := 21) c_173_20 sc_112.n rfl rfl rfl (t_112_21 hS) ?_)
    intro z22 ez22 f23
    refine n_iload_n c_173_23 rfl ?_
    refine n_if2_ne c_173_24 (by omega) (by omega) ?_ ?_
    · intro h24
      refine n_aload_n c_173_28 rfl (n_iload_n c_173_29 rfl (n_putM (bi := 20) hS c_173_30 sc_112.n rfl rfl rfl rfl (m_112_20 (by omega)) ?_))
      intro M25 eM25 hS25
      have g25_0 : M25 112 0 = M 112 0 := by rw [eM25]; exact nu_i (by omega)
      have g25_1 : M25 112 20 = z6 := by rw [eM25]; exact nu_s _ _ _ _
      refine n_aload_n c_173_33 rfl (n_iload_n c_173_34 rfl (n_putM (bi := 21) hS25 c_173_35 sc_112.n rfl rfl rfl rfl (m_112_21 (by omega)) ?_))
      intro M26 eM26 hS26
      have g26_0 : M26 112 0 = M25 112 0 := by rw [eM26]; exact nu_i (by omega)
      have g26_1 : M26 112 20 = M25 112 20 := by rw [eM26]; exact nu_i (by omega)
      have g26_2 : M26 112 21 = 1 := by rw [eM26]; exact nu_s _ _ _ _
      refine n_aload_n c_173_38 rfl (n_iconst c_173_39 (n_putM (bi := 22) hS26 c_173_40 sc_112.n rfl rfl rfl rfl (m_112_22 (by omega)) ?_))
      intro M27 eM27 hS27
      have g27_0 : M27 112 0 = M26 112 0 := by rw [eM27]; exact nu_i (by omega)
      have g27_1 : M27 112 20 = M26 112 20 := by rw [eM27]; exact nu_i (by omega)
      have g27_2 : M27 112 21 = M26 112 21 := by rw [eM27]; exact nu_i (by omega)
      have g27_3 : M27 112 22 = 0 := by rw [eM27]; exact nu_s _ _ _ _
      refine n_aload_n c_173_43 rfl (n_iload_n c_173_44 rfl (n_v1I c_173_45 rfl sc_112.n rfl rfl rfl rfl (mrowsOf1_3  hS27 (by omega)) ?_))
      intro z28 M29 hP30
      obtain ⟨eM, f30⟩ := hP30
      subst eM
      obtain rfl : z28 = 3 := by omega
      refine n_istore (L2 := [some (2, 112), some (0, m), some (0, 1), some (0, z6), some (0, 3), none, none]) c_173_48 rfl rfl (n_aload_n c_173_50 rfl (n_getV (bi := 0) c_173_51 sc_112.n rfl rfl rfl (show 3 ≤ M27 112 0 ∧ M27 112 0 ≤ 3 by omega) ?_))
      intro z31 ez31 f32
      obtain rfl : z31 = 3 := by omega
      refine n_iload c_173_54 rfl (n_s2I c_173_56 rfl rfl rfl rfl (mpower3_3  hS27 ) ?_)
      intro z33 M34 hP35
      obtain ⟨eM, f35⟩ := hP35
      subst eM
      obtain rfl : z33 = 27 := by omega
      refine n_istore (L2 := [some (2, 112), some (0, m), some (0, 1), some (0, z6), some (0, 3), some (0, 27), none]) c_173_59 rfl rfl (n_iconst c_173_61 (n_istore (L2 := [some (2, 112), some (0, m), some (0, 1), some (0, z6), some (0, 3), some (0, 27), some (0, 0)]) c_173_62 rfl rfl (n_fg (le_s (le_n (le_s (le_s (le_s (le_s (le_s le_0))))))) ?_)))
      exact (mlistsX1_3_c hS hdm hm hms hmk hl2 68) _ _ _ _ M27 hS27 (by omega) (by omega) (by omega) (by omega) (by omega) (by exact fun a i h1 h2 h3 => by rw [eM27, nu_e, if_neg (by omega), eM26, nu_e, if_neg (by omega), eM25, nu_e, if_neg (by omega), hms]) (by rw [eM27, nu_i (by omega), eM26, nu_i (by omega), eM25, nu_s]; exact kz) (by rw [eM27, nu_i (by omega), eM26, nu_s]) (by exact kz) (by rw [eM27, nu_s]; rfl) (by omega) (by exact fun j j0 j1 => by rw [eM27, nu_s] at j1; omega) (by omega)
    · intro h36
      exact n_rV c_173_27 rfl ⟨hS, by rw [hms] at *; exact ⟨by omega, by omega, by rw [← kz, ← show Ms 112 20 = z6 by omega]; exact (hmk (by omega) (by omega)).1, fun _ _ _ => rfl, by rw [← kz, ← show Ms 112 20 = z6 by omega]; exact (hmk (by omega) (by omega)).2⟩⟩

set_option maxHeartbeats 4000000 in
theorem mactsOfX1_3 {xs : List Int32} {e : Nat} {ac : Int} {M : nM} {m gd : Int} {Ms : nM} (hS : Sf 3 ac M M) (hdm : M 112 0 = 3) (hm : -2147483648 ≤ m ∧ m ≤ 2147483647) (hgd : M 112 0 = gd) (hms : M = Ms) (hmk : Ms 112 21 = 1 → 0 ≤ Ms 112 20 → Ms 112 22 = KNm 3 1 (Ms 112 20) Ms ∧ LQk 3 1 (Ms 112 20) Ms Ms) (hl2 : ∀ l : Int, 0 ≤ l → l < Ms 112 7 → 1 ≤ Ms 118 l) : nW xs (e + 5) 174 0 [some (2, 112), some (0, m), some (0, 1)] [] M (nPI fun z M1 => Sf 3 ac M1 M1 ∧ (-2147483648 ≤ z ∧ z ≤ 2147483647) ∧ (M1 112 0 = gd) ∧ (mKp 3 1 m Ms M1) ∧ (z = M1 112 22)) := by
  have hd : (3 : Int) = 2 ∨ (3 : Int) = 3 := by decide
  have hac := hS.2.2.2.2
  refine n_aload_n c_174_0 rfl (n_iload_n c_174_1 rfl (n_v1I c_174_2 rfl sc_112.n rfl rfl rfl rfl (misMakeF_3 (n := 1) hS (by omega) (by omega)) ?_))
  intro z1 M2 hP3
  obtain ⟨eM, f3⟩ := hP3
  subst eM
  obtain rfl : z1 = 1 := by omega
  refine n_if0_ne c_174_5 (by omega) ?_ ?_
  · intro h4
    refine n_aload_n c_174_10 rfl (n_iload_n c_174_11 rfl (n_iload_n c_174_12 rfl ?_))
    refine n_v2V c_174_13 rfl sc_112.n rfl rfl rfl rfl (mlistsX1_3 (m := m) (Ms := M) hS (by omega) (by omega) (by rfl) (by rw [hms]; exact hmk) (by rw [hms]; exact hl2)) ?_
    intro  M5 hP6
    obtain ⟨hS5, f6p0⟩ := hP6
    have g112 := f6p0.2.2.2.1 112 0 (by unfold core0; omega)
    refine n_aload_n c_174_16 rfl (n_getV (bi := 22) c_174_17 sc_112.n rfl rfl rfl (t_112_22 hS5) ?_)
    intro z7 ez7 f8
    exact n_rI c_174_20 rfl ⟨hS5, by omega, by omega, by have y := f6p0; rw [hms] at y; exact y, by exact ez7⟩
  · intro h9
    exfalso; omega

set_option maxHeartbeats 4000000 in
theorem mactOfX1_3 {xs : List Int32} {e : Nat} {ac : Int} {M : nM} {m i gd : Int} {Ms : nM} (hS : Sf 3 ac M M) (hdm : M 112 0 = 3) (hm : -2147483648 ≤ m ∧ m ≤ 2147483647) (hi : -2147483648 ≤ i ∧ i ≤ 2147483647) (hgd : M 112 0 = gd) (hms : M = Ms) (hmk : Ms 112 21 = 1 → 0 ≤ Ms 112 20 → Ms 112 22 = KNm 3 1 (Ms 112 20) Ms ∧ LQk 3 1 (Ms 112 20) Ms Ms) (hl2 : ∀ l : Int, 0 ≤ l → l < Ms 112 7 → 1 ≤ Ms 118 l) : nW xs (e + 5) 175 0 [some (2, 112), some (0, m), some (0, 1), some (0, i)] [] M (nPI fun z M1 => Sf 3 ac M1 M1 ∧ (-2147483648 ≤ z ∧ z ≤ 2147483647) ∧ (M1 112 0 = gd) ∧ (mKp 3 1 m Ms M1) ∧ (mLi i z M1)) := by
  have hd : (3 : Int) = 2 ∨ (3 : Int) = 3 := by decide
  have hac := hS.2.2.2.2
  refine n_aload_n c_175_0 rfl (n_iload_n c_175_1 rfl (n_v1I c_175_2 rfl sc_112.n rfl rfl rfl rfl (misMakeF_3 (n := 1) hS (by omega) (by omega)) ?_))
  intro z1 M2 hP3
  obtain ⟨eM, f3⟩ := hP3
  subst eM
  obtain rfl : z1 = 1 := by omega
  refine n_if0_ne c_175_5 (by omega) ?_ ?_
  · intro h4
    refine n_aload_n c_175_10 rfl (n_iload_n c_175_11 rfl (n_iload_n c_175_12 rfl ?_))
    refine n_v2V c_175_13 rfl sc_112.n rfl rfl rfl rfl (mlistsX1_3 (m := m) (Ms := M) hS (by omega) (by omega) (by rfl) (by rw [hms]; exact hmk) (by rw [hms]; exact hl2)) ?_
    intro  M5 hP6
    obtain ⟨hS5, f6p0⟩ := hP6
    have g112 := f6p0.2.2.2.1 112 0 (by unfold core0; omega)
    refine n_iload_n c_175_16 rfl ?_
    refine n_if0_lt c_175_17 (by omega) ?_ ?_
    · intro h7
      refine n_iconst c_175_28 (n_goto c_175_29 ?_)
      exact n_rI c_175_38 rfl ⟨hS5, by omega, by omega, by have y := f6p0; rw [hms] at y; exact y, by exact Or.inl ⟨by omega, rfl⟩⟩
    · intro h8
      refine n_iload_n c_175_20 rfl (n_aload_n c_175_21 rfl (n_getV (bi := 22) c_175_22 sc_112.n rfl rfl rfl (t_112_22 hS5) ?_))
      intro z9 ez9 f10
      refine n_if2_lt c_175_25 (by omega) (by omega) ?_ ?_
      · intro h11
        refine n_aload_n c_175_32 rfl (n_getR c_175_33 sc_112.n rfl rfl rfl r_112_23 (n_iload_n c_175_36 rfl (n_ialoadV c_175_37 sc_128.n rfl rfl rfl (by omega) (t_128 hS5 (by omega)) ?_)))
        intro z12 ez12 f13
        exact n_rI c_175_38 rfl ⟨hS5, by omega, by omega, by have y := f6p0; rw [hms] at y; exact y, by exact Or.inr ⟨by omega, by omega, ez12⟩⟩
      · intro h14
        refine n_iconst c_175_28 (n_goto c_175_29 ?_)
        exact n_rI c_175_38 rfl ⟨hS5, by omega, by omega, by have y := f6p0; rw [hms] at y; exact y, by exact Or.inl ⟨by omega, rfl⟩⟩
  · intro h15
    exfalso; omega

set_option maxHeartbeats 4000000 in
theorem mlistsX2_3_c {xs : List Int32} {e : Nat} {ac : Int} {M : nM} {m : Int} {Ms : nM} (hS : Sf 3 ac M M) (hdm : M 112 0 = 3) (hm : -2147483648 ≤ m ∧ m ≤ 2147483647) (hms : M = Ms) (hmk : Ms 112 21 = 2 → 0 ≤ Ms 112 20 → Ms 112 22 = KNm 3 2 (Ms 112 20) Ms ∧ LQk 3 2 (Ms 112 20) Ms Ms) (hl2 : ∀ l : Int, 0 ≤ l → l < Ms 112 7 → 1 ≤ Ms 118 l) : ∀ nn : Nat, (∀ (x3 x4 x5 x6 : Int) (M : nM), Sf 3 ac M M → (0 ≤ x3 ∧ x3 ≤ 4095) → (9 ≤ x4 ∧ x4 ≤ 9) → (19683 ≤ x5 ∧ x5 ≤ 19683) → (0 ≤ x6 ∧ x6 ≤ 19683) → (M 112 0 = 3) → (FLs Ms M) → (M 112 20 = kmask m (Ms 112 7)) → (M 112 21 = 2) → (x3 = kmask m (Ms 112 7)) → (M 112 22 = cf (fun c => bb (KMm 3 2 (fun x => cdg 3 c x) (kmask m (Ms 112 7)) Ms)) x6.toNat) → (M 112 22 ≤ x6) → (∀ j : Int, 0 ≤ j → j < M 112 22 → (0 ≤ M 128 j ∧ M 128 j < x6) ∧ KMm 3 2 (fun x => cdg 3 (M 128 j) x) (kmask m (Ms 112 7)) Ms ∧ cf (fun c => bb (KMm 3 2 (fun x => cdg 3 c x) (kmask m (Ms 112 7)) Ms)) (M 128 j).toNat = j) → (19683 - x6) * 1 + 1 < (nn : Int) → nW xs (e + 4) 173 64 [some (2, 112), none, some (0, 2), some (0, x3), some (0, x4), some (0, x5), some (0, x6)] [] M (nPV fun M1 => Sf 3 ac M1 M1 ∧ (mKp 3 2 m Ms M1))) := by
  have hd : (3 : Int) = 2 ∨ (3 : Int) = 3 := by decide
  have hac := hS.2.2.2.2
  have t7 := t_112_7 (hms ▸ hS)
  have kr := kmask_r (m := m) (n := Ms 112 7) (by omega)
  intro nn
  induction nn with
  | zero => intros; omega
  | succ nn ih =>
    intro x3 x4 x5 x6 M hS k3 k4 k5 k6 hdm v0 v1 v2 v3 v4 v5 v6 hnn
    have t22 := t_112_22 hS
    refine n_iload c_173_64 rfl (n_iload c_173_66 rfl ?_)
    refine n_if2_ge c_173_68 (by omega) (by omega) ?_ ?_
    · intro h1
      exact n_rV c_173_116 rfl ⟨hS, by exact ⟨v2, v1, by rw [v4, show x6 = 19683 by omega]; unfold KNm; rw [show (pn 3 (pw 3 2).toNat).toNat = (19683 : Int).toNat by decide +kernel], fun a i hc => v0 a i (by unfold core0 at hc; omega) (by unfold core0 at hc; omega) (by unfold core0 at hc; omega), fun j j0 j1 => by have y := v6 j j0 j1; rw [show pn 3 (pw 3 2).toNat = 19683 by decide +kernel]; exact ⟨by omega, y.2⟩⟩⟩
    · intro h2
      refine n_aload_n c_173_71 rfl (n_iload c_173_72 rfl (n_i2l c_173_74 (by omega) ?_))
      refine n_iload c_173_75 rfl (n_v2V c_173_77 rfl sc_112.n rfl rfl rfl rfl (mlayX_3 (c := x6) (r := x4) (Ms := M) hS (by omega) (by omega) (by omega) (by rfl)) ?_)
      intro  M3 hP4
      obtain ⟨hS3, f4p0, f4p1⟩ := hP4
      have hS3c := hS3.2.2.2.1.1
      have hS3 := hS3.refl
      have hS3k0 := hS3c 112 0 (by unfold core; omega)
      have hS3k1 := hS3c 112 22 (by unfold core; omega)
      have y22 := f4p1 112 22 (by omega)
      have lfr : FLs Ms M3 := fun a i h1 h2 h3 => by rw [f4p1 a i h1]; exact v0 a i h1 h2 h3
      refine n_aload_n c_173_80 rfl (n_iload_n c_173_81 rfl (n_iload_n c_173_82 rfl ?_))
      refine n_v2I c_173_83 rfl sc_112.n rfl rfl rfl rfl (mhandKeepsX_3 (m := 2) (k := x3) hS3 (by omega) (by omega) (by omega) (by exact fun l l0 l1 => by rw [lfr 118 l (by omega) (by omega) (by omega)]; exact hl2 l l0 (by have y := lfr 112 7 (by omega) (by omega) (by omega); omega))) ?_
      intro z5 M6 hP7
      obtain ⟨eM, f7, f7p0⟩ := hP7
      subst eM
      have hk : z5 = bb (KMm 3 2 (fun x => cdg 3 x6 x) (kmask m (Ms 112 7)) Ms) := by rw [f7p0, v3]; exact bb_c ((KMm.of (fun a i q => lfr a i (by omega) (by omega) (by omega))).trans (KMm_congr (by decide) (by decide) (fun i i0 i1 => f4p0 i i0 (by have y : pw 3 2 = 9 := (by decide); omega))))
      refine n_if0_eq c_173_86 (by omega) ?_ ?_
      · intro h8
        refine n_iinc (L2 := [some (2, 112), none, some (0, 2), some (0, x3), some (0, x4), some (0, x5), some (0, (x6 + 1))]) c_173_110 rfl rfl rfl (n_goto c_173_113 (n_fg (le_s (le_n (le_s (le_s (le_s (le_s (le_s le_0))))))) ?_))
        exact ih _ _ _ _ M3 hS3 (by omega) (by omega) (by omega) (by omega) (by omega) (by exact lfr) (by rw [f4p1 112 20 (by omega)]; exact v1) (by rw [f4p1 112 21 (by omega)]; exact v2) (by exact v3) (by rw [f4p1 112 22 (by omega), cf_step (by omega), ← v4, ← hk]; omega) (by have y := f4p1 112 22 (by omega); omega) (by have w0 := f4p1 112 22 (by omega); exact fun j j0 j1 => by rw [f4p1 128 j (by omega)]; have y := v6 j j0 (by omega); exact ⟨by omega, y.2⟩) (by omega)
      · intro h9
        refine n_aload_n c_173_89 rfl (n_getR c_173_90 sc_112.n rfl rfl rfl r_112_23 (n_aload_n c_173_93 rfl (n_getV (bi := 22) c_173_94 sc_112.n rfl rfl rfl (t_112_22 hS3) ?_)))
        intro z10 ez10 f11
        refine n_iload c_173_97 rfl (n_iastoreM hS3 c_173_99 sc_128.n rfl (by omega) (m_128 (by omega) (by omega)) ?_)
        intro M12 eM12 hS12
        have g12_0 : M12 112 0 = M3 112 0 := by rw [eM12]; exact nu_a (by omega)
        have g12_1 : M12 112 22 = M3 112 22 := by rw [eM12]; exact nu_a (by omega)
        have y99 : M12 112 22 = M3 112 22 := by rw [eM12, nu_a (by omega)]
        refine n_aload_n c_173_100 rfl (n_dup2 c_173_101 (n_getV (bi := 22) c_173_102 sc_112.n rfl rfl rfl (t_112_22 hS12) ?_))
        intro z13 ez13 f14
        refine n_iconst c_173_105 (n_iadd c_173_106 rfl (n_putM (bi := 22) hS12 c_173_107 sc_112.n rfl rfl rfl rfl (m_112_22 (by omega)) ?_))
        intro M15 eM15 hS15
        have g15_0 : M15 112 0 = M12 112 0 := by rw [eM15]; exact nu_i (by omega)
        have g15_1 : M15 112 22 = (z13 + 1) := by rw [eM15]; exact nu_s _ _ _ _
        refine n_iinc (L2 := [some (2, 112), none, some (0, 2), some (0, x3), some (0, x4), some (0, x5), some (0, (x6 + 1))]) c_173_110 rfl rfl rfl (n_goto c_173_113 (n_fg (le_s (le_n (le_s (le_s (le_s (le_s (le_s le_0))))))) ?_))
        exact ih _ _ _ _ M15 hS15 (by omega) (by omega) (by omega) (by omega) (by omega) (by exact fun a i h1 h2 h3 => by rw [eM15, nu_e, if_neg (by omega), eM12, nu_a h2]; exact lfr a i h1 h2 h3) (by rw [eM15, nu_i (by omega), eM12, nu_a (by omega), f4p1 112 20 (by omega)]; exact v1) (by rw [eM15, nu_i (by omega), eM12, nu_a (by omega), f4p1 112 21 (by omega)]; exact v2) (by exact v3) (by have y := f4p1 112 22 (by omega); rw [cf_step (by omega), ← v4, ← y, ← hk]; omega) (by have y := f4p1 112 22 (by omega); omega) (by have w0 := f4p1 112 22 (by omega); have w1 : M15 112 22 = M 112 22 + 1 := (by omega); exact fun j j0 j1 => by by_cases u : j = M 112 22; (have e9 : M15 128 j = x6 := (by rw [eM15, nu_a (by omega), eM12, nu_e, if_pos ⟨rfl, by omega⟩]); rw [e9]; exact ⟨by omega, bb_n (by omega), by rw [u]; exact v4.symm⟩); (have e9 : M15 128 j = M 128 j := (by rw [eM15, nu_a (by omega), eM12, nu_i (by omega), f4p1 128 j (by omega)]); rw [e9]; have y := v6 j j0 (by omega); exact ⟨by omega, y.2⟩)) (by omega)
set_option maxHeartbeats 4000000 in
theorem mlistsX2_3 {xs : List Int32} {e : Nat} {ac : Int} {M : nM} {m : Int} {Ms : nM} (hS : Sf 3 ac M M) (hdm : M 112 0 = 3) (hm : -2147483648 ≤ m ∧ m ≤ 2147483647) (hms : M = Ms) (hmk : Ms 112 21 = 2 → 0 ≤ Ms 112 20 → Ms 112 22 = KNm 3 2 (Ms 112 20) Ms ∧ LQk 3 2 (Ms 112 20) Ms Ms) (hl2 : ∀ l : Int, 0 ≤ l → l < Ms 112 7 → 1 ≤ Ms 118 l) : nW xs (e + 4) 173 0 [some (2, 112), some (0, m), some (0, 2), none, none, none, none] [] M (nPV fun M1 => Sf 3 ac M1 M1 ∧ (mKp 3 2 m Ms M1)) := by
  have hd : (3 : Int) = 2 ∨ (3 : Int) = 3 := by decide
  have hac := hS.2.2.2.2
  have t7 := t_112_7 (hms ▸ hS)
  have kr := kmask_r (m := m) (n := Ms 112 7) (by omega)
  refine n_iload_n c_173_0 rfl (n_iconst c_173_1 (n_aload_n c_173_2 rfl (n_getV (bi := 7) c_173_3 sc_112.n rfl rfl rfl (t_112_7 hS) ?_)))
  intro z1 ez1 f2
  refine n_i_ishl c_173_6 rfl ?_
  have f3 := n_shl_1 (y := z1) (a := 0) (b := 12) (by decide) (by omega)
  generalize gz4 : (n_shl 1 z1) = z4 at f3 ⊢
  refine n_iconst c_173_7 (n_isub c_173_8 rfl (n_i_iand c_173_9 rfl ?_))
  have f5 := n_and_y (x := m) (y := (z4 - 1)) (by omega)
  generalize gz6 : (n_and m (z4 - 1)) = z6 at f5 ⊢
  have kz : z6 = kmask m (Ms 112 7) := by unfold kmask; rw [← gz6, ← gz4, ez1, hms]
  refine n_istore_n (L2 := [some (2, 112), some (0, m), some (0, 2), some (0, z6), none, none, none]) c_173_10 rfl rfl (n_aload_n c_173_11 rfl (n_getV (bi := 20) c_173_12 sc_112.n rfl rfl rfl (t_112_20 hS) ?_))
  intro z7 ez7 f8
  refine n_iload_n c_173_15 rfl ?_
  refine n_if2_ne c_173_16 (by omega) (by omega) ?_ ?_
  · intro h9
    refine n_aload_n c_173_28 rfl (n_iload_n c_173_29 rfl (n_putM (bi := 20) hS c_173_30 sc_112.n rfl rfl rfl rfl (m_112_20 (by omega)) ?_))
    intro M10 eM10 hS10
    have g10_0 : M10 112 0 = M 112 0 := by rw [eM10]; exact nu_i (by omega)
    have g10_1 : M10 112 20 = z6 := by rw [eM10]; exact nu_s _ _ _ _
    refine n_aload_n c_173_33 rfl (n_iload_n c_173_34 rfl (n_putM (bi := 21) hS10 c_173_35 sc_112.n rfl rfl rfl rfl (m_112_21 (by omega)) ?_))
    intro M11 eM11 hS11
    have g11_0 : M11 112 0 = M10 112 0 := by rw [eM11]; exact nu_i (by omega)
    have g11_1 : M11 112 20 = M10 112 20 := by rw [eM11]; exact nu_i (by omega)
    have g11_2 : M11 112 21 = 2 := by rw [eM11]; exact nu_s _ _ _ _
    refine n_aload_n c_173_38 rfl (n_iconst c_173_39 (n_putM (bi := 22) hS11 c_173_40 sc_112.n rfl rfl rfl rfl (m_112_22 (by omega)) ?_))
    intro M12 eM12 hS12
    have g12_0 : M12 112 0 = M11 112 0 := by rw [eM12]; exact nu_i (by omega)
    have g12_1 : M12 112 20 = M11 112 20 := by rw [eM12]; exact nu_i (by omega)
    have g12_2 : M12 112 21 = M11 112 21 := by rw [eM12]; exact nu_i (by omega)
    have g12_3 : M12 112 22 = 0 := by rw [eM12]; exact nu_s _ _ _ _
    refine n_aload_n c_173_43 rfl (n_iload_n c_173_44 rfl (n_v1I c_173_45 rfl sc_112.n rfl rfl rfl rfl (mrowsOf2_3  hS12 (by omega)) ?_))
    intro z13 M14 hP15
    obtain ⟨eM, f15⟩ := hP15
    subst eM
    obtain rfl : z13 = 9 := by omega
    refine n_istore (L2 := [some (2, 112), some (0, m), some (0, 2), some (0, z6), some (0, 9), none, none]) c_173_48 rfl rfl (n_aload_n c_173_50 rfl (n_getV (bi := 0) c_173_51 sc_112.n rfl rfl rfl (show 3 ≤ M12 112 0 ∧ M12 112 0 ≤ 3 by omega) ?_))
    intro z16 ez16 f17
    obtain rfl : z16 = 3 := by omega
    refine n_iload c_173_54 rfl (n_s2I c_173_56 rfl rfl rfl rfl (mpower9_3  hS12 ) ?_)
    intro z18 M19 hP20
    obtain ⟨eM, f20⟩ := hP20
    subst eM
    obtain rfl : z18 = 19683 := by omega
    refine n_istore (L2 := [some (2, 112), some (0, m), some (0, 2), some (0, z6), some (0, 9), some (0, 19683), none]) c_173_59 rfl rfl (n_iconst c_173_61 (n_istore (L2 := [some (2, 112), some (0, m), some (0, 2), some (0, z6), some (0, 9), some (0, 19683), some (0, 0)]) c_173_62 rfl rfl (n_fg (le_s (le_n (le_s (le_s (le_s (le_s (le_s le_0))))))) ?_)))
    exact (mlistsX2_3_c hS hdm hm hms hmk hl2 39380) _ _ _ _ M12 hS12 (by omega) (by omega) (by omega) (by omega) (by omega) (by exact fun a i h1 h2 h3 => by rw [eM12, nu_e, if_neg (by omega), eM11, nu_e, if_neg (by omega), eM10, nu_e, if_neg (by omega), hms]) (by rw [eM12, nu_i (by omega), eM11, nu_i (by omega), eM10, nu_s]; exact kz) (by rw [eM12, nu_i (by omega), eM11, nu_s]) (by exact kz) (by rw [eM12, nu_s]; rfl) (by omega) (by exact fun j j0 j1 => by rw [eM12, nu_s] at j1; omega) (by omega)
  · intro h21
    refine n_aload_n c_173_19 rfl (n_getV (bi := 21) c_173_20 sc_112.n rfl rfl rfl (t_112_21 hS) ?_)
    intro z22 ez22 f23
    refine n_iload_n c_173_23 rfl ?_
    refine n_if2_ne c_173_24 (by omega) (by omega) ?_ ?_
    · intro h24
      refine n_aload_n c_173_28 rfl (n_iload_n c_173_29 rfl (n_putM (bi := 20) hS c_173_30 sc_112.n rfl rfl rfl rfl (m_112_20 (by omega)) ?_))
      intro M25 eM25 hS25
      have g25_0 : M25 112 0 = M 112 0 := by rw [eM25]; exact nu_i (by omega)
      have g25_1 : M25 112 20 = z6 := by rw [eM25]; exact nu_s _ _ _ _
      refine n_aload_n c_173_33 rfl (n_iload_n c_173_34 rfl (n_putM (bi := 21) hS25 c_173_35 sc_112.n rfl rfl rfl rfl (m_112_21 (by omega)) ?_))
      intro M26 eM26 hS26
      have g26_0 : M26 112 0 = M25 112 0 := by rw [eM26]; exact nu_i (by omega)
      have g26_1 : M26 112 20 = M25 112 20 := by rw [eM26]; exact nu_i (by omega)
      have g26_2 : M26 112 21 = 2 := by rw [eM26]; exact nu_s _ _ _ _
      refine n_aload_n c_173_38 rfl (n_iconst c_173_39 (n_putM (bi := 22) hS26 c_173_40 sc_112.n rfl rfl rfl rfl (m_112_22 (by omega)) ?_))
      intro M27 eM27 hS27
      have g27_0 : M27 112 0 = M26 112 0 := by rw [eM27]; exact nu_i (by omega)
      have g27_1 : M27 112 20 = M26 112 20 := by rw [eM27]; exact nu_i (by omega)
      have g27_2 : M27 112 21 = M26 112 21 := by rw [eM27]; exact nu_i (by omega)
      have g27_3 : M27 112 22 = 0 := by rw [eM27]; exact nu_s _ _ _ _
      refine n_aload_n c_173_43 rfl (n_iload_n c_173_44 rfl (n_v1I c_173_45 rfl sc_112.n rfl rfl rfl rfl (mrowsOf2_3  hS27 (by omega)) ?_))
      intro z28 M29 hP30
      obtain ⟨eM, f30⟩ := hP30
      subst eM
      obtain rfl : z28 = 9 := by omega
      refine n_istore (L2 := [some (2, 112), some (0, m), some (0, 2), some (0, z6), some (0, 9), none, none]) c_173_48 rfl rfl (n_aload_n c_173_50 rfl (n_getV (bi := 0) c_173_51 sc_112.n rfl rfl rfl (show 3 ≤ M27 112 0 ∧ M27 112 0 ≤ 3 by omega) ?_))
      intro z31 ez31 f32
      obtain rfl : z31 = 3 := by omega
      refine n_iload c_173_54 rfl (n_s2I c_173_56 rfl rfl rfl rfl (mpower9_3  hS27 ) ?_)
      intro z33 M34 hP35
      obtain ⟨eM, f35⟩ := hP35
      subst eM
      obtain rfl : z33 = 19683 := by omega
      refine n_istore (L2 := [some (2, 112), some (0, m), some (0, 2), some (0, z6), some (0, 9), some (0, 19683), none]) c_173_59 rfl rfl (n_iconst c_173_61 (n_istore (L2 := [some (2, 112), some (0, m), some (0, 2), some (0, z6), some (0, 9), some (0, 19683), some (0, 0)]) c_173_62 rfl rfl (n_fg (le_s (le_n (le_s (le_s (le_s (le_s (le_s le_0))))))) ?_)))
      exact (mlistsX2_3_c hS hdm hm hms hmk hl2 39380) _ _ _ _ M27 hS27 (by omega) (by omega) (by omega) (by omega) (by omega) (by exact fun a i h1 h2 h3 => by rw [eM27, nu_e, if_neg (by omega), eM26, nu_e, if_neg (by omega), eM25, nu_e, if_neg (by omega), hms]) (by rw [eM27, nu_i (by omega), eM26, nu_i (by omega), eM25, nu_s]; exact kz) (by rw [eM27, nu_i (by omega), eM26, nu_s]) (by exact kz) (by rw [eM27, nu_s]; rfl) (by omega) (by exact fun j j0 j1 => by rw [eM27, nu_s] at j1; omega) (by omega)
    · intro h36
      exact n_rV c_173_27 rfl ⟨hS, by rw [hms] at *; exact ⟨by omega, by omega, by rw [← kz, ← show Ms 112 20 = z6 by omega]; exact (hmk (by omega) (by omega)).1, fun _ _ _ => rfl, by rw [← kz, ← show Ms 112 20 = z6 by omega]; exact (hmk (by omega) (by omega)).2⟩⟩

set_option maxHeartbeats 4000000 in
theorem mactsOfX2_3 {xs : List Int32} {e : Nat} {ac : Int} {M : nM} {m gd : Int} {Ms : nM} (hS : Sf 3 ac M M) (hdm : M 112 0 = 3) (hm : -2147483648 ≤ m ∧ m ≤ 2147483647) (hgd : M 112 0 = gd) (hms : M = Ms) (hmk : Ms 112 21 = 2 → 0 ≤ Ms 112 20 → Ms 112 22 = KNm 3 2 (Ms 112 20) Ms ∧ LQk 3 2 (Ms 112 20) Ms Ms) (hl2 : ∀ l : Int, 0 ≤ l → l < Ms 112 7 → 1 ≤ Ms 118 l) : nW xs (e + 5) 174 0 [some (2, 112), some (0, m), some (0, 2)] [] M (nPI fun z M1 => Sf 3 ac M1 M1 ∧ (-2147483648 ≤ z ∧ z ≤ 2147483647) ∧ (M1 112 0 = gd) ∧ (mKp 3 2 m Ms M1) ∧ (z = M1 112 22)) := by
  have hd : (3 : Int) = 2 ∨ (3 : Int) = 3 := by decide
  have hac := hS.2.2.2.2
  refine n_aload_n c_174_0 rfl (n_iload_n c_174_1 rfl (n_v1I c_174_2 rfl sc_112.n rfl rfl rfl rfl (misMakeF_3 (n := 2) hS (by omega) (by omega)) ?_))
  intro z1 M2 hP3
  obtain ⟨eM, f3⟩ := hP3
  subst eM
  obtain rfl : z1 = 1 := by omega
  refine n_if0_ne c_174_5 (by omega) ?_ ?_
  · intro h4
    refine n_aload_n c_174_10 rfl (n_iload_n c_174_11 rfl (n_iload_n c_174_12 rfl ?_))
    refine n_v2V c_174_13 rfl sc_112.n rfl rfl rfl rfl (mlistsX2_3 (m := m) (Ms := M) hS (by omega) (by omega) (by rfl) (by rw [hms]; exact hmk) (by rw [hms]; exact hl2)) ?_
    intro  M5 hP6
    obtain ⟨hS5, f6p0⟩ := hP6
    have g112 := f6p0.2.2.2.1 112 0 (by unfold core0; omega)
    refine n_aload_n c_174_16 rfl (n_getV (bi := 22) c_174_17 sc_112.n rfl rfl rfl (t_112_22 hS5) ?_)
    intro z7 ez7 f8
    exact n_rI c_174_20 rfl ⟨hS5, by omega, by omega, by have y := f6p0; rw [hms] at y; exact y, by exact ez7⟩
  · intro h9
    exfalso; omega

set_option maxHeartbeats 4000000 in
theorem mactOfX2_3 {xs : List Int32} {e : Nat} {ac : Int} {M : nM} {m i gd : Int} {Ms : nM} (hS : Sf 3 ac M M) (hdm : M 112 0 = 3) (hm : -2147483648 ≤ m ∧ m ≤ 2147483647) (hi : -2147483648 ≤ i ∧ i ≤ 2147483647) (hgd : M 112 0 = gd) (hms : M = Ms) (hmk : Ms 112 21 = 2 → 0 ≤ Ms 112 20 → Ms 112 22 = KNm 3 2 (Ms 112 20) Ms ∧ LQk 3 2 (Ms 112 20) Ms Ms) (hl2 : ∀ l : Int, 0 ≤ l → l < Ms 112 7 → 1 ≤ Ms 118 l) : nW xs (e + 5) 175 0 [some (2, 112), some (0, m), some (0, 2), some (0, i)] [] M (nPI fun z M1 => Sf 3 ac M1 M1 ∧ (-2147483648 ≤ z ∧ z ≤ 2147483647) ∧ (M1 112 0 = gd) ∧ (mKp 3 2 m Ms M1) ∧ (mLi i z M1)) := by
  have hd : (3 : Int) = 2 ∨ (3 : Int) = 3 := by decide
  have hac := hS.2.2.2.2
  refine n_aload_n c_175_0 rfl (n_iload_n c_175_1 rfl (n_v1I c_175_2 rfl sc_112.n rfl rfl rfl rfl (misMakeF_3 (n := 2) hS (by omega) (by omega)) ?_))
  intro z1 M2 hP3
  obtain ⟨eM, f3⟩ := hP3
  subst eM
  obtain rfl : z1 = 1 := by omega
  refine n_if0_ne c_175_5 (by omega) ?_ ?_
  · intro h4
    refine n_aload_n c_175_10 rfl (n_iload_n c_175_11 rfl (n_iload_n c_175_12 rfl ?_))
    refine n_v2V c_175_13 rfl sc_112.n rfl rfl rfl rfl (mlistsX2_3 (m := m) (Ms := M) hS (by omega) (by omega) (by rfl) (by rw [hms]; exact hmk) (by rw [hms]; exact hl2)) ?_
    intro  M5 hP6
    obtain ⟨hS5, f6p0⟩ := hP6
    have g112 := f6p0.2.2.2.1 112 0 (by unfold core0; omega)
    refine n_iload_n c_175_16 rfl ?_
    refine n_if0_lt c_175_17 (by omega) ?_ ?_
    · intro h7
      refine n_iconst c_175_28 (n_goto c_175_29 ?_)
      exact n_rI c_175_38 rfl ⟨hS5, by omega, by omega, by have y := f6p0; rw [hms] at y; exact y, by exact Or.inl ⟨by omega, rfl⟩⟩
    · intro h8
      refine n_iload_n c_175_20 rfl (n_aload_n c_175_21 rfl (n_getV (bi := 22) c_175_22 sc_112.n rfl rfl rfl (t_112_22 hS5) ?_))
      intro z9 ez9 f10
      refine n_if2_lt c_175_25 (by omega) (by omega) ?_ ?_
      · intro h11
        refine n_aload_n c_175_32 rfl (n_getR c_175_33 sc_112.n rfl rfl rfl r_112_23 (n_iload_n c_175_36 rfl (n_ialoadV c_175_37 sc_128.n rfl rfl rfl (by omega) (t_128 hS5 (by omega)) ?_)))
        intro z12 ez12 f13
        exact n_rI c_175_38 rfl ⟨hS5, by omega, by omega, by have y := f6p0; rw [hms] at y; exact y, by exact Or.inr ⟨by omega, by omega, ez12⟩⟩
      · intro h14
        refine n_iconst c_175_28 (n_goto c_175_29 ?_)
        exact n_rI c_175_38 rfl ⟨hS5, by omega, by omega, by have y := f6p0; rw [hms] at y; exact y, by exact Or.inl ⟨by omega, rfl⟩⟩
  · intro h15
    exfalso; omega

set_option maxHeartbeats 4000000 in
theorem mactOfXL_3 {xs : List Int32} {e : Nat} {ac : Int} {M0 M : nM} {m n i : Int} (hS : Sf 3 ac M0 M) (hdm : M0 112 0 = 3) (hm : -2147483648 ≤ m ∧ m ≤ 2147483647) (hn : -2147483648 ≤ n ∧ n ≤ 0) (hi : -2147483648 ≤ i ∧ i ≤ 2147483647) : nW xs (e + 5) 175 0 [some (2, 112), some (0, m), some (0, n), some (0, i)] [] M (nPI fun z M1 => M = M1 ∧ (-1 ≤ z ∧ z ≤ -1)) := by
  have hd : (3 : Int) = 2 ∨ (3 : Int) = 3 := by decide
  have hac := hS.2.2.2.2
  refine n_aload_n c_175_0 rfl (n_iload_n c_175_1 rfl (n_v1I c_175_2 rfl sc_112.n rfl rfl rfl rfl (misMakeL_3 (n := n) hS hdm (by omega)) ?_))
  intro z1 M2 hP3
  obtain ⟨eM, f3⟩ := hP3
  subst eM
  obtain rfl : z1 = 0 := by omega
  refine n_if0_ne c_175_5 (by omega) ?_ ?_
  · intro h4
    exfalso; omega
  · intro h5
    refine n_iconst c_175_8 ?_
    exact n_rI c_175_9 rfl ⟨rfl, by omega⟩

set_option maxHeartbeats 4000000 in
theorem mactsOfXL_3 {xs : List Int32} {e : Nat} {ac : Int} {M0 M : nM} {m n : Int} (hS : Sf 3 ac M0 M) (hdm : M0 112 0 = 3) (hm : -2147483648 ≤ m ∧ m ≤ 2147483647) (hn : -2147483648 ≤ n ∧ n ≤ 0) : nW xs (e + 5) 174 0 [some (2, 112), some (0, m), some (0, n)] [] M (nPI fun z M1 => M = M1 ∧ (-1 ≤ z ∧ z ≤ -1)) := by
  have hd : (3 : Int) = 2 ∨ (3 : Int) = 3 := by decide
  have hac := hS.2.2.2.2
  refine n_aload_n c_174_0 rfl (n_iload_n c_174_1 rfl (n_v1I c_174_2 rfl sc_112.n rfl rfl rfl rfl (misMakeL_3 (n := n) hS hdm (by omega)) ?_))
  intro z1 M2 hP3
  obtain ⟨eM, f3⟩ := hP3
  subst eM
  obtain rfl : z1 = 0 := by omega
  refine n_if0_ne c_174_5 (by omega) ?_ ?_
  · intro h4
    exfalso; omega
  · intro h5
    refine n_iconst c_174_8 ?_
    exact n_rI c_174_9 rfl ⟨rfl, by omega⟩

set_option maxHeartbeats 4000000 in
theorem mactOfXH_3 {xs : List Int32} {e : Nat} {ac : Int} {M0 M : nM} {m n i : Int} (hS : Sf 3 ac M0 M) (hdm : M0 112 0 = 3) (hm : -2147483648 ≤ m ∧ m ≤ 2147483647) (hn : 3 ≤ n ∧ n ≤ 2147483647) (hi : -2147483648 ≤ i ∧ i ≤ 2147483647) : nW xs (e + 5) 175 0 [some (2, 112), some (0, m), some (0, n), some (0, i)] [] M (nPI fun z M1 => M = M1 ∧ (-1 ≤ z ∧ z ≤ -1)) := by
  have hd : (3 : Int) = 2 ∨ (3 : Int) = 3 := by decide
  have hac := hS.2.2.2.2
  refine n_aload_n c_175_0 rfl (n_iload_n c_175_1 rfl (n_v1I c_175_2 rfl sc_112.n rfl rfl rfl rfl (misMakeH_3 (n := n) hS hdm (by omega)) ?_))
  intro z1 M2 hP3
  obtain ⟨eM, f3⟩ := hP3
  subst eM
  obtain rfl : z1 = 0 := by omega
  refine n_if0_ne c_175_5 (by omega) ?_ ?_
  · intro h4
    exfalso; omega
  · intro h5
    refine n_iconst c_175_8 ?_
    exact n_rI c_175_9 rfl ⟨rfl, by omega⟩

set_option maxHeartbeats 4000000 in
theorem mactsOfXH_3 {xs : List Int32} {e : Nat} {ac : Int} {M0 M : nM} {m n : Int} (hS : Sf 3 ac M0 M) (hdm : M0 112 0 = 3) (hm : -2147483648 ≤ m ∧ m ≤ 2147483647) (hn : 3 ≤ n ∧ n ≤ 2147483647) : nW xs (e + 5) 174 0 [some (2, 112), some (0, m), some (0, n)] [] M (nPI fun z M1 => M = M1 ∧ (-1 ≤ z ∧ z ≤ -1)) := by
  have hd : (3 : Int) = 2 ∨ (3 : Int) = 3 := by decide
  have hac := hS.2.2.2.2
  refine n_aload_n c_174_0 rfl (n_iload_n c_174_1 rfl (n_v1I c_174_2 rfl sc_112.n rfl rfl rfl rfl (misMakeH_3 (n := n) hS hdm (by omega)) ?_))
  intro z1 M2 hP3
  obtain ⟨eM, f3⟩ := hP3
  subst eM
  obtain rfl : z1 = 0 := by omega
  refine n_if0_ne c_174_5 (by omega) ?_ ?_
  · intro h4
    exfalso; omega
  · intro h5
    refine n_iconst c_174_8 ?_
    exact n_rI c_174_9 rfl ⟨rfl, by omega⟩
