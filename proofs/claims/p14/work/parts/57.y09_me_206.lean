/-! What the methods tell. -/
set_option maxHeartbeats 4000000 in
theorem mostX_3_2_c {xs : List Int32} {e : Nat} {ac : Int} {M0 M : nM} (hS : Sf 2 ac M0 M) (hwa : ∀ a : Int, 0 ≤ a → a < ac → WAct 2 (55 + 3 * a) M) : ∀ nn : Nat, (∀ (x2 x3 x4 : Int), (8 ≤ x2 ∧ x2 ≤ 8) → (0 ≤ x3 ∧ x3 ≤ 19683) → (0 ≤ x4 ∧ x4 ≤ 8) → (MM 2 3 ac M x4 x3) → (0 ≤ x3 ∧ x3 ≤ dpn 2 x4.toNat) → (8 - x4) * 1 + 1 < (nn : Int) → nW xs (e + 4) 131 14 [some (2, 3), some (0, 3), some (0, x2), some (0, x3), some (0, x4)] [] M (nPI fun z M1 => M = M1 ∧ (-2147483648 ≤ z ∧ z ≤ 2147483647) ∧ (NCl 2 8 3 ac (Tm M) ≤ z))) := by
  have hd : (2 : Int) = 2 ∨ (2 : Int) = 3 := by decide
  have hac := hS.2.2.2.2
  intro nn
  induction nn with
  | zero => intros; omega
  | succ nn ih =>
    intro x2 x3 x4 k2 k3 k4 v0 v1 hnn
    refine n_iload c_131_14 rfl ?_
    refine n_iload_n c_131_16 rfl ?_
    refine n_if2_ge c_131_17 (by omega) (by omega) ?_ ?_
    · intro h1
      refine n_iload_n c_131_46 rfl ?_
      exact n_rI c_131_47 rfl ⟨rfl, by omega, by have e4 : x4 = ((8 : Nat) : Int) := (by omega); rw [e4] at v0; exact MM.fin hd hS v0⟩
    · intro h2
      refine n_iload_n c_131_20 rfl ?_
      refine n_aload_n c_131_21 rfl ?_
      refine n_aload_n c_131_22 rfl ?_
      refine n_getR c_131_23 sc_3.n rfl rfl rfl r_3_0 ?_
      refine n_iload c_131_26 rfl ?_
      refine n_iload_n c_131_28 rfl ?_
      refine n_v2I c_131_29 rfl sc_4.n rfl rfl rfl rfl (thingsOfX_2 (r := x4) (p := 3) hS (by omega) (by omega)) ?_
      intro z3 M4 hP5
      obtain ⟨eM, f5, f5p0⟩ := hP5
      subst eM
      have thb := th_b (d := 2) (n := 3) (r := x4) (by decide) (by omega) (by omega)
      rw [← f5p0] at thb
      have thc : z3 ≤ 3 := thb.2
      refine n_v1I c_131_32 rfl sc_3.n rfl rfl rfl rfl (leastHeapX_2 (m := z3) hS (by omega)) ?_
      intro z6 M7 hP8
      obtain ⟨eM, f8, f8p0, f8p1, f8p2⟩ := hP8
      subst eM
      refine n_s1I c_131_35 rfl rfl rfl rfl (ibitsX_2 (x := z6) hS (by omega)) ?_
      intro z9 M10 hP11
      obtain ⟨eM, f11, f11p0⟩ := hP11
      subst eM
      refine n_imul c_131_38 rfl ?_
      refine n_wrap ?_
      have f12 := n_wr_r (x3 * z9)
      generalize gz13 : n_wr (x3 * z9) = z13 at f12 ⊢
      have dpb := dpn_b2 x4.toNat (by omega)
      have dpc : 2 * dpn 2 x4.toNat ≤ 19683 := dpn_b2 (x4.toNat + 1) (by omega)
      obtain ⟨w1, w2, w3, w4⟩ := wr_3 (x := x3) (y := z9) v1 dpb (by omega)
      rw [gz13] at w1
      refine n_istore_n (L2 := [some (2, 3), some (0, 3), some (0, x2), some (0, z13), some (0, x4)]) c_131_39 rfl rfl ?_
      refine n_iinc (L2 := [some (2, 3), some (0, 3), some (0, x2), some (0, z13), some (0, (x4 + 1))]) c_131_40 rfl rfl rfl ?_
      refine n_goto c_131_43 ?_
      refine n_fg (le_s (le_s (le_s (le_s (le_s le_0))))) ?_
      exact ih _ _ _ (by omega) (by omega) (by omega) (by rw [w1]; exact MM.st hd v0 (by omega) (GH.mk (m := z3) hd hS (by omega) (by omega) hwa f5p0 (by omega) f8p0 (by show z6 ≤ (3 : Int); omega) f8p2) f11p0) (by rw [show (x4 + 1).toNat = x4.toNat + 1 by omega]; show 0 ≤ z13 ∧ z13 ≤ 2 * dpn 2 x4.toNat; omega) (by omega)
set_option maxHeartbeats 4000000 in
theorem mostX_3_2 {xs : List Int32} {e : Nat} {ac : Int} {M0 M : nM} (hS : Sf 2 ac M0 M) (hwa : ∀ a : Int, 0 ≤ a → a < ac → WAct 2 (55 + 3 * a) M) : nW xs (e + 4) 131 0 [some (2, 3), some (0, 3), none, none, none] [] M (nPI fun z M1 => M = M1 ∧ (-2147483648 ≤ z ∧ z ≤ 2147483647) ∧ (NCl 2 8 3 ac (Tm M) ≤ z)) := by
  have hd : (2 : Int) = 2 ∨ (2 : Int) = 3 := by decide
  have hac := hS.2.2.2.2
  refine n_aload_n c_131_0 rfl ?_
  refine n_getR c_131_1 sc_3.n rfl rfl rfl r_3_0 ?_
  refine n_iload_n c_131_4 rfl ?_
  refine n_v1I c_131_5 rfl sc_4.n rfl rfl rfl rfl (power3_2  hS ) ?_
  intro z1 M2 hP3
  obtain ⟨eM, f3⟩ := hP3
  subst eM
  obtain rfl : z1 = 8 := by omega
  refine n_istore_n (L2 := [some (2, 3), some (0, 3), some (0, 8), none, none]) c_131_8 rfl rfl ?_
  refine n_iconst c_131_9 ?_
  refine n_istore_n (L2 := [some (2, 3), some (0, 3), some (0, 8), some (0, 1), none]) c_131_10 rfl rfl ?_
  refine n_iconst c_131_11 ?_
  refine n_istore (L2 := [some (2, 3), some (0, 3), some (0, 8), some (0, 1), some (0, 0)]) c_131_12 rfl rfl ?_
  refine n_fg (le_s (le_s (le_s (le_s (le_s le_0))))) ?_
  exact (mostX_3_2_c hS hwa 30) _ _ _ (by omega) (by omega) (by omega) (by exact MM.ini) (by exact ⟨by omega, by show (1 : Int) ≤ 1; omega⟩) (by omega)

set_option maxHeartbeats 4000000 in
theorem madeListX_3_2 {xs : List Int32} {e : Nat} {ac : Int} {M : nM} {Ms : nM} (hS : Sf 2 ac M M) (hms : M = Ms) (hpz : PZ M) (hwa : ∀ a : Int, 0 ≤ a → a < ac → WAct 2 (55 + 3 * a) Ms) (hkn : Ms 109 0 = 1 → KN (NCl 2 8 3 ac (Tm Ms)) (Ms 109 1) (Ms 109 2)) (hkl : Ms 109 0 = 1 → LOa 2 8 3 ac Ms 109 Ms) : nW xs (e + 5) 130 0 [some (2, 3), some (0, 3), none] [] M (nPA fun z M1 => Sf 2 ac M1 M1 ∧ z = 109 ∧ (MDs 2 8 3 ac 109 Ms M1) ∧ (M1 109 0 = 1) ∧ (M1 109 0 = 1 → LOa 2 8 3 ac Ms 109 M1)) := by
  have hd : (2 : Int) = 2 ∨ (2 : Int) = 3 := by decide
  have hac := hS.2.2.2.2
  refine n_aload_n c_130_0 rfl ?_
  refine n_getR c_130_1 sc_3.n rfl rfl rfl r_3_4 ?_
  refine n_iload_n c_130_4 rfl ?_
  refine n_iconst c_130_5 ?_
  refine n_isub c_130_6 rfl ?_
  refine n_aaload c_130_7 sc_14.n rfl rfl rfl (by omega) (r_made _) ?_
  refine n_stk (show ((103 + 3 * (3 - 1)) : Int) = 109 from rfl) ?_
  refine n_astore_n (L2 := [some (2, 3), some (0, 3), some (2, 109)]) c_130_8 rfl rfl ?_
  refine n_aload_n c_130_9 rfl ?_
  refine n_getV (bi := 0) c_130_10 made109.c0.1.n rfl rfl rfl (t_made hS made109).1 ?_
  intro z1 ez1 f2
  refine n_if0_ne c_130_13 (by omega) ?_ ?_
  · intro h3
    refine n_aload_n c_130_42 rfl ?_
    exact n_rA c_130_43 rfl ⟨hS, rfl, by exact ⟨fun q => by rw [hms] at q ⊢; exact hkn q, hpz, fun _ _ _ _ _ _ _ _ => by rw [hms]⟩, by omega, by rw [hms]; exact hkl⟩
  · intro h4
    refine n_aload_n c_130_16 rfl ?_
    refine n_getR c_130_17 sc_3.n rfl rfl rfl r_3_5 ?_
    refine n_iload_n c_130_20 rfl ?_
    refine n_aload_n c_130_21 rfl ?_
    refine n_getR c_130_22 sc_3.n rfl rfl rfl r_3_0 ?_
    refine n_aload_n c_130_25 rfl ?_
    refine n_getR c_130_26 sc_3.n rfl rfl rfl r_3_2 ?_
    refine n_aload_n c_130_29 rfl ?_
    refine n_getV (bi := 14) c_130_30 sc_3.n rfl rfl rfl (t_3_14x hS) ?_
    intro z5 ez5 f6
    have f6a := t_ac hS
    refine n_aload_n c_130_33 rfl ?_
    refine n_iload_n c_130_34 rfl ?_
    refine n_v1I c_130_35 rfl sc_3.n rfl rfl rfl rfl (mostX_3_2  hS (by rw [hms]; exact hwa)) ?_
    intro z7 M8 hP9
    obtain ⟨eM, f9, f9p0⟩ := hP9
    subst eM
    refine n_aload_n c_130_38 rfl ?_
    refine n_v6V c_130_39 rfl sc_15.n rfl rfl rfl rfl (makeX_3_2 (c := z5) (m := z7) (Ms := M) hS (by omega) (by omega) (by omega) (by rfl) (by exact hpz) (by rw [hms]; exact hwa) (by exact f9p0)) ?_
    intro  M10 hP11
    obtain ⟨hS10, f11K, f11p0, f11p1, f11p2, f11p3, f11p4, f11p5⟩ := hP11
    refine n_aload_n c_130_42 rfl ?_
    exact n_rA c_130_43 rfl ⟨hS10, rfl, by have y := f11p1; rw [hms] at y; exact ⟨fun _ => y, f11p2, by have u := f11p3; rw [hms] at u; exact u⟩, by exact f11p0, by have u := f11p4; have u2 := f11p5; rw [hms] at u; exact fun _ => ⟨u, u2⟩⟩

set_option maxHeartbeats 4000000 in
theorem isMadeX3_2 {xs : List Int32} {e : Nat} {ac : Int} {M0 M : nM} (hS : Sf 2 ac M0 M)  : nW xs e 13 0 [some (2, 4), some (0, 3)] [] M (nPI fun z M1 => M = M1 ∧ (1 ≤ z ∧ z ≤ 1)) := by
  have hd : (2 : Int) = 2 ∨ (2 : Int) = 3 := by decide
  have hac := hS.2.2.2.2
  refine n_iload_n c_13_0 rfl ?_
  refine n_iconst c_13_1 ?_
  refine n_if2_lt c_13_2 (by omega) (by omega) ?_ ?_
  · intro h1
    exfalso; omega
  · intro h2
    refine n_iload_n c_13_5 rfl ?_
    refine n_aload_n c_13_6 rfl ?_
    refine n_getV (bi := 0) c_13_7 sc_4.n rfl rfl rfl (t_4_0 hS) ?_
    intro z3 ez3 f4
    obtain rfl : z3 = 2 := by omega
    refine n_iconst c_13_10 ?_
    refine n_if2_ne c_13_11 (by omega) (by omega) ?_ ?_
    · intro h5
      exfalso; omega
    · intro h6
      refine n_iconst c_13_14 ?_
      refine n_goto c_13_15 ?_
      refine n_if2_gt c_13_19 (by omega) (by omega) ?_ ?_
      · intro h7
        exfalso; omega
      · intro h8
        refine n_iconst c_13_22 ?_
        refine n_goto c_13_23 ?_
        exact n_rZ c_13_27 rfl (by omega) ⟨rfl, by omega⟩

set_option maxHeartbeats 4000000 in
theorem codesX3_2 {xs : List Int32} {e : Nat} {ac : Int} {M0 M : nM} (hS : Sf 2 ac M0 M)  : nW xs (e + 1) 14 0 [some (2, 4), some (0, 3)] [] M (nPI fun z M1 => M = M1 ∧ (256 ≤ z ∧ z ≤ 256)) := by
  have hd : (2 : Int) = 2 ∨ (2 : Int) = 3 := by decide
  have hac := hS.2.2.2.2
  refine n_aload_n c_14_0 rfl ?_
  refine n_aload_n c_14_1 rfl ?_
  refine n_iload_n c_14_2 rfl ?_
  refine n_v1I c_14_3 rfl sc_4.n rfl rfl rfl rfl (power3_2  hS ) ?_
  intro z1 M2 hP3
  obtain ⟨eM, f3⟩ := hP3
  subst eM
  obtain rfl : z1 = 8 := by omega
  refine n_v1I c_14_6 rfl sc_4.n rfl rfl rfl rfl (power8_2  hS ) ?_
  intro z4 M5 hP6
  obtain ⟨eM, f6⟩ := hP6
  subst eM
  obtain rfl : z4 = 256 := by omega
  exact n_rI c_14_9 rfl ⟨rfl, by omega⟩

set_option maxHeartbeats 4000000 in
theorem madeX_3_2 {xs : List Int32} {e : Nat} {ac : Int} {M : nM} {gd : Int} {Ms : nM} (hS : Sf 2 ac M M) (hgd : M 112 0 = gd) (hms : M = Ms) (hpz : PZ M) (hwa : ∀ a : Int, 0 ≤ a → a < ac → WAct 2 (55 + 3 * a) Ms) (hkn : Ms 109 0 = 1 → KN (NCl 2 8 3 ac (Tm Ms)) (Ms 109 1) (Ms 109 2)) (hkl : Ms 109 0 = 1 → LOa 2 8 3 ac Ms 109 Ms) : nW xs (e + 6) 104 0 [some (2, 3), some (0, 3), none] [] M (nPI fun z M1 => Sf 2 ac M1 M1 ∧ (-2147483648 ≤ z ∧ z ≤ 2147483647) ∧ (M1 112 0 = gd) ∧ (MDs 2 8 3 ac 109 Ms M1) ∧ (cMd (NCl 2 8 3 ac (Tm Ms)) z) ∧ (M1 109 0 = 1 → LOa 2 8 3 ac Ms 109 M1)) := by
  have hd : (2 : Int) = 2 ∨ (2 : Int) = 3 := by decide
  have hac := hS.2.2.2.2
  refine n_aload_n c_104_0 rfl ?_
  refine n_getR c_104_1 sc_3.n rfl rfl rfl r_3_0 ?_
  refine n_iload_n c_104_4 rfl ?_
  refine n_v1I c_104_5 rfl sc_4.n rfl rfl rfl rfl (isMadeX3_2  hS ) ?_
  intro z1 M2 hP3
  obtain ⟨eM, f3⟩ := hP3
  subst eM
  obtain rfl : z1 = 1 := by omega
  refine n_if0_ne c_104_8 (by omega) ?_ ?_
  · intro h4
    refine n_aload_n c_104_13 rfl ?_
    refine n_iload_n c_104_14 rfl ?_
    refine n_v1A c_104_15 rfl sc_3.n rfl rfl rfl rfl (madeListX_3_2 (Ms := M) hS (by rfl) (by exact hpz) (by rw [hms]; exact hwa) (by rw [hms]; exact hkn) (by rw [hms]; exact hkl)) ?_
    intro z5 M6 hP7
    obtain ⟨hS6, f7, f7p0, f7p1, f7p2⟩ := hP7
    have g112 := f7p0.2.2 112 0 (by omega) (by omega) (by omega) (by omega) (by omega) (by omega)
    obtain rfl : z5 = 109 := f7
    refine n_astore_n (L2 := [some (2, 3), some (0, 3), some (2, 109)]) c_104_18 rfl rfl ?_
    refine n_aload_n c_104_19 rfl ?_
    refine n_getV (bi := 1) c_104_20 made109.c0.1.n rfl rfl rfl (t_made hS6 made109).2.1 ?_
    intro z8 ez8 f9
    refine n_if0_eq c_104_23 (by omega) ?_ ?_
    · intro h10
      refine n_aload_n c_104_31 rfl ?_
      refine n_getV (bi := 2) c_104_32 made109.c0.1.n rfl rfl rfl (t_made hS6 made109).2.2 ?_
      intro z11 ez11 f12
      exact n_rI c_104_35 rfl ⟨hS6, by omega, by omega, by have y := f7p0; rw [hms] at y; exact y, by have y := f7p0.1 f7p1; rw [hms] at y; unfold KN at y; unfold cMd; omega, by have u := f7p2; rw [hms] at u; exact u⟩
    · intro h13
      refine n_bipush c_104_26 rfl ?_
      refine n_goto c_104_28 ?_
      exact n_rI c_104_35 rfl ⟨hS6, by omega, by omega, by have y := f7p0; rw [hms] at y; exact y, by have y := f7p0.1 f7p1; rw [hms] at y; unfold KN at y; unfold cMd; omega, by have u := f7p2; rw [hms] at u; exact u⟩
  · intro h14
    exfalso; omega

set_option maxHeartbeats 4000000 in
theorem madeOfX_3_2 {xs : List Int32} {e : Nat} {ac : Int} {M : nM} {i w gd : Int} {Ms : nM} (hS : Sf 2 ac M M) (hi : -2147483648 ≤ i ∧ i ≤ 2147483647) (hw : -2147483648 ≤ w ∧ w ≤ 2147483647) (hgd : M 112 0 = gd) (hms : M = Ms) (hpz : PZ M) (hwa : ∀ a : Int, 0 ≤ a → a < ac → WAct 2 (55 + 3 * a) Ms) (hkn : Ms 109 0 = 1 → KN (NCl 2 8 3 ac (Tm Ms)) (Ms 109 1) (Ms 109 2)) (hkl : Ms 109 0 = 1 → LOa 2 8 3 ac Ms 109 Ms) : nW xs (e + 6) 105 0 [some (2, 3), some (0, 3), some (0, i), some (0, w), none] [] M (nPI fun z M1 => Sf 2 ac M1 M1 ∧ (-2147483648 ≤ z ∧ z ≤ 2147483647) ∧ (M1 112 0 = gd) ∧ (MDs 2 8 3 ac 109 Ms M1) ∧ (M1 109 0 = 1 → LOa 2 8 3 ac Ms 109 M1) ∧ (cMO 109 i w z M1) ∧ ((w = 0 ∨ w = 1) → M1 109 0 = 1)) := by
  have hd : (2 : Int) = 2 ∨ (2 : Int) = 3 := by decide
  have hac := hS.2.2.2.2
  refine n_aload_n c_105_0 rfl ?_
  refine n_getR c_105_1 sc_3.n rfl rfl rfl r_3_0 ?_
  refine n_iload_n c_105_4 rfl ?_
  refine n_v1I c_105_5 rfl sc_4.n rfl rfl rfl rfl (isMadeX3_2  hS ) ?_
  intro z1 M2 hP3
  obtain ⟨eM, f3⟩ := hP3
  subst eM
  obtain rfl : z1 = 1 := by omega
  refine n_if0_eq c_105_8 (by omega) ?_ ?_
  · intro h4
    exfalso; omega
  · intro h5
    refine n_iload_n c_105_11 rfl ?_
    refine n_if0_eq c_105_12 (by omega) ?_ ?_
    · intro h6
      refine n_aload_n c_105_22 rfl ?_
      refine n_iload_n c_105_23 rfl ?_
      refine n_v1A c_105_24 rfl sc_3.n rfl rfl rfl rfl (madeListX_3_2 (Ms := M) hS (by rfl) (by exact hpz) (by rw [hms]; exact hwa) (by rw [hms]; exact hkn) (by rw [hms]; exact hkl)) ?_
      intro z7 M8 hP9
      obtain ⟨hS8, f9, f9p0, f9p1, f9p2⟩ := hP9
      have g112 := f9p0.2.2 112 0 (by omega) (by omega) (by omega) (by omega) (by omega) (by omega)
      obtain rfl : z7 = 109 := f9
      refine n_astore (L2 := [some (2, 3), some (0, 3), some (0, i), some (0, w), some (2, 109)]) c_105_27 rfl rfl ?_
      refine n_iload_n c_105_29 rfl ?_
      refine n_if0_lt c_105_30 (by omega) ?_ ?_
      · intro h10
        refine n_iconst c_105_42 ?_
        exact n_rI c_105_43 rfl ⟨hS8, by omega, by omega, by have y := f9p0; rw [hms] at y; exact y, by have u := f9p2; rw [hms] at u; exact u, by unfold cMO; omega, by exact fun _ => f9p1⟩
      · intro h11
        refine n_iload_n c_105_33 rfl ?_
        refine n_aload c_105_34 rfl ?_
        refine n_getV (bi := 2) c_105_36 made109.c0.1.n rfl rfl rfl (t_made hS8 made109).2.2 ?_
        intro z12 ez12 f13
        refine n_if2_lt c_105_39 (by omega) (by omega) ?_ ?_
        · intro h14
          refine n_iload_n c_105_44 rfl ?_
          refine n_if0_ne c_105_45 (by omega) ?_ ?_
          · intro h15
            exfalso; omega
          · intro h16
            refine n_aload c_105_48 rfl ?_
            refine n_getR c_105_50 made109.c0.1.n rfl rfl rfl made109.r.1 ?_
            refine n_iload_n c_105_53 rfl ?_
            refine n_ialoadV c_105_54 made109.c0.2.1.n rfl rfl rfl (by omega) (t_mader hS8 made109 (Or.inl rfl) (by omega)) ?_
            intro z17 ez17 f18
            refine n_goto c_105_55 ?_
            exact n_rI c_105_65 rfl ⟨hS8, by omega, by omega, by have y := f9p0; rw [hms] at y; exact y, by have u := f9p2; rw [hms] at u; exact u, by unfold cMO; omega, by exact fun _ => f9p1⟩
        · intro h19
          refine n_iconst c_105_42 ?_
          exact n_rI c_105_43 rfl ⟨hS8, by omega, by omega, by have y := f9p0; rw [hms] at y; exact y, by have u := f9p2; rw [hms] at u; exact u, by unfold cMO; omega, by exact fun _ => f9p1⟩
    · intro h20
      refine n_iload_n c_105_15 rfl ?_
      refine n_iconst c_105_16 ?_
      refine n_if2_eq c_105_17 (by omega) (by omega) ?_ ?_
      · intro h21
        refine n_aload_n c_105_22 rfl ?_
        refine n_iload_n c_105_23 rfl ?_
        refine n_v1A c_105_24 rfl sc_3.n rfl rfl rfl rfl (madeListX_3_2 (Ms := M) hS (by rfl) (by exact hpz) (by rw [hms]; exact hwa) (by rw [hms]; exact hkn) (by rw [hms]; exact hkl)) ?_
        intro z22 M23 hP24
        obtain ⟨hS23, f24, f24p0, f24p1, f24p2⟩ := hP24
        have g112 := f24p0.2.2 112 0 (by omega) (by omega) (by omega) (by omega) (by omega) (by omega)
        obtain rfl : z22 = 109 := f24
        refine n_astore (L2 := [some (2, 3), some (0, 3), some (0, i), some (0, w), some (2, 109)]) c_105_27 rfl rfl ?_
        refine n_iload_n c_105_29 rfl ?_
        refine n_if0_lt c_105_30 (by omega) ?_ ?_
        · intro h25
          refine n_iconst c_105_42 ?_
          exact n_rI c_105_43 rfl ⟨hS23, by omega, by omega, by have y := f24p0; rw [hms] at y; exact y, by have u := f24p2; rw [hms] at u; exact u, by unfold cMO; omega, by exact fun _ => f24p1⟩
        · intro h26
          refine n_iload_n c_105_33 rfl ?_
          refine n_aload c_105_34 rfl ?_
          refine n_getV (bi := 2) c_105_36 made109.c0.1.n rfl rfl rfl (t_made hS23 made109).2.2 ?_
          intro z27 ez27 f28
          refine n_if2_lt c_105_39 (by omega) (by omega) ?_ ?_
          · intro h29
            refine n_iload_n c_105_44 rfl ?_
            refine n_if0_ne c_105_45 (by omega) ?_ ?_
            · intro h30
              refine n_aload c_105_58 rfl ?_
              refine n_getR c_105_60 made109.c0.1.n rfl rfl rfl made109.r.2 ?_
              refine n_iload_n c_105_63 rfl ?_
              refine n_ialoadV c_105_64 made109.c0.2.2.n rfl rfl rfl (by omega) (t_mader hS23 made109 (Or.inr rfl) (by omega)) ?_
              intro z31 ez31 f32
              exact n_rI c_105_65 rfl ⟨hS23, by omega, by omega, by have y := f24p0; rw [hms] at y; exact y, by have u := f24p2; rw [hms] at u; exact u, by unfold cMO; omega, by exact fun _ => f24p1⟩
            · intro h33
              exfalso; omega
          · intro h34
            refine n_iconst c_105_42 ?_
            exact n_rI c_105_43 rfl ⟨hS23, by omega, by omega, by have y := f24p0; rw [hms] at y; exact y, by have u := f24p2; rw [hms] at u; exact u, by unfold cMO; omega, by exact fun _ => f24p1⟩
      · intro h35
        refine n_iconst c_105_20 ?_
        exact n_rI c_105_21 rfl ⟨hS, by omega, by omega, by exact ⟨fun q => by rw [hms] at q ⊢; exact hkn q, hpz, fun _ _ _ _ _ _ _ _ => by rw [hms]⟩, by rw [hms]; exact hkl, by unfold cMO; omega, by exact fun q => by omega⟩

set_option maxHeartbeats 4000000 in
theorem sizeX_3_2 {xs : List Int32} {e : Nat} {ac : Int} {M : nM} {c gd : Int} {Ms : nM} (hS : Sf 2 ac M M) (hc : -2147483648 ≤ c ∧ c ≤ 2147483647) (hgd : M 112 0 = gd) (hms : M = Ms) (hpz : PZ M) (hwa : ∀ a : Int, 0 ≤ a → a < ac → WAct 2 (55 + 3 * a) Ms) (hkn : Ms 109 0 = 1 → KN (NCl 2 8 3 ac (Tm Ms)) (Ms 109 1) (Ms 109 2)) (hkl : Ms 109 0 = 1 → LOa 2 8 3 ac Ms 109 Ms) : nW xs (e + 6) 106 0 [some (2, 3), some (0, 3), some (0, c), none] [] M (nPI fun z M1 => Sf 2 ac M1 M1 ∧ (-2147483648 ≤ z ∧ z ≤ 2147483647) ∧ (M1 112 0 = gd) ∧ (MDs 2 8 3 ac 109 Ms M1) ∧ (M1 109 0 = 1 → LOa 2 8 3 ac Ms 109 M1)) := by
  have hd : (2 : Int) = 2 ∨ (2 : Int) = 3 := by decide
  have hac := hS.2.2.2.2
  refine n_aload_n c_106_0 rfl ?_
  refine n_getR c_106_1 sc_3.n rfl rfl rfl r_3_0 ?_
  refine n_iload_n c_106_4 rfl ?_
  refine n_v1I c_106_5 rfl sc_4.n rfl rfl rfl rfl (isMadeX3_2  hS ) ?_
  intro z1 M2 hP3
  obtain ⟨eM, f3⟩ := hP3
  subst eM
  obtain rfl : z1 = 1 := by omega
  refine n_if0_ne c_106_8 (by omega) ?_ ?_
  · intro h4
    refine n_aload_n c_106_13 rfl ?_
    refine n_iload_n c_106_14 rfl ?_
    refine n_v1A c_106_15 rfl sc_3.n rfl rfl rfl rfl (madeListX_3_2 (Ms := M) hS (by rfl) (by exact hpz) (by rw [hms]; exact hwa) (by rw [hms]; exact hkn) (by rw [hms]; exact hkl)) ?_
    intro z5 M6 hP7
    obtain ⟨hS6, f7, f7p0, f7p1, f7p2⟩ := hP7
    have g112 := f7p0.2.2 112 0 (by omega) (by omega) (by omega) (by omega) (by omega) (by omega)
    obtain rfl : z5 = 109 := f7
    refine n_astore_n (L2 := [some (2, 3), some (0, 3), some (0, c), some (2, 109)]) c_106_18 rfl rfl ?_
    refine n_aload_n c_106_19 rfl ?_
    refine n_getV (bi := 1) c_106_20 made109.c0.1.n rfl rfl rfl (t_made hS6 made109).2.1 ?_
    intro z8 ez8 f9
    refine n_if0_eq c_106_23 (by omega) ?_ ?_
    · intro h10
      refine n_iload_n c_106_29 rfl ?_
      refine n_if0_lt c_106_30 (by omega) ?_ ?_
      · intro h11
        refine n_iconst c_106_45 ?_
        exact n_rI c_106_46 rfl ⟨hS6, by omega, by omega, by have y := f7p0; rw [hms] at y; exact y, by have u := f7p2; rw [hms] at u; exact u⟩
      · intro h12
        refine n_iload_n c_106_33 rfl ?_
        refine n_aload_n c_106_34 rfl ?_
        refine n_getR c_106_35 sc_3.n rfl rfl rfl r_3_0 ?_
        refine n_iload_n c_106_38 rfl ?_
        refine n_v1I c_106_39 rfl sc_4.n rfl rfl rfl rfl (codesX3_2  hS6 ) ?_
        intro z13 M14 hP15
        obtain ⟨eM, f15⟩ := hP15
        subst eM
        obtain rfl : z13 = 256 := by omega
        refine n_if2_lt c_106_42 (by omega) (by omega) ?_ ?_
        · intro h16
          refine n_aload_n c_106_47 rfl ?_
          refine n_iload_n c_106_48 rfl ?_
          refine n_v1I c_106_49 rfl made109.c0.1.n rfl rfl rfl rfl (sizeOf_3_2 (c := c) hS6 (by omega)) ?_
          intro z17 M18 hP19
          obtain ⟨eM, f19⟩ := hP19
          subst eM
          exact n_rI c_106_52 rfl ⟨hS6, by omega, by omega, by have y := f7p0; rw [hms] at y; exact y, by have u := f7p2; rw [hms] at u; exact u⟩
        · intro h20
          refine n_iconst c_106_45 ?_
          exact n_rI c_106_46 rfl ⟨hS6, by omega, by omega, by have y := f7p0; rw [hms] at y; exact y, by have u := f7p2; rw [hms] at u; exact u⟩
    · intro h21
      refine n_bipush c_106_26 rfl ?_
      exact n_rI c_106_28 rfl ⟨hS6, by omega, by omega, by have y := f7p0; rw [hms] at y; exact y, by have u := f7p2; rw [hms] at u; exact u⟩
  · intro h22
    exfalso; omega
