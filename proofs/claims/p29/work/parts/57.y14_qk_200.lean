/-! What the methods tell. -/
set_option maxHeartbeats 4000000 in
theorem beHalfX_2 {xs : List Int32} {e : Nat} {ac : Int} {M0 M : nM} {Mz : nM} (hS : Sf 2 ac M0 M) (hmz : M = Mz) : nW xs (e + 2) 21 0 [some (2, 44), some (2, 4), none, none] [] M (nPV fun M1 => Sf 2 ac M0 M1 ∧ (M1 44 0 = 2 ∧ M1 44 1 = 2 ∧ M1 44 2 = 3 ∧ M1 44 3 = 1 ∧ M1 44 5 = 2) ∧ (∀ i : Int, 0 ≤ i → i < 2 * 2 * 2 → M1 45 i = tbl (kT 0 2) (i % pw 2 (km 0))) ∧ (∀ a i : Int, a ≠ 44 → a ≠ 45 → M1 a i = Mz a i)) := by
  have hd : (2 : Int) = 2 ∨ (2 : Int) = 3 := by decide
  have hac := hS.2.2.2.2
  refine n_aload_n c_21_0 rfl (n_iconst c_21_1 (n_aload_n c_21_2 rfl (n_getV (bi := 0) c_21_3 sc_4.n rfl rfl rfl (t_4_0 hS) ?_)))
  intro z1 ez1 f2
  obtain rfl : z1 = 2 := by omega
  refine n_aload_n c_21_6 rfl (n_v3V c_21_7 rfl sc_44.n rfl rfl rfl rfl (beginX_2 (n := 2) (c := 2) hS (by omega) (by omega)) ?_)
  intro  M3 hP4
  obtain ⟨hS3, f4p0, f4p1⟩ := hP4
  refine n_aload_n c_21_10 rfl (n_iconst c_21_11 (n_putZV (bi := 3) hS3 c_21_12 sc_44.n rfl rfl rfl (by omega) rfl (w_44_3 (by omega)) ?_))
  intro M5 eM5 hS5
  have g5_0 : M5 44 2 = M3 44 2 := by rw [eM5]; exact nu_i (by omega)
  have g5_1 : M5 44 0 = M3 44 0 := by rw [eM5]; exact nu_i (by omega)
  have g5_2 : M5 44 1 = M3 44 1 := by rw [eM5]; exact nu_i (by omega)
  have g5_3 : M5 44 5 = M3 44 5 := by rw [eM5]; exact nu_i (by omega)
  have g5_4 : M5 44 3 = 1 := by rw [eM5]; exact nu_s _ _ _ _
  refine n_aload_n c_21_15 rfl (n_getV (bi := 5) c_21_16 sc_44.n rfl rfl rfl (t_44_5 hS5) ?_)
  intro z6 ez6 f7
  obtain rfl : z6 = 2 := by omega
  refine n_iconst c_21_19 (n_isub c_21_20 rfl (n_istore_n (L2 := [some (2, 44), some (2, 4), some (0, (2 - 1)), none]) c_21_21 rfl rfl (n_iload_n c_21_22 rfl ?_)))
  refine n_if0_lt c_21_23 (by omega) ?_ ?_
  · intro h8
    exfalso; omega
  · intro h9
    refine n_aload_n c_21_26 rfl (n_getR c_21_27 sc_44.n rfl rfl rfl r_44_4 (n_iload_n c_21_30 rfl (n_aload_n c_21_31 rfl (n_getV (bi := 5) c_21_32 sc_44.n rfl rfl rfl (t_44_5 hS5) ?_))))
    intro z10 ez10 f11
    obtain rfl : z10 = 2 := by omega
    refine n_imul c_21_35 rfl (n_iload_n c_21_36 rfl (n_iadd c_21_37 rfl (n_iload_n c_21_38 rfl (n_iastoreV hS5 c_21_39 sc_45.n rfl (by omega) (w_45 (by omega) (by omega)) ?_))))
    intro M12 eM12 hS12
    have g12_0 : M12 44 2 = M5 44 2 := by rw [eM12]; exact nu_a (by omega)
    have g12_1 : M12 44 0 = M5 44 0 := by rw [eM12]; exact nu_a (by omega)
    have g12_2 : M12 44 1 = M5 44 1 := by rw [eM12]; exact nu_a (by omega)
    have g12_3 : M12 44 5 = M5 44 5 := by rw [eM12]; exact nu_a (by omega)
    have g12_4 : M12 44 3 = M5 44 3 := by rw [eM12]; exact nu_a (by omega)
    refine n_iload_n c_21_40 rfl (n_iconst c_21_41 (n_isub c_21_42 rfl (n_istore_n (L2 := [some (2, 44), some (2, 4), some (0, (2 - 1)), some (0, ((2 - 1) - 1))]) c_21_43 rfl rfl (n_iload_n c_21_44 rfl ?_))))
    refine n_if0_lt c_21_45 (by omega) ?_ ?_
    · intro h13
      exfalso; omega
    · intro h14
      refine n_aload_n c_21_48 rfl (n_getR c_21_49 sc_44.n rfl rfl rfl r_44_4 (n_iload_n c_21_52 rfl (n_aload_n c_21_53 rfl (n_getV (bi := 5) c_21_54 sc_44.n rfl rfl rfl (t_44_5 hS12) ?_))))
      intro z15 ez15 f16
      obtain rfl : z15 = 2 := by omega
      refine n_imul c_21_57 rfl (n_iload_n c_21_58 rfl (n_iadd c_21_59 rfl (n_aload_n c_21_60 rfl (n_getV (bi := 2) c_21_61 sc_44.n rfl rfl rfl (t_44_2 hS12) ?_))))
      intro z17 ez17 f18
      obtain rfl : z17 = 2 := by omega
      refine n_iastoreV hS12 c_21_64 sc_45.n rfl (by omega) (w_45 (by omega) (by omega)) ?_
      intro M19 eM19 hS19
      have g19_0 : M19 44 2 = M12 44 2 := by rw [eM19]; exact nu_a (by omega)
      have g19_1 : M19 44 0 = M12 44 0 := by rw [eM19]; exact nu_a (by omega)
      have g19_2 : M19 44 1 = M12 44 1 := by rw [eM19]; exact nu_a (by omega)
      have g19_3 : M19 44 5 = M12 44 5 := by rw [eM19]; exact nu_a (by omega)
      have g19_4 : M19 44 3 = M12 44 3 := by rw [eM19]; exact nu_a (by omega)
      refine n_aload_n c_21_65 rfl (n_getR c_21_66 sc_44.n rfl rfl rfl r_44_4 (n_iload_n c_21_69 rfl (n_aload_n c_21_70 rfl (n_getV (bi := 5) c_21_71 sc_44.n rfl rfl rfl (t_44_5 hS19) ?_))))
      intro z20 ez20 f21
      obtain rfl : z20 = 2 := by omega
      refine n_imul c_21_74 rfl (n_iload_n c_21_75 rfl (n_iadd c_21_76 rfl (n_aload_n c_21_77 rfl (n_getV (bi := 2) c_21_78 sc_44.n rfl rfl rfl (t_44_2 hS19) ?_))))
      intro z22 ez22 f23
      obtain rfl : z22 = 2 := by omega
      refine n_iastoreV hS19 c_21_81 sc_45.n rfl (by omega) (w_45 (by omega) (by omega)) ?_
      intro M24 eM24 hS24
      have g24_0 : M24 44 2 = M19 44 2 := by rw [eM24]; exact nu_a (by omega)
      have g24_1 : M24 44 0 = M19 44 0 := by rw [eM24]; exact nu_a (by omega)
      have g24_2 : M24 44 1 = M19 44 1 := by rw [eM24]; exact nu_a (by omega)
      have g24_3 : M24 44 5 = M19 44 5 := by rw [eM24]; exact nu_a (by omega)
      have g24_4 : M24 44 3 = M19 44 3 := by rw [eM24]; exact nu_a (by omega)
      refine n_aload_n c_21_82 rfl (n_dup2 c_21_83 (n_getV (bi := 2) c_21_84 sc_44.n rfl rfl rfl (t_44_2 hS24) ?_))
      intro z25 ez25 f26
      obtain rfl : z25 = 2 := by omega
      refine n_iconst c_21_87 (n_iadd c_21_88 rfl (n_putV (bi := 2) hS24 c_21_89 sc_44.n rfl rfl rfl rfl (w_44_2 (by omega)) ?_))
      intro M27 eM27 hS27
      have g27_0 : M27 44 0 = M24 44 0 := by rw [eM27]; exact nu_i (by omega)
      have g27_1 : M27 44 1 = M24 44 1 := by rw [eM27]; exact nu_i (by omega)
      have g27_2 : M27 44 5 = M24 44 5 := by rw [eM27]; exact nu_i (by omega)
      have g27_3 : M27 44 3 = M24 44 3 := by rw [eM27]; exact nu_i (by omega)
      have g27_4 : M27 44 2 = (2 + 1) := by rw [eM27]; exact nu_s _ _ _ _
      refine n_iinc (L2 := [some (2, 44), some (2, 4), some (0, (2 - 1)), some (0, (((2 - 1) - 1) + (-1)))]) c_21_92 rfl rfl rfl (n_goto c_21_95 (n_iload_n c_21_44 rfl ?_))
      refine n_if0_lt c_21_45 (by omega) ?_ ?_
      · intro h28
        refine n_iinc (L2 := [some (2, 44), some (2, 4), some (0, ((2 - 1) + (-1))), some (0, (((2 - 1) - 1) + (-1)))]) c_21_98 rfl rfl rfl (n_goto c_21_101 (n_iload_n c_21_22 rfl ?_))
        refine n_if0_lt c_21_23 (by omega) ?_ ?_
        · intro h29
          exfalso; omega
        · intro h30
          refine n_aload_n c_21_26 rfl (n_getR c_21_27 sc_44.n rfl rfl rfl r_44_4 (n_iload_n c_21_30 rfl (n_aload_n c_21_31 rfl (n_getV (bi := 5) c_21_32 sc_44.n rfl rfl rfl (t_44_5 hS27) ?_))))
          intro z31 ez31 f32
          obtain rfl : z31 = 2 := by omega
          refine n_imul c_21_35 rfl (n_iload_n c_21_36 rfl (n_iadd c_21_37 rfl (n_iload_n c_21_38 rfl (n_iastoreV hS27 c_21_39 sc_45.n rfl (by omega) (w_45 (by omega) (by omega)) ?_))))
          intro M33 eM33 hS33
          have g33_0 : M33 44 0 = M27 44 0 := by rw [eM33]; exact nu_a (by omega)
          have g33_1 : M33 44 1 = M27 44 1 := by rw [eM33]; exact nu_a (by omega)
          have g33_2 : M33 44 5 = M27 44 5 := by rw [eM33]; exact nu_a (by omega)
          have g33_3 : M33 44 3 = M27 44 3 := by rw [eM33]; exact nu_a (by omega)
          have g33_4 : M33 44 2 = M27 44 2 := by rw [eM33]; exact nu_a (by omega)
          refine n_iload_n c_21_40 rfl (n_iconst c_21_41 (n_isub c_21_42 rfl (n_istore_n (L2 := [some (2, 44), some (2, 4), some (0, ((2 - 1) + (-1))), some (0, (((2 - 1) + (-1)) - 1))]) c_21_43 rfl rfl (n_iload_n c_21_44 rfl ?_))))
          refine n_if0_lt c_21_45 (by omega) ?_ ?_
          · intro h34
            refine n_iinc (L2 := [some (2, 44), some (2, 4), some (0, (((2 - 1) + (-1)) + (-1))), some (0, (((2 - 1) + (-1)) - 1))]) c_21_98 rfl rfl rfl (n_goto c_21_101 (n_iload_n c_21_22 rfl ?_))
            refine n_if0_lt c_21_23 (by omega) ?_ ?_
            · intro h35
              refine n_aload_n c_21_104 rfl (n_aload_n c_21_105 rfl ?_)
              have h440 : M33 44 0 = 2 := by rw [eM33, nu_a (by omega), eM27, nu_i (by omega), eM24, nu_a (by omega), eM19, nu_a (by omega), eM12, nu_a (by omega), eM5, nu_i (by omega)]; exact f4p0.2.1
              have h441 : M33 44 1 = 2 := by rw [eM33, nu_a (by omega), eM27, nu_i (by omega), eM24, nu_a (by omega), eM19, nu_a (by omega), eM12, nu_a (by omega), eM5, nu_i (by omega)]; have y := f4p0.2.2.1; omega
              have h442 : M33 44 2 = 3 := by rw [eM33, nu_a (by omega), eM27, nu_e, if_pos ⟨rfl, by omega⟩] <;> omega
              have h443 : M33 44 3 = 1 := by rw [eM33, nu_a (by omega), eM27, nu_i (by omega), eM24, nu_a (by omega), eM19, nu_a (by omega), eM12, nu_a (by omega), eM5, nu_e, if_pos ⟨rfl, by omega⟩]
              have h445 : M33 44 5 = 2 := by rw [eM33, nu_a (by omega), eM27, nu_i (by omega), eM24, nu_a (by omega), eM19, nu_a (by omega), eM12, nu_a (by omega), eM5, nu_i (by omega)]; exact f4p0.1
              have row0 : M33 45 0 = 0 := by rw [eM33, nu_e, if_pos ⟨rfl, by omega⟩] <;> omega
              have row1 : M33 45 1 = 2 := by rw [eM33, nu_i (by omega), eM27, nu_a (by omega), eM24, nu_e, if_pos ⟨rfl, by omega⟩] <;> omega
              have row2 : M33 45 2 = 2 := by rw [eM33, nu_i (by omega), eM27, nu_a (by omega), eM24, nu_i (by omega), eM19, nu_e, if_pos ⟨rfl, by omega⟩] <;> omega
              have row3 : M33 45 3 = 1 := by rw [eM33, nu_i (by omega), eM27, nu_a (by omega), eM24, nu_i (by omega), eM19, nu_i (by omega), eM12, nu_e, if_pos ⟨rfl, by omega⟩] <;> omega
              have wfr : ∀ a i : Int, a ≠ 44 → a ≠ 45 → M33 a i = Mz a i := fun a i h1 h2 => by rw [eM33, nu_a h2, eM27, nu_a h1, eM24, nu_a h2, eM19, nu_a h2, eM12, nu_a h2, eM5, nu_a h1, f4p1 a i h1, hmz]
              refine n_v1V c_21_106 rfl sc_44.n rfl rfl rfl rfl (repeatX2_2 (Ms := M33) hS33 (by rfl) (by omega)) ?_
              intro  M36 hP37
              obtain ⟨hS36, f37p0, f37p1⟩ := hP37
              exact n_rV c_21_109 rfl ⟨hS36, by exact ⟨by rw [f37p1 44 0 (by omega)]; exact h440, by rw [f37p1 44 1 (by omega)]; exact h441, by rw [f37p1 44 2 (by omega)]; exact h442, by rw [f37p1 44 3 (by omega)]; exact h443, by rw [f37p1 44 5 (by omega)]; exact h445⟩, by exact fun i i0 i1 => by rw [f37p0 i i0 (by omega), show pw 2 (km 0) = 4 by decide]; have r0 : 0 ≤ i % 4 ∧ i % 4 < 4 := (by omega); generalize i % 4 = r at r0 ⊢; rcases c4 r0 with rfl | rfl | rfl | rfl; exact row0; exact row1; exact row2; exact row3, by exact fun a i h1 h2 => by rw [f37p1 a i h2]; exact wfr a i h1 h2⟩
            · intro h38
              exfalso; omega
          · intro h39
            exfalso; omega
      · intro h40
        exfalso; omega

set_option maxHeartbeats 4000000 in
theorem beMostX_2_c {xs : List Int32} {e : Nat} {ac : Int} {M0 M : nM} {Mz : nM} (hS : Sf 2 ac M0 M) (hmz : M = Mz) : ∀ nn : Nat, (∀ (x2 : Int) (M : nM), Sf 2 ac M0 M → (-1 ≤ x2 ∧ x2 ≤ 7) → (∀ a i : Int, a ≠ 44 → a ≠ 45 → M a i = Mz a i) → (M 44 5 = 2) → (M 44 0 = 3) → (M 44 1 = 2) → (M 44 2 = tbl (tVn 2) (x2 + 1)) → (M 44 3 = 0) → (∀ r : Int, x2 < r → r < 8 → M 45 r = tbl (kT 1 2) r) → (x2 - (-1)) * 1 + 1 < (nn : Int) → nW xs (e + 1) 22 17 [some (2, 44), some (2, 4), some (0, x2), none, none, none] [] M (nPV fun M1 => Sf 2 ac M0 M1 ∧ (M1 44 0 = 3 ∧ M1 44 1 = 2 ∧ M1 44 2 = 2 ∧ M1 44 3 = 0 ∧ M1 44 5 = 2) ∧ (∀ i : Int, 0 ≤ i → i < 2 * 2 * 2 → M1 45 i = tbl (kT 1 2) (i % pw 2 (km 1))) ∧ (∀ a i : Int, a ≠ 44 → a ≠ 45 → M1 a i = Mz a i))) := by
  have hd : (2 : Int) = 2 ∨ (2 : Int) = 3 := by decide
  have hac := hS.2.2.2.2
  intro nn
  induction nn with
  | zero => intros; omega
  | succ nn ih =>
    intro x2 M hS k2 v0 v1 v2 v3 v4 v5 v6 hnn
    have tvc := tv_r (d := 2) (r := x2 + 1) (by decide) (by omega)
    have kvc : kV 1 2 = 2 := rfl
    refine n_iload_n c_22_17 rfl ?_
    refine n_if0_lt c_22_18 (by omega) ?_ ?_
    · intro h1
      exact n_rV c_22_107 rfl ⟨hS, by have e2 : x2 = -1 := (by omega); exact ⟨v2, v3, by rw [v4, e2]; rfl, v5, v1⟩, by exact fun i i0 i1 => by rw [show pw 2 (km 1) = 8 by decide, Int.emod_eq_of_lt i0 (by omega)]; exact v6 i (by omega) (by omega), by exact v0⟩
    · intro h2
      refine n_aload_n c_22_21 rfl (n_getR c_22_22 sc_4.n rfl rfl rfl r_4_2 (n_iload_n c_22_25 rfl (n_ialoadV c_22_26 sc_5.n rfl rfl rfl (by omega) (t_5d hS hd (by omega) (by omega)) ?_)))
      intro z3 ez3 f4
      have kza : z3 = x2 / (2 * 2) := by rw [ez3]; exact t_5e hS (by omega) (by omega)
      refine n_istore_n (L2 := [some (2, 44), some (2, 4), some (0, x2), some (0, z3), none, none]) c_22_27 rfl rfl (n_aload_n c_22_28 rfl (n_getR c_22_29 sc_4.n rfl rfl rfl r_4_3 (n_iload_n c_22_32 rfl (n_ialoadV c_22_33 sc_6.n rfl rfl rfl (by omega) (t_6d hS hd (by omega) (by omega)) ?_))))
      intro z5 ez5 f6
      have kzb : z5 = x2 / 2 % 2 := by rw [ez5]; exact t_6e hS (by omega) (by omega)
      refine n_istore (L2 := [some (2, 44), some (2, 4), some (0, x2), some (0, z3), some (0, z5), none]) c_22_34 rfl rfl (n_aload_n c_22_36 rfl (n_getR c_22_37 sc_4.n rfl rfl rfl r_4_4 (n_iload_n c_22_40 rfl (n_ialoadV c_22_41 sc_7.n rfl rfl rfl (by omega) (t_7d hS hd (by omega) (by omega)) ?_))))
      intro z7 ez7 f8
      have kzc : z7 = x2 % 2 := by rw [ez7]; exact t_7e hS (by omega) (by omega)
      have mo := mo_i (d := 2) (r := x2) (by decide) (by omega) kza kzb kzc
      have tvr := tv_r (d := 2) (r := x2 + 1) (by decide) (by omega)
      have kv : kV 1 2 = 2 := rfl
      refine n_istore (L2 := [some (2, 44), some (2, 4), some (0, x2), some (0, z3), some (0, z5), some (0, z7)]) c_22_42 rfl rfl (n_iload_n c_22_44 rfl (n_iload c_22_45 rfl ?_))
      refine n_if2_eq c_22_47 (by omega) (by omega) ?_ ?_
      · intro h9
        refine n_aload_n c_22_56 rfl (n_getR c_22_57 sc_44.n rfl rfl rfl r_44_4 (n_iload_n c_22_60 rfl (n_iload_n c_22_61 rfl (n_iastoreV hS c_22_62 sc_45.n rfl (by omega) (w_45 (by omega) (by omega)) ?_))))
        intro M10 eM10 hS10
        have g10_0 : M10 44 2 = M 44 2 := by rw [eM10]; exact nu_a (by omega)
        have ms := mo.1 (by omega)
        refine n_goto c_22_63 (n_iinc (L2 := [some (2, 44), some (2, 4), some (0, (x2 + (-1))), some (0, z3), some (0, z5), some (0, z7)]) c_22_101 rfl rfl rfl (n_goto c_22_104 (n_fg (le_s (le_s (le_s (le_n (le_n (le_n le_0)))))) ?_)))
        exact ih _ M10 hS10 (by omega) (by exact fun a i h1 h2 => by rw [eM10, nu_a h2]; exact v0 a i h1 h2) (by rw [eM10, nu_a (by omega)]; exact v1) (by rw [eM10, nu_a (by omega)]; exact v2) (by rw [eM10, nu_a (by omega)]; exact v3) (by have y : tbl (tVn 2) ((x2 + (-1)) + 1) = tbl (tVn 2) x2 := congrArg _ (by omega); rw [y, eM10, nu_a (by omega), v4]; exact ms.2.symm) (by rw [eM10, nu_a (by omega)]; exact v5) (by exact fun r h0 h1 => by rw [eM10, nu_e]; by_cases y : r = x2; (rw [if_pos ⟨rfl, y⟩, y, ms.1]); (rw [if_neg (fun q => y q.2)]; exact v6 r (by omega) h1)) (by omega)
      · intro h11
        refine n_iload_n c_22_50 rfl (n_iload c_22_51 rfl ?_)
        refine n_if2_ne c_22_53 (by omega) (by omega) ?_ ?_
        · intro h12
          refine n_iload c_22_66 rfl (n_iload c_22_68 rfl ?_)
          refine n_if2_ne c_22_70 (by omega) (by omega) ?_ ?_
          · intro h13
            refine n_aload_n c_22_84 rfl (n_getR c_22_85 sc_44.n rfl rfl rfl r_44_4 (n_iload_n c_22_88 rfl (n_aload_n c_22_89 rfl (n_dup2 c_22_90 (n_getV (bi := 2) c_22_91 sc_44.n rfl rfl rfl (t_44_2 hS) ?_)))))
            intro z14 ez14 f15
            obtain rfl : z14 = 2 := by omega
            have ms := mo.2.2 (by omega) (by omega) (by omega)
            refine n_dup_x102 c_22_94 (n_iconst c_22_95 (n_iadd c_22_96 rfl (n_putV (bi := 2) hS c_22_97 sc_44.n rfl rfl rfl rfl (w_44_2 (by omega)) ?_)))
            intro M16 eM16 hS16
            have g16_0 : M16 44 2 = (2 + 1) := by rw [eM16]; exact nu_s _ _ _ _
            refine n_iastoreV hS16 c_22_100 sc_45.n rfl (by omega) (w_45 (by omega) (by omega)) ?_
            intro M17 eM17 hS17
            have g17_0 : M17 44 2 = M16 44 2 := by rw [eM17]; exact nu_a (by omega)
            refine n_iinc (L2 := [some (2, 44), some (2, 4), some (0, (x2 + (-1))), some (0, z3), some (0, z5), some (0, z7)]) c_22_101 rfl rfl rfl (n_goto c_22_104 (n_fg (le_s (le_s (le_s (le_n (le_n (le_n le_0)))))) ?_))
            exact ih _ M17 hS17 (by omega) (by exact fun a i h1 h2 => by rw [eM17, nu_a h2, eM16, nu_a h1]; exact v0 a i h1 h2) (by rw [eM17, nu_a (by omega), eM16, nu_i (by omega)]; exact v1) (by rw [eM17, nu_a (by omega), eM16, nu_i (by omega)]; exact v2) (by rw [eM17, nu_a (by omega), eM16, nu_i (by omega)]; exact v3) (by have y : tbl (tVn 2) ((x2 + (-1)) + 1) = tbl (tVn 2) x2 := congrArg _ (by omega); rw [y, eM17, nu_a (by omega), eM16, nu_s]; omega) (by rw [eM17, nu_a (by omega), eM16, nu_i (by omega)]; exact v5) (by exact fun r h0 h1 => by rw [eM17, nu_e]; by_cases y : r = x2; (rw [if_pos ⟨rfl, y⟩, y, ms.1]; omega); (rw [if_neg (fun q => y q.2), eM16, nu_a (by omega)]; exact v6 r (by omega) h1)) (by omega)
          · intro h18
            refine n_aload_n c_22_73 rfl (n_getR c_22_74 sc_44.n rfl rfl rfl r_44_4 (n_iload_n c_22_77 rfl (n_iload c_22_78 rfl (n_iastoreV hS c_22_80 sc_45.n rfl (by omega) (w_45 (by omega) (by omega)) ?_))))
            intro M19 eM19 hS19
            have g19_0 : M19 44 2 = M 44 2 := by rw [eM19]; exact nu_a (by omega)
            have ms := mo.2.1 (by omega)
            refine n_goto c_22_81 (n_iinc (L2 := [some (2, 44), some (2, 4), some (0, (x2 + (-1))), some (0, z3), some (0, z5), some (0, z7)]) c_22_101 rfl rfl rfl (n_goto c_22_104 (n_fg (le_s (le_s (le_s (le_n (le_n (le_n le_0)))))) ?_)))
            exact ih _ M19 hS19 (by omega) (by exact fun a i h1 h2 => by rw [eM19, nu_a h2]; exact v0 a i h1 h2) (by rw [eM19, nu_a (by omega)]; exact v1) (by rw [eM19, nu_a (by omega)]; exact v2) (by rw [eM19, nu_a (by omega)]; exact v3) (by have y : tbl (tVn 2) ((x2 + (-1)) + 1) = tbl (tVn 2) x2 := congrArg _ (by omega); rw [y, eM19, nu_a (by omega), v4]; exact ms.2.symm) (by rw [eM19, nu_a (by omega)]; exact v5) (by exact fun r h0 h1 => by rw [eM19, nu_e]; by_cases y : r = x2; (rw [if_pos ⟨rfl, y⟩, y, ms.1]); (rw [if_neg (fun q => y q.2)]; exact v6 r (by omega) h1)) (by omega)
        · intro h20
          refine n_aload_n c_22_56 rfl (n_getR c_22_57 sc_44.n rfl rfl rfl r_44_4 (n_iload_n c_22_60 rfl (n_iload_n c_22_61 rfl (n_iastoreV hS c_22_62 sc_45.n rfl (by omega) (w_45 (by omega) (by omega)) ?_))))
          intro M21 eM21 hS21
          have g21_0 : M21 44 2 = M 44 2 := by rw [eM21]; exact nu_a (by omega)
          have ms := mo.1 (by omega)
          refine n_goto c_22_63 (n_iinc (L2 := [some (2, 44), some (2, 4), some (0, (x2 + (-1))), some (0, z3), some (0, z5), some (0, z7)]) c_22_101 rfl rfl rfl (n_goto c_22_104 (n_fg (le_s (le_s (le_s (le_n (le_n (le_n le_0)))))) ?_)))
          exact ih _ M21 hS21 (by omega) (by exact fun a i h1 h2 => by rw [eM21, nu_a h2]; exact v0 a i h1 h2) (by rw [eM21, nu_a (by omega)]; exact v1) (by rw [eM21, nu_a (by omega)]; exact v2) (by rw [eM21, nu_a (by omega)]; exact v3) (by have y : tbl (tVn 2) ((x2 + (-1)) + 1) = tbl (tVn 2) x2 := congrArg _ (by omega); rw [y, eM21, nu_a (by omega), v4]; exact ms.2.symm) (by rw [eM21, nu_a (by omega)]; exact v5) (by exact fun r h0 h1 => by rw [eM21, nu_e]; by_cases y : r = x2; (rw [if_pos ⟨rfl, y⟩, y, ms.1]); (rw [if_neg (fun q => y q.2)]; exact v6 r (by omega) h1)) (by omega)
set_option maxHeartbeats 4000000 in
theorem beMostX_2 {xs : List Int32} {e : Nat} {ac : Int} {M0 M : nM} {Mz : nM} (hS : Sf 2 ac M0 M) (hmz : M = Mz) : nW xs (e + 1) 22 0 [some (2, 44), some (2, 4), none, none, none, none] [] M (nPV fun M1 => Sf 2 ac M0 M1 ∧ (M1 44 0 = 3 ∧ M1 44 1 = 2 ∧ M1 44 2 = 2 ∧ M1 44 3 = 0 ∧ M1 44 5 = 2) ∧ (∀ i : Int, 0 ≤ i → i < 2 * 2 * 2 → M1 45 i = tbl (kT 1 2) (i % pw 2 (km 1))) ∧ (∀ a i : Int, a ≠ 44 → a ≠ 45 → M1 a i = Mz a i)) := by
  have hd : (2 : Int) = 2 ∨ (2 : Int) = 3 := by decide
  have hac := hS.2.2.2.2
  refine n_aload_n c_22_0 rfl (n_iconst c_22_1 (n_aload_n c_22_2 rfl (n_getV (bi := 0) c_22_3 sc_4.n rfl rfl rfl (t_4_0 hS) ?_)))
  intro z1 ez1 f2
  obtain rfl : z1 = 2 := by omega
  refine n_aload_n c_22_6 rfl (n_v3V c_22_7 rfl sc_44.n rfl rfl rfl rfl (beginX_2 (n := 3) (c := 2) hS (by omega) (by omega)) ?_)
  intro  M3 hP4
  obtain ⟨hS3, f4p0, f4p1⟩ := hP4
  refine n_aload_n c_22_10 rfl (n_getV (bi := 1) c_22_11 sc_4.n rfl rfl rfl (t_4_1 hS3) ?_)
  intro z5 ez5 f6
  obtain rfl : z5 = 8 := by omega
  refine n_iconst c_22_14 (n_isub c_22_15 rfl (n_istore_n (L2 := [some (2, 44), some (2, 4), some (0, (8 - 1)), none, none, none]) c_22_16 rfl rfl (n_fg (le_s (le_s (le_s (le_n (le_n (le_n le_0)))))) ?_)))
  exact (beMostX_2_c hS hmz 30) _ M3 hS3 (by omega) (by exact fun a i h1 _ => by rw [f4p1 a i h1, hmz]) (by exact f4p0.1) (by exact f4p0.2.1) (by have y := f4p0.2.2.1; omega) (by have y := f4p0.2.2.2.1; rw [y]; rfl) (by exact f4p0.2.2.2.2) (by exact fun r h0 h1 => by omega) (by omega)

set_option maxHeartbeats 4000000 in
theorem fmodX1_2 {xs : List Int32} {e : Nat} {ac : Int} {M0 M : nM} (hS : Sf 2 ac M0 M)  : nW xs e 204 0 [some (0, (-1)), some (0, 2), none] [] M (nPI fun z M1 => M = M1 ∧ (1 ≤ z ∧ z ≤ 1) ∧ (z = (-1 : Int) % 2)) := by
  have hd : (2 : Int) = 2 ∨ (2 : Int) = 3 := by decide
  have hac := hS.2.2.2.2
  refine n_iload_n c_204_0 rfl (n_iload_n c_204_1 rfl (n_iremT (z := (-1)) c_204_2 (by omega) (by omega) (by omega) (by decide) ?_))
  refine n_istore_n (L2 := [some (0, (-1)), some (0, 2), some (0, (-1))]) c_204_3 rfl rfl (n_iload_n c_204_4 rfl (n_iload_n c_204_5 rfl (n_i_ixor (z := (-3)) c_204_6 (by decide) ?_)))
  refine n_if0_ge c_204_7 (by omega) ?_ ?_
  · intro h1
    exfalso; omega
  · intro h2
    refine n_iload_n c_204_10 rfl ?_
    refine n_if0_eq c_204_11 (by omega) ?_ ?_
    · intro h3
      exfalso; omega
    · intro h4
      refine n_iload_n c_204_14 rfl (n_iload_n c_204_15 rfl (n_iadd c_204_16 rfl ?_))
      exact n_rI c_204_17 rfl ⟨rfl, by omega, by omega⟩

set_option maxHeartbeats 4000000 in
theorem fmodX2_2_c {xs : List Int32} {e : Nat} {ac : Int} {M0 M : nM} (hS : Sf 2 ac M0 M)  : ∀ nn : Nat, (∀ (x2 : Int), (0 ≤ x2 ∧ x2 ≤ 0) → 1 < (nn : Int) → nW xs e 204 18 [none, none, some (0, x2)] [] M (nPI fun z M1 => M = M1 ∧ (0 ≤ z ∧ z ≤ 0) ∧ (z = (0 : Int) % 2))) := by
  have hd : (2 : Int) = 2 ∨ (2 : Int) = 3 := by decide
  have hac := hS.2.2.2.2
  intro nn
  induction nn with
  | zero => intros; omega
  | succ nn ih =>
    intro x2 k2 hnn
    refine n_iload_n c_204_18 rfl ?_
    exact n_rI c_204_19 rfl ⟨rfl, by omega, by omega⟩
set_option maxHeartbeats 4000000 in
theorem fmodX2_2 {xs : List Int32} {e : Nat} {ac : Int} {M0 M : nM} (hS : Sf 2 ac M0 M)  : nW xs e 204 0 [some (0, 0), some (0, 2), none] [] M (nPI fun z M1 => M = M1 ∧ (0 ≤ z ∧ z ≤ 0) ∧ (z = (0 : Int) % 2)) := by
  have hd : (2 : Int) = 2 ∨ (2 : Int) = 3 := by decide
  have hac := hS.2.2.2.2
  refine n_iload_n c_204_0 rfl (n_iload_n c_204_1 rfl (n_iremT (z := 0) c_204_2 (by omega) (by omega) (by omega) (by decide) ?_))
  refine n_istore_n (L2 := [some (0, 0), some (0, 2), some (0, 0)]) c_204_3 rfl rfl (n_iload_n c_204_4 rfl (n_iload_n c_204_5 rfl (n_i_ixor (z := 2) c_204_6 (by decide) ?_)))
  refine n_if0_ge c_204_7 (by omega) ?_ ?_
  · intro h1
    refine n_fg (le_n (le_n (le_s le_0))) ?_
    exact (fmodX2_2_c hS  12) _ (by omega) (by omega)
  · intro h2
    exfalso; omega

set_option maxHeartbeats 4000000 in
theorem fmodX3_2_c {xs : List Int32} {e : Nat} {ac : Int} {M0 M : nM} (hS : Sf 2 ac M0 M)  : ∀ nn : Nat, (∀ (x2 : Int), (1 ≤ x2 ∧ x2 ≤ 1) → 1 < (nn : Int) → nW xs e 204 18 [none, none, some (0, x2)] [] M (nPI fun z M1 => M = M1 ∧ (1 ≤ z ∧ z ≤ 1) ∧ (z = (1 : Int) % 2))) := by
  have hd : (2 : Int) = 2 ∨ (2 : Int) = 3 := by decide
  have hac := hS.2.2.2.2
  intro nn
  induction nn with
  | zero => intros; omega
  | succ nn ih =>
    intro x2 k2 hnn
    refine n_iload_n c_204_18 rfl ?_
    exact n_rI c_204_19 rfl ⟨rfl, by omega, by omega⟩
set_option maxHeartbeats 4000000 in
theorem fmodX3_2 {xs : List Int32} {e : Nat} {ac : Int} {M0 M : nM} (hS : Sf 2 ac M0 M)  : nW xs e 204 0 [some (0, 1), some (0, 2), none] [] M (nPI fun z M1 => M = M1 ∧ (1 ≤ z ∧ z ≤ 1) ∧ (z = (1 : Int) % 2)) := by
  have hd : (2 : Int) = 2 ∨ (2 : Int) = 3 := by decide
  have hac := hS.2.2.2.2
  refine n_iload_n c_204_0 rfl (n_iload_n c_204_1 rfl (n_iremT (z := 1) c_204_2 (by omega) (by omega) (by omega) (by decide) ?_))
  refine n_istore_n (L2 := [some (0, 1), some (0, 2), some (0, 1)]) c_204_3 rfl rfl (n_iload_n c_204_4 rfl (n_iload_n c_204_5 rfl (n_i_ixor (z := 3) c_204_6 (by decide) ?_)))
  refine n_if0_ge c_204_7 (by omega) ?_ ?_
  · intro h1
    refine n_fg (le_n (le_n (le_s le_0))) ?_
    exact (fmodX3_2_c hS  12) _ (by omega) (by omega)
  · intro h2
    exfalso; omega

set_option maxHeartbeats 4000000 in
theorem fmodX4_2_c {xs : List Int32} {e : Nat} {ac : Int} {M0 M : nM} (hS : Sf 2 ac M0 M)  : ∀ nn : Nat, (∀ (x2 : Int), (0 ≤ x2 ∧ x2 ≤ 0) → 1 < (nn : Int) → nW xs e 204 18 [none, none, some (0, x2)] [] M (nPI fun z M1 => M = M1 ∧ (0 ≤ z ∧ z ≤ 0) ∧ (z = (2 : Int) % 2))) := by
  have hd : (2 : Int) = 2 ∨ (2 : Int) = 3 := by decide
  have hac := hS.2.2.2.2
  intro nn
  induction nn with
  | zero => intros; omega
  | succ nn ih =>
    intro x2 k2 hnn
    refine n_iload_n c_204_18 rfl ?_
    exact n_rI c_204_19 rfl ⟨rfl, by omega, by omega⟩
set_option maxHeartbeats 4000000 in
theorem fmodX4_2 {xs : List Int32} {e : Nat} {ac : Int} {M0 M : nM} (hS : Sf 2 ac M0 M)  : nW xs e 204 0 [some (0, 2), some (0, 2), none] [] M (nPI fun z M1 => M = M1 ∧ (0 ≤ z ∧ z ≤ 0) ∧ (z = (2 : Int) % 2)) := by
  have hd : (2 : Int) = 2 ∨ (2 : Int) = 3 := by decide
  have hac := hS.2.2.2.2
  refine n_iload_n c_204_0 rfl (n_iload_n c_204_1 rfl (n_iremT (z := 0) c_204_2 (by omega) (by omega) (by omega) (by decide) ?_))
  refine n_istore_n (L2 := [some (0, 2), some (0, 2), some (0, 0)]) c_204_3 rfl rfl (n_iload_n c_204_4 rfl (n_iload_n c_204_5 rfl (n_i_ixor (z := 0) c_204_6 (by decide) ?_)))
  refine n_if0_ge c_204_7 (by omega) ?_ ?_
  · intro h1
    refine n_fg (le_n (le_n (le_s le_0))) ?_
    exact (fmodX4_2_c hS  12) _ (by omega) (by omega)
  · intro h2
    exfalso; omega

set_option maxHeartbeats 4000000 in
theorem fmodX_2 {xs : List Int32} {e : Nat} {ac : Int} {M0 M : nM} {x : Int} (hS : Sf 2 ac M0 M) (hx : -1 ≤ x ∧ x ≤ 2) : nW xs e 204 0 [some (0, x), some (0, 2), none] [] M (nPI fun z M1 => M = M1 ∧ (0 ≤ z ∧ z ≤ 1) ∧ (z = x % 2)) := by
  rcases (show x = (-1) ∨ x = 0 ∨ x = 1 ∨ x = 2 by omega) with rfl | rfl | rfl | rfl
  · exact n_post (fmodX1_2 hS ) (fun w M1 h => by obtain ⟨z, rfl, h1, h2, h3⟩ := h; exact ⟨z, rfl, h1, by omega, h3⟩)
  · exact n_post (fmodX2_2 hS ) (fun w M1 h => by obtain ⟨z, rfl, h1, h2, h3⟩ := h; exact ⟨z, rfl, h1, by omega, h3⟩)
  · exact n_post (fmodX3_2 hS ) (fun w M1 h => by obtain ⟨z, rfl, h1, h2, h3⟩ := h; exact ⟨z, rfl, h1, by omega, h3⟩)
  · exact n_post (fmodX4_2 hS ) (fun w M1 h => by obtain ⟨z, rfl, h1, h2, h3⟩ := h; exact ⟨z, rfl, h1, by omega, h3⟩)

set_option maxHeartbeats 4000000 in
theorem beSumX_2_c {xs : List Int32} {e : Nat} {ac : Int} {M0 M : nM} {Mz : nM} (hS : Sf 2 ac M0 M) (hmz : M = Mz) : ∀ nn : Nat, (∀ (x2 : Int) (M : nM), Sf 2 ac M0 M → (0 ≤ x2 ∧ x2 ≤ 8) → (∀ a i : Int, a ≠ 44 → a ≠ 45 → M a i = Mz a i) → (M 44 5 = 2) → (M 44 0 = 3) → (M 44 1 = 2) → (M 44 2 = 2) → (M 44 3 = 0) → (∀ r : Int, 0 ≤ r → r < x2 → M 45 r = tbl (kT 2 2) r) → (8 - x2) * 1 + 1 < (nn : Int) → nW xs (e + 1) 23 12 [some (2, 44), some (2, 4), some (0, x2), none] [] M (nPV fun M1 => Sf 2 ac M0 M1 ∧ (M1 44 0 = 3 ∧ M1 44 1 = 2 ∧ M1 44 2 = 2 ∧ M1 44 3 = 0 ∧ M1 44 5 = 2) ∧ (∀ i : Int, 0 ≤ i → i < 2 * 2 * 2 → M1 45 i = tbl (kT 2 2) (i % pw 2 (km 2))) ∧ (∀ a i : Int, a ≠ 44 → a ≠ 45 → M1 a i = Mz a i))) := by
  have hd : (2 : Int) = 2 ∨ (2 : Int) = 3 := by decide
  have hac := hS.2.2.2.2
  intro nn
  induction nn with
  | zero => intros; omega
  | succ nn ih =>
    intro x2 M hS k2 v0 v1 v2 v3 v4 v5 v6 hnn
    refine n_iload_n c_23_12 rfl (n_aload_n c_23_13 rfl (n_getV (bi := 1) c_23_14 sc_4.n rfl rfl rfl (t_4_1 hS) ?_))
    intro z1 ez1 f2
    obtain rfl : z1 = 8 := by omega
    refine n_if2_ge c_23_17 (by omega) (by omega) ?_ ?_
    · intro h3
      exact n_rV c_23_70 rfl ⟨hS, by exact ⟨v2, v3, v4, v5, v1⟩, by exact fun i i0 i1 => by rw [show pw 2 (km 2) = 8 by decide, Int.emod_eq_of_lt i0 (by omega)]; exact v6 i i0 (by omega), by exact v0⟩
    · intro h4
      refine n_aload_n c_23_20 rfl (n_getR c_23_21 sc_4.n rfl rfl rfl r_4_2 (n_iload_n c_23_24 rfl (n_ialoadV c_23_25 sc_5.n rfl rfl rfl (by omega) (t_5d hS hd (by omega) (by omega)) ?_)))
      intro z5 ez5 f6
      have kza : z5 = x2 / (2 * 2) := by rw [ez5]; exact t_5e hS (by omega) (by omega)
      refine n_aload_n c_23_26 rfl (n_getR c_23_27 sc_4.n rfl rfl rfl r_4_3 (n_iload_n c_23_30 rfl (n_ialoadV c_23_31 sc_6.n rfl rfl rfl (by omega) (t_6d hS hd (by omega) (by omega)) ?_)))
      intro z7 ez7 f8
      have kzb : z7 = x2 / 2 % 2 := by rw [ez7]; exact t_6e hS (by omega) (by omega)
      refine n_isub c_23_32 rfl (n_aload_n c_23_33 rfl (n_getR c_23_34 sc_4.n rfl rfl rfl r_4_4 (n_iload_n c_23_37 rfl (n_ialoadV c_23_38 sc_7.n rfl rfl rfl (by omega) (t_7d hS hd (by omega) (by omega)) ?_))))
      intro z9 ez9 f10
      have kzc : z9 = x2 % 2 := by rw [ez9]; exact t_7e hS (by omega) (by omega)
      refine n_iadd c_23_39 rfl (n_istore_n (L2 := [some (2, 44), some (2, 4), some (0, x2), some (0, ((z5 - z7) + z9))]) c_23_40 rfl rfl (n_aload_n c_23_41 rfl (n_getR c_23_42 sc_44.n rfl rfl rfl r_44_4 (n_iload_n c_23_45 rfl (n_iload_n c_23_46 rfl (n_aload_n c_23_47 rfl (n_getV (bi := 5) c_23_48 sc_44.n rfl rfl rfl (t_44_5 hS) ?_)))))))
      intro z11 ez11 f12
      obtain rfl : z11 = 2 := by omega
      refine n_iconst c_23_51 ?_
      refine n_if2_ne c_23_52 (by omega) (by omega) ?_ ?_
      · intro h13
        exfalso; omega
      · intro h14
        refine n_iconst c_23_55 (n_goto c_23_56 (n_s2I c_23_60 rfl rfl rfl rfl (fmodX_2 (x := ((z5 - z7) + z9)) hS (by omega)) ?_))
        intro z15 M16 hP17
        obtain ⟨eM, f17, f17p0⟩ := hP17
        subst eM
        have su := su_i (d := 2) (r := x2) (by decide) (by omega) kza kzb kzc
        have kf : z15 = tbl (kT 2 2) x2 := by rw [f17p0]; exact su.1.symm
        refine n_iastoreV hS c_23_63 sc_45.n rfl (by omega) (w_45 (by omega) (by omega)) ?_
        intro M18 eM18 hS18
        have g18_0 : M18 44 5 = M 44 5 := by rw [eM18]; exact nu_a (by omega)
        refine n_iinc (L2 := [some (2, 44), some (2, 4), some (0, (x2 + 1)), some (0, ((z5 - z7) + z9))]) c_23_64 rfl rfl rfl (n_goto c_23_67 (n_fg (le_s (le_s (le_s (le_n le_0)))) ?_))
        exact ih _ M18 hS18 (by omega) (by exact fun a i h1 h2 => by rw [eM18, nu_a h2]; exact v0 a i h1 h2) (by rw [eM18, nu_a (by omega)]; exact v1) (by rw [eM18, nu_a (by omega)]; exact v2) (by rw [eM18, nu_a (by omega)]; exact v3) (by rw [eM18, nu_a (by omega)]; exact v4) (by rw [eM18, nu_a (by omega)]; exact v5) (by exact fun r h0 h1 => by rw [eM18, nu_e]; by_cases y : r = x2; (rw [if_pos ⟨rfl, y⟩, y]; exact kf); (rw [if_neg (fun q => y q.2)]; exact v6 r h0 (by omega))) (by omega)
set_option maxHeartbeats 4000000 in
theorem beSumX_2 {xs : List Int32} {e : Nat} {ac : Int} {M0 M : nM} {Mz : nM} (hS : Sf 2 ac M0 M) (hmz : M = Mz) : nW xs (e + 1) 23 0 [some (2, 44), some (2, 4), none, none] [] M (nPV fun M1 => Sf 2 ac M0 M1 ∧ (M1 44 0 = 3 ∧ M1 44 1 = 2 ∧ M1 44 2 = 2 ∧ M1 44 3 = 0 ∧ M1 44 5 = 2) ∧ (∀ i : Int, 0 ≤ i → i < 2 * 2 * 2 → M1 45 i = tbl (kT 2 2) (i % pw 2 (km 2))) ∧ (∀ a i : Int, a ≠ 44 → a ≠ 45 → M1 a i = Mz a i)) := by
  have hd : (2 : Int) = 2 ∨ (2 : Int) = 3 := by decide
  have hac := hS.2.2.2.2
  refine n_aload_n c_23_0 rfl (n_iconst c_23_1 (n_aload_n c_23_2 rfl (n_getV (bi := 0) c_23_3 sc_4.n rfl rfl rfl (t_4_0 hS) ?_)))
  intro z1 ez1 f2
  obtain rfl : z1 = 2 := by omega
  refine n_aload_n c_23_6 rfl (n_v3V c_23_7 rfl sc_44.n rfl rfl rfl rfl (beginX_2 (n := 3) (c := 2) hS (by omega) (by omega)) ?_)
  intro  M3 hP4
  obtain ⟨hS3, f4p0, f4p1⟩ := hP4
  refine n_iconst c_23_10 (n_istore_n (L2 := [some (2, 44), some (2, 4), some (0, 0), none]) c_23_11 rfl rfl (n_fg (le_s (le_s (le_s (le_n le_0)))) ?_))
  exact (beSumX_2_c hS hmz 30) _ M3 hS3 (by omega) (by exact fun a i h1 _ => by rw [f4p1 a i h1, hmz]) (by exact f4p0.1) (by exact f4p0.2.1) (by have y := f4p0.2.2.1; omega) (by have y := f4p0.2.2.2.1; omega) (by exact f4p0.2.2.2.2) (by exact fun r h0 h1 => by omega) (by omega)

set_option maxHeartbeats 4000000 in
theorem codeX2_2 {xs : List Int32} {e : Nat} {ac : Int} {M0 M : nM} (hS : Sf 2 ac M0 M) (h0 : M 44 0 = 2) : nW xs (e + 1) 26 0 [some (2, 44), some (2, 39), some (2, 4), none, none, none] [] M (nPJ fun z M1 => M = M1 ∧ (-9223372036854775808 ≤ z ∧ z ≤ 9223372036854775807) ∧ (z = cdN 2 (fun x => M 39 (M 45 x)) 0 4)) := by
  have hd : (2 : Int) = 2 ∨ (2 : Int) = 3 := by decide
  have hac := hS.2.2.2.2
  refine n_lconst (n := 0) c_26_0 rfl (n_lstore_n (L2 := [some (2, 44), some (2, 39), some (2, 4), some (1, 0), none, none]) c_26_1 rfl rfl (n_aload_n c_26_2 rfl (n_aload_n c_26_3 rfl (n_getV (bi := 0) c_26_4 sc_44.n rfl rfl rfl (t_44_0 hS) ?_))))
  intro z1 ez1 f2
  obtain rfl : z1 = 2 := by omega
  refine n_v1I c_26_7 rfl sc_4.n rfl rfl rfl rfl (power2_2  hS ) ?_
  intro z3 M4 hP5
  obtain ⟨eM, f5⟩ := hP5
  subst eM
  obtain rfl : z3 = 4 := by omega
  refine n_iconst c_26_10 (n_isub c_26_11 rfl (n_istore (L2 := [some (2, 44), some (2, 39), some (2, 4), some (1, 0), none, some (0, (4 - 1))]) c_26_12 rfl rfl (n_iload c_26_14 rfl ?_)))
  refine n_if0_lt c_26_16 (by omega) ?_ ?_
  · intro h6
    exfalso; omega
  · intro h7
    refine n_lload_n c_26_19 rfl (n_aload_n c_26_20 rfl (n_getV (bi := 0) c_26_21 sc_4.n rfl rfl rfl (t_4_0 hS) ?_))
    intro z8 ez8 f9
    obtain rfl : z8 = 2 := by omega
    refine n_i2l c_26_24 (by omega) ?_
    refine n_lmul c_26_25 rfl (n_aload_n c_26_26 rfl (n_aload_n c_26_27 rfl (n_getR c_26_28 sc_44.n rfl rfl rfl r_44_4 (n_iload c_26_31 rfl (n_ialoadV c_26_33 sc_45.n rfl rfl rfl (by omega) (t_45 hS (by omega)) ?_)))))
    intro z10 ez10 f11
    refine n_ialoadV c_26_34 sc_39.n rfl rfl rfl (by omega) (t_39 hS (by omega)) ?_
    intro z12 ez12 f13
    have kr3 : z12 = M 39 (M 45 3) := ez12.trans (congrArg (M 39) ez10)
    refine n_i2l c_26_35 (by omega) ?_
    refine n_ladd c_26_36 rfl (n_lstore_n (L2 := [some (2, 44), some (2, 39), some (2, 4), some (1, ((0 * 2) + z12)), none, some (0, (4 - 1))]) c_26_37 rfl rfl (n_iinc (L2 := [some (2, 44), some (2, 39), some (2, 4), some (1, ((0 * 2) + z12)), none, some (0, ((4 - 1) + (-1)))]) c_26_38 rfl rfl rfl (n_goto c_26_41 (n_iload c_26_14 rfl ?_))))
    refine n_if0_lt c_26_16 (by omega) ?_ ?_
    · intro h14
      exfalso; omega
    · intro h15
      refine n_lload_n c_26_19 rfl (n_aload_n c_26_20 rfl (n_getV (bi := 0) c_26_21 sc_4.n rfl rfl rfl (t_4_0 hS) ?_))
      intro z16 ez16 f17
      obtain rfl : z16 = 2 := by omega
      refine n_i2l c_26_24 (by omega) ?_
      refine n_lmul c_26_25 rfl (n_aload_n c_26_26 rfl (n_aload_n c_26_27 rfl (n_getR c_26_28 sc_44.n rfl rfl rfl r_44_4 (n_iload c_26_31 rfl (n_ialoadV c_26_33 sc_45.n rfl rfl rfl (by omega) (t_45 hS (by omega)) ?_)))))
      intro z18 ez18 f19
      refine n_ialoadV c_26_34 sc_39.n rfl rfl rfl (by omega) (t_39 hS (by omega)) ?_
      intro z20 ez20 f21
      have kr2 : z20 = M 39 (M 45 2) := ez20.trans (congrArg (M 39) ez18)
      refine n_i2l c_26_35 (by omega) ?_
      refine n_ladd c_26_36 rfl (n_lstore_n (L2 := [some (2, 44), some (2, 39), some (2, 4), some (1, ((((0 * 2) + z12) * 2) + z20)), none, some (0, ((4 - 1) + (-1)))]) c_26_37 rfl rfl (n_iinc (L2 := [some (2, 44), some (2, 39), some (2, 4), some (1, ((((0 * 2) + z12) * 2) + z20)), none, some (0, (((4 - 1) + (-1)) + (-1)))]) c_26_38 rfl rfl rfl (n_goto c_26_41 (n_iload c_26_14 rfl ?_))))
      refine n_if0_lt c_26_16 (by omega) ?_ ?_
      · intro h22
        exfalso; omega
      · intro h23
        refine n_lload_n c_26_19 rfl (n_aload_n c_26_20 rfl (n_getV (bi := 0) c_26_21 sc_4.n rfl rfl rfl (t_4_0 hS) ?_))
        intro z24 ez24 f25
        obtain rfl : z24 = 2 := by omega
        refine n_i2l c_26_24 (by omega) ?_
        refine n_lmul c_26_25 rfl (n_aload_n c_26_26 rfl (n_aload_n c_26_27 rfl (n_getR c_26_28 sc_44.n rfl rfl rfl r_44_4 (n_iload c_26_31 rfl (n_ialoadV c_26_33 sc_45.n rfl rfl rfl (by omega) (t_45 hS (by omega)) ?_)))))
        intro z26 ez26 f27
        refine n_ialoadV c_26_34 sc_39.n rfl rfl rfl (by omega) (t_39 hS (by omega)) ?_
        intro z28 ez28 f29
        have kr1 : z28 = M 39 (M 45 1) := ez28.trans (congrArg (M 39) ez26)
        refine n_i2l c_26_35 (by omega) ?_
        refine n_ladd c_26_36 rfl (n_lstore_n (L2 := [some (2, 44), some (2, 39), some (2, 4), some (1, ((((((0 * 2) + z12) * 2) + z20) * 2) + z28)), none, some (0, (((4 - 1) + (-1)) + (-1)))]) c_26_37 rfl rfl (n_iinc (L2 := [some (2, 44), some (2, 39), some (2, 4), some (1, ((((((0 * 2) + z12) * 2) + z20) * 2) + z28)), none, some (0, ((((4 - 1) + (-1)) + (-1)) + (-1)))]) c_26_38 rfl rfl rfl (n_goto c_26_41 (n_iload c_26_14 rfl ?_))))
        refine n_if0_lt c_26_16 (by omega) ?_ ?_
        · intro h30
          exfalso; omega
        · intro h31
          refine n_lload_n c_26_19 rfl (n_aload_n c_26_20 rfl (n_getV (bi := 0) c_26_21 sc_4.n rfl rfl rfl (t_4_0 hS) ?_))
          intro z32 ez32 f33
          obtain rfl : z32 = 2 := by omega
          refine n_i2l c_26_24 (by omega) ?_
          refine n_lmul c_26_25 rfl (n_aload_n c_26_26 rfl (n_aload_n c_26_27 rfl (n_getR c_26_28 sc_44.n rfl rfl rfl r_44_4 (n_iload c_26_31 rfl (n_ialoadV c_26_33 sc_45.n rfl rfl rfl (by omega) (t_45 hS (by omega)) ?_)))))
          intro z34 ez34 f35
          refine n_ialoadV c_26_34 sc_39.n rfl rfl rfl (by omega) (t_39 hS (by omega)) ?_
          intro z36 ez36 f37
          have kr0 : z36 = M 39 (M 45 0) := ez36.trans (congrArg (M 39) ez34)
          refine n_i2l c_26_35 (by omega) ?_
          refine n_ladd c_26_36 rfl (n_lstore_n (L2 := [some (2, 44), some (2, 39), some (2, 4), some (1, ((((((((0 * 2) + z12) * 2) + z20) * 2) + z28) * 2) + z36)), none, some (0, ((((4 - 1) + (-1)) + (-1)) + (-1)))]) c_26_37 rfl rfl (n_iinc (L2 := [some (2, 44), some (2, 39), some (2, 4), some (1, ((((((((0 * 2) + z12) * 2) + z20) * 2) + z28) * 2) + z36)), none, some (0, (((((4 - 1) + (-1)) + (-1)) + (-1)) + (-1)))]) c_26_38 rfl rfl rfl (n_goto c_26_41 (n_iload c_26_14 rfl ?_))))
          refine n_if0_lt c_26_16 (by omega) ?_ ?_
          · intro h38
            refine n_lload_n c_26_44 rfl ?_
            exact n_rJ c_26_45 rfl ⟨rfl, by omega, by show _ = M 39 (M 45 0) + 2 * (M 39 (M 45 1) + 2 * (M 39 (M 45 2) + 2 * (M 39 (M 45 3) + 2 * (0)))); omega⟩
          · intro h39
            exfalso; omega

set_option maxHeartbeats 4000000 in
theorem codeX3_2 {xs : List Int32} {e : Nat} {ac : Int} {M0 M : nM} (hS : Sf 2 ac M0 M) (h0 : M 44 0 = 3) : nW xs (e + 1) 26 0 [some (2, 44), some (2, 39), some (2, 4), none, none, none] [] M (nPJ fun z M1 => M = M1 ∧ (-9223372036854775808 ≤ z ∧ z ≤ 9223372036854775807) ∧ (z = cdN 2 (fun x => M 39 (M 45 x)) 0 8)) := by
  have hd : (2 : Int) = 2 ∨ (2 : Int) = 3 := by decide
  have hac := hS.2.2.2.2
  refine n_lconst (n := 0) c_26_0 rfl (n_lstore_n (L2 := [some (2, 44), some (2, 39), some (2, 4), some (1, 0), none, none]) c_26_1 rfl rfl (n_aload_n c_26_2 rfl (n_aload_n c_26_3 rfl (n_getV (bi := 0) c_26_4 sc_44.n rfl rfl rfl (t_44_0 hS) ?_))))
  intro z1 ez1 f2
  obtain rfl : z1 = 3 := by omega
  refine n_v1I c_26_7 rfl sc_4.n rfl rfl rfl rfl (power3_2  hS ) ?_
  intro z3 M4 hP5
  obtain ⟨eM, f5⟩ := hP5
  subst eM
  obtain rfl : z3 = 8 := by omega
  refine n_iconst c_26_10 (n_isub c_26_11 rfl (n_istore (L2 := [some (2, 44), some (2, 39), some (2, 4), some (1, 0), none, some (0, (8 - 1))]) c_26_12 rfl rfl (n_iload c_26_14 rfl ?_)))
  refine n_if0_lt c_26_16 (by omega) ?_ ?_
  · intro h6
    exfalso; omega
  · intro h7
    refine n_lload_n c_26_19 rfl (n_aload_n c_26_20 rfl (n_getV (bi := 0) c_26_21 sc_4.n rfl rfl rfl (t_4_0 hS) ?_))
    intro z8 ez8 f9
    obtain rfl : z8 = 2 := by omega
    refine n_i2l c_26_24 (by omega) ?_
    refine n_lmul c_26_25 rfl (n_aload_n c_26_26 rfl (n_aload_n c_26_27 rfl (n_getR c_26_28 sc_44.n rfl rfl rfl r_44_4 (n_iload c_26_31 rfl (n_ialoadV c_26_33 sc_45.n rfl rfl rfl (by omega) (t_45 hS (by omega)) ?_)))))
    intro z10 ez10 f11
    refine n_ialoadV c_26_34 sc_39.n rfl rfl rfl (by omega) (t_39 hS (by omega)) ?_
    intro z12 ez12 f13
    have kr7 : z12 = M 39 (M 45 7) := ez12.trans (congrArg (M 39) ez10)
    refine n_i2l c_26_35 (by omega) ?_
    refine n_ladd c_26_36 rfl (n_lstore_n (L2 := [some (2, 44), some (2, 39), some (2, 4), some (1, ((0 * 2) + z12)), none, some (0, (8 - 1))]) c_26_37 rfl rfl (n_iinc (L2 := [some (2, 44), some (2, 39), some (2, 4), some (1, ((0 * 2) + z12)), none, some (0, ((8 - 1) + (-1)))]) c_26_38 rfl rfl rfl (n_goto c_26_41 (n_iload c_26_14 rfl ?_))))
    refine n_if0_lt c_26_16 (by omega) ?_ ?_
    · intro h14
      exfalso; omega
    · intro h15
      refine n_lload_n c_26_19 rfl (n_aload_n c_26_20 rfl (n_getV (bi := 0) c_26_21 sc_4.n rfl rfl rfl (t_4_0 hS) ?_))
      intro z16 ez16 f17
      obtain rfl : z16 = 2 := by omega
      refine n_i2l c_26_24 (by omega) ?_
      refine n_lmul c_26_25 rfl (n_aload_n c_26_26 rfl (n_aload_n c_26_27 rfl (n_getR c_26_28 sc_44.n rfl rfl rfl r_44_4 (n_iload c_26_31 rfl (n_ialoadV c_26_33 sc_45.n rfl rfl rfl (by omega) (t_45 hS (by omega)) ?_)))))
      intro z18 ez18 f19
      refine n_ialoadV c_26_34 sc_39.n rfl rfl rfl (by omega) (t_39 hS (by omega)) ?_
      intro z20 ez20 f21
      have kr6 : z20 = M 39 (M 45 6) := ez20.trans (congrArg (M 39) ez18)
      refine n_i2l c_26_35 (by omega) ?_
      refine n_ladd c_26_36 rfl (n_lstore_n (L2 := [some (2, 44), some (2, 39), some (2, 4), some (1, ((((0 * 2) + z12) * 2) + z20)), none, some (0, ((8 - 1) + (-1)))]) c_26_37 rfl rfl (n_iinc (L2 := [some (2, 44), some (2, 39), some (2, 4), some (1, ((((0 * 2) + z12) * 2) + z20)), none, some (0, (((8 - 1) + (-1)) + (-1)))]) c_26_38 rfl rfl rfl (n_goto c_26_41 (n_iload c_26_14 rfl ?_))))
      refine n_if0_lt c_26_16 (by omega) ?_ ?_
      · intro h22
        exfalso; omega
      · intro h23
        refine n_lload_n c_26_19 rfl (n_aload_n c_26_20 rfl (n_getV (bi := 0) c_26_21 sc_4.n rfl rfl rfl (t_4_0 hS) ?_))
        intro z24 ez24 f25
        obtain rfl : z24 = 2 := by omega
        refine n_i2l c_26_24 (by omega) ?_
        refine n_lmul c_26_25 rfl (n_aload_n c_26_26 rfl (n_aload_n c_26_27 rfl (n_getR c_26_28 sc_44.n rfl rfl rfl r_44_4 (n_iload c_26_31 rfl (n_ialoadV c_26_33 sc_45.n rfl rfl rfl (by omega) (t_45 hS (by omega)) ?_)))))
        intro z26 ez26 f27
        refine n_ialoadV c_26_34 sc_39.n rfl rfl rfl (by omega) (t_39 hS (by omega)) ?_
        intro z28 ez28 f29
        have kr5 : z28 = M 39 (M 45 5) := ez28.trans (congrArg (M 39) ez26)
        refine n_i2l c_26_35 (by omega) ?_
        refine n_ladd c_26_36 rfl (n_lstore_n (L2 := [some (2, 44), some (2, 39), some (2, 4), some (1, ((((((0 * 2) + z12) * 2) + z20) * 2) + z28)), none, some (0, (((8 - 1) + (-1)) + (-1)))]) c_26_37 rfl rfl (n_iinc (L2 := [some (2, 44), some (2, 39), some (2, 4), some (1, ((((((0 * 2) + z12) * 2) + z20) * 2) + z28)), none, some (0, ((((8 - 1) + (-1)) + (-1)) + (-1)))]) c_26_38 rfl rfl rfl (n_goto c_26_41 (n_iload c_26_14 rfl ?_))))
        refine n_if0_lt c_26_16 (by omega) ?_ ?_
        · intro h30
          exfalso; omega
        · intro h31
          refine n_lload_n c_26_19 rfl (n_aload_n c_26_20 rfl (n_getV (bi := 0) c_26_21 sc_4.n rfl rfl rfl (t_4_0 hS) ?_))
          intro z32 ez32 f33
          obtain rfl : z32 = 2 := by omega
          refine n_i2l c_26_24 (by omega) ?_
          refine n_lmul c_26_25 rfl (n_aload_n c_26_26 rfl (n_aload_n c_26_27 rfl (n_getR c_26_28 sc_44.n rfl rfl rfl r_44_4 (n_iload c_26_31 rfl (n_ialoadV c_26_33 sc_45.n rfl rfl rfl (by omega) (t_45 hS (by omega)) ?_)))))
          intro z34 ez34 f35
          refine n_ialoadV c_26_34 sc_39.n rfl rfl rfl (by omega) (t_39 hS (by omega)) ?_
          intro z36 ez36 f37
          have kr4 : z36 = M 39 (M 45 4) := ez36.trans (congrArg (M 39) ez34)
          refine n_i2l c_26_35 (by omega) ?_
          refine n_ladd c_26_36 rfl (n_lstore_n (L2 := [some (2, 44), some (2, 39), some (2, 4), some (1, ((((((((0 * 2) + z12) * 2) + z20) * 2) + z28) * 2) + z36)), none, some (0, ((((8 - 1) + (-1)) + (-1)) + (-1)))]) c_26_37 rfl rfl (n_iinc (L2 := [some (2, 44), some (2, 39), some (2, 4), some (1, ((((((((0 * 2) + z12) * 2) + z20) * 2) + z28) * 2) + z36)), none, some (0, (((((8 - 1) + (-1)) + (-1)) + (-1)) + (-1)))]) c_26_38 rfl rfl rfl (n_goto c_26_41 (n_iload c_26_14 rfl ?_))))
          refine n_if0_lt c_26_16 (by omega) ?_ ?_
          · intro h38
            exfalso; omega
          · intro h39
            refine n_lload_n c_26_19 rfl (n_aload_n c_26_20 rfl (n_getV (bi := 0) c_26_21 sc_4.n rfl rfl rfl (t_4_0 hS) ?_))
            intro z40 ez40 f41
            obtain rfl : z40 = 2 := by omega
            refine n_i2l c_26_24 (by omega) ?_
            refine n_lmul c_26_25 rfl (n_aload_n c_26_26 rfl (n_aload_n c_26_27 rfl (n_getR c_26_28 sc_44.n rfl rfl rfl r_44_4 (n_iload c_26_31 rfl (n_ialoadV c_26_33 sc_45.n rfl rfl rfl (by omega) (t_45 hS (by omega)) ?_)))))
            intro z42 ez42 f43
            refine n_ialoadV c_26_34 sc_39.n rfl rfl rfl (by omega) (t_39 hS (by omega)) ?_
            intro z44 ez44 f45
            have kr3 : z44 = M 39 (M 45 3) := ez44.trans (congrArg (M 39) ez42)
            refine n_i2l c_26_35 (by omega) ?_
            refine n_ladd c_26_36 rfl (n_lstore_n (L2 := [some (2, 44), some (2, 39), some (2, 4), some (1, ((((((((((0 * 2) + z12) * 2) + z20) * 2) + z28) * 2) + z36) * 2) + z44)), none, some (0, (((((8 - 1) + (-1)) + (-1)) + (-1)) + (-1)))]) c_26_37 rfl rfl (n_iinc (L2 := [some (2, 44), some (2, 39), some (2, 4), some (1, ((((((((((0 * 2) + z12) * 2) + z20) * 2) + z28) * 2) + z36) * 2) + z44)), none, some (0, ((((((8 - 1) + (-1)) + (-1)) + (-1)) + (-1)) + (-1)))]) c_26_38 rfl rfl rfl (n_goto c_26_41 (n_iload c_26_14 rfl ?_))))
            refine n_if0_lt c_26_16 (by omega) ?_ ?_
            · intro h46
              exfalso; omega
            · intro h47
              refine n_lload_n c_26_19 rfl (n_aload_n c_26_20 rfl (n_getV (bi := 0) c_26_21 sc_4.n rfl rfl rfl (t_4_0 hS) ?_))
              intro z48 ez48 f49
              obtain rfl : z48 = 2 := by omega
              refine n_i2l c_26_24 (by omega) ?_
              refine n_lmul c_26_25 rfl (n_aload_n c_26_26 rfl (n_aload_n c_26_27 rfl (n_getR c_26_28 sc_44.n rfl rfl rfl r_44_4 (n_iload c_26_31 rfl (n_ialoadV c_26_33 sc_45.n rfl rfl rfl (by omega) (t_45 hS (by omega)) ?_)))))
              intro z50 ez50 f51
              refine n_ialoadV c_26_34 sc_39.n rfl rfl rfl (by omega) (t_39 hS (by omega)) ?_
              intro z52 ez52 f53
              have kr2 : z52 = M 39 (M 45 2) := ez52.trans (congrArg (M 39) ez50)
              refine n_i2l c_26_35 (by omega) ?_
              refine n_ladd c_26_36 rfl (n_lstore_n (L2 := [some (2, 44), some (2, 39), some (2, 4), some (1, ((((((((((((0 * 2) + z12) * 2) + z20) * 2) + z28) * 2) + z36) * 2) + z44) * 2) + z52)), none, some (0, ((((((8 - 1) + (-1)) + (-1)) + (-1)) + (-1)) + (-1)))]) c_26_37 rfl rfl (n_iinc (L2 := [some (2, 44), some (2, 39), some (2, 4), some (1, ((((((((((((0 * 2) + z12) * 2) + z20) * 2) + z28) * 2) + z36) * 2) + z44) * 2) + z52)), none, some (0, (((((((8 - 1) + (-1)) + (-1)) + (-1)) + (-1)) + (-1)) + (-1)))]) c_26_38 rfl rfl rfl (n_goto c_26_41 (n_iload c_26_14 rfl ?_))))
              refine n_if0_lt c_26_16 (by omega) ?_ ?_
              · intro h54
                exfalso; omega
              · intro h55
                refine n_lload_n c_26_19 rfl (n_aload_n c_26_20 rfl (n_getV (bi := 0) c_26_21 sc_4.n rfl rfl rfl (t_4_0 hS) ?_))
                intro z56 ez56 f57
                obtain rfl : z56 = 2 := by omega
                refine n_i2l c_26_24 (by omega) ?_
                refine n_lmul c_26_25 rfl (n_aload_n c_26_26 rfl (n_aload_n c_26_27 rfl (n_getR c_26_28 sc_44.n rfl rfl rfl r_44_4 (n_iload c_26_31 rfl (n_ialoadV c_26_33 sc_45.n rfl rfl rfl (by omega) (t_45 hS (by omega)) ?_)))))
                intro z58 ez58 f59
                refine n_ialoadV c_26_34 sc_39.n rfl rfl rfl (by omega) (t_39 hS (by omega)) ?_
                intro z60 ez60 f61
                have kr1 : z60 = M 39 (M 45 1) := ez60.trans (congrArg (M 39) ez58)
                refine n_i2l c_26_35 (by omega) ?_
                refine n_ladd c_26_36 rfl (n_lstore_n (L2 := [some (2, 44), some (2, 39), some (2, 4), some (1, ((((((((((((((0 * 2) + z12) * 2) + z20) * 2) + z28) * 2) + z36) * 2) + z44) * 2) + z52) * 2) + z60)), none, some (0, (((((((8 - 1) + (-1)) + (-1)) + (-1)) + (-1)) + (-1)) + (-1)))]) c_26_37 rfl rfl (n_iinc (L2 := [some (2, 44), some (2, 39), some (2, 4), some (1, ((((((((((((((0 * 2) + z12) * 2) + z20) * 2) + z28) * 2) + z36) * 2) + z44) * 2) + z52) * 2) + z60)), none, some (0, ((((((((8 - 1) + (-1)) + (-1)) + (-1)) + (-1)) + (-1)) + (-1)) + (-1)))]) c_26_38 rfl rfl rfl (n_goto c_26_41 (n_iload c_26_14 rfl ?_))))
                refine n_if0_lt c_26_16 (by omega) ?_ ?_
                · intro h62
                  exfalso; omega
                · intro h63
                  refine n_lload_n c_26_19 rfl (n_aload_n c_26_20 rfl (n_getV (bi := 0) c_26_21 sc_4.n rfl rfl rfl (t_4_0 hS) ?_))
                  intro z64 ez64 f65
                  obtain rfl : z64 = 2 := by omega
                  refine n_i2l c_26_24 (by omega) ?_
                  refine n_lmul c_26_25 rfl (n_aload_n c_26_26 rfl (n_aload_n c_26_27 rfl (n_getR c_26_28 sc_44.n rfl rfl rfl r_44_4 (n_iload c_26_31 rfl (n_ialoadV c_26_33 sc_45.n rfl rfl rfl (by omega) (t_45 hS (by omega)) ?_)))))
                  intro z66 ez66 f67
                  refine n_ialoadV c_26_34 sc_39.n rfl rfl rfl (by omega) (t_39 hS (by omega)) ?_
                  intro z68 ez68 f69
                  have kr0 : z68 = M 39 (M 45 0) := ez68.trans (congrArg (M 39) ez66)
                  refine n_i2l c_26_35 (by omega) ?_
                  refine n_ladd c_26_36 rfl (n_lstore_n (L2 := [some (2, 44), some (2, 39), some (2, 4), some (1, ((((((((((((((((0 * 2) + z12) * 2) + z20) * 2) + z28) * 2) + z36) * 2) + z44) * 2) + z52) * 2) + z60) * 2) + z68)), none, some (0, ((((((((8 - 1) + (-1)) + (-1)) + (-1)) + (-1)) + (-1)) + (-1)) + (-1)))]) c_26_37 rfl rfl (n_iinc (L2 := [some (2, 44), some (2, 39), some (2, 4), some (1, ((((((((((((((((0 * 2) + z12) * 2) + z20) * 2) + z28) * 2) + z36) * 2) + z44) * 2) + z52) * 2) + z60) * 2) + z68)), none, some (0, (((((((((8 - 1) + (-1)) + (-1)) + (-1)) + (-1)) + (-1)) + (-1)) + (-1)) + (-1)))]) c_26_38 rfl rfl rfl (n_goto c_26_41 (n_iload c_26_14 rfl ?_))))
                  refine n_if0_lt c_26_16 (by omega) ?_ ?_
                  · intro h70
                    refine n_lload_n c_26_44 rfl ?_
                    exact n_rJ c_26_45 rfl ⟨rfl, by omega, by show _ = M 39 (M 45 0) + 2 * (M 39 (M 45 1) + 2 * (M 39 (M 45 2) + 2 * (M 39 (M 45 3) + 2 * (M 39 (M 45 4) + 2 * (M 39 (M 45 5) + 2 * (M 39 (M 45 6) + 2 * (M 39 (M 45 7) + 2 * (0)))))))); omega⟩
                  · intro h71
                    exfalso; omega

set_option maxHeartbeats 4000000 in
theorem lawMaskX_2_c {xs : List Int32} {e : Nat} {ac : Int} {M0 M : nM} (hS : Sf 2 ac M0 M)  : ∀ nn : Nat, (∀ (x1 x2 : Int), (0 ≤ x1 ∧ x1 ≤ 4095) → (0 ≤ x2 ∧ x2 ≤ 30) → (LMk x1 x2 (fun i => M 33 i)) → (x2 ≤ M 32 1) → (30 - x2) * 1 + 1 < (nn : Int) → nW xs e 77 4 [some (2, 32), some (0, x1), some (0, x2)] [] M (nPI fun z M1 => M = M1 ∧ (0 ≤ z ∧ z ≤ 4095) ∧ (LMk z (M 32 1) (fun i => M 33 i)))) := by
  have hd : (2 : Int) = 2 ∨ (2 : Int) = 3 := by decide
  have hac := hS.2.2.2.2
  intro nn
  induction nn with
  | zero => intros; omega
  | succ nn ih =>
    intro x1 x2 k1 k2 v0 v1 hnn
    refine n_iload_n c_77_4 rfl (n_aload_n c_77_5 rfl (n_getV (bi := 1) c_77_6 sc_32.n rfl rfl rfl (t_32_1 hS) ?_))
    intro z1 ez1 f2
    refine n_if2_ge c_77_9 (by omega) (by omega) ?_ ?_
    · intro h3
      refine n_iload_n c_77_29 rfl ?_
      exact n_rI c_77_30 rfl ⟨rfl, by omega, by have e : x2 = M 32 1 := (by omega); rw [← e]; exact v0⟩
    · intro h4
      refine n_iload_n c_77_12 rfl (n_iconst c_77_13 (n_aload_n c_77_14 rfl (n_getR c_77_15 sc_32.n rfl rfl rfl r_32_2 (n_iload_n c_77_18 rfl (n_ialoadV c_77_19 sc_33.n rfl rfl rfl (by omega) (t_33 hS (by omega)) ?_)))))
      intro z5 ez5 f6
      refine n_i_ishl c_77_20 rfl ?_
      have f7 := n_shl_1 (y := z5) (a := 0) (b := 11) (by decide) (by omega)
      generalize gz8 : (n_shl 1 z5) = z8 at f7 ⊢
      refine n_i_ior c_77_21 rfl ?_
      have f9 := n_or_k (x := x1) (y := z8) (n := 12) (by decide) (by omega) (by omega)
      generalize gz10 : (n_or x1 z8) = z10 at f9 ⊢
      refine n_istore_n (L2 := [some (2, 32), some (0, z10), some (0, x2)]) c_77_22 rfl rfl (n_iinc (L2 := [some (2, 32), some (0, z10), some (0, (x2 + 1))]) c_77_23 rfl rfl rfl (n_goto c_77_26 (n_fg (le_s (le_s (le_s le_0))) ?_)))
      exact ih _ _ (by omega) (by omega) (by rw [← gz10, ← gz8]; exact LMk.add v0 (by omega) (by omega) ez5) (by have y := t_32_1 hS; omega) (by omega)
set_option maxHeartbeats 4000000 in
theorem lawMaskX_2 {xs : List Int32} {e : Nat} {ac : Int} {M0 M : nM} (hS : Sf 2 ac M0 M)  : nW xs e 77 0 [some (2, 32), none, none] [] M (nPI fun z M1 => M = M1 ∧ (0 ≤ z ∧ z ≤ 4095) ∧ (LMk z (M 32 1) (fun i => M 33 i))) := by
  have hd : (2 : Int) = 2 ∨ (2 : Int) = 3 := by decide
  have hac := hS.2.2.2.2
  refine n_iconst c_77_0 (n_istore_n (L2 := [some (2, 32), some (0, 0), none]) c_77_1 rfl rfl (n_iconst c_77_2 (n_istore_n (L2 := [some (2, 32), some (0, 0), some (0, 0)]) c_77_3 rfl rfl (n_fg (le_s (le_s (le_s le_0))) ?_))))
  exact (lawMaskX_2_c hS  74) _ _ (by omega) (by omega) (by exact LMk.init) (by have y := t_32_1 hS; omega) (by omega)

set_option maxHeartbeats 4000000 in
theorem quickX0_2 {xs : List Int32} {e : Nat} {ac : Int} {M0 M : nM} {Ms : nM} (hS : Sf 2 ac M0 M) (hms : M = Ms) (hxl : ∀ l : Int, 0 ≤ l → l < Ms 3 15 → LawOk 2 (79 + 2 * l) Ms) : nW xs (e + 31) 120 0 [some (2, 3), some (0, 0)] [] M (nPJ fun z M1 => Sf 2 ac M0 M1 ∧ (-9223372036854775808 ≤ z ∧ z ≤ 9223372036854775807) ∧ (cQ 0 2 z 4 Ms)) := by
  have hd : (2 : Int) = 2 ∨ (2 : Int) = 3 := by decide
  have hac := hS.2.2.2.2
  have t15 := t_3_15 (hms ▸ hS)
  refine n_iload_n c_120_0 rfl ?_
  refine n_if0_ne c_120_1 (by omega) ?_ ?_
  · intro h1
    exfalso; omega
  · intro h2
    refine n_aload_n c_120_4 rfl (n_getR c_120_5 sc_3.n rfl rfl rfl r_3_8 (n_aload_n c_120_8 rfl (n_getR c_120_9 sc_3.n rfl rfl rfl r_3_0 (n_v1V c_120_12 rfl sc_44.n rfl rfl rfl rfl (beHalfX_2 (Mz := M) hS (by rfl)) ?_))))
    intro  M3 hP4
    obtain ⟨hS3, f4p0, f4p1, f4p2⟩ := hP4
    have fqb : FQk 0 2 M3 := ⟨f4p0.1, f4p0.2.1, f4p0.2.2.1, f4p0.2.2.2.1, f4p0.2.2.2.2, f4p1⟩
    have bfr : ∀ a i : Int, a ≠ 44 → a ≠ 45 → M3 a i = Ms a i := fun a i h1 h2 => by rw [f4p2 a i h1 h2, hms]
    refine n_goto c_120_15 (n_aload_n c_120_60 rfl (n_getR c_120_61 sc_3.n rfl rfl rfl r_3_7 (n_aload_n c_120_64 rfl (n_getR c_120_65 sc_3.n rfl rfl rfl r_3_0 (n_getV (bi := 0) c_120_68 sc_4.n rfl rfl rfl (t_4_0 hS3) ?_)))))
    intro z5 ez5 f6
    obtain rfl : z5 = 2 := by omega
    refine n_aload_n c_120_71 rfl (n_getR c_120_72 sc_3.n rfl rfl rfl r_3_8 (n_getV (bi := 2) c_120_75 sc_44.n rfl rfl rfl (t_44_2 hS3) ?_))
    intro z7 ez7 f8
    obtain rfl : z7 = 3 := by omega
    refine n_v2V c_120_78 rfl sc_38.n rfl rfl rfl rfl (nstartX_2 (c := 3) hS3 (by omega)) ?_
    intro  M9 hP10
    obtain ⟨hS9, f10p0, f10p1, f10p2, f10p3, f10p4⟩ := hP10
    have nfr : ∀ a i : Int, a ≠ 38 → a ≠ 40 → a ≠ 44 → a ≠ 45 → M9 a i = Ms a i := fun a i h1 h2 h3 h4 => by rw [f10p4 a i h1 h2]; exact bfr a i h3 h4
    have fqn : FQk 0 2 M9 := fqb.of (fun a i u => f10p4 a i (by omega) (by omega))
    have n40 : ∀ i : Int, 0 ≤ i → i < 729 → M9 40 i = ARd 2 := fun i h0 h1 => by rw [f10p3 i h0 h1]; rfl
    have n6 : M9 38 6 = 3 := by have y := f10p1; omega
    refine n_aload_n c_120_81 rfl (n_aload_n c_120_82 rfl (n_getR c_120_83 sc_3.n rfl rfl rfl r_3_6 (n_v0I c_120_86 rfl sc_32.n rfl rfl rfl rfl (lawMaskX_2  hS9 ) ?_)))
    intro z11 M12 hP13
    obtain ⟨eM, f13, f13p0⟩ := hP13
    subst eM
    have lm : LMk z11 (Ms 32 1) (fun i => Ms 33 i) := by have y := f13p0; rw [nfr 32 1 (by omega) (by omega) (by omega) (by omega), show (fun i => M9 33 i) = fun i => Ms 33 i from funext fun i => nfr 33 i (by omega) (by omega) (by omega) (by omega)] at y; exact y
    refine n_v1V c_120_89 rfl sc_3.n rfl rfl rfl rfl (restrainFormX_2 (m := z11) (Ms := M9) (V := 3) hS9 (by omega) (by rfl) (by exact fun l h0 h1 => (hxl l h0 (by have y := nfr 3 15 (by omega) (by omega) (by omega) (by omega); omega)).of (fun a i u1 u2 => nfr a i (by omega) (by omega) (by omega) (by omega))) (by exact FQk.fm (by decide) (by decide) fqn) (by omega) (by exact Aok.init (by decide) n40) (by exact fqn.2.2.2.2.1)) ?_
    intro  M14 hP15
    obtain ⟨hS14, f15p0⟩ := hP15
    have rf : RSM 2 (kV 0 2) z11 (M9 3 15) M9 M14 := f15p0
    refine n_aload_n c_120_92 rfl (n_getR c_120_93 sc_3.n rfl rfl rfl r_3_7 ?_)
    refine n_v0V c_120_96 rfl sc_38.n rfl rfl rfl rfl (orderX_2 (Ms := M14) hS14 (by rfl) (by rw [rf.2 38 7 (by omega)]; exact f10p2) (by have y := rf.2 38 6 (by omega); omega)) ?_
    intro  M16 hP17
    obtain ⟨hS16, f17p0, f17p1⟩ := hP17
    have nst : NST 2 3 M16 := NST.mk3 (by omega) (by rw [rf.2 38 5 (by omega)]; exact f10p0) (by rw [rf.2 38 6 (by omega)]; exact n6) rf.1 f17p1 f17p0
    have ofr : ∀ a i : Int, a = 44 ∨ a = 45 → M16 a i = M9 a i := fun a i u => by rw [f17p1 a i (by omega) (by omega) (by omega)]; exact rf.2 a i (by omega)
    refine n_aload_n c_120_99 rfl (n_getR c_120_100 sc_3.n rfl rfl rfl r_3_7 (n_aload_n c_120_103 rfl (n_getR c_120_104 sc_3.n rfl rfl rfl r_3_8 ?_)))
    refine n_v1I c_120_107 rfl sc_38.n rfl rfl rfl rfl (findFirstX_2 (Ms := M16) (V := 3) hS16 (by rfl) (by exact nst) (by omega) (by rw [ofr 44 1 (by omega)]; exact fqn.2.1) (by exact fun i i0 i1 => by rw [ofr 45 i (by omega)]; exact FQk.b (by decide) (by decide) fqn i0 (by omega)) (by rw [ofr 44 5 (by omega)]; exact fqn.2.2.2.2.1)) ?_
    intro z18 M19 hP20
    obtain ⟨hS19, f20, f20p0⟩ := hP20
    have ffp : FFP 2 (kV 0 2) (kN 2) z18 M16 M19 := f20p0
    have cl := cQk.cls (q := 0) (d := 2) (N := 4) (by decide) (by decide) (by decide) fqn rf n40 (fun a i u => f17p1 a i (by omega) (by omega) (by omega)) ffp
    refine n_if0_eq c_120_110 (by omega) ?_ ?_
    · intro h21
      refine n_ldc2 (n := (-7)) c_120_134 rfl ?_
      exact n_rJ c_120_137 rfl ⟨hS19, by omega, by exact ⟨z11, lm, cQk.congr (by rcases cl with ⟨-, y⟩ | ⟨y, -⟩; exact y; omega) (fun k => Gc.of (fun a i u => nfr a i (by omega) (by omega) (by omega) (by omega)))⟩⟩
    · intro h22
      refine n_aload_n c_120_113 rfl (n_getR c_120_114 sc_3.n rfl rfl rfl r_3_8 (n_aload_n c_120_117 rfl (n_getR c_120_118 sc_3.n rfl rfl rfl r_3_7 (n_getR c_120_121 sc_38.n rfl rfl rfl r_38_0 (n_aload_n c_120_124 rfl (n_getR c_120_125 sc_3.n rfl rfl rfl r_3_0 ?_))))))
      refine n_v2J c_120_128 rfl sc_44.n rfl rfl rfl rfl (codeX2_2  hS19 (by rw [ffp.1 44 0 (by omega), ofr 44 0 (by omega)]; exact fqn.1)) ?_
      intro z23 M24 hP25
      obtain ⟨eM, f25, f25p0⟩ := hP25
      subst eM
      refine n_goto c_120_131 ?_
      exact n_rJ c_120_137 rfl ⟨hS19, by omega, by exact ⟨z11, lm, cQk.congr (by rcases cl with ⟨y, -⟩ | ⟨-, y⟩; omega; rw [f25p0]; exact y) (fun k => Gc.of (fun a i u => nfr a i (by omega) (by omega) (by omega) (by omega)))⟩⟩

set_option maxHeartbeats 4000000 in
theorem quickX1_2 {xs : List Int32} {e : Nat} {ac : Int} {M0 M : nM} {Ms : nM} (hS : Sf 2 ac M0 M) (hms : M = Ms) (hxl : ∀ l : Int, 0 ≤ l → l < Ms 3 15 → LawOk 2 (79 + 2 * l) Ms) : nW xs (e + 31) 120 0 [some (2, 3), some (0, 1)] [] M (nPJ fun z M1 => Sf 2 ac M0 M1 ∧ (-9223372036854775808 ≤ z ∧ z ≤ 9223372036854775807) ∧ (cQ 1 2 z 8 Ms)) := by
  have hd : (2 : Int) = 2 ∨ (2 : Int) = 3 := by decide
  have hac := hS.2.2.2.2
  have t15 := t_3_15 (hms ▸ hS)
  refine n_iload_n c_120_0 rfl ?_
  refine n_if0_ne c_120_1 (by omega) ?_ ?_
  · intro h1
    refine n_iload_n c_120_18 rfl (n_iconst c_120_19 ?_)
    refine n_if2_ne c_120_20 (by omega) (by omega) ?_ ?_
    · intro h2
      exfalso; omega
    · intro h3
      refine n_aload_n c_120_23 rfl (n_getR c_120_24 sc_3.n rfl rfl rfl r_3_8 (n_aload_n c_120_27 rfl (n_getR c_120_28 sc_3.n rfl rfl rfl r_3_0 (n_v1V c_120_31 rfl sc_44.n rfl rfl rfl rfl (beMostX_2 (Mz := M) hS (by rfl)) ?_))))
      intro  M4 hP5
      obtain ⟨hS4, f5p0, f5p1, f5p2⟩ := hP5
      have fqb : FQk 1 2 M4 := ⟨f5p0.1, f5p0.2.1, f5p0.2.2.1, f5p0.2.2.2.1, f5p0.2.2.2.2, f5p1⟩
      have bfr : ∀ a i : Int, a ≠ 44 → a ≠ 45 → M4 a i = Ms a i := fun a i h1 h2 => by rw [f5p2 a i h1 h2, hms]
      refine n_goto c_120_34 (n_aload_n c_120_60 rfl (n_getR c_120_61 sc_3.n rfl rfl rfl r_3_7 (n_aload_n c_120_64 rfl (n_getR c_120_65 sc_3.n rfl rfl rfl r_3_0 (n_getV (bi := 0) c_120_68 sc_4.n rfl rfl rfl (t_4_0 hS4) ?_)))))
      intro z6 ez6 f7
      obtain rfl : z6 = 2 := by omega
      refine n_aload_n c_120_71 rfl (n_getR c_120_72 sc_3.n rfl rfl rfl r_3_8 (n_getV (bi := 2) c_120_75 sc_44.n rfl rfl rfl (t_44_2 hS4) ?_))
      intro z8 ez8 f9
      obtain rfl : z8 = 2 := by omega
      refine n_v2V c_120_78 rfl sc_38.n rfl rfl rfl rfl (nstartX_2 (c := 2) hS4 (by omega)) ?_
      intro  M10 hP11
      obtain ⟨hS10, f11p0, f11p1, f11p2, f11p3, f11p4⟩ := hP11
      have nfr : ∀ a i : Int, a ≠ 38 → a ≠ 40 → a ≠ 44 → a ≠ 45 → M10 a i = Ms a i := fun a i h1 h2 h3 h4 => by rw [f11p4 a i h1 h2]; exact bfr a i h3 h4
      have fqn : FQk 1 2 M10 := fqb.of (fun a i u => f11p4 a i (by omega) (by omega))
      have n40 : ∀ i : Int, 0 ≤ i → i < 729 → M10 40 i = ARd 2 := fun i h0 h1 => by rw [f11p3 i h0 h1]; rfl
      have n6 : M10 38 6 = 2 := by have y := f11p1; omega
      refine n_aload_n c_120_81 rfl (n_aload_n c_120_82 rfl (n_getR c_120_83 sc_3.n rfl rfl rfl r_3_6 (n_v0I c_120_86 rfl sc_32.n rfl rfl rfl rfl (lawMaskX_2  hS10 ) ?_)))
      intro z12 M13 hP14
      obtain ⟨eM, f14, f14p0⟩ := hP14
      subst eM
      have lm : LMk z12 (Ms 32 1) (fun i => Ms 33 i) := by have y := f14p0; rw [nfr 32 1 (by omega) (by omega) (by omega) (by omega), show (fun i => M10 33 i) = fun i => Ms 33 i from funext fun i => nfr 33 i (by omega) (by omega) (by omega) (by omega)] at y; exact y
      refine n_v1V c_120_89 rfl sc_3.n rfl rfl rfl rfl (restrainFormX_2 (m := z12) (Ms := M10) (V := 2) hS10 (by omega) (by rfl) (by exact fun l h0 h1 => (hxl l h0 (by have y := nfr 3 15 (by omega) (by omega) (by omega) (by omega); omega)).of (fun a i u1 u2 => nfr a i (by omega) (by omega) (by omega) (by omega))) (by exact FQk.fm (by decide) (by decide) fqn) (by omega) (by exact Aok.init (by decide) n40) (by exact fqn.2.2.2.2.1)) ?_
      intro  M15 hP16
      obtain ⟨hS15, f16p0⟩ := hP16
      have rf : RSM 2 (kV 1 2) z12 (M10 3 15) M10 M15 := f16p0
      refine n_aload_n c_120_92 rfl (n_getR c_120_93 sc_3.n rfl rfl rfl r_3_7 ?_)
      refine n_v0V c_120_96 rfl sc_38.n rfl rfl rfl rfl (orderX_2 (Ms := M15) hS15 (by rfl) (by rw [rf.2 38 7 (by omega)]; exact f11p2) (by have y := rf.2 38 6 (by omega); omega)) ?_
      intro  M17 hP18
      obtain ⟨hS17, f18p0, f18p1⟩ := hP18
      have nst : NST 2 2 M17 := NST.mk3 (by omega) (by rw [rf.2 38 5 (by omega)]; exact f11p0) (by rw [rf.2 38 6 (by omega)]; exact n6) rf.1 f18p1 f18p0
      have ofr : ∀ a i : Int, a = 44 ∨ a = 45 → M17 a i = M10 a i := fun a i u => by rw [f18p1 a i (by omega) (by omega) (by omega)]; exact rf.2 a i (by omega)
      refine n_aload_n c_120_99 rfl (n_getR c_120_100 sc_3.n rfl rfl rfl r_3_7 (n_aload_n c_120_103 rfl (n_getR c_120_104 sc_3.n rfl rfl rfl r_3_8 ?_)))
      refine n_v1I c_120_107 rfl sc_38.n rfl rfl rfl rfl (findFirstX_2 (Ms := M17) (V := 2) hS17 (by rfl) (by exact nst) (by omega) (by rw [ofr 44 1 (by omega)]; exact fqn.2.1) (by exact fun i i0 i1 => by rw [ofr 45 i (by omega)]; exact FQk.b (by decide) (by decide) fqn i0 (by omega)) (by rw [ofr 44 5 (by omega)]; exact fqn.2.2.2.2.1)) ?_
      intro z19 M20 hP21
      obtain ⟨hS20, f21, f21p0⟩ := hP21
      have ffp : FFP 2 (kV 1 2) (kN 2) z19 M17 M20 := f21p0
      have cl := cQk.cls (q := 1) (d := 2) (N := 8) (by decide) (by decide) (by decide) fqn rf n40 (fun a i u => f18p1 a i (by omega) (by omega) (by omega)) ffp
      refine n_if0_eq c_120_110 (by omega) ?_ ?_
      · intro h22
        refine n_ldc2 (n := (-7)) c_120_134 rfl ?_
        exact n_rJ c_120_137 rfl ⟨hS20, by omega, by exact ⟨z12, lm, cQk.congr (by rcases cl with ⟨-, y⟩ | ⟨y, -⟩; exact y; omega) (fun k => Gc.of (fun a i u => nfr a i (by omega) (by omega) (by omega) (by omega)))⟩⟩
      · intro h23
        refine n_aload_n c_120_113 rfl (n_getR c_120_114 sc_3.n rfl rfl rfl r_3_8 (n_aload_n c_120_117 rfl (n_getR c_120_118 sc_3.n rfl rfl rfl r_3_7 (n_getR c_120_121 sc_38.n rfl rfl rfl r_38_0 (n_aload_n c_120_124 rfl (n_getR c_120_125 sc_3.n rfl rfl rfl r_3_0 ?_))))))
        refine n_v2J c_120_128 rfl sc_44.n rfl rfl rfl rfl (codeX3_2  hS20 (by rw [ffp.1 44 0 (by omega), ofr 44 0 (by omega)]; exact fqn.1)) ?_
        intro z24 M25 hP26
        obtain ⟨eM, f26, f26p0⟩ := hP26
        subst eM
        refine n_goto c_120_131 ?_
        exact n_rJ c_120_137 rfl ⟨hS20, by omega, by exact ⟨z12, lm, cQk.congr (by rcases cl with ⟨y, -⟩ | ⟨-, y⟩; omega; rw [f26p0]; exact y) (fun k => Gc.of (fun a i u => nfr a i (by omega) (by omega) (by omega) (by omega)))⟩⟩
  · intro h27
    exfalso; omega

set_option maxHeartbeats 4000000 in
theorem quickX2_2 {xs : List Int32} {e : Nat} {ac : Int} {M0 M : nM} {Ms : nM} (hS : Sf 2 ac M0 M) (hms : M = Ms) (hxl : ∀ l : Int, 0 ≤ l → l < Ms 3 15 → LawOk 2 (79 + 2 * l) Ms) : nW xs (e + 31) 120 0 [some (2, 3), some (0, 2)] [] M (nPJ fun z M1 => Sf 2 ac M0 M1 ∧ (-9223372036854775808 ≤ z ∧ z ≤ 9223372036854775807) ∧ (cQ 2 2 z 8 Ms)) := by
  have hd : (2 : Int) = 2 ∨ (2 : Int) = 3 := by decide
  have hac := hS.2.2.2.2
  have t15 := t_3_15 (hms ▸ hS)
  refine n_iload_n c_120_0 rfl ?_
  refine n_if0_ne c_120_1 (by omega) ?_ ?_
  · intro h1
    refine n_iload_n c_120_18 rfl (n_iconst c_120_19 ?_)
    refine n_if2_ne c_120_20 (by omega) (by omega) ?_ ?_
    · intro h2
      refine n_iload_n c_120_37 rfl (n_iconst c_120_38 ?_)
      refine n_if2_ne c_120_39 (by omega) (by omega) ?_ ?_
      · intro h3
        exfalso; omega
      · intro h4
        refine n_aload_n c_120_42 rfl (n_getR c_120_43 sc_3.n rfl rfl rfl r_3_8 (n_aload_n c_120_46 rfl (n_getR c_120_47 sc_3.n rfl rfl rfl r_3_0 (n_v1V c_120_50 rfl sc_44.n rfl rfl rfl rfl (beSumX_2 (Mz := M) hS (by rfl)) ?_))))
        intro  M5 hP6
        obtain ⟨hS5, f6p0, f6p1, f6p2⟩ := hP6
        have fqb : FQk 2 2 M5 := ⟨f6p0.1, f6p0.2.1, f6p0.2.2.1, f6p0.2.2.2.1, f6p0.2.2.2.2, f6p1⟩
        have bfr : ∀ a i : Int, a ≠ 44 → a ≠ 45 → M5 a i = Ms a i := fun a i h1 h2 => by rw [f6p2 a i h1 h2, hms]
        refine n_goto c_120_53 (n_aload_n c_120_60 rfl (n_getR c_120_61 sc_3.n rfl rfl rfl r_3_7 (n_aload_n c_120_64 rfl (n_getR c_120_65 sc_3.n rfl rfl rfl r_3_0 (n_getV (bi := 0) c_120_68 sc_4.n rfl rfl rfl (t_4_0 hS5) ?_)))))
        intro z7 ez7 f8
        obtain rfl : z7 = 2 := by omega
        refine n_aload_n c_120_71 rfl (n_getR c_120_72 sc_3.n rfl rfl rfl r_3_8 (n_getV (bi := 2) c_120_75 sc_44.n rfl rfl rfl (t_44_2 hS5) ?_))
        intro z9 ez9 f10
        obtain rfl : z9 = 2 := by omega
        refine n_v2V c_120_78 rfl sc_38.n rfl rfl rfl rfl (nstartX_2 (c := 2) hS5 (by omega)) ?_
        intro  M11 hP12
        obtain ⟨hS11, f12p0, f12p1, f12p2, f12p3, f12p4⟩ := hP12
        have nfr : ∀ a i : Int, a ≠ 38 → a ≠ 40 → a ≠ 44 → a ≠ 45 → M11 a i = Ms a i := fun a i h1 h2 h3 h4 => by rw [f12p4 a i h1 h2]; exact bfr a i h3 h4
        have fqn : FQk 2 2 M11 := fqb.of (fun a i u => f12p4 a i (by omega) (by omega))
        have n40 : ∀ i : Int, 0 ≤ i → i < 729 → M11 40 i = ARd 2 := fun i h0 h1 => by rw [f12p3 i h0 h1]; rfl
        have n6 : M11 38 6 = 2 := by have y := f12p1; omega
        refine n_aload_n c_120_81 rfl (n_aload_n c_120_82 rfl (n_getR c_120_83 sc_3.n rfl rfl rfl r_3_6 (n_v0I c_120_86 rfl sc_32.n rfl rfl rfl rfl (lawMaskX_2  hS11 ) ?_)))
        intro z13 M14 hP15
        obtain ⟨eM, f15, f15p0⟩ := hP15
        subst eM
        have lm : LMk z13 (Ms 32 1) (fun i => Ms 33 i) := by have y := f15p0; rw [nfr 32 1 (by omega) (by omega) (by omega) (by omega), show (fun i => M11 33 i) = fun i => Ms 33 i from funext fun i => nfr 33 i (by omega) (by omega) (by omega) (by omega)] at y; exact y
        refine n_v1V c_120_89 rfl sc_3.n rfl rfl rfl rfl (restrainFormX_2 (m := z13) (Ms := M11) (V := 2) hS11 (by omega) (by rfl) (by exact fun l h0 h1 => (hxl l h0 (by have y := nfr 3 15 (by omega) (by omega) (by omega) (by omega); omega)).of (fun a i u1 u2 => nfr a i (by omega) (by omega) (by omega) (by omega))) (by exact FQk.fm (by decide) (by decide) fqn) (by omega) (by exact Aok.init (by decide) n40) (by exact fqn.2.2.2.2.1)) ?_
        intro  M16 hP17
        obtain ⟨hS16, f17p0⟩ := hP17
        have rf : RSM 2 (kV 2 2) z13 (M11 3 15) M11 M16 := f17p0
        refine n_aload_n c_120_92 rfl (n_getR c_120_93 sc_3.n rfl rfl rfl r_3_7 ?_)
        refine n_v0V c_120_96 rfl sc_38.n rfl rfl rfl rfl (orderX_2 (Ms := M16) hS16 (by rfl) (by rw [rf.2 38 7 (by omega)]; exact f12p2) (by have y := rf.2 38 6 (by omega); omega)) ?_
        intro  M18 hP19
        obtain ⟨hS18, f19p0, f19p1⟩ := hP19
        have nst : NST 2 2 M18 := NST.mk3 (by omega) (by rw [rf.2 38 5 (by omega)]; exact f12p0) (by rw [rf.2 38 6 (by omega)]; exact n6) rf.1 f19p1 f19p0
        have ofr : ∀ a i : Int, a = 44 ∨ a = 45 → M18 a i = M11 a i := fun a i u => by rw [f19p1 a i (by omega) (by omega) (by omega)]; exact rf.2 a i (by omega)
        refine n_aload_n c_120_99 rfl (n_getR c_120_100 sc_3.n rfl rfl rfl r_3_7 (n_aload_n c_120_103 rfl (n_getR c_120_104 sc_3.n rfl rfl rfl r_3_8 ?_)))
        refine n_v1I c_120_107 rfl sc_38.n rfl rfl rfl rfl (findFirstX_2 (Ms := M18) (V := 2) hS18 (by rfl) (by exact nst) (by omega) (by rw [ofr 44 1 (by omega)]; exact fqn.2.1) (by exact fun i i0 i1 => by rw [ofr 45 i (by omega)]; exact FQk.b (by decide) (by decide) fqn i0 (by omega)) (by rw [ofr 44 5 (by omega)]; exact fqn.2.2.2.2.1)) ?_
        intro z20 M21 hP22
        obtain ⟨hS21, f22, f22p0⟩ := hP22
        have ffp : FFP 2 (kV 2 2) (kN 2) z20 M18 M21 := f22p0
        have cl := cQk.cls (q := 2) (d := 2) (N := 8) (by decide) (by decide) (by decide) fqn rf n40 (fun a i u => f19p1 a i (by omega) (by omega) (by omega)) ffp
        refine n_if0_eq c_120_110 (by omega) ?_ ?_
        · intro h23
          refine n_ldc2 (n := (-7)) c_120_134 rfl ?_
          exact n_rJ c_120_137 rfl ⟨hS21, by omega, by exact ⟨z13, lm, cQk.congr (by rcases cl with ⟨-, y⟩ | ⟨y, -⟩; exact y; omega) (fun k => Gc.of (fun a i u => nfr a i (by omega) (by omega) (by omega) (by omega)))⟩⟩
        · intro h24
          refine n_aload_n c_120_113 rfl (n_getR c_120_114 sc_3.n rfl rfl rfl r_3_8 (n_aload_n c_120_117 rfl (n_getR c_120_118 sc_3.n rfl rfl rfl r_3_7 (n_getR c_120_121 sc_38.n rfl rfl rfl r_38_0 (n_aload_n c_120_124 rfl (n_getR c_120_125 sc_3.n rfl rfl rfl r_3_0 ?_))))))
          refine n_v2J c_120_128 rfl sc_44.n rfl rfl rfl rfl (codeX3_2  hS21 (by rw [ffp.1 44 0 (by omega), ofr 44 0 (by omega)]; exact fqn.1)) ?_
          intro z25 M26 hP27
          obtain ⟨eM, f27, f27p0⟩ := hP27
          subst eM
          refine n_goto c_120_131 ?_
          exact n_rJ c_120_137 rfl ⟨hS21, by omega, by exact ⟨z13, lm, cQk.congr (by rcases cl with ⟨y, -⟩ | ⟨-, y⟩; omega; rw [f27p0]; exact y) (fun k => Gc.of (fun a i u => nfr a i (by omega) (by omega) (by omega) (by omega)))⟩⟩
    · intro h28
      exfalso; omega
  · intro h29
    exfalso; omega

set_option maxHeartbeats 4000000 in
theorem quickXL_2 {xs : List Int32} {e : Nat} {ac : Int} {M0 M : nM} {k : Int} (hS : Sf 2 ac M0 M) (hk : -2147483648 ≤ k ∧ k ≤ -1) : nW xs (e + 31) 120 0 [some (2, 3), some (0, k)] [] M (nPJ fun z M1 => M = M1 ∧ (-1 ≤ z ∧ z ≤ -1)) := by
  have hd : (2 : Int) = 2 ∨ (2 : Int) = 3 := by decide
  have hac := hS.2.2.2.2
  refine n_iload_n c_120_0 rfl ?_
  refine n_if0_ne c_120_1 (by omega) ?_ ?_
  · intro h1
    refine n_iload_n c_120_18 rfl (n_iconst c_120_19 ?_)
    refine n_if2_ne c_120_20 (by omega) (by omega) ?_ ?_
    · intro h2
      refine n_iload_n c_120_37 rfl (n_iconst c_120_38 ?_)
      refine n_if2_ne c_120_39 (by omega) (by omega) ?_ ?_
      · intro h3
        refine n_ldc2 (n := (-1)) c_120_56 rfl ?_
        exact n_rJ c_120_59 rfl ⟨rfl, by omega⟩
      · intro h4
        exfalso; omega
    · intro h5
      exfalso; omega
  · intro h6
    exfalso; omega

set_option maxHeartbeats 4000000 in
theorem quickXH_2 {xs : List Int32} {e : Nat} {ac : Int} {M0 M : nM} {k : Int} (hS : Sf 2 ac M0 M) (hk : 3 ≤ k ∧ k ≤ 2147483647) : nW xs (e + 31) 120 0 [some (2, 3), some (0, k)] [] M (nPJ fun z M1 => M = M1 ∧ (-1 ≤ z ∧ z ≤ -1)) := by
  have hd : (2 : Int) = 2 ∨ (2 : Int) = 3 := by decide
  have hac := hS.2.2.2.2
  refine n_iload_n c_120_0 rfl ?_
  refine n_if0_ne c_120_1 (by omega) ?_ ?_
  · intro h1
    refine n_iload_n c_120_18 rfl (n_iconst c_120_19 ?_)
    refine n_if2_ne c_120_20 (by omega) (by omega) ?_ ?_
    · intro h2
      refine n_iload_n c_120_37 rfl (n_iconst c_120_38 ?_)
      refine n_if2_ne c_120_39 (by omega) (by omega) ?_ ?_
      · intro h3
        refine n_ldc2 (n := (-1)) c_120_56 rfl ?_
        exact n_rJ c_120_59 rfl ⟨rfl, by omega⟩
      · intro h4
        exfalso; omega
    · intro h5
      exfalso; omega
  · intro h6
    exfalso; omega

set_option maxHeartbeats 4000000 in
theorem maskedX_2_c {xs : List Int32} {e : Nat} {ac : Int} {M0 M : nM} (hS : Sf 2 ac M0 M) (hdm : M0 112 0 = 2) : ∀ nn : Nat, (∀ (x1 x2 : Int), (0 ≤ x1 ∧ x1 ≤ 4095) → (0 ≤ x2 ∧ x2 ≤ 30) → (LMk x1 x2 (fun i => M 120 i)) → (x2 ≤ M 112 11) → (30 - x2) * 1 + 1 < (nn : Int) → nW xs e 196 4 [some (2, 112), some (0, x1), some (0, x2)] [] M (nPI fun z M1 => M = M1 ∧ (0 ≤ z ∧ z ≤ 4095) ∧ (LMk z (M 112 11) (fun i => M 120 i)))) := by
  have hd : (2 : Int) = 2 ∨ (2 : Int) = 3 := by decide
  have hac := hS.2.2.2.2
  intro nn
  induction nn with
  | zero => intros; omega
  | succ nn ih =>
    intro x1 x2 k1 k2 v0 v1 hnn
    refine n_iload_n c_196_4 rfl (n_aload_n c_196_5 rfl (n_getV (bi := 11) c_196_6 sc_112.n rfl rfl rfl (t_112_11 hS) ?_))
    intro z1 ez1 f2
    refine n_if2_ge c_196_9 (by omega) (by omega) ?_ ?_
    · intro h3
      refine n_iload_n c_196_29 rfl ?_
      exact n_rI c_196_30 rfl ⟨rfl, by omega, by have e : x2 = M 112 11 := (by omega); rw [← e]; exact v0⟩
    · intro h4
      refine n_iload_n c_196_12 rfl (n_iconst c_196_13 (n_aload_n c_196_14 rfl (n_getR c_196_15 sc_112.n rfl rfl rfl r_112_12 (n_iload_n c_196_18 rfl (n_ialoadV c_196_19 sc_120.n rfl rfl rfl (by omega) (t_120 hS (by omega)) ?_)))))
      intro z5 ez5 f6
      refine n_i_ishl c_196_20 rfl ?_
      have f7 := n_shl_1 (y := z5) (a := 0) (b := 11) (by decide) (by omega)
      generalize gz8 : (n_shl 1 z5) = z8 at f7 ⊢
      refine n_i_ior c_196_21 rfl ?_
      have f9 := n_or_k (x := x1) (y := z8) (n := 12) (by decide) (by omega) (by omega)
      generalize gz10 : (n_or x1 z8) = z10 at f9 ⊢
      refine n_istore_n (L2 := [some (2, 112), some (0, z10), some (0, x2)]) c_196_22 rfl rfl (n_iinc (L2 := [some (2, 112), some (0, z10), some (0, (x2 + 1))]) c_196_23 rfl rfl rfl (n_goto c_196_26 (n_fg (le_s (le_s (le_s le_0))) ?_)))
      exact ih _ _ (by omega) (by omega) (by rw [← gz10, ← gz8]; exact LMk.add v0 (by omega) (by omega) ez5) (by have y := t_112_11 hS; omega) (by omega)
set_option maxHeartbeats 4000000 in
theorem maskedX_2 {xs : List Int32} {e : Nat} {ac : Int} {M0 M : nM} (hS : Sf 2 ac M0 M) (hdm : M0 112 0 = 2) : nW xs e 196 0 [some (2, 112), none, none] [] M (nPI fun z M1 => M = M1 ∧ (0 ≤ z ∧ z ≤ 4095) ∧ (LMk z (M 112 11) (fun i => M 120 i))) := by
  have hd : (2 : Int) = 2 ∨ (2 : Int) = 3 := by decide
  have hac := hS.2.2.2.2
  refine n_iconst c_196_0 (n_istore_n (L2 := [some (2, 112), some (0, 0), none]) c_196_1 rfl rfl (n_iconst c_196_2 (n_istore_n (L2 := [some (2, 112), some (0, 0), some (0, 0)]) c_196_3 rfl rfl (n_fg (le_s (le_s (le_s le_0))) ?_))))
  exact (maskedX_2_c hS hdm 74) _ _ (by omega) (by omega) (by exact LMk.init) (by have y := t_112_11 hS; omega) (by omega)

set_option maxHeartbeats 4000000 in
theorem misHalfX_2_c {xs : List Int32} {e : Nat} {ac : Int} {M0 M : nM} (hS : Sf 2 ac M0 M) (hdm : M0 112 0 = 2) (hh : ∀ i : Int, 0 ≤ i → i < 4 → 0 ≤ M 127 i ∧ M 127 i < 2) : ∀ nn : Nat, (∀ (x1 : Int), (0 ≤ x1 ∧ x1 ≤ 2) → (∀ a : Int, 0 ≤ a → a < x1 → M 127 (a * 2 + a) = a) → (∀ a b : Int, 0 ≤ a → a < x1 → (0 ≤ b ∧ b < 2) → M 127 (a * 2 + b) = M 127 (b * 2 + a)) → (∀ a b c : Int, 0 ≤ a → a < x1 → (0 ≤ b ∧ b < 2) → (0 ≤ c ∧ c < 2) → M 127 (M 127 (a * 2 + b) * 2 + c) = M 127 (a * 2 + M 127 (b * 2 + c))) → (2 - x1) * 21 + 21 < (nn : Int) → nW xs e 197 2 [some (2, 112), some (0, x1), none, none] [] M (nPI fun z M1 => M = M1 ∧ (0 ≤ z ∧ z ≤ 1) ∧ (z = bb (HFm 2 (fun x => M 127 x))))) ∧ (∀ (x1 x2 : Int), (0 ≤ x1 ∧ x1 ≤ 1) → (0 ≤ x2 ∧ x2 ≤ 2) → (∀ a : Int, 0 ≤ a → a < x1 → M 127 (a * 2 + a) = a) → (∀ a b : Int, 0 ≤ a → a < x1 → (0 ≤ b ∧ b < 2) → M 127 (a * 2 + b) = M 127 (b * 2 + a)) → (∀ a b c : Int, 0 ≤ a → a < x1 → (0 ≤ b ∧ b < 2) → (0 ≤ c ∧ c < 2) → M 127 (M 127 (a * 2 + b) * 2 + c) = M 127 (a * 2 + M 127 (b * 2 + c))) → (M 127 (x1 * 2 + x1) = x1) → (∀ b : Int, 0 ≤ b → b < x2 → M 127 (x1 * 2 + b) = M 127 (b * 2 + x1)) → (∀ b c : Int, 0 ≤ b → b < x2 → (0 ≤ c ∧ c < 2) → M 127 (M 127 (x1 * 2 + b) * 2 + c) = M 127 (x1 * 2 + M 127 (b * 2 + c))) → (2 - x1) * 21 + (2 - x2) * 5 + 5 < (nn : Int) → nW xs e 197 31 [some (2, 112), some (0, x1), some (0, x2), none] [] M (nPI fun z M1 => M = M1 ∧ (0 ≤ z ∧ z ≤ 1) ∧ (z = bb (HFm 2 (fun x => M 127 x))))) ∧ (∀ (x1 x2 x3 : Int), (0 ≤ x1 ∧ x1 ≤ 1) → (0 ≤ x2 ∧ x2 ≤ 1) → (0 ≤ x3 ∧ x3 ≤ 2) → (∀ a : Int, 0 ≤ a → a < x1 → M 127 (a * 2 + a) = a) → (∀ a b : Int, 0 ≤ a → a < x1 → (0 ≤ b ∧ b < 2) → M 127 (a * 2 + b) = M 127 (b * 2 + a)) → (∀ a b c : Int, 0 ≤ a → a < x1 → (0 ≤ b ∧ b < 2) → (0 ≤ c ∧ c < 2) → M 127 (M 127 (a * 2 + b) * 2 + c) = M 127 (a * 2 + M 127 (b * 2 + c))) → (M 127 (x1 * 2 + x1) = x1) → (∀ b : Int, 0 ≤ b → b < x2 → M 127 (x1 * 2 + b) = M 127 (b * 2 + x1)) → (∀ b c : Int, 0 ≤ b → b < x2 → (0 ≤ c ∧ c < 2) → M 127 (M 127 (x1 * 2 + b) * 2 + c) = M 127 (x1 * 2 + M 127 (b * 2 + c))) → (M 127 (x1 * 2 + x2) = M 127 (x2 * 2 + x1)) → (∀ c : Int, 0 ≤ c → c < x3 → M 127 (M 127 (x1 * 2 + x2) * 2 + c) = M 127 (x1 * 2 + M 127 (x2 * 2 + c))) → (2 - x1) * 21 + (2 - x2) * 5 + (2 - x3) * 1 + 1 < (nn : Int) → nW xs e 197 72 [some (2, 112), some (0, x1), some (0, x2), some (0, x3)] [] M (nPI fun z M1 => M = M1 ∧ (0 ≤ z ∧ z ≤ 1) ∧ (z = bb (HFm 2 (fun x => M 127 x))))) := by
  have hd : (2 : Int) = 2 ∨ (2 : Int) = 3 := by decide
  have hac := hS.2.2.2.2
  intro nn
  induction nn with
  | zero => refine ⟨?_, ?_, ?_⟩ <;> (intros; omega)
  | succ nn ih =>
    refine ⟨?_, ?_, ?_⟩
    · intro x1 k1 v0 v1 v2 hnn
      refine n_iload_n c_197_2 rfl (n_aload_n c_197_3 rfl (n_getV (bi := 0) c_197_4 sc_112.n rfl rfl rfl (t_dm hS hdm) ?_))
      intro z1 ez1 f2
      obtain rfl : z1 = 2 := by omega
      refine n_if2_ge c_197_7 (by omega) (by omega) ?_ ?_
      · intro h3
        refine n_iconst c_197_153 ?_
        exact n_rZ c_197_154 rfl (by omega) ⟨rfl, by omega, by exact (bb_t ⟨fun a a0 a1 => v0 a a0 (by omega), fun a b ha hb => v1 a b ha.1 (by omega) hb, fun a b c ha hb hc => v2 a b c ha.1 (by omega) hb hc⟩).symm⟩
      · intro h4
        refine n_aload_n c_197_10 rfl (n_getR c_197_11 sc_112.n rfl rfl rfl r_112_19 (n_iload_n c_197_14 rfl (n_aload_n c_197_15 rfl (n_getV (bi := 0) c_197_16 sc_112.n rfl rfl rfl (t_dm hS hdm) ?_))))
        intro z5 ez5 f6
        obtain rfl : z5 = 2 := by omega
        refine n_imul c_197_19 rfl (n_iload_n c_197_20 rfl (n_iadd c_197_21 rfl (n_ialoadV c_197_22 sc_127.n rfl rfl rfl (by omega) (t_127 hS (by omega)) ?_)))
        intro z7 ez7 f8
        refine n_iload_n c_197_23 rfl ?_
        refine n_if2_eq c_197_24 (by omega) (by omega) ?_ ?_
        · intro h9
          refine n_iconst c_197_29 (n_istore_n (L2 := [some (2, 112), some (0, x1), some (0, 0), none]) c_197_30 rfl rfl (n_fg (le_s (le_s (le_s (le_n le_0)))) ?_))
          exact ih.2.1 _ _ (by omega) (by omega) (by exact v0) (by exact v1) (by exact v2) (by omega) (by exact fun b b0 b1 => by omega) (by exact fun b c b0 b1 => by omega) (by omega)
        · intro h10
          refine n_iconst c_197_27 ?_
          exact n_rZ c_197_28 rfl (by omega) ⟨rfl, by omega, by exact (bb_f (fun q => by have y : M 127 (x1 * 2 + x1) = x1 := q.1 x1 (by omega) (by omega); omega)).symm⟩
    · intro x1 x2 k1 k2 v0 v1 v2 v3 v4 v5 hnn
      refine n_iload_n c_197_31 rfl (n_aload_n c_197_32 rfl (n_getV (bi := 0) c_197_33 sc_112.n rfl rfl rfl (t_dm hS hdm) ?_))
      intro z1 ez1 f2
      obtain rfl : z1 = 2 := by omega
      refine n_if2_ge c_197_36 (by omega) (by omega) ?_ ?_
      · intro h3
        refine n_iinc (L2 := [some (2, 112), some (0, (x1 + 1)), some (0, x2), none]) c_197_147 rfl rfl rfl (n_goto c_197_150 (n_fg (le_s (le_s (le_n (le_n le_0)))) ?_))
        exact ih.1 _ (by omega) (by exact fun a a0 a1 => by by_cases y : a = x1; (rw [y]; exact v3); exact v0 a a0 (by omega)) (by exact fun a b a0 a1 hb => by by_cases y : a = x1; (rw [y]; exact v4 b hb.1 (by omega)); exact v1 a b a0 (by omega) hb) (by exact fun a b c a0 a1 hb hc => by by_cases y : a = x1; (rw [y]; exact v5 b c hb.1 (by omega) hc); exact v2 a b c a0 (by omega) hb hc) (by omega)
      · intro h4
        refine n_aload_n c_197_39 rfl (n_getR c_197_40 sc_112.n rfl rfl rfl r_112_19 (n_iload_n c_197_43 rfl (n_aload_n c_197_44 rfl (n_getV (bi := 0) c_197_45 sc_112.n rfl rfl rfl (t_dm hS hdm) ?_))))
        intro z5 ez5 f6
        obtain rfl : z5 = 2 := by omega
        refine n_imul c_197_48 rfl (n_iload_n c_197_49 rfl (n_iadd c_197_50 rfl (n_ialoadV c_197_51 sc_127.n rfl rfl rfl (by omega) (t_127 hS (by omega)) ?_)))
        intro z7 ez7 f8
        refine n_aload_n c_197_52 rfl (n_getR c_197_53 sc_112.n rfl rfl rfl r_112_19 (n_iload_n c_197_56 rfl (n_aload_n c_197_57 rfl (n_getV (bi := 0) c_197_58 sc_112.n rfl rfl rfl (t_dm hS hdm) ?_))))
        intro z9 ez9 f10
        obtain rfl : z9 = 2 := by omega
        refine n_imul c_197_61 rfl (n_iload_n c_197_62 rfl (n_iadd c_197_63 rfl (n_ialoadV c_197_64 sc_127.n rfl rfl rfl (by omega) (t_127 hS (by omega)) ?_)))
        intro z11 ez11 f12
        refine n_if2_eq c_197_65 (by omega) (by omega) ?_ ?_
        · intro h13
          refine n_iconst c_197_70 (n_istore_n (L2 := [some (2, 112), some (0, x1), some (0, x2), some (0, 0)]) c_197_71 rfl rfl (n_fg (le_s (le_s (le_s (le_s le_0)))) ?_))
          exact ih.2.2 _ _ _ (by omega) (by omega) (by omega) (by exact v0) (by exact v1) (by exact v2) (by exact v3) (by exact v4) (by exact v5) (by omega) (by exact fun c c0 c1 => by omega) (by omega)
        · intro h14
          refine n_iconst c_197_68 ?_
          exact n_rZ c_197_69 rfl (by omega) ⟨rfl, by omega, by exact (bb_f (fun q => by have y : M 127 (x1 * 2 + x2) = M 127 (x2 * 2 + x1) := q.2.1 x1 x2 (by omega) (by omega); omega)).symm⟩
    · intro x1 x2 x3 k1 k2 k3 v0 v1 v2 v3 v4 v5 v6 v7 hnn
      refine n_iload_n c_197_72 rfl (n_aload_n c_197_73 rfl (n_getV (bi := 0) c_197_74 sc_112.n rfl rfl rfl (t_dm hS hdm) ?_))
      intro z1 ez1 f2
      obtain rfl : z1 = 2 := by omega
      refine n_if2_ge c_197_77 (by omega) (by omega) ?_ ?_
      · intro h3
        refine n_iinc (L2 := [some (2, 112), some (0, x1), some (0, (x2 + 1)), some (0, x3)]) c_197_141 rfl rfl rfl (n_goto c_197_144 (n_fg (le_s (le_s (le_s (le_n le_0)))) ?_))
        exact ih.2.1 _ _ (by omega) (by omega) (by exact v0) (by exact v1) (by exact v2) (by exact v3) (by exact fun b b0 b1 => by by_cases y : b = x2; (rw [y]; exact v6); exact v4 b b0 (by omega)) (by exact fun b c b0 b1 hc => by by_cases y : b = x2; (rw [y]; exact v7 c hc.1 (by omega)); exact v5 b c b0 (by omega) hc) (by omega)
      · intro h4
        refine n_aload_n c_197_80 rfl (n_getR c_197_81 sc_112.n rfl rfl rfl r_112_19 (n_aload_n c_197_84 rfl (n_getR c_197_85 sc_112.n rfl rfl rfl r_112_19 (n_iload_n c_197_88 rfl (n_aload_n c_197_89 rfl (n_getV (bi := 0) c_197_90 sc_112.n rfl rfl rfl (t_dm hS hdm) ?_))))))
        intro z5 ez5 f6
        obtain rfl : z5 = 2 := by omega
        refine n_imul c_197_93 rfl (n_iload_n c_197_94 rfl (n_iadd c_197_95 rfl (n_ialoadV c_197_96 sc_127.n rfl rfl rfl (by omega) (t_127 hS (by omega)) ?_)))
        intro z7 ez7 f8
        have rzu := hh (x1 * 2 + x2) (by omega) (by omega)
        have qzu : z7 = M 127 (x1 * 2 + x2) := ez7
        refine n_aload_n c_197_97 rfl (n_getV (bi := 0) c_197_98 sc_112.n rfl rfl rfl (t_dm hS hdm) ?_)
        intro z9 ez9 f10
        obtain rfl : z9 = 2 := by omega
        refine n_imul c_197_101 rfl (n_iload_n c_197_102 rfl (n_iadd c_197_103 rfl (n_ialoadV c_197_104 sc_127.n rfl rfl rfl (by omega) (t_127 hS (by omega)) ?_)))
        intro z11 ez11 f12
        have ql : z11 = M 127 (M 127 (x1 * 2 + x2) * 2 + x3) := by rw [ez11, qzu]
        refine n_aload_n c_197_105 rfl (n_getR c_197_106 sc_112.n rfl rfl rfl r_112_19 (n_iload_n c_197_109 rfl (n_aload_n c_197_110 rfl (n_getV (bi := 0) c_197_111 sc_112.n rfl rfl rfl (t_dm hS hdm) ?_))))
        intro z13 ez13 f14
        obtain rfl : z13 = 2 := by omega
        refine n_imul c_197_114 rfl (n_aload_n c_197_115 rfl (n_getR c_197_116 sc_112.n rfl rfl rfl r_112_19 (n_iload_n c_197_119 rfl (n_aload_n c_197_120 rfl (n_getV (bi := 0) c_197_121 sc_112.n rfl rfl rfl (t_dm hS hdm) ?_)))))
        intro z15 ez15 f16
        obtain rfl : z15 = 2 := by omega
        refine n_imul c_197_124 rfl (n_iload_n c_197_125 rfl (n_iadd c_197_126 rfl (n_ialoadV c_197_127 sc_127.n rfl rfl rfl (by omega) (t_127 hS (by omega)) ?_)))
        intro z17 ez17 f18
        have rzw := hh (x2 * 2 + x3) (by omega) (by omega)
        have qzw : z17 = M 127 (x2 * 2 + x3) := ez17
        refine n_iadd c_197_128 rfl (n_ialoadV c_197_129 sc_127.n rfl rfl rfl (by omega) (t_127 hS (by omega)) ?_)
        intro z19 ez19 f20
        have qr : z19 = M 127 (x1 * 2 + M 127 (x2 * 2 + x3)) := by rw [ez19, qzw]
        refine n_if2_eq c_197_130 (by omega) (by omega) ?_ ?_
        · intro h21
          refine n_iinc (L2 := [some (2, 112), some (0, x1), some (0, x2), some (0, (x3 + 1))]) c_197_135 rfl rfl rfl (n_goto c_197_138 (n_fg (le_s (le_s (le_s (le_s le_0)))) ?_))
          exact ih.2.2 _ _ _ (by omega) (by omega) (by omega) (by exact v0) (by exact v1) (by exact v2) (by exact v3) (by exact v4) (by exact v5) (by exact v6) (by exact fun c c0 c1 => by by_cases y : c = x3; (rw [y]; omega); exact v7 c c0 (by omega)) (by omega)
        · intro h22
          refine n_iconst c_197_133 ?_
          exact n_rZ c_197_134 rfl (by omega) ⟨rfl, by omega, by exact (bb_f (fun q => by have y : M 127 (M 127 (x1 * 2 + x2) * 2 + x3) = M 127 (x1 * 2 + M 127 (x2 * 2 + x3)) := q.2.2 x1 x2 x3 (by omega) (by omega) (by omega); omega)).symm⟩
set_option maxHeartbeats 4000000 in
theorem misHalfX_2 {xs : List Int32} {e : Nat} {ac : Int} {M0 M : nM} (hS : Sf 2 ac M0 M) (hdm : M0 112 0 = 2) (hh : ∀ i : Int, 0 ≤ i → i < 4 → 0 ≤ M 127 i ∧ M 127 i < 2) : nW xs e 197 0 [some (2, 112), none, none, none] [] M (nPI fun z M1 => M = M1 ∧ (0 ≤ z ∧ z ≤ 1) ∧ (z = bb (HFm 2 (fun x => M 127 x)))) := by
  have hd : (2 : Int) = 2 ∨ (2 : Int) = 3 := by decide
  have hac := hS.2.2.2.2
  refine n_iconst c_197_0 (n_istore_n (L2 := [some (2, 112), some (0, 0), none, none]) c_197_1 rfl rfl (n_fg (le_s (le_s (le_n (le_n le_0)))) ?_))
  exact (misHalfX_2_c hS hdm hh 178).1 _ (by omega) (by exact fun a a0 a1 => by omega) (by exact fun a b a0 a1 => by omega) (by exact fun a b c a0 a1 => by omega) (by omega)

set_option maxHeartbeats 4000000 in
theorem mlayMostX_2_c {xs : List Int32} {e : Nat} {ac : Int} {M0 M : nM} {k : Int} {Ms : nM} (hS : Sf 2 ac M0 M) (hdm : M0 112 0 = 2) (hk : 0 ≤ k ∧ k ≤ 0) (hms : M = Ms) : ∀ nn : Nat, (∀ (x2 x3 : Int) (M : nM), Sf 2 ac M0 M → (0 ≤ x2 ∧ x2 ≤ 1) → (0 ≤ x3 ∧ x3 ≤ 8) → (x2 = k / pn 2 (kV 1 2 - tbl (tVn 2) x3).toNat) → (∀ r : Int, 0 ≤ r → r < x3 → M 127 r = fq 1 2 k r) → (FC 127 Ms M) → (8 - x3) * 1 + 1 < (nn : Int) → nW xs (e + 2) 199 4 [some (2, 112), none, some (0, x2), some (0, x3), none, none, none] [] M (nPV fun M1 => Sf 2 ac M0 M1 ∧ (∀ r : Int, 0 ≤ r → r < 8 → M1 127 r = fq 1 2 k r) ∧ (FC 127 Ms M1))) := by
  have hd : (2 : Int) = 2 ∨ (2 : Int) = 3 := by decide
  have hac := hS.2.2.2.2
  intro nn
  induction nn with
  | zero => intros; omega
  | succ nn ih =>
    intro x2 x3 M hS k2 k3 v0 v1 v2 hnn
    refine n_iload_n c_199_4 rfl (n_aload_n c_199_5 rfl (n_getV (bi := 0) c_199_6 sc_112.n rfl rfl rfl (t_dm hS hdm) ?_))
    intro z1 ez1 f2
    obtain rfl : z1 = 2 := by omega
    refine n_iconst c_199_9 (n_s2I c_199_10 rfl rfl rfl rfl (mpower3_2  hS ) ?_)
    intro z3 M4 hP5
    obtain ⟨eM, f5⟩ := hP5
    subst eM
    obtain rfl : z3 = 8 := by omega
    refine n_if2_ge c_199_13 (by omega) (by omega) ?_ ?_
    · intro h6
      exact n_rV c_199_111 rfl ⟨hS, by exact fun r h0 h1 => v1 r h0 (by omega), by exact v2⟩
    · intro h7
      refine n_aload_n c_199_16 rfl (n_iload_n c_199_17 rfl (n_iconst c_199_18 (n_iconst c_199_19 (n_v3I c_199_20 rfl sc_112.n rfl rfl rfl rfl (mdigitX_2 (r := x3) (k := 3) (j := 0) hS hdm (by omega) (by omega) (by omega) (by omega)) ?_))))
      intro z8 M9 hP10
      obtain ⟨eM, f10, f10p0⟩ := hP10
      subst eM
      have kza : z8 = x3 / (2 * 2) := by rw [f10p0]; exact (dgt3 (d := 2) (by decide) (by omega)).1
      refine n_istore (L2 := [some (2, 112), none, some (0, x2), some (0, x3), some (0, z8), none, none]) c_199_23 rfl rfl (n_aload_n c_199_25 rfl (n_iload_n c_199_26 rfl (n_iconst c_199_27 (n_iconst c_199_28 (n_v3I c_199_29 rfl sc_112.n rfl rfl rfl rfl (mdigitX_2 (r := x3) (k := 3) (j := 1) hS hdm (by omega) (by omega) (by omega) (by omega)) ?_)))))
      intro z11 M12 hP13
      obtain ⟨eM, f13, f13p0⟩ := hP13
      subst eM
      have kzb : z11 = x3 / 2 % 2 := by rw [f13p0]; exact (dgt3 (d := 2) (by decide) (by omega)).2.1
      refine n_istore (L2 := [some (2, 112), none, some (0, x2), some (0, x3), some (0, z8), some (0, z11), none]) c_199_32 rfl rfl (n_aload_n c_199_34 rfl (n_iload_n c_199_35 rfl (n_iconst c_199_36 (n_iconst c_199_37 (n_v3I c_199_38 rfl sc_112.n rfl rfl rfl rfl (mdigitX_2 (r := x3) (k := 3) (j := 2) hS hdm (by omega) (by omega) (by omega) (by omega)) ?_)))))
      intro z14 M15 hP16
      obtain ⟨eM, f16, f16p0⟩ := hP16
      subst eM
      have kzc : z14 = x3 % 2 := by rw [f16p0]; exact (dgt3 (d := 2) (by decide) (by omega)).2.2
      have mo := mo_i (d := 2) (r := x3) (by decide) (by omega) kza kzb kzc
      have tvr := tv_r (d := 2) (r := x3 + 1) (by decide) (by omega)
      have tv0 := tv_r (d := 2) (r := x3) (by decide) (by omega)
      have kv : kV 1 2 = 2 := rfl
      refine n_istore (L2 := [some (2, 112), none, some (0, x2), some (0, x3), some (0, z8), some (0, z11), some (0, z14)]) c_199_41 rfl rfl (n_iload c_199_43 rfl (n_iload c_199_45 rfl ?_))
      refine n_if2_eq c_199_47 (by omega) (by omega) ?_ ?_
      · intro h17
        refine n_aload_n c_199_57 rfl (n_getR c_199_58 sc_112.n rfl rfl rfl r_112_19 (n_iload_n c_199_61 rfl (n_iload c_199_62 rfl (n_iastoreV hS c_199_64 sc_127.n rfl (by omega) (w_127 (by omega) (by omega)) ?_))))
        intro M18 eM18 hS18
        have ms := mo.1 (by omega)
        refine n_goto c_199_65 (n_iinc (L2 := [some (2, 112), none, some (0, x2), some (0, (x3 + 1)), some (0, z8), some (0, z11), some (0, z14)]) c_199_105 rfl rfl rfl (n_goto c_199_108 (n_fg (le_s (le_n (le_s (le_s (le_n (le_n (le_n le_0))))))) ?_)))
        exact ih _ _ M18 hS18 (by omega) (by omega) (by have y : tbl (tVn 2) (x3 + 1) = tbl (tVn 2) x3 := ms.2.symm; rw [y]; exact v0) (by exact fun r h0 h1 => by rw [eM18, nu_e]; by_cases y : r = x3; (rw [if_pos ⟨rfl, y⟩, y]; rw [fq_mo (by omega), ms.1]); (rw [if_neg (fun q => y q.2)]; exact v1 r h0 (by omega))) (by exact fun a i ha => by rw [eM18, nu_a ha]; exact v2 a i ha) (by omega)
      · intro h19
        refine n_iload c_199_50 rfl (n_iload c_199_52 rfl ?_)
        refine n_if2_ne c_199_54 (by omega) (by omega) ?_ ?_
        · intro h20
          refine n_iload c_199_68 rfl (n_iload c_199_70 rfl ?_)
          refine n_if2_ne c_199_72 (by omega) (by omega) ?_ ?_
          · intro h21
            refine n_aload_n c_199_86 rfl (n_getR c_199_87 sc_112.n rfl rfl rfl r_112_19 (n_iload_n c_199_90 rfl (n_iload_n c_199_91 rfl (n_aload_n c_199_92 rfl (n_getV (bi := 0) c_199_93 sc_112.n rfl rfl rfl (t_dm hS hdm) ?_)))))
            intro z22 ez22 f23
            obtain rfl : z22 = 2 := by omega
            refine n_iremV c_199_96 (by omega) (by omega) ?_
            intro z24 ez24 f25
            have ms := mo.2.2 (by omega) (by omega) (by omega)
            refine n_iastoreV hS c_199_97 sc_127.n rfl (by omega) (w_127 (by omega) (by omega)) ?_
            intro M26 eM26 hS26
            refine n_iload_n c_199_98 rfl (n_aload_n c_199_99 rfl (n_getV (bi := 0) c_199_100 sc_112.n rfl rfl rfl (t_dm hS26 hdm) ?_))
            intro z27 ez27 f28
            obtain rfl : z27 = 2 := by omega
            refine n_idivV c_199_103 (by omega) (by omega) ?_
            intro z29 ez29 f30
            refine n_istore_n (L2 := [some (2, 112), none, some (0, z29), some (0, x3), some (0, z8), some (0, z11), some (0, z14)]) c_199_104 rfl rfl (n_iinc (L2 := [some (2, 112), none, some (0, z29), some (0, (x3 + 1)), some (0, z8), some (0, z11), some (0, z14)]) c_199_105 rfl rfl rfl (n_goto c_199_108 (n_fg (le_s (le_n (le_s (le_s (le_n (le_n (le_n le_0))))))) ?_)))
            exact ih _ _ M26 hS26 (by omega) (by omega) (by exfalso; omega) (by exfalso; omega) (by exfalso; omega) (by omega)
          · intro h31
            refine n_aload_n c_199_75 rfl (n_getR c_199_76 sc_112.n rfl rfl rfl r_112_19 (n_iload_n c_199_79 rfl (n_iload c_199_80 rfl (n_iastoreV hS c_199_82 sc_127.n rfl (by omega) (w_127 (by omega) (by omega)) ?_))))
            intro M32 eM32 hS32
            have ms := mo.2.1 (by omega)
            refine n_goto c_199_83 (n_iinc (L2 := [some (2, 112), none, some (0, x2), some (0, (x3 + 1)), some (0, z8), some (0, z11), some (0, z14)]) c_199_105 rfl rfl rfl (n_goto c_199_108 (n_fg (le_s (le_n (le_s (le_s (le_n (le_n (le_n le_0))))))) ?_)))
            exact ih _ _ M32 hS32 (by omega) (by omega) (by have y : tbl (tVn 2) (x3 + 1) = tbl (tVn 2) x3 := ms.2.symm; rw [y]; exact v0) (by exact fun r h0 h1 => by rw [eM32, nu_e]; by_cases y : r = x3; (rw [if_pos ⟨rfl, y⟩, y]; rw [fq_mo (by omega), ms.1]); (rw [if_neg (fun q => y q.2)]; exact v1 r h0 (by omega))) (by exact fun a i ha => by rw [eM32, nu_a ha]; exact v2 a i ha) (by omega)
        · intro h33
          refine n_aload_n c_199_57 rfl (n_getR c_199_58 sc_112.n rfl rfl rfl r_112_19 (n_iload_n c_199_61 rfl (n_iload c_199_62 rfl (n_iastoreV hS c_199_64 sc_127.n rfl (by omega) (w_127 (by omega) (by omega)) ?_))))
          intro M34 eM34 hS34
          have ms := mo.1 (by omega)
          refine n_goto c_199_65 (n_iinc (L2 := [some (2, 112), none, some (0, x2), some (0, (x3 + 1)), some (0, z8), some (0, z11), some (0, z14)]) c_199_105 rfl rfl rfl (n_goto c_199_108 (n_fg (le_s (le_n (le_s (le_s (le_n (le_n (le_n le_0))))))) ?_)))
          exact ih _ _ M34 hS34 (by omega) (by omega) (by have y : tbl (tVn 2) (x3 + 1) = tbl (tVn 2) x3 := ms.2.symm; rw [y]; exact v0) (by exact fun r h0 h1 => by rw [eM34, nu_e]; by_cases y : r = x3; (rw [if_pos ⟨rfl, y⟩, y]; rw [fq_mo (by omega), ms.1]); (rw [if_neg (fun q => y q.2)]; exact v1 r h0 (by omega))) (by exact fun a i ha => by rw [eM34, nu_a ha]; exact v2 a i ha) (by omega)
set_option maxHeartbeats 4000000 in
theorem mlayMostX_2 {xs : List Int32} {e : Nat} {ac : Int} {M0 M : nM} {k : Int} {Ms : nM} (hS : Sf 2 ac M0 M) (hdm : M0 112 0 = 2) (hk : 0 ≤ k ∧ k ≤ 0) (hms : M = Ms) : nW xs (e + 2) 199 0 [some (2, 112), some (0, k), none, none, none, none, none] [] M (nPV fun M1 => Sf 2 ac M0 M1 ∧ (∀ r : Int, 0 ≤ r → r < 8 → M1 127 r = fq 1 2 k r) ∧ (FC 127 Ms M1)) := by
  have hd : (2 : Int) = 2 ∨ (2 : Int) = 3 := by decide
  have hac := hS.2.2.2.2
  refine n_iload_n c_199_0 rfl (n_istore_n (L2 := [some (2, 112), some (0, k), some (0, k), none, none, none, none]) c_199_1 rfl rfl (n_iconst c_199_2 (n_istore_n (L2 := [some (2, 112), some (0, k), some (0, k), some (0, 0), none, none, none]) c_199_3 rfl rfl (n_fg (le_s (le_n (le_s (le_s (le_n (le_n (le_n le_0))))))) ?_))))
  exact (mlayMostX_2_c hS hdm hk hms 30) _ _ M hS (by omega) (by omega) (by have y : pn 2 (kV 1 2 - tbl (tVn 2) 0).toNat = 1 := (by decide); rw [y]; omega) (by exact fun r h0 h1 => by omega) (by exact fun a i _ => by rw [hms]) (by omega)
