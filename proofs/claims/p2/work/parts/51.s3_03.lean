/-! The methods, by program. -/
set_option maxHeartbeats 4000000 in
theorem beMost_3_c {xs : List Int32} {e : Nat} {ac : Int} {M0 M : nM} (hS : Sf 3 ac M0 M)  : ∀ nn : Nat, (∀ (x2 : Int) (M : nM), Sf 3 ac M0 M → (-1 ≤ x2 ∧ x2 ≤ 26) → (M 44 2 ≤ 9) → (21 ≤ x2 → M 44 2 ≤ 3) → (19 ≤ x2 → M 44 2 ≤ 4) → (15 ≤ x2 → M 44 2 ≤ 5) → (11 ≤ x2 → M 44 2 ≤ 6) → (7 ≤ x2 → M 44 2 ≤ 7) → (5 ≤ x2 → M 44 2 ≤ 8) → (x2 - (-1)) * 1 + 1 < (nn : Int) → nW xs (e + 1) 22 17 [some (2, 44), some (2, 4), some (0, x2), none, none, none] [] M (nPV fun M1 => Sf 3 ac M0 M1)) := by
  have hd : (3 : Int) = 2 ∨ (3 : Int) = 3 := by decide
  have hac := hS.2.2.2.2
  intro nn
  induction nn with
  | zero => intros; omega
  | succ nn ih =>
    intro x2 M hS k2 v0 v1 v2 v3 v4 v5 v6 hnn
    rcases (show x2 = (-1) ∨ x2 = 0 ∨ x2 = 1 ∨ x2 = 2 ∨ x2 = 3 ∨ x2 = 4 ∨ x2 = 5 ∨ x2 = 6 ∨ x2 = 7 ∨ x2 = 8 ∨ x2 = 9 ∨ x2 = 10 ∨ x2 = 11 ∨ x2 = 12 ∨ x2 = 13 ∨ x2 = 14 ∨ x2 = 15 ∨ x2 = 16 ∨ x2 = 17 ∨ x2 = 18 ∨ x2 = 19 ∨ x2 = 20 ∨ x2 = 21 ∨ x2 = 22 ∨ x2 = 23 ∨ x2 = 24 ∨ x2 = 25 ∨ x2 = 26 by omega) with rfl | rfl | rfl | rfl | rfl | rfl | rfl | rfl | rfl | rfl | rfl | rfl | rfl | rfl | rfl | rfl | rfl | rfl | rfl | rfl | rfl | rfl | rfl | rfl | rfl | rfl | rfl | rfl
    · skip
      refine n_iload_n c_22_17 rfl ?_
      refine n_if0_lt c_22_18 (by omega) ?_ ?_
      · intro h1
        exact n_rV c_22_107 rfl hS
      · intro h2
        exfalso; omega
    · skip
      refine n_iload_n c_22_17 rfl ?_
      refine n_if0_lt c_22_18 (by omega) ?_ ?_
      · intro h3
        exfalso; omega
      · intro h4
        refine n_aload_n c_22_21 rfl ?_
        refine n_getR c_22_22 sc_4.n rfl rfl rfl r_4_2 ?_
        refine n_iload_n c_22_25 rfl ?_
        refine n_ialoadV c_22_26 sc_5.n rfl rfl rfl (by omega) (t_5k (z := 0) hS (by omega) (by omega) (by omega)) ?_
        intro z5 ez5 f6
        refine n_istore_n (L2 := [some (2, 44), some (2, 4), some (0, 0), some (0, z5), none, none]) c_22_27 rfl rfl ?_
        refine n_aload_n c_22_28 rfl ?_
        refine n_getR c_22_29 sc_4.n rfl rfl rfl r_4_3 ?_
        refine n_iload_n c_22_32 rfl ?_
        refine n_ialoadV c_22_33 sc_6.n rfl rfl rfl (by omega) (t_6k (z := 0) hS (by omega) (by omega) (by omega)) ?_
        intro z7 ez7 f8
        refine n_istore (L2 := [some (2, 44), some (2, 4), some (0, 0), some (0, z5), some (0, z7), none]) c_22_34 rfl rfl ?_
        refine n_aload_n c_22_36 rfl ?_
        refine n_getR c_22_37 sc_4.n rfl rfl rfl r_4_4 ?_
        refine n_iload_n c_22_40 rfl ?_
        refine n_ialoadV c_22_41 sc_7.n rfl rfl rfl (by omega) (t_7k (z := 0) hS (by omega) (by omega) (by omega)) ?_
        intro z9 ez9 f10
        refine n_istore (L2 := [some (2, 44), some (2, 4), some (0, 0), some (0, z5), some (0, z7), some (0, z9)]) c_22_42 rfl rfl ?_
        refine n_iload_n c_22_44 rfl ?_
        refine n_iload c_22_45 rfl ?_
        refine n_if2_eq c_22_47 (by omega) (by omega) ?_ ?_
        · intro h11
          refine n_aload_n c_22_56 rfl ?_
          refine n_getR c_22_57 sc_44.n rfl rfl rfl r_44_4 ?_
          refine n_iload_n c_22_60 rfl ?_
          refine n_iload_n c_22_61 rfl ?_
          refine n_iastoreV hS c_22_62 sc_45.n rfl (by omega) (w_45 (by omega) (by omega)) ?_
          intro M12 eM12 hS12
          have g12_0 : M12 44 2 = M 44 2 := by rw [eM12]; exact nu_a (by omega)
          refine n_goto c_22_63 ?_
          refine n_iinc (L2 := [some (2, 44), some (2, 4), some (0, (0 + (-1))), some (0, z5), some (0, z7), some (0, z9)]) c_22_101 rfl rfl rfl ?_
          refine n_goto c_22_104 ?_
          refine n_fg (le_s (le_s (le_s (le_n (le_n (le_n le_0)))))) ?_
          exact ih _ M12 hS12 (by omega) (by omega) (by omega) (by omega) (by omega) (by omega) (by omega) (by omega) (by omega)
        · intro h13
          exfalso; omega
    · skip
      refine n_iload_n c_22_17 rfl ?_
      refine n_if0_lt c_22_18 (by omega) ?_ ?_
      · intro h14
        exfalso; omega
      · intro h15
        refine n_aload_n c_22_21 rfl ?_
        refine n_getR c_22_22 sc_4.n rfl rfl rfl r_4_2 ?_
        refine n_iload_n c_22_25 rfl ?_
        refine n_ialoadV c_22_26 sc_5.n rfl rfl rfl (by omega) (t_5k (z := 0) hS (by omega) (by omega) (by omega)) ?_
        intro z16 ez16 f17
        refine n_istore_n (L2 := [some (2, 44), some (2, 4), some (0, 1), some (0, z16), none, none]) c_22_27 rfl rfl ?_
        refine n_aload_n c_22_28 rfl ?_
        refine n_getR c_22_29 sc_4.n rfl rfl rfl r_4_3 ?_
        refine n_iload_n c_22_32 rfl ?_
        refine n_ialoadV c_22_33 sc_6.n rfl rfl rfl (by omega) (t_6k (z := 0) hS (by omega) (by omega) (by omega)) ?_
        intro z18 ez18 f19
        refine n_istore (L2 := [some (2, 44), some (2, 4), some (0, 1), some (0, z16), some (0, z18), none]) c_22_34 rfl rfl ?_
        refine n_aload_n c_22_36 rfl ?_
        refine n_getR c_22_37 sc_4.n rfl rfl rfl r_4_4 ?_
        refine n_iload_n c_22_40 rfl ?_
        refine n_ialoadV c_22_41 sc_7.n rfl rfl rfl (by omega) (t_7k (z := 1) hS (by omega) (by omega) (by omega)) ?_
        intro z20 ez20 f21
        refine n_istore (L2 := [some (2, 44), some (2, 4), some (0, 1), some (0, z16), some (0, z18), some (0, z20)]) c_22_42 rfl rfl ?_
        refine n_iload_n c_22_44 rfl ?_
        refine n_iload c_22_45 rfl ?_
        refine n_if2_eq c_22_47 (by omega) (by omega) ?_ ?_
        · intro h22
          refine n_aload_n c_22_56 rfl ?_
          refine n_getR c_22_57 sc_44.n rfl rfl rfl r_44_4 ?_
          refine n_iload_n c_22_60 rfl ?_
          refine n_iload_n c_22_61 rfl ?_
          refine n_iastoreV hS c_22_62 sc_45.n rfl (by omega) (w_45 (by omega) (by omega)) ?_
          intro M23 eM23 hS23
          have g23_0 : M23 44 2 = M 44 2 := by rw [eM23]; exact nu_a (by omega)
          refine n_goto c_22_63 ?_
          refine n_iinc (L2 := [some (2, 44), some (2, 4), some (0, (1 + (-1))), some (0, z16), some (0, z18), some (0, z20)]) c_22_101 rfl rfl rfl ?_
          refine n_goto c_22_104 ?_
          refine n_fg (le_s (le_s (le_s (le_n (le_n (le_n le_0)))))) ?_
          exact ih _ M23 hS23 (by omega) (by omega) (by omega) (by omega) (by omega) (by omega) (by omega) (by omega) (by omega)
        · intro h24
          exfalso; omega
    · skip
      refine n_iload_n c_22_17 rfl ?_
      refine n_if0_lt c_22_18 (by omega) ?_ ?_
      · intro h25
        exfalso; omega
      · intro h26
        refine n_aload_n c_22_21 rfl ?_
        refine n_getR c_22_22 sc_4.n rfl rfl rfl r_4_2 ?_
        refine n_iload_n c_22_25 rfl ?_
        refine n_ialoadV c_22_26 sc_5.n rfl rfl rfl (by omega) (t_5k (z := 0) hS (by omega) (by omega) (by omega)) ?_
        intro z27 ez27 f28
        refine n_istore_n (L2 := [some (2, 44), some (2, 4), some (0, 2), some (0, z27), none, none]) c_22_27 rfl rfl ?_
        refine n_aload_n c_22_28 rfl ?_
        refine n_getR c_22_29 sc_4.n rfl rfl rfl r_4_3 ?_
        refine n_iload_n c_22_32 rfl ?_
        refine n_ialoadV c_22_33 sc_6.n rfl rfl rfl (by omega) (t_6k (z := 0) hS (by omega) (by omega) (by omega)) ?_
        intro z29 ez29 f30
        refine n_istore (L2 := [some (2, 44), some (2, 4), some (0, 2), some (0, z27), some (0, z29), none]) c_22_34 rfl rfl ?_
        refine n_aload_n c_22_36 rfl ?_
        refine n_getR c_22_37 sc_4.n rfl rfl rfl r_4_4 ?_
        refine n_iload_n c_22_40 rfl ?_
        refine n_ialoadV c_22_41 sc_7.n rfl rfl rfl (by omega) (t_7k (z := 2) hS (by omega) (by omega) (by omega)) ?_
        intro z31 ez31 f32
        refine n_istore (L2 := [some (2, 44), some (2, 4), some (0, 2), some (0, z27), some (0, z29), some (0, z31)]) c_22_42 rfl rfl ?_
        refine n_iload_n c_22_44 rfl ?_
        refine n_iload c_22_45 rfl ?_
        refine n_if2_eq c_22_47 (by omega) (by omega) ?_ ?_
        · intro h33
          refine n_aload_n c_22_56 rfl ?_
          refine n_getR c_22_57 sc_44.n rfl rfl rfl r_44_4 ?_
          refine n_iload_n c_22_60 rfl ?_
          refine n_iload_n c_22_61 rfl ?_
          refine n_iastoreV hS c_22_62 sc_45.n rfl (by omega) (w_45 (by omega) (by omega)) ?_
          intro M34 eM34 hS34
          have g34_0 : M34 44 2 = M 44 2 := by rw [eM34]; exact nu_a (by omega)
          refine n_goto c_22_63 ?_
          refine n_iinc (L2 := [some (2, 44), some (2, 4), some (0, (2 + (-1))), some (0, z27), some (0, z29), some (0, z31)]) c_22_101 rfl rfl rfl ?_
          refine n_goto c_22_104 ?_
          refine n_fg (le_s (le_s (le_s (le_n (le_n (le_n le_0)))))) ?_
          exact ih _ M34 hS34 (by omega) (by omega) (by omega) (by omega) (by omega) (by omega) (by omega) (by omega) (by omega)
        · intro h35
          exfalso; omega
    · skip
      refine n_iload_n c_22_17 rfl ?_
      refine n_if0_lt c_22_18 (by omega) ?_ ?_
      · intro h36
        exfalso; omega
      · intro h37
        refine n_aload_n c_22_21 rfl ?_
        refine n_getR c_22_22 sc_4.n rfl rfl rfl r_4_2 ?_
        refine n_iload_n c_22_25 rfl ?_
        refine n_ialoadV c_22_26 sc_5.n rfl rfl rfl (by omega) (t_5k (z := 0) hS (by omega) (by omega) (by omega)) ?_
        intro z38 ez38 f39
        refine n_istore_n (L2 := [some (2, 44), some (2, 4), some (0, 3), some (0, z38), none, none]) c_22_27 rfl rfl ?_
        refine n_aload_n c_22_28 rfl ?_
        refine n_getR c_22_29 sc_4.n rfl rfl rfl r_4_3 ?_
        refine n_iload_n c_22_32 rfl ?_
        refine n_ialoadV c_22_33 sc_6.n rfl rfl rfl (by omega) (t_6k (z := 1) hS (by omega) (by omega) (by omega)) ?_
        intro z40 ez40 f41
        refine n_istore (L2 := [some (2, 44), some (2, 4), some (0, 3), some (0, z38), some (0, z40), none]) c_22_34 rfl rfl ?_
        refine n_aload_n c_22_36 rfl ?_
        refine n_getR c_22_37 sc_4.n rfl rfl rfl r_4_4 ?_
        refine n_iload_n c_22_40 rfl ?_
        refine n_ialoadV c_22_41 sc_7.n rfl rfl rfl (by omega) (t_7k (z := 0) hS (by omega) (by omega) (by omega)) ?_
        intro z42 ez42 f43
        refine n_istore (L2 := [some (2, 44), some (2, 4), some (0, 3), some (0, z38), some (0, z40), some (0, z42)]) c_22_42 rfl rfl ?_
        refine n_iload_n c_22_44 rfl ?_
        refine n_iload c_22_45 rfl ?_
        refine n_if2_eq c_22_47 (by omega) (by omega) ?_ ?_
        · intro h44
          exfalso; omega
        · intro h45
          refine n_iload_n c_22_50 rfl ?_
          refine n_iload c_22_51 rfl ?_
          refine n_if2_ne c_22_53 (by omega) (by omega) ?_ ?_
          · intro h46
            exfalso; omega
          · intro h47
            refine n_aload_n c_22_56 rfl ?_
            refine n_getR c_22_57 sc_44.n rfl rfl rfl r_44_4 ?_
            refine n_iload_n c_22_60 rfl ?_
            refine n_iload_n c_22_61 rfl ?_
            refine n_iastoreV hS c_22_62 sc_45.n rfl (by omega) (w_45 (by omega) (by omega)) ?_
            intro M48 eM48 hS48
            have g48_0 : M48 44 2 = M 44 2 := by rw [eM48]; exact nu_a (by omega)
            refine n_goto c_22_63 ?_
            refine n_iinc (L2 := [some (2, 44), some (2, 4), some (0, (3 + (-1))), some (0, z38), some (0, z40), some (0, z42)]) c_22_101 rfl rfl rfl ?_
            refine n_goto c_22_104 ?_
            refine n_fg (le_s (le_s (le_s (le_n (le_n (le_n le_0)))))) ?_
            exact ih _ M48 hS48 (by omega) (by omega) (by omega) (by omega) (by omega) (by omega) (by omega) (by omega) (by omega)
    · skip
      refine n_iload_n c_22_17 rfl ?_
      refine n_if0_lt c_22_18 (by omega) ?_ ?_
      · intro h49
        exfalso; omega
      · intro h50
        refine n_aload_n c_22_21 rfl ?_
        refine n_getR c_22_22 sc_4.n rfl rfl rfl r_4_2 ?_
        refine n_iload_n c_22_25 rfl ?_
        refine n_ialoadV c_22_26 sc_5.n rfl rfl rfl (by omega) (t_5k (z := 0) hS (by omega) (by omega) (by omega)) ?_
        intro z51 ez51 f52
        refine n_istore_n (L2 := [some (2, 44), some (2, 4), some (0, 4), some (0, z51), none, none]) c_22_27 rfl rfl ?_
        refine n_aload_n c_22_28 rfl ?_
        refine n_getR c_22_29 sc_4.n rfl rfl rfl r_4_3 ?_
        refine n_iload_n c_22_32 rfl ?_
        refine n_ialoadV c_22_33 sc_6.n rfl rfl rfl (by omega) (t_6k (z := 1) hS (by omega) (by omega) (by omega)) ?_
        intro z53 ez53 f54
        refine n_istore (L2 := [some (2, 44), some (2, 4), some (0, 4), some (0, z51), some (0, z53), none]) c_22_34 rfl rfl ?_
        refine n_aload_n c_22_36 rfl ?_
        refine n_getR c_22_37 sc_4.n rfl rfl rfl r_4_4 ?_
        refine n_iload_n c_22_40 rfl ?_
        refine n_ialoadV c_22_41 sc_7.n rfl rfl rfl (by omega) (t_7k (z := 1) hS (by omega) (by omega) (by omega)) ?_
        intro z55 ez55 f56
        refine n_istore (L2 := [some (2, 44), some (2, 4), some (0, 4), some (0, z51), some (0, z53), some (0, z55)]) c_22_42 rfl rfl ?_
        refine n_iload_n c_22_44 rfl ?_
        refine n_iload c_22_45 rfl ?_
        refine n_if2_eq c_22_47 (by omega) (by omega) ?_ ?_
        · intro h57
          exfalso; omega
        · intro h58
          refine n_iload_n c_22_50 rfl ?_
          refine n_iload c_22_51 rfl ?_
          refine n_if2_ne c_22_53 (by omega) (by omega) ?_ ?_
          · intro h59
            refine n_iload c_22_66 rfl ?_
            refine n_iload c_22_68 rfl ?_
            refine n_if2_ne c_22_70 (by omega) (by omega) ?_ ?_
            · intro h60
              exfalso; omega
            · intro h61
              refine n_aload_n c_22_73 rfl ?_
              refine n_getR c_22_74 sc_44.n rfl rfl rfl r_44_4 ?_
              refine n_iload_n c_22_77 rfl ?_
              refine n_iload c_22_78 rfl ?_
              refine n_iastoreV hS c_22_80 sc_45.n rfl (by omega) (w_45 (by omega) (by omega)) ?_
              intro M62 eM62 hS62
              have g62_0 : M62 44 2 = M 44 2 := by rw [eM62]; exact nu_a (by omega)
              refine n_goto c_22_81 ?_
              refine n_iinc (L2 := [some (2, 44), some (2, 4), some (0, (4 + (-1))), some (0, z51), some (0, z53), some (0, z55)]) c_22_101 rfl rfl rfl ?_
              refine n_goto c_22_104 ?_
              refine n_fg (le_s (le_s (le_s (le_n (le_n (le_n le_0)))))) ?_
              exact ih _ M62 hS62 (by omega) (by omega) (by omega) (by omega) (by omega) (by omega) (by omega) (by omega) (by omega)
          · intro h63
            exfalso; omega
    · skip
      refine n_iload_n c_22_17 rfl ?_
      refine n_if0_lt c_22_18 (by omega) ?_ ?_
      · intro h64
        exfalso; omega
      · intro h65
        refine n_aload_n c_22_21 rfl ?_
        refine n_getR c_22_22 sc_4.n rfl rfl rfl r_4_2 ?_
        refine n_iload_n c_22_25 rfl ?_
        refine n_ialoadV c_22_26 sc_5.n rfl rfl rfl (by omega) (t_5k (z := 0) hS (by omega) (by omega) (by omega)) ?_
        intro z66 ez66 f67
        refine n_istore_n (L2 := [some (2, 44), some (2, 4), some (0, 5), some (0, z66), none, none]) c_22_27 rfl rfl ?_
        refine n_aload_n c_22_28 rfl ?_
        refine n_getR c_22_29 sc_4.n rfl rfl rfl r_4_3 ?_
        refine n_iload_n c_22_32 rfl ?_
        refine n_ialoadV c_22_33 sc_6.n rfl rfl rfl (by omega) (t_6k (z := 1) hS (by omega) (by omega) (by omega)) ?_
        intro z68 ez68 f69
        refine n_istore (L2 := [some (2, 44), some (2, 4), some (0, 5), some (0, z66), some (0, z68), none]) c_22_34 rfl rfl ?_
        refine n_aload_n c_22_36 rfl ?_
        refine n_getR c_22_37 sc_4.n rfl rfl rfl r_4_4 ?_
        refine n_iload_n c_22_40 rfl ?_
        refine n_ialoadV c_22_41 sc_7.n rfl rfl rfl (by omega) (t_7k (z := 2) hS (by omega) (by omega) (by omega)) ?_
        intro z70 ez70 f71
        refine n_istore (L2 := [some (2, 44), some (2, 4), some (0, 5), some (0, z66), some (0, z68), some (0, z70)]) c_22_42 rfl rfl ?_
        refine n_iload_n c_22_44 rfl ?_
        refine n_iload c_22_45 rfl ?_
        refine n_if2_eq c_22_47 (by omega) (by omega) ?_ ?_
        · intro h72
          exfalso; omega
        · intro h73
          refine n_iload_n c_22_50 rfl ?_
          refine n_iload c_22_51 rfl ?_
          refine n_if2_ne c_22_53 (by omega) (by omega) ?_ ?_
          · intro h74
            refine n_iload c_22_66 rfl ?_
            refine n_iload c_22_68 rfl ?_
            refine n_if2_ne c_22_70 (by omega) (by omega) ?_ ?_
            · intro h75
              refine n_aload_n c_22_84 rfl ?_
              refine n_getR c_22_85 sc_44.n rfl rfl rfl r_44_4 ?_
              refine n_iload_n c_22_88 rfl ?_
              refine n_aload_n c_22_89 rfl ?_
              refine n_dup2 c_22_90 ?_
              refine n_getV (bi := 2) c_22_91 sc_44.n rfl rfl rfl (t_44_2 hS) ?_
              intro z76 ez76 f77
              refine n_dup_x102 c_22_94 ?_
              refine n_iconst c_22_95 ?_
              refine n_iadd c_22_96 rfl ?_
              refine n_putV (bi := 2) hS c_22_97 sc_44.n rfl rfl rfl rfl (w_44_2 (by omega)) ?_
              intro M78 eM78 hS78
              have g78_0 : M78 44 2 = (z76 + 1) := by rw [eM78]; exact nu_s _ _ _ _
              refine n_iastoreV hS78 c_22_100 sc_45.n rfl (by omega) (w_45 (by omega) (by omega)) ?_
              intro M79 eM79 hS79
              have g79_0 : M79 44 2 = M78 44 2 := by rw [eM79]; exact nu_a (by omega)
              refine n_iinc (L2 := [some (2, 44), some (2, 4), some (0, (5 + (-1))), some (0, z66), some (0, z68), some (0, z70)]) c_22_101 rfl rfl rfl ?_
              refine n_goto c_22_104 ?_
              refine n_fg (le_s (le_s (le_s (le_n (le_n (le_n le_0)))))) ?_
              exact ih _ M79 hS79 (by omega) (by omega) (by omega) (by omega) (by omega) (by omega) (by omega) (by omega) (by omega)
            · intro h80
              exfalso; omega
          · intro h81
            exfalso; omega
    · skip
      refine n_iload_n c_22_17 rfl ?_
      refine n_if0_lt c_22_18 (by omega) ?_ ?_
      · intro h82
        exfalso; omega
      · intro h83
        refine n_aload_n c_22_21 rfl ?_
        refine n_getR c_22_22 sc_4.n rfl rfl rfl r_4_2 ?_
        refine n_iload_n c_22_25 rfl ?_
        refine n_ialoadV c_22_26 sc_5.n rfl rfl rfl (by omega) (t_5k (z := 0) hS (by omega) (by omega) (by omega)) ?_
        intro z84 ez84 f85
        refine n_istore_n (L2 := [some (2, 44), some (2, 4), some (0, 6), some (0, z84), none, none]) c_22_27 rfl rfl ?_
        refine n_aload_n c_22_28 rfl ?_
        refine n_getR c_22_29 sc_4.n rfl rfl rfl r_4_3 ?_
        refine n_iload_n c_22_32 rfl ?_
        refine n_ialoadV c_22_33 sc_6.n rfl rfl rfl (by omega) (t_6k (z := 2) hS (by omega) (by omega) (by omega)) ?_
        intro z86 ez86 f87
        refine n_istore (L2 := [some (2, 44), some (2, 4), some (0, 6), some (0, z84), some (0, z86), none]) c_22_34 rfl rfl ?_
        refine n_aload_n c_22_36 rfl ?_
        refine n_getR c_22_37 sc_4.n rfl rfl rfl r_4_4 ?_
        refine n_iload_n c_22_40 rfl ?_
        refine n_ialoadV c_22_41 sc_7.n rfl rfl rfl (by omega) (t_7k (z := 0) hS (by omega) (by omega) (by omega)) ?_
        intro z88 ez88 f89
        refine n_istore (L2 := [some (2, 44), some (2, 4), some (0, 6), some (0, z84), some (0, z86), some (0, z88)]) c_22_42 rfl rfl ?_
        refine n_iload_n c_22_44 rfl ?_
        refine n_iload c_22_45 rfl ?_
        refine n_if2_eq c_22_47 (by omega) (by omega) ?_ ?_
        · intro h90
          exfalso; omega
        · intro h91
          refine n_iload_n c_22_50 rfl ?_
          refine n_iload c_22_51 rfl ?_
          refine n_if2_ne c_22_53 (by omega) (by omega) ?_ ?_
          · intro h92
            exfalso; omega
          · intro h93
            refine n_aload_n c_22_56 rfl ?_
            refine n_getR c_22_57 sc_44.n rfl rfl rfl r_44_4 ?_
            refine n_iload_n c_22_60 rfl ?_
            refine n_iload_n c_22_61 rfl ?_
            refine n_iastoreV hS c_22_62 sc_45.n rfl (by omega) (w_45 (by omega) (by omega)) ?_
            intro M94 eM94 hS94
            have g94_0 : M94 44 2 = M 44 2 := by rw [eM94]; exact nu_a (by omega)
            refine n_goto c_22_63 ?_
            refine n_iinc (L2 := [some (2, 44), some (2, 4), some (0, (6 + (-1))), some (0, z84), some (0, z86), some (0, z88)]) c_22_101 rfl rfl rfl ?_
            refine n_goto c_22_104 ?_
            refine n_fg (le_s (le_s (le_s (le_n (le_n (le_n le_0)))))) ?_
            exact ih _ M94 hS94 (by omega) (by omega) (by omega) (by omega) (by omega) (by omega) (by omega) (by omega) (by omega)
    · skip
      refine n_iload_n c_22_17 rfl ?_
      refine n_if0_lt c_22_18 (by omega) ?_ ?_
      · intro h95
        exfalso; omega
      · intro h96
        refine n_aload_n c_22_21 rfl ?_
        refine n_getR c_22_22 sc_4.n rfl rfl rfl r_4_2 ?_
        refine n_iload_n c_22_25 rfl ?_
        refine n_ialoadV c_22_26 sc_5.n rfl rfl rfl (by omega) (t_5k (z := 0) hS (by omega) (by omega) (by omega)) ?_
        intro z97 ez97 f98
        refine n_istore_n (L2 := [some (2, 44), some (2, 4), some (0, 7), some (0, z97), none, none]) c_22_27 rfl rfl ?_
        refine n_aload_n c_22_28 rfl ?_
        refine n_getR c_22_29 sc_4.n rfl rfl rfl r_4_3 ?_
        refine n_iload_n c_22_32 rfl ?_
        refine n_ialoadV c_22_33 sc_6.n rfl rfl rfl (by omega) (t_6k (z := 2) hS (by omega) (by omega) (by omega)) ?_
        intro z99 ez99 f100
        refine n_istore (L2 := [some (2, 44), some (2, 4), some (0, 7), some (0, z97), some (0, z99), none]) c_22_34 rfl rfl ?_
        refine n_aload_n c_22_36 rfl ?_
        refine n_getR c_22_37 sc_4.n rfl rfl rfl r_4_4 ?_
        refine n_iload_n c_22_40 rfl ?_
        refine n_ialoadV c_22_41 sc_7.n rfl rfl rfl (by omega) (t_7k (z := 1) hS (by omega) (by omega) (by omega)) ?_
        intro z101 ez101 f102
        refine n_istore (L2 := [some (2, 44), some (2, 4), some (0, 7), some (0, z97), some (0, z99), some (0, z101)]) c_22_42 rfl rfl ?_
        refine n_iload_n c_22_44 rfl ?_
        refine n_iload c_22_45 rfl ?_
        refine n_if2_eq c_22_47 (by omega) (by omega) ?_ ?_
        · intro h103
          exfalso; omega
        · intro h104
          refine n_iload_n c_22_50 rfl ?_
          refine n_iload c_22_51 rfl ?_
          refine n_if2_ne c_22_53 (by omega) (by omega) ?_ ?_
          · intro h105
            refine n_iload c_22_66 rfl ?_
            refine n_iload c_22_68 rfl ?_
            refine n_if2_ne c_22_70 (by omega) (by omega) ?_ ?_
            · intro h106
              refine n_aload_n c_22_84 rfl ?_
              refine n_getR c_22_85 sc_44.n rfl rfl rfl r_44_4 ?_
              refine n_iload_n c_22_88 rfl ?_
              refine n_aload_n c_22_89 rfl ?_
              refine n_dup2 c_22_90 ?_
              refine n_getV (bi := 2) c_22_91 sc_44.n rfl rfl rfl (t_44_2 hS) ?_
              intro z107 ez107 f108
              refine n_dup_x102 c_22_94 ?_
              refine n_iconst c_22_95 ?_
              refine n_iadd c_22_96 rfl ?_
              refine n_putV (bi := 2) hS c_22_97 sc_44.n rfl rfl rfl rfl (w_44_2 (by omega)) ?_
              intro M109 eM109 hS109
              have g109_0 : M109 44 2 = (z107 + 1) := by rw [eM109]; exact nu_s _ _ _ _
              refine n_iastoreV hS109 c_22_100 sc_45.n rfl (by omega) (w_45 (by omega) (by omega)) ?_
              intro M110 eM110 hS110
              have g110_0 : M110 44 2 = M109 44 2 := by rw [eM110]; exact nu_a (by omega)
              refine n_iinc (L2 := [some (2, 44), some (2, 4), some (0, (7 + (-1))), some (0, z97), some (0, z99), some (0, z101)]) c_22_101 rfl rfl rfl ?_
              refine n_goto c_22_104 ?_
              refine n_fg (le_s (le_s (le_s (le_n (le_n (le_n le_0)))))) ?_
              exact ih _ M110 hS110 (by omega) (by omega) (by omega) (by omega) (by omega) (by omega) (by omega) (by omega) (by omega)
            · intro h111
              exfalso; omega
          · intro h112
            exfalso; omega
    · skip
      refine n_iload_n c_22_17 rfl ?_
      refine n_if0_lt c_22_18 (by omega) ?_ ?_
      · intro h113
        exfalso; omega
      · intro h114
        refine n_aload_n c_22_21 rfl ?_
        refine n_getR c_22_22 sc_4.n rfl rfl rfl r_4_2 ?_
        refine n_iload_n c_22_25 rfl ?_
        refine n_ialoadV c_22_26 sc_5.n rfl rfl rfl (by omega) (t_5k (z := 0) hS (by omega) (by omega) (by omega)) ?_
        intro z115 ez115 f116
        refine n_istore_n (L2 := [some (2, 44), some (2, 4), some (0, 8), some (0, z115), none, none]) c_22_27 rfl rfl ?_
        refine n_aload_n c_22_28 rfl ?_
        refine n_getR c_22_29 sc_4.n rfl rfl rfl r_4_3 ?_
        refine n_iload_n c_22_32 rfl ?_
        refine n_ialoadV c_22_33 sc_6.n rfl rfl rfl (by omega) (t_6k (z := 2) hS (by omega) (by omega) (by omega)) ?_
        intro z117 ez117 f118
        refine n_istore (L2 := [some (2, 44), some (2, 4), some (0, 8), some (0, z115), some (0, z117), none]) c_22_34 rfl rfl ?_
        refine n_aload_n c_22_36 rfl ?_
        refine n_getR c_22_37 sc_4.n rfl rfl rfl r_4_4 ?_
        refine n_iload_n c_22_40 rfl ?_
        refine n_ialoadV c_22_41 sc_7.n rfl rfl rfl (by omega) (t_7k (z := 2) hS (by omega) (by omega) (by omega)) ?_
        intro z119 ez119 f120
        refine n_istore (L2 := [some (2, 44), some (2, 4), some (0, 8), some (0, z115), some (0, z117), some (0, z119)]) c_22_42 rfl rfl ?_
        refine n_iload_n c_22_44 rfl ?_
        refine n_iload c_22_45 rfl ?_
        refine n_if2_eq c_22_47 (by omega) (by omega) ?_ ?_
        · intro h121
          exfalso; omega
        · intro h122
          refine n_iload_n c_22_50 rfl ?_
          refine n_iload c_22_51 rfl ?_
          refine n_if2_ne c_22_53 (by omega) (by omega) ?_ ?_
          · intro h123
            refine n_iload c_22_66 rfl ?_
            refine n_iload c_22_68 rfl ?_
            refine n_if2_ne c_22_70 (by omega) (by omega) ?_ ?_
            · intro h124
              exfalso; omega
            · intro h125
              refine n_aload_n c_22_73 rfl ?_
              refine n_getR c_22_74 sc_44.n rfl rfl rfl r_44_4 ?_
              refine n_iload_n c_22_77 rfl ?_
              refine n_iload c_22_78 rfl ?_
              refine n_iastoreV hS c_22_80 sc_45.n rfl (by omega) (w_45 (by omega) (by omega)) ?_
              intro M126 eM126 hS126
              have g126_0 : M126 44 2 = M 44 2 := by rw [eM126]; exact nu_a (by omega)
              refine n_goto c_22_81 ?_
              refine n_iinc (L2 := [some (2, 44), some (2, 4), some (0, (8 + (-1))), some (0, z115), some (0, z117), some (0, z119)]) c_22_101 rfl rfl rfl ?_
              refine n_goto c_22_104 ?_
              refine n_fg (le_s (le_s (le_s (le_n (le_n (le_n le_0)))))) ?_
              exact ih _ M126 hS126 (by omega) (by omega) (by omega) (by omega) (by omega) (by omega) (by omega) (by omega) (by omega)
          · intro h127
            exfalso; omega
    · skip
      refine n_iload_n c_22_17 rfl ?_
      refine n_if0_lt c_22_18 (by omega) ?_ ?_
      · intro h128
        exfalso; omega
      · intro h129
        refine n_aload_n c_22_21 rfl ?_
        refine n_getR c_22_22 sc_4.n rfl rfl rfl r_4_2 ?_
        refine n_iload_n c_22_25 rfl ?_
        refine n_ialoadV c_22_26 sc_5.n rfl rfl rfl (by omega) (t_5k (z := 1) hS (by omega) (by omega) (by omega)) ?_
        intro z130 ez130 f131
        refine n_istore_n (L2 := [some (2, 44), some (2, 4), some (0, 9), some (0, z130), none, none]) c_22_27 rfl rfl ?_
        refine n_aload_n c_22_28 rfl ?_
        refine n_getR c_22_29 sc_4.n rfl rfl rfl r_4_3 ?_
        refine n_iload_n c_22_32 rfl ?_
        refine n_ialoadV c_22_33 sc_6.n rfl rfl rfl (by omega) (t_6k (z := 0) hS (by omega) (by omega) (by omega)) ?_
        intro z132 ez132 f133
        refine n_istore (L2 := [some (2, 44), some (2, 4), some (0, 9), some (0, z130), some (0, z132), none]) c_22_34 rfl rfl ?_
        refine n_aload_n c_22_36 rfl ?_
        refine n_getR c_22_37 sc_4.n rfl rfl rfl r_4_4 ?_
        refine n_iload_n c_22_40 rfl ?_
        refine n_ialoadV c_22_41 sc_7.n rfl rfl rfl (by omega) (t_7k (z := 0) hS (by omega) (by omega) (by omega)) ?_
        intro z134 ez134 f135
        refine n_istore (L2 := [some (2, 44), some (2, 4), some (0, 9), some (0, z130), some (0, z132), some (0, z134)]) c_22_42 rfl rfl ?_
        refine n_iload_n c_22_44 rfl ?_
        refine n_iload c_22_45 rfl ?_
        refine n_if2_eq c_22_47 (by omega) (by omega) ?_ ?_
        · intro h136
          exfalso; omega
        · intro h137
          refine n_iload_n c_22_50 rfl ?_
          refine n_iload c_22_51 rfl ?_
          refine n_if2_ne c_22_53 (by omega) (by omega) ?_ ?_
          · intro h138
            refine n_iload c_22_66 rfl ?_
            refine n_iload c_22_68 rfl ?_
            refine n_if2_ne c_22_70 (by omega) (by omega) ?_ ?_
            · intro h139
              exfalso; omega
            · intro h140
              refine n_aload_n c_22_73 rfl ?_
              refine n_getR c_22_74 sc_44.n rfl rfl rfl r_44_4 ?_
              refine n_iload_n c_22_77 rfl ?_
              refine n_iload c_22_78 rfl ?_
              refine n_iastoreV hS c_22_80 sc_45.n rfl (by omega) (w_45 (by omega) (by omega)) ?_
              intro M141 eM141 hS141
              have g141_0 : M141 44 2 = M 44 2 := by rw [eM141]; exact nu_a (by omega)
              refine n_goto c_22_81 ?_
              refine n_iinc (L2 := [some (2, 44), some (2, 4), some (0, (9 + (-1))), some (0, z130), some (0, z132), some (0, z134)]) c_22_101 rfl rfl rfl ?_
              refine n_goto c_22_104 ?_
              refine n_fg (le_s (le_s (le_s (le_n (le_n (le_n le_0)))))) ?_
              exact ih _ M141 hS141 (by omega) (by omega) (by omega) (by omega) (by omega) (by omega) (by omega) (by omega) (by omega)
          · intro h142
            exfalso; omega
    · skip
      refine n_iload_n c_22_17 rfl ?_
      refine n_if0_lt c_22_18 (by omega) ?_ ?_
      · intro h143
        exfalso; omega
      · intro h144
        refine n_aload_n c_22_21 rfl ?_
        refine n_getR c_22_22 sc_4.n rfl rfl rfl r_4_2 ?_
        refine n_iload_n c_22_25 rfl ?_
        refine n_ialoadV c_22_26 sc_5.n rfl rfl rfl (by omega) (t_5k (z := 1) hS (by omega) (by omega) (by omega)) ?_
        intro z145 ez145 f146
        refine n_istore_n (L2 := [some (2, 44), some (2, 4), some (0, 10), some (0, z145), none, none]) c_22_27 rfl rfl ?_
        refine n_aload_n c_22_28 rfl ?_
        refine n_getR c_22_29 sc_4.n rfl rfl rfl r_4_3 ?_
        refine n_iload_n c_22_32 rfl ?_
        refine n_ialoadV c_22_33 sc_6.n rfl rfl rfl (by omega) (t_6k (z := 0) hS (by omega) (by omega) (by omega)) ?_
        intro z147 ez147 f148
        refine n_istore (L2 := [some (2, 44), some (2, 4), some (0, 10), some (0, z145), some (0, z147), none]) c_22_34 rfl rfl ?_
        refine n_aload_n c_22_36 rfl ?_
        refine n_getR c_22_37 sc_4.n rfl rfl rfl r_4_4 ?_
        refine n_iload_n c_22_40 rfl ?_
        refine n_ialoadV c_22_41 sc_7.n rfl rfl rfl (by omega) (t_7k (z := 1) hS (by omega) (by omega) (by omega)) ?_
        intro z149 ez149 f150
        refine n_istore (L2 := [some (2, 44), some (2, 4), some (0, 10), some (0, z145), some (0, z147), some (0, z149)]) c_22_42 rfl rfl ?_
        refine n_iload_n c_22_44 rfl ?_
        refine n_iload c_22_45 rfl ?_
        refine n_if2_eq c_22_47 (by omega) (by omega) ?_ ?_
        · intro h151
          exfalso; omega
        · intro h152
          refine n_iload_n c_22_50 rfl ?_
          refine n_iload c_22_51 rfl ?_
          refine n_if2_ne c_22_53 (by omega) (by omega) ?_ ?_
          · intro h153
            exfalso; omega
          · intro h154
            refine n_aload_n c_22_56 rfl ?_
            refine n_getR c_22_57 sc_44.n rfl rfl rfl r_44_4 ?_
            refine n_iload_n c_22_60 rfl ?_
            refine n_iload_n c_22_61 rfl ?_
            refine n_iastoreV hS c_22_62 sc_45.n rfl (by omega) (w_45 (by omega) (by omega)) ?_
            intro M155 eM155 hS155
            have g155_0 : M155 44 2 = M 44 2 := by rw [eM155]; exact nu_a (by omega)
            refine n_goto c_22_63 ?_
            refine n_iinc (L2 := [some (2, 44), some (2, 4), some (0, (10 + (-1))), some (0, z145), some (0, z147), some (0, z149)]) c_22_101 rfl rfl rfl ?_
            refine n_goto c_22_104 ?_
            refine n_fg (le_s (le_s (le_s (le_n (le_n (le_n le_0)))))) ?_
            exact ih _ M155 hS155 (by omega) (by omega) (by omega) (by omega) (by omega) (by omega) (by omega) (by omega) (by omega)
    · skip
      refine n_iload_n c_22_17 rfl ?_
      refine n_if0_lt c_22_18 (by omega) ?_ ?_
      · intro h156
        exfalso; omega
      · intro h157
        refine n_aload_n c_22_21 rfl ?_
        refine n_getR c_22_22 sc_4.n rfl rfl rfl r_4_2 ?_
        refine n_iload_n c_22_25 rfl ?_
        refine n_ialoadV c_22_26 sc_5.n rfl rfl rfl (by omega) (t_5k (z := 1) hS (by omega) (by omega) (by omega)) ?_
        intro z158 ez158 f159
        refine n_istore_n (L2 := [some (2, 44), some (2, 4), some (0, 11), some (0, z158), none, none]) c_22_27 rfl rfl ?_
        refine n_aload_n c_22_28 rfl ?_
        refine n_getR c_22_29 sc_4.n rfl rfl rfl r_4_3 ?_
        refine n_iload_n c_22_32 rfl ?_
        refine n_ialoadV c_22_33 sc_6.n rfl rfl rfl (by omega) (t_6k (z := 0) hS (by omega) (by omega) (by omega)) ?_
        intro z160 ez160 f161
        refine n_istore (L2 := [some (2, 44), some (2, 4), some (0, 11), some (0, z158), some (0, z160), none]) c_22_34 rfl rfl ?_
        refine n_aload_n c_22_36 rfl ?_
        refine n_getR c_22_37 sc_4.n rfl rfl rfl r_4_4 ?_
        refine n_iload_n c_22_40 rfl ?_
        refine n_ialoadV c_22_41 sc_7.n rfl rfl rfl (by omega) (t_7k (z := 2) hS (by omega) (by omega) (by omega)) ?_
        intro z162 ez162 f163
        refine n_istore (L2 := [some (2, 44), some (2, 4), some (0, 11), some (0, z158), some (0, z160), some (0, z162)]) c_22_42 rfl rfl ?_
        refine n_iload_n c_22_44 rfl ?_
        refine n_iload c_22_45 rfl ?_
        refine n_if2_eq c_22_47 (by omega) (by omega) ?_ ?_
        · intro h164
          exfalso; omega
        · intro h165
          refine n_iload_n c_22_50 rfl ?_
          refine n_iload c_22_51 rfl ?_
          refine n_if2_ne c_22_53 (by omega) (by omega) ?_ ?_
          · intro h166
            refine n_iload c_22_66 rfl ?_
            refine n_iload c_22_68 rfl ?_
            refine n_if2_ne c_22_70 (by omega) (by omega) ?_ ?_
            · intro h167
              refine n_aload_n c_22_84 rfl ?_
              refine n_getR c_22_85 sc_44.n rfl rfl rfl r_44_4 ?_
              refine n_iload_n c_22_88 rfl ?_
              refine n_aload_n c_22_89 rfl ?_
              refine n_dup2 c_22_90 ?_
              refine n_getV (bi := 2) c_22_91 sc_44.n rfl rfl rfl (t_44_2 hS) ?_
              intro z168 ez168 f169
              refine n_dup_x102 c_22_94 ?_
              refine n_iconst c_22_95 ?_
              refine n_iadd c_22_96 rfl ?_
              refine n_putV (bi := 2) hS c_22_97 sc_44.n rfl rfl rfl rfl (w_44_2 (by omega)) ?_
              intro M170 eM170 hS170
              have g170_0 : M170 44 2 = (z168 + 1) := by rw [eM170]; exact nu_s _ _ _ _
              refine n_iastoreV hS170 c_22_100 sc_45.n rfl (by omega) (w_45 (by omega) (by omega)) ?_
              intro M171 eM171 hS171
              have g171_0 : M171 44 2 = M170 44 2 := by rw [eM171]; exact nu_a (by omega)
              refine n_iinc (L2 := [some (2, 44), some (2, 4), some (0, (11 + (-1))), some (0, z158), some (0, z160), some (0, z162)]) c_22_101 rfl rfl rfl ?_
              refine n_goto c_22_104 ?_
              refine n_fg (le_s (le_s (le_s (le_n (le_n (le_n le_0)))))) ?_
              exact ih _ M171 hS171 (by omega) (by omega) (by omega) (by omega) (by omega) (by omega) (by omega) (by omega) (by omega)
            · intro h172
              exfalso; omega
          · intro h173
            exfalso; omega
    · skip
      refine n_iload_n c_22_17 rfl ?_
      refine n_if0_lt c_22_18 (by omega) ?_ ?_
      · intro h174
        exfalso; omega
      · intro h175
        refine n_aload_n c_22_21 rfl ?_
        refine n_getR c_22_22 sc_4.n rfl rfl rfl r_4_2 ?_
        refine n_iload_n c_22_25 rfl ?_
        refine n_ialoadV c_22_26 sc_5.n rfl rfl rfl (by omega) (t_5k (z := 1) hS (by omega) (by omega) (by omega)) ?_
        intro z176 ez176 f177
        refine n_istore_n (L2 := [some (2, 44), some (2, 4), some (0, 12), some (0, z176), none, none]) c_22_27 rfl rfl ?_
        refine n_aload_n c_22_28 rfl ?_
        refine n_getR c_22_29 sc_4.n rfl rfl rfl r_4_3 ?_
        refine n_iload_n c_22_32 rfl ?_
        refine n_ialoadV c_22_33 sc_6.n rfl rfl rfl (by omega) (t_6k (z := 1) hS (by omega) (by omega) (by omega)) ?_
        intro z178 ez178 f179
        refine n_istore (L2 := [some (2, 44), some (2, 4), some (0, 12), some (0, z176), some (0, z178), none]) c_22_34 rfl rfl ?_
        refine n_aload_n c_22_36 rfl ?_
        refine n_getR c_22_37 sc_4.n rfl rfl rfl r_4_4 ?_
        refine n_iload_n c_22_40 rfl ?_
        refine n_ialoadV c_22_41 sc_7.n rfl rfl rfl (by omega) (t_7k (z := 0) hS (by omega) (by omega) (by omega)) ?_
        intro z180 ez180 f181
        refine n_istore (L2 := [some (2, 44), some (2, 4), some (0, 12), some (0, z176), some (0, z178), some (0, z180)]) c_22_42 rfl rfl ?_
        refine n_iload_n c_22_44 rfl ?_
        refine n_iload c_22_45 rfl ?_
        refine n_if2_eq c_22_47 (by omega) (by omega) ?_ ?_
        · intro h182
          refine n_aload_n c_22_56 rfl ?_
          refine n_getR c_22_57 sc_44.n rfl rfl rfl r_44_4 ?_
          refine n_iload_n c_22_60 rfl ?_
          refine n_iload_n c_22_61 rfl ?_
          refine n_iastoreV hS c_22_62 sc_45.n rfl (by omega) (w_45 (by omega) (by omega)) ?_
          intro M183 eM183 hS183
          have g183_0 : M183 44 2 = M 44 2 := by rw [eM183]; exact nu_a (by omega)
          refine n_goto c_22_63 ?_
          refine n_iinc (L2 := [some (2, 44), some (2, 4), some (0, (12 + (-1))), some (0, z176), some (0, z178), some (0, z180)]) c_22_101 rfl rfl rfl ?_
          refine n_goto c_22_104 ?_
          refine n_fg (le_s (le_s (le_s (le_n (le_n (le_n le_0)))))) ?_
          exact ih _ M183 hS183 (by omega) (by omega) (by omega) (by omega) (by omega) (by omega) (by omega) (by omega) (by omega)
        · intro h184
          exfalso; omega
    · skip
      refine n_iload_n c_22_17 rfl ?_
      refine n_if0_lt c_22_18 (by omega) ?_ ?_
      · intro h185
        exfalso; omega
      · intro h186
        refine n_aload_n c_22_21 rfl ?_
        refine n_getR c_22_22 sc_4.n rfl rfl rfl r_4_2 ?_
        refine n_iload_n c_22_25 rfl ?_
        refine n_ialoadV c_22_26 sc_5.n rfl rfl rfl (by omega) (t_5k (z := 1) hS (by omega) (by omega) (by omega)) ?_
        intro z187 ez187 f188
        refine n_istore_n (L2 := [some (2, 44), some (2, 4), some (0, 13), some (0, z187), none, none]) c_22_27 rfl rfl ?_
        refine n_aload_n c_22_28 rfl ?_
        refine n_getR c_22_29 sc_4.n rfl rfl rfl r_4_3 ?_
        refine n_iload_n c_22_32 rfl ?_
        refine n_ialoadV c_22_33 sc_6.n rfl rfl rfl (by omega) (t_6k (z := 1) hS (by omega) (by omega) (by omega)) ?_
        intro z189 ez189 f190
        refine n_istore (L2 := [some (2, 44), some (2, 4), some (0, 13), some (0, z187), some (0, z189), none]) c_22_34 rfl rfl ?_
        refine n_aload_n c_22_36 rfl ?_
        refine n_getR c_22_37 sc_4.n rfl rfl rfl r_4_4 ?_
        refine n_iload_n c_22_40 rfl ?_
        refine n_ialoadV c_22_41 sc_7.n rfl rfl rfl (by omega) (t_7k (z := 1) hS (by omega) (by omega) (by omega)) ?_
        intro z191 ez191 f192
        refine n_istore (L2 := [some (2, 44), some (2, 4), some (0, 13), some (0, z187), some (0, z189), some (0, z191)]) c_22_42 rfl rfl ?_
        refine n_iload_n c_22_44 rfl ?_
        refine n_iload c_22_45 rfl ?_
        refine n_if2_eq c_22_47 (by omega) (by omega) ?_ ?_
        · intro h193
          refine n_aload_n c_22_56 rfl ?_
          refine n_getR c_22_57 sc_44.n rfl rfl rfl r_44_4 ?_
          refine n_iload_n c_22_60 rfl ?_
          refine n_iload_n c_22_61 rfl ?_
          refine n_iastoreV hS c_22_62 sc_45.n rfl (by omega) (w_45 (by omega) (by omega)) ?_
          intro M194 eM194 hS194
          have g194_0 : M194 44 2 = M 44 2 := by rw [eM194]; exact nu_a (by omega)
          refine n_goto c_22_63 ?_
          refine n_iinc (L2 := [some (2, 44), some (2, 4), some (0, (13 + (-1))), some (0, z187), some (0, z189), some (0, z191)]) c_22_101 rfl rfl rfl ?_
          refine n_goto c_22_104 ?_
          refine n_fg (le_s (le_s (le_s (le_n (le_n (le_n le_0)))))) ?_
          exact ih _ M194 hS194 (by omega) (by omega) (by omega) (by omega) (by omega) (by omega) (by omega) (by omega) (by omega)
        · intro h195
          exfalso; omega
    · skip
      refine n_iload_n c_22_17 rfl ?_
      refine n_if0_lt c_22_18 (by omega) ?_ ?_
      · intro h196
        exfalso; omega
      · intro h197
        refine n_aload_n c_22_21 rfl ?_
        refine n_getR c_22_22 sc_4.n rfl rfl rfl r_4_2 ?_
        refine n_iload_n c_22_25 rfl ?_
        refine n_ialoadV c_22_26 sc_5.n rfl rfl rfl (by omega) (t_5k (z := 1) hS (by omega) (by omega) (by omega)) ?_
        intro z198 ez198 f199
        refine n_istore_n (L2 := [some (2, 44), some (2, 4), some (0, 14), some (0, z198), none, none]) c_22_27 rfl rfl ?_
        refine n_aload_n c_22_28 rfl ?_
        refine n_getR c_22_29 sc_4.n rfl rfl rfl r_4_3 ?_
        refine n_iload_n c_22_32 rfl ?_
        refine n_ialoadV c_22_33 sc_6.n rfl rfl rfl (by omega) (t_6k (z := 1) hS (by omega) (by omega) (by omega)) ?_
        intro z200 ez200 f201
        refine n_istore (L2 := [some (2, 44), some (2, 4), some (0, 14), some (0, z198), some (0, z200), none]) c_22_34 rfl rfl ?_
        refine n_aload_n c_22_36 rfl ?_
        refine n_getR c_22_37 sc_4.n rfl rfl rfl r_4_4 ?_
        refine n_iload_n c_22_40 rfl ?_
        refine n_ialoadV c_22_41 sc_7.n rfl rfl rfl (by omega) (t_7k (z := 2) hS (by omega) (by omega) (by omega)) ?_
        intro z202 ez202 f203
        refine n_istore (L2 := [some (2, 44), some (2, 4), some (0, 14), some (0, z198), some (0, z200), some (0, z202)]) c_22_42 rfl rfl ?_
        refine n_iload_n c_22_44 rfl ?_
        refine n_iload c_22_45 rfl ?_
        refine n_if2_eq c_22_47 (by omega) (by omega) ?_ ?_
        · intro h204
          refine n_aload_n c_22_56 rfl ?_
          refine n_getR c_22_57 sc_44.n rfl rfl rfl r_44_4 ?_
          refine n_iload_n c_22_60 rfl ?_
          refine n_iload_n c_22_61 rfl ?_
          refine n_iastoreV hS c_22_62 sc_45.n rfl (by omega) (w_45 (by omega) (by omega)) ?_
          intro M205 eM205 hS205
          have g205_0 : M205 44 2 = M 44 2 := by rw [eM205]; exact nu_a (by omega)
          refine n_goto c_22_63 ?_
          refine n_iinc (L2 := [some (2, 44), some (2, 4), some (0, (14 + (-1))), some (0, z198), some (0, z200), some (0, z202)]) c_22_101 rfl rfl rfl ?_
          refine n_goto c_22_104 ?_
          refine n_fg (le_s (le_s (le_s (le_n (le_n (le_n le_0)))))) ?_
          exact ih _ M205 hS205 (by omega) (by omega) (by omega) (by omega) (by omega) (by omega) (by omega) (by omega) (by omega)
        · intro h206
          exfalso; omega
    · skip
      refine n_iload_n c_22_17 rfl ?_
      refine n_if0_lt c_22_18 (by omega) ?_ ?_
      · intro h207
        exfalso; omega
      · intro h208
        refine n_aload_n c_22_21 rfl ?_
        refine n_getR c_22_22 sc_4.n rfl rfl rfl r_4_2 ?_
        refine n_iload_n c_22_25 rfl ?_
        refine n_ialoadV c_22_26 sc_5.n rfl rfl rfl (by omega) (t_5k (z := 1) hS (by omega) (by omega) (by omega)) ?_
        intro z209 ez209 f210
        refine n_istore_n (L2 := [some (2, 44), some (2, 4), some (0, 15), some (0, z209), none, none]) c_22_27 rfl rfl ?_
        refine n_aload_n c_22_28 rfl ?_
        refine n_getR c_22_29 sc_4.n rfl rfl rfl r_4_3 ?_
        refine n_iload_n c_22_32 rfl ?_
        refine n_ialoadV c_22_33 sc_6.n rfl rfl rfl (by omega) (t_6k (z := 2) hS (by omega) (by omega) (by omega)) ?_
        intro z211 ez211 f212
        refine n_istore (L2 := [some (2, 44), some (2, 4), some (0, 15), some (0, z209), some (0, z211), none]) c_22_34 rfl rfl ?_
        refine n_aload_n c_22_36 rfl ?_
        refine n_getR c_22_37 sc_4.n rfl rfl rfl r_4_4 ?_
        refine n_iload_n c_22_40 rfl ?_
        refine n_ialoadV c_22_41 sc_7.n rfl rfl rfl (by omega) (t_7k (z := 0) hS (by omega) (by omega) (by omega)) ?_
        intro z213 ez213 f214
        refine n_istore (L2 := [some (2, 44), some (2, 4), some (0, 15), some (0, z209), some (0, z211), some (0, z213)]) c_22_42 rfl rfl ?_
        refine n_iload_n c_22_44 rfl ?_
        refine n_iload c_22_45 rfl ?_
        refine n_if2_eq c_22_47 (by omega) (by omega) ?_ ?_
        · intro h215
          exfalso; omega
        · intro h216
          refine n_iload_n c_22_50 rfl ?_
          refine n_iload c_22_51 rfl ?_
          refine n_if2_ne c_22_53 (by omega) (by omega) ?_ ?_
          · intro h217
            refine n_iload c_22_66 rfl ?_
            refine n_iload c_22_68 rfl ?_
            refine n_if2_ne c_22_70 (by omega) (by omega) ?_ ?_
            · intro h218
              refine n_aload_n c_22_84 rfl ?_
              refine n_getR c_22_85 sc_44.n rfl rfl rfl r_44_4 ?_
              refine n_iload_n c_22_88 rfl ?_
              refine n_aload_n c_22_89 rfl ?_
              refine n_dup2 c_22_90 ?_
              refine n_getV (bi := 2) c_22_91 sc_44.n rfl rfl rfl (t_44_2 hS) ?_
              intro z219 ez219 f220
              refine n_dup_x102 c_22_94 ?_
              refine n_iconst c_22_95 ?_
              refine n_iadd c_22_96 rfl ?_
              refine n_putV (bi := 2) hS c_22_97 sc_44.n rfl rfl rfl rfl (w_44_2 (by omega)) ?_
              intro M221 eM221 hS221
              have g221_0 : M221 44 2 = (z219 + 1) := by rw [eM221]; exact nu_s _ _ _ _
              refine n_iastoreV hS221 c_22_100 sc_45.n rfl (by omega) (w_45 (by omega) (by omega)) ?_
              intro M222 eM222 hS222
              have g222_0 : M222 44 2 = M221 44 2 := by rw [eM222]; exact nu_a (by omega)
              refine n_iinc (L2 := [some (2, 44), some (2, 4), some (0, (15 + (-1))), some (0, z209), some (0, z211), some (0, z213)]) c_22_101 rfl rfl rfl ?_
              refine n_goto c_22_104 ?_
              refine n_fg (le_s (le_s (le_s (le_n (le_n (le_n le_0)))))) ?_
              exact ih _ M222 hS222 (by omega) (by omega) (by omega) (by omega) (by omega) (by omega) (by omega) (by omega) (by omega)
            · intro h223
              exfalso; omega
          · intro h224
            exfalso; omega
    · skip
      refine n_iload_n c_22_17 rfl ?_
      refine n_if0_lt c_22_18 (by omega) ?_ ?_
      · intro h225
        exfalso; omega
      · intro h226
        refine n_aload_n c_22_21 rfl ?_
        refine n_getR c_22_22 sc_4.n rfl rfl rfl r_4_2 ?_
        refine n_iload_n c_22_25 rfl ?_
        refine n_ialoadV c_22_26 sc_5.n rfl rfl rfl (by omega) (t_5k (z := 1) hS (by omega) (by omega) (by omega)) ?_
        intro z227 ez227 f228
        refine n_istore_n (L2 := [some (2, 44), some (2, 4), some (0, 16), some (0, z227), none, none]) c_22_27 rfl rfl ?_
        refine n_aload_n c_22_28 rfl ?_
        refine n_getR c_22_29 sc_4.n rfl rfl rfl r_4_3 ?_
        refine n_iload_n c_22_32 rfl ?_
        refine n_ialoadV c_22_33 sc_6.n rfl rfl rfl (by omega) (t_6k (z := 2) hS (by omega) (by omega) (by omega)) ?_
        intro z229 ez229 f230
        refine n_istore (L2 := [some (2, 44), some (2, 4), some (0, 16), some (0, z227), some (0, z229), none]) c_22_34 rfl rfl ?_
        refine n_aload_n c_22_36 rfl ?_
        refine n_getR c_22_37 sc_4.n rfl rfl rfl r_4_4 ?_
        refine n_iload_n c_22_40 rfl ?_
        refine n_ialoadV c_22_41 sc_7.n rfl rfl rfl (by omega) (t_7k (z := 1) hS (by omega) (by omega) (by omega)) ?_
        intro z231 ez231 f232
        refine n_istore (L2 := [some (2, 44), some (2, 4), some (0, 16), some (0, z227), some (0, z229), some (0, z231)]) c_22_42 rfl rfl ?_
        refine n_iload_n c_22_44 rfl ?_
        refine n_iload c_22_45 rfl ?_
        refine n_if2_eq c_22_47 (by omega) (by omega) ?_ ?_
        · intro h233
          exfalso; omega
        · intro h234
          refine n_iload_n c_22_50 rfl ?_
          refine n_iload c_22_51 rfl ?_
          refine n_if2_ne c_22_53 (by omega) (by omega) ?_ ?_
          · intro h235
            exfalso; omega
          · intro h236
            refine n_aload_n c_22_56 rfl ?_
            refine n_getR c_22_57 sc_44.n rfl rfl rfl r_44_4 ?_
            refine n_iload_n c_22_60 rfl ?_
            refine n_iload_n c_22_61 rfl ?_
            refine n_iastoreV hS c_22_62 sc_45.n rfl (by omega) (w_45 (by omega) (by omega)) ?_
            intro M237 eM237 hS237
            have g237_0 : M237 44 2 = M 44 2 := by rw [eM237]; exact nu_a (by omega)
            refine n_goto c_22_63 ?_
            refine n_iinc (L2 := [some (2, 44), some (2, 4), some (0, (16 + (-1))), some (0, z227), some (0, z229), some (0, z231)]) c_22_101 rfl rfl rfl ?_
            refine n_goto c_22_104 ?_
            refine n_fg (le_s (le_s (le_s (le_n (le_n (le_n le_0)))))) ?_
            exact ih _ M237 hS237 (by omega) (by omega) (by omega) (by omega) (by omega) (by omega) (by omega) (by omega) (by omega)
    · skip
      refine n_iload_n c_22_17 rfl ?_
      refine n_if0_lt c_22_18 (by omega) ?_ ?_
      · intro h238
        exfalso; omega
      · intro h239
        refine n_aload_n c_22_21 rfl ?_
        refine n_getR c_22_22 sc_4.n rfl rfl rfl r_4_2 ?_
        refine n_iload_n c_22_25 rfl ?_
        refine n_ialoadV c_22_26 sc_5.n rfl rfl rfl (by omega) (t_5k (z := 1) hS (by omega) (by omega) (by omega)) ?_
        intro z240 ez240 f241
        refine n_istore_n (L2 := [some (2, 44), some (2, 4), some (0, 17), some (0, z240), none, none]) c_22_27 rfl rfl ?_
        refine n_aload_n c_22_28 rfl ?_
        refine n_getR c_22_29 sc_4.n rfl rfl rfl r_4_3 ?_
        refine n_iload_n c_22_32 rfl ?_
        refine n_ialoadV c_22_33 sc_6.n rfl rfl rfl (by omega) (t_6k (z := 2) hS (by omega) (by omega) (by omega)) ?_
        intro z242 ez242 f243
        refine n_istore (L2 := [some (2, 44), some (2, 4), some (0, 17), some (0, z240), some (0, z242), none]) c_22_34 rfl rfl ?_
        refine n_aload_n c_22_36 rfl ?_
        refine n_getR c_22_37 sc_4.n rfl rfl rfl r_4_4 ?_
        refine n_iload_n c_22_40 rfl ?_
        refine n_ialoadV c_22_41 sc_7.n rfl rfl rfl (by omega) (t_7k (z := 2) hS (by omega) (by omega) (by omega)) ?_
        intro z244 ez244 f245
        refine n_istore (L2 := [some (2, 44), some (2, 4), some (0, 17), some (0, z240), some (0, z242), some (0, z244)]) c_22_42 rfl rfl ?_
        refine n_iload_n c_22_44 rfl ?_
        refine n_iload c_22_45 rfl ?_
        refine n_if2_eq c_22_47 (by omega) (by omega) ?_ ?_
        · intro h246
          exfalso; omega
        · intro h247
          refine n_iload_n c_22_50 rfl ?_
          refine n_iload c_22_51 rfl ?_
          refine n_if2_ne c_22_53 (by omega) (by omega) ?_ ?_
          · intro h248
            refine n_iload c_22_66 rfl ?_
            refine n_iload c_22_68 rfl ?_
            refine n_if2_ne c_22_70 (by omega) (by omega) ?_ ?_
            · intro h249
              exfalso; omega
            · intro h250
              refine n_aload_n c_22_73 rfl ?_
              refine n_getR c_22_74 sc_44.n rfl rfl rfl r_44_4 ?_
              refine n_iload_n c_22_77 rfl ?_
              refine n_iload c_22_78 rfl ?_
              refine n_iastoreV hS c_22_80 sc_45.n rfl (by omega) (w_45 (by omega) (by omega)) ?_
              intro M251 eM251 hS251
              have g251_0 : M251 44 2 = M 44 2 := by rw [eM251]; exact nu_a (by omega)
              refine n_goto c_22_81 ?_
              refine n_iinc (L2 := [some (2, 44), some (2, 4), some (0, (17 + (-1))), some (0, z240), some (0, z242), some (0, z244)]) c_22_101 rfl rfl rfl ?_
              refine n_goto c_22_104 ?_
              refine n_fg (le_s (le_s (le_s (le_n (le_n (le_n le_0)))))) ?_
              exact ih _ M251 hS251 (by omega) (by omega) (by omega) (by omega) (by omega) (by omega) (by omega) (by omega) (by omega)
          · intro h252
            exfalso; omega
    · skip
      refine n_iload_n c_22_17 rfl ?_
      refine n_if0_lt c_22_18 (by omega) ?_ ?_
      · intro h253
        exfalso; omega
      · intro h254
        refine n_aload_n c_22_21 rfl ?_
        refine n_getR c_22_22 sc_4.n rfl rfl rfl r_4_2 ?_
        refine n_iload_n c_22_25 rfl ?_
        refine n_ialoadV c_22_26 sc_5.n rfl rfl rfl (by omega) (t_5k (z := 2) hS (by omega) (by omega) (by omega)) ?_
        intro z255 ez255 f256
        refine n_istore_n (L2 := [some (2, 44), some (2, 4), some (0, 18), some (0, z255), none, none]) c_22_27 rfl rfl ?_
        refine n_aload_n c_22_28 rfl ?_
        refine n_getR c_22_29 sc_4.n rfl rfl rfl r_4_3 ?_
        refine n_iload_n c_22_32 rfl ?_
        refine n_ialoadV c_22_33 sc_6.n rfl rfl rfl (by omega) (t_6k (z := 0) hS (by omega) (by omega) (by omega)) ?_
        intro z257 ez257 f258
        refine n_istore (L2 := [some (2, 44), some (2, 4), some (0, 18), some (0, z255), some (0, z257), none]) c_22_34 rfl rfl ?_
        refine n_aload_n c_22_36 rfl ?_
        refine n_getR c_22_37 sc_4.n rfl rfl rfl r_4_4 ?_
        refine n_iload_n c_22_40 rfl ?_
        refine n_ialoadV c_22_41 sc_7.n rfl rfl rfl (by omega) (t_7k (z := 0) hS (by omega) (by omega) (by omega)) ?_
        intro z259 ez259 f260
        refine n_istore (L2 := [some (2, 44), some (2, 4), some (0, 18), some (0, z255), some (0, z257), some (0, z259)]) c_22_42 rfl rfl ?_
        refine n_iload_n c_22_44 rfl ?_
        refine n_iload c_22_45 rfl ?_
        refine n_if2_eq c_22_47 (by omega) (by omega) ?_ ?_
        · intro h261
          exfalso; omega
        · intro h262
          refine n_iload_n c_22_50 rfl ?_
          refine n_iload c_22_51 rfl ?_
          refine n_if2_ne c_22_53 (by omega) (by omega) ?_ ?_
          · intro h263
            refine n_iload c_22_66 rfl ?_
            refine n_iload c_22_68 rfl ?_
            refine n_if2_ne c_22_70 (by omega) (by omega) ?_ ?_
            · intro h264
              exfalso; omega
            · intro h265
              refine n_aload_n c_22_73 rfl ?_
              refine n_getR c_22_74 sc_44.n rfl rfl rfl r_44_4 ?_
              refine n_iload_n c_22_77 rfl ?_
              refine n_iload c_22_78 rfl ?_
              refine n_iastoreV hS c_22_80 sc_45.n rfl (by omega) (w_45 (by omega) (by omega)) ?_
              intro M266 eM266 hS266
              have g266_0 : M266 44 2 = M 44 2 := by rw [eM266]; exact nu_a (by omega)
              refine n_goto c_22_81 ?_
              refine n_iinc (L2 := [some (2, 44), some (2, 4), some (0, (18 + (-1))), some (0, z255), some (0, z257), some (0, z259)]) c_22_101 rfl rfl rfl ?_
              refine n_goto c_22_104 ?_
              refine n_fg (le_s (le_s (le_s (le_n (le_n (le_n le_0)))))) ?_
              exact ih _ M266 hS266 (by omega) (by omega) (by omega) (by omega) (by omega) (by omega) (by omega) (by omega) (by omega)
          · intro h267
            exfalso; omega
    · skip
      refine n_iload_n c_22_17 rfl ?_
      refine n_if0_lt c_22_18 (by omega) ?_ ?_
      · intro h268
        exfalso; omega
      · intro h269
        refine n_aload_n c_22_21 rfl ?_
        refine n_getR c_22_22 sc_4.n rfl rfl rfl r_4_2 ?_
        refine n_iload_n c_22_25 rfl ?_
        refine n_ialoadV c_22_26 sc_5.n rfl rfl rfl (by omega) (t_5k (z := 2) hS (by omega) (by omega) (by omega)) ?_
        intro z270 ez270 f271
        refine n_istore_n (L2 := [some (2, 44), some (2, 4), some (0, 19), some (0, z270), none, none]) c_22_27 rfl rfl ?_
        refine n_aload_n c_22_28 rfl ?_
        refine n_getR c_22_29 sc_4.n rfl rfl rfl r_4_3 ?_
        refine n_iload_n c_22_32 rfl ?_
        refine n_ialoadV c_22_33 sc_6.n rfl rfl rfl (by omega) (t_6k (z := 0) hS (by omega) (by omega) (by omega)) ?_
        intro z272 ez272 f273
        refine n_istore (L2 := [some (2, 44), some (2, 4), some (0, 19), some (0, z270), some (0, z272), none]) c_22_34 rfl rfl ?_
        refine n_aload_n c_22_36 rfl ?_
        refine n_getR c_22_37 sc_4.n rfl rfl rfl r_4_4 ?_
        refine n_iload_n c_22_40 rfl ?_
        refine n_ialoadV c_22_41 sc_7.n rfl rfl rfl (by omega) (t_7k (z := 1) hS (by omega) (by omega) (by omega)) ?_
        intro z274 ez274 f275
        refine n_istore (L2 := [some (2, 44), some (2, 4), some (0, 19), some (0, z270), some (0, z272), some (0, z274)]) c_22_42 rfl rfl ?_
        refine n_iload_n c_22_44 rfl ?_
        refine n_iload c_22_45 rfl ?_
        refine n_if2_eq c_22_47 (by omega) (by omega) ?_ ?_
        · intro h276
          exfalso; omega
        · intro h277
          refine n_iload_n c_22_50 rfl ?_
          refine n_iload c_22_51 rfl ?_
          refine n_if2_ne c_22_53 (by omega) (by omega) ?_ ?_
          · intro h278
            refine n_iload c_22_66 rfl ?_
            refine n_iload c_22_68 rfl ?_
            refine n_if2_ne c_22_70 (by omega) (by omega) ?_ ?_
            · intro h279
              refine n_aload_n c_22_84 rfl ?_
              refine n_getR c_22_85 sc_44.n rfl rfl rfl r_44_4 ?_
              refine n_iload_n c_22_88 rfl ?_
              refine n_aload_n c_22_89 rfl ?_
              refine n_dup2 c_22_90 ?_
              refine n_getV (bi := 2) c_22_91 sc_44.n rfl rfl rfl (t_44_2 hS) ?_
              intro z280 ez280 f281
              refine n_dup_x102 c_22_94 ?_
              refine n_iconst c_22_95 ?_
              refine n_iadd c_22_96 rfl ?_
              refine n_putV (bi := 2) hS c_22_97 sc_44.n rfl rfl rfl rfl (w_44_2 (by omega)) ?_
              intro M282 eM282 hS282
              have g282_0 : M282 44 2 = (z280 + 1) := by rw [eM282]; exact nu_s _ _ _ _
              refine n_iastoreV hS282 c_22_100 sc_45.n rfl (by omega) (w_45 (by omega) (by omega)) ?_
              intro M283 eM283 hS283
              have g283_0 : M283 44 2 = M282 44 2 := by rw [eM283]; exact nu_a (by omega)
              refine n_iinc (L2 := [some (2, 44), some (2, 4), some (0, (19 + (-1))), some (0, z270), some (0, z272), some (0, z274)]) c_22_101 rfl rfl rfl ?_
              refine n_goto c_22_104 ?_
              refine n_fg (le_s (le_s (le_s (le_n (le_n (le_n le_0)))))) ?_
              exact ih _ M283 hS283 (by omega) (by omega) (by omega) (by omega) (by omega) (by omega) (by omega) (by omega) (by omega)
            · intro h284
              exfalso; omega
          · intro h285
            exfalso; omega
    · skip
      refine n_iload_n c_22_17 rfl ?_
      refine n_if0_lt c_22_18 (by omega) ?_ ?_
      · intro h286
        exfalso; omega
      · intro h287
        refine n_aload_n c_22_21 rfl ?_
        refine n_getR c_22_22 sc_4.n rfl rfl rfl r_4_2 ?_
        refine n_iload_n c_22_25 rfl ?_
        refine n_ialoadV c_22_26 sc_5.n rfl rfl rfl (by omega) (t_5k (z := 2) hS (by omega) (by omega) (by omega)) ?_
        intro z288 ez288 f289
        refine n_istore_n (L2 := [some (2, 44), some (2, 4), some (0, 20), some (0, z288), none, none]) c_22_27 rfl rfl ?_
        refine n_aload_n c_22_28 rfl ?_
        refine n_getR c_22_29 sc_4.n rfl rfl rfl r_4_3 ?_
        refine n_iload_n c_22_32 rfl ?_
        refine n_ialoadV c_22_33 sc_6.n rfl rfl rfl (by omega) (t_6k (z := 0) hS (by omega) (by omega) (by omega)) ?_
        intro z290 ez290 f291
        refine n_istore (L2 := [some (2, 44), some (2, 4), some (0, 20), some (0, z288), some (0, z290), none]) c_22_34 rfl rfl ?_
        refine n_aload_n c_22_36 rfl ?_
        refine n_getR c_22_37 sc_4.n rfl rfl rfl r_4_4 ?_
        refine n_iload_n c_22_40 rfl ?_
        refine n_ialoadV c_22_41 sc_7.n rfl rfl rfl (by omega) (t_7k (z := 2) hS (by omega) (by omega) (by omega)) ?_
        intro z292 ez292 f293
        refine n_istore (L2 := [some (2, 44), some (2, 4), some (0, 20), some (0, z288), some (0, z290), some (0, z292)]) c_22_42 rfl rfl ?_
        refine n_iload_n c_22_44 rfl ?_
        refine n_iload c_22_45 rfl ?_
        refine n_if2_eq c_22_47 (by omega) (by omega) ?_ ?_
        · intro h294
          exfalso; omega
        · intro h295
          refine n_iload_n c_22_50 rfl ?_
          refine n_iload c_22_51 rfl ?_
          refine n_if2_ne c_22_53 (by omega) (by omega) ?_ ?_
          · intro h296
            exfalso; omega
          · intro h297
            refine n_aload_n c_22_56 rfl ?_
            refine n_getR c_22_57 sc_44.n rfl rfl rfl r_44_4 ?_
            refine n_iload_n c_22_60 rfl ?_
            refine n_iload_n c_22_61 rfl ?_
            refine n_iastoreV hS c_22_62 sc_45.n rfl (by omega) (w_45 (by omega) (by omega)) ?_
            intro M298 eM298 hS298
            have g298_0 : M298 44 2 = M 44 2 := by rw [eM298]; exact nu_a (by omega)
            refine n_goto c_22_63 ?_
            refine n_iinc (L2 := [some (2, 44), some (2, 4), some (0, (20 + (-1))), some (0, z288), some (0, z290), some (0, z292)]) c_22_101 rfl rfl rfl ?_
            refine n_goto c_22_104 ?_
            refine n_fg (le_s (le_s (le_s (le_n (le_n (le_n le_0)))))) ?_
            exact ih _ M298 hS298 (by omega) (by omega) (by omega) (by omega) (by omega) (by omega) (by omega) (by omega) (by omega)
    · skip
      refine n_iload_n c_22_17 rfl ?_
      refine n_if0_lt c_22_18 (by omega) ?_ ?_
      · intro h299
        exfalso; omega
      · intro h300
        refine n_aload_n c_22_21 rfl ?_
        refine n_getR c_22_22 sc_4.n rfl rfl rfl r_4_2 ?_
        refine n_iload_n c_22_25 rfl ?_
        refine n_ialoadV c_22_26 sc_5.n rfl rfl rfl (by omega) (t_5k (z := 2) hS (by omega) (by omega) (by omega)) ?_
        intro z301 ez301 f302
        refine n_istore_n (L2 := [some (2, 44), some (2, 4), some (0, 21), some (0, z301), none, none]) c_22_27 rfl rfl ?_
        refine n_aload_n c_22_28 rfl ?_
        refine n_getR c_22_29 sc_4.n rfl rfl rfl r_4_3 ?_
        refine n_iload_n c_22_32 rfl ?_
        refine n_ialoadV c_22_33 sc_6.n rfl rfl rfl (by omega) (t_6k (z := 1) hS (by omega) (by omega) (by omega)) ?_
        intro z303 ez303 f304
        refine n_istore (L2 := [some (2, 44), some (2, 4), some (0, 21), some (0, z301), some (0, z303), none]) c_22_34 rfl rfl ?_
        refine n_aload_n c_22_36 rfl ?_
        refine n_getR c_22_37 sc_4.n rfl rfl rfl r_4_4 ?_
        refine n_iload_n c_22_40 rfl ?_
        refine n_ialoadV c_22_41 sc_7.n rfl rfl rfl (by omega) (t_7k (z := 0) hS (by omega) (by omega) (by omega)) ?_
        intro z305 ez305 f306
        refine n_istore (L2 := [some (2, 44), some (2, 4), some (0, 21), some (0, z301), some (0, z303), some (0, z305)]) c_22_42 rfl rfl ?_
        refine n_iload_n c_22_44 rfl ?_
        refine n_iload c_22_45 rfl ?_
        refine n_if2_eq c_22_47 (by omega) (by omega) ?_ ?_
        · intro h307
          exfalso; omega
        · intro h308
          refine n_iload_n c_22_50 rfl ?_
          refine n_iload c_22_51 rfl ?_
          refine n_if2_ne c_22_53 (by omega) (by omega) ?_ ?_
          · intro h309
            refine n_iload c_22_66 rfl ?_
            refine n_iload c_22_68 rfl ?_
            refine n_if2_ne c_22_70 (by omega) (by omega) ?_ ?_
            · intro h310
              refine n_aload_n c_22_84 rfl ?_
              refine n_getR c_22_85 sc_44.n rfl rfl rfl r_44_4 ?_
              refine n_iload_n c_22_88 rfl ?_
              refine n_aload_n c_22_89 rfl ?_
              refine n_dup2 c_22_90 ?_
              refine n_getV (bi := 2) c_22_91 sc_44.n rfl rfl rfl (t_44_2 hS) ?_
              intro z311 ez311 f312
              refine n_dup_x102 c_22_94 ?_
              refine n_iconst c_22_95 ?_
              refine n_iadd c_22_96 rfl ?_
              refine n_putV (bi := 2) hS c_22_97 sc_44.n rfl rfl rfl rfl (w_44_2 (by omega)) ?_
              intro M313 eM313 hS313
              have g313_0 : M313 44 2 = (z311 + 1) := by rw [eM313]; exact nu_s _ _ _ _
              refine n_iastoreV hS313 c_22_100 sc_45.n rfl (by omega) (w_45 (by omega) (by omega)) ?_
              intro M314 eM314 hS314
              have g314_0 : M314 44 2 = M313 44 2 := by rw [eM314]; exact nu_a (by omega)
              refine n_iinc (L2 := [some (2, 44), some (2, 4), some (0, (21 + (-1))), some (0, z301), some (0, z303), some (0, z305)]) c_22_101 rfl rfl rfl ?_
              refine n_goto c_22_104 ?_
              refine n_fg (le_s (le_s (le_s (le_n (le_n (le_n le_0)))))) ?_
              exact ih _ M314 hS314 (by omega) (by omega) (by omega) (by omega) (by omega) (by omega) (by omega) (by omega) (by omega)
            · intro h315
              exfalso; omega
          · intro h316
            exfalso; omega
    · skip
      refine n_iload_n c_22_17 rfl ?_
      refine n_if0_lt c_22_18 (by omega) ?_ ?_
      · intro h317
        exfalso; omega
      · intro h318
        refine n_aload_n c_22_21 rfl ?_
        refine n_getR c_22_22 sc_4.n rfl rfl rfl r_4_2 ?_
        refine n_iload_n c_22_25 rfl ?_
        refine n_ialoadV c_22_26 sc_5.n rfl rfl rfl (by omega) (t_5k (z := 2) hS (by omega) (by omega) (by omega)) ?_
        intro z319 ez319 f320
        refine n_istore_n (L2 := [some (2, 44), some (2, 4), some (0, 22), some (0, z319), none, none]) c_22_27 rfl rfl ?_
        refine n_aload_n c_22_28 rfl ?_
        refine n_getR c_22_29 sc_4.n rfl rfl rfl r_4_3 ?_
        refine n_iload_n c_22_32 rfl ?_
        refine n_ialoadV c_22_33 sc_6.n rfl rfl rfl (by omega) (t_6k (z := 1) hS (by omega) (by omega) (by omega)) ?_
        intro z321 ez321 f322
        refine n_istore (L2 := [some (2, 44), some (2, 4), some (0, 22), some (0, z319), some (0, z321), none]) c_22_34 rfl rfl ?_
        refine n_aload_n c_22_36 rfl ?_
        refine n_getR c_22_37 sc_4.n rfl rfl rfl r_4_4 ?_
        refine n_iload_n c_22_40 rfl ?_
        refine n_ialoadV c_22_41 sc_7.n rfl rfl rfl (by omega) (t_7k (z := 1) hS (by omega) (by omega) (by omega)) ?_
        intro z323 ez323 f324
        refine n_istore (L2 := [some (2, 44), some (2, 4), some (0, 22), some (0, z319), some (0, z321), some (0, z323)]) c_22_42 rfl rfl ?_
        refine n_iload_n c_22_44 rfl ?_
        refine n_iload c_22_45 rfl ?_
        refine n_if2_eq c_22_47 (by omega) (by omega) ?_ ?_
        · intro h325
          exfalso; omega
        · intro h326
          refine n_iload_n c_22_50 rfl ?_
          refine n_iload c_22_51 rfl ?_
          refine n_if2_ne c_22_53 (by omega) (by omega) ?_ ?_
          · intro h327
            refine n_iload c_22_66 rfl ?_
            refine n_iload c_22_68 rfl ?_
            refine n_if2_ne c_22_70 (by omega) (by omega) ?_ ?_
            · intro h328
              exfalso; omega
            · intro h329
              refine n_aload_n c_22_73 rfl ?_
              refine n_getR c_22_74 sc_44.n rfl rfl rfl r_44_4 ?_
              refine n_iload_n c_22_77 rfl ?_
              refine n_iload c_22_78 rfl ?_
              refine n_iastoreV hS c_22_80 sc_45.n rfl (by omega) (w_45 (by omega) (by omega)) ?_
              intro M330 eM330 hS330
              have g330_0 : M330 44 2 = M 44 2 := by rw [eM330]; exact nu_a (by omega)
              refine n_goto c_22_81 ?_
              refine n_iinc (L2 := [some (2, 44), some (2, 4), some (0, (22 + (-1))), some (0, z319), some (0, z321), some (0, z323)]) c_22_101 rfl rfl rfl ?_
              refine n_goto c_22_104 ?_
              refine n_fg (le_s (le_s (le_s (le_n (le_n (le_n le_0)))))) ?_
              exact ih _ M330 hS330 (by omega) (by omega) (by omega) (by omega) (by omega) (by omega) (by omega) (by omega) (by omega)
          · intro h331
            exfalso; omega
    · skip
      refine n_iload_n c_22_17 rfl ?_
      refine n_if0_lt c_22_18 (by omega) ?_ ?_
      · intro h332
        exfalso; omega
      · intro h333
        refine n_aload_n c_22_21 rfl ?_
        refine n_getR c_22_22 sc_4.n rfl rfl rfl r_4_2 ?_
        refine n_iload_n c_22_25 rfl ?_
        refine n_ialoadV c_22_26 sc_5.n rfl rfl rfl (by omega) (t_5k (z := 2) hS (by omega) (by omega) (by omega)) ?_
        intro z334 ez334 f335
        refine n_istore_n (L2 := [some (2, 44), some (2, 4), some (0, 23), some (0, z334), none, none]) c_22_27 rfl rfl ?_
        refine n_aload_n c_22_28 rfl ?_
        refine n_getR c_22_29 sc_4.n rfl rfl rfl r_4_3 ?_
        refine n_iload_n c_22_32 rfl ?_
        refine n_ialoadV c_22_33 sc_6.n rfl rfl rfl (by omega) (t_6k (z := 1) hS (by omega) (by omega) (by omega)) ?_
        intro z336 ez336 f337
        refine n_istore (L2 := [some (2, 44), some (2, 4), some (0, 23), some (0, z334), some (0, z336), none]) c_22_34 rfl rfl ?_
        refine n_aload_n c_22_36 rfl ?_
        refine n_getR c_22_37 sc_4.n rfl rfl rfl r_4_4 ?_
        refine n_iload_n c_22_40 rfl ?_
        refine n_ialoadV c_22_41 sc_7.n rfl rfl rfl (by omega) (t_7k (z := 2) hS (by omega) (by omega) (by omega)) ?_
        intro z338 ez338 f339
        refine n_istore (L2 := [some (2, 44), some (2, 4), some (0, 23), some (0, z334), some (0, z336), some (0, z338)]) c_22_42 rfl rfl ?_
        refine n_iload_n c_22_44 rfl ?_
        refine n_iload c_22_45 rfl ?_
        refine n_if2_eq c_22_47 (by omega) (by omega) ?_ ?_
        · intro h340
          exfalso; omega
        · intro h341
          refine n_iload_n c_22_50 rfl ?_
          refine n_iload c_22_51 rfl ?_
          refine n_if2_ne c_22_53 (by omega) (by omega) ?_ ?_
          · intro h342
            exfalso; omega
          · intro h343
            refine n_aload_n c_22_56 rfl ?_
            refine n_getR c_22_57 sc_44.n rfl rfl rfl r_44_4 ?_
            refine n_iload_n c_22_60 rfl ?_
            refine n_iload_n c_22_61 rfl ?_
            refine n_iastoreV hS c_22_62 sc_45.n rfl (by omega) (w_45 (by omega) (by omega)) ?_
            intro M344 eM344 hS344
            have g344_0 : M344 44 2 = M 44 2 := by rw [eM344]; exact nu_a (by omega)
            refine n_goto c_22_63 ?_
            refine n_iinc (L2 := [some (2, 44), some (2, 4), some (0, (23 + (-1))), some (0, z334), some (0, z336), some (0, z338)]) c_22_101 rfl rfl rfl ?_
            refine n_goto c_22_104 ?_
            refine n_fg (le_s (le_s (le_s (le_n (le_n (le_n le_0)))))) ?_
            exact ih _ M344 hS344 (by omega) (by omega) (by omega) (by omega) (by omega) (by omega) (by omega) (by omega) (by omega)
    · skip
      refine n_iload_n c_22_17 rfl ?_
      refine n_if0_lt c_22_18 (by omega) ?_ ?_
      · intro h345
        exfalso; omega
      · intro h346
        refine n_aload_n c_22_21 rfl ?_
        refine n_getR c_22_22 sc_4.n rfl rfl rfl r_4_2 ?_
        refine n_iload_n c_22_25 rfl ?_
        refine n_ialoadV c_22_26 sc_5.n rfl rfl rfl (by omega) (t_5k (z := 2) hS (by omega) (by omega) (by omega)) ?_
        intro z347 ez347 f348
        refine n_istore_n (L2 := [some (2, 44), some (2, 4), some (0, 24), some (0, z347), none, none]) c_22_27 rfl rfl ?_
        refine n_aload_n c_22_28 rfl ?_
        refine n_getR c_22_29 sc_4.n rfl rfl rfl r_4_3 ?_
        refine n_iload_n c_22_32 rfl ?_
        refine n_ialoadV c_22_33 sc_6.n rfl rfl rfl (by omega) (t_6k (z := 2) hS (by omega) (by omega) (by omega)) ?_
        intro z349 ez349 f350
        refine n_istore (L2 := [some (2, 44), some (2, 4), some (0, 24), some (0, z347), some (0, z349), none]) c_22_34 rfl rfl ?_
        refine n_aload_n c_22_36 rfl ?_
        refine n_getR c_22_37 sc_4.n rfl rfl rfl r_4_4 ?_
        refine n_iload_n c_22_40 rfl ?_
        refine n_ialoadV c_22_41 sc_7.n rfl rfl rfl (by omega) (t_7k (z := 0) hS (by omega) (by omega) (by omega)) ?_
        intro z351 ez351 f352
        refine n_istore (L2 := [some (2, 44), some (2, 4), some (0, 24), some (0, z347), some (0, z349), some (0, z351)]) c_22_42 rfl rfl ?_
        refine n_iload_n c_22_44 rfl ?_
        refine n_iload c_22_45 rfl ?_
        refine n_if2_eq c_22_47 (by omega) (by omega) ?_ ?_
        · intro h353
          refine n_aload_n c_22_56 rfl ?_
          refine n_getR c_22_57 sc_44.n rfl rfl rfl r_44_4 ?_
          refine n_iload_n c_22_60 rfl ?_
          refine n_iload_n c_22_61 rfl ?_
          refine n_iastoreV hS c_22_62 sc_45.n rfl (by omega) (w_45 (by omega) (by omega)) ?_
          intro M354 eM354 hS354
          have g354_0 : M354 44 2 = M 44 2 := by rw [eM354]; exact nu_a (by omega)
          refine n_goto c_22_63 ?_
          refine n_iinc (L2 := [some (2, 44), some (2, 4), some (0, (24 + (-1))), some (0, z347), some (0, z349), some (0, z351)]) c_22_101 rfl rfl rfl ?_
          refine n_goto c_22_104 ?_
          refine n_fg (le_s (le_s (le_s (le_n (le_n (le_n le_0)))))) ?_
          exact ih _ M354 hS354 (by omega) (by omega) (by omega) (by omega) (by omega) (by omega) (by omega) (by omega) (by omega)
        · intro h355
          exfalso; omega
    · skip
      refine n_iload_n c_22_17 rfl ?_
      refine n_if0_lt c_22_18 (by omega) ?_ ?_
      · intro h356
        exfalso; omega
      · intro h357
        refine n_aload_n c_22_21 rfl ?_
        refine n_getR c_22_22 sc_4.n rfl rfl rfl r_4_2 ?_
        refine n_iload_n c_22_25 rfl ?_
        refine n_ialoadV c_22_26 sc_5.n rfl rfl rfl (by omega) (t_5k (z := 2) hS (by omega) (by omega) (by omega)) ?_
        intro z358 ez358 f359
        refine n_istore_n (L2 := [some (2, 44), some (2, 4), some (0, 25), some (0, z358), none, none]) c_22_27 rfl rfl ?_
        refine n_aload_n c_22_28 rfl ?_
        refine n_getR c_22_29 sc_4.n rfl rfl rfl r_4_3 ?_
        refine n_iload_n c_22_32 rfl ?_
        refine n_ialoadV c_22_33 sc_6.n rfl rfl rfl (by omega) (t_6k (z := 2) hS (by omega) (by omega) (by omega)) ?_
        intro z360 ez360 f361
        refine n_istore (L2 := [some (2, 44), some (2, 4), some (0, 25), some (0, z358), some (0, z360), none]) c_22_34 rfl rfl ?_
        refine n_aload_n c_22_36 rfl ?_
        refine n_getR c_22_37 sc_4.n rfl rfl rfl r_4_4 ?_
        refine n_iload_n c_22_40 rfl ?_
        refine n_ialoadV c_22_41 sc_7.n rfl rfl rfl (by omega) (t_7k (z := 1) hS (by omega) (by omega) (by omega)) ?_
        intro z362 ez362 f363
        refine n_istore (L2 := [some (2, 44), some (2, 4), some (0, 25), some (0, z358), some (0, z360), some (0, z362)]) c_22_42 rfl rfl ?_
        refine n_iload_n c_22_44 rfl ?_
        refine n_iload c_22_45 rfl ?_
        refine n_if2_eq c_22_47 (by omega) (by omega) ?_ ?_
        · intro h364
          refine n_aload_n c_22_56 rfl ?_
          refine n_getR c_22_57 sc_44.n rfl rfl rfl r_44_4 ?_
          refine n_iload_n c_22_60 rfl ?_
          refine n_iload_n c_22_61 rfl ?_
          refine n_iastoreV hS c_22_62 sc_45.n rfl (by omega) (w_45 (by omega) (by omega)) ?_
          intro M365 eM365 hS365
          have g365_0 : M365 44 2 = M 44 2 := by rw [eM365]; exact nu_a (by omega)
          refine n_goto c_22_63 ?_
          refine n_iinc (L2 := [some (2, 44), some (2, 4), some (0, (25 + (-1))), some (0, z358), some (0, z360), some (0, z362)]) c_22_101 rfl rfl rfl ?_
          refine n_goto c_22_104 ?_
          refine n_fg (le_s (le_s (le_s (le_n (le_n (le_n le_0)))))) ?_
          exact ih _ M365 hS365 (by omega) (by omega) (by omega) (by omega) (by omega) (by omega) (by omega) (by omega) (by omega)
        · intro h366
          exfalso; omega
    · skip
      refine n_iload_n c_22_17 rfl ?_
      refine n_if0_lt c_22_18 (by omega) ?_ ?_
      · intro h367
        exfalso; omega
      · intro h368
        refine n_aload_n c_22_21 rfl ?_
        refine n_getR c_22_22 sc_4.n rfl rfl rfl r_4_2 ?_
        refine n_iload_n c_22_25 rfl ?_
        refine n_ialoadV c_22_26 sc_5.n rfl rfl rfl (by omega) (t_5k (z := 2) hS (by omega) (by omega) (by omega)) ?_
        intro z369 ez369 f370
        refine n_istore_n (L2 := [some (2, 44), some (2, 4), some (0, 26), some (0, z369), none, none]) c_22_27 rfl rfl ?_
        refine n_aload_n c_22_28 rfl ?_
        refine n_getR c_22_29 sc_4.n rfl rfl rfl r_4_3 ?_
        refine n_iload_n c_22_32 rfl ?_
        refine n_ialoadV c_22_33 sc_6.n rfl rfl rfl (by omega) (t_6k (z := 2) hS (by omega) (by omega) (by omega)) ?_
        intro z371 ez371 f372
        refine n_istore (L2 := [some (2, 44), some (2, 4), some (0, 26), some (0, z369), some (0, z371), none]) c_22_34 rfl rfl ?_
        refine n_aload_n c_22_36 rfl ?_
        refine n_getR c_22_37 sc_4.n rfl rfl rfl r_4_4 ?_
        refine n_iload_n c_22_40 rfl ?_
        refine n_ialoadV c_22_41 sc_7.n rfl rfl rfl (by omega) (t_7k (z := 2) hS (by omega) (by omega) (by omega)) ?_
        intro z373 ez373 f374
        refine n_istore (L2 := [some (2, 44), some (2, 4), some (0, 26), some (0, z369), some (0, z371), some (0, z373)]) c_22_42 rfl rfl ?_
        refine n_iload_n c_22_44 rfl ?_
        refine n_iload c_22_45 rfl ?_
        refine n_if2_eq c_22_47 (by omega) (by omega) ?_ ?_
        · intro h375
          refine n_aload_n c_22_56 rfl ?_
          refine n_getR c_22_57 sc_44.n rfl rfl rfl r_44_4 ?_
          refine n_iload_n c_22_60 rfl ?_
          refine n_iload_n c_22_61 rfl ?_
          refine n_iastoreV hS c_22_62 sc_45.n rfl (by omega) (w_45 (by omega) (by omega)) ?_
          intro M376 eM376 hS376
          have g376_0 : M376 44 2 = M 44 2 := by rw [eM376]; exact nu_a (by omega)
          refine n_goto c_22_63 ?_
          refine n_iinc (L2 := [some (2, 44), some (2, 4), some (0, (26 + (-1))), some (0, z369), some (0, z371), some (0, z373)]) c_22_101 rfl rfl rfl ?_
          refine n_goto c_22_104 ?_
          refine n_fg (le_s (le_s (le_s (le_n (le_n (le_n le_0)))))) ?_
          exact ih _ M376 hS376 (by omega) (by omega) (by omega) (by omega) (by omega) (by omega) (by omega) (by omega) (by omega)
        · intro h377
          exfalso; omega
set_option maxHeartbeats 4000000 in
theorem beMost_3 {xs : List Int32} {e : Nat} {ac : Int} {M0 M : nM} (hS : Sf 3 ac M0 M)  : nW xs (e + 1) 22 0 [some (2, 44), some (2, 4), none, none, none, none] [] M (nPV fun M1 => Sf 3 ac M0 M1) := by
  have hd : (3 : Int) = 2 ∨ (3 : Int) = 3 := by decide
  have hac := hS.2.2.2.2
  refine n_aload_n c_22_0 rfl ?_
  refine n_iconst c_22_1 ?_
  refine n_aload_n c_22_2 rfl ?_
  refine n_getV (bi := 0) c_22_3 sc_4.n rfl rfl rfl (t_4_0 hS) ?_
  intro z1 ez1 f2
  obtain rfl : z1 = 3 := by omega
  refine n_aload_n c_22_6 rfl ?_
  refine n_v3V c_22_7 rfl sc_44.n rfl rfl rfl rfl (begin_3 (n := 3) (c := 3) hS (by omega) (by omega)) ?_
  intro  M3 hP4
  obtain ⟨hS3, f4p0⟩ := hP4
  refine n_aload_n c_22_10 rfl ?_
  refine n_getV (bi := 1) c_22_11 sc_4.n rfl rfl rfl (t_4_1 hS3) ?_
  intro z5 ez5 f6
  obtain rfl : z5 = 27 := by omega
  refine n_iconst c_22_14 ?_
  refine n_isub c_22_15 rfl ?_
  refine n_istore_n (L2 := [some (2, 44), some (2, 4), some (0, (27 - 1)), none, none, none]) c_22_16 rfl rfl ?_
  refine n_fg (le_s (le_s (le_s (le_n (le_n (le_n le_0)))))) ?_
  exact (beMost_3_c hS  68) _ M3 hS3 (by omega) (by omega) (by omega) (by omega) (by omega) (by omega) (by omega) (by omega) (by omega)
