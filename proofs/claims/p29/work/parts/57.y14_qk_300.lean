/-! What the methods tell. -/
set_option maxHeartbeats 4000000 in
theorem beHalfX_3 {xs : List Int32} {e : Nat} {ac : Int} {M0 M : nM} {Mz : nM} (hS : Sf 3 ac M0 M) (hmz : M = Mz) : nW xs (e + 2) 21 0 [some (2, 44), some (2, 4), none, none] [] M (nPV fun M1 => Sf 3 ac M0 M1 ∧ (M1 44 0 = 2 ∧ M1 44 1 = 3 ∧ M1 44 2 = 6 ∧ M1 44 3 = 1 ∧ M1 44 5 = 3) ∧ (∀ i : Int, 0 ≤ i → i < 3 * 3 * 3 → M1 45 i = tbl (kT 0 3) (i % pw 3 (km 0))) ∧ (∀ a i : Int, a ≠ 44 → a ≠ 45 → M1 a i = Mz a i)) := by
  have hd : (3 : Int) = 2 ∨ (3 : Int) = 3 := by decide
  have hac := hS.2.2.2.2
  refine n_aload_n c_21_0 rfl (n_iconst c_21_1 (n_aload_n c_21_2 rfl (n_getV (bi := 0) c_21_3 sc_4.n rfl rfl rfl (t_4_0 hS) ?_)))
  intro z1 ez1 f2
  obtain rfl : z1 = 3 := by omega
  refine n_aload_n c_21_6 rfl (n_v3V c_21_7 rfl sc_44.n rfl rfl rfl rfl (beginX_3 (n := 2) (c := 3) hS (by omega) (by omega)) ?_)
  intro  M3 hP4
  obtain ⟨hS3, f4p0, f4p1⟩ := hP4
  refine n_aload_n c_21_10 rfl (n_iconst c_21_11 (n_putZV (bi := 3) hS3 c_21_12 sc_44.n rfl rfl rfl (by omega) rfl (w_44_3 (by omega)) ?_))
  intro M5 eM5 hS5
  have g5_0 : M5 44 2 = M3 44 2 := by rw [eM5]; exact nu_i (by omega)
  have g5_1 : M5 44 0 = M3 44 0 := by rw [eM5]; exact nu_i (by omega)
  have g5_2 : M5 44 1 = M3 44 1 := by rw [eM5]; exact nu_i (by omega)
  have g5_3 : M5 44 5 = M3 44 5 := by rw [eM5]; exact nu_i (by omega)
  have g5_4 : M5 44 3 = 1 := by rw [eM5]; exact nu_s _ _ _ _
  refine n_aload_n c_21_15 rfl (n_getV (bi := 5) c_21_16 sc_44.n rfl rfl rfl (t_44_5 hS5) ?_)
  intro z6 ez6 f7
  obtain rfl : z6 = 3 := by omega
  refine n_iconst c_21_19 (n_isub c_21_20 rfl (n_istore_n (L2 := [some (2, 44), some (2, 4), some (0, (3 - 1)), none]) c_21_21 rfl rfl (n_iload_n c_21_22 rfl ?_)))
  refine n_if0_lt c_21_23 (by omega) ?_ ?_
  · intro h8
    exfalso; omega
  · intro h9
    refine n_aload_n c_21_26 rfl (n_getR c_21_27 sc_44.n rfl rfl rfl r_44_4 (n_iload_n c_21_30 rfl (n_aload_n c_21_31 rfl (n_getV (bi := 5) c_21_32 sc_44.n rfl rfl rfl (t_44_5 hS5) ?_))))
    intro z10 ez10 f11
    obtain rfl : z10 = 3 := by omega
    refine n_imul c_21_35 rfl (n_iload_n c_21_36 rfl (n_iadd c_21_37 rfl (n_iload_n c_21_38 rfl (n_iastoreV hS5 c_21_39 sc_45.n rfl (by omega) (w_45 (by omega) (by omega)) ?_))))
    intro M12 eM12 hS12
    have g12_0 : M12 44 2 = M5 44 2 := by rw [eM12]; exact nu_a (by omega)
    have g12_1 : M12 44 0 = M5 44 0 := by rw [eM12]; exact nu_a (by omega)
    have g12_2 : M12 44 1 = M5 44 1 := by rw [eM12]; exact nu_a (by omega)
    have g12_3 : M12 44 5 = M5 44 5 := by rw [eM12]; exact nu_a (by omega)
    have g12_4 : M12 44 3 = M5 44 3 := by rw [eM12]; exact nu_a (by omega)
    refine n_iload_n c_21_40 rfl (n_iconst c_21_41 (n_isub c_21_42 rfl (n_istore_n (L2 := [some (2, 44), some (2, 4), some (0, (3 - 1)), some (0, ((3 - 1) - 1))]) c_21_43 rfl rfl (n_iload_n c_21_44 rfl ?_))))
    refine n_if0_lt c_21_45 (by omega) ?_ ?_
    · intro h13
      exfalso; omega
    · intro h14
      refine n_aload_n c_21_48 rfl (n_getR c_21_49 sc_44.n rfl rfl rfl r_44_4 (n_iload_n c_21_52 rfl (n_aload_n c_21_53 rfl (n_getV (bi := 5) c_21_54 sc_44.n rfl rfl rfl (t_44_5 hS12) ?_))))
      intro z15 ez15 f16
      obtain rfl : z15 = 3 := by omega
      refine n_imul c_21_57 rfl (n_iload_n c_21_58 rfl (n_iadd c_21_59 rfl (n_aload_n c_21_60 rfl (n_getV (bi := 2) c_21_61 sc_44.n rfl rfl rfl (t_44_2 hS12) ?_))))
      intro z17 ez17 f18
      obtain rfl : z17 = 3 := by omega
      refine n_iastoreV hS12 c_21_64 sc_45.n rfl (by omega) (w_45 (by omega) (by omega)) ?_
      intro M19 eM19 hS19
      have g19_0 : M19 44 2 = M12 44 2 := by rw [eM19]; exact nu_a (by omega)
      have g19_1 : M19 44 0 = M12 44 0 := by rw [eM19]; exact nu_a (by omega)
      have g19_2 : M19 44 1 = M12 44 1 := by rw [eM19]; exact nu_a (by omega)
      have g19_3 : M19 44 5 = M12 44 5 := by rw [eM19]; exact nu_a (by omega)
      have g19_4 : M19 44 3 = M12 44 3 := by rw [eM19]; exact nu_a (by omega)
      refine n_aload_n c_21_65 rfl (n_getR c_21_66 sc_44.n rfl rfl rfl r_44_4 (n_iload_n c_21_69 rfl (n_aload_n c_21_70 rfl (n_getV (bi := 5) c_21_71 sc_44.n rfl rfl rfl (t_44_5 hS19) ?_))))
      intro z20 ez20 f21
      obtain rfl : z20 = 3 := by omega
      refine n_imul c_21_74 rfl (n_iload_n c_21_75 rfl (n_iadd c_21_76 rfl (n_aload_n c_21_77 rfl (n_getV (bi := 2) c_21_78 sc_44.n rfl rfl rfl (t_44_2 hS19) ?_))))
      intro z22 ez22 f23
      obtain rfl : z22 = 3 := by omega
      refine n_iastoreV hS19 c_21_81 sc_45.n rfl (by omega) (w_45 (by omega) (by omega)) ?_
      intro M24 eM24 hS24
      have g24_0 : M24 44 2 = M19 44 2 := by rw [eM24]; exact nu_a (by omega)
      have g24_1 : M24 44 0 = M19 44 0 := by rw [eM24]; exact nu_a (by omega)
      have g24_2 : M24 44 1 = M19 44 1 := by rw [eM24]; exact nu_a (by omega)
      have g24_3 : M24 44 5 = M19 44 5 := by rw [eM24]; exact nu_a (by omega)
      have g24_4 : M24 44 3 = M19 44 3 := by rw [eM24]; exact nu_a (by omega)
      refine n_aload_n c_21_82 rfl (n_dup2 c_21_83 (n_getV (bi := 2) c_21_84 sc_44.n rfl rfl rfl (t_44_2 hS24) ?_))
      intro z25 ez25 f26
      obtain rfl : z25 = 3 := by omega
      refine n_iconst c_21_87 (n_iadd c_21_88 rfl (n_putV (bi := 2) hS24 c_21_89 sc_44.n rfl rfl rfl rfl (w_44_2 (by omega)) ?_))
      intro M27 eM27 hS27
      have g27_0 : M27 44 0 = M24 44 0 := by rw [eM27]; exact nu_i (by omega)
      have g27_1 : M27 44 1 = M24 44 1 := by rw [eM27]; exact nu_i (by omega)
      have g27_2 : M27 44 5 = M24 44 5 := by rw [eM27]; exact nu_i (by omega)
      have g27_3 : M27 44 3 = M24 44 3 := by rw [eM27]; exact nu_i (by omega)
      have g27_4 : M27 44 2 = (3 + 1) := by rw [eM27]; exact nu_s _ _ _ _
      refine n_iinc (L2 := [some (2, 44), some (2, 4), some (0, (3 - 1)), some (0, (((3 - 1) - 1) + (-1)))]) c_21_92 rfl rfl rfl (n_goto c_21_95 (n_iload_n c_21_44 rfl ?_))
      refine n_if0_lt c_21_45 (by omega) ?_ ?_
      · intro h28
        exfalso; omega
      · intro h29
        refine n_aload_n c_21_48 rfl (n_getR c_21_49 sc_44.n rfl rfl rfl r_44_4 (n_iload_n c_21_52 rfl (n_aload_n c_21_53 rfl (n_getV (bi := 5) c_21_54 sc_44.n rfl rfl rfl (t_44_5 hS27) ?_))))
        intro z30 ez30 f31
        obtain rfl : z30 = 3 := by omega
        refine n_imul c_21_57 rfl (n_iload_n c_21_58 rfl (n_iadd c_21_59 rfl (n_aload_n c_21_60 rfl (n_getV (bi := 2) c_21_61 sc_44.n rfl rfl rfl (t_44_2 hS27) ?_))))
        intro z32 ez32 f33
        obtain rfl : z32 = 4 := by omega
        refine n_iastoreV hS27 c_21_64 sc_45.n rfl (by omega) (w_45 (by omega) (by omega)) ?_
        intro M34 eM34 hS34
        have g34_0 : M34 44 0 = M27 44 0 := by rw [eM34]; exact nu_a (by omega)
        have g34_1 : M34 44 1 = M27 44 1 := by rw [eM34]; exact nu_a (by omega)
        have g34_2 : M34 44 5 = M27 44 5 := by rw [eM34]; exact nu_a (by omega)
        have g34_3 : M34 44 3 = M27 44 3 := by rw [eM34]; exact nu_a (by omega)
        have g34_4 : M34 44 2 = M27 44 2 := by rw [eM34]; exact nu_a (by omega)
        refine n_aload_n c_21_65 rfl (n_getR c_21_66 sc_44.n rfl rfl rfl r_44_4 (n_iload_n c_21_69 rfl (n_aload_n c_21_70 rfl (n_getV (bi := 5) c_21_71 sc_44.n rfl rfl rfl (t_44_5 hS34) ?_))))
        intro z35 ez35 f36
        obtain rfl : z35 = 3 := by omega
        refine n_imul c_21_74 rfl (n_iload_n c_21_75 rfl (n_iadd c_21_76 rfl (n_aload_n c_21_77 rfl (n_getV (bi := 2) c_21_78 sc_44.n rfl rfl rfl (t_44_2 hS34) ?_))))
        intro z37 ez37 f38
        obtain rfl : z37 = 4 := by omega
        refine n_iastoreV hS34 c_21_81 sc_45.n rfl (by omega) (w_45 (by omega) (by omega)) ?_
        intro M39 eM39 hS39
        have g39_0 : M39 44 0 = M34 44 0 := by rw [eM39]; exact nu_a (by omega)
        have g39_1 : M39 44 1 = M34 44 1 := by rw [eM39]; exact nu_a (by omega)
        have g39_2 : M39 44 5 = M34 44 5 := by rw [eM39]; exact nu_a (by omega)
        have g39_3 : M39 44 3 = M34 44 3 := by rw [eM39]; exact nu_a (by omega)
        have g39_4 : M39 44 2 = M34 44 2 := by rw [eM39]; exact nu_a (by omega)
        refine n_aload_n c_21_82 rfl (n_dup2 c_21_83 (n_getV (bi := 2) c_21_84 sc_44.n rfl rfl rfl (t_44_2 hS39) ?_))
        intro z40 ez40 f41
        obtain rfl : z40 = 4 := by omega
        refine n_iconst c_21_87 (n_iadd c_21_88 rfl (n_putV (bi := 2) hS39 c_21_89 sc_44.n rfl rfl rfl rfl (w_44_2 (by omega)) ?_))
        intro M42 eM42 hS42
        have g42_0 : M42 44 0 = M39 44 0 := by rw [eM42]; exact nu_i (by omega)
        have g42_1 : M42 44 1 = M39 44 1 := by rw [eM42]; exact nu_i (by omega)
        have g42_2 : M42 44 5 = M39 44 5 := by rw [eM42]; exact nu_i (by omega)
        have g42_3 : M42 44 3 = M39 44 3 := by rw [eM42]; exact nu_i (by omega)
        have g42_4 : M42 44 2 = (4 + 1) := by rw [eM42]; exact nu_s _ _ _ _
        refine n_iinc (L2 := [some (2, 44), some (2, 4), some (0, (3 - 1)), some (0, ((((3 - 1) - 1) + (-1)) + (-1)))]) c_21_92 rfl rfl rfl (n_goto c_21_95 (n_iload_n c_21_44 rfl ?_))
        refine n_if0_lt c_21_45 (by omega) ?_ ?_
        · intro h43
          refine n_iinc (L2 := [some (2, 44), some (2, 4), some (0, ((3 - 1) + (-1))), some (0, ((((3 - 1) - 1) + (-1)) + (-1)))]) c_21_98 rfl rfl rfl (n_goto c_21_101 (n_iload_n c_21_22 rfl ?_))
          refine n_if0_lt c_21_23 (by omega) ?_ ?_
          · intro h44
            exfalso; omega
          · intro h45
            refine n_aload_n c_21_26 rfl (n_getR c_21_27 sc_44.n rfl rfl rfl r_44_4 (n_iload_n c_21_30 rfl (n_aload_n c_21_31 rfl (n_getV (bi := 5) c_21_32 sc_44.n rfl rfl rfl (t_44_5 hS42) ?_))))
            intro z46 ez46 f47
            obtain rfl : z46 = 3 := by omega
            refine n_imul c_21_35 rfl (n_iload_n c_21_36 rfl (n_iadd c_21_37 rfl (n_iload_n c_21_38 rfl (n_iastoreV hS42 c_21_39 sc_45.n rfl (by omega) (w_45 (by omega) (by omega)) ?_))))
            intro M48 eM48 hS48
            have g48_0 : M48 44 0 = M42 44 0 := by rw [eM48]; exact nu_a (by omega)
            have g48_1 : M48 44 1 = M42 44 1 := by rw [eM48]; exact nu_a (by omega)
            have g48_2 : M48 44 5 = M42 44 5 := by rw [eM48]; exact nu_a (by omega)
            have g48_3 : M48 44 3 = M42 44 3 := by rw [eM48]; exact nu_a (by omega)
            have g48_4 : M48 44 2 = M42 44 2 := by rw [eM48]; exact nu_a (by omega)
            refine n_iload_n c_21_40 rfl (n_iconst c_21_41 (n_isub c_21_42 rfl (n_istore_n (L2 := [some (2, 44), some (2, 4), some (0, ((3 - 1) + (-1))), some (0, (((3 - 1) + (-1)) - 1))]) c_21_43 rfl rfl (n_iload_n c_21_44 rfl ?_))))
            refine n_if0_lt c_21_45 (by omega) ?_ ?_
            · intro h49
              exfalso; omega
            · intro h50
              refine n_aload_n c_21_48 rfl (n_getR c_21_49 sc_44.n rfl rfl rfl r_44_4 (n_iload_n c_21_52 rfl (n_aload_n c_21_53 rfl (n_getV (bi := 5) c_21_54 sc_44.n rfl rfl rfl (t_44_5 hS48) ?_))))
              intro z51 ez51 f52
              obtain rfl : z51 = 3 := by omega
              refine n_imul c_21_57 rfl (n_iload_n c_21_58 rfl (n_iadd c_21_59 rfl (n_aload_n c_21_60 rfl (n_getV (bi := 2) c_21_61 sc_44.n rfl rfl rfl (t_44_2 hS48) ?_))))
              intro z53 ez53 f54
              obtain rfl : z53 = 5 := by omega
              refine n_iastoreV hS48 c_21_64 sc_45.n rfl (by omega) (w_45 (by omega) (by omega)) ?_
              intro M55 eM55 hS55
              have g55_0 : M55 44 0 = M48 44 0 := by rw [eM55]; exact nu_a (by omega)
              have g55_1 : M55 44 1 = M48 44 1 := by rw [eM55]; exact nu_a (by omega)
              have g55_2 : M55 44 5 = M48 44 5 := by rw [eM55]; exact nu_a (by omega)
              have g55_3 : M55 44 3 = M48 44 3 := by rw [eM55]; exact nu_a (by omega)
              have g55_4 : M55 44 2 = M48 44 2 := by rw [eM55]; exact nu_a (by omega)
              refine n_aload_n c_21_65 rfl (n_getR c_21_66 sc_44.n rfl rfl rfl r_44_4 (n_iload_n c_21_69 rfl (n_aload_n c_21_70 rfl (n_getV (bi := 5) c_21_71 sc_44.n rfl rfl rfl (t_44_5 hS55) ?_))))
              intro z56 ez56 f57
              obtain rfl : z56 = 3 := by omega
              refine n_imul c_21_74 rfl (n_iload_n c_21_75 rfl (n_iadd c_21_76 rfl (n_aload_n c_21_77 rfl (n_getV (bi := 2) c_21_78 sc_44.n rfl rfl rfl (t_44_2 hS55) ?_))))
              intro z58 ez58 f59
              obtain rfl : z58 = 5 := by omega
              refine n_iastoreV hS55 c_21_81 sc_45.n rfl (by omega) (w_45 (by omega) (by omega)) ?_
              intro M60 eM60 hS60
              have g60_0 : M60 44 0 = M55 44 0 := by rw [eM60]; exact nu_a (by omega)
              have g60_1 : M60 44 1 = M55 44 1 := by rw [eM60]; exact nu_a (by omega)
              have g60_2 : M60 44 5 = M55 44 5 := by rw [eM60]; exact nu_a (by omega)
              have g60_3 : M60 44 3 = M55 44 3 := by rw [eM60]; exact nu_a (by omega)
              have g60_4 : M60 44 2 = M55 44 2 := by rw [eM60]; exact nu_a (by omega)
              refine n_aload_n c_21_82 rfl (n_dup2 c_21_83 (n_getV (bi := 2) c_21_84 sc_44.n rfl rfl rfl (t_44_2 hS60) ?_))
              intro z61 ez61 f62
              obtain rfl : z61 = 5 := by omega
              refine n_iconst c_21_87 (n_iadd c_21_88 rfl (n_putV (bi := 2) hS60 c_21_89 sc_44.n rfl rfl rfl rfl (w_44_2 (by omega)) ?_))
              intro M63 eM63 hS63
              have g63_0 : M63 44 0 = M60 44 0 := by rw [eM63]; exact nu_i (by omega)
              have g63_1 : M63 44 1 = M60 44 1 := by rw [eM63]; exact nu_i (by omega)
              have g63_2 : M63 44 5 = M60 44 5 := by rw [eM63]; exact nu_i (by omega)
              have g63_3 : M63 44 3 = M60 44 3 := by rw [eM63]; exact nu_i (by omega)
              have g63_4 : M63 44 2 = (5 + 1) := by rw [eM63]; exact nu_s _ _ _ _
              refine n_iinc (L2 := [some (2, 44), some (2, 4), some (0, ((3 - 1) + (-1))), some (0, ((((3 - 1) + (-1)) - 1) + (-1)))]) c_21_92 rfl rfl rfl (n_goto c_21_95 (n_iload_n c_21_44 rfl ?_))
              refine n_if0_lt c_21_45 (by omega) ?_ ?_
              · intro h64
                refine n_iinc (L2 := [some (2, 44), some (2, 4), some (0, (((3 - 1) + (-1)) + (-1))), some (0, ((((3 - 1) + (-1)) - 1) + (-1)))]) c_21_98 rfl rfl rfl (n_goto c_21_101 (n_iload_n c_21_22 rfl ?_))
                refine n_if0_lt c_21_23 (by omega) ?_ ?_
                · intro h65
                  exfalso; omega
                · intro h66
                  refine n_aload_n c_21_26 rfl (n_getR c_21_27 sc_44.n rfl rfl rfl r_44_4 (n_iload_n c_21_30 rfl (n_aload_n c_21_31 rfl (n_getV (bi := 5) c_21_32 sc_44.n rfl rfl rfl (t_44_5 hS63) ?_))))
                  intro z67 ez67 f68
                  obtain rfl : z67 = 3 := by omega
                  refine n_imul c_21_35 rfl (n_iload_n c_21_36 rfl (n_iadd c_21_37 rfl (n_iload_n c_21_38 rfl (n_iastoreV hS63 c_21_39 sc_45.n rfl (by omega) (w_45 (by omega) (by omega)) ?_))))
                  intro M69 eM69 hS69
                  have g69_0 : M69 44 0 = M63 44 0 := by rw [eM69]; exact nu_a (by omega)
                  have g69_1 : M69 44 1 = M63 44 1 := by rw [eM69]; exact nu_a (by omega)
                  have g69_2 : M69 44 5 = M63 44 5 := by rw [eM69]; exact nu_a (by omega)
                  have g69_3 : M69 44 3 = M63 44 3 := by rw [eM69]; exact nu_a (by omega)
                  have g69_4 : M69 44 2 = M63 44 2 := by rw [eM69]; exact nu_a (by omega)
                  refine n_iload_n c_21_40 rfl (n_iconst c_21_41 (n_isub c_21_42 rfl (n_istore_n (L2 := [some (2, 44), some (2, 4), some (0, (((3 - 1) + (-1)) + (-1))), some (0, ((((3 - 1) + (-1)) + (-1)) - 1))]) c_21_43 rfl rfl (n_iload_n c_21_44 rfl ?_))))
                  refine n_if0_lt c_21_45 (by omega) ?_ ?_
                  · intro h70
                    refine n_iinc (L2 := [some (2, 44), some (2, 4), some (0, ((((3 - 1) + (-1)) + (-1)) + (-1))), some (0, ((((3 - 1) + (-1)) + (-1)) - 1))]) c_21_98 rfl rfl rfl (n_goto c_21_101 (n_iload_n c_21_22 rfl ?_))
                    refine n_if0_lt c_21_23 (by omega) ?_ ?_
                    · intro h71
                      refine n_aload_n c_21_104 rfl (n_aload_n c_21_105 rfl ?_)
                      have h440 : M69 44 0 = 2 := by rw [eM69, nu_a (by omega), eM63, nu_i (by omega), eM60, nu_a (by omega), eM55, nu_a (by omega), eM48, nu_a (by omega), eM42, nu_i (by omega), eM39, nu_a (by omega), eM34, nu_a (by omega), eM27, nu_i (by omega), eM24, nu_a (by omega), eM19, nu_a (by omega), eM12, nu_a (by omega), eM5, nu_i (by omega)]; exact f4p0.2.1
                      have h441 : M69 44 1 = 3 := by rw [eM69, nu_a (by omega), eM63, nu_i (by omega), eM60, nu_a (by omega), eM55, nu_a (by omega), eM48, nu_a (by omega), eM42, nu_i (by omega), eM39, nu_a (by omega), eM34, nu_a (by omega), eM27, nu_i (by omega), eM24, nu_a (by omega), eM19, nu_a (by omega), eM12, nu_a (by omega), eM5, nu_i (by omega)]; have y := f4p0.2.2.1; omega
                      have h442 : M69 44 2 = 6 := by rw [eM69, nu_a (by omega), eM63, nu_e, if_pos ⟨rfl, by omega⟩] <;> omega
                      have h443 : M69 44 3 = 1 := by rw [eM69, nu_a (by omega), eM63, nu_i (by omega), eM60, nu_a (by omega), eM55, nu_a (by omega), eM48, nu_a (by omega), eM42, nu_i (by omega), eM39, nu_a (by omega), eM34, nu_a (by omega), eM27, nu_i (by omega), eM24, nu_a (by omega), eM19, nu_a (by omega), eM12, nu_a (by omega), eM5, nu_e, if_pos ⟨rfl, by omega⟩]
                      have h445 : M69 44 5 = 3 := by rw [eM69, nu_a (by omega), eM63, nu_i (by omega), eM60, nu_a (by omega), eM55, nu_a (by omega), eM48, nu_a (by omega), eM42, nu_i (by omega), eM39, nu_a (by omega), eM34, nu_a (by omega), eM27, nu_i (by omega), eM24, nu_a (by omega), eM19, nu_a (by omega), eM12, nu_a (by omega), eM5, nu_i (by omega)]; exact f4p0.1
                      have row0 : M69 45 0 = 0 := by rw [eM69, nu_e, if_pos ⟨rfl, by omega⟩] <;> omega
                      have row1 : M69 45 1 = 5 := by rw [eM69, nu_i (by omega), eM63, nu_a (by omega), eM60, nu_e, if_pos ⟨rfl, by omega⟩] <;> omega
                      have row2 : M69 45 2 = 4 := by rw [eM69, nu_i (by omega), eM63, nu_a (by omega), eM60, nu_i (by omega), eM55, nu_i (by omega), eM48, nu_i (by omega), eM42, nu_a (by omega), eM39, nu_e, if_pos ⟨rfl, by omega⟩] <;> omega
                      have row3 : M69 45 3 = 5 := by rw [eM69, nu_i (by omega), eM63, nu_a (by omega), eM60, nu_i (by omega), eM55, nu_e, if_pos ⟨rfl, by omega⟩] <;> omega
                      have row4 : M69 45 4 = 1 := by rw [eM69, nu_i (by omega), eM63, nu_a (by omega), eM60, nu_i (by omega), eM55, nu_i (by omega), eM48, nu_e, if_pos ⟨rfl, by omega⟩] <;> omega
                      have row5 : M69 45 5 = 3 := by rw [eM69, nu_i (by omega), eM63, nu_a (by omega), eM60, nu_i (by omega), eM55, nu_i (by omega), eM48, nu_i (by omega), eM42, nu_a (by omega), eM39, nu_i (by omega), eM34, nu_i (by omega), eM27, nu_a (by omega), eM24, nu_e, if_pos ⟨rfl, by omega⟩] <;> omega
                      have row6 : M69 45 6 = 4 := by rw [eM69, nu_i (by omega), eM63, nu_a (by omega), eM60, nu_i (by omega), eM55, nu_i (by omega), eM48, nu_i (by omega), eM42, nu_a (by omega), eM39, nu_i (by omega), eM34, nu_e, if_pos ⟨rfl, by omega⟩] <;> omega
                      have row7 : M69 45 7 = 3 := by rw [eM69, nu_i (by omega), eM63, nu_a (by omega), eM60, nu_i (by omega), eM55, nu_i (by omega), eM48, nu_i (by omega), eM42, nu_a (by omega), eM39, nu_i (by omega), eM34, nu_i (by omega), eM27, nu_a (by omega), eM24, nu_i (by omega), eM19, nu_e, if_pos ⟨rfl, by omega⟩] <;> omega
                      have row8 : M69 45 8 = 2 := by rw [eM69, nu_i (by omega), eM63, nu_a (by omega), eM60, nu_i (by omega), eM55, nu_i (by omega), eM48, nu_i (by omega), eM42, nu_a (by omega), eM39, nu_i (by omega), eM34, nu_i (by omega), eM27, nu_a (by omega), eM24, nu_i (by omega), eM19, nu_i (by omega), eM12, nu_e, if_pos ⟨rfl, by omega⟩] <;> omega
                      have wfr : ∀ a i : Int, a ≠ 44 → a ≠ 45 → M69 a i = Mz a i := fun a i h1 h2 => by rw [eM69, nu_a h2, eM63, nu_a h1, eM60, nu_a h2, eM55, nu_a h2, eM48, nu_a h2, eM42, nu_a h1, eM39, nu_a h2, eM34, nu_a h2, eM27, nu_a h1, eM24, nu_a h2, eM19, nu_a h2, eM12, nu_a h2, eM5, nu_a h1, f4p1 a i h1, hmz]
                      refine n_v1V c_21_106 rfl sc_44.n rfl rfl rfl rfl (repeatX2_3 (Ms := M69) hS69 (by rfl) (by omega)) ?_
                      intro  M72 hP73
                      obtain ⟨hS72, f73p0, f73p1⟩ := hP73
                      exact n_rV c_21_109 rfl ⟨hS72, by exact ⟨by rw [f73p1 44 0 (by omega)]; exact h440, by rw [f73p1 44 1 (by omega)]; exact h441, by rw [f73p1 44 2 (by omega)]; exact h442, by rw [f73p1 44 3 (by omega)]; exact h443, by rw [f73p1 44 5 (by omega)]; exact h445⟩, by exact fun i i0 i1 => by rw [f73p0 i i0 (by omega), show pw 3 (km 0) = 9 by decide]; have r0 : 0 ≤ i % 9 ∧ i % 9 < 9 := (by omega); generalize i % 9 = r at r0 ⊢; rcases c9 r0 with rfl | rfl | rfl | rfl | rfl | rfl | rfl | rfl | rfl; exact row0; exact row1; exact row2; exact row3; exact row4; exact row5; exact row6; exact row7; exact row8, by exact fun a i h1 h2 => by rw [f73p1 a i h2]; exact wfr a i h1 h2⟩
                    · intro h74
                      exfalso; omega
                  · intro h75
                    exfalso; omega
              · intro h76
                exfalso; omega
        · intro h77
          exfalso; omega

set_option maxHeartbeats 4000000 in
theorem beMostX_3_c {xs : List Int32} {e : Nat} {ac : Int} {M0 M : nM} {Mz : nM} (hS : Sf 3 ac M0 M) (hmz : M = Mz) : ∀ nn : Nat, (∀ (x2 : Int) (M : nM), Sf 3 ac M0 M → (-1 ≤ x2 ∧ x2 ≤ 26) → (∀ a i : Int, a ≠ 44 → a ≠ 45 → M a i = Mz a i) → (M 44 5 = 3) → (M 44 0 = 3) → (M 44 1 = 3) → (M 44 2 = tbl (tVn 3) (x2 + 1)) → (M 44 3 = 0) → (∀ r : Int, x2 < r → r < 27 → M 45 r = tbl (kT 1 3) r) → (x2 - (-1)) * 1 + 1 < (nn : Int) → nW xs (e + 1) 22 17 [some (2, 44), some (2, 4), some (0, x2), none, none, none] [] M (nPV fun M1 => Sf 3 ac M0 M1 ∧ (M1 44 0 = 3 ∧ M1 44 1 = 3 ∧ M1 44 2 = 9 ∧ M1 44 3 = 0 ∧ M1 44 5 = 3) ∧ (∀ i : Int, 0 ≤ i → i < 3 * 3 * 3 → M1 45 i = tbl (kT 1 3) (i % pw 3 (km 1))) ∧ (∀ a i : Int, a ≠ 44 → a ≠ 45 → M1 a i = Mz a i))) := by
  have hd : (3 : Int) = 2 ∨ (3 : Int) = 3 := by decide
  have hac := hS.2.2.2.2
  intro nn
  induction nn with
  | zero => intros; omega
  | succ nn ih =>
    intro x2 M hS k2 v0 v1 v2 v3 v4 v5 v6 hnn
    have tvc := tv_r (d := 3) (r := x2 + 1) (by decide) (by omega)
    have kvc : kV 1 3 = 9 := rfl
    refine n_iload_n c_22_17 rfl ?_
    refine n_if0_lt c_22_18 (by omega) ?_ ?_
    · intro h1
      exact n_rV c_22_107 rfl ⟨hS, by have e2 : x2 = -1 := (by omega); exact ⟨v2, v3, by rw [v4, e2]; rfl, v5, v1⟩, by exact fun i i0 i1 => by rw [show pw 3 (km 1) = 27 by decide, Int.emod_eq_of_lt i0 (by omega)]; exact v6 i (by omega) (by omega), by exact v0⟩
    · intro h2
      refine n_aload_n c_22_21 rfl (n_getR c_22_22 sc_4.n rfl rfl rfl r_4_2 (n_iload_n c_22_25 rfl (n_ialoadV c_22_26 sc_5.n rfl rfl rfl (by omega) (t_5d hS hd (by omega) (by omega)) ?_)))
      intro z3 ez3 f4
      have kza : z3 = x2 / (3 * 3) := by rw [ez3]; exact t_5e hS (by omega) (by omega)
      refine n_istore_n (L2 := [some (2, 44), some (2, 4), some (0, x2), some (0, z3), none, none]) c_22_27 rfl rfl (n_aload_n c_22_28 rfl (n_getR c_22_29 sc_4.n rfl rfl rfl r_4_3 (n_iload_n c_22_32 rfl (n_ialoadV c_22_33 sc_6.n rfl rfl rfl (by omega) (t_6d hS hd (by omega) (by omega)) ?_))))
      intro z5 ez5 f6
      have kzb : z5 = x2 / 3 % 3 := by rw [ez5]; exact t_6e hS (by omega) (by omega)
      refine n_istore (L2 := [some (2, 44), some (2, 4), some (0, x2), some (0, z3), some (0, z5), none]) c_22_34 rfl rfl (n_aload_n c_22_36 rfl (n_getR c_22_37 sc_4.n rfl rfl rfl r_4_4 (n_iload_n c_22_40 rfl (n_ialoadV c_22_41 sc_7.n rfl rfl rfl (by omega) (t_7d hS hd (by omega) (by omega)) ?_))))
      intro z7 ez7 f8
      have kzc : z7 = x2 % 3 := by rw [ez7]; exact t_7e hS (by omega) (by omega)
      have mo := mo_i (d := 3) (r := x2) (by decide) (by omega) kza kzb kzc
      have tvr := tv_r (d := 3) (r := x2 + 1) (by decide) (by omega)
      have kv : kV 1 3 = 9 := rfl
      refine n_istore (L2 := [some (2, 44), some (2, 4), some (0, x2), some (0, z3), some (0, z5), some (0, z7)]) c_22_42 rfl rfl (n_iload_n c_22_44 rfl (n_iload c_22_45 rfl ?_))
      refine n_if2_eq c_22_47 (by omega) (by omega) ?_ ?_
      · intro h9
        refine n_aload_n c_22_56 rfl (n_getR c_22_57 sc_44.n rfl rfl rfl r_44_4 (n_iload_n c_22_60 rfl (n_iload_n c_22_61 rfl (n_iastoreV hS c_22_62 sc_45.n rfl (by omega) (w_45 (by omega) (by omega)) ?_))))
        intro M10 eM10 hS10
        have g10_0 : M10 44 2 = M 44 2 := by rw [eM10]; exact nu_a (by omega)
        have ms := mo.1 (by omega)
        refine n_goto c_22_63 (n_iinc (L2 := [some (2, 44), some (2, 4), some (0, (x2 + (-1))), some (0, z3), some (0, z5), some (0, z7)]) c_22_101 rfl rfl rfl (n_goto c_22_104 (n_fg (le_s (le_s (le_s (le_n (le_n (le_n le_0)))))) ?_)))
        exact ih _ M10 hS10 (by omega) (by exact fun a i h1 h2 => by rw [eM10, nu_a h2]; exact v0 a i h1 h2) (by rw [eM10, nu_a (by omega)]; exact v1) (by rw [eM10, nu_a (by omega)]; exact v2) (by rw [eM10, nu_a (by omega)]; exact v3) (by have y : tbl (tVn 3) ((x2 + (-1)) + 1) = tbl (tVn 3) x2 := congrArg _ (by omega); rw [y, eM10, nu_a (by omega), v4]; exact ms.2.symm) (by rw [eM10, nu_a (by omega)]; exact v5) (by exact fun r h0 h1 => by rw [eM10, nu_e]; by_cases y : r = x2; (rw [if_pos ⟨rfl, y⟩, y, ms.1]); (rw [if_neg (fun q => y q.2)]; exact v6 r (by omega) h1)) (by omega)
      · intro h11
        refine n_iload_n c_22_50 rfl (n_iload c_22_51 rfl ?_)
        refine n_if2_ne c_22_53 (by omega) (by omega) ?_ ?_
        · intro h12
          refine n_iload c_22_66 rfl (n_iload c_22_68 rfl ?_)
          refine n_if2_ne c_22_70 (by omega) (by omega) ?_ ?_
          · intro h13
            refine n_aload_n c_22_84 rfl (n_getR c_22_85 sc_44.n rfl rfl rfl r_44_4 (n_iload_n c_22_88 rfl (n_aload_n c_22_89 rfl (n_dup2 c_22_90 (n_getV (bi := 2) c_22_91 sc_44.n rfl rfl rfl (t_44_2 hS) ?_)))))
            intro z14 ez14 f15
            have ms := mo.2.2 (by omega) (by omega) (by omega)
            refine n_dup_x102 c_22_94 (n_iconst c_22_95 (n_iadd c_22_96 rfl (n_putV (bi := 2) hS c_22_97 sc_44.n rfl rfl rfl rfl (w_44_2 (by omega)) ?_)))
            intro M16 eM16 hS16
            have g16_0 : M16 44 2 = (z14 + 1) := by rw [eM16]; exact nu_s _ _ _ _
            refine n_iastoreV hS16 c_22_100 sc_45.n rfl (by omega) (w_45 (by omega) (by omega)) ?_
            intro M17 eM17 hS17
            have g17_0 : M17 44 2 = M16 44 2 := by rw [eM17]; exact nu_a (by omega)
            refine n_iinc (L2 := [some (2, 44), some (2, 4), some (0, (x2 + (-1))), some (0, z3), some (0, z5), some (0, z7)]) c_22_101 rfl rfl rfl (n_goto c_22_104 (n_fg (le_s (le_s (le_s (le_n (le_n (le_n le_0)))))) ?_))
            exact ih _ M17 hS17 (by omega) (by exact fun a i h1 h2 => by rw [eM17, nu_a h2, eM16, nu_a h1]; exact v0 a i h1 h2) (by rw [eM17, nu_a (by omega), eM16, nu_i (by omega)]; exact v1) (by rw [eM17, nu_a (by omega), eM16, nu_i (by omega)]; exact v2) (by rw [eM17, nu_a (by omega), eM16, nu_i (by omega)]; exact v3) (by have y : tbl (tVn 3) ((x2 + (-1)) + 1) = tbl (tVn 3) x2 := congrArg _ (by omega); rw [y, eM17, nu_a (by omega), eM16, nu_s]; omega) (by rw [eM17, nu_a (by omega), eM16, nu_i (by omega)]; exact v5) (by exact fun r h0 h1 => by rw [eM17, nu_e]; by_cases y : r = x2; (rw [if_pos ⟨rfl, y⟩, y, ms.1]; omega); (rw [if_neg (fun q => y q.2), eM16, nu_a (by omega)]; exact v6 r (by omega) h1)) (by omega)
          · intro h18
            refine n_aload_n c_22_73 rfl (n_getR c_22_74 sc_44.n rfl rfl rfl r_44_4 (n_iload_n c_22_77 rfl (n_iload c_22_78 rfl (n_iastoreV hS c_22_80 sc_45.n rfl (by omega) (w_45 (by omega) (by omega)) ?_))))
            intro M19 eM19 hS19
            have g19_0 : M19 44 2 = M 44 2 := by rw [eM19]; exact nu_a (by omega)
            have ms := mo.2.1 (by omega)
            refine n_goto c_22_81 (n_iinc (L2 := [some (2, 44), some (2, 4), some (0, (x2 + (-1))), some (0, z3), some (0, z5), some (0, z7)]) c_22_101 rfl rfl rfl (n_goto c_22_104 (n_fg (le_s (le_s (le_s (le_n (le_n (le_n le_0)))))) ?_)))
            exact ih _ M19 hS19 (by omega) (by exact fun a i h1 h2 => by rw [eM19, nu_a h2]; exact v0 a i h1 h2) (by rw [eM19, nu_a (by omega)]; exact v1) (by rw [eM19, nu_a (by omega)]; exact v2) (by rw [eM19, nu_a (by omega)]; exact v3) (by have y : tbl (tVn 3) ((x2 + (-1)) + 1) = tbl (tVn 3) x2 := congrArg _ (by omega); rw [y, eM19, nu_a (by omega), v4]; exact ms.2.symm) (by rw [eM19, nu_a (by omega)]; exact v5) (by exact fun r h0 h1 => by rw [eM19, nu_e]; by_cases y : r = x2; (rw [if_pos ⟨rfl, y⟩, y, ms.1]); (rw [if_neg (fun q => y q.2)]; exact v6 r (by omega) h1)) (by omega)
        · intro h20
          refine n_aload_n c_22_56 rfl (n_getR c_22_57 sc_44.n rfl rfl rfl r_44_4 (n_iload_n c_22_60 rfl (n_iload_n c_22_61 rfl (n_iastoreV hS c_22_62 sc_45.n rfl (by omega) (w_45 (by omega) (by omega)) ?_))))
          intro M21 eM21 hS21
          have g21_0 : M21 44 2 = M 44 2 := by rw [eM21]; exact nu_a (by omega)
          have ms := mo.1 (by omega)
          refine n_goto c_22_63 (n_iinc (L2 := [some (2, 44), some (2, 4), some (0, (x2 + (-1))), some (0, z3), some (0, z5), some (0, z7)]) c_22_101 rfl rfl rfl (n_goto c_22_104 (n_fg (le_s (le_s (le_s (le_n (le_n (le_n le_0)))))) ?_)))
          exact ih _ M21 hS21 (by omega) (by exact fun a i h1 h2 => by rw [eM21, nu_a h2]; exact v0 a i h1 h2) (by rw [eM21, nu_a (by omega)]; exact v1) (by rw [eM21, nu_a (by omega)]; exact v2) (by rw [eM21, nu_a (by omega)]; exact v3) (by have y : tbl (tVn 3) ((x2 + (-1)) + 1) = tbl (tVn 3) x2 := congrArg _ (by omega); rw [y, eM21, nu_a (by omega), v4]; exact ms.2.symm) (by rw [eM21, nu_a (by omega)]; exact v5) (by exact fun r h0 h1 => by rw [eM21, nu_e]; by_cases y : r = x2; (rw [if_pos ⟨rfl, y⟩, y, ms.1]); (rw [if_neg (fun q => y q.2)]; exact v6 r (by omega) h1)) (by omega)
set_option maxHeartbeats 4000000 in
theorem beMostX_3 {xs : List Int32} {e : Nat} {ac : Int} {M0 M : nM} {Mz : nM} (hS : Sf 3 ac M0 M) (hmz : M = Mz) : nW xs (e + 1) 22 0 [some (2, 44), some (2, 4), none, none, none, none] [] M (nPV fun M1 => Sf 3 ac M0 M1 ∧ (M1 44 0 = 3 ∧ M1 44 1 = 3 ∧ M1 44 2 = 9 ∧ M1 44 3 = 0 ∧ M1 44 5 = 3) ∧ (∀ i : Int, 0 ≤ i → i < 3 * 3 * 3 → M1 45 i = tbl (kT 1 3) (i % pw 3 (km 1))) ∧ (∀ a i : Int, a ≠ 44 → a ≠ 45 → M1 a i = Mz a i)) := by
  have hd : (3 : Int) = 2 ∨ (3 : Int) = 3 := by decide
  have hac := hS.2.2.2.2
  refine n_aload_n c_22_0 rfl (n_iconst c_22_1 (n_aload_n c_22_2 rfl (n_getV (bi := 0) c_22_3 sc_4.n rfl rfl rfl (t_4_0 hS) ?_)))
  intro z1 ez1 f2
  obtain rfl : z1 = 3 := by omega
  refine n_aload_n c_22_6 rfl (n_v3V c_22_7 rfl sc_44.n rfl rfl rfl rfl (beginX_3 (n := 3) (c := 3) hS (by omega) (by omega)) ?_)
  intro  M3 hP4
  obtain ⟨hS3, f4p0, f4p1⟩ := hP4
  refine n_aload_n c_22_10 rfl (n_getV (bi := 1) c_22_11 sc_4.n rfl rfl rfl (t_4_1 hS3) ?_)
  intro z5 ez5 f6
  obtain rfl : z5 = 27 := by omega
  refine n_iconst c_22_14 (n_isub c_22_15 rfl (n_istore_n (L2 := [some (2, 44), some (2, 4), some (0, (27 - 1)), none, none, none]) c_22_16 rfl rfl (n_fg (le_s (le_s (le_s (le_n (le_n (le_n le_0)))))) ?_)))
  exact (beMostX_3_c hS hmz 68) _ M3 hS3 (by omega) (by exact fun a i h1 _ => by rw [f4p1 a i h1, hmz]) (by exact f4p0.1) (by exact f4p0.2.1) (by have y := f4p0.2.2.1; omega) (by have y := f4p0.2.2.2.1; rw [y]; rfl) (by exact f4p0.2.2.2.2) (by exact fun r h0 h1 => by omega) (by omega)

set_option maxHeartbeats 4000000 in
theorem fmodX1_3 {xs : List Int32} {e : Nat} {ac : Int} {M0 M : nM} (hS : Sf 3 ac M0 M)  : nW xs e 204 0 [some (0, (-2)), some (0, 3), none] [] M (nPI fun z M1 => M = M1 ∧ (1 ≤ z ∧ z ≤ 1) ∧ (z = (-2 : Int) % 3)) := by
  have hd : (3 : Int) = 2 ∨ (3 : Int) = 3 := by decide
  have hac := hS.2.2.2.2
  refine n_iload_n c_204_0 rfl (n_iload_n c_204_1 rfl (n_iremT (z := (-2)) c_204_2 (by omega) (by omega) (by omega) (by decide) ?_))
  refine n_istore_n (L2 := [some (0, (-2)), some (0, 3), some (0, (-2))]) c_204_3 rfl rfl (n_iload_n c_204_4 rfl (n_iload_n c_204_5 rfl (n_i_ixor (z := (-3)) c_204_6 (by decide) ?_)))
  refine n_if0_ge c_204_7 (by omega) ?_ ?_
  · intro h1
    exfalso; omega
  · intro h2
    refine n_iload_n c_204_10 rfl ?_
    refine n_if0_eq c_204_11 (by omega) ?_ ?_
    · intro h3
      exfalso; omega
    · intro h4
      refine n_iload_n c_204_14 rfl (n_iload_n c_204_15 rfl (n_iadd c_204_16 rfl ?_))
      exact n_rI c_204_17 rfl ⟨rfl, by omega, by omega⟩

set_option maxHeartbeats 4000000 in
theorem fmodX2_3 {xs : List Int32} {e : Nat} {ac : Int} {M0 M : nM} (hS : Sf 3 ac M0 M)  : nW xs e 204 0 [some (0, (-1)), some (0, 3), none] [] M (nPI fun z M1 => M = M1 ∧ (2 ≤ z ∧ z ≤ 2) ∧ (z = (-1 : Int) % 3)) := by
  have hd : (3 : Int) = 2 ∨ (3 : Int) = 3 := by decide
  have hac := hS.2.2.2.2
  refine n_iload_n c_204_0 rfl (n_iload_n c_204_1 rfl (n_iremT (z := (-1)) c_204_2 (by omega) (by omega) (by omega) (by decide) ?_))
  refine n_istore_n (L2 := [some (0, (-1)), some (0, 3), some (0, (-1))]) c_204_3 rfl rfl (n_iload_n c_204_4 rfl (n_iload_n c_204_5 rfl (n_i_ixor (z := (-4)) c_204_6 (by decide) ?_)))
  refine n_if0_ge c_204_7 (by omega) ?_ ?_
  · intro h1
    exfalso; omega
  · intro h2
    refine n_iload_n c_204_10 rfl ?_
    refine n_if0_eq c_204_11 (by omega) ?_ ?_
    · intro h3
      exfalso; omega
    · intro h4
      refine n_iload_n c_204_14 rfl (n_iload_n c_204_15 rfl (n_iadd c_204_16 rfl ?_))
      exact n_rI c_204_17 rfl ⟨rfl, by omega, by omega⟩

set_option maxHeartbeats 4000000 in
theorem fmodX3_3_c {xs : List Int32} {e : Nat} {ac : Int} {M0 M : nM} (hS : Sf 3 ac M0 M)  : ∀ nn : Nat, (∀ (x2 : Int), (0 ≤ x2 ∧ x2 ≤ 0) → 1 < (nn : Int) → nW xs e 204 18 [none, none, some (0, x2)] [] M (nPI fun z M1 => M = M1 ∧ (0 ≤ z ∧ z ≤ 0) ∧ (z = (0 : Int) % 3))) := by
  have hd : (3 : Int) = 2 ∨ (3 : Int) = 3 := by decide
  have hac := hS.2.2.2.2
  intro nn
  induction nn with
  | zero => intros; omega
  | succ nn ih =>
    intro x2 k2 hnn
    refine n_iload_n c_204_18 rfl ?_
    exact n_rI c_204_19 rfl ⟨rfl, by omega, by omega⟩
set_option maxHeartbeats 4000000 in
theorem fmodX3_3 {xs : List Int32} {e : Nat} {ac : Int} {M0 M : nM} (hS : Sf 3 ac M0 M)  : nW xs e 204 0 [some (0, 0), some (0, 3), none] [] M (nPI fun z M1 => M = M1 ∧ (0 ≤ z ∧ z ≤ 0) ∧ (z = (0 : Int) % 3)) := by
  have hd : (3 : Int) = 2 ∨ (3 : Int) = 3 := by decide
  have hac := hS.2.2.2.2
  refine n_iload_n c_204_0 rfl (n_iload_n c_204_1 rfl (n_iremT (z := 0) c_204_2 (by omega) (by omega) (by omega) (by decide) ?_))
  refine n_istore_n (L2 := [some (0, 0), some (0, 3), some (0, 0)]) c_204_3 rfl rfl (n_iload_n c_204_4 rfl (n_iload_n c_204_5 rfl (n_i_ixor (z := 3) c_204_6 (by decide) ?_)))
  refine n_if0_ge c_204_7 (by omega) ?_ ?_
  · intro h1
    refine n_fg (le_n (le_n (le_s le_0))) ?_
    exact (fmodX3_3_c hS  12) _ (by omega) (by omega)
  · intro h2
    exfalso; omega

set_option maxHeartbeats 4000000 in
theorem fmodX4_3_c {xs : List Int32} {e : Nat} {ac : Int} {M0 M : nM} (hS : Sf 3 ac M0 M)  : ∀ nn : Nat, (∀ (x2 : Int), (1 ≤ x2 ∧ x2 ≤ 1) → 1 < (nn : Int) → nW xs e 204 18 [none, none, some (0, x2)] [] M (nPI fun z M1 => M = M1 ∧ (1 ≤ z ∧ z ≤ 1) ∧ (z = (1 : Int) % 3))) := by
  have hd : (3 : Int) = 2 ∨ (3 : Int) = 3 := by decide
  have hac := hS.2.2.2.2
  intro nn
  induction nn with
  | zero => intros; omega
  | succ nn ih =>
    intro x2 k2 hnn
    refine n_iload_n c_204_18 rfl ?_
    exact n_rI c_204_19 rfl ⟨rfl, by omega, by omega⟩
set_option maxHeartbeats 4000000 in
theorem fmodX4_3 {xs : List Int32} {e : Nat} {ac : Int} {M0 M : nM} (hS : Sf 3 ac M0 M)  : nW xs e 204 0 [some (0, 1), some (0, 3), none] [] M (nPI fun z M1 => M = M1 ∧ (1 ≤ z ∧ z ≤ 1) ∧ (z = (1 : Int) % 3)) := by
  have hd : (3 : Int) = 2 ∨ (3 : Int) = 3 := by decide
  have hac := hS.2.2.2.2
  refine n_iload_n c_204_0 rfl (n_iload_n c_204_1 rfl (n_iremT (z := 1) c_204_2 (by omega) (by omega) (by omega) (by decide) ?_))
  refine n_istore_n (L2 := [some (0, 1), some (0, 3), some (0, 1)]) c_204_3 rfl rfl (n_iload_n c_204_4 rfl (n_iload_n c_204_5 rfl (n_i_ixor (z := 2) c_204_6 (by decide) ?_)))
  refine n_if0_ge c_204_7 (by omega) ?_ ?_
  · intro h1
    refine n_fg (le_n (le_n (le_s le_0))) ?_
    exact (fmodX4_3_c hS  12) _ (by omega) (by omega)
  · intro h2
    exfalso; omega

set_option maxHeartbeats 4000000 in
theorem fmodX5_3_c {xs : List Int32} {e : Nat} {ac : Int} {M0 M : nM} (hS : Sf 3 ac M0 M)  : ∀ nn : Nat, (∀ (x2 : Int), (2 ≤ x2 ∧ x2 ≤ 2) → 1 < (nn : Int) → nW xs e 204 18 [none, none, some (0, x2)] [] M (nPI fun z M1 => M = M1 ∧ (2 ≤ z ∧ z ≤ 2) ∧ (z = (2 : Int) % 3))) := by
  have hd : (3 : Int) = 2 ∨ (3 : Int) = 3 := by decide
  have hac := hS.2.2.2.2
  intro nn
  induction nn with
  | zero => intros; omega
  | succ nn ih =>
    intro x2 k2 hnn
    refine n_iload_n c_204_18 rfl ?_
    exact n_rI c_204_19 rfl ⟨rfl, by omega, by omega⟩
set_option maxHeartbeats 4000000 in
theorem fmodX5_3 {xs : List Int32} {e : Nat} {ac : Int} {M0 M : nM} (hS : Sf 3 ac M0 M)  : nW xs e 204 0 [some (0, 2), some (0, 3), none] [] M (nPI fun z M1 => M = M1 ∧ (2 ≤ z ∧ z ≤ 2) ∧ (z = (2 : Int) % 3)) := by
  have hd : (3 : Int) = 2 ∨ (3 : Int) = 3 := by decide
  have hac := hS.2.2.2.2
  refine n_iload_n c_204_0 rfl (n_iload_n c_204_1 rfl (n_iremT (z := 2) c_204_2 (by omega) (by omega) (by omega) (by decide) ?_))
  refine n_istore_n (L2 := [some (0, 2), some (0, 3), some (0, 2)]) c_204_3 rfl rfl (n_iload_n c_204_4 rfl (n_iload_n c_204_5 rfl (n_i_ixor (z := 1) c_204_6 (by decide) ?_)))
  refine n_if0_ge c_204_7 (by omega) ?_ ?_
  · intro h1
    refine n_fg (le_n (le_n (le_s le_0))) ?_
    exact (fmodX5_3_c hS  12) _ (by omega) (by omega)
  · intro h2
    exfalso; omega

set_option maxHeartbeats 4000000 in
theorem fmodX6_3_c {xs : List Int32} {e : Nat} {ac : Int} {M0 M : nM} (hS : Sf 3 ac M0 M)  : ∀ nn : Nat, (∀ (x2 : Int), (0 ≤ x2 ∧ x2 ≤ 0) → 1 < (nn : Int) → nW xs e 204 18 [none, none, some (0, x2)] [] M (nPI fun z M1 => M = M1 ∧ (0 ≤ z ∧ z ≤ 0) ∧ (z = (3 : Int) % 3))) := by
  have hd : (3 : Int) = 2 ∨ (3 : Int) = 3 := by decide
  have hac := hS.2.2.2.2
  intro nn
  induction nn with
  | zero => intros; omega
  | succ nn ih =>
    intro x2 k2 hnn
    refine n_iload_n c_204_18 rfl ?_
    exact n_rI c_204_19 rfl ⟨rfl, by omega, by omega⟩
set_option maxHeartbeats 4000000 in
theorem fmodX6_3 {xs : List Int32} {e : Nat} {ac : Int} {M0 M : nM} (hS : Sf 3 ac M0 M)  : nW xs e 204 0 [some (0, 3), some (0, 3), none] [] M (nPI fun z M1 => M = M1 ∧ (0 ≤ z ∧ z ≤ 0) ∧ (z = (3 : Int) % 3)) := by
  have hd : (3 : Int) = 2 ∨ (3 : Int) = 3 := by decide
  have hac := hS.2.2.2.2
  refine n_iload_n c_204_0 rfl (n_iload_n c_204_1 rfl (n_iremT (z := 0) c_204_2 (by omega) (by omega) (by omega) (by decide) ?_))
  refine n_istore_n (L2 := [some (0, 3), some (0, 3), some (0, 0)]) c_204_3 rfl rfl (n_iload_n c_204_4 rfl (n_iload_n c_204_5 rfl (n_i_ixor (z := 0) c_204_6 (by decide) ?_)))
  refine n_if0_ge c_204_7 (by omega) ?_ ?_
  · intro h1
    refine n_fg (le_n (le_n (le_s le_0))) ?_
    exact (fmodX6_3_c hS  12) _ (by omega) (by omega)
  · intro h2
    exfalso; omega

set_option maxHeartbeats 4000000 in
theorem fmodX7_3_c {xs : List Int32} {e : Nat} {ac : Int} {M0 M : nM} (hS : Sf 3 ac M0 M)  : ∀ nn : Nat, (∀ (x2 : Int), (1 ≤ x2 ∧ x2 ≤ 1) → 1 < (nn : Int) → nW xs e 204 18 [none, none, some (0, x2)] [] M (nPI fun z M1 => M = M1 ∧ (1 ≤ z ∧ z ≤ 1) ∧ (z = (4 : Int) % 3))) := by
  have hd : (3 : Int) = 2 ∨ (3 : Int) = 3 := by decide
  have hac := hS.2.2.2.2
  intro nn
  induction nn with
  | zero => intros; omega
  | succ nn ih =>
    intro x2 k2 hnn
    refine n_iload_n c_204_18 rfl ?_
    exact n_rI c_204_19 rfl ⟨rfl, by omega, by omega⟩
set_option maxHeartbeats 4000000 in
theorem fmodX7_3 {xs : List Int32} {e : Nat} {ac : Int} {M0 M : nM} (hS : Sf 3 ac M0 M)  : nW xs e 204 0 [some (0, 4), some (0, 3), none] [] M (nPI fun z M1 => M = M1 ∧ (1 ≤ z ∧ z ≤ 1) ∧ (z = (4 : Int) % 3)) := by
  have hd : (3 : Int) = 2 ∨ (3 : Int) = 3 := by decide
  have hac := hS.2.2.2.2
  refine n_iload_n c_204_0 rfl (n_iload_n c_204_1 rfl (n_iremT (z := 1) c_204_2 (by omega) (by omega) (by omega) (by decide) ?_))
  refine n_istore_n (L2 := [some (0, 4), some (0, 3), some (0, 1)]) c_204_3 rfl rfl (n_iload_n c_204_4 rfl (n_iload_n c_204_5 rfl (n_i_ixor (z := 7) c_204_6 (by decide) ?_)))
  refine n_if0_ge c_204_7 (by omega) ?_ ?_
  · intro h1
    refine n_fg (le_n (le_n (le_s le_0))) ?_
    exact (fmodX7_3_c hS  12) _ (by omega) (by omega)
  · intro h2
    exfalso; omega

set_option maxHeartbeats 4000000 in
theorem fmodX_3 {xs : List Int32} {e : Nat} {ac : Int} {M0 M : nM} {x : Int} (hS : Sf 3 ac M0 M) (hx : -2 ≤ x ∧ x ≤ 4) : nW xs e 204 0 [some (0, x), some (0, 3), none] [] M (nPI fun z M1 => M = M1 ∧ (0 ≤ z ∧ z ≤ 2) ∧ (z = x % 3)) := by
  rcases (show x = (-2) ∨ x = (-1) ∨ x = 0 ∨ x = 1 ∨ x = 2 ∨ x = 3 ∨ x = 4 by omega) with rfl | rfl | rfl | rfl | rfl | rfl | rfl
  · exact n_post (fmodX1_3 hS ) (fun w M1 h => by obtain ⟨z, rfl, h1, h2, h3⟩ := h; exact ⟨z, rfl, h1, by omega, h3⟩)
  · exact n_post (fmodX2_3 hS ) (fun w M1 h => by obtain ⟨z, rfl, h1, h2, h3⟩ := h; exact ⟨z, rfl, h1, by omega, h3⟩)
  · exact n_post (fmodX3_3 hS ) (fun w M1 h => by obtain ⟨z, rfl, h1, h2, h3⟩ := h; exact ⟨z, rfl, h1, by omega, h3⟩)
  · exact n_post (fmodX4_3 hS ) (fun w M1 h => by obtain ⟨z, rfl, h1, h2, h3⟩ := h; exact ⟨z, rfl, h1, by omega, h3⟩)
  · exact n_post (fmodX5_3 hS ) (fun w M1 h => by obtain ⟨z, rfl, h1, h2, h3⟩ := h; exact ⟨z, rfl, h1, by omega, h3⟩)
  · exact n_post (fmodX6_3 hS ) (fun w M1 h => by obtain ⟨z, rfl, h1, h2, h3⟩ := h; exact ⟨z, rfl, h1, by omega, h3⟩)
  · exact n_post (fmodX7_3 hS ) (fun w M1 h => by obtain ⟨z, rfl, h1, h2, h3⟩ := h; exact ⟨z, rfl, h1, by omega, h3⟩)

set_option maxHeartbeats 4000000 in
theorem beSumX_3_c {xs : List Int32} {e : Nat} {ac : Int} {M0 M : nM} {Mz : nM} (hS : Sf 3 ac M0 M) (hmz : M = Mz) : ∀ nn : Nat, (∀ (x2 : Int) (M : nM), Sf 3 ac M0 M → (0 ≤ x2 ∧ x2 ≤ 27) → (∀ a i : Int, a ≠ 44 → a ≠ 45 → M a i = Mz a i) → (M 44 5 = 3) → (M 44 0 = 3) → (M 44 1 = 3) → (M 44 2 = 3) → (M 44 3 = 0) → (∀ r : Int, 0 ≤ r → r < x2 → M 45 r = tbl (kT 2 3) r) → (27 - x2) * 1 + 1 < (nn : Int) → nW xs (e + 1) 23 12 [some (2, 44), some (2, 4), some (0, x2), none] [] M (nPV fun M1 => Sf 3 ac M0 M1 ∧ (M1 44 0 = 3 ∧ M1 44 1 = 3 ∧ M1 44 2 = 3 ∧ M1 44 3 = 0 ∧ M1 44 5 = 3) ∧ (∀ i : Int, 0 ≤ i → i < 3 * 3 * 3 → M1 45 i = tbl (kT 2 3) (i % pw 3 (km 2))) ∧ (∀ a i : Int, a ≠ 44 → a ≠ 45 → M1 a i = Mz a i))) := by
  have hd : (3 : Int) = 2 ∨ (3 : Int) = 3 := by decide
  have hac := hS.2.2.2.2
  intro nn
  induction nn with
  | zero => intros; omega
  | succ nn ih =>
    intro x2 M hS k2 v0 v1 v2 v3 v4 v5 v6 hnn
    refine n_iload_n c_23_12 rfl (n_aload_n c_23_13 rfl (n_getV (bi := 1) c_23_14 sc_4.n rfl rfl rfl (t_4_1 hS) ?_))
    intro z1 ez1 f2
    obtain rfl : z1 = 27 := by omega
    refine n_if2_ge c_23_17 (by omega) (by omega) ?_ ?_
    · intro h3
      exact n_rV c_23_70 rfl ⟨hS, by exact ⟨v2, v3, v4, v5, v1⟩, by exact fun i i0 i1 => by rw [show pw 3 (km 2) = 27 by decide, Int.emod_eq_of_lt i0 (by omega)]; exact v6 i i0 (by omega), by exact v0⟩
    · intro h4
      refine n_aload_n c_23_20 rfl (n_getR c_23_21 sc_4.n rfl rfl rfl r_4_2 (n_iload_n c_23_24 rfl (n_ialoadV c_23_25 sc_5.n rfl rfl rfl (by omega) (t_5d hS hd (by omega) (by omega)) ?_)))
      intro z5 ez5 f6
      have kza : z5 = x2 / (3 * 3) := by rw [ez5]; exact t_5e hS (by omega) (by omega)
      refine n_aload_n c_23_26 rfl (n_getR c_23_27 sc_4.n rfl rfl rfl r_4_3 (n_iload_n c_23_30 rfl (n_ialoadV c_23_31 sc_6.n rfl rfl rfl (by omega) (t_6d hS hd (by omega) (by omega)) ?_)))
      intro z7 ez7 f8
      have kzb : z7 = x2 / 3 % 3 := by rw [ez7]; exact t_6e hS (by omega) (by omega)
      refine n_isub c_23_32 rfl (n_aload_n c_23_33 rfl (n_getR c_23_34 sc_4.n rfl rfl rfl r_4_4 (n_iload_n c_23_37 rfl (n_ialoadV c_23_38 sc_7.n rfl rfl rfl (by omega) (t_7d hS hd (by omega) (by omega)) ?_))))
      intro z9 ez9 f10
      have kzc : z9 = x2 % 3 := by rw [ez9]; exact t_7e hS (by omega) (by omega)
      refine n_iadd c_23_39 rfl (n_istore_n (L2 := [some (2, 44), some (2, 4), some (0, x2), some (0, ((z5 - z7) + z9))]) c_23_40 rfl rfl (n_aload_n c_23_41 rfl (n_getR c_23_42 sc_44.n rfl rfl rfl r_44_4 (n_iload_n c_23_45 rfl (n_iload_n c_23_46 rfl (n_aload_n c_23_47 rfl (n_getV (bi := 5) c_23_48 sc_44.n rfl rfl rfl (t_44_5 hS) ?_)))))))
      intro z11 ez11 f12
      obtain rfl : z11 = 3 := by omega
      refine n_iconst c_23_51 ?_
      refine n_if2_ne c_23_52 (by omega) (by omega) ?_ ?_
      · intro h13
        refine n_iconst c_23_59 (n_s2I c_23_60 rfl rfl rfl rfl (fmodX_3 (x := ((z5 - z7) + z9)) hS (by omega)) ?_)
        intro z14 M15 hP16
        obtain ⟨eM, f16, f16p0⟩ := hP16
        subst eM
        have su := su_i (d := 3) (r := x2) (by decide) (by omega) kza kzb kzc
        have kf : z14 = tbl (kT 2 3) x2 := by rw [f16p0]; exact su.1.symm
        refine n_iastoreV hS c_23_63 sc_45.n rfl (by omega) (w_45 (by omega) (by omega)) ?_
        intro M17 eM17 hS17
        have g17_0 : M17 44 5 = M 44 5 := by rw [eM17]; exact nu_a (by omega)
        refine n_iinc (L2 := [some (2, 44), some (2, 4), some (0, (x2 + 1)), some (0, ((z5 - z7) + z9))]) c_23_64 rfl rfl rfl (n_goto c_23_67 (n_fg (le_s (le_s (le_s (le_n le_0)))) ?_))
        exact ih _ M17 hS17 (by omega) (by exact fun a i h1 h2 => by rw [eM17, nu_a h2]; exact v0 a i h1 h2) (by rw [eM17, nu_a (by omega)]; exact v1) (by rw [eM17, nu_a (by omega)]; exact v2) (by rw [eM17, nu_a (by omega)]; exact v3) (by rw [eM17, nu_a (by omega)]; exact v4) (by rw [eM17, nu_a (by omega)]; exact v5) (by exact fun r h0 h1 => by rw [eM17, nu_e]; by_cases y : r = x2; (rw [if_pos ⟨rfl, y⟩, y]; exact kf); (rw [if_neg (fun q => y q.2)]; exact v6 r h0 (by omega))) (by omega)
      · intro h18
        exfalso; omega
set_option maxHeartbeats 4000000 in
theorem beSumX_3 {xs : List Int32} {e : Nat} {ac : Int} {M0 M : nM} {Mz : nM} (hS : Sf 3 ac M0 M) (hmz : M = Mz) : nW xs (e + 1) 23 0 [some (2, 44), some (2, 4), none, none] [] M (nPV fun M1 => Sf 3 ac M0 M1 ∧ (M1 44 0 = 3 ∧ M1 44 1 = 3 ∧ M1 44 2 = 3 ∧ M1 44 3 = 0 ∧ M1 44 5 = 3) ∧ (∀ i : Int, 0 ≤ i → i < 3 * 3 * 3 → M1 45 i = tbl (kT 2 3) (i % pw 3 (km 2))) ∧ (∀ a i : Int, a ≠ 44 → a ≠ 45 → M1 a i = Mz a i)) := by
  have hd : (3 : Int) = 2 ∨ (3 : Int) = 3 := by decide
  have hac := hS.2.2.2.2
  refine n_aload_n c_23_0 rfl (n_iconst c_23_1 (n_aload_n c_23_2 rfl (n_getV (bi := 0) c_23_3 sc_4.n rfl rfl rfl (t_4_0 hS) ?_)))
  intro z1 ez1 f2
  obtain rfl : z1 = 3 := by omega
  refine n_aload_n c_23_6 rfl (n_v3V c_23_7 rfl sc_44.n rfl rfl rfl rfl (beginX_3 (n := 3) (c := 3) hS (by omega) (by omega)) ?_)
  intro  M3 hP4
  obtain ⟨hS3, f4p0, f4p1⟩ := hP4
  refine n_iconst c_23_10 (n_istore_n (L2 := [some (2, 44), some (2, 4), some (0, 0), none]) c_23_11 rfl rfl (n_fg (le_s (le_s (le_s (le_n le_0)))) ?_))
  exact (beSumX_3_c hS hmz 68) _ M3 hS3 (by omega) (by exact fun a i h1 _ => by rw [f4p1 a i h1, hmz]) (by exact f4p0.1) (by exact f4p0.2.1) (by have y := f4p0.2.2.1; omega) (by have y := f4p0.2.2.2.1; omega) (by exact f4p0.2.2.2.2) (by exact fun r h0 h1 => by omega) (by omega)

set_option maxHeartbeats 4000000 in
theorem codeX2_3 {xs : List Int32} {e : Nat} {ac : Int} {M0 M : nM} (hS : Sf 3 ac M0 M) (h0 : M 44 0 = 2) : nW xs (e + 1) 26 0 [some (2, 44), some (2, 39), some (2, 4), none, none, none] [] M (nPJ fun z M1 => M = M1 ∧ (-9223372036854775808 ≤ z ∧ z ≤ 9223372036854775807) ∧ (z = cdN 3 (fun x => M 39 (M 45 x)) 0 9)) := by
  have hd : (3 : Int) = 2 ∨ (3 : Int) = 3 := by decide
  have hac := hS.2.2.2.2
  refine n_lconst (n := 0) c_26_0 rfl (n_lstore_n (L2 := [some (2, 44), some (2, 39), some (2, 4), some (1, 0), none, none]) c_26_1 rfl rfl (n_aload_n c_26_2 rfl (n_aload_n c_26_3 rfl (n_getV (bi := 0) c_26_4 sc_44.n rfl rfl rfl (t_44_0 hS) ?_))))
  intro z1 ez1 f2
  obtain rfl : z1 = 2 := by omega
  refine n_v1I c_26_7 rfl sc_4.n rfl rfl rfl rfl (power2_3  hS ) ?_
  intro z3 M4 hP5
  obtain ⟨eM, f5⟩ := hP5
  subst eM
  obtain rfl : z3 = 9 := by omega
  refine n_iconst c_26_10 (n_isub c_26_11 rfl (n_istore (L2 := [some (2, 44), some (2, 39), some (2, 4), some (1, 0), none, some (0, (9 - 1))]) c_26_12 rfl rfl (n_iload c_26_14 rfl ?_)))
  refine n_if0_lt c_26_16 (by omega) ?_ ?_
  · intro h6
    exfalso; omega
  · intro h7
    refine n_lload_n c_26_19 rfl (n_aload_n c_26_20 rfl (n_getV (bi := 0) c_26_21 sc_4.n rfl rfl rfl (t_4_0 hS) ?_))
    intro z8 ez8 f9
    obtain rfl : z8 = 3 := by omega
    refine n_i2l c_26_24 (by omega) ?_
    refine n_lmul c_26_25 rfl (n_aload_n c_26_26 rfl (n_aload_n c_26_27 rfl (n_getR c_26_28 sc_44.n rfl rfl rfl r_44_4 (n_iload c_26_31 rfl (n_ialoadV c_26_33 sc_45.n rfl rfl rfl (by omega) (t_45 hS (by omega)) ?_)))))
    intro z10 ez10 f11
    refine n_ialoadV c_26_34 sc_39.n rfl rfl rfl (by omega) (t_39 hS (by omega)) ?_
    intro z12 ez12 f13
    have kr8 : z12 = M 39 (M 45 8) := ez12.trans (congrArg (M 39) ez10)
    refine n_i2l c_26_35 (by omega) ?_
    refine n_ladd c_26_36 rfl (n_lstore_n (L2 := [some (2, 44), some (2, 39), some (2, 4), some (1, ((0 * 3) + z12)), none, some (0, (9 - 1))]) c_26_37 rfl rfl (n_iinc (L2 := [some (2, 44), some (2, 39), some (2, 4), some (1, ((0 * 3) + z12)), none, some (0, ((9 - 1) + (-1)))]) c_26_38 rfl rfl rfl (n_goto c_26_41 (n_iload c_26_14 rfl ?_))))
    refine n_if0_lt c_26_16 (by omega) ?_ ?_
    · intro h14
      exfalso; omega
    · intro h15
      refine n_lload_n c_26_19 rfl (n_aload_n c_26_20 rfl (n_getV (bi := 0) c_26_21 sc_4.n rfl rfl rfl (t_4_0 hS) ?_))
      intro z16 ez16 f17
      obtain rfl : z16 = 3 := by omega
      refine n_i2l c_26_24 (by omega) ?_
      refine n_lmul c_26_25 rfl (n_aload_n c_26_26 rfl (n_aload_n c_26_27 rfl (n_getR c_26_28 sc_44.n rfl rfl rfl r_44_4 (n_iload c_26_31 rfl (n_ialoadV c_26_33 sc_45.n rfl rfl rfl (by omega) (t_45 hS (by omega)) ?_)))))
      intro z18 ez18 f19
      refine n_ialoadV c_26_34 sc_39.n rfl rfl rfl (by omega) (t_39 hS (by omega)) ?_
      intro z20 ez20 f21
      have kr7 : z20 = M 39 (M 45 7) := ez20.trans (congrArg (M 39) ez18)
      refine n_i2l c_26_35 (by omega) ?_
      refine n_ladd c_26_36 rfl (n_lstore_n (L2 := [some (2, 44), some (2, 39), some (2, 4), some (1, ((((0 * 3) + z12) * 3) + z20)), none, some (0, ((9 - 1) + (-1)))]) c_26_37 rfl rfl (n_iinc (L2 := [some (2, 44), some (2, 39), some (2, 4), some (1, ((((0 * 3) + z12) * 3) + z20)), none, some (0, (((9 - 1) + (-1)) + (-1)))]) c_26_38 rfl rfl rfl (n_goto c_26_41 (n_iload c_26_14 rfl ?_))))
      refine n_if0_lt c_26_16 (by omega) ?_ ?_
      · intro h22
        exfalso; omega
      · intro h23
        refine n_lload_n c_26_19 rfl (n_aload_n c_26_20 rfl (n_getV (bi := 0) c_26_21 sc_4.n rfl rfl rfl (t_4_0 hS) ?_))
        intro z24 ez24 f25
        obtain rfl : z24 = 3 := by omega
        refine n_i2l c_26_24 (by omega) ?_
        refine n_lmul c_26_25 rfl (n_aload_n c_26_26 rfl (n_aload_n c_26_27 rfl (n_getR c_26_28 sc_44.n rfl rfl rfl r_44_4 (n_iload c_26_31 rfl (n_ialoadV c_26_33 sc_45.n rfl rfl rfl (by omega) (t_45 hS (by omega)) ?_)))))
        intro z26 ez26 f27
        refine n_ialoadV c_26_34 sc_39.n rfl rfl rfl (by omega) (t_39 hS (by omega)) ?_
        intro z28 ez28 f29
        have kr6 : z28 = M 39 (M 45 6) := ez28.trans (congrArg (M 39) ez26)
        refine n_i2l c_26_35 (by omega) ?_
        refine n_ladd c_26_36 rfl (n_lstore_n (L2 := [some (2, 44), some (2, 39), some (2, 4), some (1, ((((((0 * 3) + z12) * 3) + z20) * 3) + z28)), none, some (0, (((9 - 1) + (-1)) + (-1)))]) c_26_37 rfl rfl (n_iinc (L2 := [some (2, 44), some (2, 39), some (2, 4), some (1, ((((((0 * 3) + z12) * 3) + z20) * 3) + z28)), none, some (0, ((((9 - 1) + (-1)) + (-1)) + (-1)))]) c_26_38 rfl rfl rfl (n_goto c_26_41 (n_iload c_26_14 rfl ?_))))
        refine n_if0_lt c_26_16 (by omega) ?_ ?_
        · intro h30
          exfalso; omega
        · intro h31
          refine n_lload_n c_26_19 rfl (n_aload_n c_26_20 rfl (n_getV (bi := 0) c_26_21 sc_4.n rfl rfl rfl (t_4_0 hS) ?_))
          intro z32 ez32 f33
          obtain rfl : z32 = 3 := by omega
          refine n_i2l c_26_24 (by omega) ?_
          refine n_lmul c_26_25 rfl (n_aload_n c_26_26 rfl (n_aload_n c_26_27 rfl (n_getR c_26_28 sc_44.n rfl rfl rfl r_44_4 (n_iload c_26_31 rfl (n_ialoadV c_26_33 sc_45.n rfl rfl rfl (by omega) (t_45 hS (by omega)) ?_)))))
          intro z34 ez34 f35
          refine n_ialoadV c_26_34 sc_39.n rfl rfl rfl (by omega) (t_39 hS (by omega)) ?_
          intro z36 ez36 f37
          have kr5 : z36 = M 39 (M 45 5) := ez36.trans (congrArg (M 39) ez34)
          refine n_i2l c_26_35 (by omega) ?_
          refine n_ladd c_26_36 rfl (n_lstore_n (L2 := [some (2, 44), some (2, 39), some (2, 4), some (1, ((((((((0 * 3) + z12) * 3) + z20) * 3) + z28) * 3) + z36)), none, some (0, ((((9 - 1) + (-1)) + (-1)) + (-1)))]) c_26_37 rfl rfl (n_iinc (L2 := [some (2, 44), some (2, 39), some (2, 4), some (1, ((((((((0 * 3) + z12) * 3) + z20) * 3) + z28) * 3) + z36)), none, some (0, (((((9 - 1) + (-1)) + (-1)) + (-1)) + (-1)))]) c_26_38 rfl rfl rfl (n_goto c_26_41 (n_iload c_26_14 rfl ?_))))
          refine n_if0_lt c_26_16 (by omega) ?_ ?_
          · intro h38
            exfalso; omega
          · intro h39
            refine n_lload_n c_26_19 rfl (n_aload_n c_26_20 rfl (n_getV (bi := 0) c_26_21 sc_4.n rfl rfl rfl (t_4_0 hS) ?_))
            intro z40 ez40 f41
            obtain rfl : z40 = 3 := by omega
            refine n_i2l c_26_24 (by omega) ?_
            refine n_lmul c_26_25 rfl (n_aload_n c_26_26 rfl (n_aload_n c_26_27 rfl (n_getR c_26_28 sc_44.n rfl rfl rfl r_44_4 (n_iload c_26_31 rfl (n_ialoadV c_26_33 sc_45.n rfl rfl rfl (by omega) (t_45 hS (by omega)) ?_)))))
            intro z42 ez42 f43
            refine n_ialoadV c_26_34 sc_39.n rfl rfl rfl (by omega) (t_39 hS (by omega)) ?_
            intro z44 ez44 f45
            have kr4 : z44 = M 39 (M 45 4) := ez44.trans (congrArg (M 39) ez42)
            refine n_i2l c_26_35 (by omega) ?_
            refine n_ladd c_26_36 rfl (n_lstore_n (L2 := [some (2, 44), some (2, 39), some (2, 4), some (1, ((((((((((0 * 3) + z12) * 3) + z20) * 3) + z28) * 3) + z36) * 3) + z44)), none, some (0, (((((9 - 1) + (-1)) + (-1)) + (-1)) + (-1)))]) c_26_37 rfl rfl (n_iinc (L2 := [some (2, 44), some (2, 39), some (2, 4), some (1, ((((((((((0 * 3) + z12) * 3) + z20) * 3) + z28) * 3) + z36) * 3) + z44)), none, some (0, ((((((9 - 1) + (-1)) + (-1)) + (-1)) + (-1)) + (-1)))]) c_26_38 rfl rfl rfl (n_goto c_26_41 (n_iload c_26_14 rfl ?_))))
            refine n_if0_lt c_26_16 (by omega) ?_ ?_
            · intro h46
              exfalso; omega
            · intro h47
              refine n_lload_n c_26_19 rfl (n_aload_n c_26_20 rfl (n_getV (bi := 0) c_26_21 sc_4.n rfl rfl rfl (t_4_0 hS) ?_))
              intro z48 ez48 f49
              obtain rfl : z48 = 3 := by omega
              refine n_i2l c_26_24 (by omega) ?_
              refine n_lmul c_26_25 rfl (n_aload_n c_26_26 rfl (n_aload_n c_26_27 rfl (n_getR c_26_28 sc_44.n rfl rfl rfl r_44_4 (n_iload c_26_31 rfl (n_ialoadV c_26_33 sc_45.n rfl rfl rfl (by omega) (t_45 hS (by omega)) ?_)))))
              intro z50 ez50 f51
              refine n_ialoadV c_26_34 sc_39.n rfl rfl rfl (by omega) (t_39 hS (by omega)) ?_
              intro z52 ez52 f53
              have kr3 : z52 = M 39 (M 45 3) := ez52.trans (congrArg (M 39) ez50)
              refine n_i2l c_26_35 (by omega) ?_
              refine n_ladd c_26_36 rfl (n_lstore_n (L2 := [some (2, 44), some (2, 39), some (2, 4), some (1, ((((((((((((0 * 3) + z12) * 3) + z20) * 3) + z28) * 3) + z36) * 3) + z44) * 3) + z52)), none, some (0, ((((((9 - 1) + (-1)) + (-1)) + (-1)) + (-1)) + (-1)))]) c_26_37 rfl rfl (n_iinc (L2 := [some (2, 44), some (2, 39), some (2, 4), some (1, ((((((((((((0 * 3) + z12) * 3) + z20) * 3) + z28) * 3) + z36) * 3) + z44) * 3) + z52)), none, some (0, (((((((9 - 1) + (-1)) + (-1)) + (-1)) + (-1)) + (-1)) + (-1)))]) c_26_38 rfl rfl rfl (n_goto c_26_41 (n_iload c_26_14 rfl ?_))))
              refine n_if0_lt c_26_16 (by omega) ?_ ?_
              · intro h54
                exfalso; omega
              · intro h55
                refine n_lload_n c_26_19 rfl (n_aload_n c_26_20 rfl (n_getV (bi := 0) c_26_21 sc_4.n rfl rfl rfl (t_4_0 hS) ?_))
                intro z56 ez56 f57
                obtain rfl : z56 = 3 := by omega
                refine n_i2l c_26_24 (by omega) ?_
                refine n_lmul c_26_25 rfl (n_aload_n c_26_26 rfl (n_aload_n c_26_27 rfl (n_getR c_26_28 sc_44.n rfl rfl rfl r_44_4 (n_iload c_26_31 rfl (n_ialoadV c_26_33 sc_45.n rfl rfl rfl (by omega) (t_45 hS (by omega)) ?_)))))
                intro z58 ez58 f59
                refine n_ialoadV c_26_34 sc_39.n rfl rfl rfl (by omega) (t_39 hS (by omega)) ?_
                intro z60 ez60 f61
                have kr2 : z60 = M 39 (M 45 2) := ez60.trans (congrArg (M 39) ez58)
                refine n_i2l c_26_35 (by omega) ?_
                refine n_ladd c_26_36 rfl (n_lstore_n (L2 := [some (2, 44), some (2, 39), some (2, 4), some (1, ((((((((((((((0 * 3) + z12) * 3) + z20) * 3) + z28) * 3) + z36) * 3) + z44) * 3) + z52) * 3) + z60)), none, some (0, (((((((9 - 1) + (-1)) + (-1)) + (-1)) + (-1)) + (-1)) + (-1)))]) c_26_37 rfl rfl (n_iinc (L2 := [some (2, 44), some (2, 39), some (2, 4), some (1, ((((((((((((((0 * 3) + z12) * 3) + z20) * 3) + z28) * 3) + z36) * 3) + z44) * 3) + z52) * 3) + z60)), none, some (0, ((((((((9 - 1) + (-1)) + (-1)) + (-1)) + (-1)) + (-1)) + (-1)) + (-1)))]) c_26_38 rfl rfl rfl (n_goto c_26_41 (n_iload c_26_14 rfl ?_))))
                refine n_if0_lt c_26_16 (by omega) ?_ ?_
                · intro h62
                  exfalso; omega
                · intro h63
                  refine n_lload_n c_26_19 rfl (n_aload_n c_26_20 rfl (n_getV (bi := 0) c_26_21 sc_4.n rfl rfl rfl (t_4_0 hS) ?_))
                  intro z64 ez64 f65
                  obtain rfl : z64 = 3 := by omega
                  refine n_i2l c_26_24 (by omega) ?_
                  refine n_lmul c_26_25 rfl (n_aload_n c_26_26 rfl (n_aload_n c_26_27 rfl (n_getR c_26_28 sc_44.n rfl rfl rfl r_44_4 (n_iload c_26_31 rfl (n_ialoadV c_26_33 sc_45.n rfl rfl rfl (by omega) (t_45 hS (by omega)) ?_)))))
                  intro z66 ez66 f67
                  refine n_ialoadV c_26_34 sc_39.n rfl rfl rfl (by omega) (t_39 hS (by omega)) ?_
                  intro z68 ez68 f69
                  have kr1 : z68 = M 39 (M 45 1) := ez68.trans (congrArg (M 39) ez66)
                  refine n_i2l c_26_35 (by omega) ?_
                  refine n_ladd c_26_36 rfl (n_lstore_n (L2 := [some (2, 44), some (2, 39), some (2, 4), some (1, ((((((((((((((((0 * 3) + z12) * 3) + z20) * 3) + z28) * 3) + z36) * 3) + z44) * 3) + z52) * 3) + z60) * 3) + z68)), none, some (0, ((((((((9 - 1) + (-1)) + (-1)) + (-1)) + (-1)) + (-1)) + (-1)) + (-1)))]) c_26_37 rfl rfl (n_iinc (L2 := [some (2, 44), some (2, 39), some (2, 4), some (1, ((((((((((((((((0 * 3) + z12) * 3) + z20) * 3) + z28) * 3) + z36) * 3) + z44) * 3) + z52) * 3) + z60) * 3) + z68)), none, some (0, (((((((((9 - 1) + (-1)) + (-1)) + (-1)) + (-1)) + (-1)) + (-1)) + (-1)) + (-1)))]) c_26_38 rfl rfl rfl (n_goto c_26_41 (n_iload c_26_14 rfl ?_))))
                  refine n_if0_lt c_26_16 (by omega) ?_ ?_
                  · intro h70
                    exfalso; omega
                  · intro h71
                    refine n_lload_n c_26_19 rfl (n_aload_n c_26_20 rfl (n_getV (bi := 0) c_26_21 sc_4.n rfl rfl rfl (t_4_0 hS) ?_))
                    intro z72 ez72 f73
                    obtain rfl : z72 = 3 := by omega
                    refine n_i2l c_26_24 (by omega) ?_
                    refine n_lmul c_26_25 rfl (n_aload_n c_26_26 rfl (n_aload_n c_26_27 rfl (n_getR c_26_28 sc_44.n rfl rfl rfl r_44_4 (n_iload c_26_31 rfl (n_ialoadV c_26_33 sc_45.n rfl rfl rfl (by omega) (t_45 hS (by omega)) ?_)))))
                    intro z74 ez74 f75
                    refine n_ialoadV c_26_34 sc_39.n rfl rfl rfl (by omega) (t_39 hS (by omega)) ?_
                    intro z76 ez76 f77
                    have kr0 : z76 = M 39 (M 45 0) := ez76.trans (congrArg (M 39) ez74)
                    refine n_i2l c_26_35 (by omega) ?_
                    refine n_ladd c_26_36 rfl (n_lstore_n (L2 := [some (2, 44), some (2, 39), some (2, 4), some (1, ((((((((((((((((((0 * 3) + z12) * 3) + z20) * 3) + z28) * 3) + z36) * 3) + z44) * 3) + z52) * 3) + z60) * 3) + z68) * 3) + z76)), none, some (0, (((((((((9 - 1) + (-1)) + (-1)) + (-1)) + (-1)) + (-1)) + (-1)) + (-1)) + (-1)))]) c_26_37 rfl rfl (n_iinc (L2 := [some (2, 44), some (2, 39), some (2, 4), some (1, ((((((((((((((((((0 * 3) + z12) * 3) + z20) * 3) + z28) * 3) + z36) * 3) + z44) * 3) + z52) * 3) + z60) * 3) + z68) * 3) + z76)), none, some (0, ((((((((((9 - 1) + (-1)) + (-1)) + (-1)) + (-1)) + (-1)) + (-1)) + (-1)) + (-1)) + (-1)))]) c_26_38 rfl rfl rfl (n_goto c_26_41 (n_iload c_26_14 rfl ?_))))
                    refine n_if0_lt c_26_16 (by omega) ?_ ?_
                    · intro h78
                      refine n_lload_n c_26_44 rfl ?_
                      exact n_rJ c_26_45 rfl ⟨rfl, by omega, by show _ = M 39 (M 45 0) + 3 * (M 39 (M 45 1) + 3 * (M 39 (M 45 2) + 3 * (M 39 (M 45 3) + 3 * (M 39 (M 45 4) + 3 * (M 39 (M 45 5) + 3 * (M 39 (M 45 6) + 3 * (M 39 (M 45 7) + 3 * (M 39 (M 45 8) + 3 * (0))))))))); omega⟩
                    · intro h79
                      exfalso; omega

set_option maxHeartbeats 4000000 in
theorem codeX3_3 {xs : List Int32} {e : Nat} {ac : Int} {M0 M : nM} (hS : Sf 3 ac M0 M) (h0 : M 44 0 = 3) : nW xs (e + 1) 26 0 [some (2, 44), some (2, 39), some (2, 4), none, none, none] [] M (nPJ fun z M1 => M = M1 ∧ (-9223372036854775808 ≤ z ∧ z ≤ 9223372036854775807) ∧ (z = cdN 3 (fun x => M 39 (M 45 x)) 0 27)) := by
  have hd : (3 : Int) = 2 ∨ (3 : Int) = 3 := by decide
  have hac := hS.2.2.2.2
  refine n_lconst (n := 0) c_26_0 rfl (n_lstore_n (L2 := [some (2, 44), some (2, 39), some (2, 4), some (1, 0), none, none]) c_26_1 rfl rfl (n_aload_n c_26_2 rfl (n_aload_n c_26_3 rfl (n_getV (bi := 0) c_26_4 sc_44.n rfl rfl rfl (t_44_0 hS) ?_))))
  intro z1 ez1 f2
  obtain rfl : z1 = 3 := by omega
  refine n_v1I c_26_7 rfl sc_4.n rfl rfl rfl rfl (power3_3  hS ) ?_
  intro z3 M4 hP5
  obtain ⟨eM, f5⟩ := hP5
  subst eM
  obtain rfl : z3 = 27 := by omega
  refine n_iconst c_26_10 (n_isub c_26_11 rfl (n_istore (L2 := [some (2, 44), some (2, 39), some (2, 4), some (1, 0), none, some (0, (27 - 1))]) c_26_12 rfl rfl (n_iload c_26_14 rfl ?_)))
  refine n_if0_lt c_26_16 (by omega) ?_ ?_
  · intro h6
    exfalso; omega
  · intro h7
    refine n_lload_n c_26_19 rfl (n_aload_n c_26_20 rfl (n_getV (bi := 0) c_26_21 sc_4.n rfl rfl rfl (t_4_0 hS) ?_))
    intro z8 ez8 f9
    obtain rfl : z8 = 3 := by omega
    refine n_i2l c_26_24 (by omega) ?_
    refine n_lmul c_26_25 rfl (n_aload_n c_26_26 rfl (n_aload_n c_26_27 rfl (n_getR c_26_28 sc_44.n rfl rfl rfl r_44_4 (n_iload c_26_31 rfl (n_ialoadV c_26_33 sc_45.n rfl rfl rfl (by omega) (t_45 hS (by omega)) ?_)))))
    intro z10 ez10 f11
    refine n_ialoadV c_26_34 sc_39.n rfl rfl rfl (by omega) (t_39 hS (by omega)) ?_
    intro z12 ez12 f13
    have kr26 : z12 = M 39 (M 45 26) := ez12.trans (congrArg (M 39) ez10)
    refine n_i2l c_26_35 (by omega) ?_
    refine n_ladd c_26_36 rfl (n_lstore_n (L2 := [some (2, 44), some (2, 39), some (2, 4), some (1, ((0 * 3) + z12)), none, some (0, (27 - 1))]) c_26_37 rfl rfl (n_iinc (L2 := [some (2, 44), some (2, 39), some (2, 4), some (1, ((0 * 3) + z12)), none, some (0, ((27 - 1) + (-1)))]) c_26_38 rfl rfl rfl (n_goto c_26_41 (n_iload c_26_14 rfl ?_))))
    refine n_if0_lt c_26_16 (by omega) ?_ ?_
    · intro h14
      exfalso; omega
    · intro h15
      refine n_lload_n c_26_19 rfl (n_aload_n c_26_20 rfl (n_getV (bi := 0) c_26_21 sc_4.n rfl rfl rfl (t_4_0 hS) ?_))
      intro z16 ez16 f17
      obtain rfl : z16 = 3 := by omega
      refine n_i2l c_26_24 (by omega) ?_
      refine n_lmul c_26_25 rfl (n_aload_n c_26_26 rfl (n_aload_n c_26_27 rfl (n_getR c_26_28 sc_44.n rfl rfl rfl r_44_4 (n_iload c_26_31 rfl (n_ialoadV c_26_33 sc_45.n rfl rfl rfl (by omega) (t_45 hS (by omega)) ?_)))))
      intro z18 ez18 f19
      refine n_ialoadV c_26_34 sc_39.n rfl rfl rfl (by omega) (t_39 hS (by omega)) ?_
      intro z20 ez20 f21
      have kr25 : z20 = M 39 (M 45 25) := ez20.trans (congrArg (M 39) ez18)
      refine n_i2l c_26_35 (by omega) ?_
      refine n_ladd c_26_36 rfl (n_lstore_n (L2 := [some (2, 44), some (2, 39), some (2, 4), some (1, ((((0 * 3) + z12) * 3) + z20)), none, some (0, ((27 - 1) + (-1)))]) c_26_37 rfl rfl (n_iinc (L2 := [some (2, 44), some (2, 39), some (2, 4), some (1, ((((0 * 3) + z12) * 3) + z20)), none, some (0, (((27 - 1) + (-1)) + (-1)))]) c_26_38 rfl rfl rfl (n_goto c_26_41 (n_iload c_26_14 rfl ?_))))
      refine n_if0_lt c_26_16 (by omega) ?_ ?_
      · intro h22
        exfalso; omega
      · intro h23
        refine n_lload_n c_26_19 rfl (n_aload_n c_26_20 rfl (n_getV (bi := 0) c_26_21 sc_4.n rfl rfl rfl (t_4_0 hS) ?_))
        intro z24 ez24 f25
        obtain rfl : z24 = 3 := by omega
        refine n_i2l c_26_24 (by omega) ?_
        refine n_lmul c_26_25 rfl (n_aload_n c_26_26 rfl (n_aload_n c_26_27 rfl (n_getR c_26_28 sc_44.n rfl rfl rfl r_44_4 (n_iload c_26_31 rfl (n_ialoadV c_26_33 sc_45.n rfl rfl rfl (by omega) (t_45 hS (by omega)) ?_)))))
        intro z26 ez26 f27
        refine n_ialoadV c_26_34 sc_39.n rfl rfl rfl (by omega) (t_39 hS (by omega)) ?_
        intro z28 ez28 f29
        have kr24 : z28 = M 39 (M 45 24) := ez28.trans (congrArg (M 39) ez26)
        refine n_i2l c_26_35 (by omega) ?_
        refine n_ladd c_26_36 rfl (n_lstore_n (L2 := [some (2, 44), some (2, 39), some (2, 4), some (1, ((((((0 * 3) + z12) * 3) + z20) * 3) + z28)), none, some (0, (((27 - 1) + (-1)) + (-1)))]) c_26_37 rfl rfl (n_iinc (L2 := [some (2, 44), some (2, 39), some (2, 4), some (1, ((((((0 * 3) + z12) * 3) + z20) * 3) + z28)), none, some (0, ((((27 - 1) + (-1)) + (-1)) + (-1)))]) c_26_38 rfl rfl rfl (n_goto c_26_41 (n_iload c_26_14 rfl ?_))))
        refine n_if0_lt c_26_16 (by omega) ?_ ?_
        · intro h30
          exfalso; omega
        · intro h31
          refine n_lload_n c_26_19 rfl (n_aload_n c_26_20 rfl (n_getV (bi := 0) c_26_21 sc_4.n rfl rfl rfl (t_4_0 hS) ?_))
          intro z32 ez32 f33
          obtain rfl : z32 = 3 := by omega
          refine n_i2l c_26_24 (by omega) ?_
          refine n_lmul c_26_25 rfl (n_aload_n c_26_26 rfl (n_aload_n c_26_27 rfl (n_getR c_26_28 sc_44.n rfl rfl rfl r_44_4 (n_iload c_26_31 rfl (n_ialoadV c_26_33 sc_45.n rfl rfl rfl (by omega) (t_45 hS (by omega)) ?_)))))
          intro z34 ez34 f35
          refine n_ialoadV c_26_34 sc_39.n rfl rfl rfl (by omega) (t_39 hS (by omega)) ?_
          intro z36 ez36 f37
          have kr23 : z36 = M 39 (M 45 23) := ez36.trans (congrArg (M 39) ez34)
          refine n_i2l c_26_35 (by omega) ?_
          refine n_ladd c_26_36 rfl (n_lstore_n (L2 := [some (2, 44), some (2, 39), some (2, 4), some (1, ((((((((0 * 3) + z12) * 3) + z20) * 3) + z28) * 3) + z36)), none, some (0, ((((27 - 1) + (-1)) + (-1)) + (-1)))]) c_26_37 rfl rfl (n_iinc (L2 := [some (2, 44), some (2, 39), some (2, 4), some (1, ((((((((0 * 3) + z12) * 3) + z20) * 3) + z28) * 3) + z36)), none, some (0, (((((27 - 1) + (-1)) + (-1)) + (-1)) + (-1)))]) c_26_38 rfl rfl rfl (n_goto c_26_41 (n_iload c_26_14 rfl ?_))))
          refine n_if0_lt c_26_16 (by omega) ?_ ?_
          · intro h38
            exfalso; omega
          · intro h39
            refine n_lload_n c_26_19 rfl (n_aload_n c_26_20 rfl (n_getV (bi := 0) c_26_21 sc_4.n rfl rfl rfl (t_4_0 hS) ?_))
            intro z40 ez40 f41
            obtain rfl : z40 = 3 := by omega
            refine n_i2l c_26_24 (by omega) ?_
            refine n_lmul c_26_25 rfl (n_aload_n c_26_26 rfl (n_aload_n c_26_27 rfl (n_getR c_26_28 sc_44.n rfl rfl rfl r_44_4 (n_iload c_26_31 rfl (n_ialoadV c_26_33 sc_45.n rfl rfl rfl (by omega) (t_45 hS (by omega)) ?_)))))
            intro z42 ez42 f43
            refine n_ialoadV c_26_34 sc_39.n rfl rfl rfl (by omega) (t_39 hS (by omega)) ?_
            intro z44 ez44 f45
            have kr22 : z44 = M 39 (M 45 22) := ez44.trans (congrArg (M 39) ez42)
            refine n_i2l c_26_35 (by omega) ?_
            refine n_ladd c_26_36 rfl (n_lstore_n (L2 := [some (2, 44), some (2, 39), some (2, 4), some (1, ((((((((((0 * 3) + z12) * 3) + z20) * 3) + z28) * 3) + z36) * 3) + z44)), none, some (0, (((((27 - 1) + (-1)) + (-1)) + (-1)) + (-1)))]) c_26_37 rfl rfl (n_iinc (L2 := [some (2, 44), some (2, 39), some (2, 4), some (1, ((((((((((0 * 3) + z12) * 3) + z20) * 3) + z28) * 3) + z36) * 3) + z44)), none, some (0, ((((((27 - 1) + (-1)) + (-1)) + (-1)) + (-1)) + (-1)))]) c_26_38 rfl rfl rfl (n_goto c_26_41 (n_iload c_26_14 rfl ?_))))
            refine n_if0_lt c_26_16 (by omega) ?_ ?_
            · intro h46
              exfalso; omega
            · intro h47
              refine n_lload_n c_26_19 rfl (n_aload_n c_26_20 rfl (n_getV (bi := 0) c_26_21 sc_4.n rfl rfl rfl (t_4_0 hS) ?_))
              intro z48 ez48 f49
              obtain rfl : z48 = 3 := by omega
              refine n_i2l c_26_24 (by omega) ?_
              refine n_lmul c_26_25 rfl (n_aload_n c_26_26 rfl (n_aload_n c_26_27 rfl (n_getR c_26_28 sc_44.n rfl rfl rfl r_44_4 (n_iload c_26_31 rfl (n_ialoadV c_26_33 sc_45.n rfl rfl rfl (by omega) (t_45 hS (by omega)) ?_)))))
              intro z50 ez50 f51
              refine n_ialoadV c_26_34 sc_39.n rfl rfl rfl (by omega) (t_39 hS (by omega)) ?_
              intro z52 ez52 f53
              have kr21 : z52 = M 39 (M 45 21) := ez52.trans (congrArg (M 39) ez50)
              refine n_i2l c_26_35 (by omega) ?_
              refine n_ladd c_26_36 rfl (n_lstore_n (L2 := [some (2, 44), some (2, 39), some (2, 4), some (1, ((((((((((((0 * 3) + z12) * 3) + z20) * 3) + z28) * 3) + z36) * 3) + z44) * 3) + z52)), none, some (0, ((((((27 - 1) + (-1)) + (-1)) + (-1)) + (-1)) + (-1)))]) c_26_37 rfl rfl (n_iinc (L2 := [some (2, 44), some (2, 39), some (2, 4), some (1, ((((((((((((0 * 3) + z12) * 3) + z20) * 3) + z28) * 3) + z36) * 3) + z44) * 3) + z52)), none, some (0, (((((((27 - 1) + (-1)) + (-1)) + (-1)) + (-1)) + (-1)) + (-1)))]) c_26_38 rfl rfl rfl (n_goto c_26_41 (n_iload c_26_14 rfl ?_))))
              refine n_if0_lt c_26_16 (by omega) ?_ ?_
              · intro h54
                exfalso; omega
              · intro h55
                refine n_lload_n c_26_19 rfl (n_aload_n c_26_20 rfl (n_getV (bi := 0) c_26_21 sc_4.n rfl rfl rfl (t_4_0 hS) ?_))
                intro z56 ez56 f57
                obtain rfl : z56 = 3 := by omega
                refine n_i2l c_26_24 (by omega) ?_
                refine n_lmul c_26_25 rfl (n_aload_n c_26_26 rfl (n_aload_n c_26_27 rfl (n_getR c_26_28 sc_44.n rfl rfl rfl r_44_4 (n_iload c_26_31 rfl (n_ialoadV c_26_33 sc_45.n rfl rfl rfl (by omega) (t_45 hS (by omega)) ?_)))))
                intro z58 ez58 f59
                refine n_ialoadV c_26_34 sc_39.n rfl rfl rfl (by omega) (t_39 hS (by omega)) ?_
                intro z60 ez60 f61
                have kr20 : z60 = M 39 (M 45 20) := ez60.trans (congrArg (M 39) ez58)
                refine n_i2l c_26_35 (by omega) ?_
                refine n_ladd c_26_36 rfl (n_lstore_n (L2 := [some (2, 44), some (2, 39), some (2, 4), some (1, ((((((((((((((0 * 3) + z12) * 3) + z20) * 3) + z28) * 3) + z36) * 3) + z44) * 3) + z52) * 3) + z60)), none, some (0, (((((((27 - 1) + (-1)) + (-1)) + (-1)) + (-1)) + (-1)) + (-1)))]) c_26_37 rfl rfl (n_iinc (L2 := [some (2, 44), some (2, 39), some (2, 4), some (1, ((((((((((((((0 * 3) + z12) * 3) + z20) * 3) + z28) * 3) + z36) * 3) + z44) * 3) + z52) * 3) + z60)), none, some (0, ((((((((27 - 1) + (-1)) + (-1)) + (-1)) + (-1)) + (-1)) + (-1)) + (-1)))]) c_26_38 rfl rfl rfl (n_goto c_26_41 (n_iload c_26_14 rfl ?_))))
                refine n_if0_lt c_26_16 (by omega) ?_ ?_
                · intro h62
                  exfalso; omega
                · intro h63
                  refine n_lload_n c_26_19 rfl (n_aload_n c_26_20 rfl (n_getV (bi := 0) c_26_21 sc_4.n rfl rfl rfl (t_4_0 hS) ?_))
                  intro z64 ez64 f65
                  obtain rfl : z64 = 3 := by omega
                  refine n_i2l c_26_24 (by omega) ?_
                  refine n_lmul c_26_25 rfl (n_aload_n c_26_26 rfl (n_aload_n c_26_27 rfl (n_getR c_26_28 sc_44.n rfl rfl rfl r_44_4 (n_iload c_26_31 rfl (n_ialoadV c_26_33 sc_45.n rfl rfl rfl (by omega) (t_45 hS (by omega)) ?_)))))
                  intro z66 ez66 f67
                  refine n_ialoadV c_26_34 sc_39.n rfl rfl rfl (by omega) (t_39 hS (by omega)) ?_
                  intro z68 ez68 f69
                  have kr19 : z68 = M 39 (M 45 19) := ez68.trans (congrArg (M 39) ez66)
                  refine n_i2l c_26_35 (by omega) ?_
                  refine n_ladd c_26_36 rfl (n_lstore_n (L2 := [some (2, 44), some (2, 39), some (2, 4), some (1, ((((((((((((((((0 * 3) + z12) * 3) + z20) * 3) + z28) * 3) + z36) * 3) + z44) * 3) + z52) * 3) + z60) * 3) + z68)), none, some (0, ((((((((27 - 1) + (-1)) + (-1)) + (-1)) + (-1)) + (-1)) + (-1)) + (-1)))]) c_26_37 rfl rfl (n_iinc (L2 := [some (2, 44), some (2, 39), some (2, 4), some (1, ((((((((((((((((0 * 3) + z12) * 3) + z20) * 3) + z28) * 3) + z36) * 3) + z44) * 3) + z52) * 3) + z60) * 3) + z68)), none, some (0, (((((((((27 - 1) + (-1)) + (-1)) + (-1)) + (-1)) + (-1)) + (-1)) + (-1)) + (-1)))]) c_26_38 rfl rfl rfl (n_goto c_26_41 (n_iload c_26_14 rfl ?_))))
                  refine n_if0_lt c_26_16 (by omega) ?_ ?_
                  · intro h70
                    exfalso; omega
                  · intro h71
                    refine n_lload_n c_26_19 rfl (n_aload_n c_26_20 rfl (n_getV (bi := 0) c_26_21 sc_4.n rfl rfl rfl (t_4_0 hS) ?_))
                    intro z72 ez72 f73
                    obtain rfl : z72 = 3 := by omega
                    refine n_i2l c_26_24 (by omega) ?_
                    refine n_lmul c_26_25 rfl (n_aload_n c_26_26 rfl (n_aload_n c_26_27 rfl (n_getR c_26_28 sc_44.n rfl rfl rfl r_44_4 (n_iload c_26_31 rfl (n_ialoadV c_26_33 sc_45.n rfl rfl rfl (by omega) (t_45 hS (by omega)) ?_)))))
                    intro z74 ez74 f75
                    refine n_ialoadV c_26_34 sc_39.n rfl rfl rfl (by omega) (t_39 hS (by omega)) ?_
                    intro z76 ez76 f77
                    have kr18 : z76 = M 39 (M 45 18) := ez76.trans (congrArg (M 39) ez74)
                    refine n_i2l c_26_35 (by omega) ?_
                    refine n_ladd c_26_36 rfl (n_lstore_n (L2 := [some (2, 44), some (2, 39), some (2, 4), some (1, ((((((((((((((((((0 * 3) + z12) * 3) + z20) * 3) + z28) * 3) + z36) * 3) + z44) * 3) + z52) * 3) + z60) * 3) + z68) * 3) + z76)), none, some (0, (((((((((27 - 1) + (-1)) + (-1)) + (-1)) + (-1)) + (-1)) + (-1)) + (-1)) + (-1)))]) c_26_37 rfl rfl (n_iinc (L2 := [some (2, 44), some (2, 39), some (2, 4), some (1, ((((((((((((((((((0 * 3) + z12) * 3) + z20) * 3) + z28) * 3) + z36) * 3) + z44) * 3) + z52) * 3) + z60) * 3) + z68) * 3) + z76)), none, some (0, ((((((((((27 - 1) + (-1)) + (-1)) + (-1)) + (-1)) + (-1)) + (-1)) + (-1)) + (-1)) + (-1)))]) c_26_38 rfl rfl rfl (n_goto c_26_41 (n_iload c_26_14 rfl ?_))))
                    refine n_if0_lt c_26_16 (by omega) ?_ ?_
                    · intro h78
                      exfalso; omega
                    · intro h79
                      refine n_lload_n c_26_19 rfl (n_aload_n c_26_20 rfl (n_getV (bi := 0) c_26_21 sc_4.n rfl rfl rfl (t_4_0 hS) ?_))
                      intro z80 ez80 f81
                      obtain rfl : z80 = 3 := by omega
                      refine n_i2l c_26_24 (by omega) ?_
                      refine n_lmul c_26_25 rfl (n_aload_n c_26_26 rfl (n_aload_n c_26_27 rfl (n_getR c_26_28 sc_44.n rfl rfl rfl r_44_4 (n_iload c_26_31 rfl (n_ialoadV c_26_33 sc_45.n rfl rfl rfl (by omega) (t_45 hS (by omega)) ?_)))))
                      intro z82 ez82 f83
                      refine n_ialoadV c_26_34 sc_39.n rfl rfl rfl (by omega) (t_39 hS (by omega)) ?_
                      intro z84 ez84 f85
                      have kr17 : z84 = M 39 (M 45 17) := ez84.trans (congrArg (M 39) ez82)
                      refine n_i2l c_26_35 (by omega) ?_
                      refine n_ladd c_26_36 rfl (n_lstore_n (L2 := [some (2, 44), some (2, 39), some (2, 4), some (1, ((((((((((((((((((((0 * 3) + z12) * 3) + z20) * 3) + z28) * 3) + z36) * 3) + z44) * 3) + z52) * 3) + z60) * 3) + z68) * 3) + z76) * 3) + z84)), none, some (0, ((((((((((27 - 1) + (-1)) + (-1)) + (-1)) + (-1)) + (-1)) + (-1)) + (-1)) + (-1)) + (-1)))]) c_26_37 rfl rfl (n_iinc (L2 := [some (2, 44), some (2, 39), some (2, 4), some (1, ((((((((((((((((((((0 * 3) + z12) * 3) + z20) * 3) + z28) * 3) + z36) * 3) + z44) * 3) + z52) * 3) + z60) * 3) + z68) * 3) + z76) * 3) + z84)), none, some (0, (((((((((((27 - 1) + (-1)) + (-1)) + (-1)) + (-1)) + (-1)) + (-1)) + (-1)) + (-1)) + (-1)) + (-1)))]) c_26_38 rfl rfl rfl (n_goto c_26_41 (n_iload c_26_14 rfl ?_))))
                      refine n_if0_lt c_26_16 (by omega) ?_ ?_
                      · intro h86
                        exfalso; omega
                      · intro h87
                        refine n_lload_n c_26_19 rfl (n_aload_n c_26_20 rfl (n_getV (bi := 0) c_26_21 sc_4.n rfl rfl rfl (t_4_0 hS) ?_))
                        intro z88 ez88 f89
                        obtain rfl : z88 = 3 := by omega
                        refine n_i2l c_26_24 (by omega) ?_
                        refine n_lmul c_26_25 rfl (n_aload_n c_26_26 rfl (n_aload_n c_26_27 rfl (n_getR c_26_28 sc_44.n rfl rfl rfl r_44_4 (n_iload c_26_31 rfl (n_ialoadV c_26_33 sc_45.n rfl rfl rfl (by omega) (t_45 hS (by omega)) ?_)))))
                        intro z90 ez90 f91
                        refine n_ialoadV c_26_34 sc_39.n rfl rfl rfl (by omega) (t_39 hS (by omega)) ?_
                        intro z92 ez92 f93
                        have kr16 : z92 = M 39 (M 45 16) := ez92.trans (congrArg (M 39) ez90)
                        refine n_i2l c_26_35 (by omega) ?_
                        refine n_ladd c_26_36 rfl (n_lstore_n (L2 := [some (2, 44), some (2, 39), some (2, 4), some (1, ((((((((((((((((((((((0 * 3) + z12) * 3) + z20) * 3) + z28) * 3) + z36) * 3) + z44) * 3) + z52) * 3) + z60) * 3) + z68) * 3) + z76) * 3) + z84) * 3) + z92)), none, some (0, (((((((((((27 - 1) + (-1)) + (-1)) + (-1)) + (-1)) + (-1)) + (-1)) + (-1)) + (-1)) + (-1)) + (-1)))]) c_26_37 rfl rfl (n_iinc (L2 := [some (2, 44), some (2, 39), some (2, 4), some (1, ((((((((((((((((((((((0 * 3) + z12) * 3) + z20) * 3) + z28) * 3) + z36) * 3) + z44) * 3) + z52) * 3) + z60) * 3) + z68) * 3) + z76) * 3) + z84) * 3) + z92)), none, some (0, ((((((((((((27 - 1) + (-1)) + (-1)) + (-1)) + (-1)) + (-1)) + (-1)) + (-1)) + (-1)) + (-1)) + (-1)) + (-1)))]) c_26_38 rfl rfl rfl (n_goto c_26_41 (n_iload c_26_14 rfl ?_))))
                        refine n_if0_lt c_26_16 (by omega) ?_ ?_
                        · intro h94
                          exfalso; omega
                        · intro h95
                          refine n_lload_n c_26_19 rfl (n_aload_n c_26_20 rfl (n_getV (bi := 0) c_26_21 sc_4.n rfl rfl rfl (t_4_0 hS) ?_))
                          intro z96 ez96 f97
                          obtain rfl : z96 = 3 := by omega
                          refine n_i2l c_26_24 (by omega) ?_
                          refine n_lmul c_26_25 rfl (n_aload_n c_26_26 rfl (n_aload_n c_26_27 rfl (n_getR c_26_28 sc_44.n rfl rfl rfl r_44_4 (n_iload c_26_31 rfl (n_ialoadV c_26_33 sc_45.n rfl rfl rfl (by omega) (t_45 hS (by omega)) ?_)))))
                          intro z98 ez98 f99
                          refine n_ialoadV c_26_34 sc_39.n rfl rfl rfl (by omega) (t_39 hS (by omega)) ?_
                          intro z100 ez100 f101
                          have kr15 : z100 = M 39 (M 45 15) := ez100.trans (congrArg (M 39) ez98)
                          refine n_i2l c_26_35 (by omega) ?_
                          refine n_ladd c_26_36 rfl (n_lstore_n (L2 := [some (2, 44), some (2, 39), some (2, 4), some (1, ((((((((((((((((((((((((0 * 3) + z12) * 3) + z20) * 3) + z28) * 3) + z36) * 3) + z44) * 3) + z52) * 3) + z60) * 3) + z68) * 3) + z76) * 3) + z84) * 3) + z92) * 3) + z100)), none, some (0, ((((((((((((27 - 1) + (-1)) + (-1)) + (-1)) + (-1)) + (-1)) + (-1)) + (-1)) + (-1)) + (-1)) + (-1)) + (-1)))]) c_26_37 rfl rfl (n_iinc (L2 := [some (2, 44), some (2, 39), some (2, 4), some (1, ((((((((((((((((((((((((0 * 3) + z12) * 3) + z20) * 3) + z28) * 3) + z36) * 3) + z44) * 3) + z52) * 3) + z60) * 3) + z68) * 3) + z76) * 3) + z84) * 3) + z92) * 3) + z100)), none, some (0, (((((((((((((27 - 1) + (-1)) + (-1)) + (-1)) + (-1)) + (-1)) + (-1)) + (-1)) + (-1)) + (-1)) + (-1)) + (-1)) + (-1)))]) c_26_38 rfl rfl rfl (n_goto c_26_41 (n_iload c_26_14 rfl ?_))))
                          refine n_if0_lt c_26_16 (by omega) ?_ ?_
                          · intro h102
                            exfalso; omega
                          · intro h103
                            refine n_lload_n c_26_19 rfl (n_aload_n c_26_20 rfl (n_getV (bi := 0) c_26_21 sc_4.n rfl rfl rfl (t_4_0 hS) ?_))
                            intro z104 ez104 f105
                            obtain rfl : z104 = 3 := by omega
                            refine n_i2l c_26_24 (by omega) ?_
                            refine n_lmul c_26_25 rfl (n_aload_n c_26_26 rfl (n_aload_n c_26_27 rfl (n_getR c_26_28 sc_44.n rfl rfl rfl r_44_4 (n_iload c_26_31 rfl (n_ialoadV c_26_33 sc_45.n rfl rfl rfl (by omega) (t_45 hS (by omega)) ?_)))))
                            intro z106 ez106 f107
                            refine n_ialoadV c_26_34 sc_39.n rfl rfl rfl (by omega) (t_39 hS (by omega)) ?_
                            intro z108 ez108 f109
                            have kr14 : z108 = M 39 (M 45 14) := ez108.trans (congrArg (M 39) ez106)
                            refine n_i2l c_26_35 (by omega) ?_
                            refine n_ladd c_26_36 rfl (n_lstore_n (L2 := [some (2, 44), some (2, 39), some (2, 4), some (1, ((((((((((((((((((((((((((0 * 3) + z12) * 3) + z20) * 3) + z28) * 3) + z36) * 3) + z44) * 3) + z52) * 3) + z60) * 3) + z68) * 3) + z76) * 3) + z84) * 3) + z92) * 3) + z100) * 3) + z108)), none, some (0, (((((((((((((27 - 1) + (-1)) + (-1)) + (-1)) + (-1)) + (-1)) + (-1)) + (-1)) + (-1)) + (-1)) + (-1)) + (-1)) + (-1)))]) c_26_37 rfl rfl (n_iinc (L2 := [some (2, 44), some (2, 39), some (2, 4), some (1, ((((((((((((((((((((((((((0 * 3) + z12) * 3) + z20) * 3) + z28) * 3) + z36) * 3) + z44) * 3) + z52) * 3) + z60) * 3) + z68) * 3) + z76) * 3) + z84) * 3) + z92) * 3) + z100) * 3) + z108)), none, some (0, ((((((((((((((27 - 1) + (-1)) + (-1)) + (-1)) + (-1)) + (-1)) + (-1)) + (-1)) + (-1)) + (-1)) + (-1)) + (-1)) + (-1)) + (-1)))]) c_26_38 rfl rfl rfl (n_goto c_26_41 (n_iload c_26_14 rfl ?_))))
                            refine n_if0_lt c_26_16 (by omega) ?_ ?_
                            · intro h110
                              exfalso; omega
                            · intro h111
                              refine n_lload_n c_26_19 rfl (n_aload_n c_26_20 rfl (n_getV (bi := 0) c_26_21 sc_4.n rfl rfl rfl (t_4_0 hS) ?_))
                              intro z112 ez112 f113
                              obtain rfl : z112 = 3 := by omega
                              refine n_i2l c_26_24 (by omega) ?_
                              refine n_lmul c_26_25 rfl (n_aload_n c_26_26 rfl (n_aload_n c_26_27 rfl (n_getR c_26_28 sc_44.n rfl rfl rfl r_44_4 (n_iload c_26_31 rfl (n_ialoadV c_26_33 sc_45.n rfl rfl rfl (by omega) (t_45 hS (by omega)) ?_)))))
                              intro z114 ez114 f115
                              refine n_ialoadV c_26_34 sc_39.n rfl rfl rfl (by omega) (t_39 hS (by omega)) ?_
                              intro z116 ez116 f117
                              have kr13 : z116 = M 39 (M 45 13) := ez116.trans (congrArg (M 39) ez114)
                              refine n_i2l c_26_35 (by omega) ?_
                              refine n_ladd c_26_36 rfl (n_lstore_n (L2 := [some (2, 44), some (2, 39), some (2, 4), some (1, ((((((((((((((((((((((((((((0 * 3) + z12) * 3) + z20) * 3) + z28) * 3) + z36) * 3) + z44) * 3) + z52) * 3) + z60) * 3) + z68) * 3) + z76) * 3) + z84) * 3) + z92) * 3) + z100) * 3) + z108) * 3) + z116)), none, some (0, ((((((((((((((27 - 1) + (-1)) + (-1)) + (-1)) + (-1)) + (-1)) + (-1)) + (-1)) + (-1)) + (-1)) + (-1)) + (-1)) + (-1)) + (-1)))]) c_26_37 rfl rfl (n_iinc (L2 := [some (2, 44), some (2, 39), some (2, 4), some (1, ((((((((((((((((((((((((((((0 * 3) + z12) * 3) + z20) * 3) + z28) * 3) + z36) * 3) + z44) * 3) + z52) * 3) + z60) * 3) + z68) * 3) + z76) * 3) + z84) * 3) + z92) * 3) + z100) * 3) + z108) * 3) + z116)), none, some (0, (((((((((((((((27 - 1) + (-1)) + (-1)) + (-1)) + (-1)) + (-1)) + (-1)) + (-1)) + (-1)) + (-1)) + (-1)) + (-1)) + (-1)) + (-1)) + (-1)))]) c_26_38 rfl rfl rfl (n_goto c_26_41 (n_iload c_26_14 rfl ?_))))
                              refine n_if0_lt c_26_16 (by omega) ?_ ?_
                              · intro h118
                                exfalso; omega
                              · intro h119
                                refine n_lload_n c_26_19 rfl (n_aload_n c_26_20 rfl (n_getV (bi := 0) c_26_21 sc_4.n rfl rfl rfl (t_4_0 hS) ?_))
                                intro z120 ez120 f121
                                obtain rfl : z120 = 3 := by omega
                                refine n_i2l c_26_24 (by omega) ?_
                                refine n_lmul c_26_25 rfl (n_aload_n c_26_26 rfl (n_aload_n c_26_27 rfl (n_getR c_26_28 sc_44.n rfl rfl rfl r_44_4 (n_iload c_26_31 rfl (n_ialoadV c_26_33 sc_45.n rfl rfl rfl (by omega) (t_45 hS (by omega)) ?_)))))
                                intro z122 ez122 f123
                                refine n_ialoadV c_26_34 sc_39.n rfl rfl rfl (by omega) (t_39 hS (by omega)) ?_
                                intro z124 ez124 f125
                                have kr12 : z124 = M 39 (M 45 12) := ez124.trans (congrArg (M 39) ez122)
                                refine n_i2l c_26_35 (by omega) ?_
                                refine n_ladd c_26_36 rfl (n_lstore_n (L2 := [some (2, 44), some (2, 39), some (2, 4), some (1, ((((((((((((((((((((((((((((((0 * 3) + z12) * 3) + z20) * 3) + z28) * 3) + z36) * 3) + z44) * 3) + z52) * 3) + z60) * 3) + z68) * 3) + z76) * 3) + z84) * 3) + z92) * 3) + z100) * 3) + z108) * 3) + z116) * 3) + z124)), none, some (0, (((((((((((((((27 - 1) + (-1)) + (-1)) + (-1)) + (-1)) + (-1)) + (-1)) + (-1)) + (-1)) + (-1)) + (-1)) + (-1)) + (-1)) + (-1)) + (-1)))]) c_26_37 rfl rfl (n_iinc (L2 := [some (2, 44), some (2, 39), some (2, 4), some (1, ((((((((((((((((((((((((((((((0 * 3) + z12) * 3) + z20) * 3) + z28) * 3) + z36) * 3) + z44) * 3) + z52) * 3) + z60) * 3) + z68) * 3) + z76) * 3) + z84) * 3) + z92) * 3) + z100) * 3) + z108) * 3) + z116) * 3) + z124)), none, some (0, ((((((((((((((((27 - 1) + (-1)) + (-1)) + (-1)) + (-1)) + (-1)) + (-1)) + (-1)) + (-1)) + (-1)) + (-1)) + (-1)) + (-1)) + (-1)) + (-1)) + (-1)))]) c_26_38 rfl rfl rfl (n_goto c_26_41 (n_iload c_26_14 rfl ?_))))
                                refine n_if0_lt c_26_16 (by omega) ?_ ?_
                                · intro h126
                                  exfalso; omega
                                · intro h127
                                  refine n_lload_n c_26_19 rfl (n_aload_n c_26_20 rfl (n_getV (bi := 0) c_26_21 sc_4.n rfl rfl rfl (t_4_0 hS) ?_))
                                  intro z128 ez128 f129
                                  obtain rfl : z128 = 3 := by omega
                                  refine n_i2l c_26_24 (by omega) ?_
                                  refine n_lmul c_26_25 rfl (n_aload_n c_26_26 rfl (n_aload_n c_26_27 rfl (n_getR c_26_28 sc_44.n rfl rfl rfl r_44_4 (n_iload c_26_31 rfl (n_ialoadV c_26_33 sc_45.n rfl rfl rfl (by omega) (t_45 hS (by omega)) ?_)))))
                                  intro z130 ez130 f131
                                  refine n_ialoadV c_26_34 sc_39.n rfl rfl rfl (by omega) (t_39 hS (by omega)) ?_
                                  intro z132 ez132 f133
                                  have kr11 : z132 = M 39 (M 45 11) := ez132.trans (congrArg (M 39) ez130)
                                  refine n_i2l c_26_35 (by omega) ?_
                                  refine n_ladd c_26_36 rfl (n_lstore_n (L2 := [some (2, 44), some (2, 39), some (2, 4), some (1, ((((((((((((((((((((((((((((((((0 * 3) + z12) * 3) + z20) * 3) + z28) * 3) + z36) * 3) + z44) * 3) + z52) * 3) + z60) * 3) + z68) * 3) + z76) * 3) + z84) * 3) + z92) * 3) + z100) * 3) + z108) * 3) + z116) * 3) + z124) * 3) + z132)), none, some (0, ((((((((((((((((27 - 1) + (-1)) + (-1)) + (-1)) + (-1)) + (-1)) + (-1)) + (-1)) + (-1)) + (-1)) + (-1)) + (-1)) + (-1)) + (-1)) + (-1)) + (-1)))]) c_26_37 rfl rfl (n_iinc (L2 := [some (2, 44), some (2, 39), some (2, 4), some (1, ((((((((((((((((((((((((((((((((0 * 3) + z12) * 3) + z20) * 3) + z28) * 3) + z36) * 3) + z44) * 3) + z52) * 3) + z60) * 3) + z68) * 3) + z76) * 3) + z84) * 3) + z92) * 3) + z100) * 3) + z108) * 3) + z116) * 3) + z124) * 3) + z132)), none, some (0, (((((((((((((((((27 - 1) + (-1)) + (-1)) + (-1)) + (-1)) + (-1)) + (-1)) + (-1)) + (-1)) + (-1)) + (-1)) + (-1)) + (-1)) + (-1)) + (-1)) + (-1)) + (-1)))]) c_26_38 rfl rfl rfl (n_goto c_26_41 (n_iload c_26_14 rfl ?_))))
                                  refine n_if0_lt c_26_16 (by omega) ?_ ?_
                                  · intro h134
                                    exfalso; omega
                                  · intro h135
                                    refine n_lload_n c_26_19 rfl (n_aload_n c_26_20 rfl (n_getV (bi := 0) c_26_21 sc_4.n rfl rfl rfl (t_4_0 hS) ?_))
                                    intro z136 ez136 f137
                                    obtain rfl : z136 = 3 := by omega
                                    refine n_i2l c_26_24 (by omega) ?_
                                    refine n_lmul c_26_25 rfl (n_aload_n c_26_26 rfl (n_aload_n c_26_27 rfl (n_getR c_26_28 sc_44.n rfl rfl rfl r_44_4 (n_iload c_26_31 rfl (n_ialoadV c_26_33 sc_45.n rfl rfl rfl (by omega) (t_45 hS (by omega)) ?_)))))
                                    intro z138 ez138 f139
                                    refine n_ialoadV c_26_34 sc_39.n rfl rfl rfl (by omega) (t_39 hS (by omega)) ?_
                                    intro z140 ez140 f141
                                    have kr10 : z140 = M 39 (M 45 10) := ez140.trans (congrArg (M 39) ez138)
                                    refine n_i2l c_26_35 (by omega) ?_
                                    refine n_ladd c_26_36 rfl (n_lstore_n (L2 := [some (2, 44), some (2, 39), some (2, 4), some (1, ((((((((((((((((((((((((((((((((((0 * 3) + z12) * 3) + z20) * 3) + z28) * 3) + z36) * 3) + z44) * 3) + z52) * 3) + z60) * 3) + z68) * 3) + z76) * 3) + z84) * 3) + z92) * 3) + z100) * 3) + z108) * 3) + z116) * 3) + z124) * 3) + z132) * 3) + z140)), none, some (0, (((((((((((((((((27 - 1) + (-1)) + (-1)) + (-1)) + (-1)) + (-1)) + (-1)) + (-1)) + (-1)) + (-1)) + (-1)) + (-1)) + (-1)) + (-1)) + (-1)) + (-1)) + (-1)))]) c_26_37 rfl rfl (n_iinc (L2 := [some (2, 44), some (2, 39), some (2, 4), some (1, ((((((((((((((((((((((((((((((((((0 * 3) + z12) * 3) + z20) * 3) + z28) * 3) + z36) * 3) + z44) * 3) + z52) * 3) + z60) * 3) + z68) * 3) + z76) * 3) + z84) * 3) + z92) * 3) + z100) * 3) + z108) * 3) + z116) * 3) + z124) * 3) + z132) * 3) + z140)), none, some (0, ((((((((((((((((((27 - 1) + (-1)) + (-1)) + (-1)) + (-1)) + (-1)) + (-1)) + (-1)) + (-1)) + (-1)) + (-1)) + (-1)) + (-1)) + (-1)) + (-1)) + (-1)) + (-1)) + (-1)))]) c_26_38 rfl rfl rfl (n_goto c_26_41 (n_iload c_26_14 rfl ?_))))
                                    refine n_if0_lt c_26_16 (by omega) ?_ ?_
                                    · intro h142
                                      exfalso; omega
                                    · intro h143
                                      refine n_lload_n c_26_19 rfl (n_aload_n c_26_20 rfl (n_getV (bi := 0) c_26_21 sc_4.n rfl rfl rfl (t_4_0 hS) ?_))
                                      intro z144 ez144 f145
                                      obtain rfl : z144 = 3 := by omega
                                      refine n_i2l c_26_24 (by omega) ?_
                                      refine n_lmul c_26_25 rfl (n_aload_n c_26_26 rfl (n_aload_n c_26_27 rfl (n_getR c_26_28 sc_44.n rfl rfl rfl r_44_4 (n_iload c_26_31 rfl (n_ialoadV c_26_33 sc_45.n rfl rfl rfl (by omega) (t_45 hS (by omega)) ?_)))))
                                      intro z146 ez146 f147
                                      refine n_ialoadV c_26_34 sc_39.n rfl rfl rfl (by omega) (t_39 hS (by omega)) ?_
                                      intro z148 ez148 f149
                                      have kr9 : z148 = M 39 (M 45 9) := ez148.trans (congrArg (M 39) ez146)
                                      refine n_i2l c_26_35 (by omega) ?_
                                      refine n_ladd c_26_36 rfl (n_lstore_n (L2 := [some (2, 44), some (2, 39), some (2, 4), some (1, ((((((((((((((((((((((((((((((((((((0 * 3) + z12) * 3) + z20) * 3) + z28) * 3) + z36) * 3) + z44) * 3) + z52) * 3) + z60) * 3) + z68) * 3) + z76) * 3) + z84) * 3) + z92) * 3) + z100) * 3) + z108) * 3) + z116) * 3) + z124) * 3) + z132) * 3) + z140) * 3) + z148)), none, some (0, ((((((((((((((((((27 - 1) + (-1)) + (-1)) + (-1)) + (-1)) + (-1)) + (-1)) + (-1)) + (-1)) + (-1)) + (-1)) + (-1)) + (-1)) + (-1)) + (-1)) + (-1)) + (-1)) + (-1)))]) c_26_37 rfl rfl (n_iinc (L2 := [some (2, 44), some (2, 39), some (2, 4), some (1, ((((((((((((((((((((((((((((((((((((0 * 3) + z12) * 3) + z20) * 3) + z28) * 3) + z36) * 3) + z44) * 3) + z52) * 3) + z60) * 3) + z68) * 3) + z76) * 3) + z84) * 3) + z92) * 3) + z100) * 3) + z108) * 3) + z116) * 3) + z124) * 3) + z132) * 3) + z140) * 3) + z148)), none, some (0, (((((((((((((((((((27 - 1) + (-1)) + (-1)) + (-1)) + (-1)) + (-1)) + (-1)) + (-1)) + (-1)) + (-1)) + (-1)) + (-1)) + (-1)) + (-1)) + (-1)) + (-1)) + (-1)) + (-1)) + (-1)))]) c_26_38 rfl rfl rfl (n_goto c_26_41 (n_iload c_26_14 rfl ?_))))
                                      refine n_if0_lt c_26_16 (by omega) ?_ ?_
                                      · intro h150
                                        exfalso; omega
                                      · intro h151
                                        refine n_lload_n c_26_19 rfl (n_aload_n c_26_20 rfl (n_getV (bi := 0) c_26_21 sc_4.n rfl rfl rfl (t_4_0 hS) ?_))
                                        intro z152 ez152 f153
                                        obtain rfl : z152 = 3 := by omega
                                        refine n_i2l c_26_24 (by omega) ?_
                                        refine n_lmul c_26_25 rfl (n_aload_n c_26_26 rfl (n_aload_n c_26_27 rfl (n_getR c_26_28 sc_44.n rfl rfl rfl r_44_4 (n_iload c_26_31 rfl (n_ialoadV c_26_33 sc_45.n rfl rfl rfl (by omega) (t_45 hS (by omega)) ?_)))))
                                        intro z154 ez154 f155
                                        refine n_ialoadV c_26_34 sc_39.n rfl rfl rfl (by omega) (t_39 hS (by omega)) ?_
                                        intro z156 ez156 f157
                                        have kr8 : z156 = M 39 (M 45 8) := ez156.trans (congrArg (M 39) ez154)
                                        refine n_i2l c_26_35 (by omega) ?_
                                        refine n_ladd c_26_36 rfl (n_lstore_n (L2 := [some (2, 44), some (2, 39), some (2, 4), some (1, ((((((((((((((((((((((((((((((((((((((0 * 3) + z12) * 3) + z20) * 3) + z28) * 3) + z36) * 3) + z44) * 3) + z52) * 3) + z60) * 3) + z68) * 3) + z76) * 3) + z84) * 3) + z92) * 3) + z100) * 3) + z108) * 3) + z116) * 3) + z124) * 3) + z132) * 3) + z140) * 3) + z148) * 3) + z156)), none, some (0, (((((((((((((((((((27 - 1) + (-1)) + (-1)) + (-1)) + (-1)) + (-1)) + (-1)) + (-1)) + (-1)) + (-1)) + (-1)) + (-1)) + (-1)) + (-1)) + (-1)) + (-1)) + (-1)) + (-1)) + (-1)))]) c_26_37 rfl rfl (n_iinc (L2 := [some (2, 44), some (2, 39), some (2, 4), some (1, ((((((((((((((((((((((((((((((((((((((0 * 3) + z12) * 3) + z20) * 3) + z28) * 3) + z36) * 3) + z44) * 3) + z52) * 3) + z60) * 3) + z68) * 3) + z76) * 3) + z84) * 3) + z92) * 3) + z100) * 3) + z108) * 3) + z116) * 3) + z124) * 3) + z132) * 3) + z140) * 3) + z148) * 3) + z156)), none, some (0, ((((((((((((((((((((27 - 1) + (-1)) + (-1)) + (-1)) + (-1)) + (-1)) + (-1)) + (-1)) + (-1)) + (-1)) + (-1)) + (-1)) + (-1)) + (-1)) + (-1)) + (-1)) + (-1)) + (-1)) + (-1)) + (-1)))]) c_26_38 rfl rfl rfl (n_goto c_26_41 (n_iload c_26_14 rfl ?_))))
                                        refine n_if0_lt c_26_16 (by omega) ?_ ?_
                                        · intro h158
                                          exfalso; omega
                                        · intro h159
                                          refine n_lload_n c_26_19 rfl (n_aload_n c_26_20 rfl (n_getV (bi := 0) c_26_21 sc_4.n rfl rfl rfl (t_4_0 hS) ?_))
                                          intro z160 ez160 f161
                                          obtain rfl : z160 = 3 := by omega
                                          refine n_i2l c_26_24 (by omega) ?_
                                          refine n_lmul c_26_25 rfl (n_aload_n c_26_26 rfl (n_aload_n c_26_27 rfl (n_getR c_26_28 sc_44.n rfl rfl rfl r_44_4 (n_iload c_26_31 rfl (n_ialoadV c_26_33 sc_45.n rfl rfl rfl (by omega) (t_45 hS (by omega)) ?_)))))
                                          intro z162 ez162 f163
                                          refine n_ialoadV c_26_34 sc_39.n rfl rfl rfl (by omega) (t_39 hS (by omega)) ?_
                                          intro z164 ez164 f165
                                          have kr7 : z164 = M 39 (M 45 7) := ez164.trans (congrArg (M 39) ez162)
                                          refine n_i2l c_26_35 (by omega) ?_
                                          refine n_ladd c_26_36 rfl (n_lstore_n (L2 := [some (2, 44), some (2, 39), some (2, 4), some (1, ((((((((((((((((((((((((((((((((((((((((0 * 3) + z12) * 3) + z20) * 3) + z28) * 3) + z36) * 3) + z44) * 3) + z52) * 3) + z60) * 3) + z68) * 3) + z76) * 3) + z84) * 3) + z92) * 3) + z100) * 3) + z108) * 3) + z116) * 3) + z124) * 3) + z132) * 3) + z140) * 3) + z148) * 3) + z156) * 3) + z164)), none, some (0, ((((((((((((((((((((27 - 1) + (-1)) + (-1)) + (-1)) + (-1)) + (-1)) + (-1)) + (-1)) + (-1)) + (-1)) + (-1)) + (-1)) + (-1)) + (-1)) + (-1)) + (-1)) + (-1)) + (-1)) + (-1)) + (-1)))]) c_26_37 rfl rfl (n_iinc (L2 := [some (2, 44), some (2, 39), some (2, 4), some (1, ((((((((((((((((((((((((((((((((((((((((0 * 3) + z12) * 3) + z20) * 3) + z28) * 3) + z36) * 3) + z44) * 3) + z52) * 3) + z60) * 3) + z68) * 3) + z76) * 3) + z84) * 3) + z92) * 3) + z100) * 3) + z108) * 3) + z116) * 3) + z124) * 3) + z132) * 3) + z140) * 3) + z148) * 3) + z156) * 3) + z164)), none, some (0, (((((((((((((((((((((27 - 1) + (-1)) + (-1)) + (-1)) + (-1)) + (-1)) + (-1)) + (-1)) + (-1)) + (-1)) + (-1)) + (-1)) + (-1)) + (-1)) + (-1)) + (-1)) + (-1)) + (-1)) + (-1)) + (-1)) + (-1)))]) c_26_38 rfl rfl rfl (n_goto c_26_41 (n_iload c_26_14 rfl ?_))))
                                          refine n_if0_lt c_26_16 (by omega) ?_ ?_
                                          · intro h166
                                            exfalso; omega
                                          · intro h167
                                            refine n_lload_n c_26_19 rfl (n_aload_n c_26_20 rfl (n_getV (bi := 0) c_26_21 sc_4.n rfl rfl rfl (t_4_0 hS) ?_))
                                            intro z168 ez168 f169
                                            obtain rfl : z168 = 3 := by omega
                                            refine n_i2l c_26_24 (by omega) ?_
                                            refine n_lmul c_26_25 rfl (n_aload_n c_26_26 rfl (n_aload_n c_26_27 rfl (n_getR c_26_28 sc_44.n rfl rfl rfl r_44_4 (n_iload c_26_31 rfl (n_ialoadV c_26_33 sc_45.n rfl rfl rfl (by omega) (t_45 hS (by omega)) ?_)))))
                                            intro z170 ez170 f171
                                            refine n_ialoadV c_26_34 sc_39.n rfl rfl rfl (by omega) (t_39 hS (by omega)) ?_
                                            intro z172 ez172 f173
                                            have kr6 : z172 = M 39 (M 45 6) := ez172.trans (congrArg (M 39) ez170)
                                            refine n_i2l c_26_35 (by omega) ?_
                                            refine n_ladd c_26_36 rfl (n_lstore_n (L2 := [some (2, 44), some (2, 39), some (2, 4), some (1, ((((((((((((((((((((((((((((((((((((((((((0 * 3) + z12) * 3) + z20) * 3) + z28) * 3) + z36) * 3) + z44) * 3) + z52) * 3) + z60) * 3) + z68) * 3) + z76) * 3) + z84) * 3) + z92) * 3) + z100) * 3) + z108) * 3) + z116) * 3) + z124) * 3) + z132) * 3) + z140) * 3) + z148) * 3) + z156) * 3) + z164) * 3) + z172)), none, some (0, (((((((((((((((((((((27 - 1) + (-1)) + (-1)) + (-1)) + (-1)) + (-1)) + (-1)) + (-1)) + (-1)) + (-1)) + (-1)) + (-1)) + (-1)) + (-1)) + (-1)) + (-1)) + (-1)) + (-1)) + (-1)) + (-1)) + (-1)))]) c_26_37 rfl rfl (n_iinc (L2 := [some (2, 44), some (2, 39), some (2, 4), some (1, ((((((((((((((((((((((((((((((((((((((((((0 * 3) + z12) * 3) + z20) * 3) + z28) * 3) + z36) * 3) + z44) * 3) + z52) * 3) + z60) * 3) + z68) * 3) + z76) * 3) + z84) * 3) + z92) * 3) + z100) * 3) + z108) * 3) + z116) * 3) + z124) * 3) + z132) * 3) + z140) * 3) + z148) * 3) + z156) * 3) + z164) * 3) + z172)), none, some (0, ((((((((((((((((((((((27 - 1) + (-1)) + (-1)) + (-1)) + (-1)) + (-1)) + (-1)) + (-1)) + (-1)) + (-1)) + (-1)) + (-1)) + (-1)) + (-1)) + (-1)) + (-1)) + (-1)) + (-1)) + (-1)) + (-1)) + (-1)) + (-1)))]) c_26_38 rfl rfl rfl (n_goto c_26_41 (n_iload c_26_14 rfl ?_))))
                                            refine n_if0_lt c_26_16 (by omega) ?_ ?_
                                            · intro h174
                                              exfalso; omega
                                            · intro h175
                                              refine n_lload_n c_26_19 rfl (n_aload_n c_26_20 rfl (n_getV (bi := 0) c_26_21 sc_4.n rfl rfl rfl (t_4_0 hS) ?_))
                                              intro z176 ez176 f177
                                              obtain rfl : z176 = 3 := by omega
                                              refine n_i2l c_26_24 (by omega) ?_
                                              refine n_lmul c_26_25 rfl (n_aload_n c_26_26 rfl (n_aload_n c_26_27 rfl (n_getR c_26_28 sc_44.n rfl rfl rfl r_44_4 (n_iload c_26_31 rfl (n_ialoadV c_26_33 sc_45.n rfl rfl rfl (by omega) (t_45 hS (by omega)) ?_)))))
                                              intro z178 ez178 f179
                                              refine n_ialoadV c_26_34 sc_39.n rfl rfl rfl (by omega) (t_39 hS (by omega)) ?_
                                              intro z180 ez180 f181
                                              have kr5 : z180 = M 39 (M 45 5) := ez180.trans (congrArg (M 39) ez178)
                                              refine n_i2l c_26_35 (by omega) ?_
                                              refine n_ladd c_26_36 rfl (n_lstore_n (L2 := [some (2, 44), some (2, 39), some (2, 4), some (1, ((((((((((((((((((((((((((((((((((((((((((((0 * 3) + z12) * 3) + z20) * 3) + z28) * 3) + z36) * 3) + z44) * 3) + z52) * 3) + z60) * 3) + z68) * 3) + z76) * 3) + z84) * 3) + z92) * 3) + z100) * 3) + z108) * 3) + z116) * 3) + z124) * 3) + z132) * 3) + z140) * 3) + z148) * 3) + z156) * 3) + z164) * 3) + z172) * 3) + z180)), none, some (0, ((((((((((((((((((((((27 - 1) + (-1)) + (-1)) + (-1)) + (-1)) + (-1)) + (-1)) + (-1)) + (-1)) + (-1)) + (-1)) + (-1)) + (-1)) + (-1)) + (-1)) + (-1)) + (-1)) + (-1)) + (-1)) + (-1)) + (-1)) + (-1)))]) c_26_37 rfl rfl (n_iinc (L2 := [some (2, 44), some (2, 39), some (2, 4), some (1, ((((((((((((((((((((((((((((((((((((((((((((0 * 3) + z12) * 3) + z20) * 3) + z28) * 3) + z36) * 3) + z44) * 3) + z52) * 3) + z60) * 3) + z68) * 3) + z76) * 3) + z84) * 3) + z92) * 3) + z100) * 3) + z108) * 3) + z116) * 3) + z124) * 3) + z132) * 3) + z140) * 3) + z148) * 3) + z156) * 3) + z164) * 3) + z172) * 3) + z180)), none, some (0, (((((((((((((((((((((((27 - 1) + (-1)) + (-1)) + (-1)) + (-1)) + (-1)) + (-1)) + (-1)) + (-1)) + (-1)) + (-1)) + (-1)) + (-1)) + (-1)) + (-1)) + (-1)) + (-1)) + (-1)) + (-1)) + (-1)) + (-1)) + (-1)) + (-1)))]) c_26_38 rfl rfl rfl (n_goto c_26_41 (n_iload c_26_14 rfl ?_))))
                                              refine n_if0_lt c_26_16 (by omega) ?_ ?_
                                              · intro h182
                                                exfalso; omega
                                              · intro h183
                                                refine n_lload_n c_26_19 rfl (n_aload_n c_26_20 rfl (n_getV (bi := 0) c_26_21 sc_4.n rfl rfl rfl (t_4_0 hS) ?_))
                                                intro z184 ez184 f185
                                                obtain rfl : z184 = 3 := by omega
                                                refine n_i2l c_26_24 (by omega) ?_
                                                refine n_lmul c_26_25 rfl (n_aload_n c_26_26 rfl (n_aload_n c_26_27 rfl (n_getR c_26_28 sc_44.n rfl rfl rfl r_44_4 (n_iload c_26_31 rfl (n_ialoadV c_26_33 sc_45.n rfl rfl rfl (by omega) (t_45 hS (by omega)) ?_)))))
                                                intro z186 ez186 f187
                                                refine n_ialoadV c_26_34 sc_39.n rfl rfl rfl (by omega) (t_39 hS (by omega)) ?_
                                                intro z188 ez188 f189
                                                have kr4 : z188 = M 39 (M 45 4) := ez188.trans (congrArg (M 39) ez186)
                                                refine n_i2l c_26_35 (by omega) ?_
                                                refine n_ladd c_26_36 rfl (n_lstore_n (L2 := [some (2, 44), some (2, 39), some (2, 4), some (1, ((((((((((((((((((((((((((((((((((((((((((((((0 * 3) + z12) * 3) + z20) * 3) + z28) * 3) + z36) * 3) + z44) * 3) + z52) * 3) + z60) * 3) + z68) * 3) + z76) * 3) + z84) * 3) + z92) * 3) + z100) * 3) + z108) * 3) + z116) * 3) + z124) * 3) + z132) * 3) + z140) * 3) + z148) * 3) + z156) * 3) + z164) * 3) + z172) * 3) + z180) * 3) + z188)), none, some (0, (((((((((((((((((((((((27 - 1) + (-1)) + (-1)) + (-1)) + (-1)) + (-1)) + (-1)) + (-1)) + (-1)) + (-1)) + (-1)) + (-1)) + (-1)) + (-1)) + (-1)) + (-1)) + (-1)) + (-1)) + (-1)) + (-1)) + (-1)) + (-1)) + (-1)))]) c_26_37 rfl rfl (n_iinc (L2 := [some (2, 44), some (2, 39), some (2, 4), some (1, ((((((((((((((((((((((((((((((((((((((((((((((0 * 3) + z12) * 3) + z20) * 3) + z28) * 3) + z36) * 3) + z44) * 3) + z52) * 3) + z60) * 3) + z68) * 3) + z76) * 3) + z84) * 3) + z92) * 3) + z100) * 3) + z108) * 3) + z116) * 3) + z124) * 3) + z132) * 3) + z140) * 3) + z148) * 3) + z156) * 3) + z164) * 3) + z172) * 3) + z180) * 3) + z188)), none, some (0, ((((((((((((((((((((((((27 - 1) + (-1)) + (-1)) + (-1)) + (-1)) + (-1)) + (-1)) + (-1)) + (-1)) + (-1)) + (-1)) + (-1)) + (-1)) + (-1)) + (-1)) + (-1)) + (-1)) + (-1)) + (-1)) + (-1)) + (-1)) + (-1)) + (-1)) + (-1)))]) c_26_38 rfl rfl rfl (n_goto c_26_41 (n_iload c_26_14 rfl ?_))))
                                                refine n_if0_lt c_26_16 (by omega) ?_ ?_
                                                · intro h190
                                                  exfalso; omega
                                                · intro h191
                                                  refine n_lload_n c_26_19 rfl (n_aload_n c_26_20 rfl (n_getV (bi := 0) c_26_21 sc_4.n rfl rfl rfl (t_4_0 hS) ?_))
                                                  intro z192 ez192 f193
                                                  obtain rfl : z192 = 3 := by omega
                                                  refine n_i2l c_26_24 (by omega) ?_
                                                  refine n_lmul c_26_25 rfl (n_aload_n c_26_26 rfl (n_aload_n c_26_27 rfl (n_getR c_26_28 sc_44.n rfl rfl rfl r_44_4 (n_iload c_26_31 rfl (n_ialoadV c_26_33 sc_45.n rfl rfl rfl (by omega) (t_45 hS (by omega)) ?_)))))
                                                  intro z194 ez194 f195
                                                  refine n_ialoadV c_26_34 sc_39.n rfl rfl rfl (by omega) (t_39 hS (by omega)) ?_
                                                  intro z196 ez196 f197
                                                  have kr3 : z196 = M 39 (M 45 3) := ez196.trans (congrArg (M 39) ez194)
                                                  refine n_i2l c_26_35 (by omega) ?_
                                                  refine n_ladd c_26_36 rfl (n_lstore_n (L2 := [some (2, 44), some (2, 39), some (2, 4), some (1, ((((((((((((((((((((((((((((((((((((((((((((((((0 * 3) + z12) * 3) + z20) * 3) + z28) * 3) + z36) * 3) + z44) * 3) + z52) * 3) + z60) * 3) + z68) * 3) + z76) * 3) + z84) * 3) + z92) * 3) + z100) * 3) + z108) * 3) + z116) * 3) + z124) * 3) + z132) * 3) + z140) * 3) + z148) * 3) + z156) * 3) + z164) * 3) + z172) * 3) + z180) * 3) + z188) * 3) + z196)), none, some (0, ((((((((((((((((((((((((27 - 1) + (-1)) + (-1)) + (-1)) + (-1)) + (-1)) + (-1)) + (-1)) + (-1)) + (-1)) + (-1)) + (-1)) + (-1)) + (-1)) + (-1)) + (-1)) + (-1)) + (-1)) + (-1)) + (-1)) + (-1)) + (-1)) + (-1)) + (-1)))]) c_26_37 rfl rfl (n_iinc (L2 := [some (2, 44), some (2, 39), some (2, 4), some (1, ((((((((((((((((((((((((((((((((((((((((((((((((0 * 3) + z12) * 3) + z20) * 3) + z28) * 3) + z36) * 3) + z44) * 3) + z52) * 3) + z60) * 3) + z68) * 3) + z76) * 3) + z84) * 3) + z92) * 3) + z100) * 3) + z108) * 3) + z116) * 3) + z124) * 3) + z132) * 3) + z140) * 3) + z148) * 3) + z156) * 3) + z164) * 3) + z172) * 3) + z180) * 3) + z188) * 3) + z196)), none, some (0, (((((((((((((((((((((((((27 - 1) + (-1)) + (-1)) + (-1)) + (-1)) + (-1)) + (-1)) + (-1)) + (-1)) + (-1)) + (-1)) + (-1)) + (-1)) + (-1)) + (-1)) + (-1)) + (-1)) + (-1)) + (-1)) + (-1)) + (-1)) + (-1)) + (-1)) + (-1)) + (-1)))]) c_26_38 rfl rfl rfl (n_goto c_26_41 (n_iload c_26_14 rfl ?_))))
                                                  refine n_if0_lt c_26_16 (by omega) ?_ ?_
                                                  · intro h198
                                                    exfalso; omega
                                                  · intro h199
                                                    refine n_lload_n c_26_19 rfl (n_aload_n c_26_20 rfl (n_getV (bi := 0) c_26_21 sc_4.n rfl rfl rfl (t_4_0 hS) ?_))
                                                    intro z200 ez200 f201
                                                    obtain rfl : z200 = 3 := by omega
                                                    refine n_i2l c_26_24 (by omega) ?_
                                                    refine n_lmul c_26_25 rfl (n_aload_n c_26_26 rfl (n_aload_n c_26_27 rfl (n_getR c_26_28 sc_44.n rfl rfl rfl r_44_4 (n_iload c_26_31 rfl (n_ialoadV c_26_33 sc_45.n rfl rfl rfl (by omega) (t_45 hS (by omega)) ?_)))))
                                                    intro z202 ez202 f203
                                                    refine n_ialoadV c_26_34 sc_39.n rfl rfl rfl (by omega) (t_39 hS (by omega)) ?_
                                                    intro z204 ez204 f205
                                                    have kr2 : z204 = M 39 (M 45 2) := ez204.trans (congrArg (M 39) ez202)
                                                    refine n_i2l c_26_35 (by omega) ?_
                                                    refine n_ladd c_26_36 rfl (n_lstore_n (L2 := [some (2, 44), some (2, 39), some (2, 4), some (1, ((((((((((((((((((((((((((((((((((((((((((((((((((0 * 3) + z12) * 3) + z20) * 3) + z28) * 3) + z36) * 3) + z44) * 3) + z52) * 3) + z60) * 3) + z68) * 3) + z76) * 3) + z84) * 3) + z92) * 3) + z100) * 3) + z108) * 3) + z116) * 3) + z124) * 3) + z132) * 3) + z140) * 3) + z148) * 3) + z156) * 3) + z164) * 3) + z172) * 3) + z180) * 3) + z188) * 3) + z196) * 3) + z204)), none, some (0, (((((((((((((((((((((((((27 - 1) + (-1)) + (-1)) + (-1)) + (-1)) + (-1)) + (-1)) + (-1)) + (-1)) + (-1)) + (-1)) + (-1)) + (-1)) + (-1)) + (-1)) + (-1)) + (-1)) + (-1)) + (-1)) + (-1)) + (-1)) + (-1)) + (-1)) + (-1)) + (-1)))]) c_26_37 rfl rfl (n_iinc (L2 := [some (2, 44), some (2, 39), some (2, 4), some (1, ((((((((((((((((((((((((((((((((((((((((((((((((((0 * 3) + z12) * 3) + z20) * 3) + z28) * 3) + z36) * 3) + z44) * 3) + z52) * 3) + z60) * 3) + z68) * 3) + z76) * 3) + z84) * 3) + z92) * 3) + z100) * 3) + z108) * 3) + z116) * 3) + z124) * 3) + z132) * 3) + z140) * 3) + z148) * 3) + z156) * 3) + z164) * 3) + z172) * 3) + z180) * 3) + z188) * 3) + z196) * 3) + z204)), none, some (0, ((((((((((((((((((((((((((27 - 1) + (-1)) + (-1)) + (-1)) + (-1)) + (-1)) + (-1)) + (-1)) + (-1)) + (-1)) + (-1)) + (-1)) + (-1)) + (-1)) + (-1)) + (-1)) + (-1)) + (-1)) + (-1)) + (-1)) + (-1)) + (-1)) + (-1)) + (-1)) + (-1)) + (-1)))]) c_26_38 rfl rfl rfl (n_goto c_26_41 (n_iload c_26_14 rfl ?_))))
                                                    refine n_if0_lt c_26_16 (by omega) ?_ ?_
                                                    · intro h206
                                                      exfalso; omega
                                                    · intro h207
                                                      refine n_lload_n c_26_19 rfl (n_aload_n c_26_20 rfl (n_getV (bi := 0) c_26_21 sc_4.n rfl rfl rfl (t_4_0 hS) ?_))
                                                      intro z208 ez208 f209
                                                      obtain rfl : z208 = 3 := by omega
                                                      refine n_i2l c_26_24 (by omega) ?_
                                                      refine n_lmul c_26_25 rfl (n_aload_n c_26_26 rfl (n_aload_n c_26_27 rfl (n_getR c_26_28 sc_44.n rfl rfl rfl r_44_4 (n_iload c_26_31 rfl (n_ialoadV c_26_33 sc_45.n rfl rfl rfl (by omega) (t_45 hS (by omega)) ?_)))))
                                                      intro z210 ez210 f211
                                                      refine n_ialoadV c_26_34 sc_39.n rfl rfl rfl (by omega) (t_39 hS (by omega)) ?_
                                                      intro z212 ez212 f213
                                                      have kr1 : z212 = M 39 (M 45 1) := ez212.trans (congrArg (M 39) ez210)
                                                      refine n_i2l c_26_35 (by omega) ?_
                                                      refine n_ladd c_26_36 rfl (n_lstore_n (L2 := [some (2, 44), some (2, 39), some (2, 4), some (1, ((((((((((((((((((((((((((((((((((((((((((((((((((((0 * 3) + z12) * 3) + z20) * 3) + z28) * 3) + z36) * 3) + z44) * 3) + z52) * 3) + z60) * 3) + z68) * 3) + z76) * 3) + z84) * 3) + z92) * 3) + z100) * 3) + z108) * 3) + z116) * 3) + z124) * 3) + z132) * 3) + z140) * 3) + z148) * 3) + z156) * 3) + z164) * 3) + z172) * 3) + z180) * 3) + z188) * 3) + z196) * 3) + z204) * 3) + z212)), none, some (0, ((((((((((((((((((((((((((27 - 1) + (-1)) + (-1)) + (-1)) + (-1)) + (-1)) + (-1)) + (-1)) + (-1)) + (-1)) + (-1)) + (-1)) + (-1)) + (-1)) + (-1)) + (-1)) + (-1)) + (-1)) + (-1)) + (-1)) + (-1)) + (-1)) + (-1)) + (-1)) + (-1)) + (-1)))]) c_26_37 rfl rfl (n_iinc (L2 := [some (2, 44), some (2, 39), some (2, 4), some (1, ((((((((((((((((((((((((((((((((((((((((((((((((((((0 * 3) + z12) * 3) + z20) * 3) + z28) * 3) + z36) * 3) + z44) * 3) + z52) * 3) + z60) * 3) + z68) * 3) + z76) * 3) + z84) * 3) + z92) * 3) + z100) * 3) + z108) * 3) + z116) * 3) + z124) * 3) + z132) * 3) + z140) * 3) + z148) * 3) + z156) * 3) + z164) * 3) + z172) * 3) + z180) * 3) + z188) * 3) + z196) * 3) + z204) * 3) + z212)), none, some (0, (((((((((((((((((((((((((((27 - 1) + (-1)) + (-1)) + (-1)) + (-1)) + (-1)) + (-1)) + (-1)) + (-1)) + (-1)) + (-1)) + (-1)) + (-1)) + (-1)) + (-1)) + (-1)) + (-1)) + (-1)) + (-1)) + (-1)) + (-1)) + (-1)) + (-1)) + (-1)) + (-1)) + (-1)) + (-1)))]) c_26_38 rfl rfl rfl (n_goto c_26_41 (n_iload c_26_14 rfl ?_))))
                                                      refine n_if0_lt c_26_16 (by omega) ?_ ?_
                                                      · intro h214
                                                        exfalso; omega
                                                      · intro h215
                                                        refine n_lload_n c_26_19 rfl (n_aload_n c_26_20 rfl (n_getV (bi := 0) c_26_21 sc_4.n rfl rfl rfl (t_4_0 hS) ?_))
                                                        intro z216 ez216 f217
                                                        obtain rfl : z216 = 3 := by omega
                                                        refine n_i2l c_26_24 (by omega) ?_
                                                        refine n_lmul c_26_25 rfl (n_aload_n c_26_26 rfl (n_aload_n c_26_27 rfl (n_getR c_26_28 sc_44.n rfl rfl rfl r_44_4 (n_iload c_26_31 rfl (n_ialoadV c_26_33 sc_45.n rfl rfl rfl (by omega) (t_45 hS (by omega)) ?_)))))
                                                        intro z218 ez218 f219
                                                        refine n_ialoadV c_26_34 sc_39.n rfl rfl rfl (by omega) (t_39 hS (by omega)) ?_
                                                        intro z220 ez220 f221
                                                        have kr0 : z220 = M 39 (M 45 0) := ez220.trans (congrArg (M 39) ez218)
                                                        refine n_i2l c_26_35 (by omega) ?_
                                                        refine n_ladd c_26_36 rfl (n_lstore_n (L2 := [some (2, 44), some (2, 39), some (2, 4), some (1, ((((((((((((((((((((((((((((((((((((((((((((((((((((((0 * 3) + z12) * 3) + z20) * 3) + z28) * 3) + z36) * 3) + z44) * 3) + z52) * 3) + z60) * 3) + z68) * 3) + z76) * 3) + z84) * 3) + z92) * 3) + z100) * 3) + z108) * 3) + z116) * 3) + z124) * 3) + z132) * 3) + z140) * 3) + z148) * 3) + z156) * 3) + z164) * 3) + z172) * 3) + z180) * 3) + z188) * 3) + z196) * 3) + z204) * 3) + z212) * 3) + z220)), none, some (0, (((((((((((((((((((((((((((27 - 1) + (-1)) + (-1)) + (-1)) + (-1)) + (-1)) + (-1)) + (-1)) + (-1)) + (-1)) + (-1)) + (-1)) + (-1)) + (-1)) + (-1)) + (-1)) + (-1)) + (-1)) + (-1)) + (-1)) + (-1)) + (-1)) + (-1)) + (-1)) + (-1)) + (-1)) + (-1)))]) c_26_37 rfl rfl (n_iinc (L2 := [some (2, 44), some (2, 39), some (2, 4), some (1, ((((((((((((((((((((((((((((((((((((((((((((((((((((((0 * 3) + z12) * 3) + z20) * 3) + z28) * 3) + z36) * 3) + z44) * 3) + z52) * 3) + z60) * 3) + z68) * 3) + z76) * 3) + z84) * 3) + z92) * 3) + z100) * 3) + z108) * 3) + z116) * 3) + z124) * 3) + z132) * 3) + z140) * 3) + z148) * 3) + z156) * 3) + z164) * 3) + z172) * 3) + z180) * 3) + z188) * 3) + z196) * 3) + z204) * 3) + z212) * 3) + z220)), none, some (0, ((((((((((((((((((((((((((((27 - 1) + (-1)) + (-1)) + (-1)) + (-1)) + (-1)) + (-1)) + (-1)) + (-1)) + (-1)) + (-1)) + (-1)) + (-1)) + (-1)) + (-1)) + (-1)) + (-1)) + (-1)) + (-1)) + (-1)) + (-1)) + (-1)) + (-1)) + (-1)) + (-1)) + (-1)) + (-1)) + (-1)))]) c_26_38 rfl rfl rfl (n_goto c_26_41 (n_iload c_26_14 rfl ?_))))
                                                        refine n_if0_lt c_26_16 (by omega) ?_ ?_
                                                        · intro h222
                                                          refine n_lload_n c_26_44 rfl ?_
                                                          exact n_rJ c_26_45 rfl ⟨rfl, by omega, by show _ = M 39 (M 45 0) + 3 * (M 39 (M 45 1) + 3 * (M 39 (M 45 2) + 3 * (M 39 (M 45 3) + 3 * (M 39 (M 45 4) + 3 * (M 39 (M 45 5) + 3 * (M 39 (M 45 6) + 3 * (M 39 (M 45 7) + 3 * (M 39 (M 45 8) + 3 * (M 39 (M 45 9) + 3 * (M 39 (M 45 10) + 3 * (M 39 (M 45 11) + 3 * (M 39 (M 45 12) + 3 * (M 39 (M 45 13) + 3 * (M 39 (M 45 14) + 3 * (M 39 (M 45 15) + 3 * (M 39 (M 45 16) + 3 * (M 39 (M 45 17) + 3 * (M 39 (M 45 18) + 3 * (M 39 (M 45 19) + 3 * (M 39 (M 45 20) + 3 * (M 39 (M 45 21) + 3 * (M 39 (M 45 22) + 3 * (M 39 (M 45 23) + 3 * (M 39 (M 45 24) + 3 * (M 39 (M 45 25) + 3 * (M 39 (M 45 26) + 3 * (0))))))))))))))))))))))))))); omega⟩
                                                        · intro h223
                                                          exfalso; omega
