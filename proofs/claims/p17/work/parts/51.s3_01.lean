/-! The methods, by program. -/
set_option maxHeartbeats 4000000 in
theorem beSum_3_c {xs : List Int32} {e : Nat} {ac : Int} {M0 M : nM} (hS : Sf 3 ac M0 M)  : ∀ nn : Nat, (∀ (x2 : Int) (M : nM), Sf 3 ac M0 M → (0 ≤ x2 ∧ x2 ≤ 27) → (M 44 5 = 3) → (27 - x2) * 1 + 1 < (nn : Int) → nW xs (e + 1) 23 12 [some (2, 44), some (2, 4), some (0, x2), none] [] M (nPV fun M1 => Sf 3 ac M0 M1)) := by
  have hd : (3 : Int) = 2 ∨ (3 : Int) = 3 := by decide
  have hac := hS.2.2.2.2
  intro nn
  induction nn with
  | zero => intros; omega
  | succ nn ih =>
    intro x2 M hS k2 v0 hnn
    rcases (show x2 = 0 ∨ x2 = 1 ∨ x2 = 2 ∨ x2 = 3 ∨ x2 = 4 ∨ x2 = 5 ∨ x2 = 6 ∨ x2 = 7 ∨ x2 = 8 ∨ x2 = 9 ∨ x2 = 10 ∨ x2 = 11 ∨ x2 = 12 ∨ x2 = 13 ∨ x2 = 14 ∨ x2 = 15 ∨ x2 = 16 ∨ x2 = 17 ∨ x2 = 18 ∨ x2 = 19 ∨ x2 = 20 ∨ x2 = 21 ∨ x2 = 22 ∨ x2 = 23 ∨ x2 = 24 ∨ x2 = 25 ∨ x2 = 26 ∨ x2 = 27 by omega) with rfl | rfl | rfl | rfl | rfl | rfl | rfl | rfl | rfl | rfl | rfl | rfl | rfl | rfl | rfl | rfl | rfl | rfl | rfl | rfl | rfl | rfl | rfl | rfl | rfl | rfl | rfl | rfl
    · skip
      refine n_iload_n c_23_12 rfl (n_aload_n c_23_13 rfl (n_getV (bi := 1) c_23_14 sc_4.n rfl rfl rfl (t_4_1 hS) ?_))
      intro z1 ez1 f2
      obtain rfl : z1 = 27 := by omega
      refine n_if2_ge c_23_17 (by omega) (by omega) ?_ ?_
      · intro h3
        exfalso; omega
      · intro h4
        refine n_aload_n c_23_20 rfl (n_getR c_23_21 sc_4.n rfl rfl rfl r_4_2 (n_iload_n c_23_24 rfl (n_ialoadV c_23_25 sc_5.n rfl rfl rfl (by omega) (t_5k (z := 0) hS (by omega) (by omega) (by omega)) ?_)))
        intro z5 ez5 f6
        refine n_aload_n c_23_26 rfl (n_getR c_23_27 sc_4.n rfl rfl rfl r_4_3 (n_iload_n c_23_30 rfl (n_ialoadV c_23_31 sc_6.n rfl rfl rfl (by omega) (t_6k (z := 0) hS (by omega) (by omega) (by omega)) ?_)))
        intro z7 ez7 f8
        refine n_isub c_23_32 rfl (n_aload_n c_23_33 rfl (n_getR c_23_34 sc_4.n rfl rfl rfl r_4_4 (n_iload_n c_23_37 rfl (n_ialoadV c_23_38 sc_7.n rfl rfl rfl (by omega) (t_7k (z := 0) hS (by omega) (by omega) (by omega)) ?_))))
        intro z9 ez9 f10
        refine n_iadd c_23_39 rfl (n_istore_n (L2 := [some (2, 44), some (2, 4), some (0, 0), some (0, ((z5 - z7) + z9))]) c_23_40 rfl rfl (n_aload_n c_23_41 rfl (n_getR c_23_42 sc_44.n rfl rfl rfl r_44_4 (n_iload_n c_23_45 rfl (n_iload_n c_23_46 rfl (n_aload_n c_23_47 rfl (n_getV (bi := 5) c_23_48 sc_44.n rfl rfl rfl (t_44_5 hS) ?_)))))))
        intro z11 ez11 f12
        obtain rfl : z11 = 3 := by omega
        refine n_iconst c_23_51 ?_
        refine n_if2_ne c_23_52 (by omega) (by omega) ?_ ?_
        · intro h13
          refine n_iconst c_23_59 ?_
          have hcst : (((z5 - z7) + z9) : Int) = 0 := by omega
          rw [hcst]
          refine n_s2I c_23_60 rfl rfl rfl rfl (fmod3_3  hS ) ?_
          intro z14 M15 hP16
          obtain ⟨eM, f16⟩ := hP16
          subst eM
          obtain rfl : z14 = 0 := by omega
          refine n_iastoreV hS c_23_63 sc_45.n rfl (by omega) (w_45 (by omega) (by omega)) ?_
          intro M17 eM17 hS17
          have g17_0 : M17 44 5 = M 44 5 := by rw [eM17]; exact nu_a (by omega)
          refine n_iinc (L2 := [some (2, 44), some (2, 4), some (0, (0 + 1)), some (0, 0)]) c_23_64 rfl rfl rfl (n_goto c_23_67 (n_fg (le_s (le_s (le_s (le_n le_0)))) ?_))
          exact ih _ M17 hS17 (by omega) (by omega) (by omega)
        · intro h18
          exfalso; omega
    · skip
      refine n_iload_n c_23_12 rfl (n_aload_n c_23_13 rfl (n_getV (bi := 1) c_23_14 sc_4.n rfl rfl rfl (t_4_1 hS) ?_))
      intro z19 ez19 f20
      obtain rfl : z19 = 27 := by omega
      refine n_if2_ge c_23_17 (by omega) (by omega) ?_ ?_
      · intro h21
        exfalso; omega
      · intro h22
        refine n_aload_n c_23_20 rfl (n_getR c_23_21 sc_4.n rfl rfl rfl r_4_2 (n_iload_n c_23_24 rfl (n_ialoadV c_23_25 sc_5.n rfl rfl rfl (by omega) (t_5k (z := 0) hS (by omega) (by omega) (by omega)) ?_)))
        intro z23 ez23 f24
        refine n_aload_n c_23_26 rfl (n_getR c_23_27 sc_4.n rfl rfl rfl r_4_3 (n_iload_n c_23_30 rfl (n_ialoadV c_23_31 sc_6.n rfl rfl rfl (by omega) (t_6k (z := 0) hS (by omega) (by omega) (by omega)) ?_)))
        intro z25 ez25 f26
        refine n_isub c_23_32 rfl (n_aload_n c_23_33 rfl (n_getR c_23_34 sc_4.n rfl rfl rfl r_4_4 (n_iload_n c_23_37 rfl (n_ialoadV c_23_38 sc_7.n rfl rfl rfl (by omega) (t_7k (z := 1) hS (by omega) (by omega) (by omega)) ?_))))
        intro z27 ez27 f28
        refine n_iadd c_23_39 rfl (n_istore_n (L2 := [some (2, 44), some (2, 4), some (0, 1), some (0, ((z23 - z25) + z27))]) c_23_40 rfl rfl (n_aload_n c_23_41 rfl (n_getR c_23_42 sc_44.n rfl rfl rfl r_44_4 (n_iload_n c_23_45 rfl (n_iload_n c_23_46 rfl (n_aload_n c_23_47 rfl (n_getV (bi := 5) c_23_48 sc_44.n rfl rfl rfl (t_44_5 hS) ?_)))))))
        intro z29 ez29 f30
        obtain rfl : z29 = 3 := by omega
        refine n_iconst c_23_51 ?_
        refine n_if2_ne c_23_52 (by omega) (by omega) ?_ ?_
        · intro h31
          refine n_iconst c_23_59 ?_
          have hcst : (((z23 - z25) + z27) : Int) = 1 := by omega
          rw [hcst]
          refine n_s2I c_23_60 rfl rfl rfl rfl (fmod4_3  hS ) ?_
          intro z32 M33 hP34
          obtain ⟨eM, f34⟩ := hP34
          subst eM
          obtain rfl : z32 = 1 := by omega
          refine n_iastoreV hS c_23_63 sc_45.n rfl (by omega) (w_45 (by omega) (by omega)) ?_
          intro M35 eM35 hS35
          have g35_0 : M35 44 5 = M 44 5 := by rw [eM35]; exact nu_a (by omega)
          refine n_iinc (L2 := [some (2, 44), some (2, 4), some (0, (1 + 1)), some (0, 1)]) c_23_64 rfl rfl rfl (n_goto c_23_67 (n_fg (le_s (le_s (le_s (le_n le_0)))) ?_))
          exact ih _ M35 hS35 (by omega) (by omega) (by omega)
        · intro h36
          exfalso; omega
    · skip
      refine n_iload_n c_23_12 rfl (n_aload_n c_23_13 rfl (n_getV (bi := 1) c_23_14 sc_4.n rfl rfl rfl (t_4_1 hS) ?_))
      intro z37 ez37 f38
      obtain rfl : z37 = 27 := by omega
      refine n_if2_ge c_23_17 (by omega) (by omega) ?_ ?_
      · intro h39
        exfalso; omega
      · intro h40
        refine n_aload_n c_23_20 rfl (n_getR c_23_21 sc_4.n rfl rfl rfl r_4_2 (n_iload_n c_23_24 rfl (n_ialoadV c_23_25 sc_5.n rfl rfl rfl (by omega) (t_5k (z := 0) hS (by omega) (by omega) (by omega)) ?_)))
        intro z41 ez41 f42
        refine n_aload_n c_23_26 rfl (n_getR c_23_27 sc_4.n rfl rfl rfl r_4_3 (n_iload_n c_23_30 rfl (n_ialoadV c_23_31 sc_6.n rfl rfl rfl (by omega) (t_6k (z := 0) hS (by omega) (by omega) (by omega)) ?_)))
        intro z43 ez43 f44
        refine n_isub c_23_32 rfl (n_aload_n c_23_33 rfl (n_getR c_23_34 sc_4.n rfl rfl rfl r_4_4 (n_iload_n c_23_37 rfl (n_ialoadV c_23_38 sc_7.n rfl rfl rfl (by omega) (t_7k (z := 2) hS (by omega) (by omega) (by omega)) ?_))))
        intro z45 ez45 f46
        refine n_iadd c_23_39 rfl (n_istore_n (L2 := [some (2, 44), some (2, 4), some (0, 2), some (0, ((z41 - z43) + z45))]) c_23_40 rfl rfl (n_aload_n c_23_41 rfl (n_getR c_23_42 sc_44.n rfl rfl rfl r_44_4 (n_iload_n c_23_45 rfl (n_iload_n c_23_46 rfl (n_aload_n c_23_47 rfl (n_getV (bi := 5) c_23_48 sc_44.n rfl rfl rfl (t_44_5 hS) ?_)))))))
        intro z47 ez47 f48
        obtain rfl : z47 = 3 := by omega
        refine n_iconst c_23_51 ?_
        refine n_if2_ne c_23_52 (by omega) (by omega) ?_ ?_
        · intro h49
          refine n_iconst c_23_59 ?_
          have hcst : (((z41 - z43) + z45) : Int) = 2 := by omega
          rw [hcst]
          refine n_s2I c_23_60 rfl rfl rfl rfl (fmod5_3  hS ) ?_
          intro z50 M51 hP52
          obtain ⟨eM, f52⟩ := hP52
          subst eM
          obtain rfl : z50 = 2 := by omega
          refine n_iastoreV hS c_23_63 sc_45.n rfl (by omega) (w_45 (by omega) (by omega)) ?_
          intro M53 eM53 hS53
          have g53_0 : M53 44 5 = M 44 5 := by rw [eM53]; exact nu_a (by omega)
          refine n_iinc (L2 := [some (2, 44), some (2, 4), some (0, (2 + 1)), some (0, 2)]) c_23_64 rfl rfl rfl (n_goto c_23_67 (n_fg (le_s (le_s (le_s (le_n le_0)))) ?_))
          exact ih _ M53 hS53 (by omega) (by omega) (by omega)
        · intro h54
          exfalso; omega
    · skip
      refine n_iload_n c_23_12 rfl (n_aload_n c_23_13 rfl (n_getV (bi := 1) c_23_14 sc_4.n rfl rfl rfl (t_4_1 hS) ?_))
      intro z55 ez55 f56
      obtain rfl : z55 = 27 := by omega
      refine n_if2_ge c_23_17 (by omega) (by omega) ?_ ?_
      · intro h57
        exfalso; omega
      · intro h58
        refine n_aload_n c_23_20 rfl (n_getR c_23_21 sc_4.n rfl rfl rfl r_4_2 (n_iload_n c_23_24 rfl (n_ialoadV c_23_25 sc_5.n rfl rfl rfl (by omega) (t_5k (z := 0) hS (by omega) (by omega) (by omega)) ?_)))
        intro z59 ez59 f60
        refine n_aload_n c_23_26 rfl (n_getR c_23_27 sc_4.n rfl rfl rfl r_4_3 (n_iload_n c_23_30 rfl (n_ialoadV c_23_31 sc_6.n rfl rfl rfl (by omega) (t_6k (z := 1) hS (by omega) (by omega) (by omega)) ?_)))
        intro z61 ez61 f62
        refine n_isub c_23_32 rfl (n_aload_n c_23_33 rfl (n_getR c_23_34 sc_4.n rfl rfl rfl r_4_4 (n_iload_n c_23_37 rfl (n_ialoadV c_23_38 sc_7.n rfl rfl rfl (by omega) (t_7k (z := 0) hS (by omega) (by omega) (by omega)) ?_))))
        intro z63 ez63 f64
        refine n_iadd c_23_39 rfl (n_istore_n (L2 := [some (2, 44), some (2, 4), some (0, 3), some (0, ((z59 - z61) + z63))]) c_23_40 rfl rfl (n_aload_n c_23_41 rfl (n_getR c_23_42 sc_44.n rfl rfl rfl r_44_4 (n_iload_n c_23_45 rfl (n_iload_n c_23_46 rfl (n_aload_n c_23_47 rfl (n_getV (bi := 5) c_23_48 sc_44.n rfl rfl rfl (t_44_5 hS) ?_)))))))
        intro z65 ez65 f66
        obtain rfl : z65 = 3 := by omega
        refine n_iconst c_23_51 ?_
        refine n_if2_ne c_23_52 (by omega) (by omega) ?_ ?_
        · intro h67
          refine n_iconst c_23_59 ?_
          have hcst : (((z59 - z61) + z63) : Int) = (-1) := by omega
          rw [hcst]
          refine n_s2I c_23_60 rfl rfl rfl rfl (fmod2_3  hS ) ?_
          intro z68 M69 hP70
          obtain ⟨eM, f70⟩ := hP70
          subst eM
          obtain rfl : z68 = 2 := by omega
          refine n_iastoreV hS c_23_63 sc_45.n rfl (by omega) (w_45 (by omega) (by omega)) ?_
          intro M71 eM71 hS71
          have g71_0 : M71 44 5 = M 44 5 := by rw [eM71]; exact nu_a (by omega)
          refine n_iinc (L2 := [some (2, 44), some (2, 4), some (0, (3 + 1)), some (0, (-1))]) c_23_64 rfl rfl rfl (n_goto c_23_67 (n_fg (le_s (le_s (le_s (le_n le_0)))) ?_))
          exact ih _ M71 hS71 (by omega) (by omega) (by omega)
        · intro h72
          exfalso; omega
    · skip
      refine n_iload_n c_23_12 rfl (n_aload_n c_23_13 rfl (n_getV (bi := 1) c_23_14 sc_4.n rfl rfl rfl (t_4_1 hS) ?_))
      intro z73 ez73 f74
      obtain rfl : z73 = 27 := by omega
      refine n_if2_ge c_23_17 (by omega) (by omega) ?_ ?_
      · intro h75
        exfalso; omega
      · intro h76
        refine n_aload_n c_23_20 rfl (n_getR c_23_21 sc_4.n rfl rfl rfl r_4_2 (n_iload_n c_23_24 rfl (n_ialoadV c_23_25 sc_5.n rfl rfl rfl (by omega) (t_5k (z := 0) hS (by omega) (by omega) (by omega)) ?_)))
        intro z77 ez77 f78
        refine n_aload_n c_23_26 rfl (n_getR c_23_27 sc_4.n rfl rfl rfl r_4_3 (n_iload_n c_23_30 rfl (n_ialoadV c_23_31 sc_6.n rfl rfl rfl (by omega) (t_6k (z := 1) hS (by omega) (by omega) (by omega)) ?_)))
        intro z79 ez79 f80
        refine n_isub c_23_32 rfl (n_aload_n c_23_33 rfl (n_getR c_23_34 sc_4.n rfl rfl rfl r_4_4 (n_iload_n c_23_37 rfl (n_ialoadV c_23_38 sc_7.n rfl rfl rfl (by omega) (t_7k (z := 1) hS (by omega) (by omega) (by omega)) ?_))))
        intro z81 ez81 f82
        refine n_iadd c_23_39 rfl (n_istore_n (L2 := [some (2, 44), some (2, 4), some (0, 4), some (0, ((z77 - z79) + z81))]) c_23_40 rfl rfl (n_aload_n c_23_41 rfl (n_getR c_23_42 sc_44.n rfl rfl rfl r_44_4 (n_iload_n c_23_45 rfl (n_iload_n c_23_46 rfl (n_aload_n c_23_47 rfl (n_getV (bi := 5) c_23_48 sc_44.n rfl rfl rfl (t_44_5 hS) ?_)))))))
        intro z83 ez83 f84
        obtain rfl : z83 = 3 := by omega
        refine n_iconst c_23_51 ?_
        refine n_if2_ne c_23_52 (by omega) (by omega) ?_ ?_
        · intro h85
          refine n_iconst c_23_59 ?_
          have hcst : (((z77 - z79) + z81) : Int) = 0 := by omega
          rw [hcst]
          refine n_s2I c_23_60 rfl rfl rfl rfl (fmod3_3  hS ) ?_
          intro z86 M87 hP88
          obtain ⟨eM, f88⟩ := hP88
          subst eM
          obtain rfl : z86 = 0 := by omega
          refine n_iastoreV hS c_23_63 sc_45.n rfl (by omega) (w_45 (by omega) (by omega)) ?_
          intro M89 eM89 hS89
          have g89_0 : M89 44 5 = M 44 5 := by rw [eM89]; exact nu_a (by omega)
          refine n_iinc (L2 := [some (2, 44), some (2, 4), some (0, (4 + 1)), some (0, 0)]) c_23_64 rfl rfl rfl (n_goto c_23_67 (n_fg (le_s (le_s (le_s (le_n le_0)))) ?_))
          exact ih _ M89 hS89 (by omega) (by omega) (by omega)
        · intro h90
          exfalso; omega
    · skip
      refine n_iload_n c_23_12 rfl (n_aload_n c_23_13 rfl (n_getV (bi := 1) c_23_14 sc_4.n rfl rfl rfl (t_4_1 hS) ?_))
      intro z91 ez91 f92
      obtain rfl : z91 = 27 := by omega
      refine n_if2_ge c_23_17 (by omega) (by omega) ?_ ?_
      · intro h93
        exfalso; omega
      · intro h94
        refine n_aload_n c_23_20 rfl (n_getR c_23_21 sc_4.n rfl rfl rfl r_4_2 (n_iload_n c_23_24 rfl (n_ialoadV c_23_25 sc_5.n rfl rfl rfl (by omega) (t_5k (z := 0) hS (by omega) (by omega) (by omega)) ?_)))
        intro z95 ez95 f96
        refine n_aload_n c_23_26 rfl (n_getR c_23_27 sc_4.n rfl rfl rfl r_4_3 (n_iload_n c_23_30 rfl (n_ialoadV c_23_31 sc_6.n rfl rfl rfl (by omega) (t_6k (z := 1) hS (by omega) (by omega) (by omega)) ?_)))
        intro z97 ez97 f98
        refine n_isub c_23_32 rfl (n_aload_n c_23_33 rfl (n_getR c_23_34 sc_4.n rfl rfl rfl r_4_4 (n_iload_n c_23_37 rfl (n_ialoadV c_23_38 sc_7.n rfl rfl rfl (by omega) (t_7k (z := 2) hS (by omega) (by omega) (by omega)) ?_))))
        intro z99 ez99 f100
        refine n_iadd c_23_39 rfl (n_istore_n (L2 := [some (2, 44), some (2, 4), some (0, 5), some (0, ((z95 - z97) + z99))]) c_23_40 rfl rfl (n_aload_n c_23_41 rfl (n_getR c_23_42 sc_44.n rfl rfl rfl r_44_4 (n_iload_n c_23_45 rfl (n_iload_n c_23_46 rfl (n_aload_n c_23_47 rfl (n_getV (bi := 5) c_23_48 sc_44.n rfl rfl rfl (t_44_5 hS) ?_)))))))
        intro z101 ez101 f102
        obtain rfl : z101 = 3 := by omega
        refine n_iconst c_23_51 ?_
        refine n_if2_ne c_23_52 (by omega) (by omega) ?_ ?_
        · intro h103
          refine n_iconst c_23_59 ?_
          have hcst : (((z95 - z97) + z99) : Int) = 1 := by omega
          rw [hcst]
          refine n_s2I c_23_60 rfl rfl rfl rfl (fmod4_3  hS ) ?_
          intro z104 M105 hP106
          obtain ⟨eM, f106⟩ := hP106
          subst eM
          obtain rfl : z104 = 1 := by omega
          refine n_iastoreV hS c_23_63 sc_45.n rfl (by omega) (w_45 (by omega) (by omega)) ?_
          intro M107 eM107 hS107
          have g107_0 : M107 44 5 = M 44 5 := by rw [eM107]; exact nu_a (by omega)
          refine n_iinc (L2 := [some (2, 44), some (2, 4), some (0, (5 + 1)), some (0, 1)]) c_23_64 rfl rfl rfl (n_goto c_23_67 (n_fg (le_s (le_s (le_s (le_n le_0)))) ?_))
          exact ih _ M107 hS107 (by omega) (by omega) (by omega)
        · intro h108
          exfalso; omega
    · skip
      refine n_iload_n c_23_12 rfl (n_aload_n c_23_13 rfl (n_getV (bi := 1) c_23_14 sc_4.n rfl rfl rfl (t_4_1 hS) ?_))
      intro z109 ez109 f110
      obtain rfl : z109 = 27 := by omega
      refine n_if2_ge c_23_17 (by omega) (by omega) ?_ ?_
      · intro h111
        exfalso; omega
      · intro h112
        refine n_aload_n c_23_20 rfl (n_getR c_23_21 sc_4.n rfl rfl rfl r_4_2 (n_iload_n c_23_24 rfl (n_ialoadV c_23_25 sc_5.n rfl rfl rfl (by omega) (t_5k (z := 0) hS (by omega) (by omega) (by omega)) ?_)))
        intro z113 ez113 f114
        refine n_aload_n c_23_26 rfl (n_getR c_23_27 sc_4.n rfl rfl rfl r_4_3 (n_iload_n c_23_30 rfl (n_ialoadV c_23_31 sc_6.n rfl rfl rfl (by omega) (t_6k (z := 2) hS (by omega) (by omega) (by omega)) ?_)))
        intro z115 ez115 f116
        refine n_isub c_23_32 rfl (n_aload_n c_23_33 rfl (n_getR c_23_34 sc_4.n rfl rfl rfl r_4_4 (n_iload_n c_23_37 rfl (n_ialoadV c_23_38 sc_7.n rfl rfl rfl (by omega) (t_7k (z := 0) hS (by omega) (by omega) (by omega)) ?_))))
        intro z117 ez117 f118
        refine n_iadd c_23_39 rfl (n_istore_n (L2 := [some (2, 44), some (2, 4), some (0, 6), some (0, ((z113 - z115) + z117))]) c_23_40 rfl rfl (n_aload_n c_23_41 rfl (n_getR c_23_42 sc_44.n rfl rfl rfl r_44_4 (n_iload_n c_23_45 rfl (n_iload_n c_23_46 rfl (n_aload_n c_23_47 rfl (n_getV (bi := 5) c_23_48 sc_44.n rfl rfl rfl (t_44_5 hS) ?_)))))))
        intro z119 ez119 f120
        obtain rfl : z119 = 3 := by omega
        refine n_iconst c_23_51 ?_
        refine n_if2_ne c_23_52 (by omega) (by omega) ?_ ?_
        · intro h121
          refine n_iconst c_23_59 ?_
          have hcst : (((z113 - z115) + z117) : Int) = (-2) := by omega
          rw [hcst]
          refine n_s2I c_23_60 rfl rfl rfl rfl (fmod1_3  hS ) ?_
          intro z122 M123 hP124
          obtain ⟨eM, f124⟩ := hP124
          subst eM
          obtain rfl : z122 = 1 := by omega
          refine n_iastoreV hS c_23_63 sc_45.n rfl (by omega) (w_45 (by omega) (by omega)) ?_
          intro M125 eM125 hS125
          have g125_0 : M125 44 5 = M 44 5 := by rw [eM125]; exact nu_a (by omega)
          refine n_iinc (L2 := [some (2, 44), some (2, 4), some (0, (6 + 1)), some (0, (-2))]) c_23_64 rfl rfl rfl (n_goto c_23_67 (n_fg (le_s (le_s (le_s (le_n le_0)))) ?_))
          exact ih _ M125 hS125 (by omega) (by omega) (by omega)
        · intro h126
          exfalso; omega
    · skip
      refine n_iload_n c_23_12 rfl (n_aload_n c_23_13 rfl (n_getV (bi := 1) c_23_14 sc_4.n rfl rfl rfl (t_4_1 hS) ?_))
      intro z127 ez127 f128
      obtain rfl : z127 = 27 := by omega
      refine n_if2_ge c_23_17 (by omega) (by omega) ?_ ?_
      · intro h129
        exfalso; omega
      · intro h130
        refine n_aload_n c_23_20 rfl (n_getR c_23_21 sc_4.n rfl rfl rfl r_4_2 (n_iload_n c_23_24 rfl (n_ialoadV c_23_25 sc_5.n rfl rfl rfl (by omega) (t_5k (z := 0) hS (by omega) (by omega) (by omega)) ?_)))
        intro z131 ez131 f132
        refine n_aload_n c_23_26 rfl (n_getR c_23_27 sc_4.n rfl rfl rfl r_4_3 (n_iload_n c_23_30 rfl (n_ialoadV c_23_31 sc_6.n rfl rfl rfl (by omega) (t_6k (z := 2) hS (by omega) (by omega) (by omega)) ?_)))
        intro z133 ez133 f134
        refine n_isub c_23_32 rfl (n_aload_n c_23_33 rfl (n_getR c_23_34 sc_4.n rfl rfl rfl r_4_4 (n_iload_n c_23_37 rfl (n_ialoadV c_23_38 sc_7.n rfl rfl rfl (by omega) (t_7k (z := 1) hS (by omega) (by omega) (by omega)) ?_))))
        intro z135 ez135 f136
        refine n_iadd c_23_39 rfl (n_istore_n (L2 := [some (2, 44), some (2, 4), some (0, 7), some (0, ((z131 - z133) + z135))]) c_23_40 rfl rfl (n_aload_n c_23_41 rfl (n_getR c_23_42 sc_44.n rfl rfl rfl r_44_4 (n_iload_n c_23_45 rfl (n_iload_n c_23_46 rfl (n_aload_n c_23_47 rfl (n_getV (bi := 5) c_23_48 sc_44.n rfl rfl rfl (t_44_5 hS) ?_)))))))
        intro z137 ez137 f138
        obtain rfl : z137 = 3 := by omega
        refine n_iconst c_23_51 ?_
        refine n_if2_ne c_23_52 (by omega) (by omega) ?_ ?_
        · intro h139
          refine n_iconst c_23_59 ?_
          have hcst : (((z131 - z133) + z135) : Int) = (-1) := by omega
          rw [hcst]
          refine n_s2I c_23_60 rfl rfl rfl rfl (fmod2_3  hS ) ?_
          intro z140 M141 hP142
          obtain ⟨eM, f142⟩ := hP142
          subst eM
          obtain rfl : z140 = 2 := by omega
          refine n_iastoreV hS c_23_63 sc_45.n rfl (by omega) (w_45 (by omega) (by omega)) ?_
          intro M143 eM143 hS143
          have g143_0 : M143 44 5 = M 44 5 := by rw [eM143]; exact nu_a (by omega)
          refine n_iinc (L2 := [some (2, 44), some (2, 4), some (0, (7 + 1)), some (0, (-1))]) c_23_64 rfl rfl rfl (n_goto c_23_67 (n_fg (le_s (le_s (le_s (le_n le_0)))) ?_))
          exact ih _ M143 hS143 (by omega) (by omega) (by omega)
        · intro h144
          exfalso; omega
    · skip
      refine n_iload_n c_23_12 rfl (n_aload_n c_23_13 rfl (n_getV (bi := 1) c_23_14 sc_4.n rfl rfl rfl (t_4_1 hS) ?_))
      intro z145 ez145 f146
      obtain rfl : z145 = 27 := by omega
      refine n_if2_ge c_23_17 (by omega) (by omega) ?_ ?_
      · intro h147
        exfalso; omega
      · intro h148
        refine n_aload_n c_23_20 rfl (n_getR c_23_21 sc_4.n rfl rfl rfl r_4_2 (n_iload_n c_23_24 rfl (n_ialoadV c_23_25 sc_5.n rfl rfl rfl (by omega) (t_5k (z := 0) hS (by omega) (by omega) (by omega)) ?_)))
        intro z149 ez149 f150
        refine n_aload_n c_23_26 rfl (n_getR c_23_27 sc_4.n rfl rfl rfl r_4_3 (n_iload_n c_23_30 rfl (n_ialoadV c_23_31 sc_6.n rfl rfl rfl (by omega) (t_6k (z := 2) hS (by omega) (by omega) (by omega)) ?_)))
        intro z151 ez151 f152
        refine n_isub c_23_32 rfl (n_aload_n c_23_33 rfl (n_getR c_23_34 sc_4.n rfl rfl rfl r_4_4 (n_iload_n c_23_37 rfl (n_ialoadV c_23_38 sc_7.n rfl rfl rfl (by omega) (t_7k (z := 2) hS (by omega) (by omega) (by omega)) ?_))))
        intro z153 ez153 f154
        refine n_iadd c_23_39 rfl (n_istore_n (L2 := [some (2, 44), some (2, 4), some (0, 8), some (0, ((z149 - z151) + z153))]) c_23_40 rfl rfl (n_aload_n c_23_41 rfl (n_getR c_23_42 sc_44.n rfl rfl rfl r_44_4 (n_iload_n c_23_45 rfl (n_iload_n c_23_46 rfl (n_aload_n c_23_47 rfl (n_getV (bi := 5) c_23_48 sc_44.n rfl rfl rfl (t_44_5 hS) ?_)))))))
        intro z155 ez155 f156
        obtain rfl : z155 = 3 := by omega
        refine n_iconst c_23_51 ?_
        refine n_if2_ne c_23_52 (by omega) (by omega) ?_ ?_
        · intro h157
          refine n_iconst c_23_59 ?_
          have hcst : (((z149 - z151) + z153) : Int) = 0 := by omega
          rw [hcst]
          refine n_s2I c_23_60 rfl rfl rfl rfl (fmod3_3  hS ) ?_
          intro z158 M159 hP160
          obtain ⟨eM, f160⟩ := hP160
          subst eM
          obtain rfl : z158 = 0 := by omega
          refine n_iastoreV hS c_23_63 sc_45.n rfl (by omega) (w_45 (by omega) (by omega)) ?_
          intro M161 eM161 hS161
          have g161_0 : M161 44 5 = M 44 5 := by rw [eM161]; exact nu_a (by omega)
          refine n_iinc (L2 := [some (2, 44), some (2, 4), some (0, (8 + 1)), some (0, 0)]) c_23_64 rfl rfl rfl (n_goto c_23_67 (n_fg (le_s (le_s (le_s (le_n le_0)))) ?_))
          exact ih _ M161 hS161 (by omega) (by omega) (by omega)
        · intro h162
          exfalso; omega
    · skip
      refine n_iload_n c_23_12 rfl (n_aload_n c_23_13 rfl (n_getV (bi := 1) c_23_14 sc_4.n rfl rfl rfl (t_4_1 hS) ?_))
      intro z163 ez163 f164
      obtain rfl : z163 = 27 := by omega
      refine n_if2_ge c_23_17 (by omega) (by omega) ?_ ?_
      · intro h165
        exfalso; omega
      · intro h166
        refine n_aload_n c_23_20 rfl (n_getR c_23_21 sc_4.n rfl rfl rfl r_4_2 (n_iload_n c_23_24 rfl (n_ialoadV c_23_25 sc_5.n rfl rfl rfl (by omega) (t_5k (z := 1) hS (by omega) (by omega) (by omega)) ?_)))
        intro z167 ez167 f168
        refine n_aload_n c_23_26 rfl (n_getR c_23_27 sc_4.n rfl rfl rfl r_4_3 (n_iload_n c_23_30 rfl (n_ialoadV c_23_31 sc_6.n rfl rfl rfl (by omega) (t_6k (z := 0) hS (by omega) (by omega) (by omega)) ?_)))
        intro z169 ez169 f170
        refine n_isub c_23_32 rfl (n_aload_n c_23_33 rfl (n_getR c_23_34 sc_4.n rfl rfl rfl r_4_4 (n_iload_n c_23_37 rfl (n_ialoadV c_23_38 sc_7.n rfl rfl rfl (by omega) (t_7k (z := 0) hS (by omega) (by omega) (by omega)) ?_))))
        intro z171 ez171 f172
        refine n_iadd c_23_39 rfl (n_istore_n (L2 := [some (2, 44), some (2, 4), some (0, 9), some (0, ((z167 - z169) + z171))]) c_23_40 rfl rfl (n_aload_n c_23_41 rfl (n_getR c_23_42 sc_44.n rfl rfl rfl r_44_4 (n_iload_n c_23_45 rfl (n_iload_n c_23_46 rfl (n_aload_n c_23_47 rfl (n_getV (bi := 5) c_23_48 sc_44.n rfl rfl rfl (t_44_5 hS) ?_)))))))
        intro z173 ez173 f174
        obtain rfl : z173 = 3 := by omega
        refine n_iconst c_23_51 ?_
        refine n_if2_ne c_23_52 (by omega) (by omega) ?_ ?_
        · intro h175
          refine n_iconst c_23_59 ?_
          have hcst : (((z167 - z169) + z171) : Int) = 1 := by omega
          rw [hcst]
          refine n_s2I c_23_60 rfl rfl rfl rfl (fmod4_3  hS ) ?_
          intro z176 M177 hP178
          obtain ⟨eM, f178⟩ := hP178
          subst eM
          obtain rfl : z176 = 1 := by omega
          refine n_iastoreV hS c_23_63 sc_45.n rfl (by omega) (w_45 (by omega) (by omega)) ?_
          intro M179 eM179 hS179
          have g179_0 : M179 44 5 = M 44 5 := by rw [eM179]; exact nu_a (by omega)
          refine n_iinc (L2 := [some (2, 44), some (2, 4), some (0, (9 + 1)), some (0, 1)]) c_23_64 rfl rfl rfl (n_goto c_23_67 (n_fg (le_s (le_s (le_s (le_n le_0)))) ?_))
          exact ih _ M179 hS179 (by omega) (by omega) (by omega)
        · intro h180
          exfalso; omega
    · skip
      refine n_iload_n c_23_12 rfl (n_aload_n c_23_13 rfl (n_getV (bi := 1) c_23_14 sc_4.n rfl rfl rfl (t_4_1 hS) ?_))
      intro z181 ez181 f182
      obtain rfl : z181 = 27 := by omega
      refine n_if2_ge c_23_17 (by omega) (by omega) ?_ ?_
      · intro h183
        exfalso; omega
      · intro h184
        refine n_aload_n c_23_20 rfl (n_getR c_23_21 sc_4.n rfl rfl rfl r_4_2 (n_iload_n c_23_24 rfl (n_ialoadV c_23_25 sc_5.n rfl rfl rfl (by omega) (t_5k (z := 1) hS (by omega) (by omega) (by omega)) ?_)))
        intro z185 ez185 f186
        refine n_aload_n c_23_26 rfl (n_getR c_23_27 sc_4.n rfl rfl rfl r_4_3 (n_iload_n c_23_30 rfl (n_ialoadV c_23_31 sc_6.n rfl rfl rfl (by omega) (t_6k (z := 0) hS (by omega) (by omega) (by omega)) ?_)))
        intro z187 ez187 f188
        refine n_isub c_23_32 rfl (n_aload_n c_23_33 rfl (n_getR c_23_34 sc_4.n rfl rfl rfl r_4_4 (n_iload_n c_23_37 rfl (n_ialoadV c_23_38 sc_7.n rfl rfl rfl (by omega) (t_7k (z := 1) hS (by omega) (by omega) (by omega)) ?_))))
        intro z189 ez189 f190
        refine n_iadd c_23_39 rfl (n_istore_n (L2 := [some (2, 44), some (2, 4), some (0, 10), some (0, ((z185 - z187) + z189))]) c_23_40 rfl rfl (n_aload_n c_23_41 rfl (n_getR c_23_42 sc_44.n rfl rfl rfl r_44_4 (n_iload_n c_23_45 rfl (n_iload_n c_23_46 rfl (n_aload_n c_23_47 rfl (n_getV (bi := 5) c_23_48 sc_44.n rfl rfl rfl (t_44_5 hS) ?_)))))))
        intro z191 ez191 f192
        obtain rfl : z191 = 3 := by omega
        refine n_iconst c_23_51 ?_
        refine n_if2_ne c_23_52 (by omega) (by omega) ?_ ?_
        · intro h193
          refine n_iconst c_23_59 ?_
          have hcst : (((z185 - z187) + z189) : Int) = 2 := by omega
          rw [hcst]
          refine n_s2I c_23_60 rfl rfl rfl rfl (fmod5_3  hS ) ?_
          intro z194 M195 hP196
          obtain ⟨eM, f196⟩ := hP196
          subst eM
          obtain rfl : z194 = 2 := by omega
          refine n_iastoreV hS c_23_63 sc_45.n rfl (by omega) (w_45 (by omega) (by omega)) ?_
          intro M197 eM197 hS197
          have g197_0 : M197 44 5 = M 44 5 := by rw [eM197]; exact nu_a (by omega)
          refine n_iinc (L2 := [some (2, 44), some (2, 4), some (0, (10 + 1)), some (0, 2)]) c_23_64 rfl rfl rfl (n_goto c_23_67 (n_fg (le_s (le_s (le_s (le_n le_0)))) ?_))
          exact ih _ M197 hS197 (by omega) (by omega) (by omega)
        · intro h198
          exfalso; omega
    · skip
      refine n_iload_n c_23_12 rfl (n_aload_n c_23_13 rfl (n_getV (bi := 1) c_23_14 sc_4.n rfl rfl rfl (t_4_1 hS) ?_))
      intro z199 ez199 f200
      obtain rfl : z199 = 27 := by omega
      refine n_if2_ge c_23_17 (by omega) (by omega) ?_ ?_
      · intro h201
        exfalso; omega
      · intro h202
        refine n_aload_n c_23_20 rfl (n_getR c_23_21 sc_4.n rfl rfl rfl r_4_2 (n_iload_n c_23_24 rfl (n_ialoadV c_23_25 sc_5.n rfl rfl rfl (by omega) (t_5k (z := 1) hS (by omega) (by omega) (by omega)) ?_)))
        intro z203 ez203 f204
        refine n_aload_n c_23_26 rfl (n_getR c_23_27 sc_4.n rfl rfl rfl r_4_3 (n_iload_n c_23_30 rfl (n_ialoadV c_23_31 sc_6.n rfl rfl rfl (by omega) (t_6k (z := 0) hS (by omega) (by omega) (by omega)) ?_)))
        intro z205 ez205 f206
        refine n_isub c_23_32 rfl (n_aload_n c_23_33 rfl (n_getR c_23_34 sc_4.n rfl rfl rfl r_4_4 (n_iload_n c_23_37 rfl (n_ialoadV c_23_38 sc_7.n rfl rfl rfl (by omega) (t_7k (z := 2) hS (by omega) (by omega) (by omega)) ?_))))
        intro z207 ez207 f208
        refine n_iadd c_23_39 rfl (n_istore_n (L2 := [some (2, 44), some (2, 4), some (0, 11), some (0, ((z203 - z205) + z207))]) c_23_40 rfl rfl (n_aload_n c_23_41 rfl (n_getR c_23_42 sc_44.n rfl rfl rfl r_44_4 (n_iload_n c_23_45 rfl (n_iload_n c_23_46 rfl (n_aload_n c_23_47 rfl (n_getV (bi := 5) c_23_48 sc_44.n rfl rfl rfl (t_44_5 hS) ?_)))))))
        intro z209 ez209 f210
        obtain rfl : z209 = 3 := by omega
        refine n_iconst c_23_51 ?_
        refine n_if2_ne c_23_52 (by omega) (by omega) ?_ ?_
        · intro h211
          refine n_iconst c_23_59 ?_
          have hcst : (((z203 - z205) + z207) : Int) = 3 := by omega
          rw [hcst]
          refine n_s2I c_23_60 rfl rfl rfl rfl (fmod6_3  hS ) ?_
          intro z212 M213 hP214
          obtain ⟨eM, f214⟩ := hP214
          subst eM
          obtain rfl : z212 = 0 := by omega
          refine n_iastoreV hS c_23_63 sc_45.n rfl (by omega) (w_45 (by omega) (by omega)) ?_
          intro M215 eM215 hS215
          have g215_0 : M215 44 5 = M 44 5 := by rw [eM215]; exact nu_a (by omega)
          refine n_iinc (L2 := [some (2, 44), some (2, 4), some (0, (11 + 1)), some (0, 3)]) c_23_64 rfl rfl rfl (n_goto c_23_67 (n_fg (le_s (le_s (le_s (le_n le_0)))) ?_))
          exact ih _ M215 hS215 (by omega) (by omega) (by omega)
        · intro h216
          exfalso; omega
    · skip
      refine n_iload_n c_23_12 rfl (n_aload_n c_23_13 rfl (n_getV (bi := 1) c_23_14 sc_4.n rfl rfl rfl (t_4_1 hS) ?_))
      intro z217 ez217 f218
      obtain rfl : z217 = 27 := by omega
      refine n_if2_ge c_23_17 (by omega) (by omega) ?_ ?_
      · intro h219
        exfalso; omega
      · intro h220
        refine n_aload_n c_23_20 rfl (n_getR c_23_21 sc_4.n rfl rfl rfl r_4_2 (n_iload_n c_23_24 rfl (n_ialoadV c_23_25 sc_5.n rfl rfl rfl (by omega) (t_5k (z := 1) hS (by omega) (by omega) (by omega)) ?_)))
        intro z221 ez221 f222
        refine n_aload_n c_23_26 rfl (n_getR c_23_27 sc_4.n rfl rfl rfl r_4_3 (n_iload_n c_23_30 rfl (n_ialoadV c_23_31 sc_6.n rfl rfl rfl (by omega) (t_6k (z := 1) hS (by omega) (by omega) (by omega)) ?_)))
        intro z223 ez223 f224
        refine n_isub c_23_32 rfl (n_aload_n c_23_33 rfl (n_getR c_23_34 sc_4.n rfl rfl rfl r_4_4 (n_iload_n c_23_37 rfl (n_ialoadV c_23_38 sc_7.n rfl rfl rfl (by omega) (t_7k (z := 0) hS (by omega) (by omega) (by omega)) ?_))))
        intro z225 ez225 f226
        refine n_iadd c_23_39 rfl (n_istore_n (L2 := [some (2, 44), some (2, 4), some (0, 12), some (0, ((z221 - z223) + z225))]) c_23_40 rfl rfl (n_aload_n c_23_41 rfl (n_getR c_23_42 sc_44.n rfl rfl rfl r_44_4 (n_iload_n c_23_45 rfl (n_iload_n c_23_46 rfl (n_aload_n c_23_47 rfl (n_getV (bi := 5) c_23_48 sc_44.n rfl rfl rfl (t_44_5 hS) ?_)))))))
        intro z227 ez227 f228
        obtain rfl : z227 = 3 := by omega
        refine n_iconst c_23_51 ?_
        refine n_if2_ne c_23_52 (by omega) (by omega) ?_ ?_
        · intro h229
          refine n_iconst c_23_59 ?_
          have hcst : (((z221 - z223) + z225) : Int) = 0 := by omega
          rw [hcst]
          refine n_s2I c_23_60 rfl rfl rfl rfl (fmod3_3  hS ) ?_
          intro z230 M231 hP232
          obtain ⟨eM, f232⟩ := hP232
          subst eM
          obtain rfl : z230 = 0 := by omega
          refine n_iastoreV hS c_23_63 sc_45.n rfl (by omega) (w_45 (by omega) (by omega)) ?_
          intro M233 eM233 hS233
          have g233_0 : M233 44 5 = M 44 5 := by rw [eM233]; exact nu_a (by omega)
          refine n_iinc (L2 := [some (2, 44), some (2, 4), some (0, (12 + 1)), some (0, 0)]) c_23_64 rfl rfl rfl (n_goto c_23_67 (n_fg (le_s (le_s (le_s (le_n le_0)))) ?_))
          exact ih _ M233 hS233 (by omega) (by omega) (by omega)
        · intro h234
          exfalso; omega
    · skip
      refine n_iload_n c_23_12 rfl (n_aload_n c_23_13 rfl (n_getV (bi := 1) c_23_14 sc_4.n rfl rfl rfl (t_4_1 hS) ?_))
      intro z235 ez235 f236
      obtain rfl : z235 = 27 := by omega
      refine n_if2_ge c_23_17 (by omega) (by omega) ?_ ?_
      · intro h237
        exfalso; omega
      · intro h238
        refine n_aload_n c_23_20 rfl (n_getR c_23_21 sc_4.n rfl rfl rfl r_4_2 (n_iload_n c_23_24 rfl (n_ialoadV c_23_25 sc_5.n rfl rfl rfl (by omega) (t_5k (z := 1) hS (by omega) (by omega) (by omega)) ?_)))
        intro z239 ez239 f240
        refine n_aload_n c_23_26 rfl (n_getR c_23_27 sc_4.n rfl rfl rfl r_4_3 (n_iload_n c_23_30 rfl (n_ialoadV c_23_31 sc_6.n rfl rfl rfl (by omega) (t_6k (z := 1) hS (by omega) (by omega) (by omega)) ?_)))
        intro z241 ez241 f242
        refine n_isub c_23_32 rfl (n_aload_n c_23_33 rfl (n_getR c_23_34 sc_4.n rfl rfl rfl r_4_4 (n_iload_n c_23_37 rfl (n_ialoadV c_23_38 sc_7.n rfl rfl rfl (by omega) (t_7k (z := 1) hS (by omega) (by omega) (by omega)) ?_))))
        intro z243 ez243 f244
        refine n_iadd c_23_39 rfl (n_istore_n (L2 := [some (2, 44), some (2, 4), some (0, 13), some (0, ((z239 - z241) + z243))]) c_23_40 rfl rfl (n_aload_n c_23_41 rfl (n_getR c_23_42 sc_44.n rfl rfl rfl r_44_4 (n_iload_n c_23_45 rfl (n_iload_n c_23_46 rfl (n_aload_n c_23_47 rfl (n_getV (bi := 5) c_23_48 sc_44.n rfl rfl rfl (t_44_5 hS) ?_)))))))
        intro z245 ez245 f246
        obtain rfl : z245 = 3 := by omega
        refine n_iconst c_23_51 ?_
        refine n_if2_ne c_23_52 (by omega) (by omega) ?_ ?_
        · intro h247
          refine n_iconst c_23_59 ?_
          have hcst : (((z239 - z241) + z243) : Int) = 1 := by omega
          rw [hcst]
          refine n_s2I c_23_60 rfl rfl rfl rfl (fmod4_3  hS ) ?_
          intro z248 M249 hP250
          obtain ⟨eM, f250⟩ := hP250
          subst eM
          obtain rfl : z248 = 1 := by omega
          refine n_iastoreV hS c_23_63 sc_45.n rfl (by omega) (w_45 (by omega) (by omega)) ?_
          intro M251 eM251 hS251
          have g251_0 : M251 44 5 = M 44 5 := by rw [eM251]; exact nu_a (by omega)
          refine n_iinc (L2 := [some (2, 44), some (2, 4), some (0, (13 + 1)), some (0, 1)]) c_23_64 rfl rfl rfl (n_goto c_23_67 (n_fg (le_s (le_s (le_s (le_n le_0)))) ?_))
          exact ih _ M251 hS251 (by omega) (by omega) (by omega)
        · intro h252
          exfalso; omega
    · skip
      refine n_iload_n c_23_12 rfl (n_aload_n c_23_13 rfl (n_getV (bi := 1) c_23_14 sc_4.n rfl rfl rfl (t_4_1 hS) ?_))
      intro z253 ez253 f254
      obtain rfl : z253 = 27 := by omega
      refine n_if2_ge c_23_17 (by omega) (by omega) ?_ ?_
      · intro h255
        exfalso; omega
      · intro h256
        refine n_aload_n c_23_20 rfl (n_getR c_23_21 sc_4.n rfl rfl rfl r_4_2 (n_iload_n c_23_24 rfl (n_ialoadV c_23_25 sc_5.n rfl rfl rfl (by omega) (t_5k (z := 1) hS (by omega) (by omega) (by omega)) ?_)))
        intro z257 ez257 f258
        refine n_aload_n c_23_26 rfl (n_getR c_23_27 sc_4.n rfl rfl rfl r_4_3 (n_iload_n c_23_30 rfl (n_ialoadV c_23_31 sc_6.n rfl rfl rfl (by omega) (t_6k (z := 1) hS (by omega) (by omega) (by omega)) ?_)))
        intro z259 ez259 f260
        refine n_isub c_23_32 rfl (n_aload_n c_23_33 rfl (n_getR c_23_34 sc_4.n rfl rfl rfl r_4_4 (n_iload_n c_23_37 rfl (n_ialoadV c_23_38 sc_7.n rfl rfl rfl (by omega) (t_7k (z := 2) hS (by omega) (by omega) (by omega)) ?_))))
        intro z261 ez261 f262
        refine n_iadd c_23_39 rfl (n_istore_n (L2 := [some (2, 44), some (2, 4), some (0, 14), some (0, ((z257 - z259) + z261))]) c_23_40 rfl rfl (n_aload_n c_23_41 rfl (n_getR c_23_42 sc_44.n rfl rfl rfl r_44_4 (n_iload_n c_23_45 rfl (n_iload_n c_23_46 rfl (n_aload_n c_23_47 rfl (n_getV (bi := 5) c_23_48 sc_44.n rfl rfl rfl (t_44_5 hS) ?_)))))))
        intro z263 ez263 f264
        obtain rfl : z263 = 3 := by omega
        refine n_iconst c_23_51 ?_
        refine n_if2_ne c_23_52 (by omega) (by omega) ?_ ?_
        · intro h265
          refine n_iconst c_23_59 ?_
          have hcst : (((z257 - z259) + z261) : Int) = 2 := by omega
          rw [hcst]
          refine n_s2I c_23_60 rfl rfl rfl rfl (fmod5_3  hS ) ?_
          intro z266 M267 hP268
          obtain ⟨eM, f268⟩ := hP268
          subst eM
          obtain rfl : z266 = 2 := by omega
          refine n_iastoreV hS c_23_63 sc_45.n rfl (by omega) (w_45 (by omega) (by omega)) ?_
          intro M269 eM269 hS269
          have g269_0 : M269 44 5 = M 44 5 := by rw [eM269]; exact nu_a (by omega)
          refine n_iinc (L2 := [some (2, 44), some (2, 4), some (0, (14 + 1)), some (0, 2)]) c_23_64 rfl rfl rfl (n_goto c_23_67 (n_fg (le_s (le_s (le_s (le_n le_0)))) ?_))
          exact ih _ M269 hS269 (by omega) (by omega) (by omega)
        · intro h270
          exfalso; omega
    · skip
      refine n_iload_n c_23_12 rfl (n_aload_n c_23_13 rfl (n_getV (bi := 1) c_23_14 sc_4.n rfl rfl rfl (t_4_1 hS) ?_))
      intro z271 ez271 f272
      obtain rfl : z271 = 27 := by omega
      refine n_if2_ge c_23_17 (by omega) (by omega) ?_ ?_
      · intro h273
        exfalso; omega
      · intro h274
        refine n_aload_n c_23_20 rfl (n_getR c_23_21 sc_4.n rfl rfl rfl r_4_2 (n_iload_n c_23_24 rfl (n_ialoadV c_23_25 sc_5.n rfl rfl rfl (by omega) (t_5k (z := 1) hS (by omega) (by omega) (by omega)) ?_)))
        intro z275 ez275 f276
        refine n_aload_n c_23_26 rfl (n_getR c_23_27 sc_4.n rfl rfl rfl r_4_3 (n_iload_n c_23_30 rfl (n_ialoadV c_23_31 sc_6.n rfl rfl rfl (by omega) (t_6k (z := 2) hS (by omega) (by omega) (by omega)) ?_)))
        intro z277 ez277 f278
        refine n_isub c_23_32 rfl (n_aload_n c_23_33 rfl (n_getR c_23_34 sc_4.n rfl rfl rfl r_4_4 (n_iload_n c_23_37 rfl (n_ialoadV c_23_38 sc_7.n rfl rfl rfl (by omega) (t_7k (z := 0) hS (by omega) (by omega) (by omega)) ?_))))
        intro z279 ez279 f280
        refine n_iadd c_23_39 rfl (n_istore_n (L2 := [some (2, 44), some (2, 4), some (0, 15), some (0, ((z275 - z277) + z279))]) c_23_40 rfl rfl (n_aload_n c_23_41 rfl (n_getR c_23_42 sc_44.n rfl rfl rfl r_44_4 (n_iload_n c_23_45 rfl (n_iload_n c_23_46 rfl (n_aload_n c_23_47 rfl (n_getV (bi := 5) c_23_48 sc_44.n rfl rfl rfl (t_44_5 hS) ?_)))))))
        intro z281 ez281 f282
        obtain rfl : z281 = 3 := by omega
        refine n_iconst c_23_51 ?_
        refine n_if2_ne c_23_52 (by omega) (by omega) ?_ ?_
        · intro h283
          refine n_iconst c_23_59 ?_
          have hcst : (((z275 - z277) + z279) : Int) = (-1) := by omega
          rw [hcst]
          refine n_s2I c_23_60 rfl rfl rfl rfl (fmod2_3  hS ) ?_
          intro z284 M285 hP286
          obtain ⟨eM, f286⟩ := hP286
          subst eM
          obtain rfl : z284 = 2 := by omega
          refine n_iastoreV hS c_23_63 sc_45.n rfl (by omega) (w_45 (by omega) (by omega)) ?_
          intro M287 eM287 hS287
          have g287_0 : M287 44 5 = M 44 5 := by rw [eM287]; exact nu_a (by omega)
          refine n_iinc (L2 := [some (2, 44), some (2, 4), some (0, (15 + 1)), some (0, (-1))]) c_23_64 rfl rfl rfl (n_goto c_23_67 (n_fg (le_s (le_s (le_s (le_n le_0)))) ?_))
          exact ih _ M287 hS287 (by omega) (by omega) (by omega)
        · intro h288
          exfalso; omega
    · skip
      refine n_iload_n c_23_12 rfl (n_aload_n c_23_13 rfl (n_getV (bi := 1) c_23_14 sc_4.n rfl rfl rfl (t_4_1 hS) ?_))
      intro z289 ez289 f290
      obtain rfl : z289 = 27 := by omega
      refine n_if2_ge c_23_17 (by omega) (by omega) ?_ ?_
      · intro h291
        exfalso; omega
      · intro h292
        refine n_aload_n c_23_20 rfl (n_getR c_23_21 sc_4.n rfl rfl rfl r_4_2 (n_iload_n c_23_24 rfl (n_ialoadV c_23_25 sc_5.n rfl rfl rfl (by omega) (t_5k (z := 1) hS (by omega) (by omega) (by omega)) ?_)))
        intro z293 ez293 f294
        refine n_aload_n c_23_26 rfl (n_getR c_23_27 sc_4.n rfl rfl rfl r_4_3 (n_iload_n c_23_30 rfl (n_ialoadV c_23_31 sc_6.n rfl rfl rfl (by omega) (t_6k (z := 2) hS (by omega) (by omega) (by omega)) ?_)))
        intro z295 ez295 f296
        refine n_isub c_23_32 rfl (n_aload_n c_23_33 rfl (n_getR c_23_34 sc_4.n rfl rfl rfl r_4_4 (n_iload_n c_23_37 rfl (n_ialoadV c_23_38 sc_7.n rfl rfl rfl (by omega) (t_7k (z := 1) hS (by omega) (by omega) (by omega)) ?_))))
        intro z297 ez297 f298
        refine n_iadd c_23_39 rfl (n_istore_n (L2 := [some (2, 44), some (2, 4), some (0, 16), some (0, ((z293 - z295) + z297))]) c_23_40 rfl rfl (n_aload_n c_23_41 rfl (n_getR c_23_42 sc_44.n rfl rfl rfl r_44_4 (n_iload_n c_23_45 rfl (n_iload_n c_23_46 rfl (n_aload_n c_23_47 rfl (n_getV (bi := 5) c_23_48 sc_44.n rfl rfl rfl (t_44_5 hS) ?_)))))))
        intro z299 ez299 f300
        obtain rfl : z299 = 3 := by omega
        refine n_iconst c_23_51 ?_
        refine n_if2_ne c_23_52 (by omega) (by omega) ?_ ?_
        · intro h301
          refine n_iconst c_23_59 ?_
          have hcst : (((z293 - z295) + z297) : Int) = 0 := by omega
          rw [hcst]
          refine n_s2I c_23_60 rfl rfl rfl rfl (fmod3_3  hS ) ?_
          intro z302 M303 hP304
          obtain ⟨eM, f304⟩ := hP304
          subst eM
          obtain rfl : z302 = 0 := by omega
          refine n_iastoreV hS c_23_63 sc_45.n rfl (by omega) (w_45 (by omega) (by omega)) ?_
          intro M305 eM305 hS305
          have g305_0 : M305 44 5 = M 44 5 := by rw [eM305]; exact nu_a (by omega)
          refine n_iinc (L2 := [some (2, 44), some (2, 4), some (0, (16 + 1)), some (0, 0)]) c_23_64 rfl rfl rfl (n_goto c_23_67 (n_fg (le_s (le_s (le_s (le_n le_0)))) ?_))
          exact ih _ M305 hS305 (by omega) (by omega) (by omega)
        · intro h306
          exfalso; omega
    · skip
      refine n_iload_n c_23_12 rfl (n_aload_n c_23_13 rfl (n_getV (bi := 1) c_23_14 sc_4.n rfl rfl rfl (t_4_1 hS) ?_))
      intro z307 ez307 f308
      obtain rfl : z307 = 27 := by omega
      refine n_if2_ge c_23_17 (by omega) (by omega) ?_ ?_
      · intro h309
        exfalso; omega
      · intro h310
        refine n_aload_n c_23_20 rfl (n_getR c_23_21 sc_4.n rfl rfl rfl r_4_2 (n_iload_n c_23_24 rfl (n_ialoadV c_23_25 sc_5.n rfl rfl rfl (by omega) (t_5k (z := 1) hS (by omega) (by omega) (by omega)) ?_)))
        intro z311 ez311 f312
        refine n_aload_n c_23_26 rfl (n_getR c_23_27 sc_4.n rfl rfl rfl r_4_3 (n_iload_n c_23_30 rfl (n_ialoadV c_23_31 sc_6.n rfl rfl rfl (by omega) (t_6k (z := 2) hS (by omega) (by omega) (by omega)) ?_)))
        intro z313 ez313 f314
        refine n_isub c_23_32 rfl (n_aload_n c_23_33 rfl (n_getR c_23_34 sc_4.n rfl rfl rfl r_4_4 (n_iload_n c_23_37 rfl (n_ialoadV c_23_38 sc_7.n rfl rfl rfl (by omega) (t_7k (z := 2) hS (by omega) (by omega) (by omega)) ?_))))
        intro z315 ez315 f316
        refine n_iadd c_23_39 rfl (n_istore_n (L2 := [some (2, 44), some (2, 4), some (0, 17), some (0, ((z311 - z313) + z315))]) c_23_40 rfl rfl (n_aload_n c_23_41 rfl (n_getR c_23_42 sc_44.n rfl rfl rfl r_44_4 (n_iload_n c_23_45 rfl (n_iload_n c_23_46 rfl (n_aload_n c_23_47 rfl (n_getV (bi := 5) c_23_48 sc_44.n rfl rfl rfl (t_44_5 hS) ?_)))))))
        intro z317 ez317 f318
        obtain rfl : z317 = 3 := by omega
        refine n_iconst c_23_51 ?_
        refine n_if2_ne c_23_52 (by omega) (by omega) ?_ ?_
        · intro h319
          refine n_iconst c_23_59 ?_
          have hcst : (((z311 - z313) + z315) : Int) = 1 := by omega
          rw [hcst]
          refine n_s2I c_23_60 rfl rfl rfl rfl (fmod4_3  hS ) ?_
          intro z320 M321 hP322
          obtain ⟨eM, f322⟩ := hP322
          subst eM
          obtain rfl : z320 = 1 := by omega
          refine n_iastoreV hS c_23_63 sc_45.n rfl (by omega) (w_45 (by omega) (by omega)) ?_
          intro M323 eM323 hS323
          have g323_0 : M323 44 5 = M 44 5 := by rw [eM323]; exact nu_a (by omega)
          refine n_iinc (L2 := [some (2, 44), some (2, 4), some (0, (17 + 1)), some (0, 1)]) c_23_64 rfl rfl rfl (n_goto c_23_67 (n_fg (le_s (le_s (le_s (le_n le_0)))) ?_))
          exact ih _ M323 hS323 (by omega) (by omega) (by omega)
        · intro h324
          exfalso; omega
    · skip
      refine n_iload_n c_23_12 rfl (n_aload_n c_23_13 rfl (n_getV (bi := 1) c_23_14 sc_4.n rfl rfl rfl (t_4_1 hS) ?_))
      intro z325 ez325 f326
      obtain rfl : z325 = 27 := by omega
      refine n_if2_ge c_23_17 (by omega) (by omega) ?_ ?_
      · intro h327
        exfalso; omega
      · intro h328
        refine n_aload_n c_23_20 rfl (n_getR c_23_21 sc_4.n rfl rfl rfl r_4_2 (n_iload_n c_23_24 rfl (n_ialoadV c_23_25 sc_5.n rfl rfl rfl (by omega) (t_5k (z := 2) hS (by omega) (by omega) (by omega)) ?_)))
        intro z329 ez329 f330
        refine n_aload_n c_23_26 rfl (n_getR c_23_27 sc_4.n rfl rfl rfl r_4_3 (n_iload_n c_23_30 rfl (n_ialoadV c_23_31 sc_6.n rfl rfl rfl (by omega) (t_6k (z := 0) hS (by omega) (by omega) (by omega)) ?_)))
        intro z331 ez331 f332
        refine n_isub c_23_32 rfl (n_aload_n c_23_33 rfl (n_getR c_23_34 sc_4.n rfl rfl rfl r_4_4 (n_iload_n c_23_37 rfl (n_ialoadV c_23_38 sc_7.n rfl rfl rfl (by omega) (t_7k (z := 0) hS (by omega) (by omega) (by omega)) ?_))))
        intro z333 ez333 f334
        refine n_iadd c_23_39 rfl (n_istore_n (L2 := [some (2, 44), some (2, 4), some (0, 18), some (0, ((z329 - z331) + z333))]) c_23_40 rfl rfl (n_aload_n c_23_41 rfl (n_getR c_23_42 sc_44.n rfl rfl rfl r_44_4 (n_iload_n c_23_45 rfl (n_iload_n c_23_46 rfl (n_aload_n c_23_47 rfl (n_getV (bi := 5) c_23_48 sc_44.n rfl rfl rfl (t_44_5 hS) ?_)))))))
        intro z335 ez335 f336
        obtain rfl : z335 = 3 := by omega
        refine n_iconst c_23_51 ?_
        refine n_if2_ne c_23_52 (by omega) (by omega) ?_ ?_
        · intro h337
          refine n_iconst c_23_59 ?_
          have hcst : (((z329 - z331) + z333) : Int) = 2 := by omega
          rw [hcst]
          refine n_s2I c_23_60 rfl rfl rfl rfl (fmod5_3  hS ) ?_
          intro z338 M339 hP340
          obtain ⟨eM, f340⟩ := hP340
          subst eM
          obtain rfl : z338 = 2 := by omega
          refine n_iastoreV hS c_23_63 sc_45.n rfl (by omega) (w_45 (by omega) (by omega)) ?_
          intro M341 eM341 hS341
          have g341_0 : M341 44 5 = M 44 5 := by rw [eM341]; exact nu_a (by omega)
          refine n_iinc (L2 := [some (2, 44), some (2, 4), some (0, (18 + 1)), some (0, 2)]) c_23_64 rfl rfl rfl (n_goto c_23_67 (n_fg (le_s (le_s (le_s (le_n le_0)))) ?_))
          exact ih _ M341 hS341 (by omega) (by omega) (by omega)
        · intro h342
          exfalso; omega
    · skip
      refine n_iload_n c_23_12 rfl (n_aload_n c_23_13 rfl (n_getV (bi := 1) c_23_14 sc_4.n rfl rfl rfl (t_4_1 hS) ?_))
      intro z343 ez343 f344
      obtain rfl : z343 = 27 := by omega
      refine n_if2_ge c_23_17 (by omega) (by omega) ?_ ?_
      · intro h345
        exfalso; omega
      · intro h346
        refine n_aload_n c_23_20 rfl (n_getR c_23_21 sc_4.n rfl rfl rfl r_4_2 (n_iload_n c_23_24 rfl (n_ialoadV c_23_25 sc_5.n rfl rfl rfl (by omega) (t_5k (z := 2) hS (by omega) (by omega) (by omega)) ?_)))
        intro z347 ez347 f348
        refine n_aload_n c_23_26 rfl (n_getR c_23_27 sc_4.n rfl rfl rfl r_4_3 (n_iload_n c_23_30 rfl (n_ialoadV c_23_31 sc_6.n rfl rfl rfl (by omega) (t_6k (z := 0) hS (by omega) (by omega) (by omega)) ?_)))
        intro z349 ez349 f350
        refine n_isub c_23_32 rfl (n_aload_n c_23_33 rfl (n_getR c_23_34 sc_4.n rfl rfl rfl r_4_4 (n_iload_n c_23_37 rfl (n_ialoadV c_23_38 sc_7.n rfl rfl rfl (by omega) (t_7k (z := 1) hS (by omega) (by omega) (by omega)) ?_))))
        intro z351 ez351 f352
        refine n_iadd c_23_39 rfl (n_istore_n (L2 := [some (2, 44), some (2, 4), some (0, 19), some (0, ((z347 - z349) + z351))]) c_23_40 rfl rfl (n_aload_n c_23_41 rfl (n_getR c_23_42 sc_44.n rfl rfl rfl r_44_4 (n_iload_n c_23_45 rfl (n_iload_n c_23_46 rfl (n_aload_n c_23_47 rfl (n_getV (bi := 5) c_23_48 sc_44.n rfl rfl rfl (t_44_5 hS) ?_)))))))
        intro z353 ez353 f354
        obtain rfl : z353 = 3 := by omega
        refine n_iconst c_23_51 ?_
        refine n_if2_ne c_23_52 (by omega) (by omega) ?_ ?_
        · intro h355
          refine n_iconst c_23_59 ?_
          have hcst : (((z347 - z349) + z351) : Int) = 3 := by omega
          rw [hcst]
          refine n_s2I c_23_60 rfl rfl rfl rfl (fmod6_3  hS ) ?_
          intro z356 M357 hP358
          obtain ⟨eM, f358⟩ := hP358
          subst eM
          obtain rfl : z356 = 0 := by omega
          refine n_iastoreV hS c_23_63 sc_45.n rfl (by omega) (w_45 (by omega) (by omega)) ?_
          intro M359 eM359 hS359
          have g359_0 : M359 44 5 = M 44 5 := by rw [eM359]; exact nu_a (by omega)
          refine n_iinc (L2 := [some (2, 44), some (2, 4), some (0, (19 + 1)), some (0, 3)]) c_23_64 rfl rfl rfl (n_goto c_23_67 (n_fg (le_s (le_s (le_s (le_n le_0)))) ?_))
          exact ih _ M359 hS359 (by omega) (by omega) (by omega)
        · intro h360
          exfalso; omega
    · skip
      refine n_iload_n c_23_12 rfl (n_aload_n c_23_13 rfl (n_getV (bi := 1) c_23_14 sc_4.n rfl rfl rfl (t_4_1 hS) ?_))
      intro z361 ez361 f362
      obtain rfl : z361 = 27 := by omega
      refine n_if2_ge c_23_17 (by omega) (by omega) ?_ ?_
      · intro h363
        exfalso; omega
      · intro h364
        refine n_aload_n c_23_20 rfl (n_getR c_23_21 sc_4.n rfl rfl rfl r_4_2 (n_iload_n c_23_24 rfl (n_ialoadV c_23_25 sc_5.n rfl rfl rfl (by omega) (t_5k (z := 2) hS (by omega) (by omega) (by omega)) ?_)))
        intro z365 ez365 f366
        refine n_aload_n c_23_26 rfl (n_getR c_23_27 sc_4.n rfl rfl rfl r_4_3 (n_iload_n c_23_30 rfl (n_ialoadV c_23_31 sc_6.n rfl rfl rfl (by omega) (t_6k (z := 0) hS (by omega) (by omega) (by omega)) ?_)))
        intro z367 ez367 f368
        refine n_isub c_23_32 rfl (n_aload_n c_23_33 rfl (n_getR c_23_34 sc_4.n rfl rfl rfl r_4_4 (n_iload_n c_23_37 rfl (n_ialoadV c_23_38 sc_7.n rfl rfl rfl (by omega) (t_7k (z := 2) hS (by omega) (by omega) (by omega)) ?_))))
        intro z369 ez369 f370
        refine n_iadd c_23_39 rfl (n_istore_n (L2 := [some (2, 44), some (2, 4), some (0, 20), some (0, ((z365 - z367) + z369))]) c_23_40 rfl rfl (n_aload_n c_23_41 rfl (n_getR c_23_42 sc_44.n rfl rfl rfl r_44_4 (n_iload_n c_23_45 rfl (n_iload_n c_23_46 rfl (n_aload_n c_23_47 rfl (n_getV (bi := 5) c_23_48 sc_44.n rfl rfl rfl (t_44_5 hS) ?_)))))))
        intro z371 ez371 f372
        obtain rfl : z371 = 3 := by omega
        refine n_iconst c_23_51 ?_
        refine n_if2_ne c_23_52 (by omega) (by omega) ?_ ?_
        · intro h373
          refine n_iconst c_23_59 ?_
          have hcst : (((z365 - z367) + z369) : Int) = 4 := by omega
          rw [hcst]
          refine n_s2I c_23_60 rfl rfl rfl rfl (fmod7_3  hS ) ?_
          intro z374 M375 hP376
          obtain ⟨eM, f376⟩ := hP376
          subst eM
          obtain rfl : z374 = 1 := by omega
          refine n_iastoreV hS c_23_63 sc_45.n rfl (by omega) (w_45 (by omega) (by omega)) ?_
          intro M377 eM377 hS377
          have g377_0 : M377 44 5 = M 44 5 := by rw [eM377]; exact nu_a (by omega)
          refine n_iinc (L2 := [some (2, 44), some (2, 4), some (0, (20 + 1)), some (0, 4)]) c_23_64 rfl rfl rfl (n_goto c_23_67 (n_fg (le_s (le_s (le_s (le_n le_0)))) ?_))
          exact ih _ M377 hS377 (by omega) (by omega) (by omega)
        · intro h378
          exfalso; omega
    · skip
      refine n_iload_n c_23_12 rfl (n_aload_n c_23_13 rfl (n_getV (bi := 1) c_23_14 sc_4.n rfl rfl rfl (t_4_1 hS) ?_))
      intro z379 ez379 f380
      obtain rfl : z379 = 27 := by omega
      refine n_if2_ge c_23_17 (by omega) (by omega) ?_ ?_
      · intro h381
        exfalso; omega
      · intro h382
        refine n_aload_n c_23_20 rfl (n_getR c_23_21 sc_4.n rfl rfl rfl r_4_2 (n_iload_n c_23_24 rfl (n_ialoadV c_23_25 sc_5.n rfl rfl rfl (by omega) (t_5k (z := 2) hS (by omega) (by omega) (by omega)) ?_)))
        intro z383 ez383 f384
        refine n_aload_n c_23_26 rfl (n_getR c_23_27 sc_4.n rfl rfl rfl r_4_3 (n_iload_n c_23_30 rfl (n_ialoadV c_23_31 sc_6.n rfl rfl rfl (by omega) (t_6k (z := 1) hS (by omega) (by omega) (by omega)) ?_)))
        intro z385 ez385 f386
        refine n_isub c_23_32 rfl (n_aload_n c_23_33 rfl (n_getR c_23_34 sc_4.n rfl rfl rfl r_4_4 (n_iload_n c_23_37 rfl (n_ialoadV c_23_38 sc_7.n rfl rfl rfl (by omega) (t_7k (z := 0) hS (by omega) (by omega) (by omega)) ?_))))
        intro z387 ez387 f388
        refine n_iadd c_23_39 rfl (n_istore_n (L2 := [some (2, 44), some (2, 4), some (0, 21), some (0, ((z383 - z385) + z387))]) c_23_40 rfl rfl (n_aload_n c_23_41 rfl (n_getR c_23_42 sc_44.n rfl rfl rfl r_44_4 (n_iload_n c_23_45 rfl (n_iload_n c_23_46 rfl (n_aload_n c_23_47 rfl (n_getV (bi := 5) c_23_48 sc_44.n rfl rfl rfl (t_44_5 hS) ?_)))))))
        intro z389 ez389 f390
        obtain rfl : z389 = 3 := by omega
        refine n_iconst c_23_51 ?_
        refine n_if2_ne c_23_52 (by omega) (by omega) ?_ ?_
        · intro h391
          refine n_iconst c_23_59 ?_
          have hcst : (((z383 - z385) + z387) : Int) = 1 := by omega
          rw [hcst]
          refine n_s2I c_23_60 rfl rfl rfl rfl (fmod4_3  hS ) ?_
          intro z392 M393 hP394
          obtain ⟨eM, f394⟩ := hP394
          subst eM
          obtain rfl : z392 = 1 := by omega
          refine n_iastoreV hS c_23_63 sc_45.n rfl (by omega) (w_45 (by omega) (by omega)) ?_
          intro M395 eM395 hS395
          have g395_0 : M395 44 5 = M 44 5 := by rw [eM395]; exact nu_a (by omega)
          refine n_iinc (L2 := [some (2, 44), some (2, 4), some (0, (21 + 1)), some (0, 1)]) c_23_64 rfl rfl rfl (n_goto c_23_67 (n_fg (le_s (le_s (le_s (le_n le_0)))) ?_))
          exact ih _ M395 hS395 (by omega) (by omega) (by omega)
        · intro h396
          exfalso; omega
    · skip
      refine n_iload_n c_23_12 rfl (n_aload_n c_23_13 rfl (n_getV (bi := 1) c_23_14 sc_4.n rfl rfl rfl (t_4_1 hS) ?_))
      intro z397 ez397 f398
      obtain rfl : z397 = 27 := by omega
      refine n_if2_ge c_23_17 (by omega) (by omega) ?_ ?_
      · intro h399
        exfalso; omega
      · intro h400
        refine n_aload_n c_23_20 rfl (n_getR c_23_21 sc_4.n rfl rfl rfl r_4_2 (n_iload_n c_23_24 rfl (n_ialoadV c_23_25 sc_5.n rfl rfl rfl (by omega) (t_5k (z := 2) hS (by omega) (by omega) (by omega)) ?_)))
        intro z401 ez401 f402
        refine n_aload_n c_23_26 rfl (n_getR c_23_27 sc_4.n rfl rfl rfl r_4_3 (n_iload_n c_23_30 rfl (n_ialoadV c_23_31 sc_6.n rfl rfl rfl (by omega) (t_6k (z := 1) hS (by omega) (by omega) (by omega)) ?_)))
        intro z403 ez403 f404
        refine n_isub c_23_32 rfl (n_aload_n c_23_33 rfl (n_getR c_23_34 sc_4.n rfl rfl rfl r_4_4 (n_iload_n c_23_37 rfl (n_ialoadV c_23_38 sc_7.n rfl rfl rfl (by omega) (t_7k (z := 1) hS (by omega) (by omega) (by omega)) ?_))))
        intro z405 ez405 f406
        refine n_iadd c_23_39 rfl (n_istore_n (L2 := [some (2, 44), some (2, 4), some (0, 22), some (0, ((z401 - z403) + z405))]) c_23_40 rfl rfl (n_aload_n c_23_41 rfl (n_getR c_23_42 sc_44.n rfl rfl rfl r_44_4 (n_iload_n c_23_45 rfl (n_iload_n c_23_46 rfl (n_aload_n c_23_47 rfl (n_getV (bi := 5) c_23_48 sc_44.n rfl rfl rfl (t_44_5 hS) ?_)))))))
        intro z407 ez407 f408
        obtain rfl : z407 = 3 := by omega
        refine n_iconst c_23_51 ?_
        refine n_if2_ne c_23_52 (by omega) (by omega) ?_ ?_
        · intro h409
          refine n_iconst c_23_59 ?_
          have hcst : (((z401 - z403) + z405) : Int) = 2 := by omega
          rw [hcst]
          refine n_s2I c_23_60 rfl rfl rfl rfl (fmod5_3  hS ) ?_
          intro z410 M411 hP412
          obtain ⟨eM, f412⟩ := hP412
          subst eM
          obtain rfl : z410 = 2 := by omega
          refine n_iastoreV hS c_23_63 sc_45.n rfl (by omega) (w_45 (by omega) (by omega)) ?_
          intro M413 eM413 hS413
          have g413_0 : M413 44 5 = M 44 5 := by rw [eM413]; exact nu_a (by omega)
          refine n_iinc (L2 := [some (2, 44), some (2, 4), some (0, (22 + 1)), some (0, 2)]) c_23_64 rfl rfl rfl (n_goto c_23_67 (n_fg (le_s (le_s (le_s (le_n le_0)))) ?_))
          exact ih _ M413 hS413 (by omega) (by omega) (by omega)
        · intro h414
          exfalso; omega
    · skip
      refine n_iload_n c_23_12 rfl (n_aload_n c_23_13 rfl (n_getV (bi := 1) c_23_14 sc_4.n rfl rfl rfl (t_4_1 hS) ?_))
      intro z415 ez415 f416
      obtain rfl : z415 = 27 := by omega
      refine n_if2_ge c_23_17 (by omega) (by omega) ?_ ?_
      · intro h417
        exfalso; omega
      · intro h418
        refine n_aload_n c_23_20 rfl (n_getR c_23_21 sc_4.n rfl rfl rfl r_4_2 (n_iload_n c_23_24 rfl (n_ialoadV c_23_25 sc_5.n rfl rfl rfl (by omega) (t_5k (z := 2) hS (by omega) (by omega) (by omega)) ?_)))
        intro z419 ez419 f420
        refine n_aload_n c_23_26 rfl (n_getR c_23_27 sc_4.n rfl rfl rfl r_4_3 (n_iload_n c_23_30 rfl (n_ialoadV c_23_31 sc_6.n rfl rfl rfl (by omega) (t_6k (z := 1) hS (by omega) (by omega) (by omega)) ?_)))
        intro z421 ez421 f422
        refine n_isub c_23_32 rfl (n_aload_n c_23_33 rfl (n_getR c_23_34 sc_4.n rfl rfl rfl r_4_4 (n_iload_n c_23_37 rfl (n_ialoadV c_23_38 sc_7.n rfl rfl rfl (by omega) (t_7k (z := 2) hS (by omega) (by omega) (by omega)) ?_))))
        intro z423 ez423 f424
        refine n_iadd c_23_39 rfl (n_istore_n (L2 := [some (2, 44), some (2, 4), some (0, 23), some (0, ((z419 - z421) + z423))]) c_23_40 rfl rfl (n_aload_n c_23_41 rfl (n_getR c_23_42 sc_44.n rfl rfl rfl r_44_4 (n_iload_n c_23_45 rfl (n_iload_n c_23_46 rfl (n_aload_n c_23_47 rfl (n_getV (bi := 5) c_23_48 sc_44.n rfl rfl rfl (t_44_5 hS) ?_)))))))
        intro z425 ez425 f426
        obtain rfl : z425 = 3 := by omega
        refine n_iconst c_23_51 ?_
        refine n_if2_ne c_23_52 (by omega) (by omega) ?_ ?_
        · intro h427
          refine n_iconst c_23_59 ?_
          have hcst : (((z419 - z421) + z423) : Int) = 3 := by omega
          rw [hcst]
          refine n_s2I c_23_60 rfl rfl rfl rfl (fmod6_3  hS ) ?_
          intro z428 M429 hP430
          obtain ⟨eM, f430⟩ := hP430
          subst eM
          obtain rfl : z428 = 0 := by omega
          refine n_iastoreV hS c_23_63 sc_45.n rfl (by omega) (w_45 (by omega) (by omega)) ?_
          intro M431 eM431 hS431
          have g431_0 : M431 44 5 = M 44 5 := by rw [eM431]; exact nu_a (by omega)
          refine n_iinc (L2 := [some (2, 44), some (2, 4), some (0, (23 + 1)), some (0, 3)]) c_23_64 rfl rfl rfl (n_goto c_23_67 (n_fg (le_s (le_s (le_s (le_n le_0)))) ?_))
          exact ih _ M431 hS431 (by omega) (by omega) (by omega)
        · intro h432
          exfalso; omega
    · skip
      refine n_iload_n c_23_12 rfl (n_aload_n c_23_13 rfl (n_getV (bi := 1) c_23_14 sc_4.n rfl rfl rfl (t_4_1 hS) ?_))
      intro z433 ez433 f434
      obtain rfl : z433 = 27 := by omega
      refine n_if2_ge c_23_17 (by omega) (by omega) ?_ ?_
      · intro h435
        exfalso; omega
      · intro h436
        refine n_aload_n c_23_20 rfl (n_getR c_23_21 sc_4.n rfl rfl rfl r_4_2 (n_iload_n c_23_24 rfl (n_ialoadV c_23_25 sc_5.n rfl rfl rfl (by omega) (t_5k (z := 2) hS (by omega) (by omega) (by omega)) ?_)))
        intro z437 ez437 f438
        refine n_aload_n c_23_26 rfl (n_getR c_23_27 sc_4.n rfl rfl rfl r_4_3 (n_iload_n c_23_30 rfl (n_ialoadV c_23_31 sc_6.n rfl rfl rfl (by omega) (t_6k (z := 2) hS (by omega) (by omega) (by omega)) ?_)))
        intro z439 ez439 f440
        refine n_isub c_23_32 rfl (n_aload_n c_23_33 rfl (n_getR c_23_34 sc_4.n rfl rfl rfl r_4_4 (n_iload_n c_23_37 rfl (n_ialoadV c_23_38 sc_7.n rfl rfl rfl (by omega) (t_7k (z := 0) hS (by omega) (by omega) (by omega)) ?_))))
        intro z441 ez441 f442
        refine n_iadd c_23_39 rfl (n_istore_n (L2 := [some (2, 44), some (2, 4), some (0, 24), some (0, ((z437 - z439) + z441))]) c_23_40 rfl rfl (n_aload_n c_23_41 rfl (n_getR c_23_42 sc_44.n rfl rfl rfl r_44_4 (n_iload_n c_23_45 rfl (n_iload_n c_23_46 rfl (n_aload_n c_23_47 rfl (n_getV (bi := 5) c_23_48 sc_44.n rfl rfl rfl (t_44_5 hS) ?_)))))))
        intro z443 ez443 f444
        obtain rfl : z443 = 3 := by omega
        refine n_iconst c_23_51 ?_
        refine n_if2_ne c_23_52 (by omega) (by omega) ?_ ?_
        · intro h445
          refine n_iconst c_23_59 ?_
          have hcst : (((z437 - z439) + z441) : Int) = 0 := by omega
          rw [hcst]
          refine n_s2I c_23_60 rfl rfl rfl rfl (fmod3_3  hS ) ?_
          intro z446 M447 hP448
          obtain ⟨eM, f448⟩ := hP448
          subst eM
          obtain rfl : z446 = 0 := by omega
          refine n_iastoreV hS c_23_63 sc_45.n rfl (by omega) (w_45 (by omega) (by omega)) ?_
          intro M449 eM449 hS449
          have g449_0 : M449 44 5 = M 44 5 := by rw [eM449]; exact nu_a (by omega)
          refine n_iinc (L2 := [some (2, 44), some (2, 4), some (0, (24 + 1)), some (0, 0)]) c_23_64 rfl rfl rfl (n_goto c_23_67 (n_fg (le_s (le_s (le_s (le_n le_0)))) ?_))
          exact ih _ M449 hS449 (by omega) (by omega) (by omega)
        · intro h450
          exfalso; omega
    · skip
      refine n_iload_n c_23_12 rfl (n_aload_n c_23_13 rfl (n_getV (bi := 1) c_23_14 sc_4.n rfl rfl rfl (t_4_1 hS) ?_))
      intro z451 ez451 f452
      obtain rfl : z451 = 27 := by omega
      refine n_if2_ge c_23_17 (by omega) (by omega) ?_ ?_
      · intro h453
        exfalso; omega
      · intro h454
        refine n_aload_n c_23_20 rfl (n_getR c_23_21 sc_4.n rfl rfl rfl r_4_2 (n_iload_n c_23_24 rfl (n_ialoadV c_23_25 sc_5.n rfl rfl rfl (by omega) (t_5k (z := 2) hS (by omega) (by omega) (by omega)) ?_)))
        intro z455 ez455 f456
        refine n_aload_n c_23_26 rfl (n_getR c_23_27 sc_4.n rfl rfl rfl r_4_3 (n_iload_n c_23_30 rfl (n_ialoadV c_23_31 sc_6.n rfl rfl rfl (by omega) (t_6k (z := 2) hS (by omega) (by omega) (by omega)) ?_)))
        intro z457 ez457 f458
        refine n_isub c_23_32 rfl (n_aload_n c_23_33 rfl (n_getR c_23_34 sc_4.n rfl rfl rfl r_4_4 (n_iload_n c_23_37 rfl (n_ialoadV c_23_38 sc_7.n rfl rfl rfl (by omega) (t_7k (z := 1) hS (by omega) (by omega) (by omega)) ?_))))
        intro z459 ez459 f460
        refine n_iadd c_23_39 rfl (n_istore_n (L2 := [some (2, 44), some (2, 4), some (0, 25), some (0, ((z455 - z457) + z459))]) c_23_40 rfl rfl (n_aload_n c_23_41 rfl (n_getR c_23_42 sc_44.n rfl rfl rfl r_44_4 (n_iload_n c_23_45 rfl (n_iload_n c_23_46 rfl (n_aload_n c_23_47 rfl (n_getV (bi := 5) c_23_48 sc_44.n rfl rfl rfl (t_44_5 hS) ?_)))))))
        intro z461 ez461 f462
        obtain rfl : z461 = 3 := by omega
        refine n_iconst c_23_51 ?_
        refine n_if2_ne c_23_52 (by omega) (by omega) ?_ ?_
        · intro h463
          refine n_iconst c_23_59 ?_
          have hcst : (((z455 - z457) + z459) : Int) = 1 := by omega
          rw [hcst]
          refine n_s2I c_23_60 rfl rfl rfl rfl (fmod4_3  hS ) ?_
          intro z464 M465 hP466
          obtain ⟨eM, f466⟩ := hP466
          subst eM
          obtain rfl : z464 = 1 := by omega
          refine n_iastoreV hS c_23_63 sc_45.n rfl (by omega) (w_45 (by omega) (by omega)) ?_
          intro M467 eM467 hS467
          have g467_0 : M467 44 5 = M 44 5 := by rw [eM467]; exact nu_a (by omega)
          refine n_iinc (L2 := [some (2, 44), some (2, 4), some (0, (25 + 1)), some (0, 1)]) c_23_64 rfl rfl rfl (n_goto c_23_67 (n_fg (le_s (le_s (le_s (le_n le_0)))) ?_))
          exact ih _ M467 hS467 (by omega) (by omega) (by omega)
        · intro h468
          exfalso; omega
    · skip
      refine n_iload_n c_23_12 rfl (n_aload_n c_23_13 rfl (n_getV (bi := 1) c_23_14 sc_4.n rfl rfl rfl (t_4_1 hS) ?_))
      intro z469 ez469 f470
      obtain rfl : z469 = 27 := by omega
      refine n_if2_ge c_23_17 (by omega) (by omega) ?_ ?_
      · intro h471
        exfalso; omega
      · intro h472
        refine n_aload_n c_23_20 rfl (n_getR c_23_21 sc_4.n rfl rfl rfl r_4_2 (n_iload_n c_23_24 rfl (n_ialoadV c_23_25 sc_5.n rfl rfl rfl (by omega) (t_5k (z := 2) hS (by omega) (by omega) (by omega)) ?_)))
        intro z473 ez473 f474
        refine n_aload_n c_23_26 rfl (n_getR c_23_27 sc_4.n rfl rfl rfl r_4_3 (n_iload_n c_23_30 rfl (n_ialoadV c_23_31 sc_6.n rfl rfl rfl (by omega) (t_6k (z := 2) hS (by omega) (by omega) (by omega)) ?_)))
        intro z475 ez475 f476
        refine n_isub c_23_32 rfl (n_aload_n c_23_33 rfl (n_getR c_23_34 sc_4.n rfl rfl rfl r_4_4 (n_iload_n c_23_37 rfl (n_ialoadV c_23_38 sc_7.n rfl rfl rfl (by omega) (t_7k (z := 2) hS (by omega) (by omega) (by omega)) ?_))))
        intro z477 ez477 f478
        refine n_iadd c_23_39 rfl (n_istore_n (L2 := [some (2, 44), some (2, 4), some (0, 26), some (0, ((z473 - z475) + z477))]) c_23_40 rfl rfl (n_aload_n c_23_41 rfl (n_getR c_23_42 sc_44.n rfl rfl rfl r_44_4 (n_iload_n c_23_45 rfl (n_iload_n c_23_46 rfl (n_aload_n c_23_47 rfl (n_getV (bi := 5) c_23_48 sc_44.n rfl rfl rfl (t_44_5 hS) ?_)))))))
        intro z479 ez479 f480
        obtain rfl : z479 = 3 := by omega
        refine n_iconst c_23_51 ?_
        refine n_if2_ne c_23_52 (by omega) (by omega) ?_ ?_
        · intro h481
          refine n_iconst c_23_59 ?_
          have hcst : (((z473 - z475) + z477) : Int) = 2 := by omega
          rw [hcst]
          refine n_s2I c_23_60 rfl rfl rfl rfl (fmod5_3  hS ) ?_
          intro z482 M483 hP484
          obtain ⟨eM, f484⟩ := hP484
          subst eM
          obtain rfl : z482 = 2 := by omega
          refine n_iastoreV hS c_23_63 sc_45.n rfl (by omega) (w_45 (by omega) (by omega)) ?_
          intro M485 eM485 hS485
          have g485_0 : M485 44 5 = M 44 5 := by rw [eM485]; exact nu_a (by omega)
          refine n_iinc (L2 := [some (2, 44), some (2, 4), some (0, (26 + 1)), some (0, 2)]) c_23_64 rfl rfl rfl (n_goto c_23_67 (n_fg (le_s (le_s (le_s (le_n le_0)))) ?_))
          exact ih _ M485 hS485 (by omega) (by omega) (by omega)
        · intro h486
          exfalso; omega
    · skip
      refine n_iload_n c_23_12 rfl (n_aload_n c_23_13 rfl (n_getV (bi := 1) c_23_14 sc_4.n rfl rfl rfl (t_4_1 hS) ?_))
      intro z487 ez487 f488
      obtain rfl : z487 = 27 := by omega
      refine n_if2_ge c_23_17 (by omega) (by omega) ?_ ?_
      · intro h489
        exact n_rV c_23_70 rfl hS
      · intro h490
        exfalso; omega
set_option maxHeartbeats 4000000 in
theorem beSum_3 {xs : List Int32} {e : Nat} {ac : Int} {M0 M : nM} (hS : Sf 3 ac M0 M)  : nW xs (e + 1) 23 0 [some (2, 44), some (2, 4), none, none] [] M (nPV fun M1 => Sf 3 ac M0 M1) := by
  have hd : (3 : Int) = 2 ∨ (3 : Int) = 3 := by decide
  have hac := hS.2.2.2.2
  refine n_aload_n c_23_0 rfl (n_iconst c_23_1 (n_aload_n c_23_2 rfl (n_getV (bi := 0) c_23_3 sc_4.n rfl rfl rfl (t_4_0 hS) ?_)))
  intro z1 ez1 f2
  obtain rfl : z1 = 3 := by omega
  refine n_aload_n c_23_6 rfl (n_v3V c_23_7 rfl sc_44.n rfl rfl rfl rfl (begin_3 (n := 3) (c := 3) hS (by omega) (by omega)) ?_)
  intro  M3 hP4
  obtain ⟨hS3, f4p0⟩ := hP4
  refine n_iconst c_23_10 (n_istore_n (L2 := [some (2, 44), some (2, 4), some (0, 0), none]) c_23_11 rfl rfl (n_fg (le_s (le_s (le_s (le_n le_0)))) ?_))
  exact (beSum_3_c hS  68) _ M3 hS3 (by omega) (by omega) (by omega)

set_option maxHeartbeats 4000000 in
theorem variableAt5_3 {xs : List Int32} {e : Nat} {ac : Int} {M0 M : nM} {i j k : Int} (hS : Sf 3 ac M0 M) (hi : 0 ≤ i ∧ i ≤ 26) (hj : 0 ≤ j ∧ j ≤ 26) (hk : 0 ≤ k ∧ k ≤ 26) : nW xs e 24 0 [some (2, 44), some (2, 5), some (0, i), some (0, j), some (0, k)] [] M (nPI fun z M1 => M = M1 ∧ (0 ≤ z ∧ z ≤ 8)) := by
  have hd : (3 : Int) = 2 ∨ (3 : Int) = 3 := by decide
  have hac := hS.2.2.2.2
  refine n_aload_n c_24_0 rfl (n_getR c_24_1 sc_44.n rfl rfl rfl r_44_4 (n_aload_n c_24_4 rfl (n_iload_n c_24_5 rfl (n_ialoadV c_24_6 sc_5.n rfl rfl rfl (by omega) (t_5d hS hd (by omega) (by omega)) ?_))))
  intro z1 ez1 f2
  refine n_aload_n c_24_7 rfl (n_getV (bi := 5) c_24_8 sc_44.n rfl rfl rfl (t_44_5 hS) ?_)
  intro z3 ez3 f4
  rcases (show z3 = 2 ∨ z3 = 3 by omega) with rfl | rfl
  · skip
    refine n_imul c_24_11 rfl (n_aload_n c_24_12 rfl (n_iload_n c_24_13 rfl (n_ialoadV c_24_14 sc_5.n rfl rfl rfl (by omega) (t_5d hS hd (by omega) (by omega)) ?_)))
    intro z5 ez5 f6
    refine n_iadd c_24_15 rfl (n_aload_n c_24_16 rfl (n_getV (bi := 5) c_24_17 sc_44.n rfl rfl rfl (t_44_5 hS) ?_))
    intro z7 ez7 f8
    obtain rfl : z7 = 2 := by omega
    refine n_imul c_24_20 rfl (n_aload_n c_24_21 rfl (n_iload c_24_22 rfl (n_ialoadV c_24_24 sc_5.n rfl rfl rfl (by omega) (t_5d hS hd (by omega) (by omega)) ?_)))
    intro z9 ez9 f10
    refine n_iadd c_24_25 rfl (n_ialoadV c_24_26 sc_45.n rfl rfl rfl (by omega) (t_45 hS (by omega)) ?_)
    intro z11 ez11 f12
    exact n_rI c_24_27 rfl ⟨rfl, by omega⟩
  · skip
    refine n_imul c_24_11 rfl (n_aload_n c_24_12 rfl (n_iload_n c_24_13 rfl (n_ialoadV c_24_14 sc_5.n rfl rfl rfl (by omega) (t_5d hS hd (by omega) (by omega)) ?_)))
    intro z13 ez13 f14
    refine n_iadd c_24_15 rfl (n_aload_n c_24_16 rfl (n_getV (bi := 5) c_24_17 sc_44.n rfl rfl rfl (t_44_5 hS) ?_))
    intro z15 ez15 f16
    obtain rfl : z15 = 3 := by omega
    refine n_imul c_24_20 rfl (n_aload_n c_24_21 rfl (n_iload c_24_22 rfl (n_ialoadV c_24_24 sc_5.n rfl rfl rfl (by omega) (t_5d hS hd (by omega) (by omega)) ?_)))
    intro z17 ez17 f18
    refine n_iadd c_24_25 rfl (n_ialoadV c_24_26 sc_45.n rfl rfl rfl (by omega) (t_45 hS (by omega)) ?_)
    intro z19 ez19 f20
    exact n_rI c_24_27 rfl ⟨rfl, by omega⟩

set_option maxHeartbeats 4000000 in
theorem variableAt6_3 {xs : List Int32} {e : Nat} {ac : Int} {M0 M : nM} {i j k : Int} (hS : Sf 3 ac M0 M) (hi : 0 ≤ i ∧ i ≤ 26) (hj : 0 ≤ j ∧ j ≤ 26) (hk : 0 ≤ k ∧ k ≤ 26) : nW xs e 24 0 [some (2, 44), some (2, 6), some (0, i), some (0, j), some (0, k)] [] M (nPI fun z M1 => M = M1 ∧ (0 ≤ z ∧ z ≤ 8)) := by
  have hd : (3 : Int) = 2 ∨ (3 : Int) = 3 := by decide
  have hac := hS.2.2.2.2
  refine n_aload_n c_24_0 rfl (n_getR c_24_1 sc_44.n rfl rfl rfl r_44_4 (n_aload_n c_24_4 rfl (n_iload_n c_24_5 rfl (n_ialoadV c_24_6 sc_6.n rfl rfl rfl (by omega) (t_6d hS hd (by omega) (by omega)) ?_))))
  intro z1 ez1 f2
  refine n_aload_n c_24_7 rfl (n_getV (bi := 5) c_24_8 sc_44.n rfl rfl rfl (t_44_5 hS) ?_)
  intro z3 ez3 f4
  rcases (show z3 = 2 ∨ z3 = 3 by omega) with rfl | rfl
  · skip
    refine n_imul c_24_11 rfl (n_aload_n c_24_12 rfl (n_iload_n c_24_13 rfl (n_ialoadV c_24_14 sc_6.n rfl rfl rfl (by omega) (t_6d hS hd (by omega) (by omega)) ?_)))
    intro z5 ez5 f6
    refine n_iadd c_24_15 rfl (n_aload_n c_24_16 rfl (n_getV (bi := 5) c_24_17 sc_44.n rfl rfl rfl (t_44_5 hS) ?_))
    intro z7 ez7 f8
    obtain rfl : z7 = 2 := by omega
    refine n_imul c_24_20 rfl (n_aload_n c_24_21 rfl (n_iload c_24_22 rfl (n_ialoadV c_24_24 sc_6.n rfl rfl rfl (by omega) (t_6d hS hd (by omega) (by omega)) ?_)))
    intro z9 ez9 f10
    refine n_iadd c_24_25 rfl (n_ialoadV c_24_26 sc_45.n rfl rfl rfl (by omega) (t_45 hS (by omega)) ?_)
    intro z11 ez11 f12
    exact n_rI c_24_27 rfl ⟨rfl, by omega⟩
  · skip
    refine n_imul c_24_11 rfl (n_aload_n c_24_12 rfl (n_iload_n c_24_13 rfl (n_ialoadV c_24_14 sc_6.n rfl rfl rfl (by omega) (t_6d hS hd (by omega) (by omega)) ?_)))
    intro z13 ez13 f14
    refine n_iadd c_24_15 rfl (n_aload_n c_24_16 rfl (n_getV (bi := 5) c_24_17 sc_44.n rfl rfl rfl (t_44_5 hS) ?_))
    intro z15 ez15 f16
    obtain rfl : z15 = 3 := by omega
    refine n_imul c_24_20 rfl (n_aload_n c_24_21 rfl (n_iload c_24_22 rfl (n_ialoadV c_24_24 sc_6.n rfl rfl rfl (by omega) (t_6d hS hd (by omega) (by omega)) ?_)))
    intro z17 ez17 f18
    refine n_iadd c_24_25 rfl (n_ialoadV c_24_26 sc_45.n rfl rfl rfl (by omega) (t_45 hS (by omega)) ?_)
    intro z19 ez19 f20
    exact n_rI c_24_27 rfl ⟨rfl, by omega⟩

set_option maxHeartbeats 4000000 in
theorem variableAt7_3 {xs : List Int32} {e : Nat} {ac : Int} {M0 M : nM} {i j k : Int} (hS : Sf 3 ac M0 M) (hi : 0 ≤ i ∧ i ≤ 26) (hj : 0 ≤ j ∧ j ≤ 26) (hk : 0 ≤ k ∧ k ≤ 26) : nW xs e 24 0 [some (2, 44), some (2, 7), some (0, i), some (0, j), some (0, k)] [] M (nPI fun z M1 => M = M1 ∧ (0 ≤ z ∧ z ≤ 8)) := by
  have hd : (3 : Int) = 2 ∨ (3 : Int) = 3 := by decide
  have hac := hS.2.2.2.2
  refine n_aload_n c_24_0 rfl (n_getR c_24_1 sc_44.n rfl rfl rfl r_44_4 (n_aload_n c_24_4 rfl (n_iload_n c_24_5 rfl (n_ialoadV c_24_6 sc_7.n rfl rfl rfl (by omega) (t_7d hS hd (by omega) (by omega)) ?_))))
  intro z1 ez1 f2
  refine n_aload_n c_24_7 rfl (n_getV (bi := 5) c_24_8 sc_44.n rfl rfl rfl (t_44_5 hS) ?_)
  intro z3 ez3 f4
  rcases (show z3 = 2 ∨ z3 = 3 by omega) with rfl | rfl
  · skip
    refine n_imul c_24_11 rfl (n_aload_n c_24_12 rfl (n_iload_n c_24_13 rfl (n_ialoadV c_24_14 sc_7.n rfl rfl rfl (by omega) (t_7d hS hd (by omega) (by omega)) ?_)))
    intro z5 ez5 f6
    refine n_iadd c_24_15 rfl (n_aload_n c_24_16 rfl (n_getV (bi := 5) c_24_17 sc_44.n rfl rfl rfl (t_44_5 hS) ?_))
    intro z7 ez7 f8
    obtain rfl : z7 = 2 := by omega
    refine n_imul c_24_20 rfl (n_aload_n c_24_21 rfl (n_iload c_24_22 rfl (n_ialoadV c_24_24 sc_7.n rfl rfl rfl (by omega) (t_7d hS hd (by omega) (by omega)) ?_)))
    intro z9 ez9 f10
    refine n_iadd c_24_25 rfl (n_ialoadV c_24_26 sc_45.n rfl rfl rfl (by omega) (t_45 hS (by omega)) ?_)
    intro z11 ez11 f12
    exact n_rI c_24_27 rfl ⟨rfl, by omega⟩
  · skip
    refine n_imul c_24_11 rfl (n_aload_n c_24_12 rfl (n_iload_n c_24_13 rfl (n_ialoadV c_24_14 sc_7.n rfl rfl rfl (by omega) (t_7d hS hd (by omega) (by omega)) ?_)))
    intro z13 ez13 f14
    refine n_iadd c_24_15 rfl (n_aload_n c_24_16 rfl (n_getV (bi := 5) c_24_17 sc_44.n rfl rfl rfl (t_44_5 hS) ?_))
    intro z15 ez15 f16
    obtain rfl : z15 = 3 := by omega
    refine n_imul c_24_20 rfl (n_aload_n c_24_21 rfl (n_iload c_24_22 rfl (n_ialoadV c_24_24 sc_7.n rfl rfl rfl (by omega) (t_7d hS hd (by omega) (by omega)) ?_)))
    intro z17 ez17 f18
    refine n_iadd c_24_25 rfl (n_ialoadV c_24_26 sc_45.n rfl rfl rfl (by omega) (t_45 hS (by omega)) ?_)
    intro z19 ez19 f20
    exact n_rI c_24_27 rfl ⟨rfl, by omega⟩

set_option maxHeartbeats 4000000 in
theorem told_3 {xs : List Int32} {e : Nat} {ac : Int} {M0 M : nM} {a b : Int} (hS : Sf 3 ac M0 M) (ha : 0 ≤ a ∧ a ≤ 2) (hb : 0 ≤ b ∧ b ≤ 2) : nW xs e 29 0 [some (2, 44), some (2, 39), some (0, a), some (0, b)] [] M (nPI fun z M1 => M = M1 ∧ (0 ≤ z ∧ z ≤ 2)) := by
  have hd : (3 : Int) = 2 ∨ (3 : Int) = 3 := by decide
  have hac := hS.2.2.2.2
  refine n_aload_n c_29_0 rfl (n_aload_n c_29_1 rfl (n_getR c_29_2 sc_44.n rfl rfl rfl r_44_4 (n_iload_n c_29_5 rfl (n_aload_n c_29_6 rfl (n_getV (bi := 5) c_29_7 sc_44.n rfl rfl rfl (t_44_5 hS) ?_)))))
  intro z1 ez1 f2
  rcases (show z1 = 2 ∨ z1 = 3 by omega) with rfl | rfl
  · skip
    refine n_imul c_29_10 rfl (n_iload_n c_29_11 rfl (n_iadd c_29_12 rfl (n_ialoadV c_29_13 sc_45.n rfl rfl rfl (by omega) (t_45 hS (by omega)) ?_)))
    intro z3 ez3 f4
    refine n_ialoadV c_29_14 sc_39.n rfl rfl rfl (by omega) (t_39 hS (by omega)) ?_
    intro z5 ez5 f6
    exact n_rI c_29_15 rfl ⟨rfl, by omega⟩
  · skip
    refine n_imul c_29_10 rfl (n_iload_n c_29_11 rfl (n_iadd c_29_12 rfl (n_ialoadV c_29_13 sc_45.n rfl rfl rfl (by omega) (t_45 hS (by omega)) ?_)))
    intro z7 ez7 f8
    refine n_ialoadV c_29_14 sc_39.n rfl rfl rfl (by omega) (t_39 hS (by omega)) ?_
    intro z9 ez9 f10
    exact n_rI c_29_15 rfl ⟨rfl, by omega⟩

set_option maxHeartbeats 4000000 in
theorem suits_3_c {xs : List Int32} {e : Nat} {ac : Int} {M0 M : nM} {t : Int} (hS : Sf 3 ac M0 M) (ht : 0 ≤ t ∧ t ≤ 3) : ∀ nn : Nat, (∀ (x3 : Int), (0 ≤ x3 ∧ x3 ≤ 3) → (3 - x3) * 31 + 31 < (nn : Int) → nW xs (e + 1) 25 11 [some (2, 44), some (2, 39), some (0, t), some (0, x3), none, none, none] [] M (nPI fun z M1 => M = M1 ∧ (0 ≤ z ∧ z ≤ 1))) ∧ (∀ (x3 x4 : Int), (1 ≤ t ∧ t ≤ 3) → (0 ≤ x3 ∧ x3 ≤ 2) → (0 ≤ x4 ∧ x4 ≤ 3) → (3 - x3) * 31 + (3 - x4) * 6 + 6 < (nn : Int) → nW xs (e + 1) 25 19 [some (2, 44), some (2, 39), some (0, t), some (0, x3), some (0, x4), none, none] [] M (nPI fun z M1 => M = M1 ∧ (0 ≤ z ∧ z ≤ 1))) ∧ (∀ (x3 x4 x5 : Int), (1 ≤ t ∧ t ≤ 3) → (0 ≤ x3 ∧ x3 ≤ 2) → (0 ≤ x4 ∧ x4 ≤ 2) → (0 ≤ x5 ∧ x5 ≤ 3) → (3 - x3) * 31 + (3 - x4) * 6 + (3 - x5) * 1 + 1 < (nn : Int) → nW xs (e + 1) 25 28 [some (2, 44), some (2, 39), some (0, t), some (0, x3), some (0, x4), some (0, x5), none] [] M (nPI fun z M1 => M = M1 ∧ (0 ≤ z ∧ z ≤ 1))) := by
  have hd : (3 : Int) = 2 ∨ (3 : Int) = 3 := by decide
  have hac := hS.2.2.2.2
  intro nn
  induction nn with
  | zero => refine ⟨?_, ?_, ?_⟩ <;> (intros; omega)
  | succ nn ih =>
    refine ⟨?_, ?_, ?_⟩
    · intro x3 k3 hnn
      refine n_iload_n c_25_11 rfl (n_iload_n c_25_12 rfl ?_)
      refine n_if2_ge c_25_13 (by omega) (by omega) ?_ ?_
      · intro h1
        refine n_iconst c_25_91 ?_
        exact n_rZ c_25_92 rfl (by omega) ⟨rfl, by omega⟩
      · intro h2
        refine n_iconst c_25_16 (n_istore (L2 := [some (2, 44), some (2, 39), some (0, t), some (0, x3), some (0, 0), none, none]) c_25_17 rfl rfl (n_fg (le_s (le_s (le_s (le_s (le_s (le_n (le_n le_0))))))) ?_))
        exact ih.2.1 _ _ (by omega) (by omega) (by omega) (by omega)
    · intro x3 x4 k2 k3 k4 hnn
      refine n_iload c_25_19 rfl (n_iload_n c_25_21 rfl ?_)
      refine n_if2_ge c_25_22 (by omega) (by omega) ?_ ?_
      · intro h1
        refine n_iinc (L2 := [some (2, 44), some (2, 39), some (0, t), some (0, (x3 + 1)), some (0, x4), none, none]) c_25_85 rfl rfl rfl (n_goto c_25_88 (n_fg (le_s (le_s (le_s (le_s (le_n (le_n (le_n le_0))))))) ?_))
        exact ih.1 _ (by omega) (by omega)
      · intro h2
        refine n_iconst c_25_25 (n_istore (L2 := [some (2, 44), some (2, 39), some (0, t), some (0, x3), some (0, x4), some (0, 0), none]) c_25_26 rfl rfl (n_fg (le_s (le_s (le_s (le_s (le_s (le_s (le_n le_0))))))) ?_))
        exact ih.2.2 _ _ _ (by omega) (by omega) (by omega) (by omega) (by omega)
    · intro x3 x4 x5 k2 k3 k4 k5 hnn
      refine n_iload c_25_28 rfl (n_iload_n c_25_30 rfl ?_)
      refine n_if2_ge c_25_31 (by omega) (by omega) ?_ ?_
      · intro h1
        refine n_iinc (L2 := [some (2, 44), some (2, 39), some (0, t), some (0, x3), some (0, (x4 + 1)), some (0, x5), none]) c_25_79 rfl rfl rfl (n_goto c_25_82 (n_fg (le_s (le_s (le_s (le_s (le_s (le_n (le_n le_0))))))) ?_))
        exact ih.2.1 _ _ (by omega) (by omega) (by omega) (by omega)
      · intro h2
        refine n_aload_n c_25_34 rfl (n_aload_n c_25_35 rfl (n_aload_n c_25_36 rfl (n_aload_n c_25_37 rfl (n_iload_n c_25_38 rfl (n_iload c_25_39 rfl (n_v3I c_25_41 rfl sc_44.n rfl rfl rfl rfl (told_3 (a := x3) (b := x4) hS (by omega) (by omega)) ?_))))))
        intro z3 M4 hP5
        obtain ⟨eM, f5⟩ := hP5
        subst eM
        refine n_iload c_25_44 rfl (n_v3I c_25_46 rfl sc_44.n rfl rfl rfl rfl (told_3 (a := z3) (b := x5) hS (by omega) (by omega)) ?_)
        intro z6 M7 hP8
        obtain ⟨eM, f8⟩ := hP8
        subst eM
        refine n_istore (L2 := [some (2, 44), some (2, 39), some (0, t), some (0, x3), some (0, x4), some (0, x5), some (0, z6)]) c_25_49 rfl rfl (n_iload c_25_51 rfl (n_aload_n c_25_53 rfl (n_aload_n c_25_54 rfl (n_iload_n c_25_55 rfl (n_aload_n c_25_56 rfl (n_aload_n c_25_57 rfl (n_iload c_25_58 rfl (n_iload c_25_60 rfl (n_v3I c_25_62 rfl sc_44.n rfl rfl rfl rfl (told_3 (a := x4) (b := x5) hS (by omega) (by omega)) ?_)))))))))
        intro z9 M10 hP11
        obtain ⟨eM, f11⟩ := hP11
        subst eM
        refine n_v3I c_25_65 rfl sc_44.n rfl rfl rfl rfl (told_3 (a := x3) (b := z9) hS (by omega) (by omega)) ?_
        intro z12 M13 hP14
        obtain ⟨eM, f14⟩ := hP14
        subst eM
        refine n_if2_eq c_25_68 (by omega) (by omega) ?_ ?_
        · intro h15
          refine n_iinc (L2 := [some (2, 44), some (2, 39), some (0, t), some (0, x3), some (0, x4), some (0, (x5 + 1)), some (0, z6)]) c_25_73 rfl rfl rfl (n_goto c_25_76 (n_fg (le_s (le_s (le_s (le_s (le_s (le_s (le_n le_0))))))) ?_))
          exact ih.2.2 _ _ _ (by omega) (by omega) (by omega) (by omega) (by omega)
        · intro h16
          refine n_iconst c_25_71 ?_
          exact n_rZ c_25_72 rfl (by omega) ⟨rfl, by omega⟩
set_option maxHeartbeats 4000000 in
theorem suits_3 {xs : List Int32} {e : Nat} {ac : Int} {M0 M : nM} {t : Int} (hS : Sf 3 ac M0 M) (ht : 0 ≤ t ∧ t ≤ 3) : nW xs (e + 1) 25 0 [some (2, 44), some (2, 39), some (0, t), none, none, none, none] [] M (nPI fun z M1 => M = M1 ∧ (0 ≤ z ∧ z ≤ 1)) := by
  have hd : (3 : Int) = 2 ∨ (3 : Int) = 3 := by decide
  have hac := hS.2.2.2.2
  refine n_aload_n c_25_0 rfl (n_getV (bi := 3) c_25_1 sc_44.n rfl rfl rfl (t_44_3 hS) ?_)
  intro z1 ez1 f2
  refine n_if0_ne c_25_4 (by omega) ?_ ?_
  · intro h3
    refine n_iconst c_25_9 (n_istore_n (L2 := [some (2, 44), some (2, 39), some (0, t), some (0, 0), none, none, none]) c_25_10 rfl rfl (n_fg (le_s (le_s (le_s (le_s (le_n (le_n (le_n le_0))))))) ?_))
    exact (suits_3_c hS ht 320).1 _ (by omega) (by omega)
  · intro h4
    refine n_iconst c_25_7 ?_
    exact n_rZ c_25_8 rfl (by omega) ⟨rfl, by omega⟩

set_option maxHeartbeats 4000000 in
theorem fcode_3_c {xs : List Int32} {e : Nat} {ac : Int} {M0 M : nM} (hS : Sf 3 ac M0 M)  : ∀ nn : Nat, (∀ (x3 x5 : Int), (-9223372036854775808 ≤ x3 ∧ x3 ≤ 9223372036854775807) → (-1 ≤ x5 ∧ x5 ≤ 26) → (x5 - (-1)) * 1 + 1 < (nn : Int) → nW xs (e + 1) 26 14 [some (2, 44), some (2, 39), some (2, 4), some (1, x3), none, some (0, x5)] [] M (nPJ fun z M1 => M = M1 ∧ (-9223372036854775808 ≤ z ∧ z ≤ 9223372036854775807))) := by
  have hd : (3 : Int) = 2 ∨ (3 : Int) = 3 := by decide
  have hac := hS.2.2.2.2
  intro nn
  induction nn with
  | zero => intros; omega
  | succ nn ih =>
    intro x3 x5 k3 k5 hnn
    refine n_iload c_26_14 rfl ?_
    refine n_if0_lt c_26_16 (by omega) ?_ ?_
    · intro h1
      refine n_lload_n c_26_44 rfl ?_
      exact n_rJ c_26_45 rfl ⟨rfl, by omega⟩
    · intro h2
      refine n_lload_n c_26_19 rfl (n_aload_n c_26_20 rfl (n_getV (bi := 0) c_26_21 sc_4.n rfl rfl rfl (t_4_0 hS) ?_))
      intro z3 ez3 f4
      obtain rfl : z3 = 3 := by omega
      refine n_i2l c_26_24 (by omega) ?_
      refine n_lmul c_26_25 rfl (n_wrapl ?_)
      have f5 := n_wl_r (x3 * 3)
      generalize n_wl (x3 * 3) = z6 at f5 ⊢
      refine n_aload_n c_26_26 rfl (n_aload_n c_26_27 rfl (n_getR c_26_28 sc_44.n rfl rfl rfl r_44_4 (n_iload c_26_31 rfl (n_ialoadV c_26_33 sc_45.n rfl rfl rfl (by omega) (t_45 hS (by omega)) ?_))))
      intro z7 ez7 f8
      refine n_ialoadV c_26_34 sc_39.n rfl rfl rfl (by omega) (t_39 hS (by omega)) ?_
      intro z9 ez9 f10
      refine n_i2l c_26_35 (by omega) ?_
      refine n_ladd c_26_36 rfl (n_wrapl ?_)
      have f11 := n_wl_r (z6 + z9)
      generalize n_wl (z6 + z9) = z12 at f11 ⊢
      refine n_lstore_n (L2 := [some (2, 44), some (2, 39), some (2, 4), some (1, z12), none, some (0, x5)]) c_26_37 rfl rfl (n_iinc (L2 := [some (2, 44), some (2, 39), some (2, 4), some (1, z12), none, some (0, (x5 + (-1)))]) c_26_38 rfl rfl rfl (n_goto c_26_41 (n_fg (le_s (le_s (le_s (le_s (le_n (le_s le_0)))))) ?_)))
      exact ih _ _ (by omega) (by omega) (by omega)
set_option maxHeartbeats 4000000 in
theorem fcode_3 {xs : List Int32} {e : Nat} {ac : Int} {M0 M : nM} (hS : Sf 3 ac M0 M)  : nW xs (e + 1) 26 0 [some (2, 44), some (2, 39), some (2, 4), none, none, none] [] M (nPJ fun z M1 => M = M1 ∧ (-9223372036854775808 ≤ z ∧ z ≤ 9223372036854775807)) := by
  have hd : (3 : Int) = 2 ∨ (3 : Int) = 3 := by decide
  have hac := hS.2.2.2.2
  refine n_lconst (n := 0) c_26_0 rfl (n_lstore_n (L2 := [some (2, 44), some (2, 39), some (2, 4), some (1, 0), none, none]) c_26_1 rfl rfl (n_aload_n c_26_2 rfl (n_aload_n c_26_3 rfl (n_getV (bi := 0) c_26_4 sc_44.n rfl rfl rfl (t_44_0 hS) ?_))))
  intro z1 ez1 f2
  refine n_v1I c_26_7 rfl sc_4.n rfl rfl rfl rfl (powerU_3 (n := z1) hS (by omega)) ?_
  intro z3 M4 hP5
  obtain ⟨eM, f5⟩ := hP5
  subst eM
  refine n_iconst c_26_10 (n_isub c_26_11 rfl (n_istore (L2 := [some (2, 44), some (2, 39), some (2, 4), some (1, 0), none, some (0, (z3 - 1))]) c_26_12 rfl rfl (n_fg (le_s (le_s (le_s (le_s (le_n (le_s le_0)))))) ?_)))
  exact (fcode_3_c hS  68) _ _ (by omega) (by omega) (by omega)

set_option maxHeartbeats 4000000 in
theorem nstart_3 {xs : List Int32} {e : Nat} {ac : Int} {M0 M : nM} {c : Int} (hS : Sf 3 ac M0 M) (hc : 0 ≤ c ∧ c ≤ 9) : nW xs (e + 1) 64 0 [some (2, 38), some (0, 3), some (0, c)] [] M (nPV fun M1 => Sf 3 ac M0 M1) := by
  have hd : (3 : Int) = 2 ∨ (3 : Int) = 3 := by decide
  have hac := hS.2.2.2.2
  refine n_aload_n c_64_0 rfl (n_iload_n c_64_1 rfl (n_putV (bi := 5) hS c_64_2 sc_38.n rfl rfl rfl rfl (w_38_5 (by omega)) ?_))
  intro M1 eM1 hS1
  have g1_0 : M1 38 5 = 3 := by rw [eM1]; exact nu_s _ _ _ _
  refine n_aload_n c_64_5 rfl (n_iload_n c_64_6 rfl (n_bipush c_64_7 rfl (n_s2I c_64_9 rfl rfl rfl rfl (imin_3 (x := c) (y := 9) hS1 (by omega) (by omega)) ?_)))
  intro z2 M3 hP4
  obtain ⟨eM, f4, f4p0⟩ := hP4
  subst eM
  refine n_putV (bi := 6) hS1 c_64_12 sc_38.n rfl rfl rfl rfl (w_38_6 (by omega)) ?_
  intro M5 eM5 hS5
  have g5_0 : M5 38 5 = M1 38 5 := by rw [eM5]; exact nu_i (by omega)
  have g5_1 : M5 38 6 = z2 := by rw [eM5]; exact nu_s _ _ _ _
  refine n_aload_n c_64_15 rfl (n_iconst c_64_16 (n_aload_n c_64_17 rfl (n_getV (bi := 5) c_64_18 sc_38.n rfl rfl rfl (t_38_5 hS5) ?_)))
  intro z6 ez6 f7
  obtain rfl : z6 = 3 := by omega
  refine n_aload_n c_64_21 rfl (n_getV (bi := 5) c_64_22 sc_38.n rfl rfl rfl (t_38_5 hS5) ?_)
  intro z8 ez8 f9
  obtain rfl : z8 = 3 := by omega
  refine n_imul c_64_25 rfl (n_aload_n c_64_26 rfl (n_getV (bi := 5) c_64_27 sc_38.n rfl rfl rfl (t_38_5 hS5) ?_))
  intro z10 ez10 f11
  obtain rfl : z10 = 3 := by omega
  refine n_imul c_64_30 rfl (n_i_ishl (z := 134217728) c_64_31 (by decide) ?_)
  refine n_iconst c_64_32 (n_isub c_64_33 rfl (n_putV (bi := 7) hS5 c_64_34 sc_38.n rfl rfl rfl rfl (w_38_7 (by omega)) ?_))
  intro M12 eM12 hS12
  have g12_0 : M12 38 5 = M5 38 5 := by rw [eM12]; exact nu_i (by omega)
  have g12_1 : M12 38 6 = M5 38 6 := by rw [eM12]; exact nu_i (by omega)
  have g12_2 : M12 38 7 = (134217728 - 1) := by rw [eM12]; exact nu_s _ _ _ _
  refine n_aload_n c_64_37 rfl (n_getR c_64_38 sc_38.n rfl rfl rfl r_38_1 (n_aload_n c_64_41 rfl (n_getV (bi := 7) c_64_42 sc_38.n rfl rfl rfl (t_38_7 hS12) ?_)))
  intro z13 ez13 f14
  obtain rfl : z13 = 134217727 := by omega
  refine n_s2V c_64_45 rfl rfl rfl rfl (fill40_3 (v := 134217727) hS12 (by omega)) ?_
  intro  M15 hP16
  have hS15 := hP16
  exact n_rV c_64_48 rfl hS15

set_option maxHeartbeats 4000000 in
theorem limit_3 {xs : List Int32} {e : Nat} {ac : Int} {M0 M : nM} {p q r w : Int} (hS : Sf 3 ac M0 M) (hp : 0 ≤ p ∧ p ≤ 8) (hq : 0 ≤ q ∧ q ≤ 8) (hr : 0 ≤ r ∧ r ≤ 8) (hw : -2147483648 ≤ w ∧ w ≤ 2147483647) : nW xs e 65 0 [some (2, 38), some (0, p), some (0, q), some (0, r), some (0, w)] [] M (nPV fun M1 => Sf 3 ac M0 M1) := by
  have hd : (3 : Int) = 2 ∨ (3 : Int) = 3 := by decide
  have hac := hS.2.2.2.2
  refine n_aload_n c_65_0 rfl (n_getR c_65_1 sc_38.n rfl rfl rfl r_38_1 (n_iload_n c_65_4 rfl (n_bipush c_65_5 rfl (n_imul c_65_7 rfl (n_iload_n c_65_8 rfl (n_iadd c_65_9 rfl (n_bipush c_65_10 rfl (n_imul c_65_12 rfl (n_iload_n c_65_13 rfl (n_iadd c_65_14 rfl (n_dup202 c_65_15 ?_)))))))))))
  refine n_ialoadV c_65_16 sc_40.n rfl rfl rfl (by omega) (t_40 hS (by omega)) ?_
  intro z1 ez1 f2
  refine n_iload c_65_17 rfl (n_i_iand c_65_19 rfl ?_)
  have f3 := n_and_r z1 w
  generalize (n_and z1 w) = z4 at f3 ⊢
  refine n_iastoreV hS c_65_20 sc_40.n rfl (by omega) (w_40 (by omega) (by omega)) ?_
  intro M5 eM5 hS5
  exact n_rV c_65_21 rfl hS5

set_option maxHeartbeats 4000000 in
theorem restrain_3_c {xs : List Int32} {e : Nat} {ac : Int} {M0 M : nM} {w : Int} (hS : Sf 3 ac M0 M) (hw : LawAt w) : ∀ nn : Nat, (∀ (x4 x5 x6 : Int) (M : nM), Sf 3 ac M0 M → (0 ≤ x4 ∧ x4 ≤ 27) → (0 ≤ x5 ∧ x5 ≤ 27) → (0 ≤ x6 ∧ x6 ≤ 27) → (27 - x6) * 871 + 871 < (nn : Int) → nW xs (e + 2) 66 34 [some (2, 38), some (2, 44), some (2, w), some (2, 4), some (0, x4), some (0, x5), some (0, x6), none, none, none, none, none] [] M (nPV fun M1 => Sf 3 ac M0 M1)) ∧ (∀ (x4 x5 x6 x7 : Int) (M : nM), Sf 3 ac M0 M → (1 ≤ x4 ∧ x4 ≤ 27) → (0 ≤ x5 ∧ x5 ≤ 27) → (0 ≤ x6 ∧ x6 ≤ 26) → (0 ≤ x7 ∧ x7 ≤ 27) → (27 - x6) * 871 + (27 - x7) * 30 + 30 < (nn : Int) → nW xs (e + 2) 66 44 [some (2, 38), some (2, 44), some (2, w), some (2, 4), some (0, x4), some (0, x5), some (0, x6), some (0, x7), none, none, none, none] [] M (nPV fun M1 => Sf 3 ac M0 M1)) ∧ (∀ (x4 x5 x6 x7 x8 : Int) (M : nM), Sf 3 ac M0 M → (1 ≤ x4 ∧ x4 ≤ 27) → (1 ≤ x5 ∧ x5 ≤ 27) → (0 ≤ x6 ∧ x6 ≤ 26) → (0 ≤ x7 ∧ x7 ≤ 26) → (0 ≤ x8 ∧ x8 ≤ 27) → (27 - x6) * 871 + (27 - x7) * 30 + (27 - x8) * 1 + 1 < (nn : Int) → nW xs (e + 2) 66 54 [some (2, 38), some (2, 44), some (2, w), some (2, 4), some (0, x4), some (0, x5), some (0, x6), some (0, x7), some (0, x8), none, none, none] [] M (nPV fun M1 => Sf 3 ac M0 M1)) := by
  have hd : (3 : Int) = 2 ∨ (3 : Int) = 3 := by decide
  have hac := hS.2.2.2.2
  intro nn
  induction nn with
  | zero => refine ⟨?_, ?_, ?_⟩ <;> (intros; omega)
  | succ nn ih =>
    refine ⟨?_, ?_, ?_⟩
    · intro x4 x5 x6 M hS k4 k5 k6 hnn
      refine n_iload c_66_34 rfl (n_iload c_66_36 rfl ?_)
      refine n_if2_ge c_66_38 (by omega) (by omega) ?_ ?_
      · intro h1
        exact n_rV c_66_188 rfl hS
      · intro h2
        refine n_iconst c_66_41 (n_istore (L2 := [some (2, 38), some (2, 44), some (2, w), some (2, 4), some (0, x4), some (0, x5), some (0, x6), some (0, 0), none, none, none, none]) c_66_42 rfl rfl (n_fg (le_s (le_s (le_s (le_s (le_s (le_s (le_s (le_s (le_n (le_n (le_n (le_n le_0)))))))))))) ?_))
        exact ih.2.1 _ _ _ _ M hS (by omega) (by omega) (by omega) (by omega) (by omega)
    · intro x4 x5 x6 x7 M hS k4 k5 k6 k7 hnn
      refine n_iload c_66_44 rfl (n_iload c_66_46 rfl ?_)
      refine n_if2_ge c_66_48 (by omega) (by omega) ?_ ?_
      · intro h1
        refine n_iinc (L2 := [some (2, 38), some (2, 44), some (2, w), some (2, 4), some (0, x4), some (0, x5), some (0, (x6 + 1)), some (0, x7), none, none, none, none]) c_66_182 rfl rfl rfl (n_goto c_66_185 (n_fg (le_s (le_s (le_s (le_s (le_s (le_s (le_s (le_n (le_n (le_n (le_n (le_n le_0)))))))))))) ?_))
        exact ih.1 _ _ _ M hS (by omega) (by omega) (by omega) (by omega)
      · intro h2
        refine n_iconst c_66_51 (n_istore (L2 := [some (2, 38), some (2, 44), some (2, w), some (2, 4), some (0, x4), some (0, x5), some (0, x6), some (0, x7), some (0, 0), none, none, none]) c_66_52 rfl rfl (n_fg (le_s (le_s (le_s (le_s (le_s (le_s (le_s (le_s (le_s (le_n (le_n (le_n le_0)))))))))))) ?_))
        exact ih.2.2 _ _ _ _ _ M hS (by omega) (by omega) (by omega) (by omega) (by omega) (by omega)
    · intro x4 x5 x6 x7 x8 M hS k4 k5 k6 k7 k8 hnn
      refine n_iload c_66_54 rfl (n_aload_n c_66_56 rfl (n_getV (bi := 3) c_66_57 hw.c0.1.n rfl rfl rfl (t_law hS hw).2.2.2 ?_))
      intro z1 ez1 f2
      refine n_if2_ge c_66_60 (by omega) (by omega) ?_ ?_
      · intro h3
        refine n_iinc (L2 := [some (2, 38), some (2, 44), some (2, w), some (2, 4), some (0, x4), some (0, x5), some (0, x6), some (0, (x7 + 1)), some (0, x8), none, none, none]) c_66_176 rfl rfl rfl (n_goto c_66_179 (n_fg (le_s (le_s (le_s (le_s (le_s (le_s (le_s (le_s (le_n (le_n (le_n (le_n le_0)))))))))))) ?_))
        exact ih.2.1 _ _ _ _ M hS (by omega) (by omega) (by omega) (by omega) (by omega)
      · intro h4
        refine n_aload_n c_66_63 rfl (n_aload_n c_66_64 rfl (n_getR c_66_65 sc_4.n rfl rfl rfl r_4_2 (n_aload_n c_66_68 rfl (n_getR c_66_69 hw.c0.1.n rfl rfl rfl hw.r (n_iload c_66_72 rfl (n_ialoadV c_66_74 hw.c0.2.n rfl rfl rfl (by omega) (t_lawr hS hw (by omega)) ?_))))))
        intro z5 ez5 f6
        refine n_aload_n c_66_75 rfl (n_getR c_66_76 hw.c0.1.n rfl rfl rfl hw.r (n_iload c_66_79 rfl (n_ialoadV c_66_81 hw.c0.2.n rfl rfl rfl (by omega) (t_lawr hS hw (by omega)) ?_)))
        intro z7 ez7 f8
        refine n_aload_n c_66_82 rfl (n_getR c_66_83 hw.c0.1.n rfl rfl rfl hw.r (n_iload c_66_86 rfl (n_ialoadV c_66_88 hw.c0.2.n rfl rfl rfl (by omega) (t_lawr hS hw (by omega)) ?_)))
        intro z9 ez9 f10
        refine n_v4I c_66_89 rfl sc_44.n rfl rfl rfl rfl (variableAt5_3 (i := z5) (j := z7) (k := z9) hS (by omega) (by omega) (by omega)) ?_
        intro z11 M12 hP13
        obtain ⟨eM, f13⟩ := hP13
        subst eM
        refine n_istore (L2 := [some (2, 38), some (2, 44), some (2, w), some (2, 4), some (0, x4), some (0, x5), some (0, x6), some (0, x7), some (0, x8), some (0, z11), none, none]) c_66_92 rfl rfl (n_aload_n c_66_94 rfl (n_aload_n c_66_95 rfl (n_getR c_66_96 sc_4.n rfl rfl rfl r_4_3 (n_aload_n c_66_99 rfl (n_getR c_66_100 hw.c0.1.n rfl rfl rfl hw.r (n_iload c_66_103 rfl (n_ialoadV c_66_105 hw.c0.2.n rfl rfl rfl (by omega) (t_lawr hS hw (by omega)) ?_)))))))
        intro z14 ez14 f15
        refine n_aload_n c_66_106 rfl (n_getR c_66_107 hw.c0.1.n rfl rfl rfl hw.r (n_iload c_66_110 rfl (n_ialoadV c_66_112 hw.c0.2.n rfl rfl rfl (by omega) (t_lawr hS hw (by omega)) ?_)))
        intro z16 ez16 f17
        refine n_aload_n c_66_113 rfl (n_getR c_66_114 hw.c0.1.n rfl rfl rfl hw.r (n_iload c_66_117 rfl (n_ialoadV c_66_119 hw.c0.2.n rfl rfl rfl (by omega) (t_lawr hS hw (by omega)) ?_)))
        intro z18 ez18 f19
        refine n_v4I c_66_120 rfl sc_44.n rfl rfl rfl rfl (variableAt6_3 (i := z14) (j := z16) (k := z18) hS (by omega) (by omega) (by omega)) ?_
        intro z20 M21 hP22
        obtain ⟨eM, f22⟩ := hP22
        subst eM
        refine n_istore (L2 := [some (2, 38), some (2, 44), some (2, w), some (2, 4), some (0, x4), some (0, x5), some (0, x6), some (0, x7), some (0, x8), some (0, z11), some (0, z20), none]) c_66_123 rfl rfl (n_aload_n c_66_125 rfl (n_aload_n c_66_126 rfl (n_getR c_66_127 sc_4.n rfl rfl rfl r_4_4 (n_aload_n c_66_130 rfl (n_getR c_66_131 hw.c0.1.n rfl rfl rfl hw.r (n_iload c_66_134 rfl (n_ialoadV c_66_136 hw.c0.2.n rfl rfl rfl (by omega) (t_lawr hS hw (by omega)) ?_)))))))
        intro z23 ez23 f24
        refine n_aload_n c_66_137 rfl (n_getR c_66_138 hw.c0.1.n rfl rfl rfl hw.r (n_iload c_66_141 rfl (n_ialoadV c_66_143 hw.c0.2.n rfl rfl rfl (by omega) (t_lawr hS hw (by omega)) ?_)))
        intro z25 ez25 f26
        refine n_aload_n c_66_144 rfl (n_getR c_66_145 hw.c0.1.n rfl rfl rfl hw.r (n_iload c_66_148 rfl (n_ialoadV c_66_150 hw.c0.2.n rfl rfl rfl (by omega) (t_lawr hS hw (by omega)) ?_)))
        intro z27 ez27 f28
        refine n_v4I c_66_151 rfl sc_44.n rfl rfl rfl rfl (variableAt7_3 (i := z23) (j := z25) (k := z27) hS (by omega) (by omega) (by omega)) ?_
        intro z29 M30 hP31
        obtain ⟨eM, f31⟩ := hP31
        subst eM
        refine n_istore (L2 := [some (2, 38), some (2, 44), some (2, w), some (2, 4), some (0, x4), some (0, x5), some (0, x6), some (0, x7), some (0, x8), some (0, z11), some (0, z20), some (0, z29)]) c_66_154 rfl rfl (n_aload_n c_66_156 rfl (n_iload c_66_157 rfl (n_iload c_66_159 rfl (n_iload c_66_161 rfl (n_aload_n c_66_163 rfl (n_getV (bi := 2) c_66_164 hw.c0.1.n rfl rfl rfl (t_law hS hw).2.2.1 ?_))))))
        intro z32 ez32 f33
        refine n_v4V c_66_167 rfl sc_38.n rfl rfl rfl rfl (limit_3 (p := z11) (q := z20) (r := z29) (w := z32) hS (by omega) (by omega) (by omega) (by omega)) ?_
        intro  M34 hP35
        have hS34 := hP35
        refine n_iinc (L2 := [some (2, 38), some (2, 44), some (2, w), some (2, 4), some (0, x4), some (0, x5), some (0, x6), some (0, x7), some (0, (x8 + 1)), some (0, z11), some (0, z20), some (0, z29)]) c_66_170 rfl rfl rfl (n_goto c_66_173 (n_fg (le_s (le_s (le_s (le_s (le_s (le_s (le_s (le_s (le_s (le_n (le_n (le_n le_0)))))))))))) ?_))
        exact ih.2.2 _ _ _ _ _ M34 hS34 (by omega) (by omega) (by omega) (by omega) (by omega) (by omega)
set_option maxHeartbeats 4000000 in
theorem restrain_3 {xs : List Int32} {e : Nat} {ac : Int} {M0 M : nM} {w : Int} (hS : Sf 3 ac M0 M) (hw : LawAt w) : nW xs (e + 2) 66 0 [some (2, 38), some (2, 44), some (2, w), some (2, 4), none, none, none, none, none, none, none, none] [] M (nPV fun M1 => Sf 3 ac M0 M1) := by
  have hd : (3 : Int) = 2 ∨ (3 : Int) = 3 := by decide
  have hac := hS.2.2.2.2
  refine n_aload_n c_66_0 rfl (n_aload_n c_66_1 rfl (n_v1I c_66_2 rfl hw.c0.1.n rfl rfl rfl rfl (hasAllRows_3 (q := w) hS hw) ?_))
  intro z1 M2 hP3
  obtain ⟨eM, f3⟩ := hP3
  subst eM
  refine n_if0_eq c_66_5 (by omega) ?_ ?_
  · intro h4
    refine n_aload_n c_66_9 rfl (n_aload_n c_66_10 rfl (n_getV (bi := 0) c_66_11 sc_44.n rfl rfl rfl (t_44_0 hS) ?_))
    intro z5 ez5 f6
    refine n_iconst c_66_14 (n_v2I c_66_15 rfl hw.c0.1.n rfl rfl rfl rfl (tried_3 (q := w) (a := z5) (n := 3) hS hw (by omega) (by omega)) ?_)
    intro z7 M8 hP9
    obtain ⟨eM, f9⟩ := hP9
    subst eM
    refine n_istore (L2 := [some (2, 38), some (2, 44), some (2, w), some (2, 4), some (0, z7), none, none, none, none, none, none, none]) c_66_18 rfl rfl (n_aload_n c_66_20 rfl (n_aload_n c_66_21 rfl (n_getV (bi := 0) c_66_22 sc_44.n rfl rfl rfl (t_44_0 hS) ?_)))
    intro z10 ez10 f11
    refine n_iconst c_66_25 (n_v2I c_66_26 rfl hw.c0.1.n rfl rfl rfl rfl (tried_3 (q := w) (a := z10) (n := 2) hS hw (by omega) (by omega)) ?_)
    intro z12 M13 hP14
    obtain ⟨eM, f14⟩ := hP14
    subst eM
    refine n_istore (L2 := [some (2, 38), some (2, 44), some (2, w), some (2, 4), some (0, z7), some (0, z12), none, none, none, none, none, none]) c_66_29 rfl rfl (n_iconst c_66_31 (n_istore (L2 := [some (2, 38), some (2, 44), some (2, w), some (2, 4), some (0, z7), some (0, z12), some (0, 0), none, none, none, none, none]) c_66_32 rfl rfl (n_fg (le_s (le_s (le_s (le_s (le_s (le_s (le_s (le_n (le_n (le_n (le_n (le_n le_0)))))))))))) ?_)))
    exact (restrain_3_c hS hw 50528).1 _ _ _ M hS (by omega) (by omega) (by omega) (by omega)
  · intro h15
    exact n_rV c_66_8 rfl hS

/-! The methods, by program. -/
set_option maxHeartbeats 4000000 in
theorem isUnknown_3_c {xs : List Int32} {e : Nat} {ac : Int} {M0 M : nM} {u : Int} (hS : Sf 3 ac M0 M) (hu : -2147483648 ≤ u ∧ u ≤ 2147483647) : ∀ nn : Nat, (1 < (nn : Int) → nW xs e 75 16 [none, none] [] M (nPI fun z M1 => M = M1 ∧ (0 ≤ z ∧ z ≤ 1) ∧ (z = 0 ∨ (0 ≤ u ∧ u ≤ 7)))) := by
  have hd : (3 : Int) = 2 ∨ (3 : Int) = 3 := by decide
  have hac := hS.2.2.2.2
  intro nn
  induction nn with
  | zero => intros; omega
  | succ nn ih =>
    intro hnn
    refine n_iconst c_75_16 ?_
    exact n_rZ c_75_17 rfl (by omega) ⟨rfl, by omega, by omega⟩
set_option maxHeartbeats 4000000 in
theorem isUnknown_3 {xs : List Int32} {e : Nat} {ac : Int} {M0 M : nM} {u : Int} (hS : Sf 3 ac M0 M) (hu : -2147483648 ≤ u ∧ u ≤ 2147483647) : nW xs e 75 0 [some (2, 32), some (0, u)] [] M (nPI fun z M1 => M = M1 ∧ (0 ≤ z ∧ z ≤ 1) ∧ (z = 0 ∨ (0 ≤ u ∧ u ≤ 7))) := by
  have hd : (3 : Int) = 2 ∨ (3 : Int) = 3 := by decide
  have hac := hS.2.2.2.2
  refine n_iload_n c_75_0 rfl ?_
  refine n_if0_lt c_75_1 (by omega) ?_ ?_
  · intro h1
    refine n_fg (le_n (le_n le_0)) ?_
    exact (isUnknown_3_c hS hu 12)   (by omega)
  · intro h2
    refine n_iload_n c_75_4 rfl (n_aload_n c_75_5 rfl (n_getV (bi := 0) c_75_6 sc_32.n rfl rfl rfl (t_32_0 hS) ?_))
    intro z3 ez3 f4
    refine n_if2_ge c_75_9 (by omega) (by omega) ?_ ?_
    · intro h5
      refine n_fg (le_n (le_n le_0)) ?_
      exact (isUnknown_3_c hS hu 12)   (by omega)
    · intro h6
      refine n_iconst c_75_12 (n_goto c_75_13 ?_)
      exact n_rZ c_75_17 rfl (by omega) ⟨rfl, by omega, by omega⟩

set_option maxHeartbeats 4000000 in
theorem lawMask_3_c {xs : List Int32} {e : Nat} {ac : Int} {M0 M : nM} (hS : Sf 3 ac M0 M)  : ∀ nn : Nat, (∀ (x1 x2 : Int), (0 ≤ x1 ∧ x1 ≤ 4095) → (0 ≤ x2 ∧ x2 ≤ 30) → (30 - x2) * 1 + 1 < (nn : Int) → nW xs e 77 4 [some (2, 32), some (0, x1), some (0, x2)] [] M (nPI fun z M1 => M = M1 ∧ (-2147483648 ≤ z ∧ z ≤ 2147483647))) := by
  have hd : (3 : Int) = 2 ∨ (3 : Int) = 3 := by decide
  have hac := hS.2.2.2.2
  intro nn
  induction nn with
  | zero => intros; omega
  | succ nn ih =>
    intro x1 x2 k1 k2 hnn
    refine n_iload_n c_77_4 rfl (n_aload_n c_77_5 rfl (n_getV (bi := 1) c_77_6 sc_32.n rfl rfl rfl (t_32_1 hS) ?_))
    intro z1 ez1 f2
    refine n_if2_ge c_77_9 (by omega) (by omega) ?_ ?_
    · intro h3
      refine n_iload_n c_77_29 rfl ?_
      exact n_rI c_77_30 rfl ⟨rfl, by omega⟩
    · intro h4
      refine n_iload_n c_77_12 rfl (n_iconst c_77_13 (n_aload_n c_77_14 rfl (n_getR c_77_15 sc_32.n rfl rfl rfl r_32_2 (n_iload_n c_77_18 rfl (n_ialoadV c_77_19 sc_33.n rfl rfl rfl (by omega) (t_33 hS (by omega)) ?_)))))
      intro z5 ez5 f6
      refine n_i_ishl c_77_20 rfl ?_
      have f7 := n_shl_1 (y := z5) (a := 0) (b := 11) (by decide) (by omega)
      generalize (n_shl 1 z5) = z8 at f7 ⊢
      refine n_i_ior c_77_21 rfl ?_
      have f9 := n_or_k (x := x1) (y := z8) (n := 12) (by decide) (by omega) (by omega)
      generalize (n_or x1 z8) = z10 at f9 ⊢
      refine n_istore_n (L2 := [some (2, 32), some (0, z10), some (0, x2)]) c_77_22 rfl rfl (n_iinc (L2 := [some (2, 32), some (0, z10), some (0, (x2 + 1))]) c_77_23 rfl rfl rfl (n_goto c_77_26 (n_fg (le_s (le_s (le_s le_0))) ?_)))
      exact ih _ _ (by omega) (by omega) (by omega)
set_option maxHeartbeats 4000000 in
theorem lawMask_3 {xs : List Int32} {e : Nat} {ac : Int} {M0 M : nM} (hS : Sf 3 ac M0 M)  : nW xs e 77 0 [some (2, 32), none, none] [] M (nPI fun z M1 => M = M1 ∧ (-2147483648 ≤ z ∧ z ≤ 2147483647)) := by
  have hd : (3 : Int) = 2 ∨ (3 : Int) = 3 := by decide
  have hac := hS.2.2.2.2
  refine n_iconst c_77_0 (n_istore_n (L2 := [some (2, 32), some (0, 0), none]) c_77_1 rfl rfl (n_iconst c_77_2 (n_istore_n (L2 := [some (2, 32), some (0, 0), some (0, 0)]) c_77_3 rfl rfl (n_fg (le_s (le_s (le_s le_0))) ?_))))
  exact (lawMask_3_c hS  74) _ _ (by omega) (by omega) (by omega)

set_option maxHeartbeats 4000000 in
theorem canHave_3 {xs : List Int32} {e : Nat} {ac : Int} {M0 M : nM} {u t : Int} (hS : Sf 3 ac M0 M) (hu : 0 ≤ u ∧ u ≤ 7) (ht : -2147483648 ≤ t ∧ t ≤ 2147483647) : nW xs e 81 0 [some (2, 32), some (0, u), some (0, t)] [] M (nPI fun z M1 => M = M1 ∧ (0 ≤ z ∧ z ≤ 1)) := by
  have hd : (3 : Int) = 2 ∨ (3 : Int) = 3 := by decide
  have hac := hS.2.2.2.2
  refine n_aload_n c_81_0 rfl (n_getR c_81_1 sc_32.n rfl rfl rfl r_32_6 (n_iload_n c_81_4 rfl (n_ialoadV c_81_5 sc_37.n rfl rfl rfl (by omega) (t_37 hS (by omega)) ?_)))
  intro z1 ez1 f2
  refine n_iload_n c_81_6 rfl (n_i_ishr c_81_7 rfl ?_)
  have f3 := n_shr_r z1 t
  generalize (n_shr z1 t) = z4 at f3 ⊢
  refine n_iconst c_81_8 (n_i_iand c_81_9 rfl ?_)
  have f5 := n_and_y (x := z4) (y := 1) (by omega)
  generalize (n_and z4 1) = z6 at f5 ⊢
  refine n_if0_eq c_81_10 (by omega) ?_ ?_
  · intro h7
    refine n_iconst c_81_17 ?_
    exact n_rZ c_81_18 rfl (by omega) ⟨rfl, by omega⟩
  · intro h8
    refine n_iconst c_81_13 (n_goto c_81_14 ?_)
    exact n_rZ c_81_18 rfl (by omega) ⟨rfl, by omega⟩

set_option maxHeartbeats 4000000 in
theorem leave_3 {xs : List Int32} {e : Nat} {ac : Int} {M0 M : nM} {u t : Int} (hS : Sf 3 ac M0 M) (hu : 0 ≤ u ∧ u ≤ 7) (ht : -2147483648 ≤ t ∧ t ≤ 2147483647) : nW xs e 82 0 [some (2, 32), some (0, u), some (0, t), none] [] M (nPI fun z M1 => Sf 3 ac M0 M1 ∧ (0 ≤ z ∧ z ≤ 1)) := by
  have hd : (3 : Int) = 2 ∨ (3 : Int) = 3 := by decide
  have hac := hS.2.2.2.2
  refine n_aload_n c_82_0 rfl (n_getR c_82_1 sc_32.n rfl rfl rfl r_32_6 (n_iload_n c_82_4 rfl (n_ialoadV c_82_5 sc_37.n rfl rfl rfl (by omega) (t_37 hS (by omega)) ?_)))
  intro z1 ez1 f2
  refine n_istore_n (L2 := [some (2, 32), some (0, u), some (0, t), some (0, z1)]) c_82_6 rfl rfl (n_aload_n c_82_7 rfl (n_getR c_82_8 sc_32.n rfl rfl rfl r_32_6 (n_iload_n c_82_11 rfl (n_iload_n c_82_12 rfl (n_iload_n c_82_13 rfl (n_i_iand c_82_14 rfl ?_))))))
  have f3 := n_and_r z1 t
  generalize (n_and z1 t) = z4 at f3 ⊢
  refine n_iastoreV hS c_82_15 sc_37.n rfl (by omega) (w_37 (by omega) (by omega)) ?_
  intro M5 eM5 hS5
  refine n_aload_n c_82_16 rfl (n_getR c_82_17 sc_32.n rfl rfl rfl r_32_6 (n_iload_n c_82_20 rfl (n_ialoadV c_82_21 sc_37.n rfl rfl rfl (by omega) (t_37 hS5 (by omega)) ?_)))
  intro z6 ez6 f7
  refine n_iload_n c_82_22 rfl ?_
  refine n_if2_eq c_82_23 (by omega) (by omega) ?_ ?_
  · intro h8
    refine n_iconst c_82_30 ?_
    exact n_rZ c_82_31 rfl (by omega) ⟨hS5, by omega⟩
  · intro h9
    refine n_iconst c_82_26 (n_goto c_82_27 ?_)
    exact n_rZ c_82_31 rfl (by omega) ⟨hS5, by omega⟩

set_option maxHeartbeats 4000000 in
theorem isOpen_3_c {xs : List Int32} {e : Nat} {ac : Int} {M0 M : nM} {i a b c : Int} (hS : Sf 3 ac M0 M) (hi : 0 ≤ i ∧ i ≤ 29) (ha : -2147483648 ≤ a ∧ a ≤ 2147483647) (hb : -2147483648 ≤ b ∧ b ≤ 2147483647) (hc : -2147483648 ≤ c ∧ c ≤ 2147483647) : ∀ nn : Nat, (5 < (nn : Int) → nW xs (e + 1) 80 43 [none, none, none, none, none] [] M (nPI fun z M1 => M = M1 ∧ (0 ≤ z ∧ z ≤ 1))) ∧ (4 < (nn : Int) → nW xs (e + 1) 80 65 [some (2, 32), some (0, i), some (0, a), some (0, b), some (0, c)] [] M (nPI fun z M1 => M = M1 ∧ (0 ≤ z ∧ z ≤ 1))) ∧ (3 < (nn : Int) → nW xs (e + 1) 80 86 [some (2, 32), some (0, i), some (0, a), none, some (0, c)] [] M (nPI fun z M1 => M = M1 ∧ (0 ≤ z ∧ z ≤ 1))) ∧ (2 < (nn : Int) → nW xs (e + 1) 80 107 [none, none, none, none, none] [] M (nPI fun z M1 => M = M1 ∧ (0 ≤ z ∧ z ≤ 1))) ∧ (1 < (nn : Int) → nW xs (e + 1) 80 111 [none, none, none, none, none] [] M (nPI fun z M1 => M = M1 ∧ (0 ≤ z ∧ z ≤ 1))) := by
  have hd : (3 : Int) = 2 ∨ (3 : Int) = 3 := by decide
  have hac := hS.2.2.2.2
  intro nn
  induction nn with
  | zero => refine ⟨?_, ?_, ?_, ?_, ?_⟩ <;> (intros; omega)
  | succ nn ih =>
    refine ⟨?_, ?_, ?_, ?_, ?_⟩
    · intro hnn
      refine n_iconst c_80_43 ?_
      exact n_rZ c_80_44 rfl (by omega) ⟨rfl, by omega⟩
    · intro hnn
      refine n_aload_n c_80_65 rfl (n_getR c_80_66 sc_32.n rfl rfl rfl r_32_4 (n_iload_n c_80_69 rfl (n_ialoadV c_80_70 sc_35.n rfl rfl rfl (by omega) (t_35 hS (by omega)) ?_)))
      intro z1 ez1 f2
      refine n_aload_n c_80_71 rfl (n_getR c_80_72 sc_32.n rfl rfl rfl r_32_5 (n_iload_n c_80_75 rfl (n_ialoadV c_80_76 sc_36.n rfl rfl rfl (by omega) (t_36 hS (by omega)) ?_)))
      intro z3 ez3 f4
      refine n_if2_ne c_80_77 (by omega) (by omega) ?_ ?_
      · intro h5
        refine n_fg (le_s (le_s (le_s (le_n (le_s le_0))))) ?_
        exact ih.2.2.1   (by omega)
      · intro h6
        refine n_iload_n c_80_80 rfl (n_iload c_80_81 rfl ?_)
        refine n_if2_ne c_80_83 (by omega) (by omega) ?_ ?_
        · intro h7
          refine n_fg (le_n (le_n (le_n (le_n (le_n le_0))))) ?_
          exact ih.2.2.2.2   (by omega)
        · intro h8
          refine n_fg (le_s (le_s (le_s (le_n (le_s le_0))))) ?_
          exact ih.2.2.1   (by omega)
    · intro hnn
      refine n_aload_n c_80_86 rfl (n_getR c_80_87 sc_32.n rfl rfl rfl r_32_3 (n_iload_n c_80_90 rfl (n_ialoadV c_80_91 sc_34.n rfl rfl rfl (by omega) (t_34 hS (by omega)) ?_)))
      intro z1 ez1 f2
      refine n_aload_n c_80_92 rfl (n_getR c_80_93 sc_32.n rfl rfl rfl r_32_5 (n_iload_n c_80_96 rfl (n_ialoadV c_80_97 sc_36.n rfl rfl rfl (by omega) (t_36 hS (by omega)) ?_)))
      intro z3 ez3 f4
      refine n_if2_ne c_80_98 (by omega) (by omega) ?_ ?_
      · intro h5
        refine n_fg (le_n (le_n (le_n (le_n (le_n le_0))))) ?_
        exact ih.2.2.2.1   (by omega)
      · intro h6
        refine n_iload_n c_80_101 rfl (n_iload c_80_102 rfl ?_)
        refine n_if2_ne c_80_104 (by omega) (by omega) ?_ ?_
        · intro h7
          refine n_fg (le_n (le_n (le_n (le_n (le_n le_0))))) ?_
          exact ih.2.2.2.2   (by omega)
        · intro h8
          refine n_fg (le_n (le_n (le_n (le_n (le_n le_0))))) ?_
          exact ih.2.2.2.1   (by omega)
    · intro hnn
      refine n_iconst c_80_107 (n_goto c_80_108 ?_)
      exact n_rZ c_80_112 rfl (by omega) ⟨rfl, by omega⟩
    · intro hnn
      refine n_iconst c_80_111 ?_
      exact n_rZ c_80_112 rfl (by omega) ⟨rfl, by omega⟩
set_option maxHeartbeats 4000000 in
theorem isOpen_3 {xs : List Int32} {e : Nat} {ac : Int} {M0 M : nM} {i a b c : Int} (hS : Sf 3 ac M0 M) (hi : 0 ≤ i ∧ i ≤ 29) (ha : -2147483648 ≤ a ∧ a ≤ 2147483647) (hb : -2147483648 ≤ b ∧ b ≤ 2147483647) (hc : -2147483648 ≤ c ∧ c ≤ 2147483647) : nW xs (e + 1) 80 0 [some (2, 32), some (0, i), some (0, a), some (0, b), some (0, c)] [] M (nPI fun z M1 => M = M1 ∧ (0 ≤ z ∧ z ≤ 1)) := by
  have hd : (3 : Int) = 2 ∨ (3 : Int) = 3 := by decide
  have hac := hS.2.2.2.2
  refine n_aload_n c_80_0 rfl (n_aload_n c_80_1 rfl (n_getR c_80_2 sc_32.n rfl rfl rfl r_32_3 (n_iload_n c_80_5 rfl (n_ialoadV c_80_6 sc_34.n rfl rfl rfl (by omega) (t_34 hS (by omega)) ?_))))
  intro z1 ez1 f2
  refine n_iload_n c_80_7 rfl (n_v2I c_80_8 rfl sc_32.n rfl rfl rfl rfl (canHave_3 (u := z1) (t := a) hS (by omega) (by omega)) ?_)
  intro z3 M4 hP5
  obtain ⟨eM, f5⟩ := hP5
  subst eM
  refine n_if0_eq c_80_11 (by omega) ?_ ?_
  · intro h6
    refine n_fg (le_n (le_n (le_n (le_n (le_n le_0))))) ?_
    exact (isOpen_3_c hS hi ha hb hc 20).1   (by omega)
  · intro h7
    refine n_aload_n c_80_14 rfl (n_aload_n c_80_15 rfl (n_getR c_80_16 sc_32.n rfl rfl rfl r_32_4 (n_iload_n c_80_19 rfl (n_ialoadV c_80_20 sc_35.n rfl rfl rfl (by omega) (t_35 hS (by omega)) ?_))))
    intro z8 ez8 f9
    refine n_iload_n c_80_21 rfl (n_v2I c_80_22 rfl sc_32.n rfl rfl rfl rfl (canHave_3 (u := z8) (t := b) hS (by omega) (by omega)) ?_)
    intro z10 M11 hP12
    obtain ⟨eM, f12⟩ := hP12
    subst eM
    refine n_if0_eq c_80_25 (by omega) ?_ ?_
    · intro h13
      refine n_fg (le_n (le_n (le_n (le_n (le_n le_0))))) ?_
      exact (isOpen_3_c hS hi ha hb hc 20).1   (by omega)
    · intro h14
      refine n_aload_n c_80_28 rfl (n_aload_n c_80_29 rfl (n_getR c_80_30 sc_32.n rfl rfl rfl r_32_5 (n_iload_n c_80_33 rfl (n_ialoadV c_80_34 sc_36.n rfl rfl rfl (by omega) (t_36 hS (by omega)) ?_))))
      intro z15 ez15 f16
      refine n_iload c_80_35 rfl (n_v2I c_80_37 rfl sc_32.n rfl rfl rfl rfl (canHave_3 (u := z15) (t := c) hS (by omega) (by omega)) ?_)
      intro z17 M18 hP19
      obtain ⟨eM, f19⟩ := hP19
      subst eM
      refine n_if0_ne c_80_40 (by omega) ?_ ?_
      · intro h20
        refine n_aload_n c_80_45 rfl (n_getR c_80_46 sc_32.n rfl rfl rfl r_32_3 (n_iload_n c_80_49 rfl (n_ialoadV c_80_50 sc_34.n rfl rfl rfl (by omega) (t_34 hS (by omega)) ?_)))
        intro z21 ez21 f22
        refine n_aload_n c_80_51 rfl (n_getR c_80_52 sc_32.n rfl rfl rfl r_32_4 (n_iload_n c_80_55 rfl (n_ialoadV c_80_56 sc_35.n rfl rfl rfl (by omega) (t_35 hS (by omega)) ?_)))
        intro z23 ez23 f24
        refine n_if2_ne c_80_57 (by omega) (by omega) ?_ ?_
        · intro h25
          refine n_fg (le_s (le_s (le_s (le_s (le_s le_0))))) ?_
          exact (isOpen_3_c hS hi ha hb hc 20).2.1   (by omega)
        · intro h26
          refine n_iload_n c_80_60 rfl (n_iload_n c_80_61 rfl ?_)
          refine n_if2_ne c_80_62 (by omega) (by omega) ?_ ?_
          · intro h27
            refine n_fg (le_n (le_n (le_n (le_n (le_n le_0))))) ?_
            exact (isOpen_3_c hS hi ha hb hc 20).2.2.2.2   (by omega)
          · intro h28
            refine n_fg (le_s (le_s (le_s (le_s (le_s le_0))))) ?_
            exact (isOpen_3_c hS hi ha hb hc 20).2.1   (by omega)
      · intro h29
        refine n_fg (le_n (le_n (le_n (le_n (le_n le_0))))) ?_
        exact (isOpen_3_c hS hi ha hb hc 20).1   (by omega)

set_option maxHeartbeats 4000000 in
theorem narrowBy_3_c {xs : List Int32} {e : Nat} {ac : Int} {M0 M : nM} {w i : Int} (hS : Sf 3 ac M0 M) (hw : LawAt w) (hi : 0 ≤ i ∧ i ≤ 29) : ∀ nn : Nat, (∀ (x4 x5 x6 x7 : Int) (M : nM), Sf 3 ac M0 M → (0 ≤ x4 ∧ x4 ≤ 7) → (0 ≤ x5 ∧ x5 ≤ 7) → (0 ≤ x6 ∧ x6 ≤ 7) → (0 ≤ x7 ∧ x7 ≤ 27) → (27 - x7) * 2 + 2 < (nn : Int) → nW xs (e + 2) 79 12 [some (2, 32), some (0, i), some (2, w), some (2, 4), some (0, x4), some (0, x5), some (0, x6), some (0, x7), none, none, none] [] M (nPI fun z M1 => Sf 3 ac M0 M1 ∧ (0 ≤ z ∧ z ≤ 1))) ∧ (∀ (x4 x5 x6 x7 : Int) (M : nM), Sf 3 ac M0 M → (0 ≤ x4 ∧ x4 ≤ 7) → (0 ≤ x5 ∧ x5 ≤ 7) → (0 ≤ x6 ∧ x6 ≤ 7) → (0 ≤ x7 ∧ x7 ≤ 26) → (27 - x7) * 2 + 1 < (nn : Int) → nW xs (e + 2) 79 104 [some (2, 32), some (0, i), some (2, w), some (2, 4), some (0, x4), some (0, x5), some (0, x6), some (0, x7), none, none, none] [] M (nPI fun z M1 => Sf 3 ac M0 M1 ∧ (0 ≤ z ∧ z ≤ 1))) := by
  have hd : (3 : Int) = 2 ∨ (3 : Int) = 3 := by decide
  have hac := hS.2.2.2.2
  intro nn
  induction nn with
  | zero => refine ⟨?_, ?_⟩ <;> (intros; omega)
  | succ nn ih =>
    refine ⟨?_, ?_⟩
    · intro x4 x5 x6 x7 M hS k4 k5 k6 k7 hnn
      refine n_iload c_79_12 rfl (n_aload_n c_79_14 rfl (n_getV (bi := 3) c_79_15 hw.c0.1.n rfl rfl rfl (t_law hS hw).2.2.2 ?_))
      intro z1 ez1 f2
      refine n_if2_ge c_79_18 (by omega) (by omega) ?_ ?_
      · intro h3
        refine n_aload_n c_79_110 rfl (n_aload_n c_79_111 rfl (n_getR c_79_112 sc_32.n rfl rfl rfl r_32_3 (n_iload_n c_79_115 rfl (n_ialoadV c_79_116 sc_34.n rfl rfl rfl (by omega) (t_34 hS (by omega)) ?_))))
        intro z4 ez4 f5
        refine n_iload c_79_117 rfl (n_v2I c_79_119 rfl sc_32.n rfl rfl rfl rfl (leave_3 (u := z4) (t := x4) hS (by omega) (by omega)) ?_)
        intro z6 M7 hP8
        obtain ⟨hS7, f8⟩ := hP8
        refine n_istore (L2 := [some (2, 32), some (0, i), some (2, w), some (2, 4), some (0, x4), some (0, x5), some (0, x6), some (0, z6), none, none, none]) c_79_122 rfl rfl (n_iload c_79_124 rfl (n_aload_n c_79_126 rfl (n_aload_n c_79_127 rfl (n_getR c_79_128 sc_32.n rfl rfl rfl r_32_4 (n_iload_n c_79_131 rfl (n_ialoadV c_79_132 sc_35.n rfl rfl rfl (by omega) (t_35 hS7 (by omega)) ?_))))))
        intro z9 ez9 f10
        refine n_iload c_79_133 rfl (n_v2I c_79_135 rfl sc_32.n rfl rfl rfl rfl (leave_3 (u := z9) (t := x5) hS7 (by omega) (by omega)) ?_)
        intro z11 M12 hP13
        obtain ⟨hS12, f13⟩ := hP13
        refine n_i_ior c_79_138 rfl ?_
        have f14 := n_or_1 (x := z6) (y := z11) (by omega) (by omega)
        generalize (n_or z6 z11) = z15 at f14 ⊢
        refine n_istore (L2 := [some (2, 32), some (0, i), some (2, w), some (2, 4), some (0, x4), some (0, x5), some (0, x6), some (0, z15), none, none, none]) c_79_139 rfl rfl (n_iload c_79_141 rfl (n_aload_n c_79_143 rfl (n_aload_n c_79_144 rfl (n_getR c_79_145 sc_32.n rfl rfl rfl r_32_5 (n_iload_n c_79_148 rfl (n_ialoadV c_79_149 sc_36.n rfl rfl rfl (by omega) (t_36 hS12 (by omega)) ?_))))))
        intro z16 ez16 f17
        refine n_iload c_79_150 rfl (n_v2I c_79_152 rfl sc_32.n rfl rfl rfl rfl (leave_3 (u := z16) (t := x6) hS12 (by omega) (by omega)) ?_)
        intro z18 M19 hP20
        obtain ⟨hS19, f20⟩ := hP20
        refine n_i_ior c_79_155 rfl ?_
        have f21 := n_or_1 (x := z15) (y := z18) (by omega) (by omega)
        generalize (n_or z15 z18) = z22 at f21 ⊢
        refine n_istore (L2 := [some (2, 32), some (0, i), some (2, w), some (2, 4), some (0, x4), some (0, x5), some (0, x6), some (0, z22), none, none, none]) c_79_156 rfl rfl (n_iload c_79_158 rfl ?_)
        exact n_rZ c_79_160 rfl (by omega) ⟨hS19, by omega⟩
      · intro h23
        refine n_aload_n c_79_21 rfl (n_getR c_79_22 sc_4.n rfl rfl rfl r_4_2 (n_aload_n c_79_25 rfl (n_getR c_79_26 hw.c0.1.n rfl rfl rfl hw.r (n_iload c_79_29 rfl (n_ialoadV c_79_31 hw.c0.2.n rfl rfl rfl (by omega) (t_lawr hS hw (by omega)) ?_)))))
        intro z24 ez24 f25
        refine n_ialoadV c_79_32 sc_5.n rfl rfl rfl (by omega) (t_5d hS hd (by omega) (by omega)) ?_
        intro z26 ez26 f27
        refine n_istore (L2 := [some (2, 32), some (0, i), some (2, w), some (2, 4), some (0, x4), some (0, x5), some (0, x6), some (0, x7), some (0, z26), none, none]) c_79_33 rfl rfl (n_aload_n c_79_35 rfl (n_getR c_79_36 sc_4.n rfl rfl rfl r_4_3 (n_aload_n c_79_39 rfl (n_getR c_79_40 hw.c0.1.n rfl rfl rfl hw.r (n_iload c_79_43 rfl (n_ialoadV c_79_45 hw.c0.2.n rfl rfl rfl (by omega) (t_lawr hS hw (by omega)) ?_))))))
        intro z28 ez28 f29
        refine n_ialoadV c_79_46 sc_6.n rfl rfl rfl (by omega) (t_6d hS hd (by omega) (by omega)) ?_
        intro z30 ez30 f31
        refine n_istore (L2 := [some (2, 32), some (0, i), some (2, w), some (2, 4), some (0, x4), some (0, x5), some (0, x6), some (0, x7), some (0, z26), some (0, z30), none]) c_79_47 rfl rfl (n_aload_n c_79_49 rfl (n_getR c_79_50 sc_4.n rfl rfl rfl r_4_4 (n_aload_n c_79_53 rfl (n_getR c_79_54 hw.c0.1.n rfl rfl rfl hw.r (n_iload c_79_57 rfl (n_ialoadV c_79_59 hw.c0.2.n rfl rfl rfl (by omega) (t_lawr hS hw (by omega)) ?_))))))
        intro z32 ez32 f33
        refine n_ialoadV c_79_60 sc_7.n rfl rfl rfl (by omega) (t_7d hS hd (by omega) (by omega)) ?_
        intro z34 ez34 f35
        refine n_istore (L2 := [some (2, 32), some (0, i), some (2, w), some (2, 4), some (0, x4), some (0, x5), some (0, x6), some (0, x7), some (0, z26), some (0, z30), some (0, z34)]) c_79_61 rfl rfl (n_aload_n c_79_63 rfl (n_iload_n c_79_64 rfl (n_iload c_79_65 rfl (n_iload c_79_67 rfl (n_iload c_79_69 rfl (n_v4I c_79_71 rfl sc_32.n rfl rfl rfl rfl (isOpen_3 (i := i) (a := z26) (b := z30) (c := z34) hS (by omega) (by omega) (by omega) (by omega)) ?_))))))
        intro z36 M37 hP38
        obtain ⟨eM, f38⟩ := hP38
        subst eM
        refine n_if0_eq c_79_74 (by omega) ?_ ?_
        · intro h39
          refine n_fg (le_s (le_s (le_s (le_s (le_s (le_s (le_s (le_s (le_n (le_n (le_n le_0))))))))))) ?_
          exact ih.2 _ _ _ _ M hS (by omega) (by omega) (by omega) (by omega) (by omega)
        · intro h40
          refine n_iload c_79_77 rfl (n_iconst c_79_79 (n_iload c_79_80 rfl (n_i_ishl c_79_82 rfl ?_)))
          have f41 := n_shl_1 (y := z26) (a := 0) (b := 2) (by decide) (by omega)
          generalize (n_shl 1 z26) = z42 at f41 ⊢
          refine n_i_ior c_79_83 rfl ?_
          have f43 := n_or_k (x := x4) (y := z42) (n := 3) (by decide) (by omega) (by omega)
          generalize (n_or x4 z42) = z44 at f43 ⊢
          refine n_istore (L2 := [some (2, 32), some (0, i), some (2, w), some (2, 4), some (0, z44), some (0, x5), some (0, x6), some (0, x7), some (0, z26), some (0, z30), some (0, z34)]) c_79_84 rfl rfl (n_iload c_79_86 rfl (n_iconst c_79_88 (n_iload c_79_89 rfl (n_i_ishl c_79_91 rfl ?_))))
          have f45 := n_shl_1 (y := z30) (a := 0) (b := 2) (by decide) (by omega)
          generalize (n_shl 1 z30) = z46 at f45 ⊢
          refine n_i_ior c_79_92 rfl ?_
          have f47 := n_or_k (x := x5) (y := z46) (n := 3) (by decide) (by omega) (by omega)
          generalize (n_or x5 z46) = z48 at f47 ⊢
          refine n_istore (L2 := [some (2, 32), some (0, i), some (2, w), some (2, 4), some (0, z44), some (0, z48), some (0, x6), some (0, x7), some (0, z26), some (0, z30), some (0, z34)]) c_79_93 rfl rfl (n_iload c_79_95 rfl (n_iconst c_79_97 (n_iload c_79_98 rfl (n_i_ishl c_79_100 rfl ?_))))
          have f49 := n_shl_1 (y := z34) (a := 0) (b := 2) (by decide) (by omega)
          generalize (n_shl 1 z34) = z50 at f49 ⊢
          refine n_i_ior c_79_101 rfl ?_
          have f51 := n_or_k (x := x6) (y := z50) (n := 3) (by decide) (by omega) (by omega)
          generalize (n_or x6 z50) = z52 at f51 ⊢
          refine n_istore (L2 := [some (2, 32), some (0, i), some (2, w), some (2, 4), some (0, z44), some (0, z48), some (0, z52), some (0, x7), some (0, z26), some (0, z30), some (0, z34)]) c_79_102 rfl rfl (n_fg (le_s (le_s (le_s (le_s (le_s (le_s (le_s (le_s (le_n (le_n (le_n le_0))))))))))) ?_)
          exact ih.2 _ _ _ _ M hS (by omega) (by omega) (by omega) (by omega) (by omega)
    · intro x4 x5 x6 x7 M hS k4 k5 k6 k7 hnn
      refine n_iinc (L2 := [some (2, 32), some (0, i), some (2, w), some (2, 4), some (0, x4), some (0, x5), some (0, x6), some (0, (x7 + 1)), none, none, none]) c_79_104 rfl rfl rfl (n_goto c_79_107 (n_fg (le_s (le_s (le_s (le_s (le_s (le_s (le_s (le_s (le_n (le_n (le_n le_0))))))))))) ?_))
      exact ih.1 _ _ _ _ M hS (by omega) (by omega) (by omega) (by omega) (by omega)
set_option maxHeartbeats 4000000 in
theorem narrowBy_3 {xs : List Int32} {e : Nat} {ac : Int} {M0 M : nM} {w i : Int} (hS : Sf 3 ac M0 M) (hw : LawAt w) (hi : 0 ≤ i ∧ i ≤ 29) : nW xs (e + 2) 79 0 [some (2, 32), some (0, i), some (2, w), some (2, 4), none, none, none, none, none, none, none] [] M (nPI fun z M1 => Sf 3 ac M0 M1 ∧ (0 ≤ z ∧ z ≤ 1)) := by
  have hd : (3 : Int) = 2 ∨ (3 : Int) = 3 := by decide
  have hac := hS.2.2.2.2
  refine n_iconst c_79_0 (n_istore (L2 := [some (2, 32), some (0, i), some (2, w), some (2, 4), some (0, 0), none, none, none, none, none, none]) c_79_1 rfl rfl (n_iconst c_79_3 (n_istore (L2 := [some (2, 32), some (0, i), some (2, w), some (2, 4), some (0, 0), some (0, 0), none, none, none, none, none]) c_79_4 rfl rfl (n_iconst c_79_6 (n_istore (L2 := [some (2, 32), some (0, i), some (2, w), some (2, 4), some (0, 0), some (0, 0), some (0, 0), none, none, none, none]) c_79_7 rfl rfl (n_iconst c_79_9 (n_istore (L2 := [some (2, 32), some (0, i), some (2, w), some (2, 4), some (0, 0), some (0, 0), some (0, 0), some (0, 0), none, none, none]) c_79_10 rfl rfl (n_fg (le_s (le_s (le_s (le_s (le_s (le_s (le_s (le_s (le_n (le_n (le_n le_0))))))))))) ?_))))))))
  exact (narrowBy_3_c hS hw hi 126).1 _ _ _ _ M hS (by omega) (by omega) (by omega) (by omega) (by omega)

set_option maxHeartbeats 4000000 in
theorem narrow_3_c {xs : List Int32} {e : Nat} {ac : Int} {M0 M : nM} (hS : Sf 3 ac M0 M)  : ∀ nn : Nat, (∀ (x3 x4 : Int) (M : nM), Sf 3 ac M0 M → (0 ≤ x3 ∧ x3 ≤ 1) → (0 ≤ x4 ∧ x4 ≤ 27) → (27 - x4) * 33 + 34 < (nn : Int) → nW xs (e + 3) 78 16 [some (2, 32), some (2, 13), some (2, 4), some (0, x3), some (0, x4), none] [] M (nPV fun M1 => Sf 3 ac M0 M1)) ∧ (∀ (x3 x4 x5 : Int) (M : nM), Sf 3 ac M0 M → (0 ≤ x3 ∧ x3 ≤ 1) → (0 ≤ x4 ∧ x4 ≤ 26) → (0 ≤ x5 ∧ x5 ≤ 30) → (27 - x4) * 33 + (30 - x5) * 1 + 2 < (nn : Int) → nW xs (e + 3) 78 32 [some (2, 32), some (2, 13), some (2, 4), some (0, x3), some (0, x4), some (0, x5)] [] M (nPV fun M1 => Sf 3 ac M0 M1)) ∧ (∀ (M : nM), Sf 3 ac M0 M → 1 < (nn : Int) → nW xs (e + 3) 78 72 [none, none, none, none, none, none] [] M (nPV fun M1 => Sf 3 ac M0 M1)) := by
  have hd : (3 : Int) = 2 ∨ (3 : Int) = 3 := by decide
  have hac := hS.2.2.2.2
  intro nn
  induction nn with
  | zero => refine ⟨?_, ?_, ?_⟩ <;> (intros; omega)
  | succ nn ih =>
    refine ⟨?_, ?_, ?_⟩
    · intro x3 x4 M hS k3 k4 hnn
      refine n_iload c_78_16 rfl (n_bipush c_78_18 rfl ?_)
      refine n_if2_ge c_78_20 (by omega) (by omega) ?_ ?_
      · intro h1
        refine n_fg (le_n (le_n (le_n (le_n (le_n (le_n le_0)))))) ?_
        exact ih.2.2  M hS  (by omega)
      · intro h2
        refine n_iload_n c_78_23 rfl ?_
        refine n_if0_eq c_78_24 (by omega) ?_ ?_
        · intro h3
          refine n_fg (le_n (le_n (le_n (le_n (le_n (le_n le_0)))))) ?_
          exact ih.2.2  M hS  (by omega)
        · intro h4
          refine n_iconst c_78_27 (n_istore_n (L2 := [some (2, 32), some (2, 13), some (2, 4), some (0, 0), some (0, x4), none]) c_78_28 rfl rfl (n_iconst c_78_29 (n_istore (L2 := [some (2, 32), some (2, 13), some (2, 4), some (0, 0), some (0, x4), some (0, 0)]) c_78_30 rfl rfl (n_fg (le_s (le_s (le_s (le_s (le_s (le_s le_0)))))) ?_))))
          exact ih.2.1 _ _ _ M hS (by omega) (by omega) (by omega) (by omega)
    · intro x3 x4 x5 M hS k3 k4 k5 hnn
      refine n_iload c_78_32 rfl (n_aload_n c_78_34 rfl (n_getV (bi := 1) c_78_35 sc_32.n rfl rfl rfl (t_32_1 hS) ?_))
      intro z1 ez1 f2
      refine n_if2_ge c_78_38 (by omega) (by omega) ?_ ?_
      · intro h3
        refine n_iinc (L2 := [some (2, 32), some (2, 13), some (2, 4), some (0, x3), some (0, (x4 + 1)), some (0, x5)]) c_78_66 rfl rfl rfl (n_goto c_78_69 (n_fg (le_s (le_s (le_s (le_s (le_s (le_n le_0)))))) ?_))
        exact ih.1 _ _ M hS (by omega) (by omega) (by omega)
      · intro h4
        refine n_iload_n c_78_41 rfl (n_aload_n c_78_42 rfl (n_iload c_78_43 rfl (n_aload_n c_78_45 rfl (n_aload_n c_78_46 rfl (n_getR c_78_47 sc_32.n rfl rfl rfl r_32_2 (n_iload c_78_50 rfl (n_ialoadV c_78_52 sc_33.n rfl rfl rfl (by omega) (t_33 hS (by omega)) ?_)))))))
        intro z5 ez5 f6
        refine n_aaload c_78_53 sc_13.n rfl rfl rfl (by omega) (r_laws _) ?_
        have q7 : LawAt (79 + 2 * z5) := by unfold LawAt; omega
        refine n_aload_n c_78_54 rfl (n_v3I c_78_55 rfl sc_32.n rfl rfl rfl rfl (narrowBy_3 (i := x5) (w := (79 + 2 * z5)) hS q7 (by omega)) ?_)
        intro z8 M9 hP10
        obtain ⟨hS9, f10⟩ := hP10
        refine n_i_ior c_78_58 rfl ?_
        have f11 := n_or_1 (x := x3) (y := z8) (by omega) (by omega)
        generalize (n_or x3 z8) = z12 at f11 ⊢
        refine n_istore_n (L2 := [some (2, 32), some (2, 13), some (2, 4), some (0, z12), some (0, x4), some (0, x5)]) c_78_59 rfl rfl (n_iinc (L2 := [some (2, 32), some (2, 13), some (2, 4), some (0, z12), some (0, x4), some (0, (x5 + 1))]) c_78_60 rfl rfl rfl (n_goto c_78_63 (n_fg (le_s (le_s (le_s (le_s (le_s (le_s le_0)))))) ?_)))
        exact ih.2.1 _ _ _ M9 hS9 (by omega) (by omega) (by omega) (by omega)
    · intro M hS hnn
      exact n_rV c_78_72 rfl hS
set_option maxHeartbeats 4000000 in
theorem narrow_3 {xs : List Int32} {e : Nat} {ac : Int} {M0 M : nM} (hS : Sf 3 ac M0 M)  : nW xs (e + 3) 78 0 [some (2, 32), some (2, 13), some (2, 4), none, none, none] [] M (nPV fun M1 => Sf 3 ac M0 M1) := by
  have hd : (3 : Int) = 2 ∨ (3 : Int) = 3 := by decide
  have hac := hS.2.2.2.2
  refine n_aload_n c_78_0 rfl (n_getR c_78_1 sc_32.n rfl rfl rfl r_32_6 (n_aload_n c_78_4 rfl (n_v0I c_78_5 rfl sc_4.n rfl rfl rfl rfl (allThings_3  hS ) ?_)))
  intro z1 M2 hP3
  obtain ⟨eM, f3⟩ := hP3
  subst eM
  obtain rfl : z1 = 7 := by omega
  refine n_s2V c_78_8 rfl rfl rfl rfl (fill37_3 (v := 7) hS (by omega)) ?_
  intro  M4 hP5
  have hS4 := hP5
  refine n_iconst c_78_11 (n_istore_n (L2 := [some (2, 32), some (2, 13), some (2, 4), some (0, 1), none, none]) c_78_12 rfl rfl (n_iconst c_78_13 (n_istore (L2 := [some (2, 32), some (2, 13), some (2, 4), some (0, 1), some (0, 0), none]) c_78_14 rfl rfl (n_fg (le_s (le_s (le_s (le_s (le_s (le_n le_0)))))) ?_))))
  exact (narrow_3_c hS  1926).1 _ _ M4 hS4 (by omega) (by omega) (by omega)

set_option maxHeartbeats 4000000 in
theorem order_3_c {xs : List Int32} {e : Nat} {ac : Int} {M0 M : nM} (hS : Sf 3 ac M0 M)  : ∀ nn : Nat, (∀ (x1 x2 : Int) (M : nM), Sf 3 ac M0 M → (0 ≤ x1 ∧ x1 ≤ 729) → (0 ≤ x2 ∧ x2 ≤ 9) → (x1 ≤ x2 * x2 * x2) → (9 - x2) * 2795 + 2795 < (nn : Int) → nW xs e 67 4 [some (2, 38), some (0, x1), some (0, x2), none, none, none, none, none] [] M (nPV fun M1 => Sf 3 ac M0 M1)) ∧ (∀ (x1 x2 x3 : Int) (M : nM), Sf 3 ac M0 M → (0 ≤ x1 ∧ x1 ≤ 729) → (0 ≤ x2 ∧ x2 ≤ 8) → (0 ≤ x3 ∧ x3 ≤ 9) → ((x3 ≤ x2 ∧ x1 ≤ x2 * x2 * x2 + x3 * (2 * x2 + 1)) ∨ (x3 = x2 + 1 ∧ x1 ≤ (x2 + 1) * (x2 + 1) * (x2 + 1))) → (9 - x2) * 2795 + (9 - x3) * 254 + 254 < (nn : Int) → nW xs e 67 21 [some (2, 38), some (0, x1), some (0, x2), some (0, x3), none, none, none, none] [] M (nPV fun M1 => Sf 3 ac M0 M1)) ∧ (∀ (x1 x2 x3 x4 : Int) (M : nM), Sf 3 ac M0 M → (0 ≤ x1 ∧ x1 ≤ 729) → (0 ≤ x2 ∧ x2 ≤ 8) → (0 ≤ x3 ∧ x3 ≤ 8) → (0 ≤ x4 ∧ x4 ≤ 9) → (x3 ≤ x2) → (x4 ≤ x2 + 1) → ((x3 < x2 ∧ x4 ≤ x2 ∧ x1 ≤ x2 * x2 * x2 + x3 * (2 * x2 + 1) + x4) ∨ (x3 < x2 ∧ x4 = x2 + 1 ∧ x1 ≤ x2 * x2 * x2 + x3 * (2 * x2 + 1) + 2 * x2 + 1) ∨ (x3 = x2 ∧ x1 ≤ x2 * x2 * x2 + x3 * (2 * x2 + 1) + x4 * (x2 + 1))) → (9 - x2) * 2795 + (9 - x3) * 254 + (9 - x4) * 23 + 23 < (nn : Int) → nW xs e 67 29 [some (2, 38), some (0, x1), some (0, x2), some (0, x3), some (0, x4), none, none, none] [] M (nPV fun M1 => Sf 3 ac M0 M1)) ∧ (∀ (x1 x2 x3 x4 x6 : Int) (M : nM), Sf 3 ac M0 M → (0 ≤ x1 ∧ x1 ≤ 729) → (0 ≤ x2 ∧ x2 ≤ 8) → (0 ≤ x3 ∧ x3 ≤ 8) → (0 ≤ x4 ∧ x4 ≤ 8) → (0 ≤ x6 ∧ x6 ≤ 9) → (x3 ≤ x2) → (x4 ≤ x2) → (x6 ≤ x2 + 1) → ((x3 < x2 ∧ x4 < x2 ∧ x2 ≤ x6 ∧ x1 ≤ x2 * x2 * x2 + x3 * (2 * x2 + 1) + x4 + x6 - x2) ∨ (x3 < x2 ∧ x4 = x2 ∧ x1 ≤ x2 * x2 * x2 + x3 * (2 * x2 + 1) + x4 + x6) ∨ (x3 = x2 ∧ x1 ≤ x2 * x2 * x2 + x3 * (2 * x2 + 1) + x4 * (x2 + 1) + x6)) → (9 - x2) * 2795 + (9 - x3) * 254 + (9 - x4) * 23 + (9 - x6) * 2 + 2 < (nn : Int) → nW xs e 67 65 [some (2, 38), some (0, x1), some (0, x2), some (0, x3), some (0, x4), none, some (0, x6), none] [] M (nPV fun M1 => Sf 3 ac M0 M1)) ∧ (∀ (x1 x2 x3 x4 x6 : Int) (M : nM), Sf 3 ac M0 M → (0 ≤ x1 ∧ x1 ≤ 729) → (0 ≤ x2 ∧ x2 ≤ 8) → (0 ≤ x3 ∧ x3 ≤ 8) → (0 ≤ x4 ∧ x4 ≤ 8) → (0 ≤ x6 ∧ x6 ≤ 8) → (x3 ≤ x2) → (x4 ≤ x2) → ((x6 + 1) ≤ x2 + 1) → ((x3 < x2 ∧ x4 < x2 ∧ x2 ≤ (x6 + 1) ∧ x1 ≤ x2 * x2 * x2 + x3 * (2 * x2 + 1) + x4 + (x6 + 1) - x2) ∨ (x3 < x2 ∧ x4 = x2 ∧ x1 ≤ x2 * x2 * x2 + x3 * (2 * x2 + 1) + x4 + (x6 + 1)) ∨ (x3 = x2 ∧ x1 ≤ x2 * x2 * x2 + x3 * (2 * x2 + 1) + x4 * (x2 + 1) + (x6 + 1))) → (x6 ≤ x2) → (9 - x2) * 2795 + (9 - x3) * 254 + (9 - x4) * 23 + (9 - x6) * 2 + 1 < (nn : Int) → nW xs e 67 129 [some (2, 38), some (0, x1), some (0, x2), some (0, x3), some (0, x4), none, some (0, x6), none] [] M (nPV fun M1 => Sf 3 ac M0 M1)) := by
  have hd : (3 : Int) = 2 ∨ (3 : Int) = 3 := by decide
  have hac := hS.2.2.2.2
  intro nn
  induction nn with
  | zero => refine ⟨?_, ?_, ?_, ?_, ?_⟩ <;> (intros; omega)
  | succ nn ih =>
    refine ⟨?_, ?_, ?_, ?_, ?_⟩
    · intro x1 x2 M hS k1 k2 v0 hnn
      rcases (show x2 = 0 ∨ x2 = 1 ∨ x2 = 2 ∨ x2 = 3 ∨ x2 = 4 ∨ x2 = 5 ∨ x2 = 6 ∨ x2 = 7 ∨ x2 = 8 ∨ x2 = 9 by omega) with rfl | rfl | rfl | rfl | rfl | rfl | rfl | rfl | rfl | rfl
      · skip
        refine n_iload_n c_67_4 rfl (n_aload_n c_67_5 rfl (n_getV (bi := 6) c_67_6 sc_38.n rfl rfl rfl (t_38_6 hS) ?_))
        intro z1 ez1 f2
        refine n_if2_ge c_67_9 (by omega) (by omega) ?_ ?_
        · intro h3
          refine n_aload_n c_67_153 rfl (n_getR c_67_154 sc_38.n rfl rfl rfl r_38_4 (n_aload_n c_67_157 rfl (n_getV (bi := 6) c_67_158 sc_38.n rfl rfl rfl (t_38_6 hS) ?_)))
          intro z4 ez4 f5
          obtain rfl : z4 = 0 := by omega
          refine n_iload_n c_67_161 rfl (n_iastoreV hS c_67_162 sc_43.n rfl (by omega) (w_43 (by omega) (by omega)) ?_)
          intro M6 eM6 hS6
          have g6_0 : M6 38 6 = M 38 6 := by rw [eM6]; exact nu_a (by omega)
          exact n_rV c_67_163 rfl hS6
        · intro h7
          refine n_aload_n c_67_12 rfl (n_getR c_67_13 sc_38.n rfl rfl rfl r_38_4 (n_iload_n c_67_16 rfl (n_iload_n c_67_17 rfl (n_iastoreV hS c_67_18 sc_43.n rfl (by omega) (w_43 (by omega) (by omega)) ?_))))
          intro M8 eM8 hS8
          have g8_0 : M8 38 6 = M 38 6 := by rw [eM8]; exact nu_a (by omega)
          refine n_iconst c_67_19 (n_istore_n (L2 := [some (2, 38), some (0, x1), some (0, 0), some (0, 0), none, none, none, none]) c_67_20 rfl rfl (n_fg (le_s (le_s (le_s (le_s (le_n (le_n (le_n (le_n le_0)))))))) ?_))
          exact ih.2.1 _ _ _ M8 hS8 (by omega) (by omega) (by omega) (by omega) (by omega)
      · skip
        refine n_iload_n c_67_4 rfl (n_aload_n c_67_5 rfl (n_getV (bi := 6) c_67_6 sc_38.n rfl rfl rfl (t_38_6 hS) ?_))
        intro z9 ez9 f10
        refine n_if2_ge c_67_9 (by omega) (by omega) ?_ ?_
        · intro h11
          refine n_aload_n c_67_153 rfl (n_getR c_67_154 sc_38.n rfl rfl rfl r_38_4 (n_aload_n c_67_157 rfl (n_getV (bi := 6) c_67_158 sc_38.n rfl rfl rfl (t_38_6 hS) ?_)))
          intro z12 ez12 f13
          refine n_iload_n c_67_161 rfl (n_iastoreV hS c_67_162 sc_43.n rfl (by omega) (w_43 (by omega) (by omega)) ?_)
          intro M14 eM14 hS14
          have g14_0 : M14 38 6 = M 38 6 := by rw [eM14]; exact nu_a (by omega)
          exact n_rV c_67_163 rfl hS14
        · intro h15
          refine n_aload_n c_67_12 rfl (n_getR c_67_13 sc_38.n rfl rfl rfl r_38_4 (n_iload_n c_67_16 rfl (n_iload_n c_67_17 rfl (n_iastoreV hS c_67_18 sc_43.n rfl (by omega) (w_43 (by omega) (by omega)) ?_))))
          intro M16 eM16 hS16
          have g16_0 : M16 38 6 = M 38 6 := by rw [eM16]; exact nu_a (by omega)
          refine n_iconst c_67_19 (n_istore_n (L2 := [some (2, 38), some (0, x1), some (0, 1), some (0, 0), none, none, none, none]) c_67_20 rfl rfl (n_fg (le_s (le_s (le_s (le_s (le_n (le_n (le_n (le_n le_0)))))))) ?_))
          exact ih.2.1 _ _ _ M16 hS16 (by omega) (by omega) (by omega) (by omega) (by omega)
      · skip
        refine n_iload_n c_67_4 rfl (n_aload_n c_67_5 rfl (n_getV (bi := 6) c_67_6 sc_38.n rfl rfl rfl (t_38_6 hS) ?_))
        intro z17 ez17 f18
        refine n_if2_ge c_67_9 (by omega) (by omega) ?_ ?_
        · intro h19
          refine n_aload_n c_67_153 rfl (n_getR c_67_154 sc_38.n rfl rfl rfl r_38_4 (n_aload_n c_67_157 rfl (n_getV (bi := 6) c_67_158 sc_38.n rfl rfl rfl (t_38_6 hS) ?_)))
          intro z20 ez20 f21
          refine n_iload_n c_67_161 rfl (n_iastoreV hS c_67_162 sc_43.n rfl (by omega) (w_43 (by omega) (by omega)) ?_)
          intro M22 eM22 hS22
          have g22_0 : M22 38 6 = M 38 6 := by rw [eM22]; exact nu_a (by omega)
          exact n_rV c_67_163 rfl hS22
        · intro h23
          refine n_aload_n c_67_12 rfl (n_getR c_67_13 sc_38.n rfl rfl rfl r_38_4 (n_iload_n c_67_16 rfl (n_iload_n c_67_17 rfl (n_iastoreV hS c_67_18 sc_43.n rfl (by omega) (w_43 (by omega) (by omega)) ?_))))
          intro M24 eM24 hS24
          have g24_0 : M24 38 6 = M 38 6 := by rw [eM24]; exact nu_a (by omega)
          refine n_iconst c_67_19 (n_istore_n (L2 := [some (2, 38), some (0, x1), some (0, 2), some (0, 0), none, none, none, none]) c_67_20 rfl rfl (n_fg (le_s (le_s (le_s (le_s (le_n (le_n (le_n (le_n le_0)))))))) ?_))
          exact ih.2.1 _ _ _ M24 hS24 (by omega) (by omega) (by omega) (by omega) (by omega)
      · skip
        refine n_iload_n c_67_4 rfl (n_aload_n c_67_5 rfl (n_getV (bi := 6) c_67_6 sc_38.n rfl rfl rfl (t_38_6 hS) ?_))
        intro z25 ez25 f26
        refine n_if2_ge c_67_9 (by omega) (by omega) ?_ ?_
        · intro h27
          refine n_aload_n c_67_153 rfl (n_getR c_67_154 sc_38.n rfl rfl rfl r_38_4 (n_aload_n c_67_157 rfl (n_getV (bi := 6) c_67_158 sc_38.n rfl rfl rfl (t_38_6 hS) ?_)))
          intro z28 ez28 f29
          refine n_iload_n c_67_161 rfl (n_iastoreV hS c_67_162 sc_43.n rfl (by omega) (w_43 (by omega) (by omega)) ?_)
          intro M30 eM30 hS30
          have g30_0 : M30 38 6 = M 38 6 := by rw [eM30]; exact nu_a (by omega)
          exact n_rV c_67_163 rfl hS30
        · intro h31
          refine n_aload_n c_67_12 rfl (n_getR c_67_13 sc_38.n rfl rfl rfl r_38_4 (n_iload_n c_67_16 rfl (n_iload_n c_67_17 rfl (n_iastoreV hS c_67_18 sc_43.n rfl (by omega) (w_43 (by omega) (by omega)) ?_))))
          intro M32 eM32 hS32
          have g32_0 : M32 38 6 = M 38 6 := by rw [eM32]; exact nu_a (by omega)
          refine n_iconst c_67_19 (n_istore_n (L2 := [some (2, 38), some (0, x1), some (0, 3), some (0, 0), none, none, none, none]) c_67_20 rfl rfl (n_fg (le_s (le_s (le_s (le_s (le_n (le_n (le_n (le_n le_0)))))))) ?_))
          exact ih.2.1 _ _ _ M32 hS32 (by omega) (by omega) (by omega) (by omega) (by omega)
      · skip
        refine n_iload_n c_67_4 rfl (n_aload_n c_67_5 rfl (n_getV (bi := 6) c_67_6 sc_38.n rfl rfl rfl (t_38_6 hS) ?_))
        intro z33 ez33 f34
        refine n_if2_ge c_67_9 (by omega) (by omega) ?_ ?_
        · intro h35
          refine n_aload_n c_67_153 rfl (n_getR c_67_154 sc_38.n rfl rfl rfl r_38_4 (n_aload_n c_67_157 rfl (n_getV (bi := 6) c_67_158 sc_38.n rfl rfl rfl (t_38_6 hS) ?_)))
          intro z36 ez36 f37
          refine n_iload_n c_67_161 rfl (n_iastoreV hS c_67_162 sc_43.n rfl (by omega) (w_43 (by omega) (by omega)) ?_)
          intro M38 eM38 hS38
          have g38_0 : M38 38 6 = M 38 6 := by rw [eM38]; exact nu_a (by omega)
          exact n_rV c_67_163 rfl hS38
        · intro h39
          refine n_aload_n c_67_12 rfl (n_getR c_67_13 sc_38.n rfl rfl rfl r_38_4 (n_iload_n c_67_16 rfl (n_iload_n c_67_17 rfl (n_iastoreV hS c_67_18 sc_43.n rfl (by omega) (w_43 (by omega) (by omega)) ?_))))
          intro M40 eM40 hS40
          have g40_0 : M40 38 6 = M 38 6 := by rw [eM40]; exact nu_a (by omega)
          refine n_iconst c_67_19 (n_istore_n (L2 := [some (2, 38), some (0, x1), some (0, 4), some (0, 0), none, none, none, none]) c_67_20 rfl rfl (n_fg (le_s (le_s (le_s (le_s (le_n (le_n (le_n (le_n le_0)))))))) ?_))
          exact ih.2.1 _ _ _ M40 hS40 (by omega) (by omega) (by omega) (by omega) (by omega)
      · skip
        refine n_iload_n c_67_4 rfl (n_aload_n c_67_5 rfl (n_getV (bi := 6) c_67_6 sc_38.n rfl rfl rfl (t_38_6 hS) ?_))
        intro z41 ez41 f42
        refine n_if2_ge c_67_9 (by omega) (by omega) ?_ ?_
        · intro h43
          refine n_aload_n c_67_153 rfl (n_getR c_67_154 sc_38.n rfl rfl rfl r_38_4 (n_aload_n c_67_157 rfl (n_getV (bi := 6) c_67_158 sc_38.n rfl rfl rfl (t_38_6 hS) ?_)))
          intro z44 ez44 f45
          refine n_iload_n c_67_161 rfl (n_iastoreV hS c_67_162 sc_43.n rfl (by omega) (w_43 (by omega) (by omega)) ?_)
          intro M46 eM46 hS46
          have g46_0 : M46 38 6 = M 38 6 := by rw [eM46]; exact nu_a (by omega)
          exact n_rV c_67_163 rfl hS46
        · intro h47
          refine n_aload_n c_67_12 rfl (n_getR c_67_13 sc_38.n rfl rfl rfl r_38_4 (n_iload_n c_67_16 rfl (n_iload_n c_67_17 rfl (n_iastoreV hS c_67_18 sc_43.n rfl (by omega) (w_43 (by omega) (by omega)) ?_))))
          intro M48 eM48 hS48
          have g48_0 : M48 38 6 = M 38 6 := by rw [eM48]; exact nu_a (by omega)
          refine n_iconst c_67_19 (n_istore_n (L2 := [some (2, 38), some (0, x1), some (0, 5), some (0, 0), none, none, none, none]) c_67_20 rfl rfl (n_fg (le_s (le_s (le_s (le_s (le_n (le_n (le_n (le_n le_0)))))))) ?_))
          exact ih.2.1 _ _ _ M48 hS48 (by omega) (by omega) (by omega) (by omega) (by omega)
      · skip
        refine n_iload_n c_67_4 rfl (n_aload_n c_67_5 rfl (n_getV (bi := 6) c_67_6 sc_38.n rfl rfl rfl (t_38_6 hS) ?_))
        intro z49 ez49 f50
        refine n_if2_ge c_67_9 (by omega) (by omega) ?_ ?_
        · intro h51
          refine n_aload_n c_67_153 rfl (n_getR c_67_154 sc_38.n rfl rfl rfl r_38_4 (n_aload_n c_67_157 rfl (n_getV (bi := 6) c_67_158 sc_38.n rfl rfl rfl (t_38_6 hS) ?_)))
          intro z52 ez52 f53
          refine n_iload_n c_67_161 rfl (n_iastoreV hS c_67_162 sc_43.n rfl (by omega) (w_43 (by omega) (by omega)) ?_)
          intro M54 eM54 hS54
          have g54_0 : M54 38 6 = M 38 6 := by rw [eM54]; exact nu_a (by omega)
          exact n_rV c_67_163 rfl hS54
        · intro h55
          refine n_aload_n c_67_12 rfl (n_getR c_67_13 sc_38.n rfl rfl rfl r_38_4 (n_iload_n c_67_16 rfl (n_iload_n c_67_17 rfl (n_iastoreV hS c_67_18 sc_43.n rfl (by omega) (w_43 (by omega) (by omega)) ?_))))
          intro M56 eM56 hS56
          have g56_0 : M56 38 6 = M 38 6 := by rw [eM56]; exact nu_a (by omega)
          refine n_iconst c_67_19 (n_istore_n (L2 := [some (2, 38), some (0, x1), some (0, 6), some (0, 0), none, none, none, none]) c_67_20 rfl rfl (n_fg (le_s (le_s (le_s (le_s (le_n (le_n (le_n (le_n le_0)))))))) ?_))
          exact ih.2.1 _ _ _ M56 hS56 (by omega) (by omega) (by omega) (by omega) (by omega)
      · skip
        refine n_iload_n c_67_4 rfl (n_aload_n c_67_5 rfl (n_getV (bi := 6) c_67_6 sc_38.n rfl rfl rfl (t_38_6 hS) ?_))
        intro z57 ez57 f58
        refine n_if2_ge c_67_9 (by omega) (by omega) ?_ ?_
        · intro h59
          refine n_aload_n c_67_153 rfl (n_getR c_67_154 sc_38.n rfl rfl rfl r_38_4 (n_aload_n c_67_157 rfl (n_getV (bi := 6) c_67_158 sc_38.n rfl rfl rfl (t_38_6 hS) ?_)))
          intro z60 ez60 f61
          refine n_iload_n c_67_161 rfl (n_iastoreV hS c_67_162 sc_43.n rfl (by omega) (w_43 (by omega) (by omega)) ?_)
          intro M62 eM62 hS62
          have g62_0 : M62 38 6 = M 38 6 := by rw [eM62]; exact nu_a (by omega)
          exact n_rV c_67_163 rfl hS62
        · intro h63
          refine n_aload_n c_67_12 rfl (n_getR c_67_13 sc_38.n rfl rfl rfl r_38_4 (n_iload_n c_67_16 rfl (n_iload_n c_67_17 rfl (n_iastoreV hS c_67_18 sc_43.n rfl (by omega) (w_43 (by omega) (by omega)) ?_))))
          intro M64 eM64 hS64
          have g64_0 : M64 38 6 = M 38 6 := by rw [eM64]; exact nu_a (by omega)
          refine n_iconst c_67_19 (n_istore_n (L2 := [some (2, 38), some (0, x1), some (0, 7), some (0, 0), none, none, none, none]) c_67_20 rfl rfl (n_fg (le_s (le_s (le_s (le_s (le_n (le_n (le_n (le_n le_0)))))))) ?_))
          exact ih.2.1 _ _ _ M64 hS64 (by omega) (by omega) (by omega) (by omega) (by omega)
      · skip
        refine n_iload_n c_67_4 rfl (n_aload_n c_67_5 rfl (n_getV (bi := 6) c_67_6 sc_38.n rfl rfl rfl (t_38_6 hS) ?_))
        intro z65 ez65 f66
        refine n_if2_ge c_67_9 (by omega) (by omega) ?_ ?_
        · intro h67
          refine n_aload_n c_67_153 rfl (n_getR c_67_154 sc_38.n rfl rfl rfl r_38_4 (n_aload_n c_67_157 rfl (n_getV (bi := 6) c_67_158 sc_38.n rfl rfl rfl (t_38_6 hS) ?_)))
          intro z68 ez68 f69
          refine n_iload_n c_67_161 rfl (n_iastoreV hS c_67_162 sc_43.n rfl (by omega) (w_43 (by omega) (by omega)) ?_)
          intro M70 eM70 hS70
          have g70_0 : M70 38 6 = M 38 6 := by rw [eM70]; exact nu_a (by omega)
          exact n_rV c_67_163 rfl hS70
        · intro h71
          refine n_aload_n c_67_12 rfl (n_getR c_67_13 sc_38.n rfl rfl rfl r_38_4 (n_iload_n c_67_16 rfl (n_iload_n c_67_17 rfl (n_iastoreV hS c_67_18 sc_43.n rfl (by omega) (w_43 (by omega) (by omega)) ?_))))
          intro M72 eM72 hS72
          have g72_0 : M72 38 6 = M 38 6 := by rw [eM72]; exact nu_a (by omega)
          refine n_iconst c_67_19 (n_istore_n (L2 := [some (2, 38), some (0, x1), some (0, 8), some (0, 0), none, none, none, none]) c_67_20 rfl rfl (n_fg (le_s (le_s (le_s (le_s (le_n (le_n (le_n (le_n le_0)))))))) ?_))
          exact ih.2.1 _ _ _ M72 hS72 (by omega) (by omega) (by omega) (by omega) (by omega)
      · skip
        refine n_iload_n c_67_4 rfl (n_aload_n c_67_5 rfl (n_getV (bi := 6) c_67_6 sc_38.n rfl rfl rfl (t_38_6 hS) ?_))
        intro z73 ez73 f74
        refine n_if2_ge c_67_9 (by omega) (by omega) ?_ ?_
        · intro h75
          refine n_aload_n c_67_153 rfl (n_getR c_67_154 sc_38.n rfl rfl rfl r_38_4 (n_aload_n c_67_157 rfl (n_getV (bi := 6) c_67_158 sc_38.n rfl rfl rfl (t_38_6 hS) ?_)))
          intro z76 ez76 f77
          refine n_iload_n c_67_161 rfl (n_iastoreV hS c_67_162 sc_43.n rfl (by omega) (w_43 (by omega) (by omega)) ?_)
          intro M78 eM78 hS78
          have g78_0 : M78 38 6 = M 38 6 := by rw [eM78]; exact nu_a (by omega)
          exact n_rV c_67_163 rfl hS78
        · intro h79
          exfalso; omega
    · intro x1 x2 x3 M hS k1 k2 k3 v0 hnn
      rcases (show x2 = 0 ∨ x2 = 1 ∨ x2 = 2 ∨ x2 = 3 ∨ x2 = 4 ∨ x2 = 5 ∨ x2 = 6 ∨ x2 = 7 ∨ x2 = 8 by omega) with rfl | rfl | rfl | rfl | rfl | rfl | rfl | rfl | rfl
      · skip
        refine n_iload_n c_67_21 rfl (n_iload_n c_67_22 rfl ?_)
        refine n_if2_gt c_67_23 (by omega) (by omega) ?_ ?_
        · intro h1
          refine n_iinc (L2 := [some (2, 38), some (0, x1), some (0, (0 + 1)), some (0, x3), none, none, none, none]) c_67_147 rfl rfl rfl (n_goto c_67_150 (n_fg (le_s (le_s (le_s (le_n (le_n (le_n (le_n (le_n le_0)))))))) ?_))
          exact ih.1 _ _ M hS (by omega) (by omega) (by omega) (by omega)
        · intro h2
          refine n_iconst c_67_26 (n_istore (L2 := [some (2, 38), some (0, x1), some (0, 0), some (0, x3), some (0, 0), none, none, none]) c_67_27 rfl rfl (n_fg (le_s (le_s (le_s (le_s (le_s (le_n (le_n (le_n le_0)))))))) ?_))
          exact ih.2.2.1 _ _ _ _ M hS (by omega) (by omega) (by omega) (by omega) (by omega) (by omega) (by omega) (by omega)
      · skip
        refine n_iload_n c_67_21 rfl (n_iload_n c_67_22 rfl ?_)
        refine n_if2_gt c_67_23 (by omega) (by omega) ?_ ?_
        · intro h3
          refine n_iinc (L2 := [some (2, 38), some (0, x1), some (0, (1 + 1)), some (0, x3), none, none, none, none]) c_67_147 rfl rfl rfl (n_goto c_67_150 (n_fg (le_s (le_s (le_s (le_n (le_n (le_n (le_n (le_n le_0)))))))) ?_))
          exact ih.1 _ _ M hS (by omega) (by omega) (by omega) (by omega)
        · intro h4
          refine n_iconst c_67_26 (n_istore (L2 := [some (2, 38), some (0, x1), some (0, 1), some (0, x3), some (0, 0), none, none, none]) c_67_27 rfl rfl (n_fg (le_s (le_s (le_s (le_s (le_s (le_n (le_n (le_n le_0)))))))) ?_))
          exact ih.2.2.1 _ _ _ _ M hS (by omega) (by omega) (by omega) (by omega) (by omega) (by omega) (by omega) (by omega)
      · skip
        refine n_iload_n c_67_21 rfl (n_iload_n c_67_22 rfl ?_)
        refine n_if2_gt c_67_23 (by omega) (by omega) ?_ ?_
        · intro h5
          refine n_iinc (L2 := [some (2, 38), some (0, x1), some (0, (2 + 1)), some (0, x3), none, none, none, none]) c_67_147 rfl rfl rfl (n_goto c_67_150 (n_fg (le_s (le_s (le_s (le_n (le_n (le_n (le_n (le_n le_0)))))))) ?_))
          exact ih.1 _ _ M hS (by omega) (by omega) (by omega) (by omega)
        · intro h6
          refine n_iconst c_67_26 (n_istore (L2 := [some (2, 38), some (0, x1), some (0, 2), some (0, x3), some (0, 0), none, none, none]) c_67_27 rfl rfl (n_fg (le_s (le_s (le_s (le_s (le_s (le_n (le_n (le_n le_0)))))))) ?_))
          exact ih.2.2.1 _ _ _ _ M hS (by omega) (by omega) (by omega) (by omega) (by omega) (by omega) (by omega) (by omega)
      · skip
        refine n_iload_n c_67_21 rfl (n_iload_n c_67_22 rfl ?_)
        refine n_if2_gt c_67_23 (by omega) (by omega) ?_ ?_
        · intro h7
          refine n_iinc (L2 := [some (2, 38), some (0, x1), some (0, (3 + 1)), some (0, x3), none, none, none, none]) c_67_147 rfl rfl rfl (n_goto c_67_150 (n_fg (le_s (le_s (le_s (le_n (le_n (le_n (le_n (le_n le_0)))))))) ?_))
          exact ih.1 _ _ M hS (by omega) (by omega) (by omega) (by omega)
        · intro h8
          refine n_iconst c_67_26 (n_istore (L2 := [some (2, 38), some (0, x1), some (0, 3), some (0, x3), some (0, 0), none, none, none]) c_67_27 rfl rfl (n_fg (le_s (le_s (le_s (le_s (le_s (le_n (le_n (le_n le_0)))))))) ?_))
          exact ih.2.2.1 _ _ _ _ M hS (by omega) (by omega) (by omega) (by omega) (by omega) (by omega) (by omega) (by omega)
      · skip
        refine n_iload_n c_67_21 rfl (n_iload_n c_67_22 rfl ?_)
        refine n_if2_gt c_67_23 (by omega) (by omega) ?_ ?_
        · intro h9
          refine n_iinc (L2 := [some (2, 38), some (0, x1), some (0, (4 + 1)), some (0, x3), none, none, none, none]) c_67_147 rfl rfl rfl (n_goto c_67_150 (n_fg (le_s (le_s (le_s (le_n (le_n (le_n (le_n (le_n le_0)))))))) ?_))
          exact ih.1 _ _ M hS (by omega) (by omega) (by omega) (by omega)
        · intro h10
          refine n_iconst c_67_26 (n_istore (L2 := [some (2, 38), some (0, x1), some (0, 4), some (0, x3), some (0, 0), none, none, none]) c_67_27 rfl rfl (n_fg (le_s (le_s (le_s (le_s (le_s (le_n (le_n (le_n le_0)))))))) ?_))
          exact ih.2.2.1 _ _ _ _ M hS (by omega) (by omega) (by omega) (by omega) (by omega) (by omega) (by omega) (by omega)
      · skip
        refine n_iload_n c_67_21 rfl (n_iload_n c_67_22 rfl ?_)
        refine n_if2_gt c_67_23 (by omega) (by omega) ?_ ?_
        · intro h11
          refine n_iinc (L2 := [some (2, 38), some (0, x1), some (0, (5 + 1)), some (0, x3), none, none, none, none]) c_67_147 rfl rfl rfl (n_goto c_67_150 (n_fg (le_s (le_s (le_s (le_n (le_n (le_n (le_n (le_n le_0)))))))) ?_))
          exact ih.1 _ _ M hS (by omega) (by omega) (by omega) (by omega)
        · intro h12
          refine n_iconst c_67_26 (n_istore (L2 := [some (2, 38), some (0, x1), some (0, 5), some (0, x3), some (0, 0), none, none, none]) c_67_27 rfl rfl (n_fg (le_s (le_s (le_s (le_s (le_s (le_n (le_n (le_n le_0)))))))) ?_))
          exact ih.2.2.1 _ _ _ _ M hS (by omega) (by omega) (by omega) (by omega) (by omega) (by omega) (by omega) (by omega)
      · skip
        refine n_iload_n c_67_21 rfl (n_iload_n c_67_22 rfl ?_)
        refine n_if2_gt c_67_23 (by omega) (by omega) ?_ ?_
        · intro h13
          refine n_iinc (L2 := [some (2, 38), some (0, x1), some (0, (6 + 1)), some (0, x3), none, none, none, none]) c_67_147 rfl rfl rfl (n_goto c_67_150 (n_fg (le_s (le_s (le_s (le_n (le_n (le_n (le_n (le_n le_0)))))))) ?_))
          exact ih.1 _ _ M hS (by omega) (by omega) (by omega) (by omega)
        · intro h14
          refine n_iconst c_67_26 (n_istore (L2 := [some (2, 38), some (0, x1), some (0, 6), some (0, x3), some (0, 0), none, none, none]) c_67_27 rfl rfl (n_fg (le_s (le_s (le_s (le_s (le_s (le_n (le_n (le_n le_0)))))))) ?_))
          exact ih.2.2.1 _ _ _ _ M hS (by omega) (by omega) (by omega) (by omega) (by omega) (by omega) (by omega) (by omega)
      · skip
        refine n_iload_n c_67_21 rfl (n_iload_n c_67_22 rfl ?_)
        refine n_if2_gt c_67_23 (by omega) (by omega) ?_ ?_
        · intro h15
          refine n_iinc (L2 := [some (2, 38), some (0, x1), some (0, (7 + 1)), some (0, x3), none, none, none, none]) c_67_147 rfl rfl rfl (n_goto c_67_150 (n_fg (le_s (le_s (le_s (le_n (le_n (le_n (le_n (le_n le_0)))))))) ?_))
          exact ih.1 _ _ M hS (by omega) (by omega) (by omega) (by omega)
        · intro h16
          refine n_iconst c_67_26 (n_istore (L2 := [some (2, 38), some (0, x1), some (0, 7), some (0, x3), some (0, 0), none, none, none]) c_67_27 rfl rfl (n_fg (le_s (le_s (le_s (le_s (le_s (le_n (le_n (le_n le_0)))))))) ?_))
          exact ih.2.2.1 _ _ _ _ M hS (by omega) (by omega) (by omega) (by omega) (by omega) (by omega) (by omega) (by omega)
      · skip
        refine n_iload_n c_67_21 rfl (n_iload_n c_67_22 rfl ?_)
        refine n_if2_gt c_67_23 (by omega) (by omega) ?_ ?_
        · intro h17
          refine n_iinc (L2 := [some (2, 38), some (0, x1), some (0, (8 + 1)), some (0, x3), none, none, none, none]) c_67_147 rfl rfl rfl (n_goto c_67_150 (n_fg (le_s (le_s (le_s (le_n (le_n (le_n (le_n (le_n le_0)))))))) ?_))
          exact ih.1 _ _ M hS (by omega) (by omega) (by omega) (by omega)
        · intro h18
          refine n_iconst c_67_26 (n_istore (L2 := [some (2, 38), some (0, x1), some (0, 8), some (0, x3), some (0, 0), none, none, none]) c_67_27 rfl rfl (n_fg (le_s (le_s (le_s (le_s (le_s (le_n (le_n (le_n le_0)))))))) ?_))
          exact ih.2.2.1 _ _ _ _ M hS (by omega) (by omega) (by omega) (by omega) (by omega) (by omega) (by omega) (by omega)
    · intro x1 x2 x3 x4 M hS k1 k2 k3 k4 v0 v1 v2 hnn
      rcases (show x2 = 0 ∨ x2 = 1 ∨ x2 = 2 ∨ x2 = 3 ∨ x2 = 4 ∨ x2 = 5 ∨ x2 = 6 ∨ x2 = 7 ∨ x2 = 8 by omega) with rfl | rfl | rfl | rfl | rfl | rfl | rfl | rfl | rfl
      · skip
        refine n_iload c_67_29 rfl (n_iload_n c_67_31 rfl ?_)
        refine n_if2_gt c_67_32 (by omega) (by omega) ?_ ?_
        · intro h1
          refine n_iinc (L2 := [some (2, 38), some (0, x1), some (0, 0), some (0, (x3 + 1)), some (0, x4), none, none, none]) c_67_141 rfl rfl rfl (n_goto c_67_144 (n_fg (le_s (le_s (le_s (le_s (le_n (le_n (le_n (le_n le_0)))))))) ?_))
          exact ih.2.1 _ _ _ M hS (by omega) (by omega) (by omega) (by omega) (by omega)
        · intro h2
          refine n_iload_n c_67_35 rfl (n_iload_n c_67_36 rfl ?_)
          refine n_if2_eq c_67_37 (by omega) (by omega) ?_ ?_
          · intro h3
            refine n_iconst c_67_46 (n_goto c_67_47 (n_istore (L2 := [some (2, 38), some (0, x1), some (0, 0), some (0, x3), some (0, x4), some (0, 1), none, none]) c_67_51 rfl rfl (n_iload c_67_53 rfl ?_)))
            refine n_if0_eq c_67_55 (by omega) ?_ ?_
            · intro h4
              exfalso; omega
            · intro h5
              refine n_iconst c_67_58 (n_goto c_67_59 (n_istore (L2 := [some (2, 38), some (0, x1), some (0, 0), some (0, x3), some (0, x4), some (0, 1), some (0, 0), none]) c_67_63 rfl rfl (n_fg (le_s (le_s (le_s (le_s (le_s (le_n (le_s (le_n le_0)))))))) ?_)))
              exact ih.2.2.2.1 _ _ _ _ _ M hS (by omega) (by omega) (by omega) (by omega) (by omega) (by omega) (by omega) (by omega) (by omega) (by omega)
          · intro h6
            refine n_iload c_67_40 rfl (n_iload_n c_67_42 rfl ?_)
            refine n_if2_ne c_67_43 (by omega) (by omega) ?_ ?_
            · intro h7
              exfalso; omega
            · intro h8
              refine n_iconst c_67_46 (n_goto c_67_47 (n_istore (L2 := [some (2, 38), some (0, x1), some (0, 0), some (0, x3), some (0, x4), some (0, 1), none, none]) c_67_51 rfl rfl (n_iload c_67_53 rfl ?_)))
              refine n_if0_eq c_67_55 (by omega) ?_ ?_
              · intro h9
                exfalso; omega
              · intro h10
                refine n_iconst c_67_58 (n_goto c_67_59 (n_istore (L2 := [some (2, 38), some (0, x1), some (0, 0), some (0, x3), some (0, x4), some (0, 1), some (0, 0), none]) c_67_63 rfl rfl (n_fg (le_s (le_s (le_s (le_s (le_s (le_n (le_s (le_n le_0)))))))) ?_)))
                exact ih.2.2.2.1 _ _ _ _ _ M hS (by omega) (by omega) (by omega) (by omega) (by omega) (by omega) (by omega) (by omega) (by omega) (by omega)
      · skip
        refine n_iload c_67_29 rfl (n_iload_n c_67_31 rfl ?_)
        refine n_if2_gt c_67_32 (by omega) (by omega) ?_ ?_
        · intro h11
          refine n_iinc (L2 := [some (2, 38), some (0, x1), some (0, 1), some (0, (x3 + 1)), some (0, x4), none, none, none]) c_67_141 rfl rfl rfl (n_goto c_67_144 (n_fg (le_s (le_s (le_s (le_s (le_n (le_n (le_n (le_n le_0)))))))) ?_))
          exact ih.2.1 _ _ _ M hS (by omega) (by omega) (by omega) (by omega) (by omega)
        · intro h12
          refine n_iload_n c_67_35 rfl (n_iload_n c_67_36 rfl ?_)
          refine n_if2_eq c_67_37 (by omega) (by omega) ?_ ?_
          · intro h13
            refine n_iconst c_67_46 (n_goto c_67_47 (n_istore (L2 := [some (2, 38), some (0, x1), some (0, 1), some (0, x3), some (0, x4), some (0, 1), none, none]) c_67_51 rfl rfl (n_iload c_67_53 rfl ?_)))
            refine n_if0_eq c_67_55 (by omega) ?_ ?_
            · intro h14
              exfalso; omega
            · intro h15
              refine n_iconst c_67_58 (n_goto c_67_59 (n_istore (L2 := [some (2, 38), some (0, x1), some (0, 1), some (0, x3), some (0, x4), some (0, 1), some (0, 0), none]) c_67_63 rfl rfl (n_fg (le_s (le_s (le_s (le_s (le_s (le_n (le_s (le_n le_0)))))))) ?_)))
              exact ih.2.2.2.1 _ _ _ _ _ M hS (by omega) (by omega) (by omega) (by omega) (by omega) (by omega) (by omega) (by omega) (by omega) (by omega)
          · intro h16
            refine n_iload c_67_40 rfl (n_iload_n c_67_42 rfl ?_)
            refine n_if2_ne c_67_43 (by omega) (by omega) ?_ ?_
            · intro h17
              refine n_iconst c_67_50 (n_istore (L2 := [some (2, 38), some (0, x1), some (0, 1), some (0, x3), some (0, x4), some (0, 0), none, none]) c_67_51 rfl rfl (n_iload c_67_53 rfl ?_))
              refine n_if0_eq c_67_55 (by omega) ?_ ?_
              · intro h18
                refine n_iload_n c_67_62 rfl (n_istore (L2 := [some (2, 38), some (0, x1), some (0, 1), some (0, x3), some (0, x4), some (0, 0), some (0, 1), none]) c_67_63 rfl rfl (n_fg (le_s (le_s (le_s (le_s (le_s (le_n (le_s (le_n le_0)))))))) ?_))
                exact ih.2.2.2.1 _ _ _ _ _ M hS (by omega) (by omega) (by omega) (by omega) (by omega) (by omega) (by omega) (by omega) (by omega) (by omega)
              · intro h19
                exfalso; omega
            · intro h20
              refine n_iconst c_67_46 (n_goto c_67_47 (n_istore (L2 := [some (2, 38), some (0, x1), some (0, 1), some (0, x3), some (0, x4), some (0, 1), none, none]) c_67_51 rfl rfl (n_iload c_67_53 rfl ?_)))
              refine n_if0_eq c_67_55 (by omega) ?_ ?_
              · intro h21
                exfalso; omega
              · intro h22
                refine n_iconst c_67_58 (n_goto c_67_59 (n_istore (L2 := [some (2, 38), some (0, x1), some (0, 1), some (0, x3), some (0, x4), some (0, 1), some (0, 0), none]) c_67_63 rfl rfl (n_fg (le_s (le_s (le_s (le_s (le_s (le_n (le_s (le_n le_0)))))))) ?_)))
                exact ih.2.2.2.1 _ _ _ _ _ M hS (by omega) (by omega) (by omega) (by omega) (by omega) (by omega) (by omega) (by omega) (by omega) (by omega)
      · skip
        refine n_iload c_67_29 rfl (n_iload_n c_67_31 rfl ?_)
        refine n_if2_gt c_67_32 (by omega) (by omega) ?_ ?_
        · intro h23
          refine n_iinc (L2 := [some (2, 38), some (0, x1), some (0, 2), some (0, (x3 + 1)), some (0, x4), none, none, none]) c_67_141 rfl rfl rfl (n_goto c_67_144 (n_fg (le_s (le_s (le_s (le_s (le_n (le_n (le_n (le_n le_0)))))))) ?_))
          exact ih.2.1 _ _ _ M hS (by omega) (by omega) (by omega) (by omega) (by omega)
        · intro h24
          refine n_iload_n c_67_35 rfl (n_iload_n c_67_36 rfl ?_)
          refine n_if2_eq c_67_37 (by omega) (by omega) ?_ ?_
          · intro h25
            refine n_iconst c_67_46 (n_goto c_67_47 (n_istore (L2 := [some (2, 38), some (0, x1), some (0, 2), some (0, x3), some (0, x4), some (0, 1), none, none]) c_67_51 rfl rfl (n_iload c_67_53 rfl ?_)))
            refine n_if0_eq c_67_55 (by omega) ?_ ?_
            · intro h26
              exfalso; omega
            · intro h27
              refine n_iconst c_67_58 (n_goto c_67_59 (n_istore (L2 := [some (2, 38), some (0, x1), some (0, 2), some (0, x3), some (0, x4), some (0, 1), some (0, 0), none]) c_67_63 rfl rfl (n_fg (le_s (le_s (le_s (le_s (le_s (le_n (le_s (le_n le_0)))))))) ?_)))
              exact ih.2.2.2.1 _ _ _ _ _ M hS (by omega) (by omega) (by omega) (by omega) (by omega) (by omega) (by omega) (by omega) (by omega) (by omega)
          · intro h28
            refine n_iload c_67_40 rfl (n_iload_n c_67_42 rfl ?_)
            refine n_if2_ne c_67_43 (by omega) (by omega) ?_ ?_
            · intro h29
              refine n_iconst c_67_50 (n_istore (L2 := [some (2, 38), some (0, x1), some (0, 2), some (0, x3), some (0, x4), some (0, 0), none, none]) c_67_51 rfl rfl (n_iload c_67_53 rfl ?_))
              refine n_if0_eq c_67_55 (by omega) ?_ ?_
              · intro h30
                refine n_iload_n c_67_62 rfl (n_istore (L2 := [some (2, 38), some (0, x1), some (0, 2), some (0, x3), some (0, x4), some (0, 0), some (0, 2), none]) c_67_63 rfl rfl (n_fg (le_s (le_s (le_s (le_s (le_s (le_n (le_s (le_n le_0)))))))) ?_))
                exact ih.2.2.2.1 _ _ _ _ _ M hS (by omega) (by omega) (by omega) (by omega) (by omega) (by omega) (by omega) (by omega) (by omega) (by omega)
              · intro h31
                exfalso; omega
            · intro h32
              refine n_iconst c_67_46 (n_goto c_67_47 (n_istore (L2 := [some (2, 38), some (0, x1), some (0, 2), some (0, x3), some (0, x4), some (0, 1), none, none]) c_67_51 rfl rfl (n_iload c_67_53 rfl ?_)))
              refine n_if0_eq c_67_55 (by omega) ?_ ?_
              · intro h33
                exfalso; omega
              · intro h34
                refine n_iconst c_67_58 (n_goto c_67_59 (n_istore (L2 := [some (2, 38), some (0, x1), some (0, 2), some (0, x3), some (0, x4), some (0, 1), some (0, 0), none]) c_67_63 rfl rfl (n_fg (le_s (le_s (le_s (le_s (le_s (le_n (le_s (le_n le_0)))))))) ?_)))
                exact ih.2.2.2.1 _ _ _ _ _ M hS (by omega) (by omega) (by omega) (by omega) (by omega) (by omega) (by omega) (by omega) (by omega) (by omega)
      · skip
        refine n_iload c_67_29 rfl (n_iload_n c_67_31 rfl ?_)
        refine n_if2_gt c_67_32 (by omega) (by omega) ?_ ?_
        · intro h35
          refine n_iinc (L2 := [some (2, 38), some (0, x1), some (0, 3), some (0, (x3 + 1)), some (0, x4), none, none, none]) c_67_141 rfl rfl rfl (n_goto c_67_144 (n_fg (le_s (le_s (le_s (le_s (le_n (le_n (le_n (le_n le_0)))))))) ?_))
          exact ih.2.1 _ _ _ M hS (by omega) (by omega) (by omega) (by omega) (by omega)
        · intro h36
          refine n_iload_n c_67_35 rfl (n_iload_n c_67_36 rfl ?_)
          refine n_if2_eq c_67_37 (by omega) (by omega) ?_ ?_
          · intro h37
            refine n_iconst c_67_46 (n_goto c_67_47 (n_istore (L2 := [some (2, 38), some (0, x1), some (0, 3), some (0, x3), some (0, x4), some (0, 1), none, none]) c_67_51 rfl rfl (n_iload c_67_53 rfl ?_)))
            refine n_if0_eq c_67_55 (by omega) ?_ ?_
            · intro h38
              exfalso; omega
            · intro h39
              refine n_iconst c_67_58 (n_goto c_67_59 (n_istore (L2 := [some (2, 38), some (0, x1), some (0, 3), some (0, x3), some (0, x4), some (0, 1), some (0, 0), none]) c_67_63 rfl rfl (n_fg (le_s (le_s (le_s (le_s (le_s (le_n (le_s (le_n le_0)))))))) ?_)))
              exact ih.2.2.2.1 _ _ _ _ _ M hS (by omega) (by omega) (by omega) (by omega) (by omega) (by omega) (by omega) (by omega) (by omega) (by omega)
          · intro h40
            refine n_iload c_67_40 rfl (n_iload_n c_67_42 rfl ?_)
            refine n_if2_ne c_67_43 (by omega) (by omega) ?_ ?_
            · intro h41
              refine n_iconst c_67_50 (n_istore (L2 := [some (2, 38), some (0, x1), some (0, 3), some (0, x3), some (0, x4), some (0, 0), none, none]) c_67_51 rfl rfl (n_iload c_67_53 rfl ?_))
              refine n_if0_eq c_67_55 (by omega) ?_ ?_
              · intro h42
                refine n_iload_n c_67_62 rfl (n_istore (L2 := [some (2, 38), some (0, x1), some (0, 3), some (0, x3), some (0, x4), some (0, 0), some (0, 3), none]) c_67_63 rfl rfl (n_fg (le_s (le_s (le_s (le_s (le_s (le_n (le_s (le_n le_0)))))))) ?_))
                exact ih.2.2.2.1 _ _ _ _ _ M hS (by omega) (by omega) (by omega) (by omega) (by omega) (by omega) (by omega) (by omega) (by omega) (by omega)
              · intro h43
                exfalso; omega
            · intro h44
              refine n_iconst c_67_46 (n_goto c_67_47 (n_istore (L2 := [some (2, 38), some (0, x1), some (0, 3), some (0, x3), some (0, x4), some (0, 1), none, none]) c_67_51 rfl rfl (n_iload c_67_53 rfl ?_)))
              refine n_if0_eq c_67_55 (by omega) ?_ ?_
              · intro h45
                exfalso; omega
              · intro h46
                refine n_iconst c_67_58 (n_goto c_67_59 (n_istore (L2 := [some (2, 38), some (0, x1), some (0, 3), some (0, x3), some (0, x4), some (0, 1), some (0, 0), none]) c_67_63 rfl rfl (n_fg (le_s (le_s (le_s (le_s (le_s (le_n (le_s (le_n le_0)))))))) ?_)))
                exact ih.2.2.2.1 _ _ _ _ _ M hS (by omega) (by omega) (by omega) (by omega) (by omega) (by omega) (by omega) (by omega) (by omega) (by omega)
      · skip
        refine n_iload c_67_29 rfl (n_iload_n c_67_31 rfl ?_)
        refine n_if2_gt c_67_32 (by omega) (by omega) ?_ ?_
        · intro h47
          refine n_iinc (L2 := [some (2, 38), some (0, x1), some (0, 4), some (0, (x3 + 1)), some (0, x4), none, none, none]) c_67_141 rfl rfl rfl (n_goto c_67_144 (n_fg (le_s (le_s (le_s (le_s (le_n (le_n (le_n (le_n le_0)))))))) ?_))
          exact ih.2.1 _ _ _ M hS (by omega) (by omega) (by omega) (by omega) (by omega)
        · intro h48
          refine n_iload_n c_67_35 rfl (n_iload_n c_67_36 rfl ?_)
          refine n_if2_eq c_67_37 (by omega) (by omega) ?_ ?_
          · intro h49
            refine n_iconst c_67_46 (n_goto c_67_47 (n_istore (L2 := [some (2, 38), some (0, x1), some (0, 4), some (0, x3), some (0, x4), some (0, 1), none, none]) c_67_51 rfl rfl (n_iload c_67_53 rfl ?_)))
            refine n_if0_eq c_67_55 (by omega) ?_ ?_
            · intro h50
              exfalso; omega
            · intro h51
              refine n_iconst c_67_58 (n_goto c_67_59 (n_istore (L2 := [some (2, 38), some (0, x1), some (0, 4), some (0, x3), some (0, x4), some (0, 1), some (0, 0), none]) c_67_63 rfl rfl (n_fg (le_s (le_s (le_s (le_s (le_s (le_n (le_s (le_n le_0)))))))) ?_)))
              exact ih.2.2.2.1 _ _ _ _ _ M hS (by omega) (by omega) (by omega) (by omega) (by omega) (by omega) (by omega) (by omega) (by omega) (by omega)
          · intro h52
            refine n_iload c_67_40 rfl (n_iload_n c_67_42 rfl ?_)
            refine n_if2_ne c_67_43 (by omega) (by omega) ?_ ?_
            · intro h53
              refine n_iconst c_67_50 (n_istore (L2 := [some (2, 38), some (0, x1), some (0, 4), some (0, x3), some (0, x4), some (0, 0), none, none]) c_67_51 rfl rfl (n_iload c_67_53 rfl ?_))
              refine n_if0_eq c_67_55 (by omega) ?_ ?_
              · intro h54
                refine n_iload_n c_67_62 rfl (n_istore (L2 := [some (2, 38), some (0, x1), some (0, 4), some (0, x3), some (0, x4), some (0, 0), some (0, 4), none]) c_67_63 rfl rfl (n_fg (le_s (le_s (le_s (le_s (le_s (le_n (le_s (le_n le_0)))))))) ?_))
                exact ih.2.2.2.1 _ _ _ _ _ M hS (by omega) (by omega) (by omega) (by omega) (by omega) (by omega) (by omega) (by omega) (by omega) (by omega)
              · intro h55
                exfalso; omega
            · intro h56
              refine n_iconst c_67_46 (n_goto c_67_47 (n_istore (L2 := [some (2, 38), some (0, x1), some (0, 4), some (0, x3), some (0, x4), some (0, 1), none, none]) c_67_51 rfl rfl (n_iload c_67_53 rfl ?_)))
              refine n_if0_eq c_67_55 (by omega) ?_ ?_
              · intro h57
                exfalso; omega
              · intro h58
                refine n_iconst c_67_58 (n_goto c_67_59 (n_istore (L2 := [some (2, 38), some (0, x1), some (0, 4), some (0, x3), some (0, x4), some (0, 1), some (0, 0), none]) c_67_63 rfl rfl (n_fg (le_s (le_s (le_s (le_s (le_s (le_n (le_s (le_n le_0)))))))) ?_)))
                exact ih.2.2.2.1 _ _ _ _ _ M hS (by omega) (by omega) (by omega) (by omega) (by omega) (by omega) (by omega) (by omega) (by omega) (by omega)
      · skip
        refine n_iload c_67_29 rfl (n_iload_n c_67_31 rfl ?_)
        refine n_if2_gt c_67_32 (by omega) (by omega) ?_ ?_
        · intro h59
          refine n_iinc (L2 := [some (2, 38), some (0, x1), some (0, 5), some (0, (x3 + 1)), some (0, x4), none, none, none]) c_67_141 rfl rfl rfl (n_goto c_67_144 (n_fg (le_s (le_s (le_s (le_s (le_n (le_n (le_n (le_n le_0)))))))) ?_))
          exact ih.2.1 _ _ _ M hS (by omega) (by omega) (by omega) (by omega) (by omega)
        · intro h60
          refine n_iload_n c_67_35 rfl (n_iload_n c_67_36 rfl ?_)
          refine n_if2_eq c_67_37 (by omega) (by omega) ?_ ?_
          · intro h61
            refine n_iconst c_67_46 (n_goto c_67_47 (n_istore (L2 := [some (2, 38), some (0, x1), some (0, 5), some (0, x3), some (0, x4), some (0, 1), none, none]) c_67_51 rfl rfl (n_iload c_67_53 rfl ?_)))
            refine n_if0_eq c_67_55 (by omega) ?_ ?_
            · intro h62
              exfalso; omega
            · intro h63
              refine n_iconst c_67_58 (n_goto c_67_59 (n_istore (L2 := [some (2, 38), some (0, x1), some (0, 5), some (0, x3), some (0, x4), some (0, 1), some (0, 0), none]) c_67_63 rfl rfl (n_fg (le_s (le_s (le_s (le_s (le_s (le_n (le_s (le_n le_0)))))))) ?_)))
              exact ih.2.2.2.1 _ _ _ _ _ M hS (by omega) (by omega) (by omega) (by omega) (by omega) (by omega) (by omega) (by omega) (by omega) (by omega)
          · intro h64
            refine n_iload c_67_40 rfl (n_iload_n c_67_42 rfl ?_)
            refine n_if2_ne c_67_43 (by omega) (by omega) ?_ ?_
            · intro h65
              refine n_iconst c_67_50 (n_istore (L2 := [some (2, 38), some (0, x1), some (0, 5), some (0, x3), some (0, x4), some (0, 0), none, none]) c_67_51 rfl rfl (n_iload c_67_53 rfl ?_))
              refine n_if0_eq c_67_55 (by omega) ?_ ?_
              · intro h66
                refine n_iload_n c_67_62 rfl (n_istore (L2 := [some (2, 38), some (0, x1), some (0, 5), some (0, x3), some (0, x4), some (0, 0), some (0, 5), none]) c_67_63 rfl rfl (n_fg (le_s (le_s (le_s (le_s (le_s (le_n (le_s (le_n le_0)))))))) ?_))
                exact ih.2.2.2.1 _ _ _ _ _ M hS (by omega) (by omega) (by omega) (by omega) (by omega) (by omega) (by omega) (by omega) (by omega) (by omega)
              · intro h67
                exfalso; omega
            · intro h68
              refine n_iconst c_67_46 (n_goto c_67_47 (n_istore (L2 := [some (2, 38), some (0, x1), some (0, 5), some (0, x3), some (0, x4), some (0, 1), none, none]) c_67_51 rfl rfl (n_iload c_67_53 rfl ?_)))
              refine n_if0_eq c_67_55 (by omega) ?_ ?_
              · intro h69
                exfalso; omega
              · intro h70
                refine n_iconst c_67_58 (n_goto c_67_59 (n_istore (L2 := [some (2, 38), some (0, x1), some (0, 5), some (0, x3), some (0, x4), some (0, 1), some (0, 0), none]) c_67_63 rfl rfl (n_fg (le_s (le_s (le_s (le_s (le_s (le_n (le_s (le_n le_0)))))))) ?_)))
                exact ih.2.2.2.1 _ _ _ _ _ M hS (by omega) (by omega) (by omega) (by omega) (by omega) (by omega) (by omega) (by omega) (by omega) (by omega)
      · skip
        refine n_iload c_67_29 rfl (n_iload_n c_67_31 rfl ?_)
        refine n_if2_gt c_67_32 (by omega) (by omega) ?_ ?_
        · intro h71
          refine n_iinc (L2 := [some (2, 38), some (0, x1), some (0, 6), some (0, (x3 + 1)), some (0, x4), none, none, none]) c_67_141 rfl rfl rfl (n_goto c_67_144 (n_fg (le_s (le_s (le_s (le_s (le_n (le_n (le_n (le_n le_0)))))))) ?_))
          exact ih.2.1 _ _ _ M hS (by omega) (by omega) (by omega) (by omega) (by omega)
        · intro h72
          refine n_iload_n c_67_35 rfl (n_iload_n c_67_36 rfl ?_)
          refine n_if2_eq c_67_37 (by omega) (by omega) ?_ ?_
          · intro h73
            refine n_iconst c_67_46 (n_goto c_67_47 (n_istore (L2 := [some (2, 38), some (0, x1), some (0, 6), some (0, x3), some (0, x4), some (0, 1), none, none]) c_67_51 rfl rfl (n_iload c_67_53 rfl ?_)))
            refine n_if0_eq c_67_55 (by omega) ?_ ?_
            · intro h74
              exfalso; omega
            · intro h75
              refine n_iconst c_67_58 (n_goto c_67_59 (n_istore (L2 := [some (2, 38), some (0, x1), some (0, 6), some (0, x3), some (0, x4), some (0, 1), some (0, 0), none]) c_67_63 rfl rfl (n_fg (le_s (le_s (le_s (le_s (le_s (le_n (le_s (le_n le_0)))))))) ?_)))
              exact ih.2.2.2.1 _ _ _ _ _ M hS (by omega) (by omega) (by omega) (by omega) (by omega) (by omega) (by omega) (by omega) (by omega) (by omega)
          · intro h76
            refine n_iload c_67_40 rfl (n_iload_n c_67_42 rfl ?_)
            refine n_if2_ne c_67_43 (by omega) (by omega) ?_ ?_
            · intro h77
              refine n_iconst c_67_50 (n_istore (L2 := [some (2, 38), some (0, x1), some (0, 6), some (0, x3), some (0, x4), some (0, 0), none, none]) c_67_51 rfl rfl (n_iload c_67_53 rfl ?_))
              refine n_if0_eq c_67_55 (by omega) ?_ ?_
              · intro h78
                refine n_iload_n c_67_62 rfl (n_istore (L2 := [some (2, 38), some (0, x1), some (0, 6), some (0, x3), some (0, x4), some (0, 0), some (0, 6), none]) c_67_63 rfl rfl (n_fg (le_s (le_s (le_s (le_s (le_s (le_n (le_s (le_n le_0)))))))) ?_))
                exact ih.2.2.2.1 _ _ _ _ _ M hS (by omega) (by omega) (by omega) (by omega) (by omega) (by omega) (by omega) (by omega) (by omega) (by omega)
              · intro h79
                exfalso; omega
            · intro h80
              refine n_iconst c_67_46 (n_goto c_67_47 (n_istore (L2 := [some (2, 38), some (0, x1), some (0, 6), some (0, x3), some (0, x4), some (0, 1), none, none]) c_67_51 rfl rfl (n_iload c_67_53 rfl ?_)))
              refine n_if0_eq c_67_55 (by omega) ?_ ?_
              · intro h81
                exfalso; omega
              · intro h82
                refine n_iconst c_67_58 (n_goto c_67_59 (n_istore (L2 := [some (2, 38), some (0, x1), some (0, 6), some (0, x3), some (0, x4), some (0, 1), some (0, 0), none]) c_67_63 rfl rfl (n_fg (le_s (le_s (le_s (le_s (le_s (le_n (le_s (le_n le_0)))))))) ?_)))
                exact ih.2.2.2.1 _ _ _ _ _ M hS (by omega) (by omega) (by omega) (by omega) (by omega) (by omega) (by omega) (by omega) (by omega) (by omega)
      · skip
        refine n_iload c_67_29 rfl (n_iload_n c_67_31 rfl ?_)
        refine n_if2_gt c_67_32 (by omega) (by omega) ?_ ?_
        · intro h83
          refine n_iinc (L2 := [some (2, 38), some (0, x1), some (0, 7), some (0, (x3 + 1)), some (0, x4), none, none, none]) c_67_141 rfl rfl rfl (n_goto c_67_144 (n_fg (le_s (le_s (le_s (le_s (le_n (le_n (le_n (le_n le_0)))))))) ?_))
          exact ih.2.1 _ _ _ M hS (by omega) (by omega) (by omega) (by omega) (by omega)
        · intro h84
          refine n_iload_n c_67_35 rfl (n_iload_n c_67_36 rfl ?_)
          refine n_if2_eq c_67_37 (by omega) (by omega) ?_ ?_
          · intro h85
            refine n_iconst c_67_46 (n_goto c_67_47 (n_istore (L2 := [some (2, 38), some (0, x1), some (0, 7), some (0, x3), some (0, x4), some (0, 1), none, none]) c_67_51 rfl rfl (n_iload c_67_53 rfl ?_)))
            refine n_if0_eq c_67_55 (by omega) ?_ ?_
            · intro h86
              exfalso; omega
            · intro h87
              refine n_iconst c_67_58 (n_goto c_67_59 (n_istore (L2 := [some (2, 38), some (0, x1), some (0, 7), some (0, x3), some (0, x4), some (0, 1), some (0, 0), none]) c_67_63 rfl rfl (n_fg (le_s (le_s (le_s (le_s (le_s (le_n (le_s (le_n le_0)))))))) ?_)))
              exact ih.2.2.2.1 _ _ _ _ _ M hS (by omega) (by omega) (by omega) (by omega) (by omega) (by omega) (by omega) (by omega) (by omega) (by omega)
          · intro h88
            refine n_iload c_67_40 rfl (n_iload_n c_67_42 rfl ?_)
            refine n_if2_ne c_67_43 (by omega) (by omega) ?_ ?_
            · intro h89
              refine n_iconst c_67_50 (n_istore (L2 := [some (2, 38), some (0, x1), some (0, 7), some (0, x3), some (0, x4), some (0, 0), none, none]) c_67_51 rfl rfl (n_iload c_67_53 rfl ?_))
              refine n_if0_eq c_67_55 (by omega) ?_ ?_
              · intro h90
                refine n_iload_n c_67_62 rfl (n_istore (L2 := [some (2, 38), some (0, x1), some (0, 7), some (0, x3), some (0, x4), some (0, 0), some (0, 7), none]) c_67_63 rfl rfl (n_fg (le_s (le_s (le_s (le_s (le_s (le_n (le_s (le_n le_0)))))))) ?_))
                exact ih.2.2.2.1 _ _ _ _ _ M hS (by omega) (by omega) (by omega) (by omega) (by omega) (by omega) (by omega) (by omega) (by omega) (by omega)
              · intro h91
                exfalso; omega
            · intro h92
              refine n_iconst c_67_46 (n_goto c_67_47 (n_istore (L2 := [some (2, 38), some (0, x1), some (0, 7), some (0, x3), some (0, x4), some (0, 1), none, none]) c_67_51 rfl rfl (n_iload c_67_53 rfl ?_)))
              refine n_if0_eq c_67_55 (by omega) ?_ ?_
              · intro h93
                exfalso; omega
              · intro h94
                refine n_iconst c_67_58 (n_goto c_67_59 (n_istore (L2 := [some (2, 38), some (0, x1), some (0, 7), some (0, x3), some (0, x4), some (0, 1), some (0, 0), none]) c_67_63 rfl rfl (n_fg (le_s (le_s (le_s (le_s (le_s (le_n (le_s (le_n le_0)))))))) ?_)))
                exact ih.2.2.2.1 _ _ _ _ _ M hS (by omega) (by omega) (by omega) (by omega) (by omega) (by omega) (by omega) (by omega) (by omega) (by omega)
      · skip
        refine n_iload c_67_29 rfl (n_iload_n c_67_31 rfl ?_)
        refine n_if2_gt c_67_32 (by omega) (by omega) ?_ ?_
        · intro h95
          refine n_iinc (L2 := [some (2, 38), some (0, x1), some (0, 8), some (0, (x3 + 1)), some (0, x4), none, none, none]) c_67_141 rfl rfl rfl (n_goto c_67_144 (n_fg (le_s (le_s (le_s (le_s (le_n (le_n (le_n (le_n le_0)))))))) ?_))
          exact ih.2.1 _ _ _ M hS (by omega) (by omega) (by omega) (by omega) (by omega)
        · intro h96
          refine n_iload_n c_67_35 rfl (n_iload_n c_67_36 rfl ?_)
          refine n_if2_eq c_67_37 (by omega) (by omega) ?_ ?_
          · intro h97
            refine n_iconst c_67_46 (n_goto c_67_47 (n_istore (L2 := [some (2, 38), some (0, x1), some (0, 8), some (0, x3), some (0, x4), some (0, 1), none, none]) c_67_51 rfl rfl (n_iload c_67_53 rfl ?_)))
            refine n_if0_eq c_67_55 (by omega) ?_ ?_
            · intro h98
              exfalso; omega
            · intro h99
              refine n_iconst c_67_58 (n_goto c_67_59 (n_istore (L2 := [some (2, 38), some (0, x1), some (0, 8), some (0, x3), some (0, x4), some (0, 1), some (0, 0), none]) c_67_63 rfl rfl (n_fg (le_s (le_s (le_s (le_s (le_s (le_n (le_s (le_n le_0)))))))) ?_)))
              exact ih.2.2.2.1 _ _ _ _ _ M hS (by omega) (by omega) (by omega) (by omega) (by omega) (by omega) (by omega) (by omega) (by omega) (by omega)
          · intro h100
            refine n_iload c_67_40 rfl (n_iload_n c_67_42 rfl ?_)
            refine n_if2_ne c_67_43 (by omega) (by omega) ?_ ?_
            · intro h101
              refine n_iconst c_67_50 (n_istore (L2 := [some (2, 38), some (0, x1), some (0, 8), some (0, x3), some (0, x4), some (0, 0), none, none]) c_67_51 rfl rfl (n_iload c_67_53 rfl ?_))
              refine n_if0_eq c_67_55 (by omega) ?_ ?_
              · intro h102
                refine n_iload_n c_67_62 rfl (n_istore (L2 := [some (2, 38), some (0, x1), some (0, 8), some (0, x3), some (0, x4), some (0, 0), some (0, 8), none]) c_67_63 rfl rfl (n_fg (le_s (le_s (le_s (le_s (le_s (le_n (le_s (le_n le_0)))))))) ?_))
                exact ih.2.2.2.1 _ _ _ _ _ M hS (by omega) (by omega) (by omega) (by omega) (by omega) (by omega) (by omega) (by omega) (by omega) (by omega)
              · intro h103
                exfalso; omega
            · intro h104
              refine n_iconst c_67_46 (n_goto c_67_47 (n_istore (L2 := [some (2, 38), some (0, x1), some (0, 8), some (0, x3), some (0, x4), some (0, 1), none, none]) c_67_51 rfl rfl (n_iload c_67_53 rfl ?_)))
              refine n_if0_eq c_67_55 (by omega) ?_ ?_
              · intro h105
                exfalso; omega
              · intro h106
                refine n_iconst c_67_58 (n_goto c_67_59 (n_istore (L2 := [some (2, 38), some (0, x1), some (0, 8), some (0, x3), some (0, x4), some (0, 1), some (0, 0), none]) c_67_63 rfl rfl (n_fg (le_s (le_s (le_s (le_s (le_s (le_n (le_s (le_n le_0)))))))) ?_)))
                exact ih.2.2.2.1 _ _ _ _ _ M hS (by omega) (by omega) (by omega) (by omega) (by omega) (by omega) (by omega) (by omega) (by omega) (by omega)
    · intro x1 x2 x3 x4 x6 M hS k1 k2 k3 k4 k6 v0 v1 v2 v3 hnn
      rcases (show x2 = 0 ∨ x2 = 1 ∨ x2 = 2 ∨ x2 = 3 ∨ x2 = 4 ∨ x2 = 5 ∨ x2 = 6 ∨ x2 = 7 ∨ x2 = 8 by omega) with rfl | rfl | rfl | rfl | rfl | rfl | rfl | rfl | rfl
      · skip
        refine n_iload c_67_65 rfl (n_iload_n c_67_67 rfl ?_)
        refine n_if2_gt c_67_68 (by omega) (by omega) ?_ ?_
        · intro h1
          refine n_iinc (L2 := [some (2, 38), some (0, x1), some (0, 0), some (0, x3), some (0, (x4 + 1)), none, some (0, x6), none]) c_67_135 rfl rfl rfl (n_goto c_67_138 (n_fg (le_s (le_s (le_s (le_s (le_s (le_n (le_n (le_n le_0)))))))) ?_))
          exact ih.2.2.1 _ _ _ _ M hS (by omega) (by omega) (by omega) (by omega) (by omega) (by omega) (by omega) (by omega)
        · intro h2
          refine n_aload_n c_67_71 rfl (n_getR c_67_72 sc_38.n rfl rfl rfl r_38_1 (n_iload_n c_67_75 rfl (n_bipush c_67_76 rfl (n_imul c_67_78 rfl (n_iload c_67_79 rfl (n_iadd c_67_81 rfl (n_bipush c_67_82 rfl (n_imul c_67_84 rfl (n_iload c_67_85 rfl (n_iadd c_67_87 rfl (n_ialoadV c_67_88 sc_40.n rfl rfl rfl (by omega) (t_40 hS (by omega)) ?_)))))))))))
          intro z3 ez3 f4
          refine n_istore (L2 := [some (2, 38), some (0, x1), some (0, 0), some (0, x3), some (0, x4), none, some (0, x6), some (0, z3)]) c_67_89 rfl rfl (n_iload c_67_91 rfl (n_aload_n c_67_93 rfl (n_getV (bi := 7) c_67_94 sc_38.n rfl rfl rfl (t_38_7 hS) ?_)))
          intro z5 ez5 f6
          refine n_if2_eq c_67_97 (by omega) (by omega) ?_ ?_
          · intro h7
            refine n_fg (le_s (le_s (le_s (le_s (le_s (le_n (le_s (le_n le_0)))))))) ?_
            exact ih.2.2.2.2 _ _ _ _ _ M hS (by omega) (by omega) (by omega) (by omega) (by omega) (by omega) (by omega) (by omega) (by omega) (by omega) (by omega)
          · intro h8
            refine n_aload_n c_67_100 rfl (n_getR c_67_101 sc_38.n rfl rfl rfl r_38_2 (n_iload_n c_67_104 rfl (n_iload_n c_67_105 rfl (n_iload c_67_106 rfl (n_iconst c_67_108 (n_i_ishl c_67_109 rfl (n_i_ior c_67_110 rfl (n_iload c_67_111 rfl (n_bipush c_67_113 rfl (n_i_ishl c_67_115 rfl (n_i_ior c_67_116 rfl ?_)))))))))))
            refine n_iastore41 hS c_67_117 (by omega) (ckey_mk (by omega) (by omega) (by omega)) ?_
            intro M9 eM9 hS9
            refine n_aload_n c_67_118 rfl (n_getR c_67_119 sc_38.n rfl rfl rfl r_38_3 (n_iload_n c_67_122 rfl (n_iload c_67_123 rfl (n_iastoreV hS9 c_67_125 sc_42.n rfl (by omega) (w_42 (by omega) (by omega)) ?_))))
            intro M10 eM10 hS10
            refine n_iinc (L2 := [some (2, 38), some (0, (x1 + 1)), some (0, 0), some (0, x3), some (0, x4), none, some (0, x6), some (0, z3)]) c_67_126 rfl rfl rfl (n_fg (le_s (le_s (le_s (le_s (le_s (le_n (le_s (le_n le_0)))))))) ?_)
            exact ih.2.2.2.2 _ _ _ _ _ M10 hS10 (by omega) (by omega) (by omega) (by omega) (by omega) (by omega) (by omega) (by omega) (by omega) (by omega) (by omega)
      · skip
        refine n_iload c_67_65 rfl (n_iload_n c_67_67 rfl ?_)
        refine n_if2_gt c_67_68 (by omega) (by omega) ?_ ?_
        · intro h11
          refine n_iinc (L2 := [some (2, 38), some (0, x1), some (0, 1), some (0, x3), some (0, (x4 + 1)), none, some (0, x6), none]) c_67_135 rfl rfl rfl (n_goto c_67_138 (n_fg (le_s (le_s (le_s (le_s (le_s (le_n (le_n (le_n le_0)))))))) ?_))
          exact ih.2.2.1 _ _ _ _ M hS (by omega) (by omega) (by omega) (by omega) (by omega) (by omega) (by omega) (by omega)
        · intro h12
          refine n_aload_n c_67_71 rfl (n_getR c_67_72 sc_38.n rfl rfl rfl r_38_1 (n_iload_n c_67_75 rfl (n_bipush c_67_76 rfl (n_imul c_67_78 rfl (n_iload c_67_79 rfl (n_iadd c_67_81 rfl (n_bipush c_67_82 rfl (n_imul c_67_84 rfl (n_iload c_67_85 rfl (n_iadd c_67_87 rfl (n_ialoadV c_67_88 sc_40.n rfl rfl rfl (by omega) (t_40 hS (by omega)) ?_)))))))))))
          intro z13 ez13 f14
          refine n_istore (L2 := [some (2, 38), some (0, x1), some (0, 1), some (0, x3), some (0, x4), none, some (0, x6), some (0, z13)]) c_67_89 rfl rfl (n_iload c_67_91 rfl (n_aload_n c_67_93 rfl (n_getV (bi := 7) c_67_94 sc_38.n rfl rfl rfl (t_38_7 hS) ?_)))
          intro z15 ez15 f16
          refine n_if2_eq c_67_97 (by omega) (by omega) ?_ ?_
          · intro h17
            refine n_fg (le_s (le_s (le_s (le_s (le_s (le_n (le_s (le_n le_0)))))))) ?_
            exact ih.2.2.2.2 _ _ _ _ _ M hS (by omega) (by omega) (by omega) (by omega) (by omega) (by omega) (by omega) (by omega) (by omega) (by omega) (by omega)
          · intro h18
            refine n_aload_n c_67_100 rfl (n_getR c_67_101 sc_38.n rfl rfl rfl r_38_2 (n_iload_n c_67_104 rfl (n_iload_n c_67_105 rfl (n_iload c_67_106 rfl (n_iconst c_67_108 (n_i_ishl c_67_109 rfl (n_i_ior c_67_110 rfl (n_iload c_67_111 rfl (n_bipush c_67_113 rfl (n_i_ishl c_67_115 rfl (n_i_ior c_67_116 rfl ?_)))))))))))
            refine n_iastore41 hS c_67_117 (by omega) (ckey_mk (by omega) (by omega) (by omega)) ?_
            intro M19 eM19 hS19
            refine n_aload_n c_67_118 rfl (n_getR c_67_119 sc_38.n rfl rfl rfl r_38_3 (n_iload_n c_67_122 rfl (n_iload c_67_123 rfl (n_iastoreV hS19 c_67_125 sc_42.n rfl (by omega) (w_42 (by omega) (by omega)) ?_))))
            intro M20 eM20 hS20
            refine n_iinc (L2 := [some (2, 38), some (0, (x1 + 1)), some (0, 1), some (0, x3), some (0, x4), none, some (0, x6), some (0, z13)]) c_67_126 rfl rfl rfl (n_fg (le_s (le_s (le_s (le_s (le_s (le_n (le_s (le_n le_0)))))))) ?_)
            exact ih.2.2.2.2 _ _ _ _ _ M20 hS20 (by omega) (by omega) (by omega) (by omega) (by omega) (by omega) (by omega) (by omega) (by omega) (by omega) (by omega)
      · skip
        refine n_iload c_67_65 rfl (n_iload_n c_67_67 rfl ?_)
        refine n_if2_gt c_67_68 (by omega) (by omega) ?_ ?_
        · intro h21
          refine n_iinc (L2 := [some (2, 38), some (0, x1), some (0, 2), some (0, x3), some (0, (x4 + 1)), none, some (0, x6), none]) c_67_135 rfl rfl rfl (n_goto c_67_138 (n_fg (le_s (le_s (le_s (le_s (le_s (le_n (le_n (le_n le_0)))))))) ?_))
          exact ih.2.2.1 _ _ _ _ M hS (by omega) (by omega) (by omega) (by omega) (by omega) (by omega) (by omega) (by omega)
        · intro h22
          refine n_aload_n c_67_71 rfl (n_getR c_67_72 sc_38.n rfl rfl rfl r_38_1 (n_iload_n c_67_75 rfl (n_bipush c_67_76 rfl (n_imul c_67_78 rfl (n_iload c_67_79 rfl (n_iadd c_67_81 rfl (n_bipush c_67_82 rfl (n_imul c_67_84 rfl (n_iload c_67_85 rfl (n_iadd c_67_87 rfl (n_ialoadV c_67_88 sc_40.n rfl rfl rfl (by omega) (t_40 hS (by omega)) ?_)))))))))))
          intro z23 ez23 f24
          refine n_istore (L2 := [some (2, 38), some (0, x1), some (0, 2), some (0, x3), some (0, x4), none, some (0, x6), some (0, z23)]) c_67_89 rfl rfl (n_iload c_67_91 rfl (n_aload_n c_67_93 rfl (n_getV (bi := 7) c_67_94 sc_38.n rfl rfl rfl (t_38_7 hS) ?_)))
          intro z25 ez25 f26
          refine n_if2_eq c_67_97 (by omega) (by omega) ?_ ?_
          · intro h27
            refine n_fg (le_s (le_s (le_s (le_s (le_s (le_n (le_s (le_n le_0)))))))) ?_
            exact ih.2.2.2.2 _ _ _ _ _ M hS (by omega) (by omega) (by omega) (by omega) (by omega) (by omega) (by omega) (by omega) (by omega) (by omega) (by omega)
          · intro h28
            refine n_aload_n c_67_100 rfl (n_getR c_67_101 sc_38.n rfl rfl rfl r_38_2 (n_iload_n c_67_104 rfl (n_iload_n c_67_105 rfl (n_iload c_67_106 rfl (n_iconst c_67_108 (n_i_ishl c_67_109 rfl (n_i_ior c_67_110 rfl (n_iload c_67_111 rfl (n_bipush c_67_113 rfl (n_i_ishl c_67_115 rfl (n_i_ior c_67_116 rfl ?_)))))))))))
            refine n_iastore41 hS c_67_117 (by omega) (ckey_mk (by omega) (by omega) (by omega)) ?_
            intro M29 eM29 hS29
            refine n_aload_n c_67_118 rfl (n_getR c_67_119 sc_38.n rfl rfl rfl r_38_3 (n_iload_n c_67_122 rfl (n_iload c_67_123 rfl (n_iastoreV hS29 c_67_125 sc_42.n rfl (by omega) (w_42 (by omega) (by omega)) ?_))))
            intro M30 eM30 hS30
            refine n_iinc (L2 := [some (2, 38), some (0, (x1 + 1)), some (0, 2), some (0, x3), some (0, x4), none, some (0, x6), some (0, z23)]) c_67_126 rfl rfl rfl (n_fg (le_s (le_s (le_s (le_s (le_s (le_n (le_s (le_n le_0)))))))) ?_)
            exact ih.2.2.2.2 _ _ _ _ _ M30 hS30 (by omega) (by omega) (by omega) (by omega) (by omega) (by omega) (by omega) (by omega) (by omega) (by omega) (by omega)
      · skip
        refine n_iload c_67_65 rfl (n_iload_n c_67_67 rfl ?_)
        refine n_if2_gt c_67_68 (by omega) (by omega) ?_ ?_
        · intro h31
          refine n_iinc (L2 := [some (2, 38), some (0, x1), some (0, 3), some (0, x3), some (0, (x4 + 1)), none, some (0, x6), none]) c_67_135 rfl rfl rfl (n_goto c_67_138 (n_fg (le_s (le_s (le_s (le_s (le_s (le_n (le_n (le_n le_0)))))))) ?_))
          exact ih.2.2.1 _ _ _ _ M hS (by omega) (by omega) (by omega) (by omega) (by omega) (by omega) (by omega) (by omega)
        · intro h32
          refine n_aload_n c_67_71 rfl (n_getR c_67_72 sc_38.n rfl rfl rfl r_38_1 (n_iload_n c_67_75 rfl (n_bipush c_67_76 rfl (n_imul c_67_78 rfl (n_iload c_67_79 rfl (n_iadd c_67_81 rfl (n_bipush c_67_82 rfl (n_imul c_67_84 rfl (n_iload c_67_85 rfl (n_iadd c_67_87 rfl (n_ialoadV c_67_88 sc_40.n rfl rfl rfl (by omega) (t_40 hS (by omega)) ?_)))))))))))
          intro z33 ez33 f34
          refine n_istore (L2 := [some (2, 38), some (0, x1), some (0, 3), some (0, x3), some (0, x4), none, some (0, x6), some (0, z33)]) c_67_89 rfl rfl (n_iload c_67_91 rfl (n_aload_n c_67_93 rfl (n_getV (bi := 7) c_67_94 sc_38.n rfl rfl rfl (t_38_7 hS) ?_)))
          intro z35 ez35 f36
          refine n_if2_eq c_67_97 (by omega) (by omega) ?_ ?_
          · intro h37
            refine n_fg (le_s (le_s (le_s (le_s (le_s (le_n (le_s (le_n le_0)))))))) ?_
            exact ih.2.2.2.2 _ _ _ _ _ M hS (by omega) (by omega) (by omega) (by omega) (by omega) (by omega) (by omega) (by omega) (by omega) (by omega) (by omega)
          · intro h38
            refine n_aload_n c_67_100 rfl (n_getR c_67_101 sc_38.n rfl rfl rfl r_38_2 (n_iload_n c_67_104 rfl (n_iload_n c_67_105 rfl (n_iload c_67_106 rfl (n_iconst c_67_108 (n_i_ishl c_67_109 rfl (n_i_ior c_67_110 rfl (n_iload c_67_111 rfl (n_bipush c_67_113 rfl (n_i_ishl c_67_115 rfl (n_i_ior c_67_116 rfl ?_)))))))))))
            refine n_iastore41 hS c_67_117 (by omega) (ckey_mk (by omega) (by omega) (by omega)) ?_
            intro M39 eM39 hS39
            refine n_aload_n c_67_118 rfl (n_getR c_67_119 sc_38.n rfl rfl rfl r_38_3 (n_iload_n c_67_122 rfl (n_iload c_67_123 rfl (n_iastoreV hS39 c_67_125 sc_42.n rfl (by omega) (w_42 (by omega) (by omega)) ?_))))
            intro M40 eM40 hS40
            refine n_iinc (L2 := [some (2, 38), some (0, (x1 + 1)), some (0, 3), some (0, x3), some (0, x4), none, some (0, x6), some (0, z33)]) c_67_126 rfl rfl rfl (n_fg (le_s (le_s (le_s (le_s (le_s (le_n (le_s (le_n le_0)))))))) ?_)
            exact ih.2.2.2.2 _ _ _ _ _ M40 hS40 (by omega) (by omega) (by omega) (by omega) (by omega) (by omega) (by omega) (by omega) (by omega) (by omega) (by omega)
      · skip
        refine n_iload c_67_65 rfl (n_iload_n c_67_67 rfl ?_)
        refine n_if2_gt c_67_68 (by omega) (by omega) ?_ ?_
        · intro h41
          refine n_iinc (L2 := [some (2, 38), some (0, x1), some (0, 4), some (0, x3), some (0, (x4 + 1)), none, some (0, x6), none]) c_67_135 rfl rfl rfl (n_goto c_67_138 (n_fg (le_s (le_s (le_s (le_s (le_s (le_n (le_n (le_n le_0)))))))) ?_))
          exact ih.2.2.1 _ _ _ _ M hS (by omega) (by omega) (by omega) (by omega) (by omega) (by omega) (by omega) (by omega)
        · intro h42
          refine n_aload_n c_67_71 rfl (n_getR c_67_72 sc_38.n rfl rfl rfl r_38_1 (n_iload_n c_67_75 rfl (n_bipush c_67_76 rfl (n_imul c_67_78 rfl (n_iload c_67_79 rfl (n_iadd c_67_81 rfl (n_bipush c_67_82 rfl (n_imul c_67_84 rfl (n_iload c_67_85 rfl (n_iadd c_67_87 rfl (n_ialoadV c_67_88 sc_40.n rfl rfl rfl (by omega) (t_40 hS (by omega)) ?_)))))))))))
          intro z43 ez43 f44
          refine n_istore (L2 := [some (2, 38), some (0, x1), some (0, 4), some (0, x3), some (0, x4), none, some (0, x6), some (0, z43)]) c_67_89 rfl rfl (n_iload c_67_91 rfl (n_aload_n c_67_93 rfl (n_getV (bi := 7) c_67_94 sc_38.n rfl rfl rfl (t_38_7 hS) ?_)))
          intro z45 ez45 f46
          refine n_if2_eq c_67_97 (by omega) (by omega) ?_ ?_
          · intro h47
            refine n_fg (le_s (le_s (le_s (le_s (le_s (le_n (le_s (le_n le_0)))))))) ?_
            exact ih.2.2.2.2 _ _ _ _ _ M hS (by omega) (by omega) (by omega) (by omega) (by omega) (by omega) (by omega) (by omega) (by omega) (by omega) (by omega)
          · intro h48
            refine n_aload_n c_67_100 rfl (n_getR c_67_101 sc_38.n rfl rfl rfl r_38_2 (n_iload_n c_67_104 rfl (n_iload_n c_67_105 rfl (n_iload c_67_106 rfl (n_iconst c_67_108 (n_i_ishl c_67_109 rfl (n_i_ior c_67_110 rfl (n_iload c_67_111 rfl (n_bipush c_67_113 rfl (n_i_ishl c_67_115 rfl (n_i_ior c_67_116 rfl ?_)))))))))))
            refine n_iastore41 hS c_67_117 (by omega) (ckey_mk (by omega) (by omega) (by omega)) ?_
            intro M49 eM49 hS49
            refine n_aload_n c_67_118 rfl (n_getR c_67_119 sc_38.n rfl rfl rfl r_38_3 (n_iload_n c_67_122 rfl (n_iload c_67_123 rfl (n_iastoreV hS49 c_67_125 sc_42.n rfl (by omega) (w_42 (by omega) (by omega)) ?_))))
            intro M50 eM50 hS50
            refine n_iinc (L2 := [some (2, 38), some (0, (x1 + 1)), some (0, 4), some (0, x3), some (0, x4), none, some (0, x6), some (0, z43)]) c_67_126 rfl rfl rfl (n_fg (le_s (le_s (le_s (le_s (le_s (le_n (le_s (le_n le_0)))))))) ?_)
            exact ih.2.2.2.2 _ _ _ _ _ M50 hS50 (by omega) (by omega) (by omega) (by omega) (by omega) (by omega) (by omega) (by omega) (by omega) (by omega) (by omega)
      · skip
        refine n_iload c_67_65 rfl (n_iload_n c_67_67 rfl ?_)
        refine n_if2_gt c_67_68 (by omega) (by omega) ?_ ?_
        · intro h51
          refine n_iinc (L2 := [some (2, 38), some (0, x1), some (0, 5), some (0, x3), some (0, (x4 + 1)), none, some (0, x6), none]) c_67_135 rfl rfl rfl (n_goto c_67_138 (n_fg (le_s (le_s (le_s (le_s (le_s (le_n (le_n (le_n le_0)))))))) ?_))
          exact ih.2.2.1 _ _ _ _ M hS (by omega) (by omega) (by omega) (by omega) (by omega) (by omega) (by omega) (by omega)
        · intro h52
          refine n_aload_n c_67_71 rfl (n_getR c_67_72 sc_38.n rfl rfl rfl r_38_1 (n_iload_n c_67_75 rfl (n_bipush c_67_76 rfl (n_imul c_67_78 rfl (n_iload c_67_79 rfl (n_iadd c_67_81 rfl (n_bipush c_67_82 rfl (n_imul c_67_84 rfl (n_iload c_67_85 rfl (n_iadd c_67_87 rfl (n_ialoadV c_67_88 sc_40.n rfl rfl rfl (by omega) (t_40 hS (by omega)) ?_)))))))))))
          intro z53 ez53 f54
          refine n_istore (L2 := [some (2, 38), some (0, x1), some (0, 5), some (0, x3), some (0, x4), none, some (0, x6), some (0, z53)]) c_67_89 rfl rfl (n_iload c_67_91 rfl (n_aload_n c_67_93 rfl (n_getV (bi := 7) c_67_94 sc_38.n rfl rfl rfl (t_38_7 hS) ?_)))
          intro z55 ez55 f56
          refine n_if2_eq c_67_97 (by omega) (by omega) ?_ ?_
          · intro h57
            refine n_fg (le_s (le_s (le_s (le_s (le_s (le_n (le_s (le_n le_0)))))))) ?_
            exact ih.2.2.2.2 _ _ _ _ _ M hS (by omega) (by omega) (by omega) (by omega) (by omega) (by omega) (by omega) (by omega) (by omega) (by omega) (by omega)
          · intro h58
            refine n_aload_n c_67_100 rfl (n_getR c_67_101 sc_38.n rfl rfl rfl r_38_2 (n_iload_n c_67_104 rfl (n_iload_n c_67_105 rfl (n_iload c_67_106 rfl (n_iconst c_67_108 (n_i_ishl c_67_109 rfl (n_i_ior c_67_110 rfl (n_iload c_67_111 rfl (n_bipush c_67_113 rfl (n_i_ishl c_67_115 rfl (n_i_ior c_67_116 rfl ?_)))))))))))
            refine n_iastore41 hS c_67_117 (by omega) (ckey_mk (by omega) (by omega) (by omega)) ?_
            intro M59 eM59 hS59
            refine n_aload_n c_67_118 rfl (n_getR c_67_119 sc_38.n rfl rfl rfl r_38_3 (n_iload_n c_67_122 rfl (n_iload c_67_123 rfl (n_iastoreV hS59 c_67_125 sc_42.n rfl (by omega) (w_42 (by omega) (by omega)) ?_))))
            intro M60 eM60 hS60
            refine n_iinc (L2 := [some (2, 38), some (0, (x1 + 1)), some (0, 5), some (0, x3), some (0, x4), none, some (0, x6), some (0, z53)]) c_67_126 rfl rfl rfl (n_fg (le_s (le_s (le_s (le_s (le_s (le_n (le_s (le_n le_0)))))))) ?_)
            exact ih.2.2.2.2 _ _ _ _ _ M60 hS60 (by omega) (by omega) (by omega) (by omega) (by omega) (by omega) (by omega) (by omega) (by omega) (by omega) (by omega)
      · skip
        refine n_iload c_67_65 rfl (n_iload_n c_67_67 rfl ?_)
        refine n_if2_gt c_67_68 (by omega) (by omega) ?_ ?_
        · intro h61
          refine n_iinc (L2 := [some (2, 38), some (0, x1), some (0, 6), some (0, x3), some (0, (x4 + 1)), none, some (0, x6), none]) c_67_135 rfl rfl rfl (n_goto c_67_138 (n_fg (le_s (le_s (le_s (le_s (le_s (le_n (le_n (le_n le_0)))))))) ?_))
          exact ih.2.2.1 _ _ _ _ M hS (by omega) (by omega) (by omega) (by omega) (by omega) (by omega) (by omega) (by omega)
        · intro h62
          refine n_aload_n c_67_71 rfl (n_getR c_67_72 sc_38.n rfl rfl rfl r_38_1 (n_iload_n c_67_75 rfl (n_bipush c_67_76 rfl (n_imul c_67_78 rfl (n_iload c_67_79 rfl (n_iadd c_67_81 rfl (n_bipush c_67_82 rfl (n_imul c_67_84 rfl (n_iload c_67_85 rfl (n_iadd c_67_87 rfl (n_ialoadV c_67_88 sc_40.n rfl rfl rfl (by omega) (t_40 hS (by omega)) ?_)))))))))))
          intro z63 ez63 f64
          refine n_istore (L2 := [some (2, 38), some (0, x1), some (0, 6), some (0, x3), some (0, x4), none, some (0, x6), some (0, z63)]) c_67_89 rfl rfl (n_iload c_67_91 rfl (n_aload_n c_67_93 rfl (n_getV (bi := 7) c_67_94 sc_38.n rfl rfl rfl (t_38_7 hS) ?_)))
          intro z65 ez65 f66
          refine n_if2_eq c_67_97 (by omega) (by omega) ?_ ?_
          · intro h67
            refine n_fg (le_s (le_s (le_s (le_s (le_s (le_n (le_s (le_n le_0)))))))) ?_
            exact ih.2.2.2.2 _ _ _ _ _ M hS (by omega) (by omega) (by omega) (by omega) (by omega) (by omega) (by omega) (by omega) (by omega) (by omega) (by omega)
          · intro h68
            refine n_aload_n c_67_100 rfl (n_getR c_67_101 sc_38.n rfl rfl rfl r_38_2 (n_iload_n c_67_104 rfl (n_iload_n c_67_105 rfl (n_iload c_67_106 rfl (n_iconst c_67_108 (n_i_ishl c_67_109 rfl (n_i_ior c_67_110 rfl (n_iload c_67_111 rfl (n_bipush c_67_113 rfl (n_i_ishl c_67_115 rfl (n_i_ior c_67_116 rfl ?_)))))))))))
            refine n_iastore41 hS c_67_117 (by omega) (ckey_mk (by omega) (by omega) (by omega)) ?_
            intro M69 eM69 hS69
            refine n_aload_n c_67_118 rfl (n_getR c_67_119 sc_38.n rfl rfl rfl r_38_3 (n_iload_n c_67_122 rfl (n_iload c_67_123 rfl (n_iastoreV hS69 c_67_125 sc_42.n rfl (by omega) (w_42 (by omega) (by omega)) ?_))))
            intro M70 eM70 hS70
            refine n_iinc (L2 := [some (2, 38), some (0, (x1 + 1)), some (0, 6), some (0, x3), some (0, x4), none, some (0, x6), some (0, z63)]) c_67_126 rfl rfl rfl (n_fg (le_s (le_s (le_s (le_s (le_s (le_n (le_s (le_n le_0)))))))) ?_)
            exact ih.2.2.2.2 _ _ _ _ _ M70 hS70 (by omega) (by omega) (by omega) (by omega) (by omega) (by omega) (by omega) (by omega) (by omega) (by omega) (by omega)
      · skip
        refine n_iload c_67_65 rfl (n_iload_n c_67_67 rfl ?_)
        refine n_if2_gt c_67_68 (by omega) (by omega) ?_ ?_
        · intro h71
          refine n_iinc (L2 := [some (2, 38), some (0, x1), some (0, 7), some (0, x3), some (0, (x4 + 1)), none, some (0, x6), none]) c_67_135 rfl rfl rfl (n_goto c_67_138 (n_fg (le_s (le_s (le_s (le_s (le_s (le_n (le_n (le_n le_0)))))))) ?_))
          exact ih.2.2.1 _ _ _ _ M hS (by omega) (by omega) (by omega) (by omega) (by omega) (by omega) (by omega) (by omega)
        · intro h72
          refine n_aload_n c_67_71 rfl (n_getR c_67_72 sc_38.n rfl rfl rfl r_38_1 (n_iload_n c_67_75 rfl (n_bipush c_67_76 rfl (n_imul c_67_78 rfl (n_iload c_67_79 rfl (n_iadd c_67_81 rfl (n_bipush c_67_82 rfl (n_imul c_67_84 rfl (n_iload c_67_85 rfl (n_iadd c_67_87 rfl (n_ialoadV c_67_88 sc_40.n rfl rfl rfl (by omega) (t_40 hS (by omega)) ?_)))))))))))
          intro z73 ez73 f74
          refine n_istore (L2 := [some (2, 38), some (0, x1), some (0, 7), some (0, x3), some (0, x4), none, some (0, x6), some (0, z73)]) c_67_89 rfl rfl (n_iload c_67_91 rfl (n_aload_n c_67_93 rfl (n_getV (bi := 7) c_67_94 sc_38.n rfl rfl rfl (t_38_7 hS) ?_)))
          intro z75 ez75 f76
          refine n_if2_eq c_67_97 (by omega) (by omega) ?_ ?_
          · intro h77
            refine n_fg (le_s (le_s (le_s (le_s (le_s (le_n (le_s (le_n le_0)))))))) ?_
            exact ih.2.2.2.2 _ _ _ _ _ M hS (by omega) (by omega) (by omega) (by omega) (by omega) (by omega) (by omega) (by omega) (by omega) (by omega) (by omega)
          · intro h78
            refine n_aload_n c_67_100 rfl (n_getR c_67_101 sc_38.n rfl rfl rfl r_38_2 (n_iload_n c_67_104 rfl (n_iload_n c_67_105 rfl (n_iload c_67_106 rfl (n_iconst c_67_108 (n_i_ishl c_67_109 rfl (n_i_ior c_67_110 rfl (n_iload c_67_111 rfl (n_bipush c_67_113 rfl (n_i_ishl c_67_115 rfl (n_i_ior c_67_116 rfl ?_)))))))))))
            refine n_iastore41 hS c_67_117 (by omega) (ckey_mk (by omega) (by omega) (by omega)) ?_
            intro M79 eM79 hS79
            refine n_aload_n c_67_118 rfl (n_getR c_67_119 sc_38.n rfl rfl rfl r_38_3 (n_iload_n c_67_122 rfl (n_iload c_67_123 rfl (n_iastoreV hS79 c_67_125 sc_42.n rfl (by omega) (w_42 (by omega) (by omega)) ?_))))
            intro M80 eM80 hS80
            refine n_iinc (L2 := [some (2, 38), some (0, (x1 + 1)), some (0, 7), some (0, x3), some (0, x4), none, some (0, x6), some (0, z73)]) c_67_126 rfl rfl rfl (n_fg (le_s (le_s (le_s (le_s (le_s (le_n (le_s (le_n le_0)))))))) ?_)
            exact ih.2.2.2.2 _ _ _ _ _ M80 hS80 (by omega) (by omega) (by omega) (by omega) (by omega) (by omega) (by omega) (by omega) (by omega) (by omega) (by omega)
      · skip
        refine n_iload c_67_65 rfl (n_iload_n c_67_67 rfl ?_)
        refine n_if2_gt c_67_68 (by omega) (by omega) ?_ ?_
        · intro h81
          refine n_iinc (L2 := [some (2, 38), some (0, x1), some (0, 8), some (0, x3), some (0, (x4 + 1)), none, some (0, x6), none]) c_67_135 rfl rfl rfl (n_goto c_67_138 (n_fg (le_s (le_s (le_s (le_s (le_s (le_n (le_n (le_n le_0)))))))) ?_))
          exact ih.2.2.1 _ _ _ _ M hS (by omega) (by omega) (by omega) (by omega) (by omega) (by omega) (by omega) (by omega)
        · intro h82
          refine n_aload_n c_67_71 rfl (n_getR c_67_72 sc_38.n rfl rfl rfl r_38_1 (n_iload_n c_67_75 rfl (n_bipush c_67_76 rfl (n_imul c_67_78 rfl (n_iload c_67_79 rfl (n_iadd c_67_81 rfl (n_bipush c_67_82 rfl (n_imul c_67_84 rfl (n_iload c_67_85 rfl (n_iadd c_67_87 rfl (n_ialoadV c_67_88 sc_40.n rfl rfl rfl (by omega) (t_40 hS (by omega)) ?_)))))))))))
          intro z83 ez83 f84
          refine n_istore (L2 := [some (2, 38), some (0, x1), some (0, 8), some (0, x3), some (0, x4), none, some (0, x6), some (0, z83)]) c_67_89 rfl rfl (n_iload c_67_91 rfl (n_aload_n c_67_93 rfl (n_getV (bi := 7) c_67_94 sc_38.n rfl rfl rfl (t_38_7 hS) ?_)))
          intro z85 ez85 f86
          refine n_if2_eq c_67_97 (by omega) (by omega) ?_ ?_
          · intro h87
            refine n_fg (le_s (le_s (le_s (le_s (le_s (le_n (le_s (le_n le_0)))))))) ?_
            exact ih.2.2.2.2 _ _ _ _ _ M hS (by omega) (by omega) (by omega) (by omega) (by omega) (by omega) (by omega) (by omega) (by omega) (by omega) (by omega)
          · intro h88
            refine n_aload_n c_67_100 rfl (n_getR c_67_101 sc_38.n rfl rfl rfl r_38_2 (n_iload_n c_67_104 rfl (n_iload_n c_67_105 rfl (n_iload c_67_106 rfl (n_iconst c_67_108 (n_i_ishl c_67_109 rfl (n_i_ior c_67_110 rfl (n_iload c_67_111 rfl (n_bipush c_67_113 rfl (n_i_ishl c_67_115 rfl (n_i_ior c_67_116 rfl ?_)))))))))))
            refine n_iastore41 hS c_67_117 (by omega) (ckey_mk (by omega) (by omega) (by omega)) ?_
            intro M89 eM89 hS89
            refine n_aload_n c_67_118 rfl (n_getR c_67_119 sc_38.n rfl rfl rfl r_38_3 (n_iload_n c_67_122 rfl (n_iload c_67_123 rfl (n_iastoreV hS89 c_67_125 sc_42.n rfl (by omega) (w_42 (by omega) (by omega)) ?_))))
            intro M90 eM90 hS90
            refine n_iinc (L2 := [some (2, 38), some (0, (x1 + 1)), some (0, 8), some (0, x3), some (0, x4), none, some (0, x6), some (0, z83)]) c_67_126 rfl rfl rfl (n_fg (le_s (le_s (le_s (le_s (le_s (le_n (le_s (le_n le_0)))))))) ?_)
            exact ih.2.2.2.2 _ _ _ _ _ M90 hS90 (by omega) (by omega) (by omega) (by omega) (by omega) (by omega) (by omega) (by omega) (by omega) (by omega) (by omega)
    · intro x1 x2 x3 x4 x6 M hS k1 k2 k3 k4 k6 v0 v1 v2 v3 v4 hnn
      rcases (show x2 = 0 ∨ x2 = 1 ∨ x2 = 2 ∨ x2 = 3 ∨ x2 = 4 ∨ x2 = 5 ∨ x2 = 6 ∨ x2 = 7 ∨ x2 = 8 by omega) with rfl | rfl | rfl | rfl | rfl | rfl | rfl | rfl | rfl
      · skip
        refine n_iinc (L2 := [some (2, 38), some (0, x1), some (0, 0), some (0, x3), some (0, x4), none, some (0, (x6 + 1)), none]) c_67_129 rfl rfl rfl (n_goto c_67_132 (n_fg (le_s (le_s (le_s (le_s (le_s (le_n (le_s (le_n le_0)))))))) ?_))
        exact ih.2.2.2.1 _ _ _ _ _ M hS (by omega) (by omega) (by omega) (by omega) (by omega) (by omega) (by omega) (by omega) (by omega) (by omega)
      · skip
        refine n_iinc (L2 := [some (2, 38), some (0, x1), some (0, 1), some (0, x3), some (0, x4), none, some (0, (x6 + 1)), none]) c_67_129 rfl rfl rfl (n_goto c_67_132 (n_fg (le_s (le_s (le_s (le_s (le_s (le_n (le_s (le_n le_0)))))))) ?_))
        exact ih.2.2.2.1 _ _ _ _ _ M hS (by omega) (by omega) (by omega) (by omega) (by omega) (by omega) (by omega) (by omega) (by omega) (by omega)
      · skip
        refine n_iinc (L2 := [some (2, 38), some (0, x1), some (0, 2), some (0, x3), some (0, x4), none, some (0, (x6 + 1)), none]) c_67_129 rfl rfl rfl (n_goto c_67_132 (n_fg (le_s (le_s (le_s (le_s (le_s (le_n (le_s (le_n le_0)))))))) ?_))
        exact ih.2.2.2.1 _ _ _ _ _ M hS (by omega) (by omega) (by omega) (by omega) (by omega) (by omega) (by omega) (by omega) (by omega) (by omega)
      · skip
        refine n_iinc (L2 := [some (2, 38), some (0, x1), some (0, 3), some (0, x3), some (0, x4), none, some (0, (x6 + 1)), none]) c_67_129 rfl rfl rfl (n_goto c_67_132 (n_fg (le_s (le_s (le_s (le_s (le_s (le_n (le_s (le_n le_0)))))))) ?_))
        exact ih.2.2.2.1 _ _ _ _ _ M hS (by omega) (by omega) (by omega) (by omega) (by omega) (by omega) (by omega) (by omega) (by omega) (by omega)
      · skip
        refine n_iinc (L2 := [some (2, 38), some (0, x1), some (0, 4), some (0, x3), some (0, x4), none, some (0, (x6 + 1)), none]) c_67_129 rfl rfl rfl (n_goto c_67_132 (n_fg (le_s (le_s (le_s (le_s (le_s (le_n (le_s (le_n le_0)))))))) ?_))
        exact ih.2.2.2.1 _ _ _ _ _ M hS (by omega) (by omega) (by omega) (by omega) (by omega) (by omega) (by omega) (by omega) (by omega) (by omega)
      · skip
        refine n_iinc (L2 := [some (2, 38), some (0, x1), some (0, 5), some (0, x3), some (0, x4), none, some (0, (x6 + 1)), none]) c_67_129 rfl rfl rfl (n_goto c_67_132 (n_fg (le_s (le_s (le_s (le_s (le_s (le_n (le_s (le_n le_0)))))))) ?_))
        exact ih.2.2.2.1 _ _ _ _ _ M hS (by omega) (by omega) (by omega) (by omega) (by omega) (by omega) (by omega) (by omega) (by omega) (by omega)
      · skip
        refine n_iinc (L2 := [some (2, 38), some (0, x1), some (0, 6), some (0, x3), some (0, x4), none, some (0, (x6 + 1)), none]) c_67_129 rfl rfl rfl (n_goto c_67_132 (n_fg (le_s (le_s (le_s (le_s (le_s (le_n (le_s (le_n le_0)))))))) ?_))
        exact ih.2.2.2.1 _ _ _ _ _ M hS (by omega) (by omega) (by omega) (by omega) (by omega) (by omega) (by omega) (by omega) (by omega) (by omega)
      · skip
        refine n_iinc (L2 := [some (2, 38), some (0, x1), some (0, 7), some (0, x3), some (0, x4), none, some (0, (x6 + 1)), none]) c_67_129 rfl rfl rfl (n_goto c_67_132 (n_fg (le_s (le_s (le_s (le_s (le_s (le_n (le_s (le_n le_0)))))))) ?_))
        exact ih.2.2.2.1 _ _ _ _ _ M hS (by omega) (by omega) (by omega) (by omega) (by omega) (by omega) (by omega) (by omega) (by omega) (by omega)
      · skip
        refine n_iinc (L2 := [some (2, 38), some (0, x1), some (0, 8), some (0, x3), some (0, x4), none, some (0, (x6 + 1)), none]) c_67_129 rfl rfl rfl (n_goto c_67_132 (n_fg (le_s (le_s (le_s (le_s (le_s (le_n (le_s (le_n le_0)))))))) ?_))
        exact ih.2.2.2.1 _ _ _ _ _ M hS (by omega) (by omega) (by omega) (by omega) (by omega) (by omega) (by omega) (by omega) (by omega) (by omega)
set_option maxHeartbeats 4000000 in
theorem order_3 {xs : List Int32} {e : Nat} {ac : Int} {M0 M : nM} (hS : Sf 3 ac M0 M)  : nW xs e 67 0 [some (2, 38), none, none, none, none, none, none, none] [] M (nPV fun M1 => Sf 3 ac M0 M1) := by
  have hd : (3 : Int) = 2 ∨ (3 : Int) = 3 := by decide
  have hac := hS.2.2.2.2
  refine n_iconst c_67_0 (n_istore_n (L2 := [some (2, 38), some (0, 0), none, none, none, none, none, none]) c_67_1 rfl rfl (n_iconst c_67_2 (n_istore_n (L2 := [some (2, 38), some (0, 0), some (0, 0), none, none, none, none, none]) c_67_3 rfl rfl (n_fg (le_s (le_s (le_s (le_n (le_n (le_n (le_n (le_n le_0)))))))) ?_))))
  exact (order_3_c hS  61500).1 _ _ M hS (by omega) (by omega) (by omega) (by omega)

/-! The methods, by program. -/
set_option maxHeartbeats 4000000 in
theorem fits_3_c {xs : List Int32} {e : Nat} {ac : Int} {M0 M : nM} {l : Int} (hS : Sf 3 ac M0 M) (hl : 0 ≤ l ∧ l ≤ 8) : ∀ nn : Nat, (∀ (x2 : Int), (0 ≤ x2 ∧ x2 ≤ 729) → (729 - x2) * 1 + 1 < (nn : Int) → nW xs e 72 7 [some (2, 38), some (0, l), some (0, x2), none, none] [] M (nPI fun z M1 => M = M1 ∧ (0 ≤ z ∧ z ≤ 1))) := by
  have hd : (3 : Int) = 2 ∨ (3 : Int) = 3 := by decide
  have hac := hS.2.2.2.2
  intro nn
  induction nn with
  | zero => intros; omega
  | succ nn ih =>
    intro x2 k2 hnn
    refine n_iload_n c_72_7 rfl (n_aload_n c_72_8 rfl (n_getR c_72_9 sc_38.n rfl rfl rfl r_38_4 (n_iload_n c_72_12 rfl (n_iconst c_72_13 (n_iadd c_72_14 rfl (n_ialoadV c_72_15 sc_43.n rfl rfl rfl (by omega) (t_43 hS (by omega)) ?_))))))
    intro z1 ez1 f2
    refine n_if2_ge c_72_16 (by omega) (by omega) ?_ ?_
    · intro h3
      refine n_iconst c_72_95 ?_
      exact n_rZ c_72_96 rfl (by omega) ⟨rfl, by omega⟩
    · intro h4
      refine n_aload_n c_72_19 rfl (n_getR c_72_20 sc_38.n rfl rfl rfl r_38_2 (n_iload_n c_72_23 rfl (n_ialoadV c_72_24 sc_41.n rfl rfl rfl (by omega) (t_41 hS (by omega)) ?_)))
      intro z5 ez5 f6
      have f6k : ckey z5 := by rw [ez5]; exact hS.2.1 _ (by omega)
      refine n_istore_n (L2 := [some (2, 38), some (0, l), some (0, x2), some (0, z5), none]) c_72_25 rfl rfl (n_aload_n c_72_26 rfl (n_getR c_72_27 sc_38.n rfl rfl rfl r_38_0 (n_iload_n c_72_30 rfl (n_bipush c_72_31 rfl (n_i_iand c_72_33 rfl ?_)))))
      have f7 := ckey_0 f6k
      generalize (n_and z5 15) = z8 at f7 ⊢
      refine n_ialoadV c_72_34 sc_39.n rfl rfl rfl (by omega) (t_39 hS (by omega)) ?_
      intro z9 ez9 f10
      refine n_aload_n c_72_35 rfl (n_getV (bi := 5) c_72_36 sc_38.n rfl rfl rfl (t_38_5 hS) ?_)
      intro z11 ez11 f12
      refine n_imul c_72_39 rfl (n_wrap ?_)
      have f13 := n_wr_r (z9 * z11)
      generalize n_wr (z9 * z11) = z14 at f13 ⊢
      refine n_aload_n c_72_40 rfl (n_getR c_72_41 sc_38.n rfl rfl rfl r_38_0 (n_iload_n c_72_44 rfl (n_iconst c_72_45 (n_i_ishr c_72_46 rfl (n_bipush c_72_47 rfl (n_i_iand c_72_49 rfl ?_))))))
      have f15 := ckey_4 f6k
      generalize (n_and (n_shr z5 4) 15) = z16 at f15 ⊢
      refine n_ialoadV c_72_50 sc_39.n rfl rfl rfl (by omega) (t_39 hS (by omega)) ?_
      intro z17 ez17 f18
      refine n_iadd c_72_51 rfl (n_wrap ?_)
      have f19 := n_wr_r (z14 + z17)
      generalize n_wr (z14 + z17) = z20 at f19 ⊢
      refine n_istore (L2 := [some (2, 38), some (0, l), some (0, x2), some (0, z5), some (0, z20)]) c_72_52 rfl rfl (n_iload c_72_54 rfl (n_aload_n c_72_56 rfl (n_getV (bi := 5) c_72_57 sc_38.n rfl rfl rfl (t_38_5 hS) ?_)))
      intro z21 ez21 f22
      refine n_imul c_72_60 rfl (n_wrap ?_)
      have f23 := n_wr_r (z20 * z21)
      generalize n_wr (z20 * z21) = z24 at f23 ⊢
      refine n_aload_n c_72_61 rfl (n_getR c_72_62 sc_38.n rfl rfl rfl r_38_0 (n_iload_n c_72_65 rfl (n_bipush c_72_66 rfl (n_i_ishr c_72_68 rfl ?_))))
      have f25 := ckey_8 f6k
      generalize (n_shr z5 8) = z26 at f25 ⊢
      refine n_ialoadV c_72_69 sc_39.n rfl rfl rfl (by omega) (t_39 hS (by omega)) ?_
      intro z27 ez27 f28
      refine n_iadd c_72_70 rfl (n_wrap ?_)
      have f29 := n_wr_r (z24 + z27)
      generalize n_wr (z24 + z27) = z30 at f29 ⊢
      refine n_istore (L2 := [some (2, 38), some (0, l), some (0, x2), some (0, z5), some (0, z30)]) c_72_71 rfl rfl (n_aload_n c_72_73 rfl (n_getR c_72_74 sc_38.n rfl rfl rfl r_38_3 (n_iload_n c_72_77 rfl (n_ialoadV c_72_78 sc_42.n rfl rfl rfl (by omega) (t_42 hS (by omega)) ?_))))
      intro z31 ez31 f32
      refine n_iload c_72_79 rfl (n_i_ishr c_72_81 rfl ?_)
      have f33 := n_shr_r z31 z30
      generalize (n_shr z31 z30) = z34 at f33 ⊢
      refine n_iconst c_72_82 (n_i_iand c_72_83 rfl ?_)
      have f35 := n_and_y (x := z34) (y := 1) (by omega)
      generalize (n_and z34 1) = z36 at f35 ⊢
      refine n_if0_ne c_72_84 (by omega) ?_ ?_
      · intro h37
        refine n_iinc (L2 := [some (2, 38), some (0, l), some (0, (x2 + 1)), some (0, z5), some (0, z30)]) c_72_89 rfl rfl rfl (n_goto c_72_92 (n_fg (le_s (le_s (le_s (le_n (le_n le_0))))) ?_))
        exact ih _ (by omega) (by omega)
      · intro h38
        refine n_iconst c_72_87 ?_
        exact n_rZ c_72_88 rfl (by omega) ⟨rfl, by omega⟩
set_option maxHeartbeats 4000000 in
theorem fits_3 {xs : List Int32} {e : Nat} {ac : Int} {M0 M : nM} {l : Int} (hS : Sf 3 ac M0 M) (hl : 0 ≤ l ∧ l ≤ 8) : nW xs e 72 0 [some (2, 38), some (0, l), none, none, none] [] M (nPI fun z M1 => M = M1 ∧ (0 ≤ z ∧ z ≤ 1)) := by
  have hd : (3 : Int) = 2 ∨ (3 : Int) = 3 := by decide
  have hac := hS.2.2.2.2
  refine n_aload_n c_72_0 rfl (n_getR c_72_1 sc_38.n rfl rfl rfl r_38_4 (n_iload_n c_72_4 rfl (n_ialoadV c_72_5 sc_43.n rfl rfl rfl (by omega) (t_43 hS (by omega)) ?_)))
  intro z1 ez1 f2
  refine n_istore_n (L2 := [some (2, 38), some (0, l), some (0, z1), none, none]) c_72_6 rfl rfl (n_fg (le_s (le_s (le_s (le_n (le_n le_0))))) ?_)
  exact (fits_3_c hS hl 1472) _ (by omega) (by omega)

set_option maxHeartbeats 4000000 in
theorem gather48_9_3 {xs : List Int32} {e : Nat} {ac : Int} {M0 M : nM} {n : Int} (hS : Sf 3 ac M0 M) (hn : -2147483648 ≤ n ∧ n ≤ 2147483647) : nW xs (e + 2) 70 0 [some (2, 38), some (0, 9), some (0, n), some (2, 48), none] [] M (nPV fun M1 => Sf 3 ac M0 M1) := by
  have hd : (3 : Int) = 2 ∨ (3 : Int) = 3 := by decide
  have hac := hS.2.2.2.2
  refine n_iload_n c_70_0 rfl (n_aload_n c_70_1 rfl (n_getV (bi := 6) c_70_2 sc_38.n rfl rfl rfl (t_38_6 hS) ?_))
  intro z1 ez1 f2
  refine n_if2_lt c_70_5 (by omega) (by omega) ?_ ?_
  · intro h3
    exfalso; omega
  · intro h4
    refine n_aload_n c_70_8 rfl (n_iload_n c_70_9 rfl (n_v1V c_70_10 rfl sc_48.n rfl rfl rfl rfl (add48_3 (n := n) hS (by omega)) ?_))
    intro  M5 hP6
    have hS5 := hP6
    exact n_rV c_70_13 rfl hS5

set_option maxHeartbeats 4000000 in
theorem gather48_8_3_c {xs : List Int32} {e : Nat} {ac : Int} {M0 M : nM} {n : Int} (hS : Sf 3 ac M0 M) (hn : -2147483648 ≤ n ∧ n ≤ 2147483647) : ∀ nn : Nat, (∀ (x4 : Int) (M : nM), Sf 3 ac M0 M → (0 ≤ x4 ∧ x4 ≤ 3) → (3 - x4) * 2 + 2 < (nn : Int) → nW xs (e + 3) 70 17 [some (2, 38), some (0, 8), some (0, n), some (2, 48), some (0, x4)] [] M (nPV fun M1 => Sf 3 ac M0 M1)) ∧ (∀ (x4 : Int) (M : nM), Sf 3 ac M0 M → (0 ≤ x4 ∧ x4 ≤ 2) → (3 - x4) * 2 + 1 < (nn : Int) → nW xs (e + 3) 70 59 [some (2, 38), some (0, 8), some (0, n), some (2, 48), some (0, x4)] [] M (nPV fun M1 => Sf 3 ac M0 M1)) := by
  have hd : (3 : Int) = 2 ∨ (3 : Int) = 3 := by decide
  have hac := hS.2.2.2.2
  intro nn
  induction nn with
  | zero => refine ⟨?_, ?_⟩ <;> (intros; omega)
  | succ nn ih =>
    refine ⟨?_, ?_⟩
    · intro x4 M hS k4 hnn
      refine n_iload c_70_17 rfl (n_aload_n c_70_19 rfl (n_getV (bi := 5) c_70_20 sc_38.n rfl rfl rfl (t_38_5 hS) ?_))
      intro z1 ez1 f2
      refine n_if2_ge c_70_23 (by omega) (by omega) ?_ ?_
      · intro h3
        exact n_rV c_70_65 rfl hS
      · intro h4
        refine n_aload_n c_70_26 rfl (n_getR c_70_27 sc_38.n rfl rfl rfl r_38_0 (n_iload_n c_70_30 rfl (n_iload c_70_31 rfl (n_iastoreV hS c_70_33 sc_39.n rfl (by omega) (w_39 (by omega) (by omega)) ?_))))
        intro M5 eM5 hS5
        have g5_0 : M5 38 5 = M 38 5 := by rw [eM5]; exact nu_a (by omega)
        refine n_aload_n c_70_34 rfl (n_iload_n c_70_35 rfl (n_v1I c_70_36 rfl sc_38.n rfl rfl rfl rfl (fits_3 (l := 8) hS5 (by omega)) ?_))
        intro z6 M7 hP8
        obtain ⟨eM, f8⟩ := hP8
        subst eM
        refine n_if0_eq c_70_39 (by omega) ?_ ?_
        · intro h9
          refine n_fg (le_s (le_s (le_s (le_s (le_s le_0))))) ?_
          exact ih.2 _ M5 hS5 (by omega) (by omega)
        · intro h10
          refine n_aload_n c_70_42 rfl (n_iload_n c_70_43 rfl (n_iconst c_70_44 (n_iadd c_70_45 rfl (n_iload_n c_70_46 rfl (n_aload_n c_70_47 rfl (n_getV (bi := 5) c_70_48 sc_38.n rfl rfl rfl (t_38_5 hS5) ?_))))))
          intro z11 ez11 f12
          refine n_imul c_70_51 rfl (n_wrap ?_)
          have f13 := n_wr_r (n * z11)
          generalize n_wr (n * z11) = z14 at f13 ⊢
          refine n_iload c_70_52 rfl (n_iadd c_70_54 rfl (n_wrap ?_))
          have f15 := n_wr_r (z14 + x4)
          generalize n_wr (z14 + x4) = z16 at f15 ⊢
          refine n_aload_n c_70_55 rfl ?_
          have hcst : ((8 + 1) : Int) = 9 := by omega
          rw [hcst]
          refine n_s4V c_70_56 rfl rfl rfl rfl (gather48_9_3 (n := z16) hS5 (by omega)) ?_
          intro  M17 hP18
          have hS17 := hP18
          refine n_fg (le_s (le_s (le_s (le_s (le_s le_0))))) ?_
          exact ih.2 _ M17 hS17 (by omega) (by omega)
    · intro x4 M hS k4 hnn
      refine n_iinc (L2 := [some (2, 38), some (0, 8), some (0, n), some (2, 48), some (0, (x4 + 1))]) c_70_59 rfl rfl rfl (n_goto c_70_62 (n_fg (le_s (le_s (le_s (le_s (le_s le_0))))) ?_))
      exact ih.1 _ M hS (by omega) (by omega)
set_option maxHeartbeats 4000000 in
theorem gather48_8_3 {xs : List Int32} {e : Nat} {ac : Int} {M0 M : nM} {n : Int} (hS : Sf 3 ac M0 M) (hn : -2147483648 ≤ n ∧ n ≤ 2147483647) : nW xs (e + 3) 70 0 [some (2, 38), some (0, 8), some (0, n), some (2, 48), none] [] M (nPV fun M1 => Sf 3 ac M0 M1) := by
  have hd : (3 : Int) = 2 ∨ (3 : Int) = 3 := by decide
  have hac := hS.2.2.2.2
  refine n_iload_n c_70_0 rfl (n_aload_n c_70_1 rfl (n_getV (bi := 6) c_70_2 sc_38.n rfl rfl rfl (t_38_6 hS) ?_))
  intro z1 ez1 f2
  refine n_if2_lt c_70_5 (by omega) (by omega) ?_ ?_
  · intro h3
    refine n_iconst c_70_14 (n_istore (L2 := [some (2, 38), some (0, 8), some (0, n), some (2, 48), some (0, 0)]) c_70_15 rfl rfl (n_fg (le_s (le_s (le_s (le_s (le_s le_0))))) ?_))
    exact (gather48_8_3_c hS hn 30).1 _ M hS (by omega) (by omega)
  · intro h4
    refine n_aload_n c_70_8 rfl (n_iload_n c_70_9 rfl (n_v1V c_70_10 rfl sc_48.n rfl rfl rfl rfl (add48_3 (n := n) hS (by omega)) ?_))
    intro  M5 hP6
    have hS5 := hP6
    exact n_rV c_70_13 rfl hS5

set_option maxHeartbeats 4000000 in
theorem gather48_7_3_c {xs : List Int32} {e : Nat} {ac : Int} {M0 M : nM} {n : Int} (hS : Sf 3 ac M0 M) (hn : -2147483648 ≤ n ∧ n ≤ 2147483647) : ∀ nn : Nat, (∀ (x4 : Int) (M : nM), Sf 3 ac M0 M → (0 ≤ x4 ∧ x4 ≤ 3) → (3 - x4) * 2 + 2 < (nn : Int) → nW xs (e + 4) 70 17 [some (2, 38), some (0, 7), some (0, n), some (2, 48), some (0, x4)] [] M (nPV fun M1 => Sf 3 ac M0 M1)) ∧ (∀ (x4 : Int) (M : nM), Sf 3 ac M0 M → (0 ≤ x4 ∧ x4 ≤ 2) → (3 - x4) * 2 + 1 < (nn : Int) → nW xs (e + 4) 70 59 [some (2, 38), some (0, 7), some (0, n), some (2, 48), some (0, x4)] [] M (nPV fun M1 => Sf 3 ac M0 M1)) := by
  have hd : (3 : Int) = 2 ∨ (3 : Int) = 3 := by decide
  have hac := hS.2.2.2.2
  intro nn
  induction nn with
  | zero => refine ⟨?_, ?_⟩ <;> (intros; omega)
  | succ nn ih =>
    refine ⟨?_, ?_⟩
    · intro x4 M hS k4 hnn
      refine n_iload c_70_17 rfl (n_aload_n c_70_19 rfl (n_getV (bi := 5) c_70_20 sc_38.n rfl rfl rfl (t_38_5 hS) ?_))
      intro z1 ez1 f2
      refine n_if2_ge c_70_23 (by omega) (by omega) ?_ ?_
      · intro h3
        exact n_rV c_70_65 rfl hS
      · intro h4
        refine n_aload_n c_70_26 rfl (n_getR c_70_27 sc_38.n rfl rfl rfl r_38_0 (n_iload_n c_70_30 rfl (n_iload c_70_31 rfl (n_iastoreV hS c_70_33 sc_39.n rfl (by omega) (w_39 (by omega) (by omega)) ?_))))
        intro M5 eM5 hS5
        have g5_0 : M5 38 5 = M 38 5 := by rw [eM5]; exact nu_a (by omega)
        refine n_aload_n c_70_34 rfl (n_iload_n c_70_35 rfl (n_v1I c_70_36 rfl sc_38.n rfl rfl rfl rfl (fits_3 (l := 7) hS5 (by omega)) ?_))
        intro z6 M7 hP8
        obtain ⟨eM, f8⟩ := hP8
        subst eM
        refine n_if0_eq c_70_39 (by omega) ?_ ?_
        · intro h9
          refine n_fg (le_s (le_s (le_s (le_s (le_s le_0))))) ?_
          exact ih.2 _ M5 hS5 (by omega) (by omega)
        · intro h10
          refine n_aload_n c_70_42 rfl (n_iload_n c_70_43 rfl (n_iconst c_70_44 (n_iadd c_70_45 rfl (n_iload_n c_70_46 rfl (n_aload_n c_70_47 rfl (n_getV (bi := 5) c_70_48 sc_38.n rfl rfl rfl (t_38_5 hS5) ?_))))))
          intro z11 ez11 f12
          refine n_imul c_70_51 rfl (n_wrap ?_)
          have f13 := n_wr_r (n * z11)
          generalize n_wr (n * z11) = z14 at f13 ⊢
          refine n_iload c_70_52 rfl (n_iadd c_70_54 rfl (n_wrap ?_))
          have f15 := n_wr_r (z14 + x4)
          generalize n_wr (z14 + x4) = z16 at f15 ⊢
          refine n_aload_n c_70_55 rfl ?_
          have hcst : ((7 + 1) : Int) = 8 := by omega
          rw [hcst]
          refine n_s4V c_70_56 rfl rfl rfl rfl (gather48_8_3 (n := z16) hS5 (by omega)) ?_
          intro  M17 hP18
          have hS17 := hP18
          refine n_fg (le_s (le_s (le_s (le_s (le_s le_0))))) ?_
          exact ih.2 _ M17 hS17 (by omega) (by omega)
    · intro x4 M hS k4 hnn
      refine n_iinc (L2 := [some (2, 38), some (0, 7), some (0, n), some (2, 48), some (0, (x4 + 1))]) c_70_59 rfl rfl rfl (n_goto c_70_62 (n_fg (le_s (le_s (le_s (le_s (le_s le_0))))) ?_))
      exact ih.1 _ M hS (by omega) (by omega)
set_option maxHeartbeats 4000000 in
theorem gather48_7_3 {xs : List Int32} {e : Nat} {ac : Int} {M0 M : nM} {n : Int} (hS : Sf 3 ac M0 M) (hn : -2147483648 ≤ n ∧ n ≤ 2147483647) : nW xs (e + 4) 70 0 [some (2, 38), some (0, 7), some (0, n), some (2, 48), none] [] M (nPV fun M1 => Sf 3 ac M0 M1) := by
  have hd : (3 : Int) = 2 ∨ (3 : Int) = 3 := by decide
  have hac := hS.2.2.2.2
  refine n_iload_n c_70_0 rfl (n_aload_n c_70_1 rfl (n_getV (bi := 6) c_70_2 sc_38.n rfl rfl rfl (t_38_6 hS) ?_))
  intro z1 ez1 f2
  refine n_if2_lt c_70_5 (by omega) (by omega) ?_ ?_
  · intro h3
    refine n_iconst c_70_14 (n_istore (L2 := [some (2, 38), some (0, 7), some (0, n), some (2, 48), some (0, 0)]) c_70_15 rfl rfl (n_fg (le_s (le_s (le_s (le_s (le_s le_0))))) ?_))
    exact (gather48_7_3_c hS hn 30).1 _ M hS (by omega) (by omega)
  · intro h4
    refine n_aload_n c_70_8 rfl (n_iload_n c_70_9 rfl (n_v1V c_70_10 rfl sc_48.n rfl rfl rfl rfl (add48_3 (n := n) hS (by omega)) ?_))
    intro  M5 hP6
    have hS5 := hP6
    exact n_rV c_70_13 rfl hS5

set_option maxHeartbeats 4000000 in
theorem gather48_6_3_c {xs : List Int32} {e : Nat} {ac : Int} {M0 M : nM} {n : Int} (hS : Sf 3 ac M0 M) (hn : -2147483648 ≤ n ∧ n ≤ 2147483647) : ∀ nn : Nat, (∀ (x4 : Int) (M : nM), Sf 3 ac M0 M → (0 ≤ x4 ∧ x4 ≤ 3) → (3 - x4) * 2 + 2 < (nn : Int) → nW xs (e + 5) 70 17 [some (2, 38), some (0, 6), some (0, n), some (2, 48), some (0, x4)] [] M (nPV fun M1 => Sf 3 ac M0 M1)) ∧ (∀ (x4 : Int) (M : nM), Sf 3 ac M0 M → (0 ≤ x4 ∧ x4 ≤ 2) → (3 - x4) * 2 + 1 < (nn : Int) → nW xs (e + 5) 70 59 [some (2, 38), some (0, 6), some (0, n), some (2, 48), some (0, x4)] [] M (nPV fun M1 => Sf 3 ac M0 M1)) := by
  have hd : (3 : Int) = 2 ∨ (3 : Int) = 3 := by decide
  have hac := hS.2.2.2.2
  intro nn
  induction nn with
  | zero => refine ⟨?_, ?_⟩ <;> (intros; omega)
  | succ nn ih =>
    refine ⟨?_, ?_⟩
    · intro x4 M hS k4 hnn
      refine n_iload c_70_17 rfl (n_aload_n c_70_19 rfl (n_getV (bi := 5) c_70_20 sc_38.n rfl rfl rfl (t_38_5 hS) ?_))
      intro z1 ez1 f2
      refine n_if2_ge c_70_23 (by omega) (by omega) ?_ ?_
      · intro h3
        exact n_rV c_70_65 rfl hS
      · intro h4
        refine n_aload_n c_70_26 rfl (n_getR c_70_27 sc_38.n rfl rfl rfl r_38_0 (n_iload_n c_70_30 rfl (n_iload c_70_31 rfl (n_iastoreV hS c_70_33 sc_39.n rfl (by omega) (w_39 (by omega) (by omega)) ?_))))
        intro M5 eM5 hS5
        have g5_0 : M5 38 5 = M 38 5 := by rw [eM5]; exact nu_a (by omega)
        refine n_aload_n c_70_34 rfl (n_iload_n c_70_35 rfl (n_v1I c_70_36 rfl sc_38.n rfl rfl rfl rfl (fits_3 (l := 6) hS5 (by omega)) ?_))
        intro z6 M7 hP8
        obtain ⟨eM, f8⟩ := hP8
        subst eM
        refine n_if0_eq c_70_39 (by omega) ?_ ?_
        · intro h9
          refine n_fg (le_s (le_s (le_s (le_s (le_s le_0))))) ?_
          exact ih.2 _ M5 hS5 (by omega) (by omega)
        · intro h10
          refine n_aload_n c_70_42 rfl (n_iload_n c_70_43 rfl (n_iconst c_70_44 (n_iadd c_70_45 rfl (n_iload_n c_70_46 rfl (n_aload_n c_70_47 rfl (n_getV (bi := 5) c_70_48 sc_38.n rfl rfl rfl (t_38_5 hS5) ?_))))))
          intro z11 ez11 f12
          refine n_imul c_70_51 rfl (n_wrap ?_)
          have f13 := n_wr_r (n * z11)
          generalize n_wr (n * z11) = z14 at f13 ⊢
          refine n_iload c_70_52 rfl (n_iadd c_70_54 rfl (n_wrap ?_))
          have f15 := n_wr_r (z14 + x4)
          generalize n_wr (z14 + x4) = z16 at f15 ⊢
          refine n_aload_n c_70_55 rfl ?_
          have hcst : ((6 + 1) : Int) = 7 := by omega
          rw [hcst]
          refine n_s4V c_70_56 rfl rfl rfl rfl (gather48_7_3 (n := z16) hS5 (by omega)) ?_
          intro  M17 hP18
          have hS17 := hP18
          refine n_fg (le_s (le_s (le_s (le_s (le_s le_0))))) ?_
          exact ih.2 _ M17 hS17 (by omega) (by omega)
    · intro x4 M hS k4 hnn
      refine n_iinc (L2 := [some (2, 38), some (0, 6), some (0, n), some (2, 48), some (0, (x4 + 1))]) c_70_59 rfl rfl rfl (n_goto c_70_62 (n_fg (le_s (le_s (le_s (le_s (le_s le_0))))) ?_))
      exact ih.1 _ M hS (by omega) (by omega)
set_option maxHeartbeats 4000000 in
theorem gather48_6_3 {xs : List Int32} {e : Nat} {ac : Int} {M0 M : nM} {n : Int} (hS : Sf 3 ac M0 M) (hn : -2147483648 ≤ n ∧ n ≤ 2147483647) : nW xs (e + 5) 70 0 [some (2, 38), some (0, 6), some (0, n), some (2, 48), none] [] M (nPV fun M1 => Sf 3 ac M0 M1) := by
  have hd : (3 : Int) = 2 ∨ (3 : Int) = 3 := by decide
  have hac := hS.2.2.2.2
  refine n_iload_n c_70_0 rfl (n_aload_n c_70_1 rfl (n_getV (bi := 6) c_70_2 sc_38.n rfl rfl rfl (t_38_6 hS) ?_))
  intro z1 ez1 f2
  refine n_if2_lt c_70_5 (by omega) (by omega) ?_ ?_
  · intro h3
    refine n_iconst c_70_14 (n_istore (L2 := [some (2, 38), some (0, 6), some (0, n), some (2, 48), some (0, 0)]) c_70_15 rfl rfl (n_fg (le_s (le_s (le_s (le_s (le_s le_0))))) ?_))
    exact (gather48_6_3_c hS hn 30).1 _ M hS (by omega) (by omega)
  · intro h4
    refine n_aload_n c_70_8 rfl (n_iload_n c_70_9 rfl (n_v1V c_70_10 rfl sc_48.n rfl rfl rfl rfl (add48_3 (n := n) hS (by omega)) ?_))
    intro  M5 hP6
    have hS5 := hP6
    exact n_rV c_70_13 rfl hS5

set_option maxHeartbeats 4000000 in
theorem gather48_5_3_c {xs : List Int32} {e : Nat} {ac : Int} {M0 M : nM} {n : Int} (hS : Sf 3 ac M0 M) (hn : -2147483648 ≤ n ∧ n ≤ 2147483647) : ∀ nn : Nat, (∀ (x4 : Int) (M : nM), Sf 3 ac M0 M → (0 ≤ x4 ∧ x4 ≤ 3) → (3 - x4) * 2 + 2 < (nn : Int) → nW xs (e + 6) 70 17 [some (2, 38), some (0, 5), some (0, n), some (2, 48), some (0, x4)] [] M (nPV fun M1 => Sf 3 ac M0 M1)) ∧ (∀ (x4 : Int) (M : nM), Sf 3 ac M0 M → (0 ≤ x4 ∧ x4 ≤ 2) → (3 - x4) * 2 + 1 < (nn : Int) → nW xs (e + 6) 70 59 [some (2, 38), some (0, 5), some (0, n), some (2, 48), some (0, x4)] [] M (nPV fun M1 => Sf 3 ac M0 M1)) := by
  have hd : (3 : Int) = 2 ∨ (3 : Int) = 3 := by decide
  have hac := hS.2.2.2.2
  intro nn
  induction nn with
  | zero => refine ⟨?_, ?_⟩ <;> (intros; omega)
  | succ nn ih =>
    refine ⟨?_, ?_⟩
    · intro x4 M hS k4 hnn
      refine n_iload c_70_17 rfl (n_aload_n c_70_19 rfl (n_getV (bi := 5) c_70_20 sc_38.n rfl rfl rfl (t_38_5 hS) ?_))
      intro z1 ez1 f2
      refine n_if2_ge c_70_23 (by omega) (by omega) ?_ ?_
      · intro h3
        exact n_rV c_70_65 rfl hS
      · intro h4
        refine n_aload_n c_70_26 rfl (n_getR c_70_27 sc_38.n rfl rfl rfl r_38_0 (n_iload_n c_70_30 rfl (n_iload c_70_31 rfl (n_iastoreV hS c_70_33 sc_39.n rfl (by omega) (w_39 (by omega) (by omega)) ?_))))
        intro M5 eM5 hS5
        have g5_0 : M5 38 5 = M 38 5 := by rw [eM5]; exact nu_a (by omega)
        refine n_aload_n c_70_34 rfl (n_iload_n c_70_35 rfl (n_v1I c_70_36 rfl sc_38.n rfl rfl rfl rfl (fits_3 (l := 5) hS5 (by omega)) ?_))
        intro z6 M7 hP8
        obtain ⟨eM, f8⟩ := hP8
        subst eM
        refine n_if0_eq c_70_39 (by omega) ?_ ?_
        · intro h9
          refine n_fg (le_s (le_s (le_s (le_s (le_s le_0))))) ?_
          exact ih.2 _ M5 hS5 (by omega) (by omega)
        · intro h10
          refine n_aload_n c_70_42 rfl (n_iload_n c_70_43 rfl (n_iconst c_70_44 (n_iadd c_70_45 rfl (n_iload_n c_70_46 rfl (n_aload_n c_70_47 rfl (n_getV (bi := 5) c_70_48 sc_38.n rfl rfl rfl (t_38_5 hS5) ?_))))))
          intro z11 ez11 f12
          refine n_imul c_70_51 rfl (n_wrap ?_)
          have f13 := n_wr_r (n * z11)
          generalize n_wr (n * z11) = z14 at f13 ⊢
          refine n_iload c_70_52 rfl (n_iadd c_70_54 rfl (n_wrap ?_))
          have f15 := n_wr_r (z14 + x4)
          generalize n_wr (z14 + x4) = z16 at f15 ⊢
          refine n_aload_n c_70_55 rfl ?_
          have hcst : ((5 + 1) : Int) = 6 := by omega
          rw [hcst]
          refine n_s4V c_70_56 rfl rfl rfl rfl (gather48_6_3 (n := z16) hS5 (by omega)) ?_
          intro  M17 hP18
          have hS17 := hP18
          refine n_fg (le_s (le_s (le_s (le_s (le_s le_0))))) ?_
          exact ih.2 _ M17 hS17 (by omega) (by omega)
    · intro x4 M hS k4 hnn
      refine n_iinc (L2 := [some (2, 38), some (0, 5), some (0, n), some (2, 48), some (0, (x4 + 1))]) c_70_59 rfl rfl rfl (n_goto c_70_62 (n_fg (le_s (le_s (le_s (le_s (le_s le_0))))) ?_))
      exact ih.1 _ M hS (by omega) (by omega)
set_option maxHeartbeats 4000000 in
theorem gather48_5_3 {xs : List Int32} {e : Nat} {ac : Int} {M0 M : nM} {n : Int} (hS : Sf 3 ac M0 M) (hn : -2147483648 ≤ n ∧ n ≤ 2147483647) : nW xs (e + 6) 70 0 [some (2, 38), some (0, 5), some (0, n), some (2, 48), none] [] M (nPV fun M1 => Sf 3 ac M0 M1) := by
  have hd : (3 : Int) = 2 ∨ (3 : Int) = 3 := by decide
  have hac := hS.2.2.2.2
  refine n_iload_n c_70_0 rfl (n_aload_n c_70_1 rfl (n_getV (bi := 6) c_70_2 sc_38.n rfl rfl rfl (t_38_6 hS) ?_))
  intro z1 ez1 f2
  refine n_if2_lt c_70_5 (by omega) (by omega) ?_ ?_
  · intro h3
    refine n_iconst c_70_14 (n_istore (L2 := [some (2, 38), some (0, 5), some (0, n), some (2, 48), some (0, 0)]) c_70_15 rfl rfl (n_fg (le_s (le_s (le_s (le_s (le_s le_0))))) ?_))
    exact (gather48_5_3_c hS hn 30).1 _ M hS (by omega) (by omega)
  · intro h4
    refine n_aload_n c_70_8 rfl (n_iload_n c_70_9 rfl (n_v1V c_70_10 rfl sc_48.n rfl rfl rfl rfl (add48_3 (n := n) hS (by omega)) ?_))
    intro  M5 hP6
    have hS5 := hP6
    exact n_rV c_70_13 rfl hS5

set_option maxHeartbeats 4000000 in
theorem gather48_4_3_c {xs : List Int32} {e : Nat} {ac : Int} {M0 M : nM} {n : Int} (hS : Sf 3 ac M0 M) (hn : -2147483648 ≤ n ∧ n ≤ 2147483647) : ∀ nn : Nat, (∀ (x4 : Int) (M : nM), Sf 3 ac M0 M → (0 ≤ x4 ∧ x4 ≤ 3) → (3 - x4) * 2 + 2 < (nn : Int) → nW xs (e + 7) 70 17 [some (2, 38), some (0, 4), some (0, n), some (2, 48), some (0, x4)] [] M (nPV fun M1 => Sf 3 ac M0 M1)) ∧ (∀ (x4 : Int) (M : nM), Sf 3 ac M0 M → (0 ≤ x4 ∧ x4 ≤ 2) → (3 - x4) * 2 + 1 < (nn : Int) → nW xs (e + 7) 70 59 [some (2, 38), some (0, 4), some (0, n), some (2, 48), some (0, x4)] [] M (nPV fun M1 => Sf 3 ac M0 M1)) := by
  have hd : (3 : Int) = 2 ∨ (3 : Int) = 3 := by decide
  have hac := hS.2.2.2.2
  intro nn
  induction nn with
  | zero => refine ⟨?_, ?_⟩ <;> (intros; omega)
  | succ nn ih =>
    refine ⟨?_, ?_⟩
    · intro x4 M hS k4 hnn
      refine n_iload c_70_17 rfl (n_aload_n c_70_19 rfl (n_getV (bi := 5) c_70_20 sc_38.n rfl rfl rfl (t_38_5 hS) ?_))
      intro z1 ez1 f2
      refine n_if2_ge c_70_23 (by omega) (by omega) ?_ ?_
      · intro h3
        exact n_rV c_70_65 rfl hS
      · intro h4
        refine n_aload_n c_70_26 rfl (n_getR c_70_27 sc_38.n rfl rfl rfl r_38_0 (n_iload_n c_70_30 rfl (n_iload c_70_31 rfl (n_iastoreV hS c_70_33 sc_39.n rfl (by omega) (w_39 (by omega) (by omega)) ?_))))
        intro M5 eM5 hS5
        have g5_0 : M5 38 5 = M 38 5 := by rw [eM5]; exact nu_a (by omega)
        refine n_aload_n c_70_34 rfl (n_iload_n c_70_35 rfl (n_v1I c_70_36 rfl sc_38.n rfl rfl rfl rfl (fits_3 (l := 4) hS5 (by omega)) ?_))
        intro z6 M7 hP8
        obtain ⟨eM, f8⟩ := hP8
        subst eM
        refine n_if0_eq c_70_39 (by omega) ?_ ?_
        · intro h9
          refine n_fg (le_s (le_s (le_s (le_s (le_s le_0))))) ?_
          exact ih.2 _ M5 hS5 (by omega) (by omega)
        · intro h10
          refine n_aload_n c_70_42 rfl (n_iload_n c_70_43 rfl (n_iconst c_70_44 (n_iadd c_70_45 rfl (n_iload_n c_70_46 rfl (n_aload_n c_70_47 rfl (n_getV (bi := 5) c_70_48 sc_38.n rfl rfl rfl (t_38_5 hS5) ?_))))))
          intro z11 ez11 f12
          refine n_imul c_70_51 rfl (n_wrap ?_)
          have f13 := n_wr_r (n * z11)
          generalize n_wr (n * z11) = z14 at f13 ⊢
          refine n_iload c_70_52 rfl (n_iadd c_70_54 rfl (n_wrap ?_))
          have f15 := n_wr_r (z14 + x4)
          generalize n_wr (z14 + x4) = z16 at f15 ⊢
          refine n_aload_n c_70_55 rfl ?_
          have hcst : ((4 + 1) : Int) = 5 := by omega
          rw [hcst]
          refine n_s4V c_70_56 rfl rfl rfl rfl (gather48_5_3 (n := z16) hS5 (by omega)) ?_
          intro  M17 hP18
          have hS17 := hP18
          refine n_fg (le_s (le_s (le_s (le_s (le_s le_0))))) ?_
          exact ih.2 _ M17 hS17 (by omega) (by omega)
    · intro x4 M hS k4 hnn
      refine n_iinc (L2 := [some (2, 38), some (0, 4), some (0, n), some (2, 48), some (0, (x4 + 1))]) c_70_59 rfl rfl rfl (n_goto c_70_62 (n_fg (le_s (le_s (le_s (le_s (le_s le_0))))) ?_))
      exact ih.1 _ M hS (by omega) (by omega)
set_option maxHeartbeats 4000000 in
theorem gather48_4_3 {xs : List Int32} {e : Nat} {ac : Int} {M0 M : nM} {n : Int} (hS : Sf 3 ac M0 M) (hn : -2147483648 ≤ n ∧ n ≤ 2147483647) : nW xs (e + 7) 70 0 [some (2, 38), some (0, 4), some (0, n), some (2, 48), none] [] M (nPV fun M1 => Sf 3 ac M0 M1) := by
  have hd : (3 : Int) = 2 ∨ (3 : Int) = 3 := by decide
  have hac := hS.2.2.2.2
  refine n_iload_n c_70_0 rfl (n_aload_n c_70_1 rfl (n_getV (bi := 6) c_70_2 sc_38.n rfl rfl rfl (t_38_6 hS) ?_))
  intro z1 ez1 f2
  refine n_if2_lt c_70_5 (by omega) (by omega) ?_ ?_
  · intro h3
    refine n_iconst c_70_14 (n_istore (L2 := [some (2, 38), some (0, 4), some (0, n), some (2, 48), some (0, 0)]) c_70_15 rfl rfl (n_fg (le_s (le_s (le_s (le_s (le_s le_0))))) ?_))
    exact (gather48_4_3_c hS hn 30).1 _ M hS (by omega) (by omega)
  · intro h4
    refine n_aload_n c_70_8 rfl (n_iload_n c_70_9 rfl (n_v1V c_70_10 rfl sc_48.n rfl rfl rfl rfl (add48_3 (n := n) hS (by omega)) ?_))
    intro  M5 hP6
    have hS5 := hP6
    exact n_rV c_70_13 rfl hS5

set_option maxHeartbeats 4000000 in
theorem gather48_3_3_c {xs : List Int32} {e : Nat} {ac : Int} {M0 M : nM} {n : Int} (hS : Sf 3 ac M0 M) (hn : -2147483648 ≤ n ∧ n ≤ 2147483647) : ∀ nn : Nat, (∀ (x4 : Int) (M : nM), Sf 3 ac M0 M → (0 ≤ x4 ∧ x4 ≤ 3) → (3 - x4) * 2 + 2 < (nn : Int) → nW xs (e + 8) 70 17 [some (2, 38), some (0, 3), some (0, n), some (2, 48), some (0, x4)] [] M (nPV fun M1 => Sf 3 ac M0 M1)) ∧ (∀ (x4 : Int) (M : nM), Sf 3 ac M0 M → (0 ≤ x4 ∧ x4 ≤ 2) → (3 - x4) * 2 + 1 < (nn : Int) → nW xs (e + 8) 70 59 [some (2, 38), some (0, 3), some (0, n), some (2, 48), some (0, x4)] [] M (nPV fun M1 => Sf 3 ac M0 M1)) := by
  have hd : (3 : Int) = 2 ∨ (3 : Int) = 3 := by decide
  have hac := hS.2.2.2.2
  intro nn
  induction nn with
  | zero => refine ⟨?_, ?_⟩ <;> (intros; omega)
  | succ nn ih =>
    refine ⟨?_, ?_⟩
    · intro x4 M hS k4 hnn
      refine n_iload c_70_17 rfl (n_aload_n c_70_19 rfl (n_getV (bi := 5) c_70_20 sc_38.n rfl rfl rfl (t_38_5 hS) ?_))
      intro z1 ez1 f2
      refine n_if2_ge c_70_23 (by omega) (by omega) ?_ ?_
      · intro h3
        exact n_rV c_70_65 rfl hS
      · intro h4
        refine n_aload_n c_70_26 rfl (n_getR c_70_27 sc_38.n rfl rfl rfl r_38_0 (n_iload_n c_70_30 rfl (n_iload c_70_31 rfl (n_iastoreV hS c_70_33 sc_39.n rfl (by omega) (w_39 (by omega) (by omega)) ?_))))
        intro M5 eM5 hS5
        have g5_0 : M5 38 5 = M 38 5 := by rw [eM5]; exact nu_a (by omega)
        refine n_aload_n c_70_34 rfl (n_iload_n c_70_35 rfl (n_v1I c_70_36 rfl sc_38.n rfl rfl rfl rfl (fits_3 (l := 3) hS5 (by omega)) ?_))
        intro z6 M7 hP8
        obtain ⟨eM, f8⟩ := hP8
        subst eM
        refine n_if0_eq c_70_39 (by omega) ?_ ?_
        · intro h9
          refine n_fg (le_s (le_s (le_s (le_s (le_s le_0))))) ?_
          exact ih.2 _ M5 hS5 (by omega) (by omega)
        · intro h10
          refine n_aload_n c_70_42 rfl (n_iload_n c_70_43 rfl (n_iconst c_70_44 (n_iadd c_70_45 rfl (n_iload_n c_70_46 rfl (n_aload_n c_70_47 rfl (n_getV (bi := 5) c_70_48 sc_38.n rfl rfl rfl (t_38_5 hS5) ?_))))))
          intro z11 ez11 f12
          refine n_imul c_70_51 rfl (n_wrap ?_)
          have f13 := n_wr_r (n * z11)
          generalize n_wr (n * z11) = z14 at f13 ⊢
          refine n_iload c_70_52 rfl (n_iadd c_70_54 rfl (n_wrap ?_))
          have f15 := n_wr_r (z14 + x4)
          generalize n_wr (z14 + x4) = z16 at f15 ⊢
          refine n_aload_n c_70_55 rfl ?_
          have hcst : ((3 + 1) : Int) = 4 := by omega
          rw [hcst]
          refine n_s4V c_70_56 rfl rfl rfl rfl (gather48_4_3 (n := z16) hS5 (by omega)) ?_
          intro  M17 hP18
          have hS17 := hP18
          refine n_fg (le_s (le_s (le_s (le_s (le_s le_0))))) ?_
          exact ih.2 _ M17 hS17 (by omega) (by omega)
    · intro x4 M hS k4 hnn
      refine n_iinc (L2 := [some (2, 38), some (0, 3), some (0, n), some (2, 48), some (0, (x4 + 1))]) c_70_59 rfl rfl rfl (n_goto c_70_62 (n_fg (le_s (le_s (le_s (le_s (le_s le_0))))) ?_))
      exact ih.1 _ M hS (by omega) (by omega)
set_option maxHeartbeats 4000000 in
theorem gather48_3_3 {xs : List Int32} {e : Nat} {ac : Int} {M0 M : nM} {n : Int} (hS : Sf 3 ac M0 M) (hn : -2147483648 ≤ n ∧ n ≤ 2147483647) : nW xs (e + 8) 70 0 [some (2, 38), some (0, 3), some (0, n), some (2, 48), none] [] M (nPV fun M1 => Sf 3 ac M0 M1) := by
  have hd : (3 : Int) = 2 ∨ (3 : Int) = 3 := by decide
  have hac := hS.2.2.2.2
  refine n_iload_n c_70_0 rfl (n_aload_n c_70_1 rfl (n_getV (bi := 6) c_70_2 sc_38.n rfl rfl rfl (t_38_6 hS) ?_))
  intro z1 ez1 f2
  refine n_if2_lt c_70_5 (by omega) (by omega) ?_ ?_
  · intro h3
    refine n_iconst c_70_14 (n_istore (L2 := [some (2, 38), some (0, 3), some (0, n), some (2, 48), some (0, 0)]) c_70_15 rfl rfl (n_fg (le_s (le_s (le_s (le_s (le_s le_0))))) ?_))
    exact (gather48_3_3_c hS hn 30).1 _ M hS (by omega) (by omega)
  · intro h4
    refine n_aload_n c_70_8 rfl (n_iload_n c_70_9 rfl (n_v1V c_70_10 rfl sc_48.n rfl rfl rfl rfl (add48_3 (n := n) hS (by omega)) ?_))
    intro  M5 hP6
    have hS5 := hP6
    exact n_rV c_70_13 rfl hS5

set_option maxHeartbeats 4000000 in
theorem gather48_2_3_c {xs : List Int32} {e : Nat} {ac : Int} {M0 M : nM} {n : Int} (hS : Sf 3 ac M0 M) (hn : -2147483648 ≤ n ∧ n ≤ 2147483647) : ∀ nn : Nat, (∀ (x4 : Int) (M : nM), Sf 3 ac M0 M → (0 ≤ x4 ∧ x4 ≤ 3) → (3 - x4) * 2 + 2 < (nn : Int) → nW xs (e + 9) 70 17 [some (2, 38), some (0, 2), some (0, n), some (2, 48), some (0, x4)] [] M (nPV fun M1 => Sf 3 ac M0 M1)) ∧ (∀ (x4 : Int) (M : nM), Sf 3 ac M0 M → (0 ≤ x4 ∧ x4 ≤ 2) → (3 - x4) * 2 + 1 < (nn : Int) → nW xs (e + 9) 70 59 [some (2, 38), some (0, 2), some (0, n), some (2, 48), some (0, x4)] [] M (nPV fun M1 => Sf 3 ac M0 M1)) := by
  have hd : (3 : Int) = 2 ∨ (3 : Int) = 3 := by decide
  have hac := hS.2.2.2.2
  intro nn
  induction nn with
  | zero => refine ⟨?_, ?_⟩ <;> (intros; omega)
  | succ nn ih =>
    refine ⟨?_, ?_⟩
    · intro x4 M hS k4 hnn
      refine n_iload c_70_17 rfl (n_aload_n c_70_19 rfl (n_getV (bi := 5) c_70_20 sc_38.n rfl rfl rfl (t_38_5 hS) ?_))
      intro z1 ez1 f2
      refine n_if2_ge c_70_23 (by omega) (by omega) ?_ ?_
      · intro h3
        exact n_rV c_70_65 rfl hS
      · intro h4
        refine n_aload_n c_70_26 rfl (n_getR c_70_27 sc_38.n rfl rfl rfl r_38_0 (n_iload_n c_70_30 rfl (n_iload c_70_31 rfl (n_iastoreV hS c_70_33 sc_39.n rfl (by omega) (w_39 (by omega) (by omega)) ?_))))
        intro M5 eM5 hS5
        have g5_0 : M5 38 5 = M 38 5 := by rw [eM5]; exact nu_a (by omega)
        refine n_aload_n c_70_34 rfl (n_iload_n c_70_35 rfl (n_v1I c_70_36 rfl sc_38.n rfl rfl rfl rfl (fits_3 (l := 2) hS5 (by omega)) ?_))
        intro z6 M7 hP8
        obtain ⟨eM, f8⟩ := hP8
        subst eM
        refine n_if0_eq c_70_39 (by omega) ?_ ?_
        · intro h9
          refine n_fg (le_s (le_s (le_s (le_s (le_s le_0))))) ?_
          exact ih.2 _ M5 hS5 (by omega) (by omega)
        · intro h10
          refine n_aload_n c_70_42 rfl (n_iload_n c_70_43 rfl (n_iconst c_70_44 (n_iadd c_70_45 rfl (n_iload_n c_70_46 rfl (n_aload_n c_70_47 rfl (n_getV (bi := 5) c_70_48 sc_38.n rfl rfl rfl (t_38_5 hS5) ?_))))))
          intro z11 ez11 f12
          refine n_imul c_70_51 rfl (n_wrap ?_)
          have f13 := n_wr_r (n * z11)
          generalize n_wr (n * z11) = z14 at f13 ⊢
          refine n_iload c_70_52 rfl (n_iadd c_70_54 rfl (n_wrap ?_))
          have f15 := n_wr_r (z14 + x4)
          generalize n_wr (z14 + x4) = z16 at f15 ⊢
          refine n_aload_n c_70_55 rfl ?_
          have hcst : ((2 + 1) : Int) = 3 := by omega
          rw [hcst]
          refine n_s4V c_70_56 rfl rfl rfl rfl (gather48_3_3 (n := z16) hS5 (by omega)) ?_
          intro  M17 hP18
          have hS17 := hP18
          refine n_fg (le_s (le_s (le_s (le_s (le_s le_0))))) ?_
          exact ih.2 _ M17 hS17 (by omega) (by omega)
    · intro x4 M hS k4 hnn
      refine n_iinc (L2 := [some (2, 38), some (0, 2), some (0, n), some (2, 48), some (0, (x4 + 1))]) c_70_59 rfl rfl rfl (n_goto c_70_62 (n_fg (le_s (le_s (le_s (le_s (le_s le_0))))) ?_))
      exact ih.1 _ M hS (by omega) (by omega)
set_option maxHeartbeats 4000000 in
theorem gather48_2_3 {xs : List Int32} {e : Nat} {ac : Int} {M0 M : nM} {n : Int} (hS : Sf 3 ac M0 M) (hn : -2147483648 ≤ n ∧ n ≤ 2147483647) : nW xs (e + 9) 70 0 [some (2, 38), some (0, 2), some (0, n), some (2, 48), none] [] M (nPV fun M1 => Sf 3 ac M0 M1) := by
  have hd : (3 : Int) = 2 ∨ (3 : Int) = 3 := by decide
  have hac := hS.2.2.2.2
  refine n_iload_n c_70_0 rfl (n_aload_n c_70_1 rfl (n_getV (bi := 6) c_70_2 sc_38.n rfl rfl rfl (t_38_6 hS) ?_))
  intro z1 ez1 f2
  refine n_if2_lt c_70_5 (by omega) (by omega) ?_ ?_
  · intro h3
    refine n_iconst c_70_14 (n_istore (L2 := [some (2, 38), some (0, 2), some (0, n), some (2, 48), some (0, 0)]) c_70_15 rfl rfl (n_fg (le_s (le_s (le_s (le_s (le_s le_0))))) ?_))
    exact (gather48_2_3_c hS hn 30).1 _ M hS (by omega) (by omega)
  · intro h4
    refine n_aload_n c_70_8 rfl (n_iload_n c_70_9 rfl (n_v1V c_70_10 rfl sc_48.n rfl rfl rfl rfl (add48_3 (n := n) hS (by omega)) ?_))
    intro  M5 hP6
    have hS5 := hP6
    exact n_rV c_70_13 rfl hS5

set_option maxHeartbeats 4000000 in
theorem gather48_1_3_c {xs : List Int32} {e : Nat} {ac : Int} {M0 M : nM} {n : Int} (hS : Sf 3 ac M0 M) (hn : -2147483648 ≤ n ∧ n ≤ 2147483647) : ∀ nn : Nat, (∀ (x4 : Int) (M : nM), Sf 3 ac M0 M → (0 ≤ x4 ∧ x4 ≤ 3) → (3 - x4) * 2 + 2 < (nn : Int) → nW xs (e + 10) 70 17 [some (2, 38), some (0, 1), some (0, n), some (2, 48), some (0, x4)] [] M (nPV fun M1 => Sf 3 ac M0 M1)) ∧ (∀ (x4 : Int) (M : nM), Sf 3 ac M0 M → (0 ≤ x4 ∧ x4 ≤ 2) → (3 - x4) * 2 + 1 < (nn : Int) → nW xs (e + 10) 70 59 [some (2, 38), some (0, 1), some (0, n), some (2, 48), some (0, x4)] [] M (nPV fun M1 => Sf 3 ac M0 M1)) := by
  have hd : (3 : Int) = 2 ∨ (3 : Int) = 3 := by decide
  have hac := hS.2.2.2.2
  intro nn
  induction nn with
  | zero => refine ⟨?_, ?_⟩ <;> (intros; omega)
  | succ nn ih =>
    refine ⟨?_, ?_⟩
    · intro x4 M hS k4 hnn
      refine n_iload c_70_17 rfl (n_aload_n c_70_19 rfl (n_getV (bi := 5) c_70_20 sc_38.n rfl rfl rfl (t_38_5 hS) ?_))
      intro z1 ez1 f2
      refine n_if2_ge c_70_23 (by omega) (by omega) ?_ ?_
      · intro h3
        exact n_rV c_70_65 rfl hS
      · intro h4
        refine n_aload_n c_70_26 rfl (n_getR c_70_27 sc_38.n rfl rfl rfl r_38_0 (n_iload_n c_70_30 rfl (n_iload c_70_31 rfl (n_iastoreV hS c_70_33 sc_39.n rfl (by omega) (w_39 (by omega) (by omega)) ?_))))
        intro M5 eM5 hS5
        have g5_0 : M5 38 5 = M 38 5 := by rw [eM5]; exact nu_a (by omega)
        refine n_aload_n c_70_34 rfl (n_iload_n c_70_35 rfl (n_v1I c_70_36 rfl sc_38.n rfl rfl rfl rfl (fits_3 (l := 1) hS5 (by omega)) ?_))
        intro z6 M7 hP8
        obtain ⟨eM, f8⟩ := hP8
        subst eM
        refine n_if0_eq c_70_39 (by omega) ?_ ?_
        · intro h9
          refine n_fg (le_s (le_s (le_s (le_s (le_s le_0))))) ?_
          exact ih.2 _ M5 hS5 (by omega) (by omega)
        · intro h10
          refine n_aload_n c_70_42 rfl (n_iload_n c_70_43 rfl (n_iconst c_70_44 (n_iadd c_70_45 rfl (n_iload_n c_70_46 rfl (n_aload_n c_70_47 rfl (n_getV (bi := 5) c_70_48 sc_38.n rfl rfl rfl (t_38_5 hS5) ?_))))))
          intro z11 ez11 f12
          refine n_imul c_70_51 rfl (n_wrap ?_)
          have f13 := n_wr_r (n * z11)
          generalize n_wr (n * z11) = z14 at f13 ⊢
          refine n_iload c_70_52 rfl (n_iadd c_70_54 rfl (n_wrap ?_))
          have f15 := n_wr_r (z14 + x4)
          generalize n_wr (z14 + x4) = z16 at f15 ⊢
          refine n_aload_n c_70_55 rfl ?_
          have hcst : ((1 + 1) : Int) = 2 := by omega
          rw [hcst]
          refine n_s4V c_70_56 rfl rfl rfl rfl (gather48_2_3 (n := z16) hS5 (by omega)) ?_
          intro  M17 hP18
          have hS17 := hP18
          refine n_fg (le_s (le_s (le_s (le_s (le_s le_0))))) ?_
          exact ih.2 _ M17 hS17 (by omega) (by omega)
    · intro x4 M hS k4 hnn
      refine n_iinc (L2 := [some (2, 38), some (0, 1), some (0, n), some (2, 48), some (0, (x4 + 1))]) c_70_59 rfl rfl rfl (n_goto c_70_62 (n_fg (le_s (le_s (le_s (le_s (le_s le_0))))) ?_))
      exact ih.1 _ M hS (by omega) (by omega)
set_option maxHeartbeats 4000000 in
theorem gather48_1_3 {xs : List Int32} {e : Nat} {ac : Int} {M0 M : nM} {n : Int} (hS : Sf 3 ac M0 M) (hn : -2147483648 ≤ n ∧ n ≤ 2147483647) : nW xs (e + 10) 70 0 [some (2, 38), some (0, 1), some (0, n), some (2, 48), none] [] M (nPV fun M1 => Sf 3 ac M0 M1) := by
  have hd : (3 : Int) = 2 ∨ (3 : Int) = 3 := by decide
  have hac := hS.2.2.2.2
  refine n_iload_n c_70_0 rfl (n_aload_n c_70_1 rfl (n_getV (bi := 6) c_70_2 sc_38.n rfl rfl rfl (t_38_6 hS) ?_))
  intro z1 ez1 f2
  refine n_if2_lt c_70_5 (by omega) (by omega) ?_ ?_
  · intro h3
    refine n_iconst c_70_14 (n_istore (L2 := [some (2, 38), some (0, 1), some (0, n), some (2, 48), some (0, 0)]) c_70_15 rfl rfl (n_fg (le_s (le_s (le_s (le_s (le_s le_0))))) ?_))
    exact (gather48_1_3_c hS hn 30).1 _ M hS (by omega) (by omega)
  · intro h4
    refine n_aload_n c_70_8 rfl (n_iload_n c_70_9 rfl (n_v1V c_70_10 rfl sc_48.n rfl rfl rfl rfl (add48_3 (n := n) hS (by omega)) ?_))
    intro  M5 hP6
    have hS5 := hP6
    exact n_rV c_70_13 rfl hS5

set_option maxHeartbeats 4000000 in
theorem gather48_0_3_c {xs : List Int32} {e : Nat} {ac : Int} {M0 M : nM} {n : Int} (hS : Sf 3 ac M0 M) (hn : -2147483648 ≤ n ∧ n ≤ 2147483647) : ∀ nn : Nat, (∀ (x4 : Int) (M : nM), Sf 3 ac M0 M → (0 ≤ x4 ∧ x4 ≤ 3) → (3 - x4) * 2 + 2 < (nn : Int) → nW xs (e + 11) 70 17 [some (2, 38), some (0, 0), some (0, n), some (2, 48), some (0, x4)] [] M (nPV fun M1 => Sf 3 ac M0 M1)) ∧ (∀ (x4 : Int) (M : nM), Sf 3 ac M0 M → (0 ≤ x4 ∧ x4 ≤ 2) → (3 - x4) * 2 + 1 < (nn : Int) → nW xs (e + 11) 70 59 [some (2, 38), some (0, 0), some (0, n), some (2, 48), some (0, x4)] [] M (nPV fun M1 => Sf 3 ac M0 M1)) := by
  have hd : (3 : Int) = 2 ∨ (3 : Int) = 3 := by decide
  have hac := hS.2.2.2.2
  intro nn
  induction nn with
  | zero => refine ⟨?_, ?_⟩ <;> (intros; omega)
  | succ nn ih =>
    refine ⟨?_, ?_⟩
    · intro x4 M hS k4 hnn
      refine n_iload c_70_17 rfl (n_aload_n c_70_19 rfl (n_getV (bi := 5) c_70_20 sc_38.n rfl rfl rfl (t_38_5 hS) ?_))
      intro z1 ez1 f2
      refine n_if2_ge c_70_23 (by omega) (by omega) ?_ ?_
      · intro h3
        exact n_rV c_70_65 rfl hS
      · intro h4
        refine n_aload_n c_70_26 rfl (n_getR c_70_27 sc_38.n rfl rfl rfl r_38_0 (n_iload_n c_70_30 rfl (n_iload c_70_31 rfl (n_iastoreV hS c_70_33 sc_39.n rfl (by omega) (w_39 (by omega) (by omega)) ?_))))
        intro M5 eM5 hS5
        have g5_0 : M5 38 5 = M 38 5 := by rw [eM5]; exact nu_a (by omega)
        refine n_aload_n c_70_34 rfl (n_iload_n c_70_35 rfl (n_v1I c_70_36 rfl sc_38.n rfl rfl rfl rfl (fits_3 (l := 0) hS5 (by omega)) ?_))
        intro z6 M7 hP8
        obtain ⟨eM, f8⟩ := hP8
        subst eM
        refine n_if0_eq c_70_39 (by omega) ?_ ?_
        · intro h9
          refine n_fg (le_s (le_s (le_s (le_s (le_s le_0))))) ?_
          exact ih.2 _ M5 hS5 (by omega) (by omega)
        · intro h10
          refine n_aload_n c_70_42 rfl (n_iload_n c_70_43 rfl (n_iconst c_70_44 (n_iadd c_70_45 rfl (n_iload_n c_70_46 rfl (n_aload_n c_70_47 rfl (n_getV (bi := 5) c_70_48 sc_38.n rfl rfl rfl (t_38_5 hS5) ?_))))))
          intro z11 ez11 f12
          refine n_imul c_70_51 rfl (n_wrap ?_)
          have f13 := n_wr_r (n * z11)
          generalize n_wr (n * z11) = z14 at f13 ⊢
          refine n_iload c_70_52 rfl (n_iadd c_70_54 rfl (n_wrap ?_))
          have f15 := n_wr_r (z14 + x4)
          generalize n_wr (z14 + x4) = z16 at f15 ⊢
          refine n_aload_n c_70_55 rfl ?_
          have hcst : ((0 + 1) : Int) = 1 := by omega
          rw [hcst]
          refine n_s4V c_70_56 rfl rfl rfl rfl (gather48_1_3 (n := z16) hS5 (by omega)) ?_
          intro  M17 hP18
          have hS17 := hP18
          refine n_fg (le_s (le_s (le_s (le_s (le_s le_0))))) ?_
          exact ih.2 _ M17 hS17 (by omega) (by omega)
    · intro x4 M hS k4 hnn
      refine n_iinc (L2 := [some (2, 38), some (0, 0), some (0, n), some (2, 48), some (0, (x4 + 1))]) c_70_59 rfl rfl rfl (n_goto c_70_62 (n_fg (le_s (le_s (le_s (le_s (le_s le_0))))) ?_))
      exact ih.1 _ M hS (by omega) (by omega)
set_option maxHeartbeats 4000000 in
theorem gather48_0_3 {xs : List Int32} {e : Nat} {ac : Int} {M0 M : nM} {n : Int} (hS : Sf 3 ac M0 M) (hn : -2147483648 ≤ n ∧ n ≤ 2147483647) : nW xs (e + 11) 70 0 [some (2, 38), some (0, 0), some (0, n), some (2, 48), none] [] M (nPV fun M1 => Sf 3 ac M0 M1) := by
  have hd : (3 : Int) = 2 ∨ (3 : Int) = 3 := by decide
  have hac := hS.2.2.2.2
  refine n_iload_n c_70_0 rfl (n_aload_n c_70_1 rfl (n_getV (bi := 6) c_70_2 sc_38.n rfl rfl rfl (t_38_6 hS) ?_))
  intro z1 ez1 f2
  refine n_if2_lt c_70_5 (by omega) (by omega) ?_ ?_
  · intro h3
    refine n_iconst c_70_14 (n_istore (L2 := [some (2, 38), some (0, 0), some (0, n), some (2, 48), some (0, 0)]) c_70_15 rfl rfl (n_fg (le_s (le_s (le_s (le_s (le_s le_0))))) ?_))
    exact (gather48_0_3_c hS hn 30).1 _ M hS (by omega) (by omega)
  · intro h4
    refine n_aload_n c_70_8 rfl (n_iload_n c_70_9 rfl (n_v1V c_70_10 rfl sc_48.n rfl rfl rfl rfl (add48_3 (n := n) hS (by omega)) ?_))
    intro  M5 hP6
    have hS5 := hP6
    exact n_rV c_70_13 rfl hS5

set_option maxHeartbeats 4000000 in
theorem findAll48_3 {xs : List Int32} {e : Nat} {ac : Int} {M0 M : nM} (hS : Sf 3 ac M0 M)  : nW xs (e + 14) 68 0 [some (2, 38), some (2, 48)] [] M (nPV fun M1 => Sf 3 ac M0 M1) := by
  have hd : (3 : Int) = 2 ∨ (3 : Int) = 3 := by decide
  have hac := hS.2.2.2.2
  refine n_aload_n c_68_0 rfl (n_v0V c_68_1 rfl sc_48.n rfl rfl rfl rfl (clear48_3  hS ) ?_)
  intro  M1 hP2
  have hS1 := hP2
  refine n_aload_n c_68_4 rfl (n_iconst c_68_5 (n_iconst c_68_6 (n_aload_n c_68_7 rfl (n_s4V c_68_8 rfl rfl rfl rfl (gather48_0_3 (n := 0) hS1 (by omega)) ?_))))
  intro  M3 hP4
  have hS3 := hP4
  exact n_rV c_68_11 rfl hS3

set_option maxHeartbeats 4000000 in
theorem seek9_3 {xs : List Int32} {e : Nat} {ac : Int} {M0 M : nM} (hS : Sf 3 ac M0 M)  : nW xs (e + 3) 71 0 [some (2, 38), some (0, 9), some (2, 44), none] [] M (nPI fun z M1 => Sf 3 ac M0 M1 ∧ (0 ≤ z ∧ z ≤ 1)) := by
  have hd : (3 : Int) = 2 ∨ (3 : Int) = 3 := by decide
  have hac := hS.2.2.2.2
  refine n_iload_n c_71_0 rfl (n_aload_n c_71_1 rfl (n_getV (bi := 6) c_71_2 sc_38.n rfl rfl rfl (t_38_6 hS) ?_))
  intro z1 ez1 f2
  refine n_if2_lt c_71_5 (by omega) (by omega) ?_ ?_
  · intro h3
    exfalso; omega
  · intro h4
    refine n_aload_n c_71_8 rfl (n_aload_n c_71_9 rfl (n_getR c_71_10 sc_38.n rfl rfl rfl r_38_0 (n_aload_n c_71_13 rfl (n_getV (bi := 5) c_71_14 sc_38.n rfl rfl rfl (t_38_5 hS) ?_))))
    intro z5 ez5 f6
    refine n_v2I c_71_17 rfl sc_44.n rfl rfl rfl rfl (suits_3 (t := z5) hS (by omega)) ?_
    intro z7 M8 hP9
    obtain ⟨eM, f9⟩ := hP9
    subst eM
    exact n_rZ c_71_20 rfl (by omega) ⟨hS, by omega⟩

set_option maxHeartbeats 4000000 in
theorem seek8_3_c {xs : List Int32} {e : Nat} {ac : Int} {M0 M : nM} (hS : Sf 3 ac M0 M)  : ∀ nn : Nat, (∀ (x3 : Int) (M : nM), Sf 3 ac M0 M → (0 ≤ x3 ∧ x3 ≤ 3) → (3 - x3) * 2 + 2 < (nn : Int) → nW xs (e + 4) 71 23 [some (2, 38), some (0, 8), some (2, 44), some (0, x3)] [] M (nPI fun z M1 => Sf 3 ac M0 M1 ∧ (0 ≤ z ∧ z ≤ 1))) ∧ (∀ (x3 : Int) (M : nM), Sf 3 ac M0 M → (0 ≤ x3 ∧ x3 ≤ 2) → (3 - x3) * 2 + 1 < (nn : Int) → nW xs (e + 4) 71 59 [some (2, 38), some (0, 8), some (2, 44), some (0, x3)] [] M (nPI fun z M1 => Sf 3 ac M0 M1 ∧ (0 ≤ z ∧ z ≤ 1))) := by
  have hd : (3 : Int) = 2 ∨ (3 : Int) = 3 := by decide
  have hac := hS.2.2.2.2
  intro nn
  induction nn with
  | zero => refine ⟨?_, ?_⟩ <;> (intros; omega)
  | succ nn ih =>
    refine ⟨?_, ?_⟩
    · intro x3 M hS k3 hnn
      refine n_iload_n c_71_23 rfl (n_aload_n c_71_24 rfl (n_getV (bi := 5) c_71_25 sc_38.n rfl rfl rfl (t_38_5 hS) ?_))
      intro z1 ez1 f2
      refine n_if2_ge c_71_28 (by omega) (by omega) ?_ ?_
      · intro h3
        refine n_iconst c_71_65 ?_
        exact n_rZ c_71_66 rfl (by omega) ⟨hS, by omega⟩
      · intro h4
        refine n_aload_n c_71_31 rfl (n_getR c_71_32 sc_38.n rfl rfl rfl r_38_0 (n_iload_n c_71_35 rfl (n_iload_n c_71_36 rfl (n_iastoreV hS c_71_37 sc_39.n rfl (by omega) (w_39 (by omega) (by omega)) ?_))))
        intro M5 eM5 hS5
        have g5_0 : M5 38 5 = M 38 5 := by rw [eM5]; exact nu_a (by omega)
        refine n_aload_n c_71_38 rfl (n_iload_n c_71_39 rfl (n_v1I c_71_40 rfl sc_38.n rfl rfl rfl rfl (fits_3 (l := 8) hS5 (by omega)) ?_))
        intro z6 M7 hP8
        obtain ⟨eM, f8⟩ := hP8
        subst eM
        refine n_if0_eq c_71_43 (by omega) ?_ ?_
        · intro h9
          refine n_fg (le_s (le_s (le_s (le_s le_0)))) ?_
          exact ih.2 _ M5 hS5 (by omega) (by omega)
        · intro h10
          refine n_aload_n c_71_46 rfl (n_iload_n c_71_47 rfl (n_iconst c_71_48 (n_iadd c_71_49 rfl (n_aload_n c_71_50 rfl ?_))))
          have hcst : ((8 + 1) : Int) = 9 := by omega
          rw [hcst]
          refine n_s3I c_71_51 rfl rfl rfl rfl (seek9_3  hS5 ) ?_
          intro z11 M12 hP13
          obtain ⟨hS12, f13⟩ := hP13
          refine n_if0_eq c_71_54 (by omega) ?_ ?_
          · intro h14
            refine n_fg (le_s (le_s (le_s (le_s le_0)))) ?_
            exact ih.2 _ M12 hS12 (by omega) (by omega)
          · intro h15
            refine n_iconst c_71_57 ?_
            exact n_rZ c_71_58 rfl (by omega) ⟨hS12, by omega⟩
    · intro x3 M hS k3 hnn
      refine n_iinc (L2 := [some (2, 38), some (0, 8), some (2, 44), some (0, (x3 + 1))]) c_71_59 rfl rfl rfl (n_goto c_71_62 (n_fg (le_s (le_s (le_s (le_s le_0)))) ?_))
      exact ih.1 _ M hS (by omega) (by omega)
set_option maxHeartbeats 4000000 in
theorem seek8_3 {xs : List Int32} {e : Nat} {ac : Int} {M0 M : nM} (hS : Sf 3 ac M0 M)  : nW xs (e + 4) 71 0 [some (2, 38), some (0, 8), some (2, 44), none] [] M (nPI fun z M1 => Sf 3 ac M0 M1 ∧ (0 ≤ z ∧ z ≤ 1)) := by
  have hd : (3 : Int) = 2 ∨ (3 : Int) = 3 := by decide
  have hac := hS.2.2.2.2
  refine n_iload_n c_71_0 rfl (n_aload_n c_71_1 rfl (n_getV (bi := 6) c_71_2 sc_38.n rfl rfl rfl (t_38_6 hS) ?_))
  intro z1 ez1 f2
  refine n_if2_lt c_71_5 (by omega) (by omega) ?_ ?_
  · intro h3
    refine n_iconst c_71_21 (n_istore_n (L2 := [some (2, 38), some (0, 8), some (2, 44), some (0, 0)]) c_71_22 rfl rfl (n_fg (le_s (le_s (le_s (le_s le_0)))) ?_))
    exact (seek8_3_c hS  30).1 _ M hS (by omega) (by omega)
  · intro h4
    refine n_aload_n c_71_8 rfl (n_aload_n c_71_9 rfl (n_getR c_71_10 sc_38.n rfl rfl rfl r_38_0 (n_aload_n c_71_13 rfl (n_getV (bi := 5) c_71_14 sc_38.n rfl rfl rfl (t_38_5 hS) ?_))))
    intro z5 ez5 f6
    refine n_v2I c_71_17 rfl sc_44.n rfl rfl rfl rfl (suits_3 (t := z5) hS (by omega)) ?_
    intro z7 M8 hP9
    obtain ⟨eM, f9⟩ := hP9
    subst eM
    exact n_rZ c_71_20 rfl (by omega) ⟨hS, by omega⟩

set_option maxHeartbeats 4000000 in
theorem seek7_3_c {xs : List Int32} {e : Nat} {ac : Int} {M0 M : nM} (hS : Sf 3 ac M0 M)  : ∀ nn : Nat, (∀ (x3 : Int) (M : nM), Sf 3 ac M0 M → (0 ≤ x3 ∧ x3 ≤ 3) → (3 - x3) * 2 + 2 < (nn : Int) → nW xs (e + 5) 71 23 [some (2, 38), some (0, 7), some (2, 44), some (0, x3)] [] M (nPI fun z M1 => Sf 3 ac M0 M1 ∧ (0 ≤ z ∧ z ≤ 1))) ∧ (∀ (x3 : Int) (M : nM), Sf 3 ac M0 M → (0 ≤ x3 ∧ x3 ≤ 2) → (3 - x3) * 2 + 1 < (nn : Int) → nW xs (e + 5) 71 59 [some (2, 38), some (0, 7), some (2, 44), some (0, x3)] [] M (nPI fun z M1 => Sf 3 ac M0 M1 ∧ (0 ≤ z ∧ z ≤ 1))) := by
  have hd : (3 : Int) = 2 ∨ (3 : Int) = 3 := by decide
  have hac := hS.2.2.2.2
  intro nn
  induction nn with
  | zero => refine ⟨?_, ?_⟩ <;> (intros; omega)
  | succ nn ih =>
    refine ⟨?_, ?_⟩
    · intro x3 M hS k3 hnn
      refine n_iload_n c_71_23 rfl (n_aload_n c_71_24 rfl (n_getV (bi := 5) c_71_25 sc_38.n rfl rfl rfl (t_38_5 hS) ?_))
      intro z1 ez1 f2
      refine n_if2_ge c_71_28 (by omega) (by omega) ?_ ?_
      · intro h3
        refine n_iconst c_71_65 ?_
        exact n_rZ c_71_66 rfl (by omega) ⟨hS, by omega⟩
      · intro h4
        refine n_aload_n c_71_31 rfl (n_getR c_71_32 sc_38.n rfl rfl rfl r_38_0 (n_iload_n c_71_35 rfl (n_iload_n c_71_36 rfl (n_iastoreV hS c_71_37 sc_39.n rfl (by omega) (w_39 (by omega) (by omega)) ?_))))
        intro M5 eM5 hS5
        have g5_0 : M5 38 5 = M 38 5 := by rw [eM5]; exact nu_a (by omega)
        refine n_aload_n c_71_38 rfl (n_iload_n c_71_39 rfl (n_v1I c_71_40 rfl sc_38.n rfl rfl rfl rfl (fits_3 (l := 7) hS5 (by omega)) ?_))
        intro z6 M7 hP8
        obtain ⟨eM, f8⟩ := hP8
        subst eM
        refine n_if0_eq c_71_43 (by omega) ?_ ?_
        · intro h9
          refine n_fg (le_s (le_s (le_s (le_s le_0)))) ?_
          exact ih.2 _ M5 hS5 (by omega) (by omega)
        · intro h10
          refine n_aload_n c_71_46 rfl (n_iload_n c_71_47 rfl (n_iconst c_71_48 (n_iadd c_71_49 rfl (n_aload_n c_71_50 rfl ?_))))
          have hcst : ((7 + 1) : Int) = 8 := by omega
          rw [hcst]
          refine n_s3I c_71_51 rfl rfl rfl rfl (seek8_3  hS5 ) ?_
          intro z11 M12 hP13
          obtain ⟨hS12, f13⟩ := hP13
          refine n_if0_eq c_71_54 (by omega) ?_ ?_
          · intro h14
            refine n_fg (le_s (le_s (le_s (le_s le_0)))) ?_
            exact ih.2 _ M12 hS12 (by omega) (by omega)
          · intro h15
            refine n_iconst c_71_57 ?_
            exact n_rZ c_71_58 rfl (by omega) ⟨hS12, by omega⟩
    · intro x3 M hS k3 hnn
      refine n_iinc (L2 := [some (2, 38), some (0, 7), some (2, 44), some (0, (x3 + 1))]) c_71_59 rfl rfl rfl (n_goto c_71_62 (n_fg (le_s (le_s (le_s (le_s le_0)))) ?_))
      exact ih.1 _ M hS (by omega) (by omega)
set_option maxHeartbeats 4000000 in
theorem seek7_3 {xs : List Int32} {e : Nat} {ac : Int} {M0 M : nM} (hS : Sf 3 ac M0 M)  : nW xs (e + 5) 71 0 [some (2, 38), some (0, 7), some (2, 44), none] [] M (nPI fun z M1 => Sf 3 ac M0 M1 ∧ (0 ≤ z ∧ z ≤ 1)) := by
  have hd : (3 : Int) = 2 ∨ (3 : Int) = 3 := by decide
  have hac := hS.2.2.2.2
  refine n_iload_n c_71_0 rfl (n_aload_n c_71_1 rfl (n_getV (bi := 6) c_71_2 sc_38.n rfl rfl rfl (t_38_6 hS) ?_))
  intro z1 ez1 f2
  refine n_if2_lt c_71_5 (by omega) (by omega) ?_ ?_
  · intro h3
    refine n_iconst c_71_21 (n_istore_n (L2 := [some (2, 38), some (0, 7), some (2, 44), some (0, 0)]) c_71_22 rfl rfl (n_fg (le_s (le_s (le_s (le_s le_0)))) ?_))
    exact (seek7_3_c hS  30).1 _ M hS (by omega) (by omega)
  · intro h4
    refine n_aload_n c_71_8 rfl (n_aload_n c_71_9 rfl (n_getR c_71_10 sc_38.n rfl rfl rfl r_38_0 (n_aload_n c_71_13 rfl (n_getV (bi := 5) c_71_14 sc_38.n rfl rfl rfl (t_38_5 hS) ?_))))
    intro z5 ez5 f6
    refine n_v2I c_71_17 rfl sc_44.n rfl rfl rfl rfl (suits_3 (t := z5) hS (by omega)) ?_
    intro z7 M8 hP9
    obtain ⟨eM, f9⟩ := hP9
    subst eM
    exact n_rZ c_71_20 rfl (by omega) ⟨hS, by omega⟩

set_option maxHeartbeats 4000000 in
theorem seek6_3_c {xs : List Int32} {e : Nat} {ac : Int} {M0 M : nM} (hS : Sf 3 ac M0 M)  : ∀ nn : Nat, (∀ (x3 : Int) (M : nM), Sf 3 ac M0 M → (0 ≤ x3 ∧ x3 ≤ 3) → (3 - x3) * 2 + 2 < (nn : Int) → nW xs (e + 6) 71 23 [some (2, 38), some (0, 6), some (2, 44), some (0, x3)] [] M (nPI fun z M1 => Sf 3 ac M0 M1 ∧ (0 ≤ z ∧ z ≤ 1))) ∧ (∀ (x3 : Int) (M : nM), Sf 3 ac M0 M → (0 ≤ x3 ∧ x3 ≤ 2) → (3 - x3) * 2 + 1 < (nn : Int) → nW xs (e + 6) 71 59 [some (2, 38), some (0, 6), some (2, 44), some (0, x3)] [] M (nPI fun z M1 => Sf 3 ac M0 M1 ∧ (0 ≤ z ∧ z ≤ 1))) := by
  have hd : (3 : Int) = 2 ∨ (3 : Int) = 3 := by decide
  have hac := hS.2.2.2.2
  intro nn
  induction nn with
  | zero => refine ⟨?_, ?_⟩ <;> (intros; omega)
  | succ nn ih =>
    refine ⟨?_, ?_⟩
    · intro x3 M hS k3 hnn
      refine n_iload_n c_71_23 rfl (n_aload_n c_71_24 rfl (n_getV (bi := 5) c_71_25 sc_38.n rfl rfl rfl (t_38_5 hS) ?_))
      intro z1 ez1 f2
      refine n_if2_ge c_71_28 (by omega) (by omega) ?_ ?_
      · intro h3
        refine n_iconst c_71_65 ?_
        exact n_rZ c_71_66 rfl (by omega) ⟨hS, by omega⟩
      · intro h4
        refine n_aload_n c_71_31 rfl (n_getR c_71_32 sc_38.n rfl rfl rfl r_38_0 (n_iload_n c_71_35 rfl (n_iload_n c_71_36 rfl (n_iastoreV hS c_71_37 sc_39.n rfl (by omega) (w_39 (by omega) (by omega)) ?_))))
        intro M5 eM5 hS5
        have g5_0 : M5 38 5 = M 38 5 := by rw [eM5]; exact nu_a (by omega)
        refine n_aload_n c_71_38 rfl (n_iload_n c_71_39 rfl (n_v1I c_71_40 rfl sc_38.n rfl rfl rfl rfl (fits_3 (l := 6) hS5 (by omega)) ?_))
        intro z6 M7 hP8
        obtain ⟨eM, f8⟩ := hP8
        subst eM
        refine n_if0_eq c_71_43 (by omega) ?_ ?_
        · intro h9
          refine n_fg (le_s (le_s (le_s (le_s le_0)))) ?_
          exact ih.2 _ M5 hS5 (by omega) (by omega)
        · intro h10
          refine n_aload_n c_71_46 rfl (n_iload_n c_71_47 rfl (n_iconst c_71_48 (n_iadd c_71_49 rfl (n_aload_n c_71_50 rfl ?_))))
          have hcst : ((6 + 1) : Int) = 7 := by omega
          rw [hcst]
          refine n_s3I c_71_51 rfl rfl rfl rfl (seek7_3  hS5 ) ?_
          intro z11 M12 hP13
          obtain ⟨hS12, f13⟩ := hP13
          refine n_if0_eq c_71_54 (by omega) ?_ ?_
          · intro h14
            refine n_fg (le_s (le_s (le_s (le_s le_0)))) ?_
            exact ih.2 _ M12 hS12 (by omega) (by omega)
          · intro h15
            refine n_iconst c_71_57 ?_
            exact n_rZ c_71_58 rfl (by omega) ⟨hS12, by omega⟩
    · intro x3 M hS k3 hnn
      refine n_iinc (L2 := [some (2, 38), some (0, 6), some (2, 44), some (0, (x3 + 1))]) c_71_59 rfl rfl rfl (n_goto c_71_62 (n_fg (le_s (le_s (le_s (le_s le_0)))) ?_))
      exact ih.1 _ M hS (by omega) (by omega)
set_option maxHeartbeats 4000000 in
theorem seek6_3 {xs : List Int32} {e : Nat} {ac : Int} {M0 M : nM} (hS : Sf 3 ac M0 M)  : nW xs (e + 6) 71 0 [some (2, 38), some (0, 6), some (2, 44), none] [] M (nPI fun z M1 => Sf 3 ac M0 M1 ∧ (0 ≤ z ∧ z ≤ 1)) := by
  have hd : (3 : Int) = 2 ∨ (3 : Int) = 3 := by decide
  have hac := hS.2.2.2.2
  refine n_iload_n c_71_0 rfl (n_aload_n c_71_1 rfl (n_getV (bi := 6) c_71_2 sc_38.n rfl rfl rfl (t_38_6 hS) ?_))
  intro z1 ez1 f2
  refine n_if2_lt c_71_5 (by omega) (by omega) ?_ ?_
  · intro h3
    refine n_iconst c_71_21 (n_istore_n (L2 := [some (2, 38), some (0, 6), some (2, 44), some (0, 0)]) c_71_22 rfl rfl (n_fg (le_s (le_s (le_s (le_s le_0)))) ?_))
    exact (seek6_3_c hS  30).1 _ M hS (by omega) (by omega)
  · intro h4
    refine n_aload_n c_71_8 rfl (n_aload_n c_71_9 rfl (n_getR c_71_10 sc_38.n rfl rfl rfl r_38_0 (n_aload_n c_71_13 rfl (n_getV (bi := 5) c_71_14 sc_38.n rfl rfl rfl (t_38_5 hS) ?_))))
    intro z5 ez5 f6
    refine n_v2I c_71_17 rfl sc_44.n rfl rfl rfl rfl (suits_3 (t := z5) hS (by omega)) ?_
    intro z7 M8 hP9
    obtain ⟨eM, f9⟩ := hP9
    subst eM
    exact n_rZ c_71_20 rfl (by omega) ⟨hS, by omega⟩

set_option maxHeartbeats 4000000 in
theorem seek5_3_c {xs : List Int32} {e : Nat} {ac : Int} {M0 M : nM} (hS : Sf 3 ac M0 M)  : ∀ nn : Nat, (∀ (x3 : Int) (M : nM), Sf 3 ac M0 M → (0 ≤ x3 ∧ x3 ≤ 3) → (3 - x3) * 2 + 2 < (nn : Int) → nW xs (e + 7) 71 23 [some (2, 38), some (0, 5), some (2, 44), some (0, x3)] [] M (nPI fun z M1 => Sf 3 ac M0 M1 ∧ (0 ≤ z ∧ z ≤ 1))) ∧ (∀ (x3 : Int) (M : nM), Sf 3 ac M0 M → (0 ≤ x3 ∧ x3 ≤ 2) → (3 - x3) * 2 + 1 < (nn : Int) → nW xs (e + 7) 71 59 [some (2, 38), some (0, 5), some (2, 44), some (0, x3)] [] M (nPI fun z M1 => Sf 3 ac M0 M1 ∧ (0 ≤ z ∧ z ≤ 1))) := by
  have hd : (3 : Int) = 2 ∨ (3 : Int) = 3 := by decide
  have hac := hS.2.2.2.2
  intro nn
  induction nn with
  | zero => refine ⟨?_, ?_⟩ <;> (intros; omega)
  | succ nn ih =>
    refine ⟨?_, ?_⟩
    · intro x3 M hS k3 hnn
      refine n_iload_n c_71_23 rfl (n_aload_n c_71_24 rfl (n_getV (bi := 5) c_71_25 sc_38.n rfl rfl rfl (t_38_5 hS) ?_))
      intro z1 ez1 f2
      refine n_if2_ge c_71_28 (by omega) (by omega) ?_ ?_
      · intro h3
        refine n_iconst c_71_65 ?_
        exact n_rZ c_71_66 rfl (by omega) ⟨hS, by omega⟩
      · intro h4
        refine n_aload_n c_71_31 rfl (n_getR c_71_32 sc_38.n rfl rfl rfl r_38_0 (n_iload_n c_71_35 rfl (n_iload_n c_71_36 rfl (n_iastoreV hS c_71_37 sc_39.n rfl (by omega) (w_39 (by omega) (by omega)) ?_))))
        intro M5 eM5 hS5
        have g5_0 : M5 38 5 = M 38 5 := by rw [eM5]; exact nu_a (by omega)
        refine n_aload_n c_71_38 rfl (n_iload_n c_71_39 rfl (n_v1I c_71_40 rfl sc_38.n rfl rfl rfl rfl (fits_3 (l := 5) hS5 (by omega)) ?_))
        intro z6 M7 hP8
        obtain ⟨eM, f8⟩ := hP8
        subst eM
        refine n_if0_eq c_71_43 (by omega) ?_ ?_
        · intro h9
          refine n_fg (le_s (le_s (le_s (le_s le_0)))) ?_
          exact ih.2 _ M5 hS5 (by omega) (by omega)
        · intro h10
          refine n_aload_n c_71_46 rfl (n_iload_n c_71_47 rfl (n_iconst c_71_48 (n_iadd c_71_49 rfl (n_aload_n c_71_50 rfl ?_))))
          have hcst : ((5 + 1) : Int) = 6 := by omega
          rw [hcst]
          refine n_s3I c_71_51 rfl rfl rfl rfl (seek6_3  hS5 ) ?_
          intro z11 M12 hP13
          obtain ⟨hS12, f13⟩ := hP13
          refine n_if0_eq c_71_54 (by omega) ?_ ?_
          · intro h14
            refine n_fg (le_s (le_s (le_s (le_s le_0)))) ?_
            exact ih.2 _ M12 hS12 (by omega) (by omega)
          · intro h15
            refine n_iconst c_71_57 ?_
            exact n_rZ c_71_58 rfl (by omega) ⟨hS12, by omega⟩
    · intro x3 M hS k3 hnn
      refine n_iinc (L2 := [some (2, 38), some (0, 5), some (2, 44), some (0, (x3 + 1))]) c_71_59 rfl rfl rfl (n_goto c_71_62 (n_fg (le_s (le_s (le_s (le_s le_0)))) ?_))
      exact ih.1 _ M hS (by omega) (by omega)
set_option maxHeartbeats 4000000 in
theorem seek5_3 {xs : List Int32} {e : Nat} {ac : Int} {M0 M : nM} (hS : Sf 3 ac M0 M)  : nW xs (e + 7) 71 0 [some (2, 38), some (0, 5), some (2, 44), none] [] M (nPI fun z M1 => Sf 3 ac M0 M1 ∧ (0 ≤ z ∧ z ≤ 1)) := by
  have hd : (3 : Int) = 2 ∨ (3 : Int) = 3 := by decide
  have hac := hS.2.2.2.2
  refine n_iload_n c_71_0 rfl (n_aload_n c_71_1 rfl (n_getV (bi := 6) c_71_2 sc_38.n rfl rfl rfl (t_38_6 hS) ?_))
  intro z1 ez1 f2
  refine n_if2_lt c_71_5 (by omega) (by omega) ?_ ?_
  · intro h3
    refine n_iconst c_71_21 (n_istore_n (L2 := [some (2, 38), some (0, 5), some (2, 44), some (0, 0)]) c_71_22 rfl rfl (n_fg (le_s (le_s (le_s (le_s le_0)))) ?_))
    exact (seek5_3_c hS  30).1 _ M hS (by omega) (by omega)
  · intro h4
    refine n_aload_n c_71_8 rfl (n_aload_n c_71_9 rfl (n_getR c_71_10 sc_38.n rfl rfl rfl r_38_0 (n_aload_n c_71_13 rfl (n_getV (bi := 5) c_71_14 sc_38.n rfl rfl rfl (t_38_5 hS) ?_))))
    intro z5 ez5 f6
    refine n_v2I c_71_17 rfl sc_44.n rfl rfl rfl rfl (suits_3 (t := z5) hS (by omega)) ?_
    intro z7 M8 hP9
    obtain ⟨eM, f9⟩ := hP9
    subst eM
    exact n_rZ c_71_20 rfl (by omega) ⟨hS, by omega⟩

set_option maxHeartbeats 4000000 in
theorem seek4_3_c {xs : List Int32} {e : Nat} {ac : Int} {M0 M : nM} (hS : Sf 3 ac M0 M)  : ∀ nn : Nat, (∀ (x3 : Int) (M : nM), Sf 3 ac M0 M → (0 ≤ x3 ∧ x3 ≤ 3) → (3 - x3) * 2 + 2 < (nn : Int) → nW xs (e + 8) 71 23 [some (2, 38), some (0, 4), some (2, 44), some (0, x3)] [] M (nPI fun z M1 => Sf 3 ac M0 M1 ∧ (0 ≤ z ∧ z ≤ 1))) ∧ (∀ (x3 : Int) (M : nM), Sf 3 ac M0 M → (0 ≤ x3 ∧ x3 ≤ 2) → (3 - x3) * 2 + 1 < (nn : Int) → nW xs (e + 8) 71 59 [some (2, 38), some (0, 4), some (2, 44), some (0, x3)] [] M (nPI fun z M1 => Sf 3 ac M0 M1 ∧ (0 ≤ z ∧ z ≤ 1))) := by
  have hd : (3 : Int) = 2 ∨ (3 : Int) = 3 := by decide
  have hac := hS.2.2.2.2
  intro nn
  induction nn with
  | zero => refine ⟨?_, ?_⟩ <;> (intros; omega)
  | succ nn ih =>
    refine ⟨?_, ?_⟩
    · intro x3 M hS k3 hnn
      refine n_iload_n c_71_23 rfl (n_aload_n c_71_24 rfl (n_getV (bi := 5) c_71_25 sc_38.n rfl rfl rfl (t_38_5 hS) ?_))
      intro z1 ez1 f2
      refine n_if2_ge c_71_28 (by omega) (by omega) ?_ ?_
      · intro h3
        refine n_iconst c_71_65 ?_
        exact n_rZ c_71_66 rfl (by omega) ⟨hS, by omega⟩
      · intro h4
        refine n_aload_n c_71_31 rfl (n_getR c_71_32 sc_38.n rfl rfl rfl r_38_0 (n_iload_n c_71_35 rfl (n_iload_n c_71_36 rfl (n_iastoreV hS c_71_37 sc_39.n rfl (by omega) (w_39 (by omega) (by omega)) ?_))))
        intro M5 eM5 hS5
        have g5_0 : M5 38 5 = M 38 5 := by rw [eM5]; exact nu_a (by omega)
        refine n_aload_n c_71_38 rfl (n_iload_n c_71_39 rfl (n_v1I c_71_40 rfl sc_38.n rfl rfl rfl rfl (fits_3 (l := 4) hS5 (by omega)) ?_))
        intro z6 M7 hP8
        obtain ⟨eM, f8⟩ := hP8
        subst eM
        refine n_if0_eq c_71_43 (by omega) ?_ ?_
        · intro h9
          refine n_fg (le_s (le_s (le_s (le_s le_0)))) ?_
          exact ih.2 _ M5 hS5 (by omega) (by omega)
        · intro h10
          refine n_aload_n c_71_46 rfl (n_iload_n c_71_47 rfl (n_iconst c_71_48 (n_iadd c_71_49 rfl (n_aload_n c_71_50 rfl ?_))))
          have hcst : ((4 + 1) : Int) = 5 := by omega
          rw [hcst]
          refine n_s3I c_71_51 rfl rfl rfl rfl (seek5_3  hS5 ) ?_
          intro z11 M12 hP13
          obtain ⟨hS12, f13⟩ := hP13
          refine n_if0_eq c_71_54 (by omega) ?_ ?_
          · intro h14
            refine n_fg (le_s (le_s (le_s (le_s le_0)))) ?_
            exact ih.2 _ M12 hS12 (by omega) (by omega)
          · intro h15
            refine n_iconst c_71_57 ?_
            exact n_rZ c_71_58 rfl (by omega) ⟨hS12, by omega⟩
    · intro x3 M hS k3 hnn
      refine n_iinc (L2 := [some (2, 38), some (0, 4), some (2, 44), some (0, (x3 + 1))]) c_71_59 rfl rfl rfl (n_goto c_71_62 (n_fg (le_s (le_s (le_s (le_s le_0)))) ?_))
      exact ih.1 _ M hS (by omega) (by omega)
set_option maxHeartbeats 4000000 in
theorem seek4_3 {xs : List Int32} {e : Nat} {ac : Int} {M0 M : nM} (hS : Sf 3 ac M0 M)  : nW xs (e + 8) 71 0 [some (2, 38), some (0, 4), some (2, 44), none] [] M (nPI fun z M1 => Sf 3 ac M0 M1 ∧ (0 ≤ z ∧ z ≤ 1)) := by
  have hd : (3 : Int) = 2 ∨ (3 : Int) = 3 := by decide
  have hac := hS.2.2.2.2
  refine n_iload_n c_71_0 rfl (n_aload_n c_71_1 rfl (n_getV (bi := 6) c_71_2 sc_38.n rfl rfl rfl (t_38_6 hS) ?_))
  intro z1 ez1 f2
  refine n_if2_lt c_71_5 (by omega) (by omega) ?_ ?_
  · intro h3
    refine n_iconst c_71_21 (n_istore_n (L2 := [some (2, 38), some (0, 4), some (2, 44), some (0, 0)]) c_71_22 rfl rfl (n_fg (le_s (le_s (le_s (le_s le_0)))) ?_))
    exact (seek4_3_c hS  30).1 _ M hS (by omega) (by omega)
  · intro h4
    refine n_aload_n c_71_8 rfl (n_aload_n c_71_9 rfl (n_getR c_71_10 sc_38.n rfl rfl rfl r_38_0 (n_aload_n c_71_13 rfl (n_getV (bi := 5) c_71_14 sc_38.n rfl rfl rfl (t_38_5 hS) ?_))))
    intro z5 ez5 f6
    refine n_v2I c_71_17 rfl sc_44.n rfl rfl rfl rfl (suits_3 (t := z5) hS (by omega)) ?_
    intro z7 M8 hP9
    obtain ⟨eM, f9⟩ := hP9
    subst eM
    exact n_rZ c_71_20 rfl (by omega) ⟨hS, by omega⟩

set_option maxHeartbeats 4000000 in
theorem seek3_3_c {xs : List Int32} {e : Nat} {ac : Int} {M0 M : nM} (hS : Sf 3 ac M0 M)  : ∀ nn : Nat, (∀ (x3 : Int) (M : nM), Sf 3 ac M0 M → (0 ≤ x3 ∧ x3 ≤ 3) → (3 - x3) * 2 + 2 < (nn : Int) → nW xs (e + 9) 71 23 [some (2, 38), some (0, 3), some (2, 44), some (0, x3)] [] M (nPI fun z M1 => Sf 3 ac M0 M1 ∧ (0 ≤ z ∧ z ≤ 1))) ∧ (∀ (x3 : Int) (M : nM), Sf 3 ac M0 M → (0 ≤ x3 ∧ x3 ≤ 2) → (3 - x3) * 2 + 1 < (nn : Int) → nW xs (e + 9) 71 59 [some (2, 38), some (0, 3), some (2, 44), some (0, x3)] [] M (nPI fun z M1 => Sf 3 ac M0 M1 ∧ (0 ≤ z ∧ z ≤ 1))) := by
  have hd : (3 : Int) = 2 ∨ (3 : Int) = 3 := by decide
  have hac := hS.2.2.2.2
  intro nn
  induction nn with
  | zero => refine ⟨?_, ?_⟩ <;> (intros; omega)
  | succ nn ih =>
    refine ⟨?_, ?_⟩
    · intro x3 M hS k3 hnn
      refine n_iload_n c_71_23 rfl (n_aload_n c_71_24 rfl (n_getV (bi := 5) c_71_25 sc_38.n rfl rfl rfl (t_38_5 hS) ?_))
      intro z1 ez1 f2
      refine n_if2_ge c_71_28 (by omega) (by omega) ?_ ?_
      · intro h3
        refine n_iconst c_71_65 ?_
        exact n_rZ c_71_66 rfl (by omega) ⟨hS, by omega⟩
      · intro h4
        refine n_aload_n c_71_31 rfl (n_getR c_71_32 sc_38.n rfl rfl rfl r_38_0 (n_iload_n c_71_35 rfl (n_iload_n c_71_36 rfl (n_iastoreV hS c_71_37 sc_39.n rfl (by omega) (w_39 (by omega) (by omega)) ?_))))
        intro M5 eM5 hS5
        have g5_0 : M5 38 5 = M 38 5 := by rw [eM5]; exact nu_a (by omega)
        refine n_aload_n c_71_38 rfl (n_iload_n c_71_39 rfl (n_v1I c_71_40 rfl sc_38.n rfl rfl rfl rfl (fits_3 (l := 3) hS5 (by omega)) ?_))
        intro z6 M7 hP8
        obtain ⟨eM, f8⟩ := hP8
        subst eM
        refine n_if0_eq c_71_43 (by omega) ?_ ?_
        · intro h9
          refine n_fg (le_s (le_s (le_s (le_s le_0)))) ?_
          exact ih.2 _ M5 hS5 (by omega) (by omega)
        · intro h10
          refine n_aload_n c_71_46 rfl (n_iload_n c_71_47 rfl (n_iconst c_71_48 (n_iadd c_71_49 rfl (n_aload_n c_71_50 rfl ?_))))
          have hcst : ((3 + 1) : Int) = 4 := by omega
          rw [hcst]
          refine n_s3I c_71_51 rfl rfl rfl rfl (seek4_3  hS5 ) ?_
          intro z11 M12 hP13
          obtain ⟨hS12, f13⟩ := hP13
          refine n_if0_eq c_71_54 (by omega) ?_ ?_
          · intro h14
            refine n_fg (le_s (le_s (le_s (le_s le_0)))) ?_
            exact ih.2 _ M12 hS12 (by omega) (by omega)
          · intro h15
            refine n_iconst c_71_57 ?_
            exact n_rZ c_71_58 rfl (by omega) ⟨hS12, by omega⟩
    · intro x3 M hS k3 hnn
      refine n_iinc (L2 := [some (2, 38), some (0, 3), some (2, 44), some (0, (x3 + 1))]) c_71_59 rfl rfl rfl (n_goto c_71_62 (n_fg (le_s (le_s (le_s (le_s le_0)))) ?_))
      exact ih.1 _ M hS (by omega) (by omega)
set_option maxHeartbeats 4000000 in
theorem seek3_3 {xs : List Int32} {e : Nat} {ac : Int} {M0 M : nM} (hS : Sf 3 ac M0 M)  : nW xs (e + 9) 71 0 [some (2, 38), some (0, 3), some (2, 44), none] [] M (nPI fun z M1 => Sf 3 ac M0 M1 ∧ (0 ≤ z ∧ z ≤ 1)) := by
  have hd : (3 : Int) = 2 ∨ (3 : Int) = 3 := by decide
  have hac := hS.2.2.2.2
  refine n_iload_n c_71_0 rfl (n_aload_n c_71_1 rfl (n_getV (bi := 6) c_71_2 sc_38.n rfl rfl rfl (t_38_6 hS) ?_))
  intro z1 ez1 f2
  refine n_if2_lt c_71_5 (by omega) (by omega) ?_ ?_
  · intro h3
    refine n_iconst c_71_21 (n_istore_n (L2 := [some (2, 38), some (0, 3), some (2, 44), some (0, 0)]) c_71_22 rfl rfl (n_fg (le_s (le_s (le_s (le_s le_0)))) ?_))
    exact (seek3_3_c hS  30).1 _ M hS (by omega) (by omega)
  · intro h4
    refine n_aload_n c_71_8 rfl (n_aload_n c_71_9 rfl (n_getR c_71_10 sc_38.n rfl rfl rfl r_38_0 (n_aload_n c_71_13 rfl (n_getV (bi := 5) c_71_14 sc_38.n rfl rfl rfl (t_38_5 hS) ?_))))
    intro z5 ez5 f6
    refine n_v2I c_71_17 rfl sc_44.n rfl rfl rfl rfl (suits_3 (t := z5) hS (by omega)) ?_
    intro z7 M8 hP9
    obtain ⟨eM, f9⟩ := hP9
    subst eM
    exact n_rZ c_71_20 rfl (by omega) ⟨hS, by omega⟩

set_option maxHeartbeats 4000000 in
theorem seek2_3_c {xs : List Int32} {e : Nat} {ac : Int} {M0 M : nM} (hS : Sf 3 ac M0 M)  : ∀ nn : Nat, (∀ (x3 : Int) (M : nM), Sf 3 ac M0 M → (0 ≤ x3 ∧ x3 ≤ 3) → (3 - x3) * 2 + 2 < (nn : Int) → nW xs (e + 10) 71 23 [some (2, 38), some (0, 2), some (2, 44), some (0, x3)] [] M (nPI fun z M1 => Sf 3 ac M0 M1 ∧ (0 ≤ z ∧ z ≤ 1))) ∧ (∀ (x3 : Int) (M : nM), Sf 3 ac M0 M → (0 ≤ x3 ∧ x3 ≤ 2) → (3 - x3) * 2 + 1 < (nn : Int) → nW xs (e + 10) 71 59 [some (2, 38), some (0, 2), some (2, 44), some (0, x3)] [] M (nPI fun z M1 => Sf 3 ac M0 M1 ∧ (0 ≤ z ∧ z ≤ 1))) := by
  have hd : (3 : Int) = 2 ∨ (3 : Int) = 3 := by decide
  have hac := hS.2.2.2.2
  intro nn
  induction nn with
  | zero => refine ⟨?_, ?_⟩ <;> (intros; omega)
  | succ nn ih =>
    refine ⟨?_, ?_⟩
    · intro x3 M hS k3 hnn
      refine n_iload_n c_71_23 rfl (n_aload_n c_71_24 rfl (n_getV (bi := 5) c_71_25 sc_38.n rfl rfl rfl (t_38_5 hS) ?_))
      intro z1 ez1 f2
      refine n_if2_ge c_71_28 (by omega) (by omega) ?_ ?_
      · intro h3
        refine n_iconst c_71_65 ?_
        exact n_rZ c_71_66 rfl (by omega) ⟨hS, by omega⟩
      · intro h4
        refine n_aload_n c_71_31 rfl (n_getR c_71_32 sc_38.n rfl rfl rfl r_38_0 (n_iload_n c_71_35 rfl (n_iload_n c_71_36 rfl (n_iastoreV hS c_71_37 sc_39.n rfl (by omega) (w_39 (by omega) (by omega)) ?_))))
        intro M5 eM5 hS5
        have g5_0 : M5 38 5 = M 38 5 := by rw [eM5]; exact nu_a (by omega)
        refine n_aload_n c_71_38 rfl (n_iload_n c_71_39 rfl (n_v1I c_71_40 rfl sc_38.n rfl rfl rfl rfl (fits_3 (l := 2) hS5 (by omega)) ?_))
        intro z6 M7 hP8
        obtain ⟨eM, f8⟩ := hP8
        subst eM
        refine n_if0_eq c_71_43 (by omega) ?_ ?_
        · intro h9
          refine n_fg (le_s (le_s (le_s (le_s le_0)))) ?_
          exact ih.2 _ M5 hS5 (by omega) (by omega)
        · intro h10
          refine n_aload_n c_71_46 rfl (n_iload_n c_71_47 rfl (n_iconst c_71_48 (n_iadd c_71_49 rfl (n_aload_n c_71_50 rfl ?_))))
          have hcst : ((2 + 1) : Int) = 3 := by omega
          rw [hcst]
          refine n_s3I c_71_51 rfl rfl rfl rfl (seek3_3  hS5 ) ?_
          intro z11 M12 hP13
          obtain ⟨hS12, f13⟩ := hP13
          refine n_if0_eq c_71_54 (by omega) ?_ ?_
          · intro h14
            refine n_fg (le_s (le_s (le_s (le_s le_0)))) ?_
            exact ih.2 _ M12 hS12 (by omega) (by omega)
          · intro h15
            refine n_iconst c_71_57 ?_
            exact n_rZ c_71_58 rfl (by omega) ⟨hS12, by omega⟩
    · intro x3 M hS k3 hnn
      refine n_iinc (L2 := [some (2, 38), some (0, 2), some (2, 44), some (0, (x3 + 1))]) c_71_59 rfl rfl rfl (n_goto c_71_62 (n_fg (le_s (le_s (le_s (le_s le_0)))) ?_))
      exact ih.1 _ M hS (by omega) (by omega)
set_option maxHeartbeats 4000000 in
theorem seek2_3 {xs : List Int32} {e : Nat} {ac : Int} {M0 M : nM} (hS : Sf 3 ac M0 M)  : nW xs (e + 10) 71 0 [some (2, 38), some (0, 2), some (2, 44), none] [] M (nPI fun z M1 => Sf 3 ac M0 M1 ∧ (0 ≤ z ∧ z ≤ 1)) := by
  have hd : (3 : Int) = 2 ∨ (3 : Int) = 3 := by decide
  have hac := hS.2.2.2.2
  refine n_iload_n c_71_0 rfl (n_aload_n c_71_1 rfl (n_getV (bi := 6) c_71_2 sc_38.n rfl rfl rfl (t_38_6 hS) ?_))
  intro z1 ez1 f2
  refine n_if2_lt c_71_5 (by omega) (by omega) ?_ ?_
  · intro h3
    refine n_iconst c_71_21 (n_istore_n (L2 := [some (2, 38), some (0, 2), some (2, 44), some (0, 0)]) c_71_22 rfl rfl (n_fg (le_s (le_s (le_s (le_s le_0)))) ?_))
    exact (seek2_3_c hS  30).1 _ M hS (by omega) (by omega)
  · intro h4
    refine n_aload_n c_71_8 rfl (n_aload_n c_71_9 rfl (n_getR c_71_10 sc_38.n rfl rfl rfl r_38_0 (n_aload_n c_71_13 rfl (n_getV (bi := 5) c_71_14 sc_38.n rfl rfl rfl (t_38_5 hS) ?_))))
    intro z5 ez5 f6
    refine n_v2I c_71_17 rfl sc_44.n rfl rfl rfl rfl (suits_3 (t := z5) hS (by omega)) ?_
    intro z7 M8 hP9
    obtain ⟨eM, f9⟩ := hP9
    subst eM
    exact n_rZ c_71_20 rfl (by omega) ⟨hS, by omega⟩

set_option maxHeartbeats 4000000 in
theorem seek1_3_c {xs : List Int32} {e : Nat} {ac : Int} {M0 M : nM} (hS : Sf 3 ac M0 M)  : ∀ nn : Nat, (∀ (x3 : Int) (M : nM), Sf 3 ac M0 M → (0 ≤ x3 ∧ x3 ≤ 3) → (3 - x3) * 2 + 2 < (nn : Int) → nW xs (e + 11) 71 23 [some (2, 38), some (0, 1), some (2, 44), some (0, x3)] [] M (nPI fun z M1 => Sf 3 ac M0 M1 ∧ (0 ≤ z ∧ z ≤ 1))) ∧ (∀ (x3 : Int) (M : nM), Sf 3 ac M0 M → (0 ≤ x3 ∧ x3 ≤ 2) → (3 - x3) * 2 + 1 < (nn : Int) → nW xs (e + 11) 71 59 [some (2, 38), some (0, 1), some (2, 44), some (0, x3)] [] M (nPI fun z M1 => Sf 3 ac M0 M1 ∧ (0 ≤ z ∧ z ≤ 1))) := by
  have hd : (3 : Int) = 2 ∨ (3 : Int) = 3 := by decide
  have hac := hS.2.2.2.2
  intro nn
  induction nn with
  | zero => refine ⟨?_, ?_⟩ <;> (intros; omega)
  | succ nn ih =>
    refine ⟨?_, ?_⟩
    · intro x3 M hS k3 hnn
      refine n_iload_n c_71_23 rfl (n_aload_n c_71_24 rfl (n_getV (bi := 5) c_71_25 sc_38.n rfl rfl rfl (t_38_5 hS) ?_))
      intro z1 ez1 f2
      refine n_if2_ge c_71_28 (by omega) (by omega) ?_ ?_
      · intro h3
        refine n_iconst c_71_65 ?_
        exact n_rZ c_71_66 rfl (by omega) ⟨hS, by omega⟩
      · intro h4
        refine n_aload_n c_71_31 rfl (n_getR c_71_32 sc_38.n rfl rfl rfl r_38_0 (n_iload_n c_71_35 rfl (n_iload_n c_71_36 rfl (n_iastoreV hS c_71_37 sc_39.n rfl (by omega) (w_39 (by omega) (by omega)) ?_))))
        intro M5 eM5 hS5
        have g5_0 : M5 38 5 = M 38 5 := by rw [eM5]; exact nu_a (by omega)
        refine n_aload_n c_71_38 rfl (n_iload_n c_71_39 rfl (n_v1I c_71_40 rfl sc_38.n rfl rfl rfl rfl (fits_3 (l := 1) hS5 (by omega)) ?_))
        intro z6 M7 hP8
        obtain ⟨eM, f8⟩ := hP8
        subst eM
        refine n_if0_eq c_71_43 (by omega) ?_ ?_
        · intro h9
          refine n_fg (le_s (le_s (le_s (le_s le_0)))) ?_
          exact ih.2 _ M5 hS5 (by omega) (by omega)
        · intro h10
          refine n_aload_n c_71_46 rfl (n_iload_n c_71_47 rfl (n_iconst c_71_48 (n_iadd c_71_49 rfl (n_aload_n c_71_50 rfl ?_))))
          have hcst : ((1 + 1) : Int) = 2 := by omega
          rw [hcst]
          refine n_s3I c_71_51 rfl rfl rfl rfl (seek2_3  hS5 ) ?_
          intro z11 M12 hP13
          obtain ⟨hS12, f13⟩ := hP13
          refine n_if0_eq c_71_54 (by omega) ?_ ?_
          · intro h14
            refine n_fg (le_s (le_s (le_s (le_s le_0)))) ?_
            exact ih.2 _ M12 hS12 (by omega) (by omega)
          · intro h15
            refine n_iconst c_71_57 ?_
            exact n_rZ c_71_58 rfl (by omega) ⟨hS12, by omega⟩
    · intro x3 M hS k3 hnn
      refine n_iinc (L2 := [some (2, 38), some (0, 1), some (2, 44), some (0, (x3 + 1))]) c_71_59 rfl rfl rfl (n_goto c_71_62 (n_fg (le_s (le_s (le_s (le_s le_0)))) ?_))
      exact ih.1 _ M hS (by omega) (by omega)
set_option maxHeartbeats 4000000 in
theorem seek1_3 {xs : List Int32} {e : Nat} {ac : Int} {M0 M : nM} (hS : Sf 3 ac M0 M)  : nW xs (e + 11) 71 0 [some (2, 38), some (0, 1), some (2, 44), none] [] M (nPI fun z M1 => Sf 3 ac M0 M1 ∧ (0 ≤ z ∧ z ≤ 1)) := by
  have hd : (3 : Int) = 2 ∨ (3 : Int) = 3 := by decide
  have hac := hS.2.2.2.2
  refine n_iload_n c_71_0 rfl (n_aload_n c_71_1 rfl (n_getV (bi := 6) c_71_2 sc_38.n rfl rfl rfl (t_38_6 hS) ?_))
  intro z1 ez1 f2
  refine n_if2_lt c_71_5 (by omega) (by omega) ?_ ?_
  · intro h3
    refine n_iconst c_71_21 (n_istore_n (L2 := [some (2, 38), some (0, 1), some (2, 44), some (0, 0)]) c_71_22 rfl rfl (n_fg (le_s (le_s (le_s (le_s le_0)))) ?_))
    exact (seek1_3_c hS  30).1 _ M hS (by omega) (by omega)
  · intro h4
    refine n_aload_n c_71_8 rfl (n_aload_n c_71_9 rfl (n_getR c_71_10 sc_38.n rfl rfl rfl r_38_0 (n_aload_n c_71_13 rfl (n_getV (bi := 5) c_71_14 sc_38.n rfl rfl rfl (t_38_5 hS) ?_))))
    intro z5 ez5 f6
    refine n_v2I c_71_17 rfl sc_44.n rfl rfl rfl rfl (suits_3 (t := z5) hS (by omega)) ?_
    intro z7 M8 hP9
    obtain ⟨eM, f9⟩ := hP9
    subst eM
    exact n_rZ c_71_20 rfl (by omega) ⟨hS, by omega⟩

set_option maxHeartbeats 4000000 in
theorem seek0_3_c {xs : List Int32} {e : Nat} {ac : Int} {M0 M : nM} (hS : Sf 3 ac M0 M)  : ∀ nn : Nat, (∀ (x3 : Int) (M : nM), Sf 3 ac M0 M → (0 ≤ x3 ∧ x3 ≤ 3) → (3 - x3) * 2 + 2 < (nn : Int) → nW xs (e + 12) 71 23 [some (2, 38), some (0, 0), some (2, 44), some (0, x3)] [] M (nPI fun z M1 => Sf 3 ac M0 M1 ∧ (0 ≤ z ∧ z ≤ 1))) ∧ (∀ (x3 : Int) (M : nM), Sf 3 ac M0 M → (0 ≤ x3 ∧ x3 ≤ 2) → (3 - x3) * 2 + 1 < (nn : Int) → nW xs (e + 12) 71 59 [some (2, 38), some (0, 0), some (2, 44), some (0, x3)] [] M (nPI fun z M1 => Sf 3 ac M0 M1 ∧ (0 ≤ z ∧ z ≤ 1))) := by
  have hd : (3 : Int) = 2 ∨ (3 : Int) = 3 := by decide
  have hac := hS.2.2.2.2
  intro nn
  induction nn with
  | zero => refine ⟨?_, ?_⟩ <;> (intros; omega)
  | succ nn ih =>
    refine ⟨?_, ?_⟩
    · intro x3 M hS k3 hnn
      refine n_iload_n c_71_23 rfl (n_aload_n c_71_24 rfl (n_getV (bi := 5) c_71_25 sc_38.n rfl rfl rfl (t_38_5 hS) ?_))
      intro z1 ez1 f2
      refine n_if2_ge c_71_28 (by omega) (by omega) ?_ ?_
      · intro h3
        refine n_iconst c_71_65 ?_
        exact n_rZ c_71_66 rfl (by omega) ⟨hS, by omega⟩
      · intro h4
        refine n_aload_n c_71_31 rfl (n_getR c_71_32 sc_38.n rfl rfl rfl r_38_0 (n_iload_n c_71_35 rfl (n_iload_n c_71_36 rfl (n_iastoreV hS c_71_37 sc_39.n rfl (by omega) (w_39 (by omega) (by omega)) ?_))))
        intro M5 eM5 hS5
        have g5_0 : M5 38 5 = M 38 5 := by rw [eM5]; exact nu_a (by omega)
        refine n_aload_n c_71_38 rfl (n_iload_n c_71_39 rfl (n_v1I c_71_40 rfl sc_38.n rfl rfl rfl rfl (fits_3 (l := 0) hS5 (by omega)) ?_))
        intro z6 M7 hP8
        obtain ⟨eM, f8⟩ := hP8
        subst eM
        refine n_if0_eq c_71_43 (by omega) ?_ ?_
        · intro h9
          refine n_fg (le_s (le_s (le_s (le_s le_0)))) ?_
          exact ih.2 _ M5 hS5 (by omega) (by omega)
        · intro h10
          refine n_aload_n c_71_46 rfl (n_iload_n c_71_47 rfl (n_iconst c_71_48 (n_iadd c_71_49 rfl (n_aload_n c_71_50 rfl ?_))))
          have hcst : ((0 + 1) : Int) = 1 := by omega
          rw [hcst]
          refine n_s3I c_71_51 rfl rfl rfl rfl (seek1_3  hS5 ) ?_
          intro z11 M12 hP13
          obtain ⟨hS12, f13⟩ := hP13
          refine n_if0_eq c_71_54 (by omega) ?_ ?_
          · intro h14
            refine n_fg (le_s (le_s (le_s (le_s le_0)))) ?_
            exact ih.2 _ M12 hS12 (by omega) (by omega)
          · intro h15
            refine n_iconst c_71_57 ?_
            exact n_rZ c_71_58 rfl (by omega) ⟨hS12, by omega⟩
    · intro x3 M hS k3 hnn
      refine n_iinc (L2 := [some (2, 38), some (0, 0), some (2, 44), some (0, (x3 + 1))]) c_71_59 rfl rfl rfl (n_goto c_71_62 (n_fg (le_s (le_s (le_s (le_s le_0)))) ?_))
      exact ih.1 _ M hS (by omega) (by omega)
set_option maxHeartbeats 4000000 in
theorem seek0_3 {xs : List Int32} {e : Nat} {ac : Int} {M0 M : nM} (hS : Sf 3 ac M0 M)  : nW xs (e + 12) 71 0 [some (2, 38), some (0, 0), some (2, 44), none] [] M (nPI fun z M1 => Sf 3 ac M0 M1 ∧ (0 ≤ z ∧ z ≤ 1)) := by
  have hd : (3 : Int) = 2 ∨ (3 : Int) = 3 := by decide
  have hac := hS.2.2.2.2
  refine n_iload_n c_71_0 rfl (n_aload_n c_71_1 rfl (n_getV (bi := 6) c_71_2 sc_38.n rfl rfl rfl (t_38_6 hS) ?_))
  intro z1 ez1 f2
  refine n_if2_lt c_71_5 (by omega) (by omega) ?_ ?_
  · intro h3
    refine n_iconst c_71_21 (n_istore_n (L2 := [some (2, 38), some (0, 0), some (2, 44), some (0, 0)]) c_71_22 rfl rfl (n_fg (le_s (le_s (le_s (le_s le_0)))) ?_))
    exact (seek0_3_c hS  30).1 _ M hS (by omega) (by omega)
  · intro h4
    refine n_aload_n c_71_8 rfl (n_aload_n c_71_9 rfl (n_getR c_71_10 sc_38.n rfl rfl rfl r_38_0 (n_aload_n c_71_13 rfl (n_getV (bi := 5) c_71_14 sc_38.n rfl rfl rfl (t_38_5 hS) ?_))))
    intro z5 ez5 f6
    refine n_v2I c_71_17 rfl sc_44.n rfl rfl rfl rfl (suits_3 (t := z5) hS (by omega)) ?_
    intro z7 M8 hP9
    obtain ⟨eM, f9⟩ := hP9
    subst eM
    exact n_rZ c_71_20 rfl (by omega) ⟨hS, by omega⟩

set_option maxHeartbeats 4000000 in
theorem seek_3 {xs : List Int32} {e : Nat} {ac : Int} {M0 M : nM} {k : Int} (hS : Sf 3 ac M0 M) (hk : 0 ≤ k ∧ k ≤ 3) : nW xs (e + 13) 71 0 [some (2, 38), some (0, k), some (2, 44), none] [] M (nPI fun z M1 => Sf 3 ac M0 M1 ∧ (0 ≤ z ∧ z ≤ 1)) := by
  rcases (show k = 0 ∨ k = 1 ∨ k = 2 ∨ k = 3 by omega) with rfl | rfl | rfl | rfl
  · exact n_post (seek0_3 hS ) (fun w M1 h => by obtain ⟨z, rfl, h1, h2⟩ := h; exact ⟨z, rfl, h1, by omega⟩)
  · exact n_post (seek1_3 hS ) (fun w M1 h => by obtain ⟨z, rfl, h1, h2⟩ := h; exact ⟨z, rfl, h1, by omega⟩)
  · exact n_post (seek2_3 hS ) (fun w M1 h => by obtain ⟨z, rfl, h1, h2⟩ := h; exact ⟨z, rfl, h1, by omega⟩)
  · exact n_post (seek3_3 hS ) (fun w M1 h => by obtain ⟨z, rfl, h1, h2⟩ := h; exact ⟨z, rfl, h1, by omega⟩)

set_option maxHeartbeats 4000000 in
theorem findFirst_3_c {xs : List Int32} {e : Nat} {ac : Int} {M0 M : nM} (hS : Sf 3 ac M0 M)  : ∀ nn : Nat, (∀ (x2 : Int) (M : nM), Sf 3 ac M0 M → (0 ≤ x2 ∧ x2 ≤ 3) → (3 - x2) * 1 + 1 < (nn : Int) → nW xs (e + 15) 69 2 [some (2, 38), some (2, 44), some (0, x2)] [] M (nPI fun z M1 => Sf 3 ac M0 M1 ∧ (0 ≤ z ∧ z ≤ 1))) := by
  have hd : (3 : Int) = 2 ∨ (3 : Int) = 3 := by decide
  have hac := hS.2.2.2.2
  intro nn
  induction nn with
  | zero => intros; omega
  | succ nn ih =>
    intro x2 M hS k2 hnn
    refine n_iload_n c_69_2 rfl (n_aload_n c_69_3 rfl (n_getV (bi := 1) c_69_4 sc_44.n rfl rfl rfl (t_44_1 hS) ?_))
    intro z1 ez1 f2
    refine n_if2_ge c_69_7 (by omega) (by omega) ?_ ?_
    · intro h3
      refine n_aload_n c_69_33 rfl (n_aload_n c_69_34 rfl (n_getV (bi := 1) c_69_35 sc_44.n rfl rfl rfl (t_44_1 hS) ?_))
      intro z4 ez4 f5
      refine n_aload_n c_69_38 rfl (n_s3I c_69_39 rfl rfl rfl rfl (seek_3 (k := z4) hS (by omega)) ?_)
      intro z6 M7 hP8
      obtain ⟨hS7, f8⟩ := hP8
      exact n_rZ c_69_42 rfl (by omega) ⟨hS7, by omega⟩
    · intro h9
      refine n_aload_n c_69_10 rfl (n_getR c_69_11 sc_38.n rfl rfl rfl r_38_0 (n_iload_n c_69_14 rfl (n_iload_n c_69_15 rfl (n_iastoreV hS c_69_16 sc_39.n rfl (by omega) (w_39 (by omega) (by omega)) ?_))))
      intro M10 eM10 hS10
      have g10_0 : M10 44 1 = M 44 1 := by rw [eM10]; exact nu_a (by omega)
      refine n_aload_n c_69_17 rfl (n_iload_n c_69_18 rfl (n_v1I c_69_19 rfl sc_38.n rfl rfl rfl rfl (fits_3 (l := x2) hS10 (by omega)) ?_))
      intro z11 M12 hP13
      obtain ⟨eM, f13⟩ := hP13
      subst eM
      refine n_if0_ne c_69_22 (by omega) ?_ ?_
      · intro h14
        refine n_iinc (L2 := [some (2, 38), some (2, 44), some (0, (x2 + 1))]) c_69_27 rfl rfl rfl (n_goto c_69_30 (n_fg (le_s (le_s (le_s le_0))) ?_))
        exact ih _ M10 hS10 (by omega) (by omega)
      · intro h15
        refine n_iconst c_69_25 ?_
        exact n_rZ c_69_26 rfl (by omega) ⟨hS10, by omega⟩
set_option maxHeartbeats 4000000 in
theorem findFirst_3 {xs : List Int32} {e : Nat} {ac : Int} {M0 M : nM} (hS : Sf 3 ac M0 M)  : nW xs (e + 15) 69 0 [some (2, 38), some (2, 44), none] [] M (nPI fun z M1 => Sf 3 ac M0 M1 ∧ (0 ≤ z ∧ z ≤ 1)) := by
  have hd : (3 : Int) = 2 ∨ (3 : Int) = 3 := by decide
  have hac := hS.2.2.2.2
  refine n_iconst c_69_0 (n_istore_n (L2 := [some (2, 38), some (2, 44), some (0, 0)]) c_69_1 rfl rfl (n_fg (le_s (le_s (le_s le_0))) ?_))
  exact (findFirst_3_c hS  20) _ M hS (by omega) (by omega)

set_option maxHeartbeats 4000000 in
theorem isAct_3_c {xs : List Int32} {e : Nat} {ac : Int} {M0 M : nM} {a : Int} (hS : Sf 3 ac M0 M) (ha : -2147483648 ≤ a ∧ a ≤ 2147483647) : ∀ nn : Nat, (1 < (nn : Int) → nW xs e 125 16 [none, none] [] M (nPI fun z M1 => M = M1 ∧ (0 ≤ z ∧ z ≤ 1) ∧ (z = 0 ∨ (0 ≤ a ∧ a < ac)))) := by
  have hd : (3 : Int) = 2 ∨ (3 : Int) = 3 := by decide
  have hac := hS.2.2.2.2
  intro nn
  induction nn with
  | zero => intros; omega
  | succ nn ih =>
    intro hnn
    refine n_iconst c_125_16 ?_
    exact n_rZ c_125_17 rfl (by omega) ⟨rfl, by omega, by omega⟩
set_option maxHeartbeats 4000000 in
theorem isAct_3 {xs : List Int32} {e : Nat} {ac : Int} {M0 M : nM} {a : Int} (hS : Sf 3 ac M0 M) (ha : -2147483648 ≤ a ∧ a ≤ 2147483647) : nW xs e 125 0 [some (2, 3), some (0, a)] [] M (nPI fun z M1 => M = M1 ∧ (0 ≤ z ∧ z ≤ 1) ∧ (z = 0 ∨ (0 ≤ a ∧ a < ac))) := by
  have hd : (3 : Int) = 2 ∨ (3 : Int) = 3 := by decide
  have hac := hS.2.2.2.2
  refine n_iload_n c_125_0 rfl ?_
  refine n_if0_lt c_125_1 (by omega) ?_ ?_
  · intro h1
    refine n_fg (le_n (le_n le_0)) ?_
    exact (isAct_3_c hS ha 12)   (by omega)
  · intro h2
    refine n_iload_n c_125_4 rfl (n_aload_n c_125_5 rfl (n_getV (bi := 14) c_125_6 sc_3.n rfl rfl rfl (t_3_14x hS) ?_))
    intro z3 ez3 f4
    have f4a := t_ac hS
    refine n_if2_ge c_125_9 (by omega) (by omega) ?_ ?_
    · intro h5
      refine n_fg (le_n (le_n le_0)) ?_
      exact (isAct_3_c hS ha 12)   (by omega)
    · intro h6
      refine n_iconst c_125_12 (n_goto c_125_13 ?_)
      exact n_rZ c_125_17 rfl (by omega) ⟨rfl, by omega, by omega⟩

set_option maxHeartbeats 4000000 in
theorem isLaw_3_c {xs : List Int32} {e : Nat} {ac : Int} {M0 M : nM} {l : Int} (hS : Sf 3 ac M0 M) (hl : -2147483648 ≤ l ∧ l ≤ 2147483647) : ∀ nn : Nat, (1 < (nn : Int) → nW xs e 126 16 [none, none] [] M (nPI fun z M1 => M = M1 ∧ (0 ≤ z ∧ z ≤ 1) ∧ (z = 0 ∨ (0 ≤ l ∧ l ≤ 11)))) := by
  have hd : (3 : Int) = 2 ∨ (3 : Int) = 3 := by decide
  have hac := hS.2.2.2.2
  intro nn
  induction nn with
  | zero => intros; omega
  | succ nn ih =>
    intro hnn
    refine n_iconst c_126_16 ?_
    exact n_rZ c_126_17 rfl (by omega) ⟨rfl, by omega, by omega⟩
set_option maxHeartbeats 4000000 in
theorem isLaw_3 {xs : List Int32} {e : Nat} {ac : Int} {M0 M : nM} {l : Int} (hS : Sf 3 ac M0 M) (hl : -2147483648 ≤ l ∧ l ≤ 2147483647) : nW xs e 126 0 [some (2, 3), some (0, l)] [] M (nPI fun z M1 => M = M1 ∧ (0 ≤ z ∧ z ≤ 1) ∧ (z = 0 ∨ (0 ≤ l ∧ l ≤ 11))) := by
  have hd : (3 : Int) = 2 ∨ (3 : Int) = 3 := by decide
  have hac := hS.2.2.2.2
  refine n_iload_n c_126_0 rfl ?_
  refine n_if0_lt c_126_1 (by omega) ?_ ?_
  · intro h1
    refine n_fg (le_n (le_n le_0)) ?_
    exact (isLaw_3_c hS hl 12)   (by omega)
  · intro h2
    refine n_iload_n c_126_4 rfl (n_aload_n c_126_5 rfl (n_getV (bi := 15) c_126_6 sc_3.n rfl rfl rfl (t_3_15 hS) ?_))
    intro z3 ez3 f4
    refine n_if2_ge c_126_9 (by omega) (by omega) ?_ ?_
    · intro h5
      refine n_fg (le_n (le_n le_0)) ?_
      exact (isLaw_3_c hS hl 12)   (by omega)
    · intro h6
      refine n_iconst c_126_12 (n_goto c_126_13 ?_)
      exact n_rZ c_126_17 rfl (by omega) ⟨rfl, by omega, by omega⟩

set_option maxHeartbeats 4000000 in
theorem isPlaceCount_3_c {xs : List Int32} {e : Nat} {ac : Int} {M0 M : nM} {k : Int} (hS : Sf 3 ac M0 M) (hk : -2147483648 ≤ k ∧ k ≤ 2147483647) : ∀ nn : Nat, (1 < (nn : Int) → nW xs e 124 14 [none, none] [] M (nPI fun z M1 => M = M1 ∧ (0 ≤ z ∧ z ≤ 1) ∧ (z = 0 ∨ (1 ≤ k ∧ k ≤ 3)))) := by
  have hd : (3 : Int) = 2 ∨ (3 : Int) = 3 := by decide
  have hac := hS.2.2.2.2
  intro nn
  induction nn with
  | zero => intros; omega
  | succ nn ih =>
    intro hnn
    refine n_iconst c_124_14 ?_
    exact n_rZ c_124_15 rfl (by omega) ⟨rfl, by omega, by omega⟩
set_option maxHeartbeats 4000000 in
theorem isPlaceCount_3 {xs : List Int32} {e : Nat} {ac : Int} {M0 M : nM} {k : Int} (hS : Sf 3 ac M0 M) (hk : -2147483648 ≤ k ∧ k ≤ 2147483647) : nW xs e 124 0 [some (2, 3), some (0, k)] [] M (nPI fun z M1 => M = M1 ∧ (0 ≤ z ∧ z ≤ 1) ∧ (z = 0 ∨ (1 ≤ k ∧ k ≤ 3))) := by
  have hd : (3 : Int) = 2 ∨ (3 : Int) = 3 := by decide
  have hac := hS.2.2.2.2
  refine n_iload_n c_124_0 rfl (n_iconst c_124_1 ?_)
  refine n_if2_lt c_124_2 (by omega) (by omega) ?_ ?_
  · intro h1
    refine n_fg (le_n (le_n le_0)) ?_
    exact (isPlaceCount_3_c hS hk 12)   (by omega)
  · intro h2
    refine n_iload_n c_124_5 rfl (n_iconst c_124_6 ?_)
    refine n_if2_gt c_124_7 (by omega) (by omega) ?_ ?_
    · intro h3
      refine n_fg (le_n (le_n le_0)) ?_
      exact (isPlaceCount_3_c hS hk 12)   (by omega)
    · intro h4
      refine n_iconst c_124_10 (n_goto c_124_11 ?_)
      exact n_rZ c_124_15 rfl (by omega) ⟨rfl, by omega, by omega⟩

set_option maxHeartbeats 4000000 in
theorem forgetMade_3_c {xs : List Int32} {e : Nat} {ac : Int} {M0 M : nM} (hS : Sf 3 ac M0 M)  : ∀ nn : Nat, (∀ (x1 : Int) (M : nM), Sf 3 ac M0 M → (0 ≤ x1 ∧ x1 ≤ 3) → (3 - x1) * 1 + 1 < (nn : Int) → nW xs e 123 2 [some (2, 3), some (0, x1)] [] M (nPV fun M1 => Sf 3 ac M0 M1)) := by
  have hd : (3 : Int) = 2 ∨ (3 : Int) = 3 := by decide
  have hac := hS.2.2.2.2
  intro nn
  induction nn with
  | zero => intros; omega
  | succ nn ih =>
    intro x1 M hS k1 hnn
    refine n_iload_n c_123_2 rfl (n_iconst c_123_3 ?_)
    refine n_if2_ge c_123_4 (by omega) (by omega) ?_ ?_
    · intro h1
      exact n_rV c_123_23 rfl hS
    · intro h2
      refine n_aload_n c_123_7 rfl (n_getR c_123_8 sc_3.n rfl rfl rfl r_3_4 (n_iload_n c_123_11 rfl (n_aaload c_123_12 sc_14.n rfl rfl rfl (by omega) (r_made _) ?_)))
      have q3 : MadeAt (103 + 3 * x1) := by unfold MadeAt; omega
      refine n_iconst c_123_13 (n_putZV (bi := 0) hS c_123_14 q3.c0.1.n rfl rfl rfl (by omega) rfl (w_made q3 (by omega) (by omega)) ?_)
      intro M4 eM4 hS4
      have g4_0 : M4 (103 + 3 * x1) 0 = 0 := by rw [eM4]; exact nu_s _ _ _ _
      refine n_iinc (L2 := [some (2, 3), some (0, (x1 + 1))]) c_123_17 rfl rfl rfl (n_goto c_123_20 (n_fg (le_s (le_s le_0)) ?_))
      exact ih _ M4 hS4 (by omega) (by omega)
set_option maxHeartbeats 4000000 in
theorem forgetMade_3 {xs : List Int32} {e : Nat} {ac : Int} {M0 M : nM} (hS : Sf 3 ac M0 M)  : nW xs e 123 0 [some (2, 3), none] [] M (nPV fun M1 => Sf 3 ac M0 M1) := by
  have hd : (3 : Int) = 2 ∨ (3 : Int) = 3 := by decide
  have hac := hS.2.2.2.2
  refine n_iconst c_123_0 (n_istore_n (L2 := [some (2, 3), some (0, 0)]) c_123_1 rfl rfl (n_fg (le_s (le_s le_0)) ?_))
  exact (forgetMade_3_c hS  20) _ M hS (by omega) (by omega)

set_option maxHeartbeats 4000000 in
theorem at_3_c {xs : List Int32} {e : Nat} {ac : Int} {M0 M : nM} {a r : Int} (hS : Sf 3 ac M0 M) (ha : -2147483648 ≤ a ∧ a ≤ 2147483647) (hr : -2147483648 ≤ r ∧ r ≤ 2147483647) : ∀ nn : Nat, (1 < (nn : Int) → nW xs (e + 1) 99 25 [none, none, none] [] M (nPI fun z M1 => M = M1 ∧ (-2147483648 ≤ z ∧ z ≤ 2147483647))) := by
  have hd : (3 : Int) = 2 ∨ (3 : Int) = 3 := by decide
  have hac := hS.2.2.2.2
  intro nn
  induction nn with
  | zero => intros; omega
  | succ nn ih =>
    intro hnn
    refine n_iconst c_99_25 ?_
    exact n_rI c_99_26 rfl ⟨rfl, by omega⟩
set_option maxHeartbeats 4000000 in
theorem at_3 {xs : List Int32} {e : Nat} {ac : Int} {M0 M : nM} {a r : Int} (hS : Sf 3 ac M0 M) (ha : -2147483648 ≤ a ∧ a ≤ 2147483647) (hr : -2147483648 ≤ r ∧ r ≤ 2147483647) : nW xs (e + 1) 99 0 [some (2, 3), some (0, a), some (0, r)] [] M (nPI fun z M1 => M = M1 ∧ (-2147483648 ≤ z ∧ z ≤ 2147483647)) := by
  have hd : (3 : Int) = 2 ∨ (3 : Int) = 3 := by decide
  have hac := hS.2.2.2.2
  refine n_aload_n c_99_0 rfl (n_iload_n c_99_1 rfl (n_v1I c_99_2 rfl sc_3.n rfl rfl rfl rfl (isAct_3 (a := a) hS (by omega)) ?_))
  intro z1 M2 hP3
  obtain ⟨eM, f3, f3p0⟩ := hP3
  subst eM
  refine n_if0_eq c_99_5 (by omega) ?_ ?_
  · intro h4
    refine n_fg (le_n (le_n (le_n le_0))) ?_
    exact (at_3_c hS ha hr 12)   (by omega)
  · intro h5
    refine n_iload_n c_99_8 rfl ?_
    refine n_if0_lt c_99_9 (by omega) ?_ ?_
    · intro h6
      refine n_fg (le_n (le_n (le_n le_0))) ?_
      exact (at_3_c hS ha hr 12)   (by omega)
    · intro h7
      refine n_iload_n c_99_12 rfl (n_aload_n c_99_13 rfl (n_getR c_99_14 sc_3.n rfl rfl rfl r_3_2 (n_iload_n c_99_17 rfl (n_aaload c_99_18 sc_12.n rfl rfl rfl (by omega) (r_acts _) ?_))))
      have q8 : ActAt (55 + 3 * a) := by unfold ActAt; omega
      have q8l : (55 + 3 * a) < 55 + 3 * ac := by omega
      refine n_getV (bi := 1) c_99_19 q8.c0.1.n rfl rfl rfl (t_actl hS q8 q8l).2 ?_
      intro z9 ez9 f10
      refine n_if2_lt c_99_22 (by omega) (by omega) ?_ ?_
      · intro h11
        refine n_aload_n c_99_27 rfl (n_getR c_99_28 sc_3.n rfl rfl rfl r_3_2 (n_iload_n c_99_31 rfl (n_aaload c_99_32 sc_12.n rfl rfl rfl (by omega) (r_acts _) ?_)))
        have q12 : ActAt (55 + 3 * a) := by unfold ActAt; omega
        have q12l : (55 + 3 * a) < 55 + 3 * ac := by omega
        refine n_getR c_99_33 q12.c0.1.n rfl rfl rfl q12.r.1 (n_iload_n c_99_36 rfl (n_ialoadV c_99_37 q12.c0.2.1.n rfl rfl rfl (by omega) (t_actrl hS q12 q12l (Or.inl rfl) (by omega) (by omega)) ?_))
        intro z13 ez13 f14
        exact n_rI c_99_38 rfl ⟨rfl, by omega⟩
      · intro h15
        refine n_fg (le_n (le_n (le_n le_0))) ?_
        exact (at_3_c hS ha hr 12)   (by omega)

set_option maxHeartbeats 4000000 in
theorem lawOf_3 {xs : List Int32} {e : Nat} {ac : Int} {M0 M : nM} {l : Int} (hS : Sf 3 ac M0 M) (hl : -2147483648 ≤ l ∧ l ≤ 2147483647) : nW xs (e + 1) 100 0 [some (2, 3), some (0, l)] [] M (nPJ fun z M1 => M = M1 ∧ (-9223372036854775808 ≤ z ∧ z ≤ 9223372036854775807)) := by
  have hd : (3 : Int) = 2 ∨ (3 : Int) = 3 := by decide
  have hac := hS.2.2.2.2
  refine n_aload_n c_100_0 rfl (n_iload_n c_100_1 rfl (n_v1I c_100_2 rfl sc_3.n rfl rfl rfl rfl (isLaw_3 (l := l) hS (by omega)) ?_))
  intro z1 M2 hP3
  obtain ⟨eM, f3, f3p0⟩ := hP3
  subst eM
  refine n_if0_eq c_100_5 (by omega) ?_ ?_
  · intro h4
    refine n_ldc2 (n := (-1)) c_100_21 rfl ?_
    exact n_rJ c_100_24 rfl ⟨rfl, by omega⟩
  · intro h5
    refine n_aload_n c_100_8 rfl (n_getR c_100_9 sc_3.n rfl rfl rfl r_3_3 (n_iload_n c_100_12 rfl (n_aaload c_100_13 sc_13.n rfl rfl rfl (by omega) (r_laws _) ?_)))
    have q6 : LawAt (79 + 2 * l) := by unfold LawAt; omega
    refine n_getV (bi := 1) c_100_14 q6.c0.1.n rfl rfl rfl (t_law hS q6).2.1 ?_
    intro z7 ez7 f8
    refine n_i2l c_100_17 (by omega) ?_
    refine n_goto c_100_18 ?_
    exact n_rJ c_100_24 rfl ⟨rfl, by omega⟩

/-! The methods, by program. -/
set_option maxHeartbeats 4000000 in
theorem keeps_3_c {xs : List Int32} {e : Nat} {ac : Int} {M0 M : nM} {a l : Int} (hS : Sf 3 ac M0 M) (ha : -2147483648 ≤ a ∧ a ≤ 2147483647) (hl : -2147483648 ≤ l ∧ l ≤ 2147483647) : ∀ nn : Nat, (∀ (M : nM), Sf 3 ac M0 M → 1 < (nn : Int) → nW xs (e + 3) 101 16 [none, none, none] [] M (nPI fun z M1 => Sf 3 ac M0 M1 ∧ (-2147483648 ≤ z ∧ z ≤ 2147483647))) := by
  have hd : (3 : Int) = 2 ∨ (3 : Int) = 3 := by decide
  have hac := hS.2.2.2.2
  intro nn
  induction nn with
  | zero => intros; omega
  | succ nn ih =>
    intro M hS hnn
    refine n_iconst c_101_16 ?_
    exact n_rI c_101_17 rfl ⟨hS, by omega⟩
set_option maxHeartbeats 4000000 in
theorem keeps_3 {xs : List Int32} {e : Nat} {ac : Int} {M0 M : nM} {a l : Int} (hS : Sf 3 ac M0 M) (ha : -2147483648 ≤ a ∧ a ≤ 2147483647) (hl : -2147483648 ≤ l ∧ l ≤ 2147483647) : nW xs (e + 3) 101 0 [some (2, 3), some (0, a), some (0, l)] [] M (nPI fun z M1 => Sf 3 ac M0 M1 ∧ (-2147483648 ≤ z ∧ z ≤ 2147483647)) := by
  have hd : (3 : Int) = 2 ∨ (3 : Int) = 3 := by decide
  have hac := hS.2.2.2.2
  refine n_aload_n c_101_0 rfl (n_iload_n c_101_1 rfl (n_v1I c_101_2 rfl sc_3.n rfl rfl rfl rfl (isAct_3 (a := a) hS (by omega)) ?_))
  intro z1 M2 hP3
  obtain ⟨eM, f3, f3p0⟩ := hP3
  subst eM
  refine n_if0_eq c_101_5 (by omega) ?_ ?_
  · intro h4
    refine n_fg (le_n (le_n (le_n le_0))) ?_
    exact (keeps_3_c hS ha hl 12)  M hS  (by omega)
  · intro h5
    refine n_aload_n c_101_8 rfl (n_iload_n c_101_9 rfl (n_v1I c_101_10 rfl sc_3.n rfl rfl rfl rfl (isLaw_3 (l := l) hS (by omega)) ?_))
    intro z6 M7 hP8
    obtain ⟨eM, f8, f8p0⟩ := hP8
    subst eM
    refine n_if0_ne c_101_13 (by omega) ?_ ?_
    · intro h9
      refine n_aload_n c_101_18 rfl (n_getR c_101_19 sc_3.n rfl rfl rfl r_3_3 (n_iload_n c_101_22 rfl (n_aaload c_101_23 sc_13.n rfl rfl rfl (by omega) (r_laws _) ?_)))
      have q10 : LawAt (79 + 2 * l) := by unfold LawAt; omega
      refine n_aload_n c_101_24 rfl (n_getR c_101_25 sc_3.n rfl rfl rfl r_3_2 (n_iload_n c_101_28 rfl (n_aaload c_101_29 sc_12.n rfl rfl rfl (by omega) (r_acts _) ?_)))
      have q11 : ActAt (55 + 3 * a) := by unfold ActAt; omega
      have q11l : (55 + 3 * a) < 55 + 3 * ac := by omega
      refine n_aload_n c_101_30 rfl (n_getR c_101_31 sc_3.n rfl rfl rfl r_3_0 (n_aload_n c_101_34 rfl (n_getR c_101_35 sc_3.n rfl rfl rfl r_3_12 (n_v3I c_101_38 rfl q10.c0.1.n rfl rfl rfl rfl (isKeptBy_3 (q := (79 + 2 * l)) (p := (55 + 3 * a)) hS q10 q11 q11l) ?_))))
      intro z12 M13 hP14
      obtain ⟨hS13, f14⟩ := hP14
      refine n_if0_eq c_101_41 (by omega) ?_ ?_
      · intro h15
        refine n_iconst c_101_48 ?_
        exact n_rI c_101_49 rfl ⟨hS13, by omega⟩
      · intro h16
        refine n_iconst c_101_44 (n_goto c_101_45 ?_)
        exact n_rI c_101_49 rfl ⟨hS13, by omega⟩
    · intro h17
      refine n_fg (le_n (le_n (le_n le_0))) ?_
      exact (keeps_3_c hS ha hl 12)  M hS  (by omega)

set_option maxHeartbeats 4000000 in
theorem closed_3_c {xs : List Int32} {e : Nat} {ac : Int} {M0 M : nM} {l : Int} (hS : Sf 3 ac M0 M) (hl : -2147483648 ≤ l ∧ l ≤ 2147483647) : ∀ nn : Nat, (∀ (x2 x3 : Int) (M : nM), Sf 3 ac M0 M → (0 ≤ x2 ∧ x2 ≤ 1) → (0 ≤ x3 ∧ x3 ≤ 28) → (28 - x3) * 11 + 12 < (nn : Int) → nW xs (e + 3) 102 45 [some (2, 3), none, some (0, x2), some (0, x3), none] [] M (nPJ fun z M1 => Sf 3 ac M0 M1 ∧ (-9223372036854775808 ≤ z ∧ z ≤ 9223372036854775807))) ∧ (∀ (x2 x3 x4 : Int) (M : nM), Sf 3 ac M0 M → (0 ≤ x2 ∧ x2 ≤ 1) → (0 ≤ x3 ∧ x3 ≤ 27) → (0 ≤ x4 ∧ x4 ≤ 8) → (28 - x3) * 11 + (8 - x4) * 1 + 2 < (nn : Int) → nW xs (e + 3) 102 60 [some (2, 3), none, some (0, x2), some (0, x3), some (0, x4)] [] M (nPJ fun z M1 => Sf 3 ac M0 M1 ∧ (-9223372036854775808 ≤ z ∧ z ≤ 9223372036854775807))) ∧ (∀ (M : nM), Sf 3 ac M0 M → 1 < (nn : Int) → nW xs (e + 3) 102 106 [some (2, 3), none, none, none, none] [] M (nPJ fun z M1 => Sf 3 ac M0 M1 ∧ (-9223372036854775808 ≤ z ∧ z ≤ 9223372036854775807))) := by
  have hd : (3 : Int) = 2 ∨ (3 : Int) = 3 := by decide
  have hac := hS.2.2.2.2
  intro nn
  induction nn with
  | zero => refine ⟨?_, ?_, ?_⟩ <;> (intros; omega)
  | succ nn ih =>
    refine ⟨?_, ?_, ?_⟩
    · intro x2 x3 M hS k2 k3 hnn
      refine n_iload_n c_102_45 rfl (n_bipush c_102_46 rfl ?_)
      refine n_if2_gt c_102_48 (by omega) (by omega) ?_ ?_
      · intro h1
        refine n_fg (le_s (le_n (le_n (le_n (le_n le_0))))) ?_
        exact ih.2.2  M hS  (by omega)
      · intro h2
        refine n_iload_n c_102_51 rfl ?_
        refine n_if0_eq c_102_52 (by omega) ?_ ?_
        · intro h3
          refine n_fg (le_s (le_n (le_n (le_n (le_n le_0))))) ?_
          exact ih.2.2  M hS  (by omega)
        · intro h4
          refine n_iconst c_102_55 (n_istore_n (L2 := [some (2, 3), none, some (0, 0), some (0, x3), none]) c_102_56 rfl rfl (n_iconst c_102_57 (n_istore (L2 := [some (2, 3), none, some (0, 0), some (0, x3), some (0, 0)]) c_102_58 rfl rfl (n_fg (le_s (le_n (le_s (le_s (le_s le_0))))) ?_))))
          exact ih.2.1 _ _ _ M hS (by omega) (by omega) (by omega) (by omega)
    · intro x2 x3 x4 M hS k2 k3 k4 hnn
      refine n_iload c_102_60 rfl (n_aload_n c_102_62 rfl (n_getV (bi := 14) c_102_63 sc_3.n rfl rfl rfl (t_3_14x hS) ?_))
      intro z1 ez1 f2
      have f2a := t_ac hS
      refine n_if2_ge c_102_66 (by omega) (by omega) ?_ ?_
      · intro h3
        refine n_iinc (L2 := [some (2, 3), none, some (0, x2), some (0, (x3 + 1)), some (0, x4)]) c_102_100 rfl rfl rfl (n_goto c_102_103 (n_fg (le_s (le_n (le_s (le_s (le_n le_0))))) ?_))
        exact ih.1 _ _ M hS (by omega) (by omega) (by omega)
      · intro h4
        refine n_iload_n c_102_69 rfl (n_aload_n c_102_70 rfl (n_getR c_102_71 sc_3.n rfl rfl rfl r_3_11 (n_aload_n c_102_74 rfl (n_getR c_102_75 sc_3.n rfl rfl rfl r_3_2 (n_iload c_102_78 rfl (n_aaload c_102_80 sc_12.n rfl rfl rfl (by omega) (r_acts _) ?_))))))
        have q5 : ActAt (55 + 3 * x4) := by unfold ActAt; omega
        have q5l : (55 + 3 * x4) < 55 + 3 * ac := by omega
        refine n_aload_n c_102_81 rfl (n_getR c_102_82 sc_3.n rfl rfl rfl r_3_0 (n_aload_n c_102_85 rfl (n_getR c_102_86 sc_3.n rfl rfl rfl r_3_12 (n_v3I c_102_89 rfl law50.c0.1.n rfl rfl rfl rfl (growsBy_3 (p := (55 + 3 * x4)) hS q5 q5l) ?_))))
        intro z6 M7 hP8
        obtain ⟨hS7, f8⟩ := hP8
        refine n_i_ior c_102_92 rfl ?_
        have f9 := n_or_1 (x := x2) (y := z6) (by omega) (by omega)
        generalize (n_or x2 z6) = z10 at f9 ⊢
        refine n_istore_n (L2 := [some (2, 3), none, some (0, z10), some (0, x3), some (0, x4)]) c_102_93 rfl rfl (n_iinc (L2 := [some (2, 3), none, some (0, z10), some (0, x3), some (0, (x4 + 1))]) c_102_94 rfl rfl rfl (n_goto c_102_97 (n_fg (le_s (le_n (le_s (le_s (le_s le_0))))) ?_)))
        exact ih.2.1 _ _ _ M7 hS7 (by omega) (by omega) (by omega) (by omega)
    · intro M hS hnn
      refine n_aload_n c_102_106 rfl (n_getR c_102_107 sc_3.n rfl rfl rfl r_3_11 (n_aload_n c_102_110 rfl (n_getR c_102_111 sc_3.n rfl rfl rfl r_3_0 (n_v1I c_102_114 rfl law50.c0.1.n rfl rfl rfl rfl (narrowSet_3  hS ) ?_))))
      intro z1 M2 hP3
      obtain ⟨eM, f3⟩ := hP3
      subst eM
      refine n_i2l c_102_117 (by omega) ?_
      exact n_rJ c_102_118 rfl ⟨hS, by omega⟩
set_option maxHeartbeats 4000000 in
theorem closed_3 {xs : List Int32} {e : Nat} {ac : Int} {M0 M : nM} {l : Int} (hS : Sf 3 ac M0 M) (hl : -2147483648 ≤ l ∧ l ≤ 2147483647) : nW xs (e + 3) 102 0 [some (2, 3), some (0, l), none, none, none] [] M (nPJ fun z M1 => Sf 3 ac M0 M1 ∧ (-9223372036854775808 ≤ z ∧ z ≤ 9223372036854775807)) := by
  have hd : (3 : Int) = 2 ∨ (3 : Int) = 3 := by decide
  have hac := hS.2.2.2.2
  refine n_aload_n c_102_0 rfl (n_iload_n c_102_1 rfl (n_v1I c_102_2 rfl sc_3.n rfl rfl rfl rfl (isLaw_3 (l := l) hS (by omega)) ?_))
  intro z1 M2 hP3
  obtain ⟨eM, f3, f3p0⟩ := hP3
  subst eM
  refine n_if0_ne c_102_5 (by omega) ?_ ?_
  · intro h4
    refine n_aload_n c_102_12 rfl (n_getR c_102_13 sc_3.n rfl rfl rfl r_3_11 (n_aload_n c_102_16 rfl (n_getR c_102_17 sc_3.n rfl rfl rfl r_3_3 (n_iload_n c_102_20 rfl (n_aaload c_102_21 sc_13.n rfl rfl rfl (by omega) (r_laws _) ?_)))))
    have q5 : LawAt (79 + 2 * l) := by unfold LawAt; omega
    refine n_getV (bi := 0) c_102_22 q5.c0.1.n rfl rfl rfl (t_law hS q5).1 ?_
    intro z6 ez6 f7
    refine n_aload_n c_102_25 rfl (n_getR c_102_26 sc_3.n rfl rfl rfl r_3_3 (n_iload_n c_102_29 rfl (n_aaload c_102_30 sc_13.n rfl rfl rfl (by omega) (r_laws _) ?_)))
    have q8 : LawAt (79 + 2 * l) := by unfold LawAt; omega
    refine n_getV (bi := 1) c_102_31 q8.c0.1.n rfl rfl rfl (t_law hS q8).2.1 ?_
    intro z9 ez9 f10
    refine n_aload_n c_102_34 rfl (n_getR c_102_35 sc_3.n rfl rfl rfl r_3_0 (n_v3V c_102_38 rfl law50.c0.1.n rfl rfl rfl rfl (takeS_3 (k := z6) (s := z9) hS (by omega) (by omega)) ?_))
    intro  M11 hP12
    have hS11 := hP12
    refine n_iconst c_102_41 (n_istore_n (L2 := [some (2, 3), some (0, l), some (0, 1), none, none]) c_102_42 rfl rfl (n_iconst c_102_43 (n_istore_n (L2 := [some (2, 3), some (0, l), some (0, 1), some (0, 0), none]) c_102_44 rfl rfl (n_fg (le_s (le_n (le_s (le_s (le_n le_0))))) ?_))))
    exact (closed_3_c hS hl 672).1 _ _ M11 hS11 (by omega) (by omega) (by omega)
  · intro h13
    refine n_ldc2 (n := (-1)) c_102_8 rfl ?_
    exact n_rJ c_102_11 rfl ⟨hS, by omega⟩

set_option maxHeartbeats 4000000 in
theorem aaks_3_c {xs : List Int32} {e : Nat} {ac : Int} {M0 M : nM} (hS : Sf 3 ac M0 M)  : ∀ nn : Nat, (∀ (x1 : Int) (M : nM), Sf 3 ac M0 M → (0 ≤ x1 ∧ x1 ≤ 8) → (8 - x1) * 1 + 1 < (nn : Int) → nW xs (e + 3) 129 2 [some (2, 3), some (0, x1)] [] M (nPI fun z M1 => Sf 3 ac M0 M1 ∧ (0 ≤ z ∧ z ≤ 1))) := by
  have hd : (3 : Int) = 2 ∨ (3 : Int) = 3 := by decide
  have hac := hS.2.2.2.2
  intro nn
  induction nn with
  | zero => intros; omega
  | succ nn ih =>
    intro x1 M hS k1 hnn
    refine n_iload_n c_129_2 rfl (n_aload_n c_129_3 rfl (n_getV (bi := 14) c_129_4 sc_3.n rfl rfl rfl (t_3_14x hS) ?_))
    intro z1 ez1 f2
    have f2a := t_ac hS
    refine n_if2_ge c_129_7 (by omega) (by omega) ?_ ?_
    · intro h3
      refine n_iconst c_129_42 ?_
      exact n_rZ c_129_43 rfl (by omega) ⟨hS, by omega⟩
    · intro h4
      refine n_aload_n c_129_10 rfl (n_getR c_129_11 sc_3.n rfl rfl rfl r_3_11 (n_aload_n c_129_14 rfl (n_getR c_129_15 sc_3.n rfl rfl rfl r_3_2 (n_iload_n c_129_18 rfl (n_aaload c_129_19 sc_12.n rfl rfl rfl (by omega) (r_acts _) ?_)))))
      have q5 : ActAt (55 + 3 * x1) := by unfold ActAt; omega
      have q5l : (55 + 3 * x1) < 55 + 3 * ac := by omega
      refine n_aload_n c_129_20 rfl (n_getR c_129_21 sc_3.n rfl rfl rfl r_3_0 (n_aload_n c_129_24 rfl (n_getR c_129_25 sc_3.n rfl rfl rfl r_3_12 (n_v3I c_129_28 rfl law50.c0.1.n rfl rfl rfl rfl (isKeptBy_3 (q := 50) (p := (55 + 3 * x1)) hS law50 q5 q5l) ?_))))
      intro z6 M7 hP8
      obtain ⟨hS7, f8⟩ := hP8
      refine n_if0_ne c_129_31 (by omega) ?_ ?_
      · intro h9
        refine n_iinc (L2 := [some (2, 3), some (0, (x1 + 1))]) c_129_36 rfl rfl rfl (n_goto c_129_39 (n_fg (le_s (le_s le_0)) ?_))
        exact ih _ M7 hS7 (by omega) (by omega)
      · intro h10
        refine n_iconst c_129_34 ?_
        exact n_rZ c_129_35 rfl (by omega) ⟨hS7, by omega⟩
set_option maxHeartbeats 4000000 in
theorem aaks_3 {xs : List Int32} {e : Nat} {ac : Int} {M0 M : nM} (hS : Sf 3 ac M0 M)  : nW xs (e + 3) 129 0 [some (2, 3), none] [] M (nPI fun z M1 => Sf 3 ac M0 M1 ∧ (0 ≤ z ∧ z ≤ 1)) := by
  have hd : (3 : Int) = 2 ∨ (3 : Int) = 3 := by decide
  have hac := hS.2.2.2.2
  refine n_iconst c_129_0 (n_istore_n (L2 := [some (2, 3), some (0, 0)]) c_129_1 rfl rfl (n_fg (le_s (le_s le_0)) ?_))
  exact (aaks_3_c hS  30) _ M hS (by omega) (by omega)

set_option maxHeartbeats 4000000 in
theorem laws_3_c {xs : List Int32} {e : Nat} {ac : Int} {M0 M : nM} {k : Int} (hS : Sf 3 ac M0 M) (hk : -2147483648 ≤ k ∧ k ≤ 2147483647) : ∀ nn : Nat, (∀ (M : nM), Sf 3 ac M0 M → (1 ≤ k ∧ k ≤ 2) → 268435461 < (nn : Int) → nW xs (e + 4) 103 12 [some (2, 3), some (0, k), none, none, none] [] M (nPI fun z M1 => Sf 3 ac M0 M1 ∧ (-2147483648 ≤ z ∧ z ≤ 2147483647))) ∧ (∀ (x2 x3 x4 : Int) (M : nM), Sf 3 ac M0 M → (1 ≤ k ∧ k ≤ 2) → (2 ≤ x2 ∧ x2 ≤ 134217728) → (0 ≤ x3 ∧ x3 ≤ 134217728) → (0 ≤ x4 ∧ x4 ≤ 134217728) → (x3 ≤ x4) → (134217728 - x4) * 2 + 2 < (nn : Int) → nW xs (e + 4) 103 28 [some (2, 3), some (0, k), some (0, x2), some (0, x3), some (0, x4)] [] M (nPI fun z M1 => Sf 3 ac M0 M1 ∧ (-2147483648 ≤ z ∧ z ≤ 2147483647))) ∧ (∀ (x2 x3 x4 : Int) (M : nM), Sf 3 ac M0 M → (1 ≤ k ∧ k ≤ 2) → (2 ≤ x2 ∧ x2 ≤ 134217728) → (0 ≤ x3 ∧ x3 ≤ 134217728) → (0 ≤ x4 ∧ x4 ≤ 134217727) → (x3 ≤ x4 + 1) → (134217728 - x4) * 2 + 1 < (nn : Int) → nW xs (e + 4) 103 58 [some (2, 3), some (0, k), some (0, x2), some (0, x3), some (0, x4)] [] M (nPI fun z M1 => Sf 3 ac M0 M1 ∧ (-2147483648 ≤ z ∧ z ≤ 2147483647))) := by
  have hd : (3 : Int) = 2 ∨ (3 : Int) = 3 := by decide
  have hac := hS.2.2.2.2
  intro nn
  induction nn with
  | zero => refine ⟨?_, ?_, ?_⟩ <;> (intros; omega)
  | succ nn ih =>
    refine ⟨?_, ?_, ?_⟩
    · intro M hS k1 hnn
      refine n_iconst c_103_12 (n_aload_n c_103_13 rfl (n_getR c_103_14 sc_3.n rfl rfl rfl r_3_0 (n_iload_n c_103_17 rfl (n_v1I c_103_18 rfl sc_4.n rfl rfl rfl rfl (powerU_3 (n := k) hS (by omega)) ?_))))
      intro z1 M2 hP3
      obtain ⟨eM, f3⟩ := hP3
      subst eM
      refine n_i_ishl c_103_21 rfl ?_
      have f4 := n_shl_1 (y := z1) (a := 1) (b := 27) (by decide) (by omega)
      generalize (n_shl 1 z1) = z5 at f4 ⊢
      refine n_istore_n (L2 := [some (2, 3), some (0, k), some (0, z5), none, none]) c_103_22 rfl rfl (n_iconst c_103_23 (n_istore_n (L2 := [some (2, 3), some (0, k), some (0, z5), some (0, 0), none]) c_103_24 rfl rfl (n_iconst c_103_25 (n_istore (L2 := [some (2, 3), some (0, k), some (0, z5), some (0, 0), some (0, 0)]) c_103_26 rfl rfl (n_fg (le_s (le_s (le_s (le_s (le_s le_0))))) ?_)))))
      exact ih.2.1 _ _ _ M hS (by omega) (by omega) (by omega) (by omega) (by omega) (by omega)
    · intro x2 x3 x4 M hS k1 k2 k3 k4 v0 hnn
      refine n_iload c_103_28 rfl (n_iload_n c_103_30 rfl ?_)
      refine n_if2_ge c_103_31 (by omega) (by omega) ?_ ?_
      · intro h1
        refine n_iload_n c_103_64 rfl ?_
        exact n_rI c_103_65 rfl ⟨hS, by omega⟩
      · intro h2
        refine n_aload_n c_103_34 rfl (n_getR c_103_35 sc_3.n rfl rfl rfl r_3_11 (n_iload_n c_103_38 rfl (n_iload c_103_39 rfl (n_aload_n c_103_41 rfl (n_getR c_103_42 sc_3.n rfl rfl rfl r_3_0 (n_v3V c_103_45 rfl law50.c0.1.n rfl rfl rfl rfl (takeS_3 (k := k) (s := x4) hS (by omega) (by omega)) ?_))))))
        intro  M3 hP4
        have hS3 := hP4
        refine n_aload_n c_103_48 rfl (n_v0I c_103_49 rfl sc_3.n rfl rfl rfl rfl (aaks_3  hS3 ) ?_)
        intro z5 M6 hP7
        obtain ⟨hS6, f7⟩ := hP7
        refine n_if0_eq c_103_52 (by omega) ?_ ?_
        · intro h8
          refine n_fg (le_s (le_s (le_s (le_s (le_s le_0))))) ?_
          exact ih.2.2 _ _ _ M6 hS6 (by omega) (by omega) (by omega) (by omega) (by omega) (by omega)
        · intro h9
          refine n_iinc (L2 := [some (2, 3), some (0, k), some (0, x2), some (0, (x3 + 1)), some (0, x4)]) c_103_55 rfl rfl rfl (n_fg (le_s (le_s (le_s (le_s (le_s le_0))))) ?_)
          exact ih.2.2 _ _ _ M6 hS6 (by omega) (by omega) (by omega) (by omega) (by omega) (by omega)
    · intro x2 x3 x4 M hS k1 k2 k3 k4 v0 hnn
      refine n_iinc (L2 := [some (2, 3), some (0, k), some (0, x2), some (0, x3), some (0, (x4 + 1))]) c_103_58 rfl rfl rfl (n_goto c_103_61 (n_fg (le_s (le_s (le_s (le_s (le_s le_0))))) ?_))
      exact ih.2.1 _ _ _ M hS (by omega) (by omega) (by omega) (by omega) (by omega) (by omega)
set_option maxHeartbeats 4000000 in
theorem laws_3 {xs : List Int32} {e : Nat} {ac : Int} {M0 M : nM} {k : Int} (hS : Sf 3 ac M0 M) (hk : -2147483648 ≤ k ∧ k ≤ 2147483647) : nW xs (e + 4) 103 0 [some (2, 3), some (0, k), none, none, none] [] M (nPI fun z M1 => Sf 3 ac M0 M1 ∧ (-2147483648 ≤ z ∧ z ≤ 2147483647)) := by
  have hd : (3 : Int) = 2 ∨ (3 : Int) = 3 := by decide
  have hac := hS.2.2.2.2
  refine n_iload_n c_103_0 rfl (n_iconst c_103_1 ?_)
  refine n_if2_eq c_103_2 (by omega) (by omega) ?_ ?_
  · intro h1
    refine n_fg (le_s (le_s (le_n (le_n (le_n le_0))))) ?_
    exact (laws_3_c hS hk 536870932).1  M hS (by omega) (by omega)
  · intro h2
    refine n_iload_n c_103_5 rfl (n_iconst c_103_6 ?_)
    refine n_if2_eq c_103_7 (by omega) (by omega) ?_ ?_
    · intro h3
      refine n_fg (le_s (le_s (le_n (le_n (le_n le_0))))) ?_
      exact (laws_3_c hS hk 536870932).1  M hS (by omega) (by omega)
    · intro h4
      refine n_iconst c_103_10 ?_
      exact n_rI c_103_11 rfl ⟨hS, by omega⟩

set_option maxHeartbeats 4000000 in
theorem isHeap_3_c {xs : List Int32} {e : Nat} {ac : Int} {M0 M : nM} {s : Int} (hS : Sf 3 ac M0 M) (hs : -2147483648 ≤ s ∧ s ≤ 2147483647) : ∀ nn : Nat, (∀ (x2 : Int), (0 ≤ x2 ∧ x2 ≤ 8) → (8 - x2) * 1 + 1 < (nn : Int) → nW xs (e + 2) 135 2 [some (2, 3), some (0, s), some (0, x2)] [] M (nPI fun z M1 => M = M1 ∧ (0 ≤ z ∧ z ≤ 1))) := by
  have hd : (3 : Int) = 2 ∨ (3 : Int) = 3 := by decide
  have hac := hS.2.2.2.2
  intro nn
  induction nn with
  | zero => intros; omega
  | succ nn ih =>
    intro x2 k2 hnn
    refine n_iload_n c_135_2 rfl (n_aload_n c_135_3 rfl (n_getV (bi := 14) c_135_4 sc_3.n rfl rfl rfl (t_3_14x hS) ?_))
    intro z1 ez1 f2
    have f2a := t_ac hS
    refine n_if2_ge c_135_7 (by omega) (by omega) ?_ ?_
    · intro h3
      refine n_iconst c_135_35 ?_
      exact n_rZ c_135_36 rfl (by omega) ⟨rfl, by omega⟩
    · intro h4
      refine n_aload_n c_135_10 rfl (n_getR c_135_11 sc_3.n rfl rfl rfl r_3_2 (n_iload_n c_135_14 rfl (n_aaload c_135_15 sc_12.n rfl rfl rfl (by omega) (r_acts _) ?_)))
      have q5 : ActAt (55 + 3 * x2) := by unfold ActAt; omega
      have q5l : (55 + 3 * x2) < 55 + 3 * ac := by omega
      refine n_iload_n c_135_16 rfl (n_aload_n c_135_17 rfl (n_getR c_135_18 sc_3.n rfl rfl rfl r_3_0 (n_v2I c_135_21 rfl q5.c0.1.n rfl rfl rfl rfl (staysIn_3 (p := (55 + 3 * x2)) (s := s) hS q5 q5l (by omega)) ?_)))
      intro z6 M7 hP8
      obtain ⟨eM, f8⟩ := hP8
      subst eM
      refine n_if0_ne c_135_24 (by omega) ?_ ?_
      · intro h9
        refine n_iinc (L2 := [some (2, 3), some (0, s), some (0, (x2 + 1))]) c_135_29 rfl rfl rfl (n_goto c_135_32 (n_fg (le_s (le_s (le_s le_0))) ?_))
        exact ih _ (by omega) (by omega)
      · intro h10
        refine n_iconst c_135_27 ?_
        exact n_rZ c_135_28 rfl (by omega) ⟨rfl, by omega⟩
set_option maxHeartbeats 4000000 in
theorem isHeap_3 {xs : List Int32} {e : Nat} {ac : Int} {M0 M : nM} {s : Int} (hS : Sf 3 ac M0 M) (hs : -2147483648 ≤ s ∧ s ≤ 2147483647) : nW xs (e + 2) 135 0 [some (2, 3), some (0, s), none] [] M (nPI fun z M1 => M = M1 ∧ (0 ≤ z ∧ z ≤ 1)) := by
  have hd : (3 : Int) = 2 ∨ (3 : Int) = 3 := by decide
  have hac := hS.2.2.2.2
  refine n_iconst c_135_0 (n_istore_n (L2 := [some (2, 3), some (0, s), some (0, 0)]) c_135_1 rfl rfl (n_fg (le_s (le_s (le_s le_0))) ?_))
  exact (isHeap_3_c hS hs 30) _ (by omega) (by omega)

set_option maxHeartbeats 4000000 in
theorem leastHeap_3_c {xs : List Int32} {e : Nat} {ac : Int} {M0 M : nM} {m : Int} (hS : Sf 3 ac M0 M) (hm : -2147483648 ≤ m ∧ m ≤ 2147483647) : ∀ nn : Nat, (∀ (x2 x3 : Int), (7 ≤ x2 ∧ x2 ≤ 7) → (-2147483648 ≤ x3 ∧ x3 ≤ 2147483647) → (2147483647 - x3) * 2 + 2 < (nn : Int) → nW xs (e + 3) 136 10 [some (2, 3), some (0, m), some (0, x2), some (0, x3)] [] M (nPI fun z M1 => M = M1 ∧ (-2147483648 ≤ z ∧ z ≤ 2147483647))) ∧ (∀ (x2 x3 : Int), (7 ≤ x2 ∧ x2 ≤ 7) → (-2147483648 ≤ x3 ∧ x3 ≤ 6) → (2147483647 - x3) * 2 + 1 < (nn : Int) → nW xs (e + 3) 136 32 [some (2, 3), some (0, m), some (0, x2), some (0, x3)] [] M (nPI fun z M1 => M = M1 ∧ (-2147483648 ≤ z ∧ z ≤ 2147483647))) := by
  have hd : (3 : Int) = 2 ∨ (3 : Int) = 3 := by decide
  have hac := hS.2.2.2.2
  intro nn
  induction nn with
  | zero => refine ⟨?_, ?_⟩ <;> (intros; omega)
  | succ nn ih =>
    refine ⟨?_, ?_⟩
    · intro x2 x3 k2 k3 hnn
      refine n_iload_n c_136_10 rfl (n_iload_n c_136_11 rfl ?_)
      refine n_if2_ge c_136_12 (by omega) (by omega) ?_ ?_
      · intro h1
        refine n_iload_n c_136_38 rfl ?_
        exact n_rI c_136_39 rfl ⟨rfl, by omega⟩
      · intro h2
        refine n_iload_n c_136_15 rfl (n_iload_n c_136_16 rfl (n_i_iand c_136_17 rfl ?_))
        have f3 := n_and_r x3 m
        generalize (n_and x3 m) = z4 at f3 ⊢
        refine n_iload_n c_136_18 rfl ?_
        refine n_if2_ne c_136_19 (by omega) (by omega) ?_ ?_
        · intro h5
          refine n_fg (le_s (le_s (le_s (le_s le_0)))) ?_
          exact ih.2 _ _ (by omega) (by omega) (by omega)
        · intro h6
          refine n_aload_n c_136_22 rfl (n_iload_n c_136_23 rfl (n_v1I c_136_24 rfl sc_3.n rfl rfl rfl rfl (isHeap_3 (s := x3) hS (by omega)) ?_))
          intro z7 M8 hP9
          obtain ⟨eM, f9⟩ := hP9
          subst eM
          refine n_if0_eq c_136_27 (by omega) ?_ ?_
          · intro h10
            refine n_fg (le_s (le_s (le_s (le_s le_0)))) ?_
            exact ih.2 _ _ (by omega) (by omega) (by omega)
          · intro h11
            refine n_iload_n c_136_30 rfl ?_
            exact n_rI c_136_31 rfl ⟨rfl, by omega⟩
    · intro x2 x3 k2 k3 hnn
      refine n_iinc (L2 := [some (2, 3), some (0, m), some (0, x2), some (0, (x3 + 1))]) c_136_32 rfl rfl rfl (n_goto c_136_35 (n_fg (le_s (le_s (le_s (le_s le_0)))) ?_))
      exact ih.1 _ _ (by omega) (by omega) (by omega)
set_option maxHeartbeats 4000000 in
theorem leastHeap_3 {xs : List Int32} {e : Nat} {ac : Int} {M0 M : nM} {m : Int} (hS : Sf 3 ac M0 M) (hm : -2147483648 ≤ m ∧ m ≤ 2147483647) : nW xs (e + 3) 136 0 [some (2, 3), some (0, m), none, none] [] M (nPI fun z M1 => M = M1 ∧ (-2147483648 ≤ z ∧ z ≤ 2147483647)) := by
  have hd : (3 : Int) = 2 ∨ (3 : Int) = 3 := by decide
  have hac := hS.2.2.2.2
  refine n_aload_n c_136_0 rfl (n_getR c_136_1 sc_3.n rfl rfl rfl r_3_0 (n_v0I c_136_4 rfl sc_4.n rfl rfl rfl rfl (allThings_3  hS ) ?_))
  intro z1 M2 hP3
  obtain ⟨eM, f3⟩ := hP3
  subst eM
  obtain rfl : z1 = 7 := by omega
  refine n_istore_n (L2 := [some (2, 3), some (0, m), some (0, 7), none]) c_136_7 rfl rfl (n_iload_n c_136_8 rfl (n_istore_n (L2 := [some (2, 3), some (0, m), some (0, 7), some (0, m)]) c_136_9 rfl rfl (n_fg (le_s (le_s (le_s (le_s le_0)))) ?_)))
  exact (leastHeap_3_c hS hm 17179869198).1 _ _ (by omega) (by omega) (by omega)

set_option maxHeartbeats 4000000 in
theorem heaps_3_c {xs : List Int32} {e : Nat} {ac : Int} {M0 M : nM} (hS : Sf 3 ac M0 M)  : ∀ nn : Nat, (∀ (x1 x2 : Int), (0 ≤ x1 ∧ x1 ≤ 8) → (1 ≤ x2 ∧ x2 ≤ 8) → (x1 ≤ x2) → (8 - x2) * 2 + 2 < (nn : Int) → nW xs (e + 3) 109 4 [some (2, 3), some (0, x1), some (0, x2)] [] M (nPI fun z M1 => M = M1 ∧ (-2147483648 ≤ z ∧ z ≤ 2147483647))) ∧ (∀ (x1 x2 : Int), (0 ≤ x1 ∧ x1 ≤ 8) → (1 ≤ x2 ∧ x2 ≤ 7) → (x1 ≤ x2 + 1) → (8 - x2) * 2 + 1 < (nn : Int) → nW xs (e + 3) 109 26 [some (2, 3), some (0, x1), some (0, x2)] [] M (nPI fun z M1 => M = M1 ∧ (-2147483648 ≤ z ∧ z ≤ 2147483647))) := by
  have hd : (3 : Int) = 2 ∨ (3 : Int) = 3 := by decide
  have hac := hS.2.2.2.2
  intro nn
  induction nn with
  | zero => refine ⟨?_, ?_⟩ <;> (intros; omega)
  | succ nn ih =>
    refine ⟨?_, ?_⟩
    · intro x1 x2 k1 k2 v0 hnn
      refine n_iload_n c_109_4 rfl (n_aload_n c_109_5 rfl (n_getR c_109_6 sc_3.n rfl rfl rfl r_3_0 (n_v0I c_109_9 rfl sc_4.n rfl rfl rfl rfl (allThings_3  hS ) ?_)))
      intro z1 M2 hP3
      obtain ⟨eM, f3⟩ := hP3
      subst eM
      obtain rfl : z1 = 7 := by omega
      refine n_if2_gt c_109_12 (by omega) (by omega) ?_ ?_
      · intro h4
        refine n_iload_n c_109_32 rfl ?_
        exact n_rI c_109_33 rfl ⟨rfl, by omega⟩
      · intro h5
        refine n_aload_n c_109_15 rfl (n_iload_n c_109_16 rfl (n_v1I c_109_17 rfl sc_3.n rfl rfl rfl rfl (isHeap_3 (s := x2) hS (by omega)) ?_))
        intro z6 M7 hP8
        obtain ⟨eM, f8⟩ := hP8
        subst eM
        refine n_if0_eq c_109_20 (by omega) ?_ ?_
        · intro h9
          refine n_fg (le_s (le_s (le_s le_0))) ?_
          exact ih.2 _ _ (by omega) (by omega) (by omega) (by omega)
        · intro h10
          refine n_iinc (L2 := [some (2, 3), some (0, (x1 + 1)), some (0, x2)]) c_109_23 rfl rfl rfl (n_fg (le_s (le_s (le_s le_0))) ?_)
          exact ih.2 _ _ (by omega) (by omega) (by omega) (by omega)
    · intro x1 x2 k1 k2 v0 hnn
      refine n_iinc (L2 := [some (2, 3), some (0, x1), some (0, (x2 + 1))]) c_109_26 rfl rfl rfl (n_goto c_109_29 (n_fg (le_s (le_s (le_s le_0))) ?_))
      exact ih.1 _ _ (by omega) (by omega) (by omega) (by omega)
set_option maxHeartbeats 4000000 in
theorem heaps_3 {xs : List Int32} {e : Nat} {ac : Int} {M0 M : nM} (hS : Sf 3 ac M0 M)  : nW xs (e + 3) 109 0 [some (2, 3), none, none] [] M (nPI fun z M1 => M = M1 ∧ (-2147483648 ≤ z ∧ z ≤ 2147483647)) := by
  have hd : (3 : Int) = 2 ∨ (3 : Int) = 3 := by decide
  have hac := hS.2.2.2.2
  refine n_iconst c_109_0 (n_istore_n (L2 := [some (2, 3), some (0, 0), none]) c_109_1 rfl rfl (n_iconst c_109_2 (n_istore_n (L2 := [some (2, 3), some (0, 0), some (0, 1)]) c_109_3 rfl rfl (n_fg (le_s (le_s (le_s le_0))) ?_))))
  exact (heaps_3_c hS  46).1 _ _ (by omega) (by omega) (by omega) (by omega)

set_option maxHeartbeats 4000000 in
theorem heap_3_c {xs : List Int32} {e : Nat} {ac : Int} {M0 M : nM} {m : Int} (hS : Sf 3 ac M0 M) (hm : -2147483648 ≤ m ∧ m ≤ 2147483647) : ∀ nn : Nat, (1 < (nn : Int) → nW xs (e + 4) 110 16 [none, none] [] M (nPI fun z M1 => M = M1 ∧ (-2147483648 ≤ z ∧ z ≤ 2147483647))) := by
  have hd : (3 : Int) = 2 ∨ (3 : Int) = 3 := by decide
  have hac := hS.2.2.2.2
  intro nn
  induction nn with
  | zero => intros; omega
  | succ nn ih =>
    intro hnn
    refine n_iconst c_110_16 ?_
    exact n_rI c_110_17 rfl ⟨rfl, by omega⟩
set_option maxHeartbeats 4000000 in
theorem heap_3 {xs : List Int32} {e : Nat} {ac : Int} {M0 M : nM} {m : Int} (hS : Sf 3 ac M0 M) (hm : -2147483648 ≤ m ∧ m ≤ 2147483647) : nW xs (e + 4) 110 0 [some (2, 3), some (0, m)] [] M (nPI fun z M1 => M = M1 ∧ (-2147483648 ≤ z ∧ z ≤ 2147483647)) := by
  have hd : (3 : Int) = 2 ∨ (3 : Int) = 3 := by decide
  have hac := hS.2.2.2.2
  refine n_iload_n c_110_0 rfl (n_iconst c_110_1 ?_)
  refine n_if2_lt c_110_2 (by omega) (by omega) ?_ ?_
  · intro h1
    refine n_fg (le_n (le_n le_0)) ?_
    exact (heap_3_c hS hm 12)   (by omega)
  · intro h2
    refine n_iload_n c_110_5 rfl (n_aload_n c_110_6 rfl (n_getR c_110_7 sc_3.n rfl rfl rfl r_3_0 (n_v0I c_110_10 rfl sc_4.n rfl rfl rfl rfl (allThings_3  hS ) ?_)))
    intro z3 M4 hP5
    obtain ⟨eM, f5⟩ := hP5
    subst eM
    obtain rfl : z3 = 7 := by omega
    refine n_if2_le c_110_13 (by omega) (by omega) ?_ ?_
    · intro h6
      refine n_aload_n c_110_18 rfl (n_iload_n c_110_19 rfl (n_v1I c_110_20 rfl sc_3.n rfl rfl rfl rfl (leastHeap_3 (m := m) hS (by omega)) ?_))
      intro z7 M8 hP9
      obtain ⟨eM, f9⟩ := hP9
      subst eM
      exact n_rI c_110_23 rfl ⟨rfl, by omega⟩
    · intro h10
      refine n_fg (le_n (le_n le_0)) ?_
      exact (heap_3_c hS hm 12)   (by omega)

set_option maxHeartbeats 4000000 in
theorem partings_3 {xs : List Int32} {e : Nat} {ac : Int} {M0 M : nM} (hS : Sf 3 ac M0 M)  : nW xs e 137 0 [some (2, 3)] [] M (nPA fun z M1 => M = M1 ∧ z = 1) := by
  have hd : (3 : Int) = 2 ∨ (3 : Int) = 3 := by decide
  have hac := hS.2.2.2.2
  refine n_aload_n c_137_0 rfl (n_getR c_137_1 sc_3.n rfl rfl rfl r_3_0 (n_getV (bi := 0) c_137_4 sc_4.n rfl rfl rfl (t_4_0 hS) ?_))
  intro z1 ez1 f2
  obtain rfl : z1 = 3 := by omega
  refine n_iconst c_137_7 ?_
  refine n_if2_ne c_137_8 (by omega) (by omega) ?_ ?_
  · intro h3
    refine n_gets c_137_17 ?_
    exact n_rA c_137_20 rfl ⟨rfl, rfl⟩
  · intro h4
    exfalso; omega

set_option maxHeartbeats 4000000 in
theorem aakp0_3_c {xs : List Int32} {e : Nat} {ac : Int} {M0 M : nM} (hS : Sf 3 ac M0 M)  : ∀ nn : Nat, (∀ (x2 : Int), (0 ≤ x2 ∧ x2 ≤ 8) → (8 - x2) * 1 + 1 < (nn : Int) → nW xs (e + 2) 138 2 [some (2, 3), some (0, 0), some (0, x2)] [] M (nPI fun z M1 => M = M1 ∧ (0 ≤ z ∧ z ≤ 1))) := by
  have hd : (3 : Int) = 2 ∨ (3 : Int) = 3 := by decide
  have hac := hS.2.2.2.2
  intro nn
  induction nn with
  | zero => intros; omega
  | succ nn ih =>
    intro x2 k2 hnn
    refine n_iload_n c_138_2 rfl (n_aload_n c_138_3 rfl (n_getV (bi := 14) c_138_4 sc_3.n rfl rfl rfl (t_3_14x hS) ?_))
    intro z1 ez1 f2
    have f2a := t_ac hS
    refine n_if2_ge c_138_7 (by omega) (by omega) ?_ ?_
    · intro h3
      refine n_iconst c_138_35 ?_
      exact n_rZ c_138_36 rfl (by omega) ⟨rfl, by omega⟩
    · intro h4
      refine n_aload_n c_138_10 rfl (n_getR c_138_11 sc_3.n rfl rfl rfl r_3_2 (n_iload_n c_138_14 rfl (n_aaload c_138_15 sc_12.n rfl rfl rfl (by omega) (r_acts _) ?_)))
      have q5 : ActAt (55 + 3 * x2) := by unfold ActAt; omega
      have q5l : (55 + 3 * x2) < 55 + 3 * ac := by omega
      refine n_iload_n c_138_16 rfl (n_aload_n c_138_17 rfl (n_getR c_138_18 sc_3.n rfl rfl rfl r_3_0 (n_v2I c_138_21 rfl q5.c0.1.n rfl rfl rfl rfl (keepsParts0_3 (p := (55 + 3 * x2)) hS q5 q5l) ?_)))
      intro z6 M7 hP8
      obtain ⟨eM, f8⟩ := hP8
      subst eM
      refine n_if0_ne c_138_24 (by omega) ?_ ?_
      · intro h9
        refine n_iinc (L2 := [some (2, 3), some (0, 0), some (0, (x2 + 1))]) c_138_29 rfl rfl rfl (n_goto c_138_32 (n_fg (le_s (le_s (le_s le_0))) ?_))
        exact ih _ (by omega) (by omega)
      · intro h10
        refine n_iconst c_138_27 ?_
        exact n_rZ c_138_28 rfl (by omega) ⟨rfl, by omega⟩
set_option maxHeartbeats 4000000 in
theorem aakp0_3 {xs : List Int32} {e : Nat} {ac : Int} {M0 M : nM} (hS : Sf 3 ac M0 M)  : nW xs (e + 2) 138 0 [some (2, 3), some (0, 0), none] [] M (nPI fun z M1 => M = M1 ∧ (0 ≤ z ∧ z ≤ 1)) := by
  have hd : (3 : Int) = 2 ∨ (3 : Int) = 3 := by decide
  have hac := hS.2.2.2.2
  refine n_iconst c_138_0 (n_istore_n (L2 := [some (2, 3), some (0, 0), some (0, 0)]) c_138_1 rfl rfl (n_fg (le_s (le_s (le_s le_0))) ?_))
  exact (aakp0_3_c hS  30) _ (by omega) (by omega)

set_option maxHeartbeats 4000000 in
theorem aakp4_3_c {xs : List Int32} {e : Nat} {ac : Int} {M0 M : nM} (hS : Sf 3 ac M0 M)  : ∀ nn : Nat, (∀ (x2 : Int), (0 ≤ x2 ∧ x2 ≤ 8) → (8 - x2) * 1 + 1 < (nn : Int) → nW xs (e + 2) 138 2 [some (2, 3), some (0, 4), some (0, x2)] [] M (nPI fun z M1 => M = M1 ∧ (0 ≤ z ∧ z ≤ 1))) := by
  have hd : (3 : Int) = 2 ∨ (3 : Int) = 3 := by decide
  have hac := hS.2.2.2.2
  intro nn
  induction nn with
  | zero => intros; omega
  | succ nn ih =>
    intro x2 k2 hnn
    refine n_iload_n c_138_2 rfl (n_aload_n c_138_3 rfl (n_getV (bi := 14) c_138_4 sc_3.n rfl rfl rfl (t_3_14x hS) ?_))
    intro z1 ez1 f2
    have f2a := t_ac hS
    refine n_if2_ge c_138_7 (by omega) (by omega) ?_ ?_
    · intro h3
      refine n_iconst c_138_35 ?_
      exact n_rZ c_138_36 rfl (by omega) ⟨rfl, by omega⟩
    · intro h4
      refine n_aload_n c_138_10 rfl (n_getR c_138_11 sc_3.n rfl rfl rfl r_3_2 (n_iload_n c_138_14 rfl (n_aaload c_138_15 sc_12.n rfl rfl rfl (by omega) (r_acts _) ?_)))
      have q5 : ActAt (55 + 3 * x2) := by unfold ActAt; omega
      have q5l : (55 + 3 * x2) < 55 + 3 * ac := by omega
      refine n_iload_n c_138_16 rfl (n_aload_n c_138_17 rfl (n_getR c_138_18 sc_3.n rfl rfl rfl r_3_0 (n_v2I c_138_21 rfl q5.c0.1.n rfl rfl rfl rfl (keepsParts4_3 (p := (55 + 3 * x2)) hS q5 q5l) ?_)))
      intro z6 M7 hP8
      obtain ⟨eM, f8⟩ := hP8
      subst eM
      refine n_if0_ne c_138_24 (by omega) ?_ ?_
      · intro h9
        refine n_iinc (L2 := [some (2, 3), some (0, 4), some (0, (x2 + 1))]) c_138_29 rfl rfl rfl (n_goto c_138_32 (n_fg (le_s (le_s (le_s le_0))) ?_))
        exact ih _ (by omega) (by omega)
      · intro h10
        refine n_iconst c_138_27 ?_
        exact n_rZ c_138_28 rfl (by omega) ⟨rfl, by omega⟩
set_option maxHeartbeats 4000000 in
theorem aakp4_3 {xs : List Int32} {e : Nat} {ac : Int} {M0 M : nM} (hS : Sf 3 ac M0 M)  : nW xs (e + 2) 138 0 [some (2, 3), some (0, 4), none] [] M (nPI fun z M1 => M = M1 ∧ (0 ≤ z ∧ z ≤ 1)) := by
  have hd : (3 : Int) = 2 ∨ (3 : Int) = 3 := by decide
  have hac := hS.2.2.2.2
  refine n_iconst c_138_0 (n_istore_n (L2 := [some (2, 3), some (0, 4), some (0, 0)]) c_138_1 rfl rfl (n_fg (le_s (le_s (le_s le_0))) ?_))
  exact (aakp4_3_c hS  30) _ (by omega) (by omega)

set_option maxHeartbeats 4000000 in
theorem aakp20_3_c {xs : List Int32} {e : Nat} {ac : Int} {M0 M : nM} (hS : Sf 3 ac M0 M)  : ∀ nn : Nat, (∀ (x2 : Int), (0 ≤ x2 ∧ x2 ≤ 8) → (8 - x2) * 1 + 1 < (nn : Int) → nW xs (e + 2) 138 2 [some (2, 3), some (0, 20), some (0, x2)] [] M (nPI fun z M1 => M = M1 ∧ (0 ≤ z ∧ z ≤ 1))) := by
  have hd : (3 : Int) = 2 ∨ (3 : Int) = 3 := by decide
  have hac := hS.2.2.2.2
  intro nn
  induction nn with
  | zero => intros; omega
  | succ nn ih =>
    intro x2 k2 hnn
    refine n_iload_n c_138_2 rfl (n_aload_n c_138_3 rfl (n_getV (bi := 14) c_138_4 sc_3.n rfl rfl rfl (t_3_14x hS) ?_))
    intro z1 ez1 f2
    have f2a := t_ac hS
    refine n_if2_ge c_138_7 (by omega) (by omega) ?_ ?_
    · intro h3
      refine n_iconst c_138_35 ?_
      exact n_rZ c_138_36 rfl (by omega) ⟨rfl, by omega⟩
    · intro h4
      refine n_aload_n c_138_10 rfl (n_getR c_138_11 sc_3.n rfl rfl rfl r_3_2 (n_iload_n c_138_14 rfl (n_aaload c_138_15 sc_12.n rfl rfl rfl (by omega) (r_acts _) ?_)))
      have q5 : ActAt (55 + 3 * x2) := by unfold ActAt; omega
      have q5l : (55 + 3 * x2) < 55 + 3 * ac := by omega
      refine n_iload_n c_138_16 rfl (n_aload_n c_138_17 rfl (n_getR c_138_18 sc_3.n rfl rfl rfl r_3_0 (n_v2I c_138_21 rfl q5.c0.1.n rfl rfl rfl rfl (keepsParts20_3 (p := (55 + 3 * x2)) hS q5 q5l) ?_)))
      intro z6 M7 hP8
      obtain ⟨eM, f8⟩ := hP8
      subst eM
      refine n_if0_ne c_138_24 (by omega) ?_ ?_
      · intro h9
        refine n_iinc (L2 := [some (2, 3), some (0, 20), some (0, (x2 + 1))]) c_138_29 rfl rfl rfl (n_goto c_138_32 (n_fg (le_s (le_s (le_s le_0))) ?_))
        exact ih _ (by omega) (by omega)
      · intro h10
        refine n_iconst c_138_27 ?_
        exact n_rZ c_138_28 rfl (by omega) ⟨rfl, by omega⟩
set_option maxHeartbeats 4000000 in
theorem aakp20_3 {xs : List Int32} {e : Nat} {ac : Int} {M0 M : nM} (hS : Sf 3 ac M0 M)  : nW xs (e + 2) 138 0 [some (2, 3), some (0, 20), none] [] M (nPI fun z M1 => M = M1 ∧ (0 ≤ z ∧ z ≤ 1)) := by
  have hd : (3 : Int) = 2 ∨ (3 : Int) = 3 := by decide
  have hac := hS.2.2.2.2
  refine n_iconst c_138_0 (n_istore_n (L2 := [some (2, 3), some (0, 20), some (0, 0)]) c_138_1 rfl rfl (n_fg (le_s (le_s (le_s le_0))) ?_))
  exact (aakp20_3_c hS  30) _ (by omega) (by omega)

set_option maxHeartbeats 4000000 in
theorem aakp32_3_c {xs : List Int32} {e : Nat} {ac : Int} {M0 M : nM} (hS : Sf 3 ac M0 M)  : ∀ nn : Nat, (∀ (x2 : Int), (0 ≤ x2 ∧ x2 ≤ 8) → (8 - x2) * 1 + 1 < (nn : Int) → nW xs (e + 2) 138 2 [some (2, 3), some (0, 32), some (0, x2)] [] M (nPI fun z M1 => M = M1 ∧ (0 ≤ z ∧ z ≤ 1))) := by
  have hd : (3 : Int) = 2 ∨ (3 : Int) = 3 := by decide
  have hac := hS.2.2.2.2
  intro nn
  induction nn with
  | zero => intros; omega
  | succ nn ih =>
    intro x2 k2 hnn
    refine n_iload_n c_138_2 rfl (n_aload_n c_138_3 rfl (n_getV (bi := 14) c_138_4 sc_3.n rfl rfl rfl (t_3_14x hS) ?_))
    intro z1 ez1 f2
    have f2a := t_ac hS
    refine n_if2_ge c_138_7 (by omega) (by omega) ?_ ?_
    · intro h3
      refine n_iconst c_138_35 ?_
      exact n_rZ c_138_36 rfl (by omega) ⟨rfl, by omega⟩
    · intro h4
      refine n_aload_n c_138_10 rfl (n_getR c_138_11 sc_3.n rfl rfl rfl r_3_2 (n_iload_n c_138_14 rfl (n_aaload c_138_15 sc_12.n rfl rfl rfl (by omega) (r_acts _) ?_)))
      have q5 : ActAt (55 + 3 * x2) := by unfold ActAt; omega
      have q5l : (55 + 3 * x2) < 55 + 3 * ac := by omega
      refine n_iload_n c_138_16 rfl (n_aload_n c_138_17 rfl (n_getR c_138_18 sc_3.n rfl rfl rfl r_3_0 (n_v2I c_138_21 rfl q5.c0.1.n rfl rfl rfl rfl (keepsParts32_3 (p := (55 + 3 * x2)) hS q5 q5l) ?_)))
      intro z6 M7 hP8
      obtain ⟨eM, f8⟩ := hP8
      subst eM
      refine n_if0_ne c_138_24 (by omega) ?_ ?_
      · intro h9
        refine n_iinc (L2 := [some (2, 3), some (0, 32), some (0, (x2 + 1))]) c_138_29 rfl rfl rfl (n_goto c_138_32 (n_fg (le_s (le_s (le_s le_0))) ?_))
        exact ih _ (by omega) (by omega)
      · intro h10
        refine n_iconst c_138_27 ?_
        exact n_rZ c_138_28 rfl (by omega) ⟨rfl, by omega⟩
set_option maxHeartbeats 4000000 in
theorem aakp32_3 {xs : List Int32} {e : Nat} {ac : Int} {M0 M : nM} (hS : Sf 3 ac M0 M)  : nW xs (e + 2) 138 0 [some (2, 3), some (0, 32), none] [] M (nPI fun z M1 => M = M1 ∧ (0 ≤ z ∧ z ≤ 1)) := by
  have hd : (3 : Int) = 2 ∨ (3 : Int) = 3 := by decide
  have hac := hS.2.2.2.2
  refine n_iconst c_138_0 (n_istore_n (L2 := [some (2, 3), some (0, 32), some (0, 0)]) c_138_1 rfl rfl (n_fg (le_s (le_s (le_s le_0))) ?_))
  exact (aakp32_3_c hS  30) _ (by omega) (by omega)

set_option maxHeartbeats 4000000 in
theorem aakp36_3_c {xs : List Int32} {e : Nat} {ac : Int} {M0 M : nM} (hS : Sf 3 ac M0 M)  : ∀ nn : Nat, (∀ (x2 : Int), (0 ≤ x2 ∧ x2 ≤ 8) → (8 - x2) * 1 + 1 < (nn : Int) → nW xs (e + 2) 138 2 [some (2, 3), some (0, 36), some (0, x2)] [] M (nPI fun z M1 => M = M1 ∧ (0 ≤ z ∧ z ≤ 1))) := by
  have hd : (3 : Int) = 2 ∨ (3 : Int) = 3 := by decide
  have hac := hS.2.2.2.2
  intro nn
  induction nn with
  | zero => intros; omega
  | succ nn ih =>
    intro x2 k2 hnn
    refine n_iload_n c_138_2 rfl (n_aload_n c_138_3 rfl (n_getV (bi := 14) c_138_4 sc_3.n rfl rfl rfl (t_3_14x hS) ?_))
    intro z1 ez1 f2
    have f2a := t_ac hS
    refine n_if2_ge c_138_7 (by omega) (by omega) ?_ ?_
    · intro h3
      refine n_iconst c_138_35 ?_
      exact n_rZ c_138_36 rfl (by omega) ⟨rfl, by omega⟩
    · intro h4
      refine n_aload_n c_138_10 rfl (n_getR c_138_11 sc_3.n rfl rfl rfl r_3_2 (n_iload_n c_138_14 rfl (n_aaload c_138_15 sc_12.n rfl rfl rfl (by omega) (r_acts _) ?_)))
      have q5 : ActAt (55 + 3 * x2) := by unfold ActAt; omega
      have q5l : (55 + 3 * x2) < 55 + 3 * ac := by omega
      refine n_iload_n c_138_16 rfl (n_aload_n c_138_17 rfl (n_getR c_138_18 sc_3.n rfl rfl rfl r_3_0 (n_v2I c_138_21 rfl q5.c0.1.n rfl rfl rfl rfl (keepsParts36_3 (p := (55 + 3 * x2)) hS q5 q5l) ?_)))
      intro z6 M7 hP8
      obtain ⟨eM, f8⟩ := hP8
      subst eM
      refine n_if0_ne c_138_24 (by omega) ?_ ?_
      · intro h9
        refine n_iinc (L2 := [some (2, 3), some (0, 36), some (0, (x2 + 1))]) c_138_29 rfl rfl rfl (n_goto c_138_32 (n_fg (le_s (le_s (le_s le_0))) ?_))
        exact ih _ (by omega) (by omega)
      · intro h10
        refine n_iconst c_138_27 ?_
        exact n_rZ c_138_28 rfl (by omega) ⟨rfl, by omega⟩
set_option maxHeartbeats 4000000 in
theorem aakp36_3 {xs : List Int32} {e : Nat} {ac : Int} {M0 M : nM} (hS : Sf 3 ac M0 M)  : nW xs (e + 2) 138 0 [some (2, 3), some (0, 36), none] [] M (nPI fun z M1 => M = M1 ∧ (0 ≤ z ∧ z ≤ 1)) := by
  have hd : (3 : Int) = 2 ∨ (3 : Int) = 3 := by decide
  have hac := hS.2.2.2.2
  refine n_iconst c_138_0 (n_istore_n (L2 := [some (2, 3), some (0, 36), some (0, 0)]) c_138_1 rfl rfl (n_fg (le_s (le_s (le_s le_0))) ?_))
  exact (aakp36_3_c hS  30) _ (by omega) (by omega)

set_option maxHeartbeats 4000000 in
theorem pairings_3 {xs : List Int32} {e : Nat} {ac : Int} {M0 M : nM} (hS : Sf 3 ac M0 M)  : nW xs (e + 3) 111 0 [some (2, 3), none, none, none] [] M (nPI fun z M1 => M = M1 ∧ (-2147483648 ≤ z ∧ z ≤ 2147483647)) := by
  have hd : (3 : Int) = 2 ∨ (3 : Int) = 3 := by decide
  have hac := hS.2.2.2.2
  refine n_aload_n c_111_0 rfl (n_v0A c_111_1 rfl sc_3.n rfl rfl rfl rfl (partings_3  hS ) ?_)
  intro z1 M2 hP3
  obtain ⟨eM, f3⟩ := hP3
  subst eM
  obtain rfl : z1 = 1 := f3
  refine n_astore_n (L2 := [some (2, 3), some (2, 1), none, none]) c_111_4 rfl rfl (n_iconst c_111_5 (n_istore_n (L2 := [some (2, 3), some (2, 1), some (0, 0), none]) c_111_6 rfl rfl (n_iconst c_111_7 (n_istore_n (L2 := [some (2, 3), some (2, 1), some (0, 0), some (0, 0)]) c_111_8 rfl rfl (n_iload_n c_111_9 rfl (n_aload_n c_111_10 rfl (n_alen c_111_11 sc_1.n rfl ?_)))))))
  refine n_if2_ge c_111_12 (by omega) (by omega) ?_ ?_
  · intro h4
    exfalso; omega
  · intro h5
    refine n_aload_n c_111_15 rfl (n_aload_n c_111_16 rfl (n_iload_n c_111_17 rfl (n_ialoadV c_111_18 sc_1.n rfl rfl rfl (by omega) (t_1_0 hS) ?_)))
    intro z6 ez6 f7
    have hcst : (z6 : Int) = 0 := by omega
    rw [hcst]
    refine n_v1I c_111_19 rfl sc_3.n rfl rfl rfl rfl (aakp0_3  hS ) ?_
    intro z8 M9 hP10
    obtain ⟨eM, f10⟩ := hP10
    subst eM
    refine n_if0_eq c_111_22 (by omega) ?_ ?_
    · intro h11
      refine n_iinc (L2 := [some (2, 3), some (2, 1), some (0, 0), some (0, (0 + 1))]) c_111_28 rfl rfl rfl (n_goto c_111_31 (n_iload_n c_111_9 rfl (n_aload_n c_111_10 rfl (n_alen c_111_11 sc_1.n rfl ?_))))
      refine n_if2_ge c_111_12 (by omega) (by omega) ?_ ?_
      · intro h12
        exfalso; omega
      · intro h13
        refine n_aload_n c_111_15 rfl (n_aload_n c_111_16 rfl (n_iload_n c_111_17 rfl (n_ialoadV c_111_18 sc_1.n rfl rfl rfl (by omega) (t_1_1 hS) ?_)))
        intro z14 ez14 f15
        have hcst : (z14 : Int) = 4 := by omega
        rw [hcst]
        refine n_v1I c_111_19 rfl sc_3.n rfl rfl rfl rfl (aakp4_3  hS ) ?_
        intro z16 M17 hP18
        obtain ⟨eM, f18⟩ := hP18
        subst eM
        refine n_if0_eq c_111_22 (by omega) ?_ ?_
        · intro h19
          refine n_iinc (L2 := [some (2, 3), some (2, 1), some (0, 0), some (0, ((0 + 1) + 1))]) c_111_28 rfl rfl rfl (n_goto c_111_31 (n_iload_n c_111_9 rfl (n_aload_n c_111_10 rfl (n_alen c_111_11 sc_1.n rfl ?_))))
          refine n_if2_ge c_111_12 (by omega) (by omega) ?_ ?_
          · intro h20
            exfalso; omega
          · intro h21
            refine n_aload_n c_111_15 rfl (n_aload_n c_111_16 rfl (n_iload_n c_111_17 rfl (n_ialoadV c_111_18 sc_1.n rfl rfl rfl (by omega) (t_1_2 hS) ?_)))
            intro z22 ez22 f23
            have hcst : (z22 : Int) = 20 := by omega
            rw [hcst]
            refine n_v1I c_111_19 rfl sc_3.n rfl rfl rfl rfl (aakp20_3  hS ) ?_
            intro z24 M25 hP26
            obtain ⟨eM, f26⟩ := hP26
            subst eM
            refine n_if0_eq c_111_22 (by omega) ?_ ?_
            · intro h27
              refine n_iinc (L2 := [some (2, 3), some (2, 1), some (0, 0), some (0, (((0 + 1) + 1) + 1))]) c_111_28 rfl rfl rfl (n_goto c_111_31 (n_iload_n c_111_9 rfl (n_aload_n c_111_10 rfl (n_alen c_111_11 sc_1.n rfl ?_))))
              refine n_if2_ge c_111_12 (by omega) (by omega) ?_ ?_
              · intro h28
                exfalso; omega
              · intro h29
                refine n_aload_n c_111_15 rfl (n_aload_n c_111_16 rfl (n_iload_n c_111_17 rfl (n_ialoadV c_111_18 sc_1.n rfl rfl rfl (by omega) (t_1_3 hS) ?_)))
                intro z30 ez30 f31
                have hcst : (z30 : Int) = 32 := by omega
                rw [hcst]
                refine n_v1I c_111_19 rfl sc_3.n rfl rfl rfl rfl (aakp32_3  hS ) ?_
                intro z32 M33 hP34
                obtain ⟨eM, f34⟩ := hP34
                subst eM
                refine n_if0_eq c_111_22 (by omega) ?_ ?_
                · intro h35
                  refine n_iinc (L2 := [some (2, 3), some (2, 1), some (0, 0), some (0, ((((0 + 1) + 1) + 1) + 1))]) c_111_28 rfl rfl rfl (n_goto c_111_31 (n_iload_n c_111_9 rfl (n_aload_n c_111_10 rfl (n_alen c_111_11 sc_1.n rfl ?_))))
                  refine n_if2_ge c_111_12 (by omega) (by omega) ?_ ?_
                  · intro h36
                    exfalso; omega
                  · intro h37
                    refine n_aload_n c_111_15 rfl (n_aload_n c_111_16 rfl (n_iload_n c_111_17 rfl (n_ialoadV c_111_18 sc_1.n rfl rfl rfl (by omega) (t_1_4 hS) ?_)))
                    intro z38 ez38 f39
                    have hcst : (z38 : Int) = 36 := by omega
                    rw [hcst]
                    refine n_v1I c_111_19 rfl sc_3.n rfl rfl rfl rfl (aakp36_3  hS ) ?_
                    intro z40 M41 hP42
                    obtain ⟨eM, f42⟩ := hP42
                    subst eM
                    refine n_if0_eq c_111_22 (by omega) ?_ ?_
                    · intro h43
                      refine n_iinc (L2 := [some (2, 3), some (2, 1), some (0, 0), some (0, (((((0 + 1) + 1) + 1) + 1) + 1))]) c_111_28 rfl rfl rfl (n_goto c_111_31 (n_iload_n c_111_9 rfl (n_aload_n c_111_10 rfl (n_alen c_111_11 sc_1.n rfl ?_))))
                      refine n_if2_ge c_111_12 (by omega) (by omega) ?_ ?_
                      · intro h44
                        refine n_iload_n c_111_34 rfl ?_
                        exact n_rI c_111_35 rfl ⟨rfl, by omega⟩
                      · intro h45
                        exfalso; omega
                    · intro h46
                      refine n_iinc (L2 := [some (2, 3), some (2, 1), some (0, (0 + 1)), some (0, ((((0 + 1) + 1) + 1) + 1))]) c_111_25 rfl rfl rfl (n_iinc (L2 := [some (2, 3), some (2, 1), some (0, (0 + 1)), some (0, (((((0 + 1) + 1) + 1) + 1) + 1))]) c_111_28 rfl rfl rfl (n_goto c_111_31 (n_iload_n c_111_9 rfl (n_aload_n c_111_10 rfl (n_alen c_111_11 sc_1.n rfl ?_)))))
                      refine n_if2_ge c_111_12 (by omega) (by omega) ?_ ?_
                      · intro h47
                        refine n_iload_n c_111_34 rfl ?_
                        exact n_rI c_111_35 rfl ⟨rfl, by omega⟩
                      · intro h48
                        exfalso; omega
                · intro h49
                  refine n_iinc (L2 := [some (2, 3), some (2, 1), some (0, (0 + 1)), some (0, (((0 + 1) + 1) + 1))]) c_111_25 rfl rfl rfl (n_iinc (L2 := [some (2, 3), some (2, 1), some (0, (0 + 1)), some (0, ((((0 + 1) + 1) + 1) + 1))]) c_111_28 rfl rfl rfl (n_goto c_111_31 (n_iload_n c_111_9 rfl (n_aload_n c_111_10 rfl (n_alen c_111_11 sc_1.n rfl ?_)))))
                  refine n_if2_ge c_111_12 (by omega) (by omega) ?_ ?_
                  · intro h50
                    exfalso; omega
                  · intro h51
                    refine n_aload_n c_111_15 rfl (n_aload_n c_111_16 rfl (n_iload_n c_111_17 rfl (n_ialoadV c_111_18 sc_1.n rfl rfl rfl (by omega) (t_1_4 hS) ?_)))
                    intro z52 ez52 f53
                    have hcst : (z52 : Int) = 36 := by omega
                    rw [hcst]
                    refine n_v1I c_111_19 rfl sc_3.n rfl rfl rfl rfl (aakp36_3  hS ) ?_
                    intro z54 M55 hP56
                    obtain ⟨eM, f56⟩ := hP56
                    subst eM
                    refine n_if0_eq c_111_22 (by omega) ?_ ?_
                    · intro h57
                      refine n_iinc (L2 := [some (2, 3), some (2, 1), some (0, (0 + 1)), some (0, (((((0 + 1) + 1) + 1) + 1) + 1))]) c_111_28 rfl rfl rfl (n_goto c_111_31 (n_iload_n c_111_9 rfl (n_aload_n c_111_10 rfl (n_alen c_111_11 sc_1.n rfl ?_))))
                      refine n_if2_ge c_111_12 (by omega) (by omega) ?_ ?_
                      · intro h58
                        refine n_iload_n c_111_34 rfl ?_
                        exact n_rI c_111_35 rfl ⟨rfl, by omega⟩
                      · intro h59
                        exfalso; omega
                    · intro h60
                      refine n_iinc (L2 := [some (2, 3), some (2, 1), some (0, ((0 + 1) + 1)), some (0, ((((0 + 1) + 1) + 1) + 1))]) c_111_25 rfl rfl rfl (n_iinc (L2 := [some (2, 3), some (2, 1), some (0, ((0 + 1) + 1)), some (0, (((((0 + 1) + 1) + 1) + 1) + 1))]) c_111_28 rfl rfl rfl (n_goto c_111_31 (n_iload_n c_111_9 rfl (n_aload_n c_111_10 rfl (n_alen c_111_11 sc_1.n rfl ?_)))))
                      refine n_if2_ge c_111_12 (by omega) (by omega) ?_ ?_
                      · intro h61
                        refine n_iload_n c_111_34 rfl ?_
                        exact n_rI c_111_35 rfl ⟨rfl, by omega⟩
                      · intro h62
                        exfalso; omega
            · intro h63
              refine n_iinc (L2 := [some (2, 3), some (2, 1), some (0, (0 + 1)), some (0, ((0 + 1) + 1))]) c_111_25 rfl rfl rfl (n_iinc (L2 := [some (2, 3), some (2, 1), some (0, (0 + 1)), some (0, (((0 + 1) + 1) + 1))]) c_111_28 rfl rfl rfl (n_goto c_111_31 (n_iload_n c_111_9 rfl (n_aload_n c_111_10 rfl (n_alen c_111_11 sc_1.n rfl ?_)))))
              refine n_if2_ge c_111_12 (by omega) (by omega) ?_ ?_
              · intro h64
                exfalso; omega
              · intro h65
                refine n_aload_n c_111_15 rfl (n_aload_n c_111_16 rfl (n_iload_n c_111_17 rfl (n_ialoadV c_111_18 sc_1.n rfl rfl rfl (by omega) (t_1_3 hS) ?_)))
                intro z66 ez66 f67
                have hcst : (z66 : Int) = 32 := by omega
                rw [hcst]
                refine n_v1I c_111_19 rfl sc_3.n rfl rfl rfl rfl (aakp32_3  hS ) ?_
                intro z68 M69 hP70
                obtain ⟨eM, f70⟩ := hP70
                subst eM
                refine n_if0_eq c_111_22 (by omega) ?_ ?_
                · intro h71
                  refine n_iinc (L2 := [some (2, 3), some (2, 1), some (0, (0 + 1)), some (0, ((((0 + 1) + 1) + 1) + 1))]) c_111_28 rfl rfl rfl (n_goto c_111_31 (n_iload_n c_111_9 rfl (n_aload_n c_111_10 rfl (n_alen c_111_11 sc_1.n rfl ?_))))
                  refine n_if2_ge c_111_12 (by omega) (by omega) ?_ ?_
                  · intro h72
                    exfalso; omega
                  · intro h73
                    refine n_aload_n c_111_15 rfl (n_aload_n c_111_16 rfl (n_iload_n c_111_17 rfl (n_ialoadV c_111_18 sc_1.n rfl rfl rfl (by omega) (t_1_4 hS) ?_)))
                    intro z74 ez74 f75
                    have hcst : (z74 : Int) = 36 := by omega
                    rw [hcst]
                    refine n_v1I c_111_19 rfl sc_3.n rfl rfl rfl rfl (aakp36_3  hS ) ?_
                    intro z76 M77 hP78
                    obtain ⟨eM, f78⟩ := hP78
                    subst eM
                    refine n_if0_eq c_111_22 (by omega) ?_ ?_
                    · intro h79
                      refine n_iinc (L2 := [some (2, 3), some (2, 1), some (0, (0 + 1)), some (0, (((((0 + 1) + 1) + 1) + 1) + 1))]) c_111_28 rfl rfl rfl (n_goto c_111_31 (n_iload_n c_111_9 rfl (n_aload_n c_111_10 rfl (n_alen c_111_11 sc_1.n rfl ?_))))
                      refine n_if2_ge c_111_12 (by omega) (by omega) ?_ ?_
                      · intro h80
                        refine n_iload_n c_111_34 rfl ?_
                        exact n_rI c_111_35 rfl ⟨rfl, by omega⟩
                      · intro h81
                        exfalso; omega
                    · intro h82
                      refine n_iinc (L2 := [some (2, 3), some (2, 1), some (0, ((0 + 1) + 1)), some (0, ((((0 + 1) + 1) + 1) + 1))]) c_111_25 rfl rfl rfl (n_iinc (L2 := [some (2, 3), some (2, 1), some (0, ((0 + 1) + 1)), some (0, (((((0 + 1) + 1) + 1) + 1) + 1))]) c_111_28 rfl rfl rfl (n_goto c_111_31 (n_iload_n c_111_9 rfl (n_aload_n c_111_10 rfl (n_alen c_111_11 sc_1.n rfl ?_)))))
                      refine n_if2_ge c_111_12 (by omega) (by omega) ?_ ?_
                      · intro h83
                        refine n_iload_n c_111_34 rfl ?_
                        exact n_rI c_111_35 rfl ⟨rfl, by omega⟩
                      · intro h84
                        exfalso; omega
                · intro h85
                  refine n_iinc (L2 := [some (2, 3), some (2, 1), some (0, ((0 + 1) + 1)), some (0, (((0 + 1) + 1) + 1))]) c_111_25 rfl rfl rfl (n_iinc (L2 := [some (2, 3), some (2, 1), some (0, ((0 + 1) + 1)), some (0, ((((0 + 1) + 1) + 1) + 1))]) c_111_28 rfl rfl rfl (n_goto c_111_31 (n_iload_n c_111_9 rfl (n_aload_n c_111_10 rfl (n_alen c_111_11 sc_1.n rfl ?_)))))
                  refine n_if2_ge c_111_12 (by omega) (by omega) ?_ ?_
                  · intro h86
                    exfalso; omega
                  · intro h87
                    refine n_aload_n c_111_15 rfl (n_aload_n c_111_16 rfl (n_iload_n c_111_17 rfl (n_ialoadV c_111_18 sc_1.n rfl rfl rfl (by omega) (t_1_4 hS) ?_)))
                    intro z88 ez88 f89
                    have hcst : (z88 : Int) = 36 := by omega
                    rw [hcst]
                    refine n_v1I c_111_19 rfl sc_3.n rfl rfl rfl rfl (aakp36_3  hS ) ?_
                    intro z90 M91 hP92
                    obtain ⟨eM, f92⟩ := hP92
                    subst eM
                    refine n_if0_eq c_111_22 (by omega) ?_ ?_
                    · intro h93
                      refine n_iinc (L2 := [some (2, 3), some (2, 1), some (0, ((0 + 1) + 1)), some (0, (((((0 + 1) + 1) + 1) + 1) + 1))]) c_111_28 rfl rfl rfl (n_goto c_111_31 (n_iload_n c_111_9 rfl (n_aload_n c_111_10 rfl (n_alen c_111_11 sc_1.n rfl ?_))))
                      refine n_if2_ge c_111_12 (by omega) (by omega) ?_ ?_
                      · intro h94
                        refine n_iload_n c_111_34 rfl ?_
                        exact n_rI c_111_35 rfl ⟨rfl, by omega⟩
                      · intro h95
                        exfalso; omega
                    · intro h96
                      refine n_iinc (L2 := [some (2, 3), some (2, 1), some (0, (((0 + 1) + 1) + 1)), some (0, ((((0 + 1) + 1) + 1) + 1))]) c_111_25 rfl rfl rfl (n_iinc (L2 := [some (2, 3), some (2, 1), some (0, (((0 + 1) + 1) + 1)), some (0, (((((0 + 1) + 1) + 1) + 1) + 1))]) c_111_28 rfl rfl rfl (n_goto c_111_31 (n_iload_n c_111_9 rfl (n_aload_n c_111_10 rfl (n_alen c_111_11 sc_1.n rfl ?_)))))
                      refine n_if2_ge c_111_12 (by omega) (by omega) ?_ ?_
                      · intro h97
                        refine n_iload_n c_111_34 rfl ?_
                        exact n_rI c_111_35 rfl ⟨rfl, by omega⟩
                      · intro h98
                        exfalso; omega
        · intro h99
          refine n_iinc (L2 := [some (2, 3), some (2, 1), some (0, (0 + 1)), some (0, (0 + 1))]) c_111_25 rfl rfl rfl (n_iinc (L2 := [some (2, 3), some (2, 1), some (0, (0 + 1)), some (0, ((0 + 1) + 1))]) c_111_28 rfl rfl rfl (n_goto c_111_31 (n_iload_n c_111_9 rfl (n_aload_n c_111_10 rfl (n_alen c_111_11 sc_1.n rfl ?_)))))
          refine n_if2_ge c_111_12 (by omega) (by omega) ?_ ?_
          · intro h100
            exfalso; omega
          · intro h101
            refine n_aload_n c_111_15 rfl (n_aload_n c_111_16 rfl (n_iload_n c_111_17 rfl (n_ialoadV c_111_18 sc_1.n rfl rfl rfl (by omega) (t_1_2 hS) ?_)))
            intro z102 ez102 f103
            have hcst : (z102 : Int) = 20 := by omega
            rw [hcst]
            refine n_v1I c_111_19 rfl sc_3.n rfl rfl rfl rfl (aakp20_3  hS ) ?_
            intro z104 M105 hP106
            obtain ⟨eM, f106⟩ := hP106
            subst eM
            refine n_if0_eq c_111_22 (by omega) ?_ ?_
            · intro h107
              refine n_iinc (L2 := [some (2, 3), some (2, 1), some (0, (0 + 1)), some (0, (((0 + 1) + 1) + 1))]) c_111_28 rfl rfl rfl (n_goto c_111_31 (n_iload_n c_111_9 rfl (n_aload_n c_111_10 rfl (n_alen c_111_11 sc_1.n rfl ?_))))
              refine n_if2_ge c_111_12 (by omega) (by omega) ?_ ?_
              · intro h108
                exfalso; omega
              · intro h109
                refine n_aload_n c_111_15 rfl (n_aload_n c_111_16 rfl (n_iload_n c_111_17 rfl (n_ialoadV c_111_18 sc_1.n rfl rfl rfl (by omega) (t_1_3 hS) ?_)))
                intro z110 ez110 f111
                have hcst : (z110 : Int) = 32 := by omega
                rw [hcst]
                refine n_v1I c_111_19 rfl sc_3.n rfl rfl rfl rfl (aakp32_3  hS ) ?_
                intro z112 M113 hP114
                obtain ⟨eM, f114⟩ := hP114
                subst eM
                refine n_if0_eq c_111_22 (by omega) ?_ ?_
                · intro h115
                  refine n_iinc (L2 := [some (2, 3), some (2, 1), some (0, (0 + 1)), some (0, ((((0 + 1) + 1) + 1) + 1))]) c_111_28 rfl rfl rfl (n_goto c_111_31 (n_iload_n c_111_9 rfl (n_aload_n c_111_10 rfl (n_alen c_111_11 sc_1.n rfl ?_))))
                  refine n_if2_ge c_111_12 (by omega) (by omega) ?_ ?_
                  · intro h116
                    exfalso; omega
                  · intro h117
                    refine n_aload_n c_111_15 rfl (n_aload_n c_111_16 rfl (n_iload_n c_111_17 rfl (n_ialoadV c_111_18 sc_1.n rfl rfl rfl (by omega) (t_1_4 hS) ?_)))
                    intro z118 ez118 f119
                    have hcst : (z118 : Int) = 36 := by omega
                    rw [hcst]
                    refine n_v1I c_111_19 rfl sc_3.n rfl rfl rfl rfl (aakp36_3  hS ) ?_
                    intro z120 M121 hP122
                    obtain ⟨eM, f122⟩ := hP122
                    subst eM
                    refine n_if0_eq c_111_22 (by omega) ?_ ?_
                    · intro h123
                      refine n_iinc (L2 := [some (2, 3), some (2, 1), some (0, (0 + 1)), some (0, (((((0 + 1) + 1) + 1) + 1) + 1))]) c_111_28 rfl rfl rfl (n_goto c_111_31 (n_iload_n c_111_9 rfl (n_aload_n c_111_10 rfl (n_alen c_111_11 sc_1.n rfl ?_))))
                      refine n_if2_ge c_111_12 (by omega) (by omega) ?_ ?_
                      · intro h124
                        refine n_iload_n c_111_34 rfl ?_
                        exact n_rI c_111_35 rfl ⟨rfl, by omega⟩
                      · intro h125
                        exfalso; omega
                    · intro h126
                      refine n_iinc (L2 := [some (2, 3), some (2, 1), some (0, ((0 + 1) + 1)), some (0, ((((0 + 1) + 1) + 1) + 1))]) c_111_25 rfl rfl rfl (n_iinc (L2 := [some (2, 3), some (2, 1), some (0, ((0 + 1) + 1)), some (0, (((((0 + 1) + 1) + 1) + 1) + 1))]) c_111_28 rfl rfl rfl (n_goto c_111_31 (n_iload_n c_111_9 rfl (n_aload_n c_111_10 rfl (n_alen c_111_11 sc_1.n rfl ?_)))))
                      refine n_if2_ge c_111_12 (by omega) (by omega) ?_ ?_
                      · intro h127
                        refine n_iload_n c_111_34 rfl ?_
                        exact n_rI c_111_35 rfl ⟨rfl, by omega⟩
                      · intro h128
                        exfalso; omega
                · intro h129
                  refine n_iinc (L2 := [some (2, 3), some (2, 1), some (0, ((0 + 1) + 1)), some (0, (((0 + 1) + 1) + 1))]) c_111_25 rfl rfl rfl (n_iinc (L2 := [some (2, 3), some (2, 1), some (0, ((0 + 1) + 1)), some (0, ((((0 + 1) + 1) + 1) + 1))]) c_111_28 rfl rfl rfl (n_goto c_111_31 (n_iload_n c_111_9 rfl (n_aload_n c_111_10 rfl (n_alen c_111_11 sc_1.n rfl ?_)))))
                  refine n_if2_ge c_111_12 (by omega) (by omega) ?_ ?_
                  · intro h130
                    exfalso; omega
                  · intro h131
                    refine n_aload_n c_111_15 rfl (n_aload_n c_111_16 rfl (n_iload_n c_111_17 rfl (n_ialoadV c_111_18 sc_1.n rfl rfl rfl (by omega) (t_1_4 hS) ?_)))
                    intro z132 ez132 f133
                    have hcst : (z132 : Int) = 36 := by omega
                    rw [hcst]
                    refine n_v1I c_111_19 rfl sc_3.n rfl rfl rfl rfl (aakp36_3  hS ) ?_
                    intro z134 M135 hP136
                    obtain ⟨eM, f136⟩ := hP136
                    subst eM
                    refine n_if0_eq c_111_22 (by omega) ?_ ?_
                    · intro h137
                      refine n_iinc (L2 := [some (2, 3), some (2, 1), some (0, ((0 + 1) + 1)), some (0, (((((0 + 1) + 1) + 1) + 1) + 1))]) c_111_28 rfl rfl rfl (n_goto c_111_31 (n_iload_n c_111_9 rfl (n_aload_n c_111_10 rfl (n_alen c_111_11 sc_1.n rfl ?_))))
                      refine n_if2_ge c_111_12 (by omega) (by omega) ?_ ?_
                      · intro h138
                        refine n_iload_n c_111_34 rfl ?_
                        exact n_rI c_111_35 rfl ⟨rfl, by omega⟩
                      · intro h139
                        exfalso; omega
                    · intro h140
                      refine n_iinc (L2 := [some (2, 3), some (2, 1), some (0, (((0 + 1) + 1) + 1)), some (0, ((((0 + 1) + 1) + 1) + 1))]) c_111_25 rfl rfl rfl (n_iinc (L2 := [some (2, 3), some (2, 1), some (0, (((0 + 1) + 1) + 1)), some (0, (((((0 + 1) + 1) + 1) + 1) + 1))]) c_111_28 rfl rfl rfl (n_goto c_111_31 (n_iload_n c_111_9 rfl (n_aload_n c_111_10 rfl (n_alen c_111_11 sc_1.n rfl ?_)))))
                      refine n_if2_ge c_111_12 (by omega) (by omega) ?_ ?_
                      · intro h141
                        refine n_iload_n c_111_34 rfl ?_
                        exact n_rI c_111_35 rfl ⟨rfl, by omega⟩
                      · intro h142
                        exfalso; omega
            · intro h143
              refine n_iinc (L2 := [some (2, 3), some (2, 1), some (0, ((0 + 1) + 1)), some (0, ((0 + 1) + 1))]) c_111_25 rfl rfl rfl (n_iinc (L2 := [some (2, 3), some (2, 1), some (0, ((0 + 1) + 1)), some (0, (((0 + 1) + 1) + 1))]) c_111_28 rfl rfl rfl (n_goto c_111_31 (n_iload_n c_111_9 rfl (n_aload_n c_111_10 rfl (n_alen c_111_11 sc_1.n rfl ?_)))))
              refine n_if2_ge c_111_12 (by omega) (by omega) ?_ ?_
              · intro h144
                exfalso; omega
              · intro h145
                refine n_aload_n c_111_15 rfl (n_aload_n c_111_16 rfl (n_iload_n c_111_17 rfl (n_ialoadV c_111_18 sc_1.n rfl rfl rfl (by omega) (t_1_3 hS) ?_)))
                intro z146 ez146 f147
                have hcst : (z146 : Int) = 32 := by omega
                rw [hcst]
                refine n_v1I c_111_19 rfl sc_3.n rfl rfl rfl rfl (aakp32_3  hS ) ?_
                intro z148 M149 hP150
                obtain ⟨eM, f150⟩ := hP150
                subst eM
                refine n_if0_eq c_111_22 (by omega) ?_ ?_
                · intro h151
                  refine n_iinc (L2 := [some (2, 3), some (2, 1), some (0, ((0 + 1) + 1)), some (0, ((((0 + 1) + 1) + 1) + 1))]) c_111_28 rfl rfl rfl (n_goto c_111_31 (n_iload_n c_111_9 rfl (n_aload_n c_111_10 rfl (n_alen c_111_11 sc_1.n rfl ?_))))
                  refine n_if2_ge c_111_12 (by omega) (by omega) ?_ ?_
                  · intro h152
                    exfalso; omega
                  · intro h153
                    refine n_aload_n c_111_15 rfl (n_aload_n c_111_16 rfl (n_iload_n c_111_17 rfl (n_ialoadV c_111_18 sc_1.n rfl rfl rfl (by omega) (t_1_4 hS) ?_)))
                    intro z154 ez154 f155
                    have hcst : (z154 : Int) = 36 := by omega
                    rw [hcst]
                    refine n_v1I c_111_19 rfl sc_3.n rfl rfl rfl rfl (aakp36_3  hS ) ?_
                    intro z156 M157 hP158
                    obtain ⟨eM, f158⟩ := hP158
                    subst eM
                    refine n_if0_eq c_111_22 (by omega) ?_ ?_
                    · intro h159
                      refine n_iinc (L2 := [some (2, 3), some (2, 1), some (0, ((0 + 1) + 1)), some (0, (((((0 + 1) + 1) + 1) + 1) + 1))]) c_111_28 rfl rfl rfl (n_goto c_111_31 (n_iload_n c_111_9 rfl (n_aload_n c_111_10 rfl (n_alen c_111_11 sc_1.n rfl ?_))))
                      refine n_if2_ge c_111_12 (by omega) (by omega) ?_ ?_
                      · intro h160
                        refine n_iload_n c_111_34 rfl ?_
                        exact n_rI c_111_35 rfl ⟨rfl, by omega⟩
                      · intro h161
                        exfalso; omega
                    · intro h162
                      refine n_iinc (L2 := [some (2, 3), some (2, 1), some (0, (((0 + 1) + 1) + 1)), some (0, ((((0 + 1) + 1) + 1) + 1))]) c_111_25 rfl rfl rfl (n_iinc (L2 := [some (2, 3), some (2, 1), some (0, (((0 + 1) + 1) + 1)), some (0, (((((0 + 1) + 1) + 1) + 1) + 1))]) c_111_28 rfl rfl rfl (n_goto c_111_31 (n_iload_n c_111_9 rfl (n_aload_n c_111_10 rfl (n_alen c_111_11 sc_1.n rfl ?_)))))
                      refine n_if2_ge c_111_12 (by omega) (by omega) ?_ ?_
                      · intro h163
                        refine n_iload_n c_111_34 rfl ?_
                        exact n_rI c_111_35 rfl ⟨rfl, by omega⟩
                      · intro h164
                        exfalso; omega
                · intro h165
                  refine n_iinc (L2 := [some (2, 3), some (2, 1), some (0, (((0 + 1) + 1) + 1)), some (0, (((0 + 1) + 1) + 1))]) c_111_25 rfl rfl rfl (n_iinc (L2 := [some (2, 3), some (2, 1), some (0, (((0 + 1) + 1) + 1)), some (0, ((((0 + 1) + 1) + 1) + 1))]) c_111_28 rfl rfl rfl (n_goto c_111_31 (n_iload_n c_111_9 rfl (n_aload_n c_111_10 rfl (n_alen c_111_11 sc_1.n rfl ?_)))))
                  refine n_if2_ge c_111_12 (by omega) (by omega) ?_ ?_
                  · intro h166
                    exfalso; omega
                  · intro h167
                    refine n_aload_n c_111_15 rfl (n_aload_n c_111_16 rfl (n_iload_n c_111_17 rfl (n_ialoadV c_111_18 sc_1.n rfl rfl rfl (by omega) (t_1_4 hS) ?_)))
                    intro z168 ez168 f169
                    have hcst : (z168 : Int) = 36 := by omega
                    rw [hcst]
                    refine n_v1I c_111_19 rfl sc_3.n rfl rfl rfl rfl (aakp36_3  hS ) ?_
                    intro z170 M171 hP172
                    obtain ⟨eM, f172⟩ := hP172
                    subst eM
                    refine n_if0_eq c_111_22 (by omega) ?_ ?_
                    · intro h173
                      refine n_iinc (L2 := [some (2, 3), some (2, 1), some (0, (((0 + 1) + 1) + 1)), some (0, (((((0 + 1) + 1) + 1) + 1) + 1))]) c_111_28 rfl rfl rfl (n_goto c_111_31 (n_iload_n c_111_9 rfl (n_aload_n c_111_10 rfl (n_alen c_111_11 sc_1.n rfl ?_))))
                      refine n_if2_ge c_111_12 (by omega) (by omega) ?_ ?_
                      · intro h174
                        refine n_iload_n c_111_34 rfl ?_
                        exact n_rI c_111_35 rfl ⟨rfl, by omega⟩
                      · intro h175
                        exfalso; omega
                    · intro h176
                      refine n_iinc (L2 := [some (2, 3), some (2, 1), some (0, ((((0 + 1) + 1) + 1) + 1)), some (0, ((((0 + 1) + 1) + 1) + 1))]) c_111_25 rfl rfl rfl (n_iinc (L2 := [some (2, 3), some (2, 1), some (0, ((((0 + 1) + 1) + 1) + 1)), some (0, (((((0 + 1) + 1) + 1) + 1) + 1))]) c_111_28 rfl rfl rfl (n_goto c_111_31 (n_iload_n c_111_9 rfl (n_aload_n c_111_10 rfl (n_alen c_111_11 sc_1.n rfl ?_)))))
                      refine n_if2_ge c_111_12 (by omega) (by omega) ?_ ?_
                      · intro h177
                        refine n_iload_n c_111_34 rfl ?_
                        exact n_rI c_111_35 rfl ⟨rfl, by omega⟩
                      · intro h178
                        exfalso; omega
    · intro h179
      refine n_iinc (L2 := [some (2, 3), some (2, 1), some (0, (0 + 1)), some (0, 0)]) c_111_25 rfl rfl rfl (n_iinc (L2 := [some (2, 3), some (2, 1), some (0, (0 + 1)), some (0, (0 + 1))]) c_111_28 rfl rfl rfl (n_goto c_111_31 (n_iload_n c_111_9 rfl (n_aload_n c_111_10 rfl (n_alen c_111_11 sc_1.n rfl ?_)))))
      refine n_if2_ge c_111_12 (by omega) (by omega) ?_ ?_
      · intro h180
        exfalso; omega
      · intro h181
        refine n_aload_n c_111_15 rfl (n_aload_n c_111_16 rfl (n_iload_n c_111_17 rfl (n_ialoadV c_111_18 sc_1.n rfl rfl rfl (by omega) (t_1_1 hS) ?_)))
        intro z182 ez182 f183
        have hcst : (z182 : Int) = 4 := by omega
        rw [hcst]
        refine n_v1I c_111_19 rfl sc_3.n rfl rfl rfl rfl (aakp4_3  hS ) ?_
        intro z184 M185 hP186
        obtain ⟨eM, f186⟩ := hP186
        subst eM
        refine n_if0_eq c_111_22 (by omega) ?_ ?_
        · intro h187
          refine n_iinc (L2 := [some (2, 3), some (2, 1), some (0, (0 + 1)), some (0, ((0 + 1) + 1))]) c_111_28 rfl rfl rfl (n_goto c_111_31 (n_iload_n c_111_9 rfl (n_aload_n c_111_10 rfl (n_alen c_111_11 sc_1.n rfl ?_))))
          refine n_if2_ge c_111_12 (by omega) (by omega) ?_ ?_
          · intro h188
            exfalso; omega
          · intro h189
            refine n_aload_n c_111_15 rfl (n_aload_n c_111_16 rfl (n_iload_n c_111_17 rfl (n_ialoadV c_111_18 sc_1.n rfl rfl rfl (by omega) (t_1_2 hS) ?_)))
            intro z190 ez190 f191
            have hcst : (z190 : Int) = 20 := by omega
            rw [hcst]
            refine n_v1I c_111_19 rfl sc_3.n rfl rfl rfl rfl (aakp20_3  hS ) ?_
            intro z192 M193 hP194
            obtain ⟨eM, f194⟩ := hP194
            subst eM
            refine n_if0_eq c_111_22 (by omega) ?_ ?_
            · intro h195
              refine n_iinc (L2 := [some (2, 3), some (2, 1), some (0, (0 + 1)), some (0, (((0 + 1) + 1) + 1))]) c_111_28 rfl rfl rfl (n_goto c_111_31 (n_iload_n c_111_9 rfl (n_aload_n c_111_10 rfl (n_alen c_111_11 sc_1.n rfl ?_))))
              refine n_if2_ge c_111_12 (by omega) (by omega) ?_ ?_
              · intro h196
                exfalso; omega
              · intro h197
                refine n_aload_n c_111_15 rfl (n_aload_n c_111_16 rfl (n_iload_n c_111_17 rfl (n_ialoadV c_111_18 sc_1.n rfl rfl rfl (by omega) (t_1_3 hS) ?_)))
                intro z198 ez198 f199
                have hcst : (z198 : Int) = 32 := by omega
                rw [hcst]
                refine n_v1I c_111_19 rfl sc_3.n rfl rfl rfl rfl (aakp32_3  hS ) ?_
                intro z200 M201 hP202
                obtain ⟨eM, f202⟩ := hP202
                subst eM
                refine n_if0_eq c_111_22 (by omega) ?_ ?_
                · intro h203
                  refine n_iinc (L2 := [some (2, 3), some (2, 1), some (0, (0 + 1)), some (0, ((((0 + 1) + 1) + 1) + 1))]) c_111_28 rfl rfl rfl (n_goto c_111_31 (n_iload_n c_111_9 rfl (n_aload_n c_111_10 rfl (n_alen c_111_11 sc_1.n rfl ?_))))
                  refine n_if2_ge c_111_12 (by omega) (by omega) ?_ ?_
                  · intro h204
                    exfalso; omega
                  · intro h205
                    refine n_aload_n c_111_15 rfl (n_aload_n c_111_16 rfl (n_iload_n c_111_17 rfl (n_ialoadV c_111_18 sc_1.n rfl rfl rfl (by omega) (t_1_4 hS) ?_)))
                    intro z206 ez206 f207
                    have hcst : (z206 : Int) = 36 := by omega
                    rw [hcst]
                    refine n_v1I c_111_19 rfl sc_3.n rfl rfl rfl rfl (aakp36_3  hS ) ?_
                    intro z208 M209 hP210
                    obtain ⟨eM, f210⟩ := hP210
                    subst eM
                    refine n_if0_eq c_111_22 (by omega) ?_ ?_
                    · intro h211
                      refine n_iinc (L2 := [some (2, 3), some (2, 1), some (0, (0 + 1)), some (0, (((((0 + 1) + 1) + 1) + 1) + 1))]) c_111_28 rfl rfl rfl (n_goto c_111_31 (n_iload_n c_111_9 rfl (n_aload_n c_111_10 rfl (n_alen c_111_11 sc_1.n rfl ?_))))
                      refine n_if2_ge c_111_12 (by omega) (by omega) ?_ ?_
                      · intro h212
                        refine n_iload_n c_111_34 rfl ?_
                        exact n_rI c_111_35 rfl ⟨rfl, by omega⟩
                      · intro h213
                        exfalso; omega
                    · intro h214
                      refine n_iinc (L2 := [some (2, 3), some (2, 1), some (0, ((0 + 1) + 1)), some (0, ((((0 + 1) + 1) + 1) + 1))]) c_111_25 rfl rfl rfl (n_iinc (L2 := [some (2, 3), some (2, 1), some (0, ((0 + 1) + 1)), some (0, (((((0 + 1) + 1) + 1) + 1) + 1))]) c_111_28 rfl rfl rfl (n_goto c_111_31 (n_iload_n c_111_9 rfl (n_aload_n c_111_10 rfl (n_alen c_111_11 sc_1.n rfl ?_)))))
                      refine n_if2_ge c_111_12 (by omega) (by omega) ?_ ?_
                      · intro h215
                        refine n_iload_n c_111_34 rfl ?_
                        exact n_rI c_111_35 rfl ⟨rfl, by omega⟩
                      · intro h216
                        exfalso; omega
                · intro h217
                  refine n_iinc (L2 := [some (2, 3), some (2, 1), some (0, ((0 + 1) + 1)), some (0, (((0 + 1) + 1) + 1))]) c_111_25 rfl rfl rfl (n_iinc (L2 := [some (2, 3), some (2, 1), some (0, ((0 + 1) + 1)), some (0, ((((0 + 1) + 1) + 1) + 1))]) c_111_28 rfl rfl rfl (n_goto c_111_31 (n_iload_n c_111_9 rfl (n_aload_n c_111_10 rfl (n_alen c_111_11 sc_1.n rfl ?_)))))
                  refine n_if2_ge c_111_12 (by omega) (by omega) ?_ ?_
                  · intro h218
                    exfalso; omega
                  · intro h219
                    refine n_aload_n c_111_15 rfl (n_aload_n c_111_16 rfl (n_iload_n c_111_17 rfl (n_ialoadV c_111_18 sc_1.n rfl rfl rfl (by omega) (t_1_4 hS) ?_)))
                    intro z220 ez220 f221
                    have hcst : (z220 : Int) = 36 := by omega
                    rw [hcst]
                    refine n_v1I c_111_19 rfl sc_3.n rfl rfl rfl rfl (aakp36_3  hS ) ?_
                    intro z222 M223 hP224
                    obtain ⟨eM, f224⟩ := hP224
                    subst eM
                    refine n_if0_eq c_111_22 (by omega) ?_ ?_
                    · intro h225
                      refine n_iinc (L2 := [some (2, 3), some (2, 1), some (0, ((0 + 1) + 1)), some (0, (((((0 + 1) + 1) + 1) + 1) + 1))]) c_111_28 rfl rfl rfl (n_goto c_111_31 (n_iload_n c_111_9 rfl (n_aload_n c_111_10 rfl (n_alen c_111_11 sc_1.n rfl ?_))))
                      refine n_if2_ge c_111_12 (by omega) (by omega) ?_ ?_
                      · intro h226
                        refine n_iload_n c_111_34 rfl ?_
                        exact n_rI c_111_35 rfl ⟨rfl, by omega⟩
                      · intro h227
                        exfalso; omega
                    · intro h228
                      refine n_iinc (L2 := [some (2, 3), some (2, 1), some (0, (((0 + 1) + 1) + 1)), some (0, ((((0 + 1) + 1) + 1) + 1))]) c_111_25 rfl rfl rfl (n_iinc (L2 := [some (2, 3), some (2, 1), some (0, (((0 + 1) + 1) + 1)), some (0, (((((0 + 1) + 1) + 1) + 1) + 1))]) c_111_28 rfl rfl rfl (n_goto c_111_31 (n_iload_n c_111_9 rfl (n_aload_n c_111_10 rfl (n_alen c_111_11 sc_1.n rfl ?_)))))
                      refine n_if2_ge c_111_12 (by omega) (by omega) ?_ ?_
                      · intro h229
                        refine n_iload_n c_111_34 rfl ?_
                        exact n_rI c_111_35 rfl ⟨rfl, by omega⟩
                      · intro h230
                        exfalso; omega
            · intro h231
              refine n_iinc (L2 := [some (2, 3), some (2, 1), some (0, ((0 + 1) + 1)), some (0, ((0 + 1) + 1))]) c_111_25 rfl rfl rfl (n_iinc (L2 := [some (2, 3), some (2, 1), some (0, ((0 + 1) + 1)), some (0, (((0 + 1) + 1) + 1))]) c_111_28 rfl rfl rfl (n_goto c_111_31 (n_iload_n c_111_9 rfl (n_aload_n c_111_10 rfl (n_alen c_111_11 sc_1.n rfl ?_)))))
              refine n_if2_ge c_111_12 (by omega) (by omega) ?_ ?_
              · intro h232
                exfalso; omega
              · intro h233
                refine n_aload_n c_111_15 rfl (n_aload_n c_111_16 rfl (n_iload_n c_111_17 rfl (n_ialoadV c_111_18 sc_1.n rfl rfl rfl (by omega) (t_1_3 hS) ?_)))
                intro z234 ez234 f235
                have hcst : (z234 : Int) = 32 := by omega
                rw [hcst]
                refine n_v1I c_111_19 rfl sc_3.n rfl rfl rfl rfl (aakp32_3  hS ) ?_
                intro z236 M237 hP238
                obtain ⟨eM, f238⟩ := hP238
                subst eM
                refine n_if0_eq c_111_22 (by omega) ?_ ?_
                · intro h239
                  refine n_iinc (L2 := [some (2, 3), some (2, 1), some (0, ((0 + 1) + 1)), some (0, ((((0 + 1) + 1) + 1) + 1))]) c_111_28 rfl rfl rfl (n_goto c_111_31 (n_iload_n c_111_9 rfl (n_aload_n c_111_10 rfl (n_alen c_111_11 sc_1.n rfl ?_))))
                  refine n_if2_ge c_111_12 (by omega) (by omega) ?_ ?_
                  · intro h240
                    exfalso; omega
                  · intro h241
                    refine n_aload_n c_111_15 rfl (n_aload_n c_111_16 rfl (n_iload_n c_111_17 rfl (n_ialoadV c_111_18 sc_1.n rfl rfl rfl (by omega) (t_1_4 hS) ?_)))
                    intro z242 ez242 f243
                    have hcst : (z242 : Int) = 36 := by omega
                    rw [hcst]
                    refine n_v1I c_111_19 rfl sc_3.n rfl rfl rfl rfl (aakp36_3  hS ) ?_
                    intro z244 M245 hP246
                    obtain ⟨eM, f246⟩ := hP246
                    subst eM
                    refine n_if0_eq c_111_22 (by omega) ?_ ?_
                    · intro h247
                      refine n_iinc (L2 := [some (2, 3), some (2, 1), some (0, ((0 + 1) + 1)), some (0, (((((0 + 1) + 1) + 1) + 1) + 1))]) c_111_28 rfl rfl rfl (n_goto c_111_31 (n_iload_n c_111_9 rfl (n_aload_n c_111_10 rfl (n_alen c_111_11 sc_1.n rfl ?_))))
                      refine n_if2_ge c_111_12 (by omega) (by omega) ?_ ?_
                      · intro h248
                        refine n_iload_n c_111_34 rfl ?_
                        exact n_rI c_111_35 rfl ⟨rfl, by omega⟩
                      · intro h249
                        exfalso; omega
                    · intro h250
                      refine n_iinc (L2 := [some (2, 3), some (2, 1), some (0, (((0 + 1) + 1) + 1)), some (0, ((((0 + 1) + 1) + 1) + 1))]) c_111_25 rfl rfl rfl (n_iinc (L2 := [some (2, 3), some (2, 1), some (0, (((0 + 1) + 1) + 1)), some (0, (((((0 + 1) + 1) + 1) + 1) + 1))]) c_111_28 rfl rfl rfl (n_goto c_111_31 (n_iload_n c_111_9 rfl (n_aload_n c_111_10 rfl (n_alen c_111_11 sc_1.n rfl ?_)))))
                      refine n_if2_ge c_111_12 (by omega) (by omega) ?_ ?_
                      · intro h251
                        refine n_iload_n c_111_34 rfl ?_
                        exact n_rI c_111_35 rfl ⟨rfl, by omega⟩
                      · intro h252
                        exfalso; omega
                · intro h253
                  refine n_iinc (L2 := [some (2, 3), some (2, 1), some (0, (((0 + 1) + 1) + 1)), some (0, (((0 + 1) + 1) + 1))]) c_111_25 rfl rfl rfl (n_iinc (L2 := [some (2, 3), some (2, 1), some (0, (((0 + 1) + 1) + 1)), some (0, ((((0 + 1) + 1) + 1) + 1))]) c_111_28 rfl rfl rfl (n_goto c_111_31 (n_iload_n c_111_9 rfl (n_aload_n c_111_10 rfl (n_alen c_111_11 sc_1.n rfl ?_)))))
                  refine n_if2_ge c_111_12 (by omega) (by omega) ?_ ?_
                  · intro h254
                    exfalso; omega
                  · intro h255
                    refine n_aload_n c_111_15 rfl (n_aload_n c_111_16 rfl (n_iload_n c_111_17 rfl (n_ialoadV c_111_18 sc_1.n rfl rfl rfl (by omega) (t_1_4 hS) ?_)))
                    intro z256 ez256 f257
                    have hcst : (z256 : Int) = 36 := by omega
                    rw [hcst]
                    refine n_v1I c_111_19 rfl sc_3.n rfl rfl rfl rfl (aakp36_3  hS ) ?_
                    intro z258 M259 hP260
                    obtain ⟨eM, f260⟩ := hP260
                    subst eM
                    refine n_if0_eq c_111_22 (by omega) ?_ ?_
                    · intro h261
                      refine n_iinc (L2 := [some (2, 3), some (2, 1), some (0, (((0 + 1) + 1) + 1)), some (0, (((((0 + 1) + 1) + 1) + 1) + 1))]) c_111_28 rfl rfl rfl (n_goto c_111_31 (n_iload_n c_111_9 rfl (n_aload_n c_111_10 rfl (n_alen c_111_11 sc_1.n rfl ?_))))
                      refine n_if2_ge c_111_12 (by omega) (by omega) ?_ ?_
                      · intro h262
                        refine n_iload_n c_111_34 rfl ?_
                        exact n_rI c_111_35 rfl ⟨rfl, by omega⟩
                      · intro h263
                        exfalso; omega
                    · intro h264
                      refine n_iinc (L2 := [some (2, 3), some (2, 1), some (0, ((((0 + 1) + 1) + 1) + 1)), some (0, ((((0 + 1) + 1) + 1) + 1))]) c_111_25 rfl rfl rfl (n_iinc (L2 := [some (2, 3), some (2, 1), some (0, ((((0 + 1) + 1) + 1) + 1)), some (0, (((((0 + 1) + 1) + 1) + 1) + 1))]) c_111_28 rfl rfl rfl (n_goto c_111_31 (n_iload_n c_111_9 rfl (n_aload_n c_111_10 rfl (n_alen c_111_11 sc_1.n rfl ?_)))))
                      refine n_if2_ge c_111_12 (by omega) (by omega) ?_ ?_
                      · intro h265
                        refine n_iload_n c_111_34 rfl ?_
                        exact n_rI c_111_35 rfl ⟨rfl, by omega⟩
                      · intro h266
                        exfalso; omega
        · intro h267
          refine n_iinc (L2 := [some (2, 3), some (2, 1), some (0, ((0 + 1) + 1)), some (0, (0 + 1))]) c_111_25 rfl rfl rfl (n_iinc (L2 := [some (2, 3), some (2, 1), some (0, ((0 + 1) + 1)), some (0, ((0 + 1) + 1))]) c_111_28 rfl rfl rfl (n_goto c_111_31 (n_iload_n c_111_9 rfl (n_aload_n c_111_10 rfl (n_alen c_111_11 sc_1.n rfl ?_)))))
          refine n_if2_ge c_111_12 (by omega) (by omega) ?_ ?_
          · intro h268
            exfalso; omega
          · intro h269
            refine n_aload_n c_111_15 rfl (n_aload_n c_111_16 rfl (n_iload_n c_111_17 rfl (n_ialoadV c_111_18 sc_1.n rfl rfl rfl (by omega) (t_1_2 hS) ?_)))
            intro z270 ez270 f271
            have hcst : (z270 : Int) = 20 := by omega
            rw [hcst]
            refine n_v1I c_111_19 rfl sc_3.n rfl rfl rfl rfl (aakp20_3  hS ) ?_
            intro z272 M273 hP274
            obtain ⟨eM, f274⟩ := hP274
            subst eM
            refine n_if0_eq c_111_22 (by omega) ?_ ?_
            · intro h275
              refine n_iinc (L2 := [some (2, 3), some (2, 1), some (0, ((0 + 1) + 1)), some (0, (((0 + 1) + 1) + 1))]) c_111_28 rfl rfl rfl (n_goto c_111_31 (n_iload_n c_111_9 rfl (n_aload_n c_111_10 rfl (n_alen c_111_11 sc_1.n rfl ?_))))
              refine n_if2_ge c_111_12 (by omega) (by omega) ?_ ?_
              · intro h276
                exfalso; omega
              · intro h277
                refine n_aload_n c_111_15 rfl (n_aload_n c_111_16 rfl (n_iload_n c_111_17 rfl (n_ialoadV c_111_18 sc_1.n rfl rfl rfl (by omega) (t_1_3 hS) ?_)))
                intro z278 ez278 f279
                have hcst : (z278 : Int) = 32 := by omega
                rw [hcst]
                refine n_v1I c_111_19 rfl sc_3.n rfl rfl rfl rfl (aakp32_3  hS ) ?_
                intro z280 M281 hP282
                obtain ⟨eM, f282⟩ := hP282
                subst eM
                refine n_if0_eq c_111_22 (by omega) ?_ ?_
                · intro h283
                  refine n_iinc (L2 := [some (2, 3), some (2, 1), some (0, ((0 + 1) + 1)), some (0, ((((0 + 1) + 1) + 1) + 1))]) c_111_28 rfl rfl rfl (n_goto c_111_31 (n_iload_n c_111_9 rfl (n_aload_n c_111_10 rfl (n_alen c_111_11 sc_1.n rfl ?_))))
                  refine n_if2_ge c_111_12 (by omega) (by omega) ?_ ?_
                  · intro h284
                    exfalso; omega
                  · intro h285
                    refine n_aload_n c_111_15 rfl (n_aload_n c_111_16 rfl (n_iload_n c_111_17 rfl (n_ialoadV c_111_18 sc_1.n rfl rfl rfl (by omega) (t_1_4 hS) ?_)))
                    intro z286 ez286 f287
                    have hcst : (z286 : Int) = 36 := by omega
                    rw [hcst]
                    refine n_v1I c_111_19 rfl sc_3.n rfl rfl rfl rfl (aakp36_3  hS ) ?_
                    intro z288 M289 hP290
                    obtain ⟨eM, f290⟩ := hP290
                    subst eM
                    refine n_if0_eq c_111_22 (by omega) ?_ ?_
                    · intro h291
                      refine n_iinc (L2 := [some (2, 3), some (2, 1), some (0, ((0 + 1) + 1)), some (0, (((((0 + 1) + 1) + 1) + 1) + 1))]) c_111_28 rfl rfl rfl (n_goto c_111_31 (n_iload_n c_111_9 rfl (n_aload_n c_111_10 rfl (n_alen c_111_11 sc_1.n rfl ?_))))
                      refine n_if2_ge c_111_12 (by omega) (by omega) ?_ ?_
                      · intro h292
                        refine n_iload_n c_111_34 rfl ?_
                        exact n_rI c_111_35 rfl ⟨rfl, by omega⟩
                      · intro h293
                        exfalso; omega
                    · intro h294
                      refine n_iinc (L2 := [some (2, 3), some (2, 1), some (0, (((0 + 1) + 1) + 1)), some (0, ((((0 + 1) + 1) + 1) + 1))]) c_111_25 rfl rfl rfl (n_iinc (L2 := [some (2, 3), some (2, 1), some (0, (((0 + 1) + 1) + 1)), some (0, (((((0 + 1) + 1) + 1) + 1) + 1))]) c_111_28 rfl rfl rfl (n_goto c_111_31 (n_iload_n c_111_9 rfl (n_aload_n c_111_10 rfl (n_alen c_111_11 sc_1.n rfl ?_)))))
                      refine n_if2_ge c_111_12 (by omega) (by omega) ?_ ?_
                      · intro h295
                        refine n_iload_n c_111_34 rfl ?_
                        exact n_rI c_111_35 rfl ⟨rfl, by omega⟩
                      · intro h296
                        exfalso; omega
                · intro h297
                  refine n_iinc (L2 := [some (2, 3), some (2, 1), some (0, (((0 + 1) + 1) + 1)), some (0, (((0 + 1) + 1) + 1))]) c_111_25 rfl rfl rfl (n_iinc (L2 := [some (2, 3), some (2, 1), some (0, (((0 + 1) + 1) + 1)), some (0, ((((0 + 1) + 1) + 1) + 1))]) c_111_28 rfl rfl rfl (n_goto c_111_31 (n_iload_n c_111_9 rfl (n_aload_n c_111_10 rfl (n_alen c_111_11 sc_1.n rfl ?_)))))
                  refine n_if2_ge c_111_12 (by omega) (by omega) ?_ ?_
                  · intro h298
                    exfalso; omega
                  · intro h299
                    refine n_aload_n c_111_15 rfl (n_aload_n c_111_16 rfl (n_iload_n c_111_17 rfl (n_ialoadV c_111_18 sc_1.n rfl rfl rfl (by omega) (t_1_4 hS) ?_)))
                    intro z300 ez300 f301
                    have hcst : (z300 : Int) = 36 := by omega
                    rw [hcst]
                    refine n_v1I c_111_19 rfl sc_3.n rfl rfl rfl rfl (aakp36_3  hS ) ?_
                    intro z302 M303 hP304
                    obtain ⟨eM, f304⟩ := hP304
                    subst eM
                    refine n_if0_eq c_111_22 (by omega) ?_ ?_
                    · intro h305
                      refine n_iinc (L2 := [some (2, 3), some (2, 1), some (0, (((0 + 1) + 1) + 1)), some (0, (((((0 + 1) + 1) + 1) + 1) + 1))]) c_111_28 rfl rfl rfl (n_goto c_111_31 (n_iload_n c_111_9 rfl (n_aload_n c_111_10 rfl (n_alen c_111_11 sc_1.n rfl ?_))))
                      refine n_if2_ge c_111_12 (by omega) (by omega) ?_ ?_
                      · intro h306
                        refine n_iload_n c_111_34 rfl ?_
                        exact n_rI c_111_35 rfl ⟨rfl, by omega⟩
                      · intro h307
                        exfalso; omega
                    · intro h308
                      refine n_iinc (L2 := [some (2, 3), some (2, 1), some (0, ((((0 + 1) + 1) + 1) + 1)), some (0, ((((0 + 1) + 1) + 1) + 1))]) c_111_25 rfl rfl rfl (n_iinc (L2 := [some (2, 3), some (2, 1), some (0, ((((0 + 1) + 1) + 1) + 1)), some (0, (((((0 + 1) + 1) + 1) + 1) + 1))]) c_111_28 rfl rfl rfl (n_goto c_111_31 (n_iload_n c_111_9 rfl (n_aload_n c_111_10 rfl (n_alen c_111_11 sc_1.n rfl ?_)))))
                      refine n_if2_ge c_111_12 (by omega) (by omega) ?_ ?_
                      · intro h309
                        refine n_iload_n c_111_34 rfl ?_
                        exact n_rI c_111_35 rfl ⟨rfl, by omega⟩
                      · intro h310
                        exfalso; omega
            · intro h311
              refine n_iinc (L2 := [some (2, 3), some (2, 1), some (0, (((0 + 1) + 1) + 1)), some (0, ((0 + 1) + 1))]) c_111_25 rfl rfl rfl (n_iinc (L2 := [some (2, 3), some (2, 1), some (0, (((0 + 1) + 1) + 1)), some (0, (((0 + 1) + 1) + 1))]) c_111_28 rfl rfl rfl (n_goto c_111_31 (n_iload_n c_111_9 rfl (n_aload_n c_111_10 rfl (n_alen c_111_11 sc_1.n rfl ?_)))))
              refine n_if2_ge c_111_12 (by omega) (by omega) ?_ ?_
              · intro h312
                exfalso; omega
              · intro h313
                refine n_aload_n c_111_15 rfl (n_aload_n c_111_16 rfl (n_iload_n c_111_17 rfl (n_ialoadV c_111_18 sc_1.n rfl rfl rfl (by omega) (t_1_3 hS) ?_)))
                intro z314 ez314 f315
                have hcst : (z314 : Int) = 32 := by omega
                rw [hcst]
                refine n_v1I c_111_19 rfl sc_3.n rfl rfl rfl rfl (aakp32_3  hS ) ?_
                intro z316 M317 hP318
                obtain ⟨eM, f318⟩ := hP318
                subst eM
                refine n_if0_eq c_111_22 (by omega) ?_ ?_
                · intro h319
                  refine n_iinc (L2 := [some (2, 3), some (2, 1), some (0, (((0 + 1) + 1) + 1)), some (0, ((((0 + 1) + 1) + 1) + 1))]) c_111_28 rfl rfl rfl (n_goto c_111_31 (n_iload_n c_111_9 rfl (n_aload_n c_111_10 rfl (n_alen c_111_11 sc_1.n rfl ?_))))
                  refine n_if2_ge c_111_12 (by omega) (by omega) ?_ ?_
                  · intro h320
                    exfalso; omega
                  · intro h321
                    refine n_aload_n c_111_15 rfl (n_aload_n c_111_16 rfl (n_iload_n c_111_17 rfl (n_ialoadV c_111_18 sc_1.n rfl rfl rfl (by omega) (t_1_4 hS) ?_)))
                    intro z322 ez322 f323
                    have hcst : (z322 : Int) = 36 := by omega
                    rw [hcst]
                    refine n_v1I c_111_19 rfl sc_3.n rfl rfl rfl rfl (aakp36_3  hS ) ?_
                    intro z324 M325 hP326
                    obtain ⟨eM, f326⟩ := hP326
                    subst eM
                    refine n_if0_eq c_111_22 (by omega) ?_ ?_
                    · intro h327
                      refine n_iinc (L2 := [some (2, 3), some (2, 1), some (0, (((0 + 1) + 1) + 1)), some (0, (((((0 + 1) + 1) + 1) + 1) + 1))]) c_111_28 rfl rfl rfl (n_goto c_111_31 (n_iload_n c_111_9 rfl (n_aload_n c_111_10 rfl (n_alen c_111_11 sc_1.n rfl ?_))))
                      refine n_if2_ge c_111_12 (by omega) (by omega) ?_ ?_
                      · intro h328
                        refine n_iload_n c_111_34 rfl ?_
                        exact n_rI c_111_35 rfl ⟨rfl, by omega⟩
                      · intro h329
                        exfalso; omega
                    · intro h330
                      refine n_iinc (L2 := [some (2, 3), some (2, 1), some (0, ((((0 + 1) + 1) + 1) + 1)), some (0, ((((0 + 1) + 1) + 1) + 1))]) c_111_25 rfl rfl rfl (n_iinc (L2 := [some (2, 3), some (2, 1), some (0, ((((0 + 1) + 1) + 1) + 1)), some (0, (((((0 + 1) + 1) + 1) + 1) + 1))]) c_111_28 rfl rfl rfl (n_goto c_111_31 (n_iload_n c_111_9 rfl (n_aload_n c_111_10 rfl (n_alen c_111_11 sc_1.n rfl ?_)))))
                      refine n_if2_ge c_111_12 (by omega) (by omega) ?_ ?_
                      · intro h331
                        refine n_iload_n c_111_34 rfl ?_
                        exact n_rI c_111_35 rfl ⟨rfl, by omega⟩
                      · intro h332
                        exfalso; omega
                · intro h333
                  refine n_iinc (L2 := [some (2, 3), some (2, 1), some (0, ((((0 + 1) + 1) + 1) + 1)), some (0, (((0 + 1) + 1) + 1))]) c_111_25 rfl rfl rfl (n_iinc (L2 := [some (2, 3), some (2, 1), some (0, ((((0 + 1) + 1) + 1) + 1)), some (0, ((((0 + 1) + 1) + 1) + 1))]) c_111_28 rfl rfl rfl (n_goto c_111_31 (n_iload_n c_111_9 rfl (n_aload_n c_111_10 rfl (n_alen c_111_11 sc_1.n rfl ?_)))))
                  refine n_if2_ge c_111_12 (by omega) (by omega) ?_ ?_
                  · intro h334
                    exfalso; omega
                  · intro h335
                    refine n_aload_n c_111_15 rfl (n_aload_n c_111_16 rfl (n_iload_n c_111_17 rfl (n_ialoadV c_111_18 sc_1.n rfl rfl rfl (by omega) (t_1_4 hS) ?_)))
                    intro z336 ez336 f337
                    have hcst : (z336 : Int) = 36 := by omega
                    rw [hcst]
                    refine n_v1I c_111_19 rfl sc_3.n rfl rfl rfl rfl (aakp36_3  hS ) ?_
                    intro z338 M339 hP340
                    obtain ⟨eM, f340⟩ := hP340
                    subst eM
                    refine n_if0_eq c_111_22 (by omega) ?_ ?_
                    · intro h341
                      refine n_iinc (L2 := [some (2, 3), some (2, 1), some (0, ((((0 + 1) + 1) + 1) + 1)), some (0, (((((0 + 1) + 1) + 1) + 1) + 1))]) c_111_28 rfl rfl rfl (n_goto c_111_31 (n_iload_n c_111_9 rfl (n_aload_n c_111_10 rfl (n_alen c_111_11 sc_1.n rfl ?_))))
                      refine n_if2_ge c_111_12 (by omega) (by omega) ?_ ?_
                      · intro h342
                        refine n_iload_n c_111_34 rfl ?_
                        exact n_rI c_111_35 rfl ⟨rfl, by omega⟩
                      · intro h343
                        exfalso; omega
                    · intro h344
                      refine n_iinc (L2 := [some (2, 3), some (2, 1), some (0, (((((0 + 1) + 1) + 1) + 1) + 1)), some (0, ((((0 + 1) + 1) + 1) + 1))]) c_111_25 rfl rfl rfl (n_iinc (L2 := [some (2, 3), some (2, 1), some (0, (((((0 + 1) + 1) + 1) + 1) + 1)), some (0, (((((0 + 1) + 1) + 1) + 1) + 1))]) c_111_28 rfl rfl rfl (n_goto c_111_31 (n_iload_n c_111_9 rfl (n_aload_n c_111_10 rfl (n_alen c_111_11 sc_1.n rfl ?_)))))
                      refine n_if2_ge c_111_12 (by omega) (by omega) ?_ ?_
                      · intro h345
                        refine n_iload_n c_111_34 rfl ?_
                        exact n_rI c_111_35 rfl ⟨rfl, by omega⟩
                      · intro h346
                        exfalso; omega

set_option maxHeartbeats 4000000 in
theorem pairing_3 {xs : List Int32} {e : Nat} {ac : Int} {M0 M : nM} {i : Int} (hS : Sf 3 ac M0 M) (hi : -2147483648 ≤ i ∧ i ≤ 2147483647) : nW xs (e + 3) 112 0 [some (2, 3), some (0, i), none, none, none] [] M (nPI fun z M1 => M = M1 ∧ (-2147483648 ≤ z ∧ z ≤ 2147483647)) := by
  have hd : (3 : Int) = 2 ∨ (3 : Int) = 3 := by decide
  have hac := hS.2.2.2.2
  refine n_aload_n c_112_0 rfl (n_v0A c_112_1 rfl sc_3.n rfl rfl rfl rfl (partings_3  hS ) ?_)
  intro z1 M2 hP3
  obtain ⟨eM, f3⟩ := hP3
  subst eM
  obtain rfl : z1 = 1 := f3
  refine n_astore_n (L2 := [some (2, 3), some (0, i), some (2, 1), none, none]) c_112_4 rfl rfl (n_iconst c_112_5 (n_istore_n (L2 := [some (2, 3), some (0, i), some (2, 1), some (0, 0), none]) c_112_6 rfl rfl (n_iconst c_112_7 (n_istore (L2 := [some (2, 3), some (0, i), some (2, 1), some (0, 0), some (0, 0)]) c_112_8 rfl rfl (n_iload c_112_10 rfl (n_aload_n c_112_12 rfl (n_alen c_112_13 sc_1.n rfl ?_)))))))
  refine n_if2_ge c_112_14 (by omega) (by omega) ?_ ?_
  · intro h4
    exfalso; omega
  · intro h5
    refine n_aload_n c_112_17 rfl (n_aload_n c_112_18 rfl (n_iload c_112_19 rfl (n_ialoadV c_112_21 sc_1.n rfl rfl rfl (by omega) (t_1_0 hS) ?_)))
    intro z6 ez6 f7
    have hcst : (z6 : Int) = 0 := by omega
    rw [hcst]
    refine n_v1I c_112_22 rfl sc_3.n rfl rfl rfl rfl (aakp0_3  hS ) ?_
    intro z8 M9 hP10
    obtain ⟨eM, f10⟩ := hP10
    subst eM
    refine n_if0_eq c_112_25 (by omega) ?_ ?_
    · intro h11
      refine n_iinc (L2 := [some (2, 3), some (0, i), some (2, 1), some (0, 0), some (0, (0 + 1))]) c_112_41 rfl rfl rfl (n_goto c_112_44 (n_iload c_112_10 rfl (n_aload_n c_112_12 rfl (n_alen c_112_13 sc_1.n rfl ?_))))
      refine n_if2_ge c_112_14 (by omega) (by omega) ?_ ?_
      · intro h12
        exfalso; omega
      · intro h13
        refine n_aload_n c_112_17 rfl (n_aload_n c_112_18 rfl (n_iload c_112_19 rfl (n_ialoadV c_112_21 sc_1.n rfl rfl rfl (by omega) (t_1_1 hS) ?_)))
        intro z14 ez14 f15
        have hcst : (z14 : Int) = 4 := by omega
        rw [hcst]
        refine n_v1I c_112_22 rfl sc_3.n rfl rfl rfl rfl (aakp4_3  hS ) ?_
        intro z16 M17 hP18
        obtain ⟨eM, f18⟩ := hP18
        subst eM
        refine n_if0_eq c_112_25 (by omega) ?_ ?_
        · intro h19
          refine n_iinc (L2 := [some (2, 3), some (0, i), some (2, 1), some (0, 0), some (0, ((0 + 1) + 1))]) c_112_41 rfl rfl rfl (n_goto c_112_44 (n_iload c_112_10 rfl (n_aload_n c_112_12 rfl (n_alen c_112_13 sc_1.n rfl ?_))))
          refine n_if2_ge c_112_14 (by omega) (by omega) ?_ ?_
          · intro h20
            exfalso; omega
          · intro h21
            refine n_aload_n c_112_17 rfl (n_aload_n c_112_18 rfl (n_iload c_112_19 rfl (n_ialoadV c_112_21 sc_1.n rfl rfl rfl (by omega) (t_1_2 hS) ?_)))
            intro z22 ez22 f23
            have hcst : (z22 : Int) = 20 := by omega
            rw [hcst]
            refine n_v1I c_112_22 rfl sc_3.n rfl rfl rfl rfl (aakp20_3  hS ) ?_
            intro z24 M25 hP26
            obtain ⟨eM, f26⟩ := hP26
            subst eM
            refine n_if0_eq c_112_25 (by omega) ?_ ?_
            · intro h27
              refine n_iinc (L2 := [some (2, 3), some (0, i), some (2, 1), some (0, 0), some (0, (((0 + 1) + 1) + 1))]) c_112_41 rfl rfl rfl (n_goto c_112_44 (n_iload c_112_10 rfl (n_aload_n c_112_12 rfl (n_alen c_112_13 sc_1.n rfl ?_))))
              refine n_if2_ge c_112_14 (by omega) (by omega) ?_ ?_
              · intro h28
                exfalso; omega
              · intro h29
                refine n_aload_n c_112_17 rfl (n_aload_n c_112_18 rfl (n_iload c_112_19 rfl (n_ialoadV c_112_21 sc_1.n rfl rfl rfl (by omega) (t_1_3 hS) ?_)))
                intro z30 ez30 f31
                have hcst : (z30 : Int) = 32 := by omega
                rw [hcst]
                refine n_v1I c_112_22 rfl sc_3.n rfl rfl rfl rfl (aakp32_3  hS ) ?_
                intro z32 M33 hP34
                obtain ⟨eM, f34⟩ := hP34
                subst eM
                refine n_if0_eq c_112_25 (by omega) ?_ ?_
                · intro h35
                  refine n_iinc (L2 := [some (2, 3), some (0, i), some (2, 1), some (0, 0), some (0, ((((0 + 1) + 1) + 1) + 1))]) c_112_41 rfl rfl rfl (n_goto c_112_44 (n_iload c_112_10 rfl (n_aload_n c_112_12 rfl (n_alen c_112_13 sc_1.n rfl ?_))))
                  refine n_if2_ge c_112_14 (by omega) (by omega) ?_ ?_
                  · intro h36
                    exfalso; omega
                  · intro h37
                    refine n_aload_n c_112_17 rfl (n_aload_n c_112_18 rfl (n_iload c_112_19 rfl (n_ialoadV c_112_21 sc_1.n rfl rfl rfl (by omega) (t_1_4 hS) ?_)))
                    intro z38 ez38 f39
                    have hcst : (z38 : Int) = 36 := by omega
                    rw [hcst]
                    refine n_v1I c_112_22 rfl sc_3.n rfl rfl rfl rfl (aakp36_3  hS ) ?_
                    intro z40 M41 hP42
                    obtain ⟨eM, f42⟩ := hP42
                    subst eM
                    refine n_if0_eq c_112_25 (by omega) ?_ ?_
                    · intro h43
                      refine n_iinc (L2 := [some (2, 3), some (0, i), some (2, 1), some (0, 0), some (0, (((((0 + 1) + 1) + 1) + 1) + 1))]) c_112_41 rfl rfl rfl (n_goto c_112_44 (n_iload c_112_10 rfl (n_aload_n c_112_12 rfl (n_alen c_112_13 sc_1.n rfl ?_))))
                      refine n_if2_ge c_112_14 (by omega) (by omega) ?_ ?_
                      · intro h44
                        refine n_iconst c_112_47 ?_
                        exact n_rI c_112_48 rfl ⟨rfl, by omega⟩
                      · intro h45
                        exfalso; omega
                    · intro h46
                      refine n_iload_n c_112_28 rfl (n_iload_n c_112_29 rfl ?_)
                      refine n_if2_ne c_112_30 (by omega) (by omega) ?_ ?_
                      · intro h47
                        refine n_iinc (L2 := [some (2, 3), some (0, i), some (2, 1), some (0, (0 + 1)), some (0, ((((0 + 1) + 1) + 1) + 1))]) c_112_38 rfl rfl rfl (n_iinc (L2 := [some (2, 3), some (0, i), some (2, 1), some (0, (0 + 1)), some (0, (((((0 + 1) + 1) + 1) + 1) + 1))]) c_112_41 rfl rfl rfl (n_goto c_112_44 (n_iload c_112_10 rfl (n_aload_n c_112_12 rfl (n_alen c_112_13 sc_1.n rfl ?_)))))
                        refine n_if2_ge c_112_14 (by omega) (by omega) ?_ ?_
                        · intro h48
                          refine n_iconst c_112_47 ?_
                          exact n_rI c_112_48 rfl ⟨rfl, by omega⟩
                        · intro h49
                          exfalso; omega
                      · intro h50
                        refine n_aload_n c_112_33 rfl (n_iload c_112_34 rfl (n_ialoadV c_112_36 sc_1.n rfl rfl rfl (by omega) (t_1_4 hS) ?_))
                        intro z51 ez51 f52
                        exact n_rI c_112_37 rfl ⟨rfl, by omega⟩
                · intro h53
                  refine n_iload_n c_112_28 rfl (n_iload_n c_112_29 rfl ?_)
                  refine n_if2_ne c_112_30 (by omega) (by omega) ?_ ?_
                  · intro h54
                    refine n_iinc (L2 := [some (2, 3), some (0, i), some (2, 1), some (0, (0 + 1)), some (0, (((0 + 1) + 1) + 1))]) c_112_38 rfl rfl rfl (n_iinc (L2 := [some (2, 3), some (0, i), some (2, 1), some (0, (0 + 1)), some (0, ((((0 + 1) + 1) + 1) + 1))]) c_112_41 rfl rfl rfl (n_goto c_112_44 (n_iload c_112_10 rfl (n_aload_n c_112_12 rfl (n_alen c_112_13 sc_1.n rfl ?_)))))
                    refine n_if2_ge c_112_14 (by omega) (by omega) ?_ ?_
                    · intro h55
                      exfalso; omega
                    · intro h56
                      refine n_aload_n c_112_17 rfl (n_aload_n c_112_18 rfl (n_iload c_112_19 rfl (n_ialoadV c_112_21 sc_1.n rfl rfl rfl (by omega) (t_1_4 hS) ?_)))
                      intro z57 ez57 f58
                      have hcst : (z57 : Int) = 36 := by omega
                      rw [hcst]
                      refine n_v1I c_112_22 rfl sc_3.n rfl rfl rfl rfl (aakp36_3  hS ) ?_
                      intro z59 M60 hP61
                      obtain ⟨eM, f61⟩ := hP61
                      subst eM
                      refine n_if0_eq c_112_25 (by omega) ?_ ?_
                      · intro h62
                        refine n_iinc (L2 := [some (2, 3), some (0, i), some (2, 1), some (0, (0 + 1)), some (0, (((((0 + 1) + 1) + 1) + 1) + 1))]) c_112_41 rfl rfl rfl (n_goto c_112_44 (n_iload c_112_10 rfl (n_aload_n c_112_12 rfl (n_alen c_112_13 sc_1.n rfl ?_))))
                        refine n_if2_ge c_112_14 (by omega) (by omega) ?_ ?_
                        · intro h63
                          refine n_iconst c_112_47 ?_
                          exact n_rI c_112_48 rfl ⟨rfl, by omega⟩
                        · intro h64
                          exfalso; omega
                      · intro h65
                        refine n_iload_n c_112_28 rfl (n_iload_n c_112_29 rfl ?_)
                        refine n_if2_ne c_112_30 (by omega) (by omega) ?_ ?_
                        · intro h66
                          refine n_iinc (L2 := [some (2, 3), some (0, i), some (2, 1), some (0, ((0 + 1) + 1)), some (0, ((((0 + 1) + 1) + 1) + 1))]) c_112_38 rfl rfl rfl (n_iinc (L2 := [some (2, 3), some (0, i), some (2, 1), some (0, ((0 + 1) + 1)), some (0, (((((0 + 1) + 1) + 1) + 1) + 1))]) c_112_41 rfl rfl rfl (n_goto c_112_44 (n_iload c_112_10 rfl (n_aload_n c_112_12 rfl (n_alen c_112_13 sc_1.n rfl ?_)))))
                          refine n_if2_ge c_112_14 (by omega) (by omega) ?_ ?_
                          · intro h67
                            refine n_iconst c_112_47 ?_
                            exact n_rI c_112_48 rfl ⟨rfl, by omega⟩
                          · intro h68
                            exfalso; omega
                        · intro h69
                          refine n_aload_n c_112_33 rfl (n_iload c_112_34 rfl (n_ialoadV c_112_36 sc_1.n rfl rfl rfl (by omega) (t_1_4 hS) ?_))
                          intro z70 ez70 f71
                          exact n_rI c_112_37 rfl ⟨rfl, by omega⟩
                  · intro h72
                    refine n_aload_n c_112_33 rfl (n_iload c_112_34 rfl (n_ialoadV c_112_36 sc_1.n rfl rfl rfl (by omega) (t_1_3 hS) ?_))
                    intro z73 ez73 f74
                    exact n_rI c_112_37 rfl ⟨rfl, by omega⟩
            · intro h75
              refine n_iload_n c_112_28 rfl (n_iload_n c_112_29 rfl ?_)
              refine n_if2_ne c_112_30 (by omega) (by omega) ?_ ?_
              · intro h76
                refine n_iinc (L2 := [some (2, 3), some (0, i), some (2, 1), some (0, (0 + 1)), some (0, ((0 + 1) + 1))]) c_112_38 rfl rfl rfl (n_iinc (L2 := [some (2, 3), some (0, i), some (2, 1), some (0, (0 + 1)), some (0, (((0 + 1) + 1) + 1))]) c_112_41 rfl rfl rfl (n_goto c_112_44 (n_iload c_112_10 rfl (n_aload_n c_112_12 rfl (n_alen c_112_13 sc_1.n rfl ?_)))))
                refine n_if2_ge c_112_14 (by omega) (by omega) ?_ ?_
                · intro h77
                  exfalso; omega
                · intro h78
                  refine n_aload_n c_112_17 rfl (n_aload_n c_112_18 rfl (n_iload c_112_19 rfl (n_ialoadV c_112_21 sc_1.n rfl rfl rfl (by omega) (t_1_3 hS) ?_)))
                  intro z79 ez79 f80
                  have hcst : (z79 : Int) = 32 := by omega
                  rw [hcst]
                  refine n_v1I c_112_22 rfl sc_3.n rfl rfl rfl rfl (aakp32_3  hS ) ?_
                  intro z81 M82 hP83
                  obtain ⟨eM, f83⟩ := hP83
                  subst eM
                  refine n_if0_eq c_112_25 (by omega) ?_ ?_
                  · intro h84
                    refine n_iinc (L2 := [some (2, 3), some (0, i), some (2, 1), some (0, (0 + 1)), some (0, ((((0 + 1) + 1) + 1) + 1))]) c_112_41 rfl rfl rfl (n_goto c_112_44 (n_iload c_112_10 rfl (n_aload_n c_112_12 rfl (n_alen c_112_13 sc_1.n rfl ?_))))
                    refine n_if2_ge c_112_14 (by omega) (by omega) ?_ ?_
                    · intro h85
                      exfalso; omega
                    · intro h86
                      refine n_aload_n c_112_17 rfl (n_aload_n c_112_18 rfl (n_iload c_112_19 rfl (n_ialoadV c_112_21 sc_1.n rfl rfl rfl (by omega) (t_1_4 hS) ?_)))
                      intro z87 ez87 f88
                      have hcst : (z87 : Int) = 36 := by omega
                      rw [hcst]
                      refine n_v1I c_112_22 rfl sc_3.n rfl rfl rfl rfl (aakp36_3  hS ) ?_
                      intro z89 M90 hP91
                      obtain ⟨eM, f91⟩ := hP91
                      subst eM
                      refine n_if0_eq c_112_25 (by omega) ?_ ?_
                      · intro h92
                        refine n_iinc (L2 := [some (2, 3), some (0, i), some (2, 1), some (0, (0 + 1)), some (0, (((((0 + 1) + 1) + 1) + 1) + 1))]) c_112_41 rfl rfl rfl (n_goto c_112_44 (n_iload c_112_10 rfl (n_aload_n c_112_12 rfl (n_alen c_112_13 sc_1.n rfl ?_))))
                        refine n_if2_ge c_112_14 (by omega) (by omega) ?_ ?_
                        · intro h93
                          refine n_iconst c_112_47 ?_
                          exact n_rI c_112_48 rfl ⟨rfl, by omega⟩
                        · intro h94
                          exfalso; omega
                      · intro h95
                        refine n_iload_n c_112_28 rfl (n_iload_n c_112_29 rfl ?_)
                        refine n_if2_ne c_112_30 (by omega) (by omega) ?_ ?_
                        · intro h96
                          refine n_iinc (L2 := [some (2, 3), some (0, i), some (2, 1), some (0, ((0 + 1) + 1)), some (0, ((((0 + 1) + 1) + 1) + 1))]) c_112_38 rfl rfl rfl (n_iinc (L2 := [some (2, 3), some (0, i), some (2, 1), some (0, ((0 + 1) + 1)), some (0, (((((0 + 1) + 1) + 1) + 1) + 1))]) c_112_41 rfl rfl rfl (n_goto c_112_44 (n_iload c_112_10 rfl (n_aload_n c_112_12 rfl (n_alen c_112_13 sc_1.n rfl ?_)))))
                          refine n_if2_ge c_112_14 (by omega) (by omega) ?_ ?_
                          · intro h97
                            refine n_iconst c_112_47 ?_
                            exact n_rI c_112_48 rfl ⟨rfl, by omega⟩
                          · intro h98
                            exfalso; omega
                        · intro h99
                          refine n_aload_n c_112_33 rfl (n_iload c_112_34 rfl (n_ialoadV c_112_36 sc_1.n rfl rfl rfl (by omega) (t_1_4 hS) ?_))
                          intro z100 ez100 f101
                          exact n_rI c_112_37 rfl ⟨rfl, by omega⟩
                  · intro h102
                    refine n_iload_n c_112_28 rfl (n_iload_n c_112_29 rfl ?_)
                    refine n_if2_ne c_112_30 (by omega) (by omega) ?_ ?_
                    · intro h103
                      refine n_iinc (L2 := [some (2, 3), some (0, i), some (2, 1), some (0, ((0 + 1) + 1)), some (0, (((0 + 1) + 1) + 1))]) c_112_38 rfl rfl rfl (n_iinc (L2 := [some (2, 3), some (0, i), some (2, 1), some (0, ((0 + 1) + 1)), some (0, ((((0 + 1) + 1) + 1) + 1))]) c_112_41 rfl rfl rfl (n_goto c_112_44 (n_iload c_112_10 rfl (n_aload_n c_112_12 rfl (n_alen c_112_13 sc_1.n rfl ?_)))))
                      refine n_if2_ge c_112_14 (by omega) (by omega) ?_ ?_
                      · intro h104
                        exfalso; omega
                      · intro h105
                        refine n_aload_n c_112_17 rfl (n_aload_n c_112_18 rfl (n_iload c_112_19 rfl (n_ialoadV c_112_21 sc_1.n rfl rfl rfl (by omega) (t_1_4 hS) ?_)))
                        intro z106 ez106 f107
                        have hcst : (z106 : Int) = 36 := by omega
                        rw [hcst]
                        refine n_v1I c_112_22 rfl sc_3.n rfl rfl rfl rfl (aakp36_3  hS ) ?_
                        intro z108 M109 hP110
                        obtain ⟨eM, f110⟩ := hP110
                        subst eM
                        refine n_if0_eq c_112_25 (by omega) ?_ ?_
                        · intro h111
                          refine n_iinc (L2 := [some (2, 3), some (0, i), some (2, 1), some (0, ((0 + 1) + 1)), some (0, (((((0 + 1) + 1) + 1) + 1) + 1))]) c_112_41 rfl rfl rfl (n_goto c_112_44 (n_iload c_112_10 rfl (n_aload_n c_112_12 rfl (n_alen c_112_13 sc_1.n rfl ?_))))
                          refine n_if2_ge c_112_14 (by omega) (by omega) ?_ ?_
                          · intro h112
                            refine n_iconst c_112_47 ?_
                            exact n_rI c_112_48 rfl ⟨rfl, by omega⟩
                          · intro h113
                            exfalso; omega
                        · intro h114
                          refine n_iload_n c_112_28 rfl (n_iload_n c_112_29 rfl ?_)
                          refine n_if2_ne c_112_30 (by omega) (by omega) ?_ ?_
                          · intro h115
                            refine n_iinc (L2 := [some (2, 3), some (0, i), some (2, 1), some (0, (((0 + 1) + 1) + 1)), some (0, ((((0 + 1) + 1) + 1) + 1))]) c_112_38 rfl rfl rfl (n_iinc (L2 := [some (2, 3), some (0, i), some (2, 1), some (0, (((0 + 1) + 1) + 1)), some (0, (((((0 + 1) + 1) + 1) + 1) + 1))]) c_112_41 rfl rfl rfl (n_goto c_112_44 (n_iload c_112_10 rfl (n_aload_n c_112_12 rfl (n_alen c_112_13 sc_1.n rfl ?_)))))
                            refine n_if2_ge c_112_14 (by omega) (by omega) ?_ ?_
                            · intro h116
                              refine n_iconst c_112_47 ?_
                              exact n_rI c_112_48 rfl ⟨rfl, by omega⟩
                            · intro h117
                              exfalso; omega
                          · intro h118
                            refine n_aload_n c_112_33 rfl (n_iload c_112_34 rfl (n_ialoadV c_112_36 sc_1.n rfl rfl rfl (by omega) (t_1_4 hS) ?_))
                            intro z119 ez119 f120
                            exact n_rI c_112_37 rfl ⟨rfl, by omega⟩
                    · intro h121
                      refine n_aload_n c_112_33 rfl (n_iload c_112_34 rfl (n_ialoadV c_112_36 sc_1.n rfl rfl rfl (by omega) (t_1_3 hS) ?_))
                      intro z122 ez122 f123
                      exact n_rI c_112_37 rfl ⟨rfl, by omega⟩
              · intro h124
                refine n_aload_n c_112_33 rfl (n_iload c_112_34 rfl (n_ialoadV c_112_36 sc_1.n rfl rfl rfl (by omega) (t_1_2 hS) ?_))
                intro z125 ez125 f126
                exact n_rI c_112_37 rfl ⟨rfl, by omega⟩
        · intro h127
          refine n_iload_n c_112_28 rfl (n_iload_n c_112_29 rfl ?_)
          refine n_if2_ne c_112_30 (by omega) (by omega) ?_ ?_
          · intro h128
            refine n_iinc (L2 := [some (2, 3), some (0, i), some (2, 1), some (0, (0 + 1)), some (0, (0 + 1))]) c_112_38 rfl rfl rfl (n_iinc (L2 := [some (2, 3), some (0, i), some (2, 1), some (0, (0 + 1)), some (0, ((0 + 1) + 1))]) c_112_41 rfl rfl rfl (n_goto c_112_44 (n_iload c_112_10 rfl (n_aload_n c_112_12 rfl (n_alen c_112_13 sc_1.n rfl ?_)))))
            refine n_if2_ge c_112_14 (by omega) (by omega) ?_ ?_
            · intro h129
              exfalso; omega
            · intro h130
              refine n_aload_n c_112_17 rfl (n_aload_n c_112_18 rfl (n_iload c_112_19 rfl (n_ialoadV c_112_21 sc_1.n rfl rfl rfl (by omega) (t_1_2 hS) ?_)))
              intro z131 ez131 f132
              have hcst : (z131 : Int) = 20 := by omega
              rw [hcst]
              refine n_v1I c_112_22 rfl sc_3.n rfl rfl rfl rfl (aakp20_3  hS ) ?_
              intro z133 M134 hP135
              obtain ⟨eM, f135⟩ := hP135
              subst eM
              refine n_if0_eq c_112_25 (by omega) ?_ ?_
              · intro h136
                refine n_iinc (L2 := [some (2, 3), some (0, i), some (2, 1), some (0, (0 + 1)), some (0, (((0 + 1) + 1) + 1))]) c_112_41 rfl rfl rfl (n_goto c_112_44 (n_iload c_112_10 rfl (n_aload_n c_112_12 rfl (n_alen c_112_13 sc_1.n rfl ?_))))
                refine n_if2_ge c_112_14 (by omega) (by omega) ?_ ?_
                · intro h137
                  exfalso; omega
                · intro h138
                  refine n_aload_n c_112_17 rfl (n_aload_n c_112_18 rfl (n_iload c_112_19 rfl (n_ialoadV c_112_21 sc_1.n rfl rfl rfl (by omega) (t_1_3 hS) ?_)))
                  intro z139 ez139 f140
                  have hcst : (z139 : Int) = 32 := by omega
                  rw [hcst]
                  refine n_v1I c_112_22 rfl sc_3.n rfl rfl rfl rfl (aakp32_3  hS ) ?_
                  intro z141 M142 hP143
                  obtain ⟨eM, f143⟩ := hP143
                  subst eM
                  refine n_if0_eq c_112_25 (by omega) ?_ ?_
                  · intro h144
                    refine n_iinc (L2 := [some (2, 3), some (0, i), some (2, 1), some (0, (0 + 1)), some (0, ((((0 + 1) + 1) + 1) + 1))]) c_112_41 rfl rfl rfl (n_goto c_112_44 (n_iload c_112_10 rfl (n_aload_n c_112_12 rfl (n_alen c_112_13 sc_1.n rfl ?_))))
                    refine n_if2_ge c_112_14 (by omega) (by omega) ?_ ?_
                    · intro h145
                      exfalso; omega
                    · intro h146
                      refine n_aload_n c_112_17 rfl (n_aload_n c_112_18 rfl (n_iload c_112_19 rfl (n_ialoadV c_112_21 sc_1.n rfl rfl rfl (by omega) (t_1_4 hS) ?_)))
                      intro z147 ez147 f148
                      have hcst : (z147 : Int) = 36 := by omega
                      rw [hcst]
                      refine n_v1I c_112_22 rfl sc_3.n rfl rfl rfl rfl (aakp36_3  hS ) ?_
                      intro z149 M150 hP151
                      obtain ⟨eM, f151⟩ := hP151
                      subst eM
                      refine n_if0_eq c_112_25 (by omega) ?_ ?_
                      · intro h152
                        refine n_iinc (L2 := [some (2, 3), some (0, i), some (2, 1), some (0, (0 + 1)), some (0, (((((0 + 1) + 1) + 1) + 1) + 1))]) c_112_41 rfl rfl rfl (n_goto c_112_44 (n_iload c_112_10 rfl (n_aload_n c_112_12 rfl (n_alen c_112_13 sc_1.n rfl ?_))))
                        refine n_if2_ge c_112_14 (by omega) (by omega) ?_ ?_
                        · intro h153
                          refine n_iconst c_112_47 ?_
                          exact n_rI c_112_48 rfl ⟨rfl, by omega⟩
                        · intro h154
                          exfalso; omega
                      · intro h155
                        refine n_iload_n c_112_28 rfl (n_iload_n c_112_29 rfl ?_)
                        refine n_if2_ne c_112_30 (by omega) (by omega) ?_ ?_
                        · intro h156
                          refine n_iinc (L2 := [some (2, 3), some (0, i), some (2, 1), some (0, ((0 + 1) + 1)), some (0, ((((0 + 1) + 1) + 1) + 1))]) c_112_38 rfl rfl rfl (n_iinc (L2 := [some (2, 3), some (0, i), some (2, 1), some (0, ((0 + 1) + 1)), some (0, (((((0 + 1) + 1) + 1) + 1) + 1))]) c_112_41 rfl rfl rfl (n_goto c_112_44 (n_iload c_112_10 rfl (n_aload_n c_112_12 rfl (n_alen c_112_13 sc_1.n rfl ?_)))))
                          refine n_if2_ge c_112_14 (by omega) (by omega) ?_ ?_
                          · intro h157
                            refine n_iconst c_112_47 ?_
                            exact n_rI c_112_48 rfl ⟨rfl, by omega⟩
                          · intro h158
                            exfalso; omega
                        · intro h159
                          refine n_aload_n c_112_33 rfl (n_iload c_112_34 rfl (n_ialoadV c_112_36 sc_1.n rfl rfl rfl (by omega) (t_1_4 hS) ?_))
                          intro z160 ez160 f161
                          exact n_rI c_112_37 rfl ⟨rfl, by omega⟩
                  · intro h162
                    refine n_iload_n c_112_28 rfl (n_iload_n c_112_29 rfl ?_)
                    refine n_if2_ne c_112_30 (by omega) (by omega) ?_ ?_
                    · intro h163
                      refine n_iinc (L2 := [some (2, 3), some (0, i), some (2, 1), some (0, ((0 + 1) + 1)), some (0, (((0 + 1) + 1) + 1))]) c_112_38 rfl rfl rfl (n_iinc (L2 := [some (2, 3), some (0, i), some (2, 1), some (0, ((0 + 1) + 1)), some (0, ((((0 + 1) + 1) + 1) + 1))]) c_112_41 rfl rfl rfl (n_goto c_112_44 (n_iload c_112_10 rfl (n_aload_n c_112_12 rfl (n_alen c_112_13 sc_1.n rfl ?_)))))
                      refine n_if2_ge c_112_14 (by omega) (by omega) ?_ ?_
                      · intro h164
                        exfalso; omega
                      · intro h165
                        refine n_aload_n c_112_17 rfl (n_aload_n c_112_18 rfl (n_iload c_112_19 rfl (n_ialoadV c_112_21 sc_1.n rfl rfl rfl (by omega) (t_1_4 hS) ?_)))
                        intro z166 ez166 f167
                        have hcst : (z166 : Int) = 36 := by omega
                        rw [hcst]
                        refine n_v1I c_112_22 rfl sc_3.n rfl rfl rfl rfl (aakp36_3  hS ) ?_
                        intro z168 M169 hP170
                        obtain ⟨eM, f170⟩ := hP170
                        subst eM
                        refine n_if0_eq c_112_25 (by omega) ?_ ?_
                        · intro h171
                          refine n_iinc (L2 := [some (2, 3), some (0, i), some (2, 1), some (0, ((0 + 1) + 1)), some (0, (((((0 + 1) + 1) + 1) + 1) + 1))]) c_112_41 rfl rfl rfl (n_goto c_112_44 (n_iload c_112_10 rfl (n_aload_n c_112_12 rfl (n_alen c_112_13 sc_1.n rfl ?_))))
                          refine n_if2_ge c_112_14 (by omega) (by omega) ?_ ?_
                          · intro h172
                            refine n_iconst c_112_47 ?_
                            exact n_rI c_112_48 rfl ⟨rfl, by omega⟩
                          · intro h173
                            exfalso; omega
                        · intro h174
                          refine n_iload_n c_112_28 rfl (n_iload_n c_112_29 rfl ?_)
                          refine n_if2_ne c_112_30 (by omega) (by omega) ?_ ?_
                          · intro h175
                            refine n_iinc (L2 := [some (2, 3), some (0, i), some (2, 1), some (0, (((0 + 1) + 1) + 1)), some (0, ((((0 + 1) + 1) + 1) + 1))]) c_112_38 rfl rfl rfl (n_iinc (L2 := [some (2, 3), some (0, i), some (2, 1), some (0, (((0 + 1) + 1) + 1)), some (0, (((((0 + 1) + 1) + 1) + 1) + 1))]) c_112_41 rfl rfl rfl (n_goto c_112_44 (n_iload c_112_10 rfl (n_aload_n c_112_12 rfl (n_alen c_112_13 sc_1.n rfl ?_)))))
                            refine n_if2_ge c_112_14 (by omega) (by omega) ?_ ?_
                            · intro h176
                              refine n_iconst c_112_47 ?_
                              exact n_rI c_112_48 rfl ⟨rfl, by omega⟩
                            · intro h177
                              exfalso; omega
                          · intro h178
                            refine n_aload_n c_112_33 rfl (n_iload c_112_34 rfl (n_ialoadV c_112_36 sc_1.n rfl rfl rfl (by omega) (t_1_4 hS) ?_))
                            intro z179 ez179 f180
                            exact n_rI c_112_37 rfl ⟨rfl, by omega⟩
                    · intro h181
                      refine n_aload_n c_112_33 rfl (n_iload c_112_34 rfl (n_ialoadV c_112_36 sc_1.n rfl rfl rfl (by omega) (t_1_3 hS) ?_))
                      intro z182 ez182 f183
                      exact n_rI c_112_37 rfl ⟨rfl, by omega⟩
              · intro h184
                refine n_iload_n c_112_28 rfl (n_iload_n c_112_29 rfl ?_)
                refine n_if2_ne c_112_30 (by omega) (by omega) ?_ ?_
                · intro h185
                  refine n_iinc (L2 := [some (2, 3), some (0, i), some (2, 1), some (0, ((0 + 1) + 1)), some (0, ((0 + 1) + 1))]) c_112_38 rfl rfl rfl (n_iinc (L2 := [some (2, 3), some (0, i), some (2, 1), some (0, ((0 + 1) + 1)), some (0, (((0 + 1) + 1) + 1))]) c_112_41 rfl rfl rfl (n_goto c_112_44 (n_iload c_112_10 rfl (n_aload_n c_112_12 rfl (n_alen c_112_13 sc_1.n rfl ?_)))))
                  refine n_if2_ge c_112_14 (by omega) (by omega) ?_ ?_
                  · intro h186
                    exfalso; omega
                  · intro h187
                    refine n_aload_n c_112_17 rfl (n_aload_n c_112_18 rfl (n_iload c_112_19 rfl (n_ialoadV c_112_21 sc_1.n rfl rfl rfl (by omega) (t_1_3 hS) ?_)))
                    intro z188 ez188 f189
                    have hcst : (z188 : Int) = 32 := by omega
                    rw [hcst]
                    refine n_v1I c_112_22 rfl sc_3.n rfl rfl rfl rfl (aakp32_3  hS ) ?_
                    intro z190 M191 hP192
                    obtain ⟨eM, f192⟩ := hP192
                    subst eM
                    refine n_if0_eq c_112_25 (by omega) ?_ ?_
                    · intro h193
                      refine n_iinc (L2 := [some (2, 3), some (0, i), some (2, 1), some (0, ((0 + 1) + 1)), some (0, ((((0 + 1) + 1) + 1) + 1))]) c_112_41 rfl rfl rfl (n_goto c_112_44 (n_iload c_112_10 rfl (n_aload_n c_112_12 rfl (n_alen c_112_13 sc_1.n rfl ?_))))
                      refine n_if2_ge c_112_14 (by omega) (by omega) ?_ ?_
                      · intro h194
                        exfalso; omega
                      · intro h195
                        refine n_aload_n c_112_17 rfl (n_aload_n c_112_18 rfl (n_iload c_112_19 rfl (n_ialoadV c_112_21 sc_1.n rfl rfl rfl (by omega) (t_1_4 hS) ?_)))
                        intro z196 ez196 f197
                        have hcst : (z196 : Int) = 36 := by omega
                        rw [hcst]
                        refine n_v1I c_112_22 rfl sc_3.n rfl rfl rfl rfl (aakp36_3  hS ) ?_
                        intro z198 M199 hP200
                        obtain ⟨eM, f200⟩ := hP200
                        subst eM
                        refine n_if0_eq c_112_25 (by omega) ?_ ?_
                        · intro h201
                          refine n_iinc (L2 := [some (2, 3), some (0, i), some (2, 1), some (0, ((0 + 1) + 1)), some (0, (((((0 + 1) + 1) + 1) + 1) + 1))]) c_112_41 rfl rfl rfl (n_goto c_112_44 (n_iload c_112_10 rfl (n_aload_n c_112_12 rfl (n_alen c_112_13 sc_1.n rfl ?_))))
                          refine n_if2_ge c_112_14 (by omega) (by omega) ?_ ?_
                          · intro h202
                            refine n_iconst c_112_47 ?_
                            exact n_rI c_112_48 rfl ⟨rfl, by omega⟩
                          · intro h203
                            exfalso; omega
                        · intro h204
                          refine n_iload_n c_112_28 rfl (n_iload_n c_112_29 rfl ?_)
                          refine n_if2_ne c_112_30 (by omega) (by omega) ?_ ?_
                          · intro h205
                            refine n_iinc (L2 := [some (2, 3), some (0, i), some (2, 1), some (0, (((0 + 1) + 1) + 1)), some (0, ((((0 + 1) + 1) + 1) + 1))]) c_112_38 rfl rfl rfl (n_iinc (L2 := [some (2, 3), some (0, i), some (2, 1), some (0, (((0 + 1) + 1) + 1)), some (0, (((((0 + 1) + 1) + 1) + 1) + 1))]) c_112_41 rfl rfl rfl (n_goto c_112_44 (n_iload c_112_10 rfl (n_aload_n c_112_12 rfl (n_alen c_112_13 sc_1.n rfl ?_)))))
                            refine n_if2_ge c_112_14 (by omega) (by omega) ?_ ?_
                            · intro h206
                              refine n_iconst c_112_47 ?_
                              exact n_rI c_112_48 rfl ⟨rfl, by omega⟩
                            · intro h207
                              exfalso; omega
                          · intro h208
                            refine n_aload_n c_112_33 rfl (n_iload c_112_34 rfl (n_ialoadV c_112_36 sc_1.n rfl rfl rfl (by omega) (t_1_4 hS) ?_))
                            intro z209 ez209 f210
                            exact n_rI c_112_37 rfl ⟨rfl, by omega⟩
                    · intro h211
                      refine n_iload_n c_112_28 rfl (n_iload_n c_112_29 rfl ?_)
                      refine n_if2_ne c_112_30 (by omega) (by omega) ?_ ?_
                      · intro h212
                        refine n_iinc (L2 := [some (2, 3), some (0, i), some (2, 1), some (0, (((0 + 1) + 1) + 1)), some (0, (((0 + 1) + 1) + 1))]) c_112_38 rfl rfl rfl (n_iinc (L2 := [some (2, 3), some (0, i), some (2, 1), some (0, (((0 + 1) + 1) + 1)), some (0, ((((0 + 1) + 1) + 1) + 1))]) c_112_41 rfl rfl rfl (n_goto c_112_44 (n_iload c_112_10 rfl (n_aload_n c_112_12 rfl (n_alen c_112_13 sc_1.n rfl ?_)))))
                        refine n_if2_ge c_112_14 (by omega) (by omega) ?_ ?_
                        · intro h213
                          exfalso; omega
                        · intro h214
                          refine n_aload_n c_112_17 rfl (n_aload_n c_112_18 rfl (n_iload c_112_19 rfl (n_ialoadV c_112_21 sc_1.n rfl rfl rfl (by omega) (t_1_4 hS) ?_)))
                          intro z215 ez215 f216
                          have hcst : (z215 : Int) = 36 := by omega
                          rw [hcst]
                          refine n_v1I c_112_22 rfl sc_3.n rfl rfl rfl rfl (aakp36_3  hS ) ?_
                          intro z217 M218 hP219
                          obtain ⟨eM, f219⟩ := hP219
                          subst eM
                          refine n_if0_eq c_112_25 (by omega) ?_ ?_
                          · intro h220
                            refine n_iinc (L2 := [some (2, 3), some (0, i), some (2, 1), some (0, (((0 + 1) + 1) + 1)), some (0, (((((0 + 1) + 1) + 1) + 1) + 1))]) c_112_41 rfl rfl rfl (n_goto c_112_44 (n_iload c_112_10 rfl (n_aload_n c_112_12 rfl (n_alen c_112_13 sc_1.n rfl ?_))))
                            refine n_if2_ge c_112_14 (by omega) (by omega) ?_ ?_
                            · intro h221
                              refine n_iconst c_112_47 ?_
                              exact n_rI c_112_48 rfl ⟨rfl, by omega⟩
                            · intro h222
                              exfalso; omega
                          · intro h223
                            refine n_iload_n c_112_28 rfl (n_iload_n c_112_29 rfl ?_)
                            refine n_if2_ne c_112_30 (by omega) (by omega) ?_ ?_
                            · intro h224
                              refine n_iinc (L2 := [some (2, 3), some (0, i), some (2, 1), some (0, ((((0 + 1) + 1) + 1) + 1)), some (0, ((((0 + 1) + 1) + 1) + 1))]) c_112_38 rfl rfl rfl (n_iinc (L2 := [some (2, 3), some (0, i), some (2, 1), some (0, ((((0 + 1) + 1) + 1) + 1)), some (0, (((((0 + 1) + 1) + 1) + 1) + 1))]) c_112_41 rfl rfl rfl (n_goto c_112_44 (n_iload c_112_10 rfl (n_aload_n c_112_12 rfl (n_alen c_112_13 sc_1.n rfl ?_)))))
                              refine n_if2_ge c_112_14 (by omega) (by omega) ?_ ?_
                              · intro h225
                                refine n_iconst c_112_47 ?_
                                exact n_rI c_112_48 rfl ⟨rfl, by omega⟩
                              · intro h226
                                exfalso; omega
                            · intro h227
                              refine n_aload_n c_112_33 rfl (n_iload c_112_34 rfl (n_ialoadV c_112_36 sc_1.n rfl rfl rfl (by omega) (t_1_4 hS) ?_))
                              intro z228 ez228 f229
                              exact n_rI c_112_37 rfl ⟨rfl, by omega⟩
                      · intro h230
                        refine n_aload_n c_112_33 rfl (n_iload c_112_34 rfl (n_ialoadV c_112_36 sc_1.n rfl rfl rfl (by omega) (t_1_3 hS) ?_))
                        intro z231 ez231 f232
                        exact n_rI c_112_37 rfl ⟨rfl, by omega⟩
                · intro h233
                  refine n_aload_n c_112_33 rfl (n_iload c_112_34 rfl (n_ialoadV c_112_36 sc_1.n rfl rfl rfl (by omega) (t_1_2 hS) ?_))
                  intro z234 ez234 f235
                  exact n_rI c_112_37 rfl ⟨rfl, by omega⟩
          · intro h236
            refine n_aload_n c_112_33 rfl (n_iload c_112_34 rfl (n_ialoadV c_112_36 sc_1.n rfl rfl rfl (by omega) (t_1_1 hS) ?_))
            intro z237 ez237 f238
            exact n_rI c_112_37 rfl ⟨rfl, by omega⟩
    · intro h239
      refine n_iload_n c_112_28 rfl (n_iload_n c_112_29 rfl ?_)
      refine n_if2_ne c_112_30 (by omega) (by omega) ?_ ?_
      · intro h240
        refine n_iinc (L2 := [some (2, 3), some (0, i), some (2, 1), some (0, (0 + 1)), some (0, 0)]) c_112_38 rfl rfl rfl (n_iinc (L2 := [some (2, 3), some (0, i), some (2, 1), some (0, (0 + 1)), some (0, (0 + 1))]) c_112_41 rfl rfl rfl (n_goto c_112_44 (n_iload c_112_10 rfl (n_aload_n c_112_12 rfl (n_alen c_112_13 sc_1.n rfl ?_)))))
        refine n_if2_ge c_112_14 (by omega) (by omega) ?_ ?_
        · intro h241
          exfalso; omega
        · intro h242
          refine n_aload_n c_112_17 rfl (n_aload_n c_112_18 rfl (n_iload c_112_19 rfl (n_ialoadV c_112_21 sc_1.n rfl rfl rfl (by omega) (t_1_1 hS) ?_)))
          intro z243 ez243 f244
          have hcst : (z243 : Int) = 4 := by omega
          rw [hcst]
          refine n_v1I c_112_22 rfl sc_3.n rfl rfl rfl rfl (aakp4_3  hS ) ?_
          intro z245 M246 hP247
          obtain ⟨eM, f247⟩ := hP247
          subst eM
          refine n_if0_eq c_112_25 (by omega) ?_ ?_
          · intro h248
            refine n_iinc (L2 := [some (2, 3), some (0, i), some (2, 1), some (0, (0 + 1)), some (0, ((0 + 1) + 1))]) c_112_41 rfl rfl rfl (n_goto c_112_44 (n_iload c_112_10 rfl (n_aload_n c_112_12 rfl (n_alen c_112_13 sc_1.n rfl ?_))))
            refine n_if2_ge c_112_14 (by omega) (by omega) ?_ ?_
            · intro h249
              exfalso; omega
            · intro h250
              refine n_aload_n c_112_17 rfl (n_aload_n c_112_18 rfl (n_iload c_112_19 rfl (n_ialoadV c_112_21 sc_1.n rfl rfl rfl (by omega) (t_1_2 hS) ?_)))
              intro z251 ez251 f252
              have hcst : (z251 : Int) = 20 := by omega
              rw [hcst]
              refine n_v1I c_112_22 rfl sc_3.n rfl rfl rfl rfl (aakp20_3  hS ) ?_
              intro z253 M254 hP255
              obtain ⟨eM, f255⟩ := hP255
              subst eM
              refine n_if0_eq c_112_25 (by omega) ?_ ?_
              · intro h256
                refine n_iinc (L2 := [some (2, 3), some (0, i), some (2, 1), some (0, (0 + 1)), some (0, (((0 + 1) + 1) + 1))]) c_112_41 rfl rfl rfl (n_goto c_112_44 (n_iload c_112_10 rfl (n_aload_n c_112_12 rfl (n_alen c_112_13 sc_1.n rfl ?_))))
                refine n_if2_ge c_112_14 (by omega) (by omega) ?_ ?_
                · intro h257
                  exfalso; omega
                · intro h258
                  refine n_aload_n c_112_17 rfl (n_aload_n c_112_18 rfl (n_iload c_112_19 rfl (n_ialoadV c_112_21 sc_1.n rfl rfl rfl (by omega) (t_1_3 hS) ?_)))
                  intro z259 ez259 f260
                  have hcst : (z259 : Int) = 32 := by omega
                  rw [hcst]
                  refine n_v1I c_112_22 rfl sc_3.n rfl rfl rfl rfl (aakp32_3  hS ) ?_
                  intro z261 M262 hP263
                  obtain ⟨eM, f263⟩ := hP263
                  subst eM
                  refine n_if0_eq c_112_25 (by omega) ?_ ?_
                  · intro h264
                    refine n_iinc (L2 := [some (2, 3), some (0, i), some (2, 1), some (0, (0 + 1)), some (0, ((((0 + 1) + 1) + 1) + 1))]) c_112_41 rfl rfl rfl (n_goto c_112_44 (n_iload c_112_10 rfl (n_aload_n c_112_12 rfl (n_alen c_112_13 sc_1.n rfl ?_))))
                    refine n_if2_ge c_112_14 (by omega) (by omega) ?_ ?_
                    · intro h265
                      exfalso; omega
                    · intro h266
                      refine n_aload_n c_112_17 rfl (n_aload_n c_112_18 rfl (n_iload c_112_19 rfl (n_ialoadV c_112_21 sc_1.n rfl rfl rfl (by omega) (t_1_4 hS) ?_)))
                      intro z267 ez267 f268
                      have hcst : (z267 : Int) = 36 := by omega
                      rw [hcst]
                      refine n_v1I c_112_22 rfl sc_3.n rfl rfl rfl rfl (aakp36_3  hS ) ?_
                      intro z269 M270 hP271
                      obtain ⟨eM, f271⟩ := hP271
                      subst eM
                      refine n_if0_eq c_112_25 (by omega) ?_ ?_
                      · intro h272
                        refine n_iinc (L2 := [some (2, 3), some (0, i), some (2, 1), some (0, (0 + 1)), some (0, (((((0 + 1) + 1) + 1) + 1) + 1))]) c_112_41 rfl rfl rfl (n_goto c_112_44 (n_iload c_112_10 rfl (n_aload_n c_112_12 rfl (n_alen c_112_13 sc_1.n rfl ?_))))
                        refine n_if2_ge c_112_14 (by omega) (by omega) ?_ ?_
                        · intro h273
                          refine n_iconst c_112_47 ?_
                          exact n_rI c_112_48 rfl ⟨rfl, by omega⟩
                        · intro h274
                          exfalso; omega
                      · intro h275
                        refine n_iload_n c_112_28 rfl (n_iload_n c_112_29 rfl ?_)
                        refine n_if2_ne c_112_30 (by omega) (by omega) ?_ ?_
                        · intro h276
                          refine n_iinc (L2 := [some (2, 3), some (0, i), some (2, 1), some (0, ((0 + 1) + 1)), some (0, ((((0 + 1) + 1) + 1) + 1))]) c_112_38 rfl rfl rfl (n_iinc (L2 := [some (2, 3), some (0, i), some (2, 1), some (0, ((0 + 1) + 1)), some (0, (((((0 + 1) + 1) + 1) + 1) + 1))]) c_112_41 rfl rfl rfl (n_goto c_112_44 (n_iload c_112_10 rfl (n_aload_n c_112_12 rfl (n_alen c_112_13 sc_1.n rfl ?_)))))
                          refine n_if2_ge c_112_14 (by omega) (by omega) ?_ ?_
                          · intro h277
                            refine n_iconst c_112_47 ?_
                            exact n_rI c_112_48 rfl ⟨rfl, by omega⟩
                          · intro h278
                            exfalso; omega
                        · intro h279
                          refine n_aload_n c_112_33 rfl (n_iload c_112_34 rfl (n_ialoadV c_112_36 sc_1.n rfl rfl rfl (by omega) (t_1_4 hS) ?_))
                          intro z280 ez280 f281
                          exact n_rI c_112_37 rfl ⟨rfl, by omega⟩
                  · intro h282
                    refine n_iload_n c_112_28 rfl (n_iload_n c_112_29 rfl ?_)
                    refine n_if2_ne c_112_30 (by omega) (by omega) ?_ ?_
                    · intro h283
                      refine n_iinc (L2 := [some (2, 3), some (0, i), some (2, 1), some (0, ((0 + 1) + 1)), some (0, (((0 + 1) + 1) + 1))]) c_112_38 rfl rfl rfl (n_iinc (L2 := [some (2, 3), some (0, i), some (2, 1), some (0, ((0 + 1) + 1)), some (0, ((((0 + 1) + 1) + 1) + 1))]) c_112_41 rfl rfl rfl (n_goto c_112_44 (n_iload c_112_10 rfl (n_aload_n c_112_12 rfl (n_alen c_112_13 sc_1.n rfl ?_)))))
                      refine n_if2_ge c_112_14 (by omega) (by omega) ?_ ?_
                      · intro h284
                        exfalso; omega
                      · intro h285
                        refine n_aload_n c_112_17 rfl (n_aload_n c_112_18 rfl (n_iload c_112_19 rfl (n_ialoadV c_112_21 sc_1.n rfl rfl rfl (by omega) (t_1_4 hS) ?_)))
                        intro z286 ez286 f287
                        have hcst : (z286 : Int) = 36 := by omega
                        rw [hcst]
                        refine n_v1I c_112_22 rfl sc_3.n rfl rfl rfl rfl (aakp36_3  hS ) ?_
                        intro z288 M289 hP290
                        obtain ⟨eM, f290⟩ := hP290
                        subst eM
                        refine n_if0_eq c_112_25 (by omega) ?_ ?_
                        · intro h291
                          refine n_iinc (L2 := [some (2, 3), some (0, i), some (2, 1), some (0, ((0 + 1) + 1)), some (0, (((((0 + 1) + 1) + 1) + 1) + 1))]) c_112_41 rfl rfl rfl (n_goto c_112_44 (n_iload c_112_10 rfl (n_aload_n c_112_12 rfl (n_alen c_112_13 sc_1.n rfl ?_))))
                          refine n_if2_ge c_112_14 (by omega) (by omega) ?_ ?_
                          · intro h292
                            refine n_iconst c_112_47 ?_
                            exact n_rI c_112_48 rfl ⟨rfl, by omega⟩
                          · intro h293
                            exfalso; omega
                        · intro h294
                          refine n_iload_n c_112_28 rfl (n_iload_n c_112_29 rfl ?_)
                          refine n_if2_ne c_112_30 (by omega) (by omega) ?_ ?_
                          · intro h295
                            refine n_iinc (L2 := [some (2, 3), some (0, i), some (2, 1), some (0, (((0 + 1) + 1) + 1)), some (0, ((((0 + 1) + 1) + 1) + 1))]) c_112_38 rfl rfl rfl (n_iinc (L2 := [some (2, 3), some (0, i), some (2, 1), some (0, (((0 + 1) + 1) + 1)), some (0, (((((0 + 1) + 1) + 1) + 1) + 1))]) c_112_41 rfl rfl rfl (n_goto c_112_44 (n_iload c_112_10 rfl (n_aload_n c_112_12 rfl (n_alen c_112_13 sc_1.n rfl ?_)))))
                            refine n_if2_ge c_112_14 (by omega) (by omega) ?_ ?_
                            · intro h296
                              refine n_iconst c_112_47 ?_
                              exact n_rI c_112_48 rfl ⟨rfl, by omega⟩
                            · intro h297
                              exfalso; omega
                          · intro h298
                            refine n_aload_n c_112_33 rfl (n_iload c_112_34 rfl (n_ialoadV c_112_36 sc_1.n rfl rfl rfl (by omega) (t_1_4 hS) ?_))
                            intro z299 ez299 f300
                            exact n_rI c_112_37 rfl ⟨rfl, by omega⟩
                    · intro h301
                      refine n_aload_n c_112_33 rfl (n_iload c_112_34 rfl (n_ialoadV c_112_36 sc_1.n rfl rfl rfl (by omega) (t_1_3 hS) ?_))
                      intro z302 ez302 f303
                      exact n_rI c_112_37 rfl ⟨rfl, by omega⟩
              · intro h304
                refine n_iload_n c_112_28 rfl (n_iload_n c_112_29 rfl ?_)
                refine n_if2_ne c_112_30 (by omega) (by omega) ?_ ?_
                · intro h305
                  refine n_iinc (L2 := [some (2, 3), some (0, i), some (2, 1), some (0, ((0 + 1) + 1)), some (0, ((0 + 1) + 1))]) c_112_38 rfl rfl rfl (n_iinc (L2 := [some (2, 3), some (0, i), some (2, 1), some (0, ((0 + 1) + 1)), some (0, (((0 + 1) + 1) + 1))]) c_112_41 rfl rfl rfl (n_goto c_112_44 (n_iload c_112_10 rfl (n_aload_n c_112_12 rfl (n_alen c_112_13 sc_1.n rfl ?_)))))
                  refine n_if2_ge c_112_14 (by omega) (by omega) ?_ ?_
                  · intro h306
                    exfalso; omega
                  · intro h307
                    refine n_aload_n c_112_17 rfl (n_aload_n c_112_18 rfl (n_iload c_112_19 rfl (n_ialoadV c_112_21 sc_1.n rfl rfl rfl (by omega) (t_1_3 hS) ?_)))
                    intro z308 ez308 f309
                    have hcst : (z308 : Int) = 32 := by omega
                    rw [hcst]
                    refine n_v1I c_112_22 rfl sc_3.n rfl rfl rfl rfl (aakp32_3  hS ) ?_
                    intro z310 M311 hP312
                    obtain ⟨eM, f312⟩ := hP312
                    subst eM
                    refine n_if0_eq c_112_25 (by omega) ?_ ?_
                    · intro h313
                      refine n_iinc (L2 := [some (2, 3), some (0, i), some (2, 1), some (0, ((0 + 1) + 1)), some (0, ((((0 + 1) + 1) + 1) + 1))]) c_112_41 rfl rfl rfl (n_goto c_112_44 (n_iload c_112_10 rfl (n_aload_n c_112_12 rfl (n_alen c_112_13 sc_1.n rfl ?_))))
                      refine n_if2_ge c_112_14 (by omega) (by omega) ?_ ?_
                      · intro h314
                        exfalso; omega
                      · intro h315
                        refine n_aload_n c_112_17 rfl (n_aload_n c_112_18 rfl (n_iload c_112_19 rfl (n_ialoadV c_112_21 sc_1.n rfl rfl rfl (by omega) (t_1_4 hS) ?_)))
                        intro z316 ez316 f317
                        have hcst : (z316 : Int) = 36 := by omega
                        rw [hcst]
                        refine n_v1I c_112_22 rfl sc_3.n rfl rfl rfl rfl (aakp36_3  hS ) ?_
                        intro z318 M319 hP320
                        obtain ⟨eM, f320⟩ := hP320
                        subst eM
                        refine n_if0_eq c_112_25 (by omega) ?_ ?_
                        · intro h321
                          refine n_iinc (L2 := [some (2, 3), some (0, i), some (2, 1), some (0, ((0 + 1) + 1)), some (0, (((((0 + 1) + 1) + 1) + 1) + 1))]) c_112_41 rfl rfl rfl (n_goto c_112_44 (n_iload c_112_10 rfl (n_aload_n c_112_12 rfl (n_alen c_112_13 sc_1.n rfl ?_))))
                          refine n_if2_ge c_112_14 (by omega) (by omega) ?_ ?_
                          · intro h322
                            refine n_iconst c_112_47 ?_
                            exact n_rI c_112_48 rfl ⟨rfl, by omega⟩
                          · intro h323
                            exfalso; omega
                        · intro h324
                          refine n_iload_n c_112_28 rfl (n_iload_n c_112_29 rfl ?_)
                          refine n_if2_ne c_112_30 (by omega) (by omega) ?_ ?_
                          · intro h325
                            refine n_iinc (L2 := [some (2, 3), some (0, i), some (2, 1), some (0, (((0 + 1) + 1) + 1)), some (0, ((((0 + 1) + 1) + 1) + 1))]) c_112_38 rfl rfl rfl (n_iinc (L2 := [some (2, 3), some (0, i), some (2, 1), some (0, (((0 + 1) + 1) + 1)), some (0, (((((0 + 1) + 1) + 1) + 1) + 1))]) c_112_41 rfl rfl rfl (n_goto c_112_44 (n_iload c_112_10 rfl (n_aload_n c_112_12 rfl (n_alen c_112_13 sc_1.n rfl ?_)))))
                            refine n_if2_ge c_112_14 (by omega) (by omega) ?_ ?_
                            · intro h326
                              refine n_iconst c_112_47 ?_
                              exact n_rI c_112_48 rfl ⟨rfl, by omega⟩
                            · intro h327
                              exfalso; omega
                          · intro h328
                            refine n_aload_n c_112_33 rfl (n_iload c_112_34 rfl (n_ialoadV c_112_36 sc_1.n rfl rfl rfl (by omega) (t_1_4 hS) ?_))
                            intro z329 ez329 f330
                            exact n_rI c_112_37 rfl ⟨rfl, by omega⟩
                    · intro h331
                      refine n_iload_n c_112_28 rfl (n_iload_n c_112_29 rfl ?_)
                      refine n_if2_ne c_112_30 (by omega) (by omega) ?_ ?_
                      · intro h332
                        refine n_iinc (L2 := [some (2, 3), some (0, i), some (2, 1), some (0, (((0 + 1) + 1) + 1)), some (0, (((0 + 1) + 1) + 1))]) c_112_38 rfl rfl rfl (n_iinc (L2 := [some (2, 3), some (0, i), some (2, 1), some (0, (((0 + 1) + 1) + 1)), some (0, ((((0 + 1) + 1) + 1) + 1))]) c_112_41 rfl rfl rfl (n_goto c_112_44 (n_iload c_112_10 rfl (n_aload_n c_112_12 rfl (n_alen c_112_13 sc_1.n rfl ?_)))))
                        refine n_if2_ge c_112_14 (by omega) (by omega) ?_ ?_
                        · intro h333
                          exfalso; omega
                        · intro h334
                          refine n_aload_n c_112_17 rfl (n_aload_n c_112_18 rfl (n_iload c_112_19 rfl (n_ialoadV c_112_21 sc_1.n rfl rfl rfl (by omega) (t_1_4 hS) ?_)))
                          intro z335 ez335 f336
                          have hcst : (z335 : Int) = 36 := by omega
                          rw [hcst]
                          refine n_v1I c_112_22 rfl sc_3.n rfl rfl rfl rfl (aakp36_3  hS ) ?_
                          intro z337 M338 hP339
                          obtain ⟨eM, f339⟩ := hP339
                          subst eM
                          refine n_if0_eq c_112_25 (by omega) ?_ ?_
                          · intro h340
                            refine n_iinc (L2 := [some (2, 3), some (0, i), some (2, 1), some (0, (((0 + 1) + 1) + 1)), some (0, (((((0 + 1) + 1) + 1) + 1) + 1))]) c_112_41 rfl rfl rfl (n_goto c_112_44 (n_iload c_112_10 rfl (n_aload_n c_112_12 rfl (n_alen c_112_13 sc_1.n rfl ?_))))
                            refine n_if2_ge c_112_14 (by omega) (by omega) ?_ ?_
                            · intro h341
                              refine n_iconst c_112_47 ?_
                              exact n_rI c_112_48 rfl ⟨rfl, by omega⟩
                            · intro h342
                              exfalso; omega
                          · intro h343
                            refine n_iload_n c_112_28 rfl (n_iload_n c_112_29 rfl ?_)
                            refine n_if2_ne c_112_30 (by omega) (by omega) ?_ ?_
                            · intro h344
                              refine n_iinc (L2 := [some (2, 3), some (0, i), some (2, 1), some (0, ((((0 + 1) + 1) + 1) + 1)), some (0, ((((0 + 1) + 1) + 1) + 1))]) c_112_38 rfl rfl rfl (n_iinc (L2 := [some (2, 3), some (0, i), some (2, 1), some (0, ((((0 + 1) + 1) + 1) + 1)), some (0, (((((0 + 1) + 1) + 1) + 1) + 1))]) c_112_41 rfl rfl rfl (n_goto c_112_44 (n_iload c_112_10 rfl (n_aload_n c_112_12 rfl (n_alen c_112_13 sc_1.n rfl ?_)))))
                              refine n_if2_ge c_112_14 (by omega) (by omega) ?_ ?_
                              · intro h345
                                refine n_iconst c_112_47 ?_
                                exact n_rI c_112_48 rfl ⟨rfl, by omega⟩
                              · intro h346
                                exfalso; omega
                            · intro h347
                              refine n_aload_n c_112_33 rfl (n_iload c_112_34 rfl (n_ialoadV c_112_36 sc_1.n rfl rfl rfl (by omega) (t_1_4 hS) ?_))
                              intro z348 ez348 f349
                              exact n_rI c_112_37 rfl ⟨rfl, by omega⟩
                      · intro h350
                        refine n_aload_n c_112_33 rfl (n_iload c_112_34 rfl (n_ialoadV c_112_36 sc_1.n rfl rfl rfl (by omega) (t_1_3 hS) ?_))
                        intro z351 ez351 f352
                        exact n_rI c_112_37 rfl ⟨rfl, by omega⟩
                · intro h353
                  refine n_aload_n c_112_33 rfl (n_iload c_112_34 rfl (n_ialoadV c_112_36 sc_1.n rfl rfl rfl (by omega) (t_1_2 hS) ?_))
                  intro z354 ez354 f355
                  exact n_rI c_112_37 rfl ⟨rfl, by omega⟩
          · intro h356
            refine n_iload_n c_112_28 rfl (n_iload_n c_112_29 rfl ?_)
            refine n_if2_ne c_112_30 (by omega) (by omega) ?_ ?_
            · intro h357
              refine n_iinc (L2 := [some (2, 3), some (0, i), some (2, 1), some (0, ((0 + 1) + 1)), some (0, (0 + 1))]) c_112_38 rfl rfl rfl (n_iinc (L2 := [some (2, 3), some (0, i), some (2, 1), some (0, ((0 + 1) + 1)), some (0, ((0 + 1) + 1))]) c_112_41 rfl rfl rfl (n_goto c_112_44 (n_iload c_112_10 rfl (n_aload_n c_112_12 rfl (n_alen c_112_13 sc_1.n rfl ?_)))))
              refine n_if2_ge c_112_14 (by omega) (by omega) ?_ ?_
              · intro h358
                exfalso; omega
              · intro h359
                refine n_aload_n c_112_17 rfl (n_aload_n c_112_18 rfl (n_iload c_112_19 rfl (n_ialoadV c_112_21 sc_1.n rfl rfl rfl (by omega) (t_1_2 hS) ?_)))
                intro z360 ez360 f361
                have hcst : (z360 : Int) = 20 := by omega
                rw [hcst]
                refine n_v1I c_112_22 rfl sc_3.n rfl rfl rfl rfl (aakp20_3  hS ) ?_
                intro z362 M363 hP364
                obtain ⟨eM, f364⟩ := hP364
                subst eM
                refine n_if0_eq c_112_25 (by omega) ?_ ?_
                · intro h365
                  refine n_iinc (L2 := [some (2, 3), some (0, i), some (2, 1), some (0, ((0 + 1) + 1)), some (0, (((0 + 1) + 1) + 1))]) c_112_41 rfl rfl rfl (n_goto c_112_44 (n_iload c_112_10 rfl (n_aload_n c_112_12 rfl (n_alen c_112_13 sc_1.n rfl ?_))))
                  refine n_if2_ge c_112_14 (by omega) (by omega) ?_ ?_
                  · intro h366
                    exfalso; omega
                  · intro h367
                    refine n_aload_n c_112_17 rfl (n_aload_n c_112_18 rfl (n_iload c_112_19 rfl (n_ialoadV c_112_21 sc_1.n rfl rfl rfl (by omega) (t_1_3 hS) ?_)))
                    intro z368 ez368 f369
                    have hcst : (z368 : Int) = 32 := by omega
                    rw [hcst]
                    refine n_v1I c_112_22 rfl sc_3.n rfl rfl rfl rfl (aakp32_3  hS ) ?_
                    intro z370 M371 hP372
                    obtain ⟨eM, f372⟩ := hP372
                    subst eM
                    refine n_if0_eq c_112_25 (by omega) ?_ ?_
                    · intro h373
                      refine n_iinc (L2 := [some (2, 3), some (0, i), some (2, 1), some (0, ((0 + 1) + 1)), some (0, ((((0 + 1) + 1) + 1) + 1))]) c_112_41 rfl rfl rfl (n_goto c_112_44 (n_iload c_112_10 rfl (n_aload_n c_112_12 rfl (n_alen c_112_13 sc_1.n rfl ?_))))
                      refine n_if2_ge c_112_14 (by omega) (by omega) ?_ ?_
                      · intro h374
                        exfalso; omega
                      · intro h375
                        refine n_aload_n c_112_17 rfl (n_aload_n c_112_18 rfl (n_iload c_112_19 rfl (n_ialoadV c_112_21 sc_1.n rfl rfl rfl (by omega) (t_1_4 hS) ?_)))
                        intro z376 ez376 f377
                        have hcst : (z376 : Int) = 36 := by omega
                        rw [hcst]
                        refine n_v1I c_112_22 rfl sc_3.n rfl rfl rfl rfl (aakp36_3  hS ) ?_
                        intro z378 M379 hP380
                        obtain ⟨eM, f380⟩ := hP380
                        subst eM
                        refine n_if0_eq c_112_25 (by omega) ?_ ?_
                        · intro h381
                          refine n_iinc (L2 := [some (2, 3), some (0, i), some (2, 1), some (0, ((0 + 1) + 1)), some (0, (((((0 + 1) + 1) + 1) + 1) + 1))]) c_112_41 rfl rfl rfl (n_goto c_112_44 (n_iload c_112_10 rfl (n_aload_n c_112_12 rfl (n_alen c_112_13 sc_1.n rfl ?_))))
                          refine n_if2_ge c_112_14 (by omega) (by omega) ?_ ?_
                          · intro h382
                            refine n_iconst c_112_47 ?_
                            exact n_rI c_112_48 rfl ⟨rfl, by omega⟩
                          · intro h383
                            exfalso; omega
                        · intro h384
                          refine n_iload_n c_112_28 rfl (n_iload_n c_112_29 rfl ?_)
                          refine n_if2_ne c_112_30 (by omega) (by omega) ?_ ?_
                          · intro h385
                            refine n_iinc (L2 := [some (2, 3), some (0, i), some (2, 1), some (0, (((0 + 1) + 1) + 1)), some (0, ((((0 + 1) + 1) + 1) + 1))]) c_112_38 rfl rfl rfl (n_iinc (L2 := [some (2, 3), some (0, i), some (2, 1), some (0, (((0 + 1) + 1) + 1)), some (0, (((((0 + 1) + 1) + 1) + 1) + 1))]) c_112_41 rfl rfl rfl (n_goto c_112_44 (n_iload c_112_10 rfl (n_aload_n c_112_12 rfl (n_alen c_112_13 sc_1.n rfl ?_)))))
                            refine n_if2_ge c_112_14 (by omega) (by omega) ?_ ?_
                            · intro h386
                              refine n_iconst c_112_47 ?_
                              exact n_rI c_112_48 rfl ⟨rfl, by omega⟩
                            · intro h387
                              exfalso; omega
                          · intro h388
                            refine n_aload_n c_112_33 rfl (n_iload c_112_34 rfl (n_ialoadV c_112_36 sc_1.n rfl rfl rfl (by omega) (t_1_4 hS) ?_))
                            intro z389 ez389 f390
                            exact n_rI c_112_37 rfl ⟨rfl, by omega⟩
                    · intro h391
                      refine n_iload_n c_112_28 rfl (n_iload_n c_112_29 rfl ?_)
                      refine n_if2_ne c_112_30 (by omega) (by omega) ?_ ?_
                      · intro h392
                        refine n_iinc (L2 := [some (2, 3), some (0, i), some (2, 1), some (0, (((0 + 1) + 1) + 1)), some (0, (((0 + 1) + 1) + 1))]) c_112_38 rfl rfl rfl (n_iinc (L2 := [some (2, 3), some (0, i), some (2, 1), some (0, (((0 + 1) + 1) + 1)), some (0, ((((0 + 1) + 1) + 1) + 1))]) c_112_41 rfl rfl rfl (n_goto c_112_44 (n_iload c_112_10 rfl (n_aload_n c_112_12 rfl (n_alen c_112_13 sc_1.n rfl ?_)))))
                        refine n_if2_ge c_112_14 (by omega) (by omega) ?_ ?_
                        · intro h393
                          exfalso; omega
                        · intro h394
                          refine n_aload_n c_112_17 rfl (n_aload_n c_112_18 rfl (n_iload c_112_19 rfl (n_ialoadV c_112_21 sc_1.n rfl rfl rfl (by omega) (t_1_4 hS) ?_)))
                          intro z395 ez395 f396
                          have hcst : (z395 : Int) = 36 := by omega
                          rw [hcst]
                          refine n_v1I c_112_22 rfl sc_3.n rfl rfl rfl rfl (aakp36_3  hS ) ?_
                          intro z397 M398 hP399
                          obtain ⟨eM, f399⟩ := hP399
                          subst eM
                          refine n_if0_eq c_112_25 (by omega) ?_ ?_
                          · intro h400
                            refine n_iinc (L2 := [some (2, 3), some (0, i), some (2, 1), some (0, (((0 + 1) + 1) + 1)), some (0, (((((0 + 1) + 1) + 1) + 1) + 1))]) c_112_41 rfl rfl rfl (n_goto c_112_44 (n_iload c_112_10 rfl (n_aload_n c_112_12 rfl (n_alen c_112_13 sc_1.n rfl ?_))))
                            refine n_if2_ge c_112_14 (by omega) (by omega) ?_ ?_
                            · intro h401
                              refine n_iconst c_112_47 ?_
                              exact n_rI c_112_48 rfl ⟨rfl, by omega⟩
                            · intro h402
                              exfalso; omega
                          · intro h403
                            refine n_iload_n c_112_28 rfl (n_iload_n c_112_29 rfl ?_)
                            refine n_if2_ne c_112_30 (by omega) (by omega) ?_ ?_
                            · intro h404
                              refine n_iinc (L2 := [some (2, 3), some (0, i), some (2, 1), some (0, ((((0 + 1) + 1) + 1) + 1)), some (0, ((((0 + 1) + 1) + 1) + 1))]) c_112_38 rfl rfl rfl (n_iinc (L2 := [some (2, 3), some (0, i), some (2, 1), some (0, ((((0 + 1) + 1) + 1) + 1)), some (0, (((((0 + 1) + 1) + 1) + 1) + 1))]) c_112_41 rfl rfl rfl (n_goto c_112_44 (n_iload c_112_10 rfl (n_aload_n c_112_12 rfl (n_alen c_112_13 sc_1.n rfl ?_)))))
                              refine n_if2_ge c_112_14 (by omega) (by omega) ?_ ?_
                              · intro h405
                                refine n_iconst c_112_47 ?_
                                exact n_rI c_112_48 rfl ⟨rfl, by omega⟩
                              · intro h406
                                exfalso; omega
                            · intro h407
                              refine n_aload_n c_112_33 rfl (n_iload c_112_34 rfl (n_ialoadV c_112_36 sc_1.n rfl rfl rfl (by omega) (t_1_4 hS) ?_))
                              intro z408 ez408 f409
                              exact n_rI c_112_37 rfl ⟨rfl, by omega⟩
                      · intro h410
                        refine n_aload_n c_112_33 rfl (n_iload c_112_34 rfl (n_ialoadV c_112_36 sc_1.n rfl rfl rfl (by omega) (t_1_3 hS) ?_))
                        intro z411 ez411 f412
                        exact n_rI c_112_37 rfl ⟨rfl, by omega⟩
                · intro h413
                  refine n_iload_n c_112_28 rfl (n_iload_n c_112_29 rfl ?_)
                  refine n_if2_ne c_112_30 (by omega) (by omega) ?_ ?_
                  · intro h414
                    refine n_iinc (L2 := [some (2, 3), some (0, i), some (2, 1), some (0, (((0 + 1) + 1) + 1)), some (0, ((0 + 1) + 1))]) c_112_38 rfl rfl rfl (n_iinc (L2 := [some (2, 3), some (0, i), some (2, 1), some (0, (((0 + 1) + 1) + 1)), some (0, (((0 + 1) + 1) + 1))]) c_112_41 rfl rfl rfl (n_goto c_112_44 (n_iload c_112_10 rfl (n_aload_n c_112_12 rfl (n_alen c_112_13 sc_1.n rfl ?_)))))
                    refine n_if2_ge c_112_14 (by omega) (by omega) ?_ ?_
                    · intro h415
                      exfalso; omega
                    · intro h416
                      refine n_aload_n c_112_17 rfl (n_aload_n c_112_18 rfl (n_iload c_112_19 rfl (n_ialoadV c_112_21 sc_1.n rfl rfl rfl (by omega) (t_1_3 hS) ?_)))
                      intro z417 ez417 f418
                      have hcst : (z417 : Int) = 32 := by omega
                      rw [hcst]
                      refine n_v1I c_112_22 rfl sc_3.n rfl rfl rfl rfl (aakp32_3  hS ) ?_
                      intro z419 M420 hP421
                      obtain ⟨eM, f421⟩ := hP421
                      subst eM
                      refine n_if0_eq c_112_25 (by omega) ?_ ?_
                      · intro h422
                        refine n_iinc (L2 := [some (2, 3), some (0, i), some (2, 1), some (0, (((0 + 1) + 1) + 1)), some (0, ((((0 + 1) + 1) + 1) + 1))]) c_112_41 rfl rfl rfl (n_goto c_112_44 (n_iload c_112_10 rfl (n_aload_n c_112_12 rfl (n_alen c_112_13 sc_1.n rfl ?_))))
                        refine n_if2_ge c_112_14 (by omega) (by omega) ?_ ?_
                        · intro h423
                          exfalso; omega
                        · intro h424
                          refine n_aload_n c_112_17 rfl (n_aload_n c_112_18 rfl (n_iload c_112_19 rfl (n_ialoadV c_112_21 sc_1.n rfl rfl rfl (by omega) (t_1_4 hS) ?_)))
                          intro z425 ez425 f426
                          have hcst : (z425 : Int) = 36 := by omega
                          rw [hcst]
                          refine n_v1I c_112_22 rfl sc_3.n rfl rfl rfl rfl (aakp36_3  hS ) ?_
                          intro z427 M428 hP429
                          obtain ⟨eM, f429⟩ := hP429
                          subst eM
                          refine n_if0_eq c_112_25 (by omega) ?_ ?_
                          · intro h430
                            refine n_iinc (L2 := [some (2, 3), some (0, i), some (2, 1), some (0, (((0 + 1) + 1) + 1)), some (0, (((((0 + 1) + 1) + 1) + 1) + 1))]) c_112_41 rfl rfl rfl (n_goto c_112_44 (n_iload c_112_10 rfl (n_aload_n c_112_12 rfl (n_alen c_112_13 sc_1.n rfl ?_))))
                            refine n_if2_ge c_112_14 (by omega) (by omega) ?_ ?_
                            · intro h431
                              refine n_iconst c_112_47 ?_
                              exact n_rI c_112_48 rfl ⟨rfl, by omega⟩
                            · intro h432
                              exfalso; omega
                          · intro h433
                            refine n_iload_n c_112_28 rfl (n_iload_n c_112_29 rfl ?_)
                            refine n_if2_ne c_112_30 (by omega) (by omega) ?_ ?_
                            · intro h434
                              refine n_iinc (L2 := [some (2, 3), some (0, i), some (2, 1), some (0, ((((0 + 1) + 1) + 1) + 1)), some (0, ((((0 + 1) + 1) + 1) + 1))]) c_112_38 rfl rfl rfl (n_iinc (L2 := [some (2, 3), some (0, i), some (2, 1), some (0, ((((0 + 1) + 1) + 1) + 1)), some (0, (((((0 + 1) + 1) + 1) + 1) + 1))]) c_112_41 rfl rfl rfl (n_goto c_112_44 (n_iload c_112_10 rfl (n_aload_n c_112_12 rfl (n_alen c_112_13 sc_1.n rfl ?_)))))
                              refine n_if2_ge c_112_14 (by omega) (by omega) ?_ ?_
                              · intro h435
                                refine n_iconst c_112_47 ?_
                                exact n_rI c_112_48 rfl ⟨rfl, by omega⟩
                              · intro h436
                                exfalso; omega
                            · intro h437
                              refine n_aload_n c_112_33 rfl (n_iload c_112_34 rfl (n_ialoadV c_112_36 sc_1.n rfl rfl rfl (by omega) (t_1_4 hS) ?_))
                              intro z438 ez438 f439
                              exact n_rI c_112_37 rfl ⟨rfl, by omega⟩
                      · intro h440
                        refine n_iload_n c_112_28 rfl (n_iload_n c_112_29 rfl ?_)
                        refine n_if2_ne c_112_30 (by omega) (by omega) ?_ ?_
                        · intro h441
                          refine n_iinc (L2 := [some (2, 3), some (0, i), some (2, 1), some (0, ((((0 + 1) + 1) + 1) + 1)), some (0, (((0 + 1) + 1) + 1))]) c_112_38 rfl rfl rfl (n_iinc (L2 := [some (2, 3), some (0, i), some (2, 1), some (0, ((((0 + 1) + 1) + 1) + 1)), some (0, ((((0 + 1) + 1) + 1) + 1))]) c_112_41 rfl rfl rfl (n_goto c_112_44 (n_iload c_112_10 rfl (n_aload_n c_112_12 rfl (n_alen c_112_13 sc_1.n rfl ?_)))))
                          refine n_if2_ge c_112_14 (by omega) (by omega) ?_ ?_
                          · intro h442
                            exfalso; omega
                          · intro h443
                            refine n_aload_n c_112_17 rfl (n_aload_n c_112_18 rfl (n_iload c_112_19 rfl (n_ialoadV c_112_21 sc_1.n rfl rfl rfl (by omega) (t_1_4 hS) ?_)))
                            intro z444 ez444 f445
                            have hcst : (z444 : Int) = 36 := by omega
                            rw [hcst]
                            refine n_v1I c_112_22 rfl sc_3.n rfl rfl rfl rfl (aakp36_3  hS ) ?_
                            intro z446 M447 hP448
                            obtain ⟨eM, f448⟩ := hP448
                            subst eM
                            refine n_if0_eq c_112_25 (by omega) ?_ ?_
                            · intro h449
                              refine n_iinc (L2 := [some (2, 3), some (0, i), some (2, 1), some (0, ((((0 + 1) + 1) + 1) + 1)), some (0, (((((0 + 1) + 1) + 1) + 1) + 1))]) c_112_41 rfl rfl rfl (n_goto c_112_44 (n_iload c_112_10 rfl (n_aload_n c_112_12 rfl (n_alen c_112_13 sc_1.n rfl ?_))))
                              refine n_if2_ge c_112_14 (by omega) (by omega) ?_ ?_
                              · intro h450
                                refine n_iconst c_112_47 ?_
                                exact n_rI c_112_48 rfl ⟨rfl, by omega⟩
                              · intro h451
                                exfalso; omega
                            · intro h452
                              refine n_iload_n c_112_28 rfl (n_iload_n c_112_29 rfl ?_)
                              refine n_if2_ne c_112_30 (by omega) (by omega) ?_ ?_
                              · intro h453
                                refine n_iinc (L2 := [some (2, 3), some (0, i), some (2, 1), some (0, (((((0 + 1) + 1) + 1) + 1) + 1)), some (0, ((((0 + 1) + 1) + 1) + 1))]) c_112_38 rfl rfl rfl (n_iinc (L2 := [some (2, 3), some (0, i), some (2, 1), some (0, (((((0 + 1) + 1) + 1) + 1) + 1)), some (0, (((((0 + 1) + 1) + 1) + 1) + 1))]) c_112_41 rfl rfl rfl (n_goto c_112_44 (n_iload c_112_10 rfl (n_aload_n c_112_12 rfl (n_alen c_112_13 sc_1.n rfl ?_)))))
                                refine n_if2_ge c_112_14 (by omega) (by omega) ?_ ?_
                                · intro h454
                                  refine n_iconst c_112_47 ?_
                                  exact n_rI c_112_48 rfl ⟨rfl, by omega⟩
                                · intro h455
                                  exfalso; omega
                              · intro h456
                                refine n_aload_n c_112_33 rfl (n_iload c_112_34 rfl (n_ialoadV c_112_36 sc_1.n rfl rfl rfl (by omega) (t_1_4 hS) ?_))
                                intro z457 ez457 f458
                                exact n_rI c_112_37 rfl ⟨rfl, by omega⟩
                        · intro h459
                          refine n_aload_n c_112_33 rfl (n_iload c_112_34 rfl (n_ialoadV c_112_36 sc_1.n rfl rfl rfl (by omega) (t_1_3 hS) ?_))
                          intro z460 ez460 f461
                          exact n_rI c_112_37 rfl ⟨rfl, by omega⟩
                  · intro h462
                    refine n_aload_n c_112_33 rfl (n_iload c_112_34 rfl (n_ialoadV c_112_36 sc_1.n rfl rfl rfl (by omega) (t_1_2 hS) ?_))
                    intro z463 ez463 f464
                    exact n_rI c_112_37 rfl ⟨rfl, by omega⟩
            · intro h465
              refine n_aload_n c_112_33 rfl (n_iload c_112_34 rfl (n_ialoadV c_112_36 sc_1.n rfl rfl rfl (by omega) (t_1_1 hS) ?_))
              intro z466 ez466 f467
              exact n_rI c_112_37 rfl ⟨rfl, by omega⟩
      · intro h468
        refine n_aload_n c_112_33 rfl (n_iload c_112_34 rfl (n_ialoadV c_112_36 sc_1.n rfl rfl rfl (by omega) (t_1_0 hS) ?_))
        intro z469 ez469 f470
        exact n_rI c_112_37 rfl ⟨rfl, by omega⟩
