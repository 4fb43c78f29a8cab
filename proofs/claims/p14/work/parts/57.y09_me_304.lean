/-! What the methods tell. -/
set_option maxHeartbeats 4000000 in
theorem codeOfX6_2_3 {xs : List Int32} {e : Nat} {ac : Int} {M0 M : nM} (hS : Sf 3 ac M0 M) (hB : M 15 0 = 4) : nW xs e 53 0 [some (2, 15), some (2, 6), some (0, 9), none, none] [] M (nPI fun z M1 => M = M1 ∧ (19305 ≤ z ∧ z ≤ 19305)) := by
  have hd : (3 : Int) = 2 ∨ (3 : Int) = 3 := by decide
  have hac := hS.2.2.2.2
  refine n_iconst c_53_0 ?_
  refine n_istore_n (L2 := [some (2, 15), some (2, 6), some (0, 9), some (0, 0), none]) c_53_1 rfl rfl ?_
  refine n_iload_n c_53_2 rfl ?_
  refine n_iconst c_53_3 ?_
  refine n_isub c_53_4 rfl ?_
  refine n_istore (L2 := [some (2, 15), some (2, 6), some (0, 9), some (0, 0), some (0, (9 - 1))]) c_53_5 rfl rfl ?_
  refine n_iload c_53_7 rfl ?_
  refine n_if0_lt c_53_9 (by omega) ?_ ?_
  · intro h1
    exfalso; omega
  · intro h2
    refine n_iload_n c_53_12 rfl ?_
    refine n_aload_n c_53_13 rfl ?_
    refine n_getB c_53_14 hB ?_
    refine n_getV (bi := 0) c_53_17 sc_4.n rfl rfl rfl (t_4_0 hS) ?_
    intro z3 ez3 f4
    obtain rfl : z3 = 3 := by omega
    refine n_imul c_53_20 rfl ?_
    refine n_aload_n c_53_21 rfl ?_
    refine n_iload c_53_22 rfl ?_
    refine n_ialoadV c_53_24 sc_6.n rfl rfl rfl (by omega) (t_6k (z := 2) hS (by omega) (by omega) (by omega)) ?_
    intro z5 ez5 f6
    refine n_iadd c_53_25 rfl ?_
    refine n_istore_n (L2 := [some (2, 15), some (2, 6), some (0, 9), some (0, ((0 * 3) + z5)), some (0, (9 - 1))]) c_53_26 rfl rfl ?_
    refine n_iinc (L2 := [some (2, 15), some (2, 6), some (0, 9), some (0, ((0 * 3) + z5)), some (0, ((9 - 1) + (-1)))]) c_53_27 rfl rfl rfl ?_
    refine n_goto c_53_30 ?_
    refine n_iload c_53_7 rfl ?_
    refine n_if0_lt c_53_9 (by omega) ?_ ?_
    · intro h7
      exfalso; omega
    · intro h8
      refine n_iload_n c_53_12 rfl ?_
      refine n_aload_n c_53_13 rfl ?_
      refine n_getB c_53_14 hB ?_
      refine n_getV (bi := 0) c_53_17 sc_4.n rfl rfl rfl (t_4_0 hS) ?_
      intro z9 ez9 f10
      obtain rfl : z9 = 3 := by omega
      refine n_imul c_53_20 rfl ?_
      refine n_aload_n c_53_21 rfl ?_
      refine n_iload c_53_22 rfl ?_
      refine n_ialoadV c_53_24 sc_6.n rfl rfl rfl (by omega) (t_6k (z := 2) hS (by omega) (by omega) (by omega)) ?_
      intro z11 ez11 f12
      refine n_iadd c_53_25 rfl ?_
      refine n_istore_n (L2 := [some (2, 15), some (2, 6), some (0, 9), some (0, ((((0 * 3) + z5) * 3) + z11)), some (0, ((9 - 1) + (-1)))]) c_53_26 rfl rfl ?_
      refine n_iinc (L2 := [some (2, 15), some (2, 6), some (0, 9), some (0, ((((0 * 3) + z5) * 3) + z11)), some (0, (((9 - 1) + (-1)) + (-1)))]) c_53_27 rfl rfl rfl ?_
      refine n_goto c_53_30 ?_
      refine n_iload c_53_7 rfl ?_
      refine n_if0_lt c_53_9 (by omega) ?_ ?_
      · intro h13
        exfalso; omega
      · intro h14
        refine n_iload_n c_53_12 rfl ?_
        refine n_aload_n c_53_13 rfl ?_
        refine n_getB c_53_14 hB ?_
        refine n_getV (bi := 0) c_53_17 sc_4.n rfl rfl rfl (t_4_0 hS) ?_
        intro z15 ez15 f16
        obtain rfl : z15 = 3 := by omega
        refine n_imul c_53_20 rfl ?_
        refine n_aload_n c_53_21 rfl ?_
        refine n_iload c_53_22 rfl ?_
        refine n_ialoadV c_53_24 sc_6.n rfl rfl rfl (by omega) (t_6k (z := 2) hS (by omega) (by omega) (by omega)) ?_
        intro z17 ez17 f18
        refine n_iadd c_53_25 rfl ?_
        refine n_istore_n (L2 := [some (2, 15), some (2, 6), some (0, 9), some (0, ((((((0 * 3) + z5) * 3) + z11) * 3) + z17)), some (0, (((9 - 1) + (-1)) + (-1)))]) c_53_26 rfl rfl ?_
        refine n_iinc (L2 := [some (2, 15), some (2, 6), some (0, 9), some (0, ((((((0 * 3) + z5) * 3) + z11) * 3) + z17)), some (0, ((((9 - 1) + (-1)) + (-1)) + (-1)))]) c_53_27 rfl rfl rfl ?_
        refine n_goto c_53_30 ?_
        refine n_iload c_53_7 rfl ?_
        refine n_if0_lt c_53_9 (by omega) ?_ ?_
        · intro h19
          exfalso; omega
        · intro h20
          refine n_iload_n c_53_12 rfl ?_
          refine n_aload_n c_53_13 rfl ?_
          refine n_getB c_53_14 hB ?_
          refine n_getV (bi := 0) c_53_17 sc_4.n rfl rfl rfl (t_4_0 hS) ?_
          intro z21 ez21 f22
          obtain rfl : z21 = 3 := by omega
          refine n_imul c_53_20 rfl ?_
          refine n_aload_n c_53_21 rfl ?_
          refine n_iload c_53_22 rfl ?_
          refine n_ialoadV c_53_24 sc_6.n rfl rfl rfl (by omega) (t_6k (z := 1) hS (by omega) (by omega) (by omega)) ?_
          intro z23 ez23 f24
          refine n_iadd c_53_25 rfl ?_
          refine n_istore_n (L2 := [some (2, 15), some (2, 6), some (0, 9), some (0, ((((((((0 * 3) + z5) * 3) + z11) * 3) + z17) * 3) + z23)), some (0, ((((9 - 1) + (-1)) + (-1)) + (-1)))]) c_53_26 rfl rfl ?_
          refine n_iinc (L2 := [some (2, 15), some (2, 6), some (0, 9), some (0, ((((((((0 * 3) + z5) * 3) + z11) * 3) + z17) * 3) + z23)), some (0, (((((9 - 1) + (-1)) + (-1)) + (-1)) + (-1)))]) c_53_27 rfl rfl rfl ?_
          refine n_goto c_53_30 ?_
          refine n_iload c_53_7 rfl ?_
          refine n_if0_lt c_53_9 (by omega) ?_ ?_
          · intro h25
            exfalso; omega
          · intro h26
            refine n_iload_n c_53_12 rfl ?_
            refine n_aload_n c_53_13 rfl ?_
            refine n_getB c_53_14 hB ?_
            refine n_getV (bi := 0) c_53_17 sc_4.n rfl rfl rfl (t_4_0 hS) ?_
            intro z27 ez27 f28
            obtain rfl : z27 = 3 := by omega
            refine n_imul c_53_20 rfl ?_
            refine n_aload_n c_53_21 rfl ?_
            refine n_iload c_53_22 rfl ?_
            refine n_ialoadV c_53_24 sc_6.n rfl rfl rfl (by omega) (t_6k (z := 1) hS (by omega) (by omega) (by omega)) ?_
            intro z29 ez29 f30
            refine n_iadd c_53_25 rfl ?_
            refine n_istore_n (L2 := [some (2, 15), some (2, 6), some (0, 9), some (0, ((((((((((0 * 3) + z5) * 3) + z11) * 3) + z17) * 3) + z23) * 3) + z29)), some (0, (((((9 - 1) + (-1)) + (-1)) + (-1)) + (-1)))]) c_53_26 rfl rfl ?_
            refine n_iinc (L2 := [some (2, 15), some (2, 6), some (0, 9), some (0, ((((((((((0 * 3) + z5) * 3) + z11) * 3) + z17) * 3) + z23) * 3) + z29)), some (0, ((((((9 - 1) + (-1)) + (-1)) + (-1)) + (-1)) + (-1)))]) c_53_27 rfl rfl rfl ?_
            refine n_goto c_53_30 ?_
            refine n_iload c_53_7 rfl ?_
            refine n_if0_lt c_53_9 (by omega) ?_ ?_
            · intro h31
              exfalso; omega
            · intro h32
              refine n_iload_n c_53_12 rfl ?_
              refine n_aload_n c_53_13 rfl ?_
              refine n_getB c_53_14 hB ?_
              refine n_getV (bi := 0) c_53_17 sc_4.n rfl rfl rfl (t_4_0 hS) ?_
              intro z33 ez33 f34
              obtain rfl : z33 = 3 := by omega
              refine n_imul c_53_20 rfl ?_
              refine n_aload_n c_53_21 rfl ?_
              refine n_iload c_53_22 rfl ?_
              refine n_ialoadV c_53_24 sc_6.n rfl rfl rfl (by omega) (t_6k (z := 1) hS (by omega) (by omega) (by omega)) ?_
              intro z35 ez35 f36
              refine n_iadd c_53_25 rfl ?_
              refine n_istore_n (L2 := [some (2, 15), some (2, 6), some (0, 9), some (0, ((((((((((((0 * 3) + z5) * 3) + z11) * 3) + z17) * 3) + z23) * 3) + z29) * 3) + z35)), some (0, ((((((9 - 1) + (-1)) + (-1)) + (-1)) + (-1)) + (-1)))]) c_53_26 rfl rfl ?_
              refine n_iinc (L2 := [some (2, 15), some (2, 6), some (0, 9), some (0, ((((((((((((0 * 3) + z5) * 3) + z11) * 3) + z17) * 3) + z23) * 3) + z29) * 3) + z35)), some (0, (((((((9 - 1) + (-1)) + (-1)) + (-1)) + (-1)) + (-1)) + (-1)))]) c_53_27 rfl rfl rfl ?_
              refine n_goto c_53_30 ?_
              refine n_iload c_53_7 rfl ?_
              refine n_if0_lt c_53_9 (by omega) ?_ ?_
              · intro h37
                exfalso; omega
              · intro h38
                refine n_iload_n c_53_12 rfl ?_
                refine n_aload_n c_53_13 rfl ?_
                refine n_getB c_53_14 hB ?_
                refine n_getV (bi := 0) c_53_17 sc_4.n rfl rfl rfl (t_4_0 hS) ?_
                intro z39 ez39 f40
                obtain rfl : z39 = 3 := by omega
                refine n_imul c_53_20 rfl ?_
                refine n_aload_n c_53_21 rfl ?_
                refine n_iload c_53_22 rfl ?_
                refine n_ialoadV c_53_24 sc_6.n rfl rfl rfl (by omega) (t_6k (z := 0) hS (by omega) (by omega) (by omega)) ?_
                intro z41 ez41 f42
                refine n_iadd c_53_25 rfl ?_
                refine n_istore_n (L2 := [some (2, 15), some (2, 6), some (0, 9), some (0, ((((((((((((((0 * 3) + z5) * 3) + z11) * 3) + z17) * 3) + z23) * 3) + z29) * 3) + z35) * 3) + z41)), some (0, (((((((9 - 1) + (-1)) + (-1)) + (-1)) + (-1)) + (-1)) + (-1)))]) c_53_26 rfl rfl ?_
                refine n_iinc (L2 := [some (2, 15), some (2, 6), some (0, 9), some (0, ((((((((((((((0 * 3) + z5) * 3) + z11) * 3) + z17) * 3) + z23) * 3) + z29) * 3) + z35) * 3) + z41)), some (0, ((((((((9 - 1) + (-1)) + (-1)) + (-1)) + (-1)) + (-1)) + (-1)) + (-1)))]) c_53_27 rfl rfl rfl ?_
                refine n_goto c_53_30 ?_
                refine n_iload c_53_7 rfl ?_
                refine n_if0_lt c_53_9 (by omega) ?_ ?_
                · intro h43
                  exfalso; omega
                · intro h44
                  refine n_iload_n c_53_12 rfl ?_
                  refine n_aload_n c_53_13 rfl ?_
                  refine n_getB c_53_14 hB ?_
                  refine n_getV (bi := 0) c_53_17 sc_4.n rfl rfl rfl (t_4_0 hS) ?_
                  intro z45 ez45 f46
                  obtain rfl : z45 = 3 := by omega
                  refine n_imul c_53_20 rfl ?_
                  refine n_aload_n c_53_21 rfl ?_
                  refine n_iload c_53_22 rfl ?_
                  refine n_ialoadV c_53_24 sc_6.n rfl rfl rfl (by omega) (t_6k (z := 0) hS (by omega) (by omega) (by omega)) ?_
                  intro z47 ez47 f48
                  refine n_iadd c_53_25 rfl ?_
                  refine n_istore_n (L2 := [some (2, 15), some (2, 6), some (0, 9), some (0, ((((((((((((((((0 * 3) + z5) * 3) + z11) * 3) + z17) * 3) + z23) * 3) + z29) * 3) + z35) * 3) + z41) * 3) + z47)), some (0, ((((((((9 - 1) + (-1)) + (-1)) + (-1)) + (-1)) + (-1)) + (-1)) + (-1)))]) c_53_26 rfl rfl ?_
                  refine n_iinc (L2 := [some (2, 15), some (2, 6), some (0, 9), some (0, ((((((((((((((((0 * 3) + z5) * 3) + z11) * 3) + z17) * 3) + z23) * 3) + z29) * 3) + z35) * 3) + z41) * 3) + z47)), some (0, (((((((((9 - 1) + (-1)) + (-1)) + (-1)) + (-1)) + (-1)) + (-1)) + (-1)) + (-1)))]) c_53_27 rfl rfl rfl ?_
                  refine n_goto c_53_30 ?_
                  refine n_iload c_53_7 rfl ?_
                  refine n_if0_lt c_53_9 (by omega) ?_ ?_
                  · intro h49
                    exfalso; omega
                  · intro h50
                    refine n_iload_n c_53_12 rfl ?_
                    refine n_aload_n c_53_13 rfl ?_
                    refine n_getB c_53_14 hB ?_
                    refine n_getV (bi := 0) c_53_17 sc_4.n rfl rfl rfl (t_4_0 hS) ?_
                    intro z51 ez51 f52
                    obtain rfl : z51 = 3 := by omega
                    refine n_imul c_53_20 rfl ?_
                    refine n_aload_n c_53_21 rfl ?_
                    refine n_iload c_53_22 rfl ?_
                    refine n_ialoadV c_53_24 sc_6.n rfl rfl rfl (by omega) (t_6k (z := 0) hS (by omega) (by omega) (by omega)) ?_
                    intro z53 ez53 f54
                    refine n_iadd c_53_25 rfl ?_
                    refine n_istore_n (L2 := [some (2, 15), some (2, 6), some (0, 9), some (0, ((((((((((((((((((0 * 3) + z5) * 3) + z11) * 3) + z17) * 3) + z23) * 3) + z29) * 3) + z35) * 3) + z41) * 3) + z47) * 3) + z53)), some (0, (((((((((9 - 1) + (-1)) + (-1)) + (-1)) + (-1)) + (-1)) + (-1)) + (-1)) + (-1)))]) c_53_26 rfl rfl ?_
                    refine n_iinc (L2 := [some (2, 15), some (2, 6), some (0, 9), some (0, ((((((((((((((((((0 * 3) + z5) * 3) + z11) * 3) + z17) * 3) + z23) * 3) + z29) * 3) + z35) * 3) + z41) * 3) + z47) * 3) + z53)), some (0, ((((((((((9 - 1) + (-1)) + (-1)) + (-1)) + (-1)) + (-1)) + (-1)) + (-1)) + (-1)) + (-1)))]) c_53_27 rfl rfl rfl ?_
                    refine n_goto c_53_30 ?_
                    refine n_iload c_53_7 rfl ?_
                    refine n_if0_lt c_53_9 (by omega) ?_ ?_
                    · intro h55
                      refine n_iload_n c_53_33 rfl ?_
                      exact n_rI c_53_34 rfl ⟨rfl, by omega⟩
                    · intro h56
                      exfalso; omega

set_option maxHeartbeats 4000000 in
theorem beginX_2_3 {xs : List Int32} {e : Nat} {ac : Int} {M : nM} {Ms : nM} (hS : Sf 3 ac M M) (hB : M 15 0 = 4) (hpz : PZ M) (hfm : FM Ms M) : nW xs (e + 3) 50 0 [some (2, 15), some (0, 2), none] [] M (nPV fun M1 => Sf 3 ac M1 M1 ∧ MK 19683 27 26 702 18954 1 3 9 27 81 243 729 2187 6561 M1 ∧ (MI 3 9 2 ac Ms M1) ∧ (∀ j : Int, 0 ≤ j → j < 2 → HAS M1 (mpj 3 9 j)) ∧ (FM Ms M1) ∧ (VS 3 9 2 ac Ms M1) ∧ (∀ j : Int, 0 ≤ j → j < 2 → HSs M1 (mpj 3 9 j) 0)) := by
  have hd : (3 : Int) = 2 ∨ (3 : Int) = 3 := by decide
  have hac := hS.2.2.2.2
  refine n_aload_n c_50_0 rfl ?_
  refine n_getB c_50_1 hB ?_
  refine n_iload_n c_50_4 rfl ?_
  refine n_v1I c_50_5 rfl sc_4.n rfl rfl rfl rfl (power2_3  hS ) ?_
  intro z1 M2 hP3
  obtain ⟨eM, f3⟩ := hP3
  subst eM
  obtain rfl : z1 = 9 := by omega
  refine n_istore_n (L2 := [some (2, 15), some (0, 2), some (0, 9)]) c_50_8 rfl rfl ?_
  refine n_aload_n c_50_9 rfl ?_
  refine n_getP c_50_10 ?_
  intro p4 ep4
  refine n_alenP hS c_50_13 ep4 ?_
  intro z5 hz5
  refine n_aload_n c_50_14 rfl ?_
  refine n_getB c_50_15 hB ?_
  refine n_iload_n c_50_18 rfl ?_
  refine n_v1I c_50_19 rfl sc_4.n rfl rfl rfl rfl (codes2_3  hS ) ?_
  intro z6 M7 hP8
  obtain ⟨eM, f8⟩ := hP8
  subst eM
  obtain rfl : z6 = 19683 := by omega
  refine n_if2_ge c_50_22 (by omega) (by omega) ?_ ?_
  · intro h9
    refine n_aload_n c_50_34 rfl ?_
    refine n_aload_n c_50_35 rfl ?_
    refine n_getR c_50_36 sc_15.n rfl rfl rfl r_15_6 ?_
    refine n_iconst c_50_39 ?_
    refine n_iload_n c_50_40 rfl ?_
    refine n_v3V c_50_41 rfl sc_15.n rfl rfl rfl rfl (weighFrom25_2_3 (Ms := M) hS (by exact hB)) ?_
    intro  M10 hP11
    obtain ⟨hS10, f11p0, f11p1⟩ := hP11
    have hS10c := hS10.2.2.2.1.1
    have hS10 := hS10.refl
    have hBM10 := (f11p0 15 0 (by omega) (by omega)).trans hB
    have hPM10 := f11p0 15 9 (by omega) (by omega)
    refine n_aload_n c_50_44 rfl ?_
    refine n_aload_n c_50_45 rfl ?_
    refine n_getR c_50_46 sc_15.n rfl rfl rfl r_15_7 ?_
    refine n_iconst c_50_49 ?_
    refine n_iload_n c_50_50 rfl ?_
    refine n_v3V c_50_51 rfl sc_15.n rfl rfl rfl rfl (weighFrom27_2_3 (Ms := M10) hS10 (by exact hBM10)) ?_
    intro  M12 hP13
    obtain ⟨hS12, f13p0, f13p1⟩ := hP13
    have hS12c := hS12.2.2.2.1.1
    have hS12 := hS12.refl
    have hBM12 := (f13p0 15 0 (by omega) (by omega)).trans hBM10
    have hPM12 := f13p0 15 9 (by omega) (by omega)
    have f11p1M12 := f11p1.of (fun i => f13p0 25 i (by omega) (by omega)) (fun i => f13p0 26 i (by omega) (by omega))
    refine n_aload_n c_50_54 rfl ?_
    refine n_aload_n c_50_55 rfl ?_
    refine n_getR c_50_56 sc_15.n rfl rfl rfl r_15_8 ?_
    refine n_bipush c_50_59 rfl ?_
    refine n_iload_n c_50_61 rfl ?_
    refine n_v3V c_50_62 rfl sc_15.n rfl rfl rfl rfl (weighFrom29_2_3 (Ms := M12) hS12 (by exact hBM12)) ?_
    intro  M14 hP15
    obtain ⟨hS14, f15p0, f15p1⟩ := hP15
    have hS14c := hS14.2.2.2.1.1
    have hS14 := hS14.refl
    have hBM14 := (f15p0 15 0 (by omega) (by omega)).trans hBM12
    have hPM14 := f15p0 15 9 (by omega) (by omega)
    have f11p1M12M14 := f11p1M12.of (fun i => f15p0 25 i (by omega) (by omega)) (fun i => f15p0 26 i (by omega) (by omega))
    have f13p1M14 := f13p1.of (fun i => f15p0 27 i (by omega) (by omega)) (fun i => f15p0 28 i (by omega) (by omega))
    refine n_aload_n c_50_65 rfl ?_
    refine n_iconst c_50_66 ?_
    refine n_putM (bi := 10) hS14 c_50_67 sc_15.n rfl rfl rfl rfl (m_15_10 (by omega)) ?_
    intro M16 eM16 hS16
    have g16_0 : M16 15 10 = 0 := by rw [eM16]; exact nu_s _ _ _ _
    have qa : M16 15 0 = M14 15 0 := by rw [eM16]; exact nu_i (by omega)
    have qb : M16 15 9 = M14 15 9 := by rw [eM16]; exact nu_i (by omega)
    have hKb : MK 19683 27 26 702 18954 1 3 9 27 81 243 729 2187 6561 M16 := MK.mk0 (qa.trans hBM14) (by omega) (by omega) (by omega) (by omega) (f11p1M12M14.of (fun i => by rw [eM16]; exact nu_a (by omega)) (fun i => by rw [eM16]; exact nu_a (by omega))) (f13p1M14.of (fun i => by rw [eM16]; exact nu_a (by omega)) (fun i => by rw [eM16]; exact nu_a (by omega))) (f15p1.of (fun i => by rw [eM16]; exact nu_a (by omega)) (fun i => by rw [eM16]; exact nu_a (by omega)))
    have fw : ∀ a i : Int, (a < 25 ∨ 30 < a) → ¬ (a = 15 ∧ i = 10) → M16 a i = M a i := fun a i h1 h2 => by rw [eM16, nu_e, if_neg h2, f15p0 a i (by omega) (by omega), f13p0 a i (by omega) (by omega), f11p0 a i (by omega) (by omega)]
    have pzb : PZ M := hpz
    have fmb : FM Ms M := hfm
    have pz0 : PZ M16 := fun c c0 => by rw [fw 15 9 (by omega) (by omega), fw _ c (by have y := hS16.p9; rw [fw 15 9 (by omega) (by omega)] at y; omega) (by have y := hS16.p9; rw [fw 15 9 (by omega) (by omega)] at y; omega)]; exact pzb c c0
    have fm0 : FM Ms M16 := fun a i p1 p2 p3 => (fw a i (by omega) (by omega)).trans (fmb a i p1 p2 p3)
    have c10 : M16 15 10 = 0 := by rw [eM16]; exact nu_s _ _ _ _
    have mi0 : MI 3 9 2 ac Ms M16 := MI.ini pz0 (by omega)
    have vs0 : VS 3 9 2 ac Ms M16 := fun i i0 i1 => by omega
    refine n_aload_n c_50_70 rfl ?_
    refine n_aload_n c_50_71 rfl ?_
    refine n_aload_n c_50_72 rfl ?_
    refine n_getB c_50_73 hKb.b ?_
    refine n_getR c_50_76 sc_4.n rfl rfl rfl r_4_4 ?_
    refine n_iload_n c_50_79 rfl ?_
    refine n_v2I c_50_80 rfl sc_15.n rfl rfl rfl rfl (codeOfX7_2_3  hS16 (by exact hKb.b)) ?_
    intro z17 M18 hP19
    obtain ⟨eM, f19⟩ := hP19
    subst eM
    obtain rfl : z17 = 15897 := by omega
    refine n_iconst c_50_83 ?_
    refine n_v2V c_50_84 rfl sc_15.n rfl rfl rfl rfl (addX_2_3 (c := 15897) (s := 0) (Ms := Ms) hS16 (by omega) (by omega) hKb (by exact mi0) (by exact pz0 _ (by omega)) (by exact Clo.pj (j := 0) (by decide +kernel) (by omega) (by omega))) ?_
    intro  M20 hP21
    obtain ⟨hS20, f21K, f21p0, f21p1, f21p2, f21p3, f21p4⟩ := hP21
    have fm1 : FM Ms M20 := fm0.tr f21p3.fb.1
    have n0 : M20 15 10 = 1 := by have y := f21p2; unfold AD at y; omega
    have v0x : M20 20 0 = 15897 := by have y := f21p2; unfold AD at y; have y2 : M16 15 10 = 0 := (by omega); rw [y2] at y; exact (y.resolve_left (by omega)).2
    have vs1 := f21p4.vs vs0 (VAL.pj (j := 0) (by decide +kernel) (by omega) (by omega))
    have az0 := f21p4.resolve_left (fun u => by have u1 := u.1; omega)
    have w0x : M20 21 0 = 0 := by have y := az0.2.2.1; rw [show M16 15 10 = 0 by omega] at y; exact y
    refine n_iload_n c_50_87 rfl ?_
    refine n_iconst c_50_88 ?_
    refine n_if2_le c_50_89 (by omega) (by omega) ?_ ?_
    · intro h22
      exfalso; omega
    · intro h23
      refine n_aload_n c_50_92 rfl ?_
      refine n_aload_n c_50_93 rfl ?_
      refine n_aload_n c_50_94 rfl ?_
      refine n_getB c_50_95 f21K.b ?_
      refine n_getR c_50_98 sc_4.n rfl rfl rfl r_4_3 ?_
      refine n_iload_n c_50_101 rfl ?_
      refine n_v2I c_50_102 rfl sc_15.n rfl rfl rfl rfl (codeOfX6_2_3  hS20 (by exact f21K.b)) ?_
      intro z24 M25 hP26
      obtain ⟨eM, f26⟩ := hP26
      subst eM
      obtain rfl : z24 = 19305 := by omega
      refine n_iconst c_50_105 ?_
      refine n_v2V c_50_106 rfl sc_15.n rfl rfl rfl rfl (addX_2_3 (c := 19305) (s := 0) (Ms := Ms) hS20 (by omega) (by omega) f21K (by exact f21p0) (by exact MI.nw1 f21p0 (by omega) n0 v0x (by omega)) (by exact Clo.pj (j := 1) (by decide +kernel) (by omega) (by omega))) ?_
      intro  M27 hP28
      obtain ⟨hS27, f28K, f28p0, f28p1, f28p2, f28p3, f28p4⟩ := hP28
      have fm2 : FM Ms M27 := fm1.tr f28p3.fb.1
      have n1 : M27 15 10 = 2 := by have y := f28p2; unfold AD at y; omega
      have v1x : M27 20 1 = 19305 := by have y := f28p2; unfold AD at y; have y2 : M20 15 10 = 1 := (by omega); rw [y2] at y; exact (y.resolve_left (by omega)).2
      have v0xx : M27 20 0 = 15897 := by rw [f28p1.2 0 (by omega) (by omega)]; exact v0x
      have vs2 := f28p4.vs vs1 (VAL.pj (j := 1) (by decide +kernel) (by omega) (by omega))
      have az1 := f28p4.resolve_left (fun u => by have u1 := u.1; omega)
      have w1x : M27 21 1 = 0 := by have y := az1.2.2.1; rw [show M20 15 10 = 1 by omega] at y; exact y
      have w0xx : M27 21 0 = 0 := by rw [(az1.2.2.2 0 (by omega) (by omega)).2]; exact w0x
      refine n_iload_n c_50_109 rfl ?_
      refine n_iconst c_50_110 ?_
      refine n_if2_le c_50_111 (by omega) (by omega) ?_ ?_
      · intro h29
        exact n_rV c_50_131 rfl ⟨hS27, f28K, by exact f28p0, by exact fun j j0 j1 => by rcases (show j = 0 ∨ j = 1 by omega) with rfl | rfl; (exact ⟨0, by omega, by omega, by rw [v0xx]; decide +kernel⟩); (exact ⟨1, by omega, by omega, by rw [v1x]; decide +kernel⟩), by exact fm2, by exact vs2, by exact fun j j0 j1 => by rcases (show j = 0 ∨ j = 1 by omega) with rfl | rfl; (exact ⟨0, by omega, by omega, by rw [v0xx]; decide +kernel, by omega⟩); (exact ⟨1, by omega, by omega, by rw [v1x]; decide +kernel, by omega⟩)⟩
      · intro h30
        exfalso; omega
  · intro h31
    refine n_aload_n c_50_25 rfl ?_
    refine n_sipush c_50_26 rfl ?_
    refine n_bigQ hS c_50_29 c_50_31 (by omega) ?_
    intro M32 fM32 eM32 hS32
    have eM329 := eM32.1
    have hB32 := (fM32 15 0 (by omega) (by omega) (by omega)).trans hB
    refine n_aload_n c_50_34 rfl ?_
    refine n_aload_n c_50_35 rfl ?_
    refine n_getR c_50_36 sc_15.n rfl rfl rfl r_15_6 ?_
    refine n_iconst c_50_39 ?_
    refine n_iload_n c_50_40 rfl ?_
    refine n_v3V c_50_41 rfl sc_15.n rfl rfl rfl rfl (weighFrom25_2_3 (Ms := M32) hS32 (by exact hB32)) ?_
    intro  M33 hP34
    obtain ⟨hS33, f34p0, f34p1⟩ := hP34
    have hS33c := hS33.2.2.2.1.1
    have hS33 := hS33.refl
    have hBM33 := (f34p0 15 0 (by omega) (by omega)).trans hB32
    have hPM33 := f34p0 15 9 (by omega) (by omega)
    refine n_aload_n c_50_44 rfl ?_
    refine n_aload_n c_50_45 rfl ?_
    refine n_getR c_50_46 sc_15.n rfl rfl rfl r_15_7 ?_
    refine n_iconst c_50_49 ?_
    refine n_iload_n c_50_50 rfl ?_
    refine n_v3V c_50_51 rfl sc_15.n rfl rfl rfl rfl (weighFrom27_2_3 (Ms := M33) hS33 (by exact hBM33)) ?_
    intro  M35 hP36
    obtain ⟨hS35, f36p0, f36p1⟩ := hP36
    have hS35c := hS35.2.2.2.1.1
    have hS35 := hS35.refl
    have hBM35 := (f36p0 15 0 (by omega) (by omega)).trans hBM33
    have hPM35 := f36p0 15 9 (by omega) (by omega)
    have f34p1M35 := f34p1.of (fun i => f36p0 25 i (by omega) (by omega)) (fun i => f36p0 26 i (by omega) (by omega))
    refine n_aload_n c_50_54 rfl ?_
    refine n_aload_n c_50_55 rfl ?_
    refine n_getR c_50_56 sc_15.n rfl rfl rfl r_15_8 ?_
    refine n_bipush c_50_59 rfl ?_
    refine n_iload_n c_50_61 rfl ?_
    refine n_v3V c_50_62 rfl sc_15.n rfl rfl rfl rfl (weighFrom29_2_3 (Ms := M35) hS35 (by exact hBM35)) ?_
    intro  M37 hP38
    obtain ⟨hS37, f38p0, f38p1⟩ := hP38
    have hS37c := hS37.2.2.2.1.1
    have hS37 := hS37.refl
    have hBM37 := (f38p0 15 0 (by omega) (by omega)).trans hBM35
    have hPM37 := f38p0 15 9 (by omega) (by omega)
    have f34p1M35M37 := f34p1M35.of (fun i => f38p0 25 i (by omega) (by omega)) (fun i => f38p0 26 i (by omega) (by omega))
    have f36p1M37 := f36p1.of (fun i => f38p0 27 i (by omega) (by omega)) (fun i => f38p0 28 i (by omega) (by omega))
    refine n_aload_n c_50_65 rfl ?_
    refine n_iconst c_50_66 ?_
    refine n_putM (bi := 10) hS37 c_50_67 sc_15.n rfl rfl rfl rfl (m_15_10 (by omega)) ?_
    intro M39 eM39 hS39
    have g39_0 : M39 15 10 = 0 := by rw [eM39]; exact nu_s _ _ _ _
    have qa : M39 15 0 = M37 15 0 := by rw [eM39]; exact nu_i (by omega)
    have qb : M39 15 9 = M37 15 9 := by rw [eM39]; exact nu_i (by omega)
    have hKb : MK 19683 27 26 702 18954 1 3 9 27 81 243 729 2187 6561 M39 := MK.mk0 (qa.trans hBM37) (by omega) (by omega) (by omega) (by omega) (f34p1M35M37.of (fun i => by rw [eM39]; exact nu_a (by omega)) (fun i => by rw [eM39]; exact nu_a (by omega))) (f36p1M37.of (fun i => by rw [eM39]; exact nu_a (by omega)) (fun i => by rw [eM39]; exact nu_a (by omega))) (f38p1.of (fun i => by rw [eM39]; exact nu_a (by omega)) (fun i => by rw [eM39]; exact nu_a (by omega)))
    have fw : ∀ a i : Int, (a < 25 ∨ 30 < a) → ¬ (a = 15 ∧ i = 10) → M39 a i = M32 a i := fun a i h1 h2 => by rw [eM39, nu_e, if_neg h2, f38p0 a i (by omega) (by omega), f36p0 a i (by omega) (by omega), f34p0 a i (by omega) (by omega)]
    have pzb : PZ M32 := fun c _ => by rw [eM32.1]; exact eM32.2 c
    have fmb : FM Ms M32 := fun a i p1 p2 p3 => (fM32 a i p3 p2 (by omega)).trans (hfm a i p1 p2 p3)
    have pz0 : PZ M39 := fun c c0 => by rw [fw 15 9 (by omega) (by omega), fw _ c (by have y := hS39.p9; rw [fw 15 9 (by omega) (by omega)] at y; omega) (by have y := hS39.p9; rw [fw 15 9 (by omega) (by omega)] at y; omega)]; exact pzb c c0
    have fm0 : FM Ms M39 := fun a i p1 p2 p3 => (fw a i (by omega) (by omega)).trans (fmb a i p1 p2 p3)
    have c10 : M39 15 10 = 0 := by rw [eM39]; exact nu_s _ _ _ _
    have mi0 : MI 3 9 2 ac Ms M39 := MI.ini pz0 (by omega)
    have vs0 : VS 3 9 2 ac Ms M39 := fun i i0 i1 => by omega
    refine n_aload_n c_50_70 rfl ?_
    refine n_aload_n c_50_71 rfl ?_
    refine n_aload_n c_50_72 rfl ?_
    refine n_getB c_50_73 hKb.b ?_
    refine n_getR c_50_76 sc_4.n rfl rfl rfl r_4_4 ?_
    refine n_iload_n c_50_79 rfl ?_
    refine n_v2I c_50_80 rfl sc_15.n rfl rfl rfl rfl (codeOfX7_2_3  hS39 (by exact hKb.b)) ?_
    intro z40 M41 hP42
    obtain ⟨eM, f42⟩ := hP42
    subst eM
    obtain rfl : z40 = 15897 := by omega
    refine n_iconst c_50_83 ?_
    refine n_v2V c_50_84 rfl sc_15.n rfl rfl rfl rfl (addX_2_3 (c := 15897) (s := 0) (Ms := Ms) hS39 (by omega) (by omega) hKb (by exact mi0) (by exact pz0 _ (by omega)) (by exact Clo.pj (j := 0) (by decide +kernel) (by omega) (by omega))) ?_
    intro  M43 hP44
    obtain ⟨hS43, f44K, f44p0, f44p1, f44p2, f44p3, f44p4⟩ := hP44
    have fm1 : FM Ms M43 := fm0.tr f44p3.fb.1
    have n0 : M43 15 10 = 1 := by have y := f44p2; unfold AD at y; omega
    have v0x : M43 20 0 = 15897 := by have y := f44p2; unfold AD at y; have y2 : M39 15 10 = 0 := (by omega); rw [y2] at y; exact (y.resolve_left (by omega)).2
    have vs1 := f44p4.vs vs0 (VAL.pj (j := 0) (by decide +kernel) (by omega) (by omega))
    have az0 := f44p4.resolve_left (fun u => by have u1 := u.1; omega)
    have w0x : M43 21 0 = 0 := by have y := az0.2.2.1; rw [show M39 15 10 = 0 by omega] at y; exact y
    refine n_iload_n c_50_87 rfl ?_
    refine n_iconst c_50_88 ?_
    refine n_if2_le c_50_89 (by omega) (by omega) ?_ ?_
    · intro h45
      exfalso; omega
    · intro h46
      refine n_aload_n c_50_92 rfl ?_
      refine n_aload_n c_50_93 rfl ?_
      refine n_aload_n c_50_94 rfl ?_
      refine n_getB c_50_95 f44K.b ?_
      refine n_getR c_50_98 sc_4.n rfl rfl rfl r_4_3 ?_
      refine n_iload_n c_50_101 rfl ?_
      refine n_v2I c_50_102 rfl sc_15.n rfl rfl rfl rfl (codeOfX6_2_3  hS43 (by exact f44K.b)) ?_
      intro z47 M48 hP49
      obtain ⟨eM, f49⟩ := hP49
      subst eM
      obtain rfl : z47 = 19305 := by omega
      refine n_iconst c_50_105 ?_
      refine n_v2V c_50_106 rfl sc_15.n rfl rfl rfl rfl (addX_2_3 (c := 19305) (s := 0) (Ms := Ms) hS43 (by omega) (by omega) f44K (by exact f44p0) (by exact MI.nw1 f44p0 (by omega) n0 v0x (by omega)) (by exact Clo.pj (j := 1) (by decide +kernel) (by omega) (by omega))) ?_
      intro  M50 hP51
      obtain ⟨hS50, f51K, f51p0, f51p1, f51p2, f51p3, f51p4⟩ := hP51
      have fm2 : FM Ms M50 := fm1.tr f51p3.fb.1
      have n1 : M50 15 10 = 2 := by have y := f51p2; unfold AD at y; omega
      have v1x : M50 20 1 = 19305 := by have y := f51p2; unfold AD at y; have y2 : M43 15 10 = 1 := (by omega); rw [y2] at y; exact (y.resolve_left (by omega)).2
      have v0xx : M50 20 0 = 15897 := by rw [f51p1.2 0 (by omega) (by omega)]; exact v0x
      have vs2 := f51p4.vs vs1 (VAL.pj (j := 1) (by decide +kernel) (by omega) (by omega))
      have az1 := f51p4.resolve_left (fun u => by have u1 := u.1; omega)
      have w1x : M50 21 1 = 0 := by have y := az1.2.2.1; rw [show M43 15 10 = 1 by omega] at y; exact y
      have w0xx : M50 21 0 = 0 := by rw [(az1.2.2.2 0 (by omega) (by omega)).2]; exact w0x
      refine n_iload_n c_50_109 rfl ?_
      refine n_iconst c_50_110 ?_
      refine n_if2_le c_50_111 (by omega) (by omega) ?_ ?_
      · intro h52
        exact n_rV c_50_131 rfl ⟨hS50, f51K, by exact f51p0, by exact fun j j0 j1 => by rcases (show j = 0 ∨ j = 1 by omega) with rfl | rfl; (exact ⟨0, by omega, by omega, by rw [v0xx]; decide +kernel⟩); (exact ⟨1, by omega, by omega, by rw [v1x]; decide +kernel⟩), by exact fm2, by exact vs2, by exact fun j j0 j1 => by rcases (show j = 0 ∨ j = 1 by omega) with rfl | rfl; (exact ⟨0, by omega, by omega, by rw [v0xx]; decide +kernel, by omega⟩); (exact ⟨1, by omega, by omega, by rw [v1x]; decide +kernel, by omega⟩)⟩
      · intro h53
        exfalso; omega

set_option maxHeartbeats 4000000 in
theorem makeX_2_3_c {xs : List Int32} {e : Nat} {ac : Int} {M : nM} {c m : Int} {Ms : nM} (hS : Sf 3 ac M M) (hc : 0 ≤ c ∧ c ≤ 8) (hm : -2147483648 ≤ m ∧ m ≤ 2147483647) (hca : c = ac) (hms : M = Ms) (hpz : PZ M) (hwa : ∀ a : Int, 0 ≤ a → a < ac → WAct 3 (55 + 3 * a) Ms) (hmo : NCl 3 9 2 ac (Tm Ms) ≤ m) : ∀ nn : Nat, (∀ (x7 : Int) (M : nM), Sf 3 ac M M → (0 ≤ x7 ∧ x7 ≤ 257) → (MK 19683 27 26 702 18954 1 3 9 27 81 243 729 2187 6561 M) → (MI 3 9 2 ac Ms M) → (FM Ms M) → (∀ j : Int, 0 ≤ j → j < 2 → HAS M (mpj 3 9 j)) → (PD 3 9 ac x7 Ms M ∨ m ≤ M 15 10 ∨ 256 < M 15 10) → (x7 ≤ M 15 10) → (VS 3 9 2 ac Ms M) → (I2 x7 M) → (PDz 3 9 ac x7 Ms M) → (∀ j : Int, 0 ≤ j → j < 2 → HSs M (mpj 3 9 j) 0) → (257 - x7) * 11 + 11 < (nn : Int) → nW xs (e + 4) 49 13 [some (2, 15), none, none, some (2, 12), some (0, c), some (0, m), some (2, 106), some (0, x7), none] [] M (nPV fun M1 => Sf 3 ac M1 M1 ∧ MK 19683 27 26 702 18954 1 3 9 27 81 243 729 2187 6561 M1 ∧ (M1 106 0 = 1) ∧ (KN (NCl 3 9 2 ac (Tm Ms)) (M1 106 1) (M1 106 2)) ∧ (PZ M1) ∧ (FMQ 106 Ms M1) ∧ (M1 106 1 = 0 → LO 3 9 2 ac Ms 106 (M1 106 2) M1) ∧ (M1 106 1 = 1 → M1 106 2 = 0))) ∧ (∀ (x7 x8 : Int) (M : nM), Sf 3 ac M M → (0 ≤ x7 ∧ x7 ≤ 256) → (0 ≤ x8 ∧ x8 ≤ 8) → (MK 19683 27 26 702 18954 1 3 9 27 81 243 729 2187 6561 M) → (MI 3 9 2 ac Ms M) → (FM Ms M) → (∀ j : Int, 0 ≤ j → j < 2 → HAS M (mpj 3 9 j)) → (x7 < M 15 10) → ((M 15 11 = 3000002 ∧ PD 3 9 ac x7 Ms M ∧ (256 < M 15 10 ∨ PDa 3 9 x7 x8 Ms M)) ∨ m ≤ M 15 10) → (VS 3 9 2 ac Ms M) → (I2 (x7 + 1) M) → (PDz 3 9 ac x7 Ms M) → (∀ j : Int, 0 ≤ j → j < 2 → HSs M (mpj 3 9 j) 0) → (CEI 3 9 2 ac Ms M) → (PZa 3 9 x7 x8 Ms M) → (257 - x7) * 11 + (8 - x8) * 1 + 1 < (nn : Int) → nW xs (e + 4) 49 65 [some (2, 15), none, none, some (2, 12), some (0, c), some (0, m), some (2, 106), some (0, x7), some (0, x8)] [] M (nPV fun M1 => Sf 3 ac M1 M1 ∧ MK 19683 27 26 702 18954 1 3 9 27 81 243 729 2187 6561 M1 ∧ (M1 106 0 = 1) ∧ (KN (NCl 3 9 2 ac (Tm Ms)) (M1 106 1) (M1 106 2)) ∧ (PZ M1) ∧ (FMQ 106 Ms M1) ∧ (M1 106 1 = 0 → LO 3 9 2 ac Ms 106 (M1 106 2) M1) ∧ (M1 106 1 = 1 → M1 106 2 = 0))) := by
  have hd : (3 : Int) = 2 ∨ (3 : Int) = 3 := by decide
  have hac := hS.2.2.2.2
  have hT := Tm_r hS
  rw [hms] at hT
  intro nn
  induction nn with
  | zero => refine ⟨?_, ?_⟩ <;> (intros; omega)
  | succ nn ih =>
    refine ⟨?_, ?_⟩
    · intro x7 M hS k7 hK v0 v1 v2 v3 v4 v5 v6 v7 v8 hnn
      refine n_iload c_49_13 rfl ?_
      refine n_aload_n c_49_15 rfl ?_
      refine n_getV (bi := 10) c_49_16 sc_15.n rfl rfl rfl (t_15_10 hS) ?_
      intro z1 ez1 f2
      refine n_if2_ge c_49_19 (by omega) (by omega) ?_ ?_
      · intro h3
        refine n_aload_n c_49_110 rfl ?_
        refine n_aload c_49_111 rfl ?_
        refine n_v1V c_49_113 rfl sc_15.n rfl rfl rfl rfl (endX_2_3 (Ms := Ms) (Mt := M) hS hK (by rfl) (by exact v0) (by exact v5) (by exact CLp.mk v8 v7 (by omega))) ?_
        intro  M4 hP5
        obtain ⟨hS4, f5K, f5p0, f5p1, f5p2, f5p3, f5p4⟩ := hP5
        exact n_rV c_49_116 rfl ⟨hS4, f5K, by exact f5p0, by exact v0.kn hd hT (by omega) v2 hmo v3 (by omega) f5p1, by exact f5p2, by exact fun a i p1 p2 p3 p4 p5 p6 => (f5p3 a i p1 p2 p3 p4 p5 p6).trans (v1 a i p1 p2 p3), by exact f5p4, by have y := f5p1; unfold KQ at y; omega⟩
      · intro h6
        refine n_aload_n c_49_22 rfl ?_
        refine n_getV (bi := 10) c_49_23 sc_15.n rfl rfl rfl (t_15_10 hS) ?_
        intro z7 ez7 f8
        refine n_sipush c_49_26 rfl ?_
        refine n_if2_gt c_49_29 (by omega) (by omega) ?_ ?_
        · intro h9
          refine n_aload_n c_49_110 rfl ?_
          refine n_aload c_49_111 rfl ?_
          refine n_v1V c_49_113 rfl sc_15.n rfl rfl rfl rfl (endX_2_3 (Ms := Ms) (Mt := M) hS hK (by rfl) (by exact v0) (by exact v5) (by exact CLp.mk v8 v7 (by omega))) ?_
          intro  M10 hP11
          obtain ⟨hS10, f11K, f11p0, f11p1, f11p2, f11p3, f11p4⟩ := hP11
          exact n_rV c_49_116 rfl ⟨hS10, f11K, by exact f11p0, by exact v0.kn hd hT (by omega) v2 hmo v3 (by omega) f11p1, by exact f11p2, by exact fun a i p1 p2 p3 p4 p5 p6 => (f11p3 a i p1 p2 p3 p4 p5 p6).trans (v1 a i p1 p2 p3), by exact f11p4, by have y := f11p1; unfold KQ at y; omega⟩
        · intro h12
          refine n_aload_n c_49_32 rfl ?_
          refine n_iload c_49_33 rfl ?_
          refine n_v1V c_49_35 rfl sc_15.n rfl rfl rfl rfl (bringX_2_3 (e0 := x7) (Ms := Ms) (Mt := M) hS (by omega) hK (by rfl) (by exact v0) (by omega)) ?_
          intro  M13 hP14
          obtain ⟨hS13, f14K, f14p0, f14p1, f14p2, f14p3, f14p4, f14p5, f14p6⟩ := hP14
          obtain ⟨yb, yb0, yb1, swb⟩ := f14p5
          refine n_aload_n c_49_38 rfl ?_
          refine n_aload_n c_49_39 rfl ?_
          refine n_getV (bi := 10) c_49_40 sc_15.n rfl rfl rfl (t_15_10 hS13) ?_
          intro z15 ez15 f16
          refine n_iload c_49_43 rfl ?_
          refine n_if2_ne c_49_45 (by omega) (by omega) ?_ ?_
          · intro h17
            refine n_ldc (n := 3000002) c_49_57 rfl ?_
            refine n_putM (bi := 11) hS13 c_49_59 sc_15.n rfl rfl rfl rfl (m_15_11 (by omega)) ?_
            intro M18 eM18 hS18
            have hK18 := f14K.u (by unfold Kok; omega) eM18
            have g18_0 : M18 15 11 = 3000002 := by rw [eM18]; exact nu_s _ _ _ _
            refine n_iconst c_49_62 ?_
            refine n_istore (L2 := [some (2, 15), none, none, some (2, 12), some (0, c), some (0, m), some (2, 106), some (0, x7), some (0, 0)]) c_49_63 rfl rfl ?_
            refine n_fg (le_s (le_n (le_n (le_s (le_s (le_s (le_s (le_s (le_s le_0))))))))) ?_
            exact ih.2 _ _ M18 hS18 (by omega) (by omega) hK18 (by exact f14p0.of hS13.p9 (by rw [eM18, nu_i (by omega)]) (by rw [eM18, nu_i (by omega)]) (fun a i q => by rw [eM18]; exact nu_a (by omega))) (by exact fun a i p1 p2 p3 => by rw [eM18, nu_a (by omega)]; exact (f14p4.fb.1 a i p1 p2 p3).trans (v1 a i p1 p2 p3)) (by exact fun j j0 j1 => ((f14p1 _).mpr (v2 j j0 j1)).of (show M18 15 10 = M13 15 10 by rw [eM18]; exact nu_i (by omega)) (show ∀ i : Int, M18 20 i = M13 20 i from fun i => by rw [eM18]; exact nu_a (by omega))) (by have y := (show M18 15 10 = M13 15 10 by rw [eM18]; exact nu_i (by omega)); omega) (by have y := (show M18 15 10 = M13 15 10 by rw [eM18]; exact nu_i (by omega)); rcases v3 with u | u | u; (exact Or.inl ⟨by rw [eM18]; exact nu_s _ _ _ _, PD.kp u (fun c => ⟨fun q => (f14p1 c).mp (q.of y.symm (fun i => ((show ∀ i : Int, M18 20 i = M13 20 i from fun i => by rw [eM18]; exact nu_a (by omega)) i).symm)), fun q => ((f14p1 c).mpr q).of y (show ∀ i : Int, M18 20 i = M13 20 i from fun i => by rw [eM18]; exact nu_a (by omega))⟩) (fun i hi => by rw [(show ∀ i : Int, M18 20 i = M13 20 i from fun i => by rw [eM18]; exact nu_a (by omega)) i]; exact f14p3 i hi), Or.inr (fun a x y z ha => by omega)⟩); (exact Or.inr (by omega)); (exfalso; omega)) (by exact (swb.vs f14p2 (by omega) (by omega) v5).e (E15.mk eM18 (by omega))) (by exact (v6.br swb (by omega) f14p2 (fun j j0 j1 => f14p6 j j0 j1)).e (E15.mk eM18 (by omega))) (by exact (v7.br swb (by omega) (by omega) f14p2).e (E15.mk eM18 (by omega))) (by exact fun j j0 j1 => ((swb.hs f14p2 (by omega) (by omega) _ _).mpr (v8 j j0 j1)).e (E15.mk eM18 (by omega))) (by exact Or.inl (by rw [eM18]; exact nu_s _ _ _ _)) (by exact fun a x y z ha => by omega) (by omega)
          · intro h19
            refine n_aload_n c_49_48 rfl ?_
            refine n_iload c_49_49 rfl ?_
            refine n_v1I c_49_51 rfl sc_15.n rfl rfl rfl rfl (largestX_2_3 (f := x7) hS13 (by omega)) ?_
            intro z20 M21 hP22
            obtain ⟨eM, f22, f22p0⟩ := hP22
            subst eM
            refine n_goto c_49_54 ?_
            refine n_putM (bi := 11) hS13 c_49_59 sc_15.n rfl rfl rfl rfl (m_15_11 (by omega)) ?_
            intro M23 eM23 hS23
            have hK23 := f14K.u (by unfold Kok; omega) eM23
            have g23_0 : M23 15 10 = M13 15 10 := by rw [eM23]; exact nu_i (by omega)
            have g23_1 : M23 15 11 = z20 := by rw [eM23]; exact nu_s _ _ _ _
            refine n_iconst c_49_62 ?_
            refine n_istore (L2 := [some (2, 15), none, none, some (2, 12), some (0, c), some (0, m), some (2, 106), some (0, x7), some (0, 0)]) c_49_63 rfl rfl ?_
            refine n_fg (le_s (le_n (le_n (le_s (le_s (le_s (le_s (le_s (le_s le_0))))))))) ?_
            exact ih.2 _ _ M23 hS23 (by omega) (by omega) hK23 (by exact f14p0.of hS13.p9 (by rw [eM23, nu_i (by omega)]) (by rw [eM23, nu_i (by omega)]) (fun a i q => by rw [eM23]; exact nu_a (by omega))) (by exact fun a i p1 p2 p3 => by rw [eM23, nu_a (by omega)]; exact (f14p4.fb.1 a i p1 p2 p3).trans (v1 a i p1 p2 p3)) (by exact fun j j0 j1 => ((f14p1 _).mpr (v2 j j0 j1)).of (show M23 15 10 = M13 15 10 by rw [eM23]; exact nu_i (by omega)) (show ∀ i : Int, M23 20 i = M13 20 i from fun i => by rw [eM23]; exact nu_a (by omega))) (by have y := (show M23 15 10 = M13 15 10 by rw [eM23]; exact nu_i (by omega)); omega) (by have y := (show M23 15 10 = M13 15 10 by rw [eM23]; exact nu_i (by omega)); exact Or.inr (by omega)) (by exact (swb.vs f14p2 (by omega) (by omega) v5).e (E15.mk eM23 (by omega))) (by exact (v6.br swb (by omega) f14p2 (fun j j0 j1 => f14p6 j j0 j1)).e (E15.mk eM23 (by omega))) (by exact (v7.br swb (by omega) (by omega) f14p2).e (E15.mk eM23 (by omega))) (by exact fun j j0 j1 => ((swb.hs f14p2 (by omega) (by omega) _ _).mpr (v8 j j0 j1)).e (E15.mk eM23 (by omega))) (by exact CEI.mk (e := x7) f14p0 hd hT hmo (by omega) (by omega) (v6.br swb (by omega) f14p2 (fun j j0 j1 => f14p6 j j0 j1)) f22p0 eM23) (by exact fun a x y z ha => by omega) (by omega)
    · intro x7 x8 M hS k7 k8 hK v0 v1 v2 v3 v4 v5 v6 v7 v8 v9 v10 hnn
      refine n_iload c_49_65 rfl ?_
      refine n_iload c_49_67 rfl ?_
      refine n_if2_ge c_49_69 (by omega) (by omega) ?_ ?_
      · intro h1
        refine n_iinc (L2 := [some (2, 15), none, none, some (2, 12), some (0, c), some (0, m), some (2, 106), some (0, (x7 + 1)), some (0, x8)]) c_49_104 rfl rfl rfl ?_
        refine n_goto c_49_107 ?_
        refine n_fg (le_s (le_n (le_n (le_s (le_s (le_s (le_s (le_s (le_n le_0))))))))) ?_
        exact ih.1 _ M hS (by omega) hK (by exact v0) (by exact v1) (by exact v2) (by rcases v4 with ⟨u1, u2, u3⟩ | u; (rcases u3 with u3 | u3; (exact Or.inr (Or.inr u3)); (first | exact Or.inl (PDa.pd u3 (by omega)) | (exfalso; omega))); (exact Or.inr (Or.inl u))) (by omega) (by exact v5) (by exact v6) (by first | exact PZa.nx v10 (by omega) | exact PDz.ce v7 hd v0 (by omega) v9 v5 (by omega) (fun a a0 a1 => by have y := hwa a a0 a1; rw [pm_e (by omega), ← tm_e (by omega)]; exact ⟨y.1.1, y.2.1⟩)) (by exact v8) (by omega)
      · intro h2
        refine n_aload_n c_49_72 rfl ?_
        refine n_getR c_49_73 sc_15.n rfl rfl rfl r_15_2 ?_
        refine n_iload c_49_76 rfl ?_
        refine n_ialoadV c_49_78 sc_21.n rfl rfl rfl (by omega) (v0.s (by omega) (by omega)) ?_
        intro z3 ez3 f4
        refine n_iconst c_49_79 ?_
        refine n_iadd c_49_80 rfl ?_
        refine n_aload_n c_49_81 rfl ?_
        refine n_getV (bi := 11) c_49_82 sc_15.n rfl rfl rfl (t_15_11 hS) ?_
        intro z5 ez5 f6
        refine n_if2_ge c_49_85 (by omega) (by omega) ?_ ?_
        · intro h7
          refine n_iinc (L2 := [some (2, 15), none, none, some (2, 12), some (0, c), some (0, m), some (2, 106), some (0, (x7 + 1)), some (0, x8)]) c_49_104 rfl rfl rfl ?_
          refine n_goto c_49_107 ?_
          refine n_fg (le_s (le_n (le_n (le_s (le_s (le_s (le_s (le_s (le_n le_0))))))))) ?_
          exact ih.1 _ M hS (by omega) hK (by exact v0) (by exact v1) (by exact v2) (by rcases v4 with ⟨u1, u2, u3⟩ | u; (rcases u3 with u3 | u3; (exact Or.inr (Or.inr u3)); (first | exact Or.inl (PDa.pd u3 (by omega)) | (exfalso; omega))); (exact Or.inr (Or.inl u))) (by omega) (by exact v5) (by exact v6) (by first | exact PZa.nx v10 (by omega) | exact PDz.ce v7 hd v0 (by omega) v9 v5 (by omega) (fun a a0 a1 => by have y := hwa a a0 a1; rw [pm_e (by omega), ← tm_e (by omega)]; exact ⟨y.1.1, y.2.1⟩)) (by exact v8) (by omega)
        · intro h8
          refine n_aload_n c_49_88 rfl ?_
          refine n_aload_n c_49_89 rfl ?_
          refine n_iload c_49_90 rfl ?_
          refine n_aaload c_49_92 sc_12.n rfl rfl rfl (by omega) (r_acts _) ?_
          have q9 : ActAt (55 + 3 * x8) := by unfold ActAt; omega
          have q9l : (55 + 3 * x8) < 55 + 3 * ac := by omega
          refine n_iload c_49_93 rfl ?_
          refine n_v2V c_49_95 rfl sc_15.n rfl rfl rfl rfl (putOnX_2_3 (p := (55 + 3 * x8)) (e0 := x7) (Ms := Ms) (Mt := M) hS q9 q9l (by omega) hK (by rfl) (by exact v0) (by exact v1) (by omega) (by exact hwa x8 (by omega) (by omega)) (by exact fun X Y Z hX hY hZ => by rw [tm_e (by omega)]; exact Clo.app (by omega) (by omega) hX hY hZ) (by exact v5) (by exact v9) (by exact fun i j i0 ij j1 => v6 i j i0 (by omega) ij (by omega)) (by exact fun x y z sx sy sz hx hy hz => by have y2 := VAL.app (a := x8) (by omega) (by omega) hx hy hz; rw [← tm_e (by omega), pm_e (by omega)] at y2; exact y2)) ?_
          intro  M10 hP11
          obtain ⟨hS10, f11K, f11p0, f11p1, f11p2, f11p3, f11p4, f11p5, f11p6⟩ := hP11
          refine n_iinc (L2 := [some (2, 15), none, none, some (2, 12), some (0, c), some (0, m), some (2, 106), some (0, x7), some (0, (x8 + 1))]) c_49_98 rfl rfl rfl ?_
          refine n_goto c_49_101 ?_
          refine n_fg (le_s (le_n (le_n (le_s (le_s (le_s (le_s (le_s (le_s le_0))))))))) ?_
          exact ih.2 _ _ M10 hS10 (by omega) (by omega) f11K (by exact f11p0) (by exact v1.tr f11p3.1) (by exact fun j j0 j1 => (v2 j j0 j1).gr f11p1) (by have y := f11p1.1; omega) (by rcases v4 with ⟨u1, u2, u3⟩ | u; (exact Or.inl ⟨f11p3.2.2.trans u1, u2.gr (by omega) f11p1, PDa.st u3 u2 (by omega) (by omega) u1 f11p1 (by have y := f11p2; rw [tm_e (by omega)] at y; exact y)⟩); (exact Or.inr (Int.le_trans u f11p1.1))) (by exact f11p4) (by exact v6.sl f11p5 f11p1 (by omega) (v5 _ (by omega) (by omega)).r.2) (by exact v7.sl v6 f11p5 f11p1 (by omega)) (by exact fun j j0 j1 => (v8 j j0 j1).gr f11p1 f11p5) (by exact v9.gr f11p1 f11p5 f11p3.2.2) (by exact PZa.st v10 v7 v6 (by omega) f11p5 f11p1 (by omega) (by have y := f11p6; rw [tm_e (by omega), ← pm_e (M := Ms) (a := x8) (by omega)] at y; exact y)) (by omega)
set_option maxHeartbeats 4000000 in
theorem makeX_2_3 {xs : List Int32} {e : Nat} {ac : Int} {M : nM} {c m : Int} {Ms : nM} (hS : Sf 3 ac M M) (hc : 0 ≤ c ∧ c ≤ 8) (hm : -2147483648 ≤ m ∧ m ≤ 2147483647) (hca : c = ac) (hms : M = Ms) (hpz : PZ M) (hwa : ∀ a : Int, 0 ≤ a → a < ac → WAct 3 (55 + 3 * a) Ms) (hmo : NCl 3 9 2 ac (Tm Ms) ≤ m) : nW xs (e + 4) 49 0 [some (2, 15), some (0, 2), some (2, 4), some (2, 12), some (0, c), some (0, m), some (2, 106), none, none] [] M (nPV fun M1 => Sf 3 ac M1 M1 ∧ MK 19683 27 26 702 18954 1 3 9 27 81 243 729 2187 6561 M1 ∧ (M1 106 0 = 1) ∧ (KN (NCl 3 9 2 ac (Tm Ms)) (M1 106 1) (M1 106 2)) ∧ (PZ M1) ∧ (FMQ 106 Ms M1) ∧ (M1 106 1 = 0 → LO 3 9 2 ac Ms 106 (M1 106 2) M1) ∧ (M1 106 1 = 1 → M1 106 2 = 0)) := by
  have hd : (3 : Int) = 2 ∨ (3 : Int) = 3 := by decide
  have hac := hS.2.2.2.2
  have hT := Tm_r hS
  rw [hms] at hT
  refine n_aload_n c_49_0 rfl ?_
  refine n_aload_n c_49_1 rfl ?_
  refine n_putB hS c_49_2 ?_
  intro M1 eM1 hS1
  have hS1 := hS1.refl
  have hB1 : M1 15 0 = 4 := by rw [eM1]; exact nu_s _ _ _ _
  refine n_aload_n c_49_5 rfl ?_
  refine n_iload_n c_49_6 rfl ?_
  refine n_v1V c_49_7 rfl sc_15.n rfl rfl rfl rfl (beginX_2_3 (Ms := Ms) hS1 (by exact hB1) (by exact PZ.of hpz hS.p9 (by rw [eM1]; exact nu_i (by omega)) (fun a i q => by rw [eM1]; exact nu_a (by omega))) (by exact fun a i p1 p2 p3 => by rw [eM1, nu_a (by omega), hms])) ?_
  intro  M2 hP3
  obtain ⟨hS2, f3K, f3p0, f3p1, f3p2, f3p3, f3p4⟩ := hP3
  refine n_iconst c_49_10 ?_
  refine n_istore (L2 := [some (2, 15), some (0, 2), some (2, 4), some (2, 12), some (0, c), some (0, m), some (2, 106), some (0, 0), none]) c_49_11 rfl rfl ?_
  refine n_fg (le_s (le_n (le_n (le_s (le_s (le_s (le_s (le_s (le_n le_0))))))))) ?_
  exact (makeX_2_3_c hS hc hm hca hms hpz hwa hmo 5708).1 _ M2 hS2 (by omega) f3K (by exact f3p0) (by exact f3p2) (by exact f3p1) (by exact Or.inl (fun a x y z _ _ hx => by omega)) (by have y := t_15_10 hS2; omega) (by exact f3p3) (by exact fun i j i0 i1 => by omega) (by exact fun a x y z _ _ hx => by omega) (by exact f3p4) (by omega)

set_option maxHeartbeats 4000000 in
theorem mostX_2_3_c {xs : List Int32} {e : Nat} {ac : Int} {M0 M : nM} (hS : Sf 3 ac M0 M) (hwa : ∀ a : Int, 0 ≤ a → a < ac → WAct 3 (55 + 3 * a) M) : ∀ nn : Nat, (∀ (x2 x3 x4 : Int), (9 ≤ x2 ∧ x2 ≤ 9) → (0 ≤ x3 ∧ x3 ≤ 19683) → (0 ≤ x4 ∧ x4 ≤ 9) → (MM 3 2 ac M x4 x3) → (0 ≤ x3 ∧ x3 ≤ dpn 3 x4.toNat) → (9 - x4) * 1 + 1 < (nn : Int) → nW xs (e + 4) 131 14 [some (2, 3), some (0, 2), some (0, x2), some (0, x3), some (0, x4)] [] M (nPI fun z M1 => M = M1 ∧ (-2147483648 ≤ z ∧ z ≤ 2147483647) ∧ (NCl 3 9 2 ac (Tm M) ≤ z))) := by
  have hd : (3 : Int) = 2 ∨ (3 : Int) = 3 := by decide
  have hac := hS.2.2.2.2
  intro nn
  induction nn with
  | zero => intros; omega
  | succ nn ih =>
    intro x2 x3 x4 k2 k3 k4 v0 v1 hnn
    refine n_iload c_131_14 rfl ?_
    refine n_iload_n c_131_16 rfl ?_
    refine n_if2_ge c_131_17 (by omega) (by omega) ?_ ?_
    · intro h1
      refine n_iload_n c_131_46 rfl ?_
      exact n_rI c_131_47 rfl ⟨rfl, by omega, by have e4 : x4 = ((9 : Nat) : Int) := (by omega); rw [e4] at v0; exact MM.fin hd hS v0⟩
    · intro h2
      refine n_iload_n c_131_20 rfl ?_
      refine n_aload_n c_131_21 rfl ?_
      refine n_aload_n c_131_22 rfl ?_
      refine n_getR c_131_23 sc_3.n rfl rfl rfl r_3_0 ?_
      refine n_iload c_131_26 rfl ?_
      refine n_iload_n c_131_28 rfl ?_
      refine n_v2I c_131_29 rfl sc_4.n rfl rfl rfl rfl (thingsOfX_3 (r := x4) (p := 2) hS (by omega) (by omega)) ?_
      intro z3 M4 hP5
      obtain ⟨eM, f5, f5p0⟩ := hP5
      subst eM
      have thb := th_b (d := 3) (n := 2) (r := x4) (by decide) (by omega) (by omega)
      rw [← f5p0] at thb
      have thc : z3 ≤ 7 := thb.2
      refine n_v1I c_131_32 rfl sc_3.n rfl rfl rfl rfl (leastHeapX_3 (m := z3) hS (by omega)) ?_
      intro z6 M7 hP8
      obtain ⟨eM, f8, f8p0, f8p1, f8p2⟩ := hP8
      subst eM
      refine n_s1I c_131_35 rfl rfl rfl rfl (ibitsX_3 (x := z6) hS (by omega)) ?_
      intro z9 M10 hP11
      obtain ⟨eM, f11, f11p0⟩ := hP11
      subst eM
      refine n_imul c_131_38 rfl ?_
      refine n_wrap ?_
      have f12 := n_wr_r (x3 * z9)
      generalize gz13 : n_wr (x3 * z9) = z13 at f12 ⊢
      have dpb := dpn_b3 x4.toNat (by omega)
      have dpc : 3 * dpn 3 x4.toNat ≤ 19683 := dpn_b3 (x4.toNat + 1) (by omega)
      obtain ⟨w1, w2, w3, w4⟩ := wr_3 (x := x3) (y := z9) v1 dpb (by omega)
      rw [gz13] at w1
      refine n_istore_n (L2 := [some (2, 3), some (0, 2), some (0, x2), some (0, z13), some (0, x4)]) c_131_39 rfl rfl ?_
      refine n_iinc (L2 := [some (2, 3), some (0, 2), some (0, x2), some (0, z13), some (0, (x4 + 1))]) c_131_40 rfl rfl rfl ?_
      refine n_goto c_131_43 ?_
      refine n_fg (le_s (le_s (le_s (le_s (le_s le_0))))) ?_
      exact ih _ _ _ (by omega) (by omega) (by omega) (by rw [w1]; exact MM.st hd v0 (by omega) (GH.mk (m := z3) hd hS (by omega) (by omega) hwa f5p0 (by omega) f8p0 (by show z6 ≤ (7 : Int); omega) f8p2) f11p0) (by rw [show (x4 + 1).toNat = x4.toNat + 1 by omega]; show 0 ≤ z13 ∧ z13 ≤ 3 * dpn 3 x4.toNat; omega) (by omega)
set_option maxHeartbeats 4000000 in
theorem mostX_2_3 {xs : List Int32} {e : Nat} {ac : Int} {M0 M : nM} (hS : Sf 3 ac M0 M) (hwa : ∀ a : Int, 0 ≤ a → a < ac → WAct 3 (55 + 3 * a) M) : nW xs (e + 4) 131 0 [some (2, 3), some (0, 2), none, none, none] [] M (nPI fun z M1 => M = M1 ∧ (-2147483648 ≤ z ∧ z ≤ 2147483647) ∧ (NCl 3 9 2 ac (Tm M) ≤ z)) := by
  have hd : (3 : Int) = 2 ∨ (3 : Int) = 3 := by decide
  have hac := hS.2.2.2.2
  refine n_aload_n c_131_0 rfl ?_
  refine n_getR c_131_1 sc_3.n rfl rfl rfl r_3_0 ?_
  refine n_iload_n c_131_4 rfl ?_
  refine n_v1I c_131_5 rfl sc_4.n rfl rfl rfl rfl (power2_3  hS ) ?_
  intro z1 M2 hP3
  obtain ⟨eM, f3⟩ := hP3
  subst eM
  obtain rfl : z1 = 9 := by omega
  refine n_istore_n (L2 := [some (2, 3), some (0, 2), some (0, 9), none, none]) c_131_8 rfl rfl ?_
  refine n_iconst c_131_9 ?_
  refine n_istore_n (L2 := [some (2, 3), some (0, 2), some (0, 9), some (0, 1), none]) c_131_10 rfl rfl ?_
  refine n_iconst c_131_11 ?_
  refine n_istore (L2 := [some (2, 3), some (0, 2), some (0, 9), some (0, 1), some (0, 0)]) c_131_12 rfl rfl ?_
  refine n_fg (le_s (le_s (le_s (le_s (le_s le_0))))) ?_
  exact (mostX_2_3_c hS hwa 32) _ _ _ (by omega) (by omega) (by omega) (by exact MM.ini) (by exact ⟨by omega, by show (1 : Int) ≤ 1; omega⟩) (by omega)

set_option maxHeartbeats 4000000 in
theorem madeListX_2_3 {xs : List Int32} {e : Nat} {ac : Int} {M : nM} {Ms : nM} (hS : Sf 3 ac M M) (hms : M = Ms) (hpz : PZ M) (hwa : ∀ a : Int, 0 ≤ a → a < ac → WAct 3 (55 + 3 * a) Ms) (hkn : Ms 106 0 = 1 → KN (NCl 3 9 2 ac (Tm Ms)) (Ms 106 1) (Ms 106 2)) (hkl : Ms 106 0 = 1 → LOa 3 9 2 ac Ms 106 Ms) : nW xs (e + 5) 130 0 [some (2, 3), some (0, 2), none] [] M (nPA fun z M1 => Sf 3 ac M1 M1 ∧ z = 106 ∧ (MDs 3 9 2 ac 106 Ms M1) ∧ (M1 106 0 = 1) ∧ (M1 106 0 = 1 → LOa 3 9 2 ac Ms 106 M1)) := by
  have hd : (3 : Int) = 2 ∨ (3 : Int) = 3 := by decide
  have hac := hS.2.2.2.2
  refine n_aload_n c_130_0 rfl ?_
  refine n_getR c_130_1 sc_3.n rfl rfl rfl r_3_4 ?_
  refine n_iload_n c_130_4 rfl ?_
  refine n_iconst c_130_5 ?_
  refine n_isub c_130_6 rfl ?_
  refine n_aaload c_130_7 sc_14.n rfl rfl rfl (by omega) (r_made _) ?_
  refine n_stk (show ((103 + 3 * (2 - 1)) : Int) = 106 from rfl) ?_
  refine n_astore_n (L2 := [some (2, 3), some (0, 2), some (2, 106)]) c_130_8 rfl rfl ?_
  refine n_aload_n c_130_9 rfl ?_
  refine n_getV (bi := 0) c_130_10 made106.c0.1.n rfl rfl rfl (t_made hS made106).1 ?_
  intro z1 ez1 f2
  refine n_if0_ne c_130_13 (by omega) ?_ ?_
  · intro h3
    refine n_aload_n c_130_42 rfl ?_
    exact n_rA c_130_43 rfl ⟨hS, rfl, by exact ⟨fun q => by rw [hms] at q ⊢; exact hkn q, hpz, fun _ _ _ _ _ _ _ _ => by rw [hms]⟩, by omega, by rw [hms]; exact hkl⟩
  · intro h4
    refine n_aload_n c_130_16 rfl ?_
    refine n_getR c_130_17 sc_3.n rfl rfl rfl r_3_5 ?_
    refine n_iload_n c_130_20 rfl ?_
    refine n_aload_n c_130_21 rfl ?_
    refine n_getR c_130_22 sc_3.n rfl rfl rfl r_3_0 ?_
    refine n_aload_n c_130_25 rfl ?_
    refine n_getR c_130_26 sc_3.n rfl rfl rfl r_3_2 ?_
    refine n_aload_n c_130_29 rfl ?_
    refine n_getV (bi := 14) c_130_30 sc_3.n rfl rfl rfl (t_3_14x hS) ?_
    intro z5 ez5 f6
    have f6a := t_ac hS
    refine n_aload_n c_130_33 rfl ?_
    refine n_iload_n c_130_34 rfl ?_
    refine n_v1I c_130_35 rfl sc_3.n rfl rfl rfl rfl (mostX_2_3  hS (by rw [hms]; exact hwa)) ?_
    intro z7 M8 hP9
    obtain ⟨eM, f9, f9p0⟩ := hP9
    subst eM
    refine n_aload_n c_130_38 rfl ?_
    refine n_v6V c_130_39 rfl sc_15.n rfl rfl rfl rfl (makeX_2_3 (c := z5) (m := z7) (Ms := M) hS (by omega) (by omega) (by omega) (by rfl) (by exact hpz) (by rw [hms]; exact hwa) (by exact f9p0)) ?_
    intro  M10 hP11
    obtain ⟨hS10, f11K, f11p0, f11p1, f11p2, f11p3, f11p4, f11p5⟩ := hP11
    refine n_aload_n c_130_42 rfl ?_
    exact n_rA c_130_43 rfl ⟨hS10, rfl, by have y := f11p1; rw [hms] at y; exact ⟨fun _ => y, f11p2, by have u := f11p3; rw [hms] at u; exact u⟩, by exact f11p0, by have u := f11p4; have u2 := f11p5; rw [hms] at u; exact fun _ => ⟨u, u2⟩⟩

set_option maxHeartbeats 4000000 in
theorem isMadeX2_3 {xs : List Int32} {e : Nat} {ac : Int} {M0 M : nM} (hS : Sf 3 ac M0 M)  : nW xs e 13 0 [some (2, 4), some (0, 2)] [] M (nPI fun z M1 => M = M1 ∧ (1 ≤ z ∧ z ≤ 1)) := by
  have hd : (3 : Int) = 2 ∨ (3 : Int) = 3 := by decide
  have hac := hS.2.2.2.2
  refine n_iload_n c_13_0 rfl ?_
  refine n_iconst c_13_1 ?_
  refine n_if2_lt c_13_2 (by omega) (by omega) ?_ ?_
  · intro h1
    exfalso; omega
  · intro h2
    refine n_iload_n c_13_5 rfl ?_
    refine n_aload_n c_13_6 rfl ?_
    refine n_getV (bi := 0) c_13_7 sc_4.n rfl rfl rfl (t_4_0 hS) ?_
    intro z3 ez3 f4
    obtain rfl : z3 = 3 := by omega
    refine n_iconst c_13_10 ?_
    refine n_if2_ne c_13_11 (by omega) (by omega) ?_ ?_
    · intro h5
      refine n_iconst c_13_18 ?_
      refine n_if2_gt c_13_19 (by omega) (by omega) ?_ ?_
      · intro h6
        exfalso; omega
      · intro h7
        refine n_iconst c_13_22 ?_
        refine n_goto c_13_23 ?_
        exact n_rZ c_13_27 rfl (by omega) ⟨rfl, by omega⟩
    · intro h8
      exfalso; omega

set_option maxHeartbeats 4000000 in
theorem codesX2_3 {xs : List Int32} {e : Nat} {ac : Int} {M0 M : nM} (hS : Sf 3 ac M0 M)  : nW xs (e + 1) 14 0 [some (2, 4), some (0, 2)] [] M (nPI fun z M1 => M = M1 ∧ (19683 ≤ z ∧ z ≤ 19683)) := by
  have hd : (3 : Int) = 2 ∨ (3 : Int) = 3 := by decide
  have hac := hS.2.2.2.2
  refine n_aload_n c_14_0 rfl ?_
  refine n_aload_n c_14_1 rfl ?_
  refine n_iload_n c_14_2 rfl ?_
  refine n_v1I c_14_3 rfl sc_4.n rfl rfl rfl rfl (power2_3  hS ) ?_
  intro z1 M2 hP3
  obtain ⟨eM, f3⟩ := hP3
  subst eM
  obtain rfl : z1 = 9 := by omega
  refine n_v1I c_14_6 rfl sc_4.n rfl rfl rfl rfl (power9_3  hS ) ?_
  intro z4 M5 hP6
  obtain ⟨eM, f6⟩ := hP6
  subst eM
  obtain rfl : z4 = 19683 := by omega
  exact n_rI c_14_9 rfl ⟨rfl, by omega⟩

set_option maxHeartbeats 4000000 in
theorem madeX_2_3 {xs : List Int32} {e : Nat} {ac : Int} {M : nM} {gd : Int} {Ms : nM} (hS : Sf 3 ac M M) (hgd : M 112 0 = gd) (hms : M = Ms) (hpz : PZ M) (hwa : ∀ a : Int, 0 ≤ a → a < ac → WAct 3 (55 + 3 * a) Ms) (hkn : Ms 106 0 = 1 → KN (NCl 3 9 2 ac (Tm Ms)) (Ms 106 1) (Ms 106 2)) (hkl : Ms 106 0 = 1 → LOa 3 9 2 ac Ms 106 Ms) : nW xs (e + 6) 104 0 [some (2, 3), some (0, 2), none] [] M (nPI fun z M1 => Sf 3 ac M1 M1 ∧ (-2147483648 ≤ z ∧ z ≤ 2147483647) ∧ (M1 112 0 = gd) ∧ (MDs 3 9 2 ac 106 Ms M1) ∧ (cMd (NCl 3 9 2 ac (Tm Ms)) z) ∧ (M1 106 0 = 1 → LOa 3 9 2 ac Ms 106 M1)) := by
  have hd : (3 : Int) = 2 ∨ (3 : Int) = 3 := by decide
  have hac := hS.2.2.2.2
  refine n_aload_n c_104_0 rfl ?_
  refine n_getR c_104_1 sc_3.n rfl rfl rfl r_3_0 ?_
  refine n_iload_n c_104_4 rfl ?_
  refine n_v1I c_104_5 rfl sc_4.n rfl rfl rfl rfl (isMadeX2_3  hS ) ?_
  intro z1 M2 hP3
  obtain ⟨eM, f3⟩ := hP3
  subst eM
  obtain rfl : z1 = 1 := by omega
  refine n_if0_ne c_104_8 (by omega) ?_ ?_
  · intro h4
    refine n_aload_n c_104_13 rfl ?_
    refine n_iload_n c_104_14 rfl ?_
    refine n_v1A c_104_15 rfl sc_3.n rfl rfl rfl rfl (madeListX_2_3 (Ms := M) hS (by rfl) (by exact hpz) (by rw [hms]; exact hwa) (by rw [hms]; exact hkn) (by rw [hms]; exact hkl)) ?_
    intro z5 M6 hP7
    obtain ⟨hS6, f7, f7p0, f7p1, f7p2⟩ := hP7
    have g112 := f7p0.2.2 112 0 (by omega) (by omega) (by omega) (by omega) (by omega) (by omega)
    obtain rfl : z5 = 106 := f7
    refine n_astore_n (L2 := [some (2, 3), some (0, 2), some (2, 106)]) c_104_18 rfl rfl ?_
    refine n_aload_n c_104_19 rfl ?_
    refine n_getV (bi := 1) c_104_20 made106.c0.1.n rfl rfl rfl (t_made hS6 made106).2.1 ?_
    intro z8 ez8 f9
    refine n_if0_eq c_104_23 (by omega) ?_ ?_
    · intro h10
      refine n_aload_n c_104_31 rfl ?_
      refine n_getV (bi := 2) c_104_32 made106.c0.1.n rfl rfl rfl (t_made hS6 made106).2.2 ?_
      intro z11 ez11 f12
      exact n_rI c_104_35 rfl ⟨hS6, by omega, by omega, by have y := f7p0; rw [hms] at y; exact y, by have y := f7p0.1 f7p1; rw [hms] at y; unfold KN at y; unfold cMd; omega, by have u := f7p2; rw [hms] at u; exact u⟩
    · intro h13
      refine n_bipush c_104_26 rfl ?_
      refine n_goto c_104_28 ?_
      exact n_rI c_104_35 rfl ⟨hS6, by omega, by omega, by have y := f7p0; rw [hms] at y; exact y, by have y := f7p0.1 f7p1; rw [hms] at y; unfold KN at y; unfold cMd; omega, by have u := f7p2; rw [hms] at u; exact u⟩
  · intro h14
    exfalso; omega

set_option maxHeartbeats 4000000 in
theorem madeOfX_2_3 {xs : List Int32} {e : Nat} {ac : Int} {M : nM} {i w gd : Int} {Ms : nM} (hS : Sf 3 ac M M) (hi : -2147483648 ≤ i ∧ i ≤ 2147483647) (hw : -2147483648 ≤ w ∧ w ≤ 2147483647) (hgd : M 112 0 = gd) (hms : M = Ms) (hpz : PZ M) (hwa : ∀ a : Int, 0 ≤ a → a < ac → WAct 3 (55 + 3 * a) Ms) (hkn : Ms 106 0 = 1 → KN (NCl 3 9 2 ac (Tm Ms)) (Ms 106 1) (Ms 106 2)) (hkl : Ms 106 0 = 1 → LOa 3 9 2 ac Ms 106 Ms) : nW xs (e + 6) 105 0 [some (2, 3), some (0, 2), some (0, i), some (0, w), none] [] M (nPI fun z M1 => Sf 3 ac M1 M1 ∧ (-2147483648 ≤ z ∧ z ≤ 2147483647) ∧ (M1 112 0 = gd) ∧ (MDs 3 9 2 ac 106 Ms M1) ∧ (M1 106 0 = 1 → LOa 3 9 2 ac Ms 106 M1) ∧ (cMO 106 i w z M1) ∧ ((w = 0 ∨ w = 1) → M1 106 0 = 1)) := by
  have hd : (3 : Int) = 2 ∨ (3 : Int) = 3 := by decide
  have hac := hS.2.2.2.2
  refine n_aload_n c_105_0 rfl ?_
  refine n_getR c_105_1 sc_3.n rfl rfl rfl r_3_0 ?_
  refine n_iload_n c_105_4 rfl ?_
  refine n_v1I c_105_5 rfl sc_4.n rfl rfl rfl rfl (isMadeX2_3  hS ) ?_
  intro z1 M2 hP3
  obtain ⟨eM, f3⟩ := hP3
  subst eM
  obtain rfl : z1 = 1 := by omega
  refine n_if0_eq c_105_8 (by omega) ?_ ?_
  · intro h4
    exfalso; omega
  · intro h5
    refine n_iload_n c_105_11 rfl ?_
    refine n_if0_eq c_105_12 (by omega) ?_ ?_
    · intro h6
      refine n_aload_n c_105_22 rfl ?_
      refine n_iload_n c_105_23 rfl ?_
      refine n_v1A c_105_24 rfl sc_3.n rfl rfl rfl rfl (madeListX_2_3 (Ms := M) hS (by rfl) (by exact hpz) (by rw [hms]; exact hwa) (by rw [hms]; exact hkn) (by rw [hms]; exact hkl)) ?_
      intro z7 M8 hP9
      obtain ⟨hS8, f9, f9p0, f9p1, f9p2⟩ := hP9
      have g112 := f9p0.2.2 112 0 (by omega) (by omega) (by omega) (by omega) (by omega) (by omega)
      obtain rfl : z7 = 106 := f9
      refine n_astore (L2 := [some (2, 3), some (0, 2), some (0, i), some (0, w), some (2, 106)]) c_105_27 rfl rfl ?_
      refine n_iload_n c_105_29 rfl ?_
      refine n_if0_lt c_105_30 (by omega) ?_ ?_
      · intro h10
        refine n_iconst c_105_42 ?_
        exact n_rI c_105_43 rfl ⟨hS8, by omega, by omega, by have y := f9p0; rw [hms] at y; exact y, by have u := f9p2; rw [hms] at u; exact u, by unfold cMO; omega, by exact fun _ => f9p1⟩
      · intro h11
        refine n_iload_n c_105_33 rfl ?_
        refine n_aload c_105_34 rfl ?_
        refine n_getV (bi := 2) c_105_36 made106.c0.1.n rfl rfl rfl (t_made hS8 made106).2.2 ?_
        intro z12 ez12 f13
        refine n_if2_lt c_105_39 (by omega) (by omega) ?_ ?_
        · intro h14
          refine n_iload_n c_105_44 rfl ?_
          refine n_if0_ne c_105_45 (by omega) ?_ ?_
          · intro h15
            exfalso; omega
          · intro h16
            refine n_aload c_105_48 rfl ?_
            refine n_getR c_105_50 made106.c0.1.n rfl rfl rfl made106.r.1 ?_
            refine n_iload_n c_105_53 rfl ?_
            refine n_ialoadV c_105_54 made106.c0.2.1.n rfl rfl rfl (by omega) (t_mader hS8 made106 (Or.inl rfl) (by omega)) ?_
            intro z17 ez17 f18
            refine n_goto c_105_55 ?_
            exact n_rI c_105_65 rfl ⟨hS8, by omega, by omega, by have y := f9p0; rw [hms] at y; exact y, by have u := f9p2; rw [hms] at u; exact u, by unfold cMO; omega, by exact fun _ => f9p1⟩
        · intro h19
          refine n_iconst c_105_42 ?_
          exact n_rI c_105_43 rfl ⟨hS8, by omega, by omega, by have y := f9p0; rw [hms] at y; exact y, by have u := f9p2; rw [hms] at u; exact u, by unfold cMO; omega, by exact fun _ => f9p1⟩
    · intro h20
      refine n_iload_n c_105_15 rfl ?_
      refine n_iconst c_105_16 ?_
      refine n_if2_eq c_105_17 (by omega) (by omega) ?_ ?_
      · intro h21
        refine n_aload_n c_105_22 rfl ?_
        refine n_iload_n c_105_23 rfl ?_
        refine n_v1A c_105_24 rfl sc_3.n rfl rfl rfl rfl (madeListX_2_3 (Ms := M) hS (by rfl) (by exact hpz) (by rw [hms]; exact hwa) (by rw [hms]; exact hkn) (by rw [hms]; exact hkl)) ?_
        intro z22 M23 hP24
        obtain ⟨hS23, f24, f24p0, f24p1, f24p2⟩ := hP24
        have g112 := f24p0.2.2 112 0 (by omega) (by omega) (by omega) (by omega) (by omega) (by omega)
        obtain rfl : z22 = 106 := f24
        refine n_astore (L2 := [some (2, 3), some (0, 2), some (0, i), some (0, w), some (2, 106)]) c_105_27 rfl rfl ?_
        refine n_iload_n c_105_29 rfl ?_
        refine n_if0_lt c_105_30 (by omega) ?_ ?_
        · intro h25
          refine n_iconst c_105_42 ?_
          exact n_rI c_105_43 rfl ⟨hS23, by omega, by omega, by have y := f24p0; rw [hms] at y; exact y, by have u := f24p2; rw [hms] at u; exact u, by unfold cMO; omega, by exact fun _ => f24p1⟩
        · intro h26
          refine n_iload_n c_105_33 rfl ?_
          refine n_aload c_105_34 rfl ?_
          refine n_getV (bi := 2) c_105_36 made106.c0.1.n rfl rfl rfl (t_made hS23 made106).2.2 ?_
          intro z27 ez27 f28
          refine n_if2_lt c_105_39 (by omega) (by omega) ?_ ?_
          · intro h29
            refine n_iload_n c_105_44 rfl ?_
            refine n_if0_ne c_105_45 (by omega) ?_ ?_
            · intro h30
              refine n_aload c_105_58 rfl ?_
              refine n_getR c_105_60 made106.c0.1.n rfl rfl rfl made106.r.2 ?_
              refine n_iload_n c_105_63 rfl ?_
              refine n_ialoadV c_105_64 made106.c0.2.2.n rfl rfl rfl (by omega) (t_mader hS23 made106 (Or.inr rfl) (by omega)) ?_
              intro z31 ez31 f32
              exact n_rI c_105_65 rfl ⟨hS23, by omega, by omega, by have y := f24p0; rw [hms] at y; exact y, by have u := f24p2; rw [hms] at u; exact u, by unfold cMO; omega, by exact fun _ => f24p1⟩
            · intro h33
              exfalso; omega
          · intro h34
            refine n_iconst c_105_42 ?_
            exact n_rI c_105_43 rfl ⟨hS23, by omega, by omega, by have y := f24p0; rw [hms] at y; exact y, by have u := f24p2; rw [hms] at u; exact u, by unfold cMO; omega, by exact fun _ => f24p1⟩
      · intro h35
        refine n_iconst c_105_20 ?_
        exact n_rI c_105_21 rfl ⟨hS, by omega, by omega, by exact ⟨fun q => by rw [hms] at q ⊢; exact hkn q, hpz, fun _ _ _ _ _ _ _ _ => by rw [hms]⟩, by rw [hms]; exact hkl, by unfold cMO; omega, by exact fun q => by omega⟩

set_option maxHeartbeats 4000000 in
theorem sizeX_2_3 {xs : List Int32} {e : Nat} {ac : Int} {M : nM} {c gd : Int} {Ms : nM} (hS : Sf 3 ac M M) (hc : -2147483648 ≤ c ∧ c ≤ 2147483647) (hgd : M 112 0 = gd) (hms : M = Ms) (hpz : PZ M) (hwa : ∀ a : Int, 0 ≤ a → a < ac → WAct 3 (55 + 3 * a) Ms) (hkn : Ms 106 0 = 1 → KN (NCl 3 9 2 ac (Tm Ms)) (Ms 106 1) (Ms 106 2)) (hkl : Ms 106 0 = 1 → LOa 3 9 2 ac Ms 106 Ms) : nW xs (e + 6) 106 0 [some (2, 3), some (0, 2), some (0, c), none] [] M (nPI fun z M1 => Sf 3 ac M1 M1 ∧ (-2147483648 ≤ z ∧ z ≤ 2147483647) ∧ (M1 112 0 = gd) ∧ (MDs 3 9 2 ac 106 Ms M1) ∧ (M1 106 0 = 1 → LOa 3 9 2 ac Ms 106 M1)) := by
  have hd : (3 : Int) = 2 ∨ (3 : Int) = 3 := by decide
  have hac := hS.2.2.2.2
  refine n_aload_n c_106_0 rfl ?_
  refine n_getR c_106_1 sc_3.n rfl rfl rfl r_3_0 ?_
  refine n_iload_n c_106_4 rfl ?_
  refine n_v1I c_106_5 rfl sc_4.n rfl rfl rfl rfl (isMadeX2_3  hS ) ?_
  intro z1 M2 hP3
  obtain ⟨eM, f3⟩ := hP3
  subst eM
  obtain rfl : z1 = 1 := by omega
  refine n_if0_ne c_106_8 (by omega) ?_ ?_
  · intro h4
    refine n_aload_n c_106_13 rfl ?_
    refine n_iload_n c_106_14 rfl ?_
    refine n_v1A c_106_15 rfl sc_3.n rfl rfl rfl rfl (madeListX_2_3 (Ms := M) hS (by rfl) (by exact hpz) (by rw [hms]; exact hwa) (by rw [hms]; exact hkn) (by rw [hms]; exact hkl)) ?_
    intro z5 M6 hP7
    obtain ⟨hS6, f7, f7p0, f7p1, f7p2⟩ := hP7
    have g112 := f7p0.2.2 112 0 (by omega) (by omega) (by omega) (by omega) (by omega) (by omega)
    obtain rfl : z5 = 106 := f7
    refine n_astore_n (L2 := [some (2, 3), some (0, 2), some (0, c), some (2, 106)]) c_106_18 rfl rfl ?_
    refine n_aload_n c_106_19 rfl ?_
    refine n_getV (bi := 1) c_106_20 made106.c0.1.n rfl rfl rfl (t_made hS6 made106).2.1 ?_
    intro z8 ez8 f9
    refine n_if0_eq c_106_23 (by omega) ?_ ?_
    · intro h10
      refine n_iload_n c_106_29 rfl ?_
      refine n_if0_lt c_106_30 (by omega) ?_ ?_
      · intro h11
        refine n_iconst c_106_45 ?_
        exact n_rI c_106_46 rfl ⟨hS6, by omega, by omega, by have y := f7p0; rw [hms] at y; exact y, by have u := f7p2; rw [hms] at u; exact u⟩
      · intro h12
        refine n_iload_n c_106_33 rfl ?_
        refine n_aload_n c_106_34 rfl ?_
        refine n_getR c_106_35 sc_3.n rfl rfl rfl r_3_0 ?_
        refine n_iload_n c_106_38 rfl ?_
        refine n_v1I c_106_39 rfl sc_4.n rfl rfl rfl rfl (codesX2_3  hS6 ) ?_
        intro z13 M14 hP15
        obtain ⟨eM, f15⟩ := hP15
        subst eM
        obtain rfl : z13 = 19683 := by omega
        refine n_if2_lt c_106_42 (by omega) (by omega) ?_ ?_
        · intro h16
          refine n_aload_n c_106_47 rfl ?_
          refine n_iload_n c_106_48 rfl ?_
          refine n_v1I c_106_49 rfl made106.c0.1.n rfl rfl rfl rfl (sizeOf_2_3 (c := c) hS6 (by omega)) ?_
          intro z17 M18 hP19
          obtain ⟨eM, f19⟩ := hP19
          subst eM
          exact n_rI c_106_52 rfl ⟨hS6, by omega, by omega, by have y := f7p0; rw [hms] at y; exact y, by have u := f7p2; rw [hms] at u; exact u⟩
        · intro h20
          refine n_iconst c_106_45 ?_
          exact n_rI c_106_46 rfl ⟨hS6, by omega, by omega, by have y := f7p0; rw [hms] at y; exact y, by have u := f7p2; rw [hms] at u; exact u⟩
    · intro h21
      refine n_bipush c_106_26 rfl ?_
      exact n_rI c_106_28 rfl ⟨hS6, by omega, by omega, by have y := f7p0; rw [hms] at y; exact y, by have u := f7p2; rw [hms] at u; exact u⟩
  · intro h22
    exfalso; omega
