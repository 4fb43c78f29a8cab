/-! The methods, by program. -/
set_option maxHeartbeats 4000000 in
theorem codeOf6_3_2 {xs : List Int32} {e : Nat} {ac : Int} {M0 M : nM} (hS : Sf 2 ac M0 M) (hB : M 15 0 = 4) : nW xs e 53 0 [some (2, 15), some (2, 6), some (0, 8), none, none] [] M (nPI fun z M1 => M = M1 ∧ (0 ≤ z ∧ z ≤ 255)) := by
  have hd : (2 : Int) = 2 ∨ (2 : Int) = 3 := by decide
  have hac := hS.2.2.2.2
  refine n_iconst c_53_0 ?_
  refine n_istore_n (L2 := [some (2, 15), some (2, 6), some (0, 8), some (0, 0), none]) c_53_1 rfl rfl ?_
  refine n_iload_n c_53_2 rfl ?_
  refine n_iconst c_53_3 ?_
  refine n_isub c_53_4 rfl ?_
  refine n_istore (L2 := [some (2, 15), some (2, 6), some (0, 8), some (0, 0), some (0, (8 - 1))]) c_53_5 rfl rfl ?_
  refine n_iload c_53_7 rfl ?_
  refine n_if0_lt c_53_9 (by omega) ?_ ?_
  · intro h1
    exfalso; omega
  · intro h2
    refine n_iload_n c_53_12 rfl ?_
    refine n_aload_n c_53_13 rfl ?_
    refine n_getB c_53_14 hB ?_
    refine n_getV (bi := 0) c_53_17 sc_4.n rfl rfl rfl (t_4_0 hS) ?_
    intro z3 ez3 f4
    obtain rfl : z3 = 2 := by omega
    refine n_imul c_53_20 rfl ?_
    refine n_aload_n c_53_21 rfl ?_
    refine n_iload c_53_22 rfl ?_
    refine n_ialoadV c_53_24 sc_6.n rfl rfl rfl (by omega) (t_6k (z := 1) hS (by omega) (by omega) (by omega)) ?_
    intro z5 ez5 f6
    refine n_iadd c_53_25 rfl ?_
    refine n_istore_n (L2 := [some (2, 15), some (2, 6), some (0, 8), some (0, ((0 * 2) + z5)), some (0, (8 - 1))]) c_53_26 rfl rfl ?_
    refine n_iinc (L2 := [some (2, 15), some (2, 6), some (0, 8), some (0, ((0 * 2) + z5)), some (0, ((8 - 1) + (-1)))]) c_53_27 rfl rfl rfl ?_
    refine n_goto c_53_30 ?_
    refine n_iload c_53_7 rfl ?_
    refine n_if0_lt c_53_9 (by omega) ?_ ?_
    · intro h7
      exfalso; omega
    · intro h8
      refine n_iload_n c_53_12 rfl ?_
      refine n_aload_n c_53_13 rfl ?_
      refine n_getB c_53_14 hB ?_
      refine n_getV (bi := 0) c_53_17 sc_4.n rfl rfl rfl (t_4_0 hS) ?_
      intro z9 ez9 f10
      obtain rfl : z9 = 2 := by omega
      refine n_imul c_53_20 rfl ?_
      refine n_aload_n c_53_21 rfl ?_
      refine n_iload c_53_22 rfl ?_
      refine n_ialoadV c_53_24 sc_6.n rfl rfl rfl (by omega) (t_6k (z := 1) hS (by omega) (by omega) (by omega)) ?_
      intro z11 ez11 f12
      refine n_iadd c_53_25 rfl ?_
      refine n_istore_n (L2 := [some (2, 15), some (2, 6), some (0, 8), some (0, ((((0 * 2) + z5) * 2) + z11)), some (0, ((8 - 1) + (-1)))]) c_53_26 rfl rfl ?_
      refine n_iinc (L2 := [some (2, 15), some (2, 6), some (0, 8), some (0, ((((0 * 2) + z5) * 2) + z11)), some (0, (((8 - 1) + (-1)) + (-1)))]) c_53_27 rfl rfl rfl ?_
      refine n_goto c_53_30 ?_
      refine n_iload c_53_7 rfl ?_
      refine n_if0_lt c_53_9 (by omega) ?_ ?_
      · intro h13
        exfalso; omega
      · intro h14
        refine n_iload_n c_53_12 rfl ?_
        refine n_aload_n c_53_13 rfl ?_
        refine n_getB c_53_14 hB ?_
        refine n_getV (bi := 0) c_53_17 sc_4.n rfl rfl rfl (t_4_0 hS) ?_
        intro z15 ez15 f16
        obtain rfl : z15 = 2 := by omega
        refine n_imul c_53_20 rfl ?_
        refine n_aload_n c_53_21 rfl ?_
        refine n_iload c_53_22 rfl ?_
        refine n_ialoadV c_53_24 sc_6.n rfl rfl rfl (by omega) (t_6k (z := 0) hS (by omega) (by omega) (by omega)) ?_
        intro z17 ez17 f18
        refine n_iadd c_53_25 rfl ?_
        refine n_istore_n (L2 := [some (2, 15), some (2, 6), some (0, 8), some (0, ((((((0 * 2) + z5) * 2) + z11) * 2) + z17)), some (0, (((8 - 1) + (-1)) + (-1)))]) c_53_26 rfl rfl ?_
        refine n_iinc (L2 := [some (2, 15), some (2, 6), some (0, 8), some (0, ((((((0 * 2) + z5) * 2) + z11) * 2) + z17)), some (0, ((((8 - 1) + (-1)) + (-1)) + (-1)))]) c_53_27 rfl rfl rfl ?_
        refine n_goto c_53_30 ?_
        refine n_iload c_53_7 rfl ?_
        refine n_if0_lt c_53_9 (by omega) ?_ ?_
        · intro h19
          exfalso; omega
        · intro h20
          refine n_iload_n c_53_12 rfl ?_
          refine n_aload_n c_53_13 rfl ?_
          refine n_getB c_53_14 hB ?_
          refine n_getV (bi := 0) c_53_17 sc_4.n rfl rfl rfl (t_4_0 hS) ?_
          intro z21 ez21 f22
          obtain rfl : z21 = 2 := by omega
          refine n_imul c_53_20 rfl ?_
          refine n_aload_n c_53_21 rfl ?_
          refine n_iload c_53_22 rfl ?_
          refine n_ialoadV c_53_24 sc_6.n rfl rfl rfl (by omega) (t_6k (z := 0) hS (by omega) (by omega) (by omega)) ?_
          intro z23 ez23 f24
          refine n_iadd c_53_25 rfl ?_
          refine n_istore_n (L2 := [some (2, 15), some (2, 6), some (0, 8), some (0, ((((((((0 * 2) + z5) * 2) + z11) * 2) + z17) * 2) + z23)), some (0, ((((8 - 1) + (-1)) + (-1)) + (-1)))]) c_53_26 rfl rfl ?_
          refine n_iinc (L2 := [some (2, 15), some (2, 6), some (0, 8), some (0, ((((((((0 * 2) + z5) * 2) + z11) * 2) + z17) * 2) + z23)), some (0, (((((8 - 1) + (-1)) + (-1)) + (-1)) + (-1)))]) c_53_27 rfl rfl rfl ?_
          refine n_goto c_53_30 ?_
          refine n_iload c_53_7 rfl ?_
          refine n_if0_lt c_53_9 (by omega) ?_ ?_
          · intro h25
            exfalso; omega
          · intro h26
            refine n_iload_n c_53_12 rfl ?_
            refine n_aload_n c_53_13 rfl ?_
            refine n_getB c_53_14 hB ?_
            refine n_getV (bi := 0) c_53_17 sc_4.n rfl rfl rfl (t_4_0 hS) ?_
            intro z27 ez27 f28
            obtain rfl : z27 = 2 := by omega
            refine n_imul c_53_20 rfl ?_
            refine n_aload_n c_53_21 rfl ?_
            refine n_iload c_53_22 rfl ?_
            refine n_ialoadV c_53_24 sc_6.n rfl rfl rfl (by omega) (t_6k (z := 1) hS (by omega) (by omega) (by omega)) ?_
            intro z29 ez29 f30
            refine n_iadd c_53_25 rfl ?_
            refine n_istore_n (L2 := [some (2, 15), some (2, 6), some (0, 8), some (0, ((((((((((0 * 2) + z5) * 2) + z11) * 2) + z17) * 2) + z23) * 2) + z29)), some (0, (((((8 - 1) + (-1)) + (-1)) + (-1)) + (-1)))]) c_53_26 rfl rfl ?_
            refine n_iinc (L2 := [some (2, 15), some (2, 6), some (0, 8), some (0, ((((((((((0 * 2) + z5) * 2) + z11) * 2) + z17) * 2) + z23) * 2) + z29)), some (0, ((((((8 - 1) + (-1)) + (-1)) + (-1)) + (-1)) + (-1)))]) c_53_27 rfl rfl rfl ?_
            refine n_goto c_53_30 ?_
            refine n_iload c_53_7 rfl ?_
            refine n_if0_lt c_53_9 (by omega) ?_ ?_
            · intro h31
              exfalso; omega
            · intro h32
              refine n_iload_n c_53_12 rfl ?_
              refine n_aload_n c_53_13 rfl ?_
              refine n_getB c_53_14 hB ?_
              refine n_getV (bi := 0) c_53_17 sc_4.n rfl rfl rfl (t_4_0 hS) ?_
              intro z33 ez33 f34
              obtain rfl : z33 = 2 := by omega
              refine n_imul c_53_20 rfl ?_
              refine n_aload_n c_53_21 rfl ?_
              refine n_iload c_53_22 rfl ?_
              refine n_ialoadV c_53_24 sc_6.n rfl rfl rfl (by omega) (t_6k (z := 1) hS (by omega) (by omega) (by omega)) ?_
              intro z35 ez35 f36
              refine n_iadd c_53_25 rfl ?_
              refine n_istore_n (L2 := [some (2, 15), some (2, 6), some (0, 8), some (0, ((((((((((((0 * 2) + z5) * 2) + z11) * 2) + z17) * 2) + z23) * 2) + z29) * 2) + z35)), some (0, ((((((8 - 1) + (-1)) + (-1)) + (-1)) + (-1)) + (-1)))]) c_53_26 rfl rfl ?_
              refine n_iinc (L2 := [some (2, 15), some (2, 6), some (0, 8), some (0, ((((((((((((0 * 2) + z5) * 2) + z11) * 2) + z17) * 2) + z23) * 2) + z29) * 2) + z35)), some (0, (((((((8 - 1) + (-1)) + (-1)) + (-1)) + (-1)) + (-1)) + (-1)))]) c_53_27 rfl rfl rfl ?_
              refine n_goto c_53_30 ?_
              refine n_iload c_53_7 rfl ?_
              refine n_if0_lt c_53_9 (by omega) ?_ ?_
              · intro h37
                exfalso; omega
              · intro h38
                refine n_iload_n c_53_12 rfl ?_
                refine n_aload_n c_53_13 rfl ?_
                refine n_getB c_53_14 hB ?_
                refine n_getV (bi := 0) c_53_17 sc_4.n rfl rfl rfl (t_4_0 hS) ?_
                intro z39 ez39 f40
                obtain rfl : z39 = 2 := by omega
                refine n_imul c_53_20 rfl ?_
                refine n_aload_n c_53_21 rfl ?_
                refine n_iload c_53_22 rfl ?_
                refine n_ialoadV c_53_24 sc_6.n rfl rfl rfl (by omega) (t_6k (z := 0) hS (by omega) (by omega) (by omega)) ?_
                intro z41 ez41 f42
                refine n_iadd c_53_25 rfl ?_
                refine n_istore_n (L2 := [some (2, 15), some (2, 6), some (0, 8), some (0, ((((((((((((((0 * 2) + z5) * 2) + z11) * 2) + z17) * 2) + z23) * 2) + z29) * 2) + z35) * 2) + z41)), some (0, (((((((8 - 1) + (-1)) + (-1)) + (-1)) + (-1)) + (-1)) + (-1)))]) c_53_26 rfl rfl ?_
                refine n_iinc (L2 := [some (2, 15), some (2, 6), some (0, 8), some (0, ((((((((((((((0 * 2) + z5) * 2) + z11) * 2) + z17) * 2) + z23) * 2) + z29) * 2) + z35) * 2) + z41)), some (0, ((((((((8 - 1) + (-1)) + (-1)) + (-1)) + (-1)) + (-1)) + (-1)) + (-1)))]) c_53_27 rfl rfl rfl ?_
                refine n_goto c_53_30 ?_
                refine n_iload c_53_7 rfl ?_
                refine n_if0_lt c_53_9 (by omega) ?_ ?_
                · intro h43
                  exfalso; omega
                · intro h44
                  refine n_iload_n c_53_12 rfl ?_
                  refine n_aload_n c_53_13 rfl ?_
                  refine n_getB c_53_14 hB ?_
                  refine n_getV (bi := 0) c_53_17 sc_4.n rfl rfl rfl (t_4_0 hS) ?_
                  intro z45 ez45 f46
                  obtain rfl : z45 = 2 := by omega
                  refine n_imul c_53_20 rfl ?_
                  refine n_aload_n c_53_21 rfl ?_
                  refine n_iload c_53_22 rfl ?_
                  refine n_ialoadV c_53_24 sc_6.n rfl rfl rfl (by omega) (t_6k (z := 0) hS (by omega) (by omega) (by omega)) ?_
                  intro z47 ez47 f48
                  refine n_iadd c_53_25 rfl ?_
                  refine n_istore_n (L2 := [some (2, 15), some (2, 6), some (0, 8), some (0, ((((((((((((((((0 * 2) + z5) * 2) + z11) * 2) + z17) * 2) + z23) * 2) + z29) * 2) + z35) * 2) + z41) * 2) + z47)), some (0, ((((((((8 - 1) + (-1)) + (-1)) + (-1)) + (-1)) + (-1)) + (-1)) + (-1)))]) c_53_26 rfl rfl ?_
                  refine n_iinc (L2 := [some (2, 15), some (2, 6), some (0, 8), some (0, ((((((((((((((((0 * 2) + z5) * 2) + z11) * 2) + z17) * 2) + z23) * 2) + z29) * 2) + z35) * 2) + z41) * 2) + z47)), some (0, (((((((((8 - 1) + (-1)) + (-1)) + (-1)) + (-1)) + (-1)) + (-1)) + (-1)) + (-1)))]) c_53_27 rfl rfl rfl ?_
                  refine n_goto c_53_30 ?_
                  refine n_iload c_53_7 rfl ?_
                  refine n_if0_lt c_53_9 (by omega) ?_ ?_
                  · intro h49
                    refine n_iload_n c_53_33 rfl ?_
                    exact n_rI c_53_34 rfl ⟨rfl, by omega⟩
                  · intro h50
                    exfalso; omega

set_option maxHeartbeats 4000000 in
theorem codeOf7_3_2 {xs : List Int32} {e : Nat} {ac : Int} {M0 M : nM} (hS : Sf 2 ac M0 M) (hB : M 15 0 = 4) : nW xs e 53 0 [some (2, 15), some (2, 7), some (0, 8), none, none] [] M (nPI fun z M1 => M = M1 ∧ (0 ≤ z ∧ z ≤ 255)) := by
  have hd : (2 : Int) = 2 ∨ (2 : Int) = 3 := by decide
  have hac := hS.2.2.2.2
  refine n_iconst c_53_0 ?_
  refine n_istore_n (L2 := [some (2, 15), some (2, 7), some (0, 8), some (0, 0), none]) c_53_1 rfl rfl ?_
  refine n_iload_n c_53_2 rfl ?_
  refine n_iconst c_53_3 ?_
  refine n_isub c_53_4 rfl ?_
  refine n_istore (L2 := [some (2, 15), some (2, 7), some (0, 8), some (0, 0), some (0, (8 - 1))]) c_53_5 rfl rfl ?_
  refine n_iload c_53_7 rfl ?_
  refine n_if0_lt c_53_9 (by omega) ?_ ?_
  · intro h1
    exfalso; omega
  · intro h2
    refine n_iload_n c_53_12 rfl ?_
    refine n_aload_n c_53_13 rfl ?_
    refine n_getB c_53_14 hB ?_
    refine n_getV (bi := 0) c_53_17 sc_4.n rfl rfl rfl (t_4_0 hS) ?_
    intro z3 ez3 f4
    obtain rfl : z3 = 2 := by omega
    refine n_imul c_53_20 rfl ?_
    refine n_aload_n c_53_21 rfl ?_
    refine n_iload c_53_22 rfl ?_
    refine n_ialoadV c_53_24 sc_7.n rfl rfl rfl (by omega) (t_7k (z := 1) hS (by omega) (by omega) (by omega)) ?_
    intro z5 ez5 f6
    refine n_iadd c_53_25 rfl ?_
    refine n_istore_n (L2 := [some (2, 15), some (2, 7), some (0, 8), some (0, ((0 * 2) + z5)), some (0, (8 - 1))]) c_53_26 rfl rfl ?_
    refine n_iinc (L2 := [some (2, 15), some (2, 7), some (0, 8), some (0, ((0 * 2) + z5)), some (0, ((8 - 1) + (-1)))]) c_53_27 rfl rfl rfl ?_
    refine n_goto c_53_30 ?_
    refine n_iload c_53_7 rfl ?_
    refine n_if0_lt c_53_9 (by omega) ?_ ?_
    · intro h7
      exfalso; omega
    · intro h8
      refine n_iload_n c_53_12 rfl ?_
      refine n_aload_n c_53_13 rfl ?_
      refine n_getB c_53_14 hB ?_
      refine n_getV (bi := 0) c_53_17 sc_4.n rfl rfl rfl (t_4_0 hS) ?_
      intro z9 ez9 f10
      obtain rfl : z9 = 2 := by omega
      refine n_imul c_53_20 rfl ?_
      refine n_aload_n c_53_21 rfl ?_
      refine n_iload c_53_22 rfl ?_
      refine n_ialoadV c_53_24 sc_7.n rfl rfl rfl (by omega) (t_7k (z := 0) hS (by omega) (by omega) (by omega)) ?_
      intro z11 ez11 f12
      refine n_iadd c_53_25 rfl ?_
      refine n_istore_n (L2 := [some (2, 15), some (2, 7), some (0, 8), some (0, ((((0 * 2) + z5) * 2) + z11)), some (0, ((8 - 1) + (-1)))]) c_53_26 rfl rfl ?_
      refine n_iinc (L2 := [some (2, 15), some (2, 7), some (0, 8), some (0, ((((0 * 2) + z5) * 2) + z11)), some (0, (((8 - 1) + (-1)) + (-1)))]) c_53_27 rfl rfl rfl ?_
      refine n_goto c_53_30 ?_
      refine n_iload c_53_7 rfl ?_
      refine n_if0_lt c_53_9 (by omega) ?_ ?_
      · intro h13
        exfalso; omega
      · intro h14
        refine n_iload_n c_53_12 rfl ?_
        refine n_aload_n c_53_13 rfl ?_
        refine n_getB c_53_14 hB ?_
        refine n_getV (bi := 0) c_53_17 sc_4.n rfl rfl rfl (t_4_0 hS) ?_
        intro z15 ez15 f16
        obtain rfl : z15 = 2 := by omega
        refine n_imul c_53_20 rfl ?_
        refine n_aload_n c_53_21 rfl ?_
        refine n_iload c_53_22 rfl ?_
        refine n_ialoadV c_53_24 sc_7.n rfl rfl rfl (by omega) (t_7k (z := 1) hS (by omega) (by omega) (by omega)) ?_
        intro z17 ez17 f18
        refine n_iadd c_53_25 rfl ?_
        refine n_istore_n (L2 := [some (2, 15), some (2, 7), some (0, 8), some (0, ((((((0 * 2) + z5) * 2) + z11) * 2) + z17)), some (0, (((8 - 1) + (-1)) + (-1)))]) c_53_26 rfl rfl ?_
        refine n_iinc (L2 := [some (2, 15), some (2, 7), some (0, 8), some (0, ((((((0 * 2) + z5) * 2) + z11) * 2) + z17)), some (0, ((((8 - 1) + (-1)) + (-1)) + (-1)))]) c_53_27 rfl rfl rfl ?_
        refine n_goto c_53_30 ?_
        refine n_iload c_53_7 rfl ?_
        refine n_if0_lt c_53_9 (by omega) ?_ ?_
        · intro h19
          exfalso; omega
        · intro h20
          refine n_iload_n c_53_12 rfl ?_
          refine n_aload_n c_53_13 rfl ?_
          refine n_getB c_53_14 hB ?_
          refine n_getV (bi := 0) c_53_17 sc_4.n rfl rfl rfl (t_4_0 hS) ?_
          intro z21 ez21 f22
          obtain rfl : z21 = 2 := by omega
          refine n_imul c_53_20 rfl ?_
          refine n_aload_n c_53_21 rfl ?_
          refine n_iload c_53_22 rfl ?_
          refine n_ialoadV c_53_24 sc_7.n rfl rfl rfl (by omega) (t_7k (z := 0) hS (by omega) (by omega) (by omega)) ?_
          intro z23 ez23 f24
          refine n_iadd c_53_25 rfl ?_
          refine n_istore_n (L2 := [some (2, 15), some (2, 7), some (0, 8), some (0, ((((((((0 * 2) + z5) * 2) + z11) * 2) + z17) * 2) + z23)), some (0, ((((8 - 1) + (-1)) + (-1)) + (-1)))]) c_53_26 rfl rfl ?_
          refine n_iinc (L2 := [some (2, 15), some (2, 7), some (0, 8), some (0, ((((((((0 * 2) + z5) * 2) + z11) * 2) + z17) * 2) + z23)), some (0, (((((8 - 1) + (-1)) + (-1)) + (-1)) + (-1)))]) c_53_27 rfl rfl rfl ?_
          refine n_goto c_53_30 ?_
          refine n_iload c_53_7 rfl ?_
          refine n_if0_lt c_53_9 (by omega) ?_ ?_
          · intro h25
            exfalso; omega
          · intro h26
            refine n_iload_n c_53_12 rfl ?_
            refine n_aload_n c_53_13 rfl ?_
            refine n_getB c_53_14 hB ?_
            refine n_getV (bi := 0) c_53_17 sc_4.n rfl rfl rfl (t_4_0 hS) ?_
            intro z27 ez27 f28
            obtain rfl : z27 = 2 := by omega
            refine n_imul c_53_20 rfl ?_
            refine n_aload_n c_53_21 rfl ?_
            refine n_iload c_53_22 rfl ?_
            refine n_ialoadV c_53_24 sc_7.n rfl rfl rfl (by omega) (t_7k (z := 1) hS (by omega) (by omega) (by omega)) ?_
            intro z29 ez29 f30
            refine n_iadd c_53_25 rfl ?_
            refine n_istore_n (L2 := [some (2, 15), some (2, 7), some (0, 8), some (0, ((((((((((0 * 2) + z5) * 2) + z11) * 2) + z17) * 2) + z23) * 2) + z29)), some (0, (((((8 - 1) + (-1)) + (-1)) + (-1)) + (-1)))]) c_53_26 rfl rfl ?_
            refine n_iinc (L2 := [some (2, 15), some (2, 7), some (0, 8), some (0, ((((((((((0 * 2) + z5) * 2) + z11) * 2) + z17) * 2) + z23) * 2) + z29)), some (0, ((((((8 - 1) + (-1)) + (-1)) + (-1)) + (-1)) + (-1)))]) c_53_27 rfl rfl rfl ?_
            refine n_goto c_53_30 ?_
            refine n_iload c_53_7 rfl ?_
            refine n_if0_lt c_53_9 (by omega) ?_ ?_
            · intro h31
              exfalso; omega
            · intro h32
              refine n_iload_n c_53_12 rfl ?_
              refine n_aload_n c_53_13 rfl ?_
              refine n_getB c_53_14 hB ?_
              refine n_getV (bi := 0) c_53_17 sc_4.n rfl rfl rfl (t_4_0 hS) ?_
              intro z33 ez33 f34
              obtain rfl : z33 = 2 := by omega
              refine n_imul c_53_20 rfl ?_
              refine n_aload_n c_53_21 rfl ?_
              refine n_iload c_53_22 rfl ?_
              refine n_ialoadV c_53_24 sc_7.n rfl rfl rfl (by omega) (t_7k (z := 0) hS (by omega) (by omega) (by omega)) ?_
              intro z35 ez35 f36
              refine n_iadd c_53_25 rfl ?_
              refine n_istore_n (L2 := [some (2, 15), some (2, 7), some (0, 8), some (0, ((((((((((((0 * 2) + z5) * 2) + z11) * 2) + z17) * 2) + z23) * 2) + z29) * 2) + z35)), some (0, ((((((8 - 1) + (-1)) + (-1)) + (-1)) + (-1)) + (-1)))]) c_53_26 rfl rfl ?_
              refine n_iinc (L2 := [some (2, 15), some (2, 7), some (0, 8), some (0, ((((((((((((0 * 2) + z5) * 2) + z11) * 2) + z17) * 2) + z23) * 2) + z29) * 2) + z35)), some (0, (((((((8 - 1) + (-1)) + (-1)) + (-1)) + (-1)) + (-1)) + (-1)))]) c_53_27 rfl rfl rfl ?_
              refine n_goto c_53_30 ?_
              refine n_iload c_53_7 rfl ?_
              refine n_if0_lt c_53_9 (by omega) ?_ ?_
              · intro h37
                exfalso; omega
              · intro h38
                refine n_iload_n c_53_12 rfl ?_
                refine n_aload_n c_53_13 rfl ?_
                refine n_getB c_53_14 hB ?_
                refine n_getV (bi := 0) c_53_17 sc_4.n rfl rfl rfl (t_4_0 hS) ?_
                intro z39 ez39 f40
                obtain rfl : z39 = 2 := by omega
                refine n_imul c_53_20 rfl ?_
                refine n_aload_n c_53_21 rfl ?_
                refine n_iload c_53_22 rfl ?_
                refine n_ialoadV c_53_24 sc_7.n rfl rfl rfl (by omega) (t_7k (z := 1) hS (by omega) (by omega) (by omega)) ?_
                intro z41 ez41 f42
                refine n_iadd c_53_25 rfl ?_
                refine n_istore_n (L2 := [some (2, 15), some (2, 7), some (0, 8), some (0, ((((((((((((((0 * 2) + z5) * 2) + z11) * 2) + z17) * 2) + z23) * 2) + z29) * 2) + z35) * 2) + z41)), some (0, (((((((8 - 1) + (-1)) + (-1)) + (-1)) + (-1)) + (-1)) + (-1)))]) c_53_26 rfl rfl ?_
                refine n_iinc (L2 := [some (2, 15), some (2, 7), some (0, 8), some (0, ((((((((((((((0 * 2) + z5) * 2) + z11) * 2) + z17) * 2) + z23) * 2) + z29) * 2) + z35) * 2) + z41)), some (0, ((((((((8 - 1) + (-1)) + (-1)) + (-1)) + (-1)) + (-1)) + (-1)) + (-1)))]) c_53_27 rfl rfl rfl ?_
                refine n_goto c_53_30 ?_
                refine n_iload c_53_7 rfl ?_
                refine n_if0_lt c_53_9 (by omega) ?_ ?_
                · intro h43
                  exfalso; omega
                · intro h44
                  refine n_iload_n c_53_12 rfl ?_
                  refine n_aload_n c_53_13 rfl ?_
                  refine n_getB c_53_14 hB ?_
                  refine n_getV (bi := 0) c_53_17 sc_4.n rfl rfl rfl (t_4_0 hS) ?_
                  intro z45 ez45 f46
                  obtain rfl : z45 = 2 := by omega
                  refine n_imul c_53_20 rfl ?_
                  refine n_aload_n c_53_21 rfl ?_
                  refine n_iload c_53_22 rfl ?_
                  refine n_ialoadV c_53_24 sc_7.n rfl rfl rfl (by omega) (t_7k (z := 0) hS (by omega) (by omega) (by omega)) ?_
                  intro z47 ez47 f48
                  refine n_iadd c_53_25 rfl ?_
                  refine n_istore_n (L2 := [some (2, 15), some (2, 7), some (0, 8), some (0, ((((((((((((((((0 * 2) + z5) * 2) + z11) * 2) + z17) * 2) + z23) * 2) + z29) * 2) + z35) * 2) + z41) * 2) + z47)), some (0, ((((((((8 - 1) + (-1)) + (-1)) + (-1)) + (-1)) + (-1)) + (-1)) + (-1)))]) c_53_26 rfl rfl ?_
                  refine n_iinc (L2 := [some (2, 15), some (2, 7), some (0, 8), some (0, ((((((((((((((((0 * 2) + z5) * 2) + z11) * 2) + z17) * 2) + z23) * 2) + z29) * 2) + z35) * 2) + z41) * 2) + z47)), some (0, (((((((((8 - 1) + (-1)) + (-1)) + (-1)) + (-1)) + (-1)) + (-1)) + (-1)) + (-1)))]) c_53_27 rfl rfl rfl ?_
                  refine n_goto c_53_30 ?_
                  refine n_iload c_53_7 rfl ?_
                  refine n_if0_lt c_53_9 (by omega) ?_ ?_
                  · intro h49
                    refine n_iload_n c_53_33 rfl ?_
                    exact n_rI c_53_34 rfl ⟨rfl, by omega⟩
                  · intro h50
                    exfalso; omega

set_option maxHeartbeats 4000000 in
theorem add_3_2 {xs : List Int32} {e : Nat} {ac : Int} {M0 M : nM} {c s : Int} (hS : Sf 2 ac M0 M) (hc : 0 ≤ c ∧ c ≤ 255) (hs : -2147483648 ≤ s ∧ s ≤ 2147483647) (hK : MK 256 8 7 56 192 1 2 4 8 16 32 64 128 0 M) : nW xs (e + 1) 56 0 [some (2, 15), some (0, c), some (0, s)] [] M (nPV fun M1 => Sf 2 ac M0 M1 ∧ MK 256 8 7 56 192 1 2 4 8 16 32 64 128 0 M1 ∧ (M 15 10 ≤ M1 15 10)) := by
  have hd : (2 : Int) = 2 ∨ (2 : Int) = 3 := by decide
  have hac := hS.2.2.2.2
  refine n_aload_n c_56_0 rfl ?_
  refine n_getV (bi := 10) c_56_1 sc_15.n rfl rfl rfl (t_15_10 hS) ?_
  intro z1 ez1 f2
  refine n_sipush c_56_4 rfl ?_
  refine n_if2_le c_56_7 (by omega) (by omega) ?_ ?_
  · intro h3
    refine n_aload_n c_56_11 rfl ?_
    refine n_getR c_56_12 sc_15.n rfl rfl rfl r_15_1 ?_
    refine n_aload_n c_56_15 rfl ?_
    refine n_getV (bi := 10) c_56_16 sc_15.n rfl rfl rfl (t_15_10 hS) ?_
    intro z4 ez4 f5
    obtain rfl : z1 = z4 := by omega
    refine n_iload_n c_56_19 rfl ?_
    refine n_iastoreV hS c_56_20 sc_20.n rfl (by omega) (w_20 (by omega) (by omega)) ?_
    intro M6 eM6 hS6
    have hK6 := hK.u (by unfold Kok; omega) eM6
    have g6_0 : M6 15 10 = M 15 10 := by rw [eM6]; exact nu_a (by omega)
    have g6_1 : M6 20 z1 = c := by rw [eM6]; exact nu_s _ _ _ _
    refine n_aload_n c_56_21 rfl ?_
    refine n_getR c_56_22 sc_15.n rfl rfl rfl r_15_2 ?_
    refine n_aload_n c_56_25 rfl ?_
    refine n_getV (bi := 10) c_56_26 sc_15.n rfl rfl rfl (t_15_10 hS6) ?_
    intro z7 ez7 f8
    obtain rfl : z1 = z7 := by omega
    refine n_iload_n c_56_29 rfl ?_
    refine n_iastoreV hS6 c_56_30 sc_21.n rfl (by omega) (w_21 (by omega) (by omega)) ?_
    intro M9 eM9 hS9
    have hK9 := hK6.u (by unfold Kok; omega) eM9
    have g9_0 : M9 15 10 = M6 15 10 := by rw [eM9]; exact nu_a (by omega)
    have g9_1 : M9 20 z1 = M6 20 z1 := by rw [eM9]; exact nu_a (by omega)
    have g9_2 : M9 21 z1 = s := by rw [eM9]; exact nu_s _ _ _ _
    refine n_aload_n c_56_31 rfl ?_
    refine n_getR c_56_32 sc_15.n rfl rfl rfl r_15_3 ?_
    refine n_aload_n c_56_35 rfl ?_
    refine n_getV (bi := 10) c_56_36 sc_15.n rfl rfl rfl (t_15_10 hS9) ?_
    intro z10 ez10 f11
    obtain rfl : z1 = z10 := by omega
    refine n_aload_n c_56_39 rfl ?_
    refine n_getB c_56_40 hK9.b ?_
    refine n_iload_n c_56_43 rfl ?_
    refine n_iconst c_56_44 ?_
    refine n_v2I c_56_45 rfl sc_4.n rfl rfl rfl rfl (threeOf0_2 (c := c) hS9 (by omega)) ?_
    intro z12 M13 hP14
    obtain ⟨eM, f14⟩ := hP14
    subst eM
    refine n_iastoreV hS9 c_56_48 sc_22.n rfl (by omega) (w_22 (by omega) (by omega)) ?_
    intro M15 eM15 hS15
    have hK15 := hK9.u (by unfold Kok; omega) eM15
    have g15_0 : M15 15 10 = M9 15 10 := by rw [eM15]; exact nu_a (by omega)
    have g15_1 : M15 20 z1 = M9 20 z1 := by rw [eM15]; exact nu_a (by omega)
    have g15_2 : M15 21 z1 = M9 21 z1 := by rw [eM15]; exact nu_a (by omega)
    have g15_3 : M15 22 z1 = z12 := by rw [eM15]; exact nu_s _ _ _ _
    refine n_aload_n c_56_49 rfl ?_
    refine n_getR c_56_50 sc_15.n rfl rfl rfl r_15_4 ?_
    refine n_aload_n c_56_53 rfl ?_
    refine n_getV (bi := 10) c_56_54 sc_15.n rfl rfl rfl (t_15_10 hS15) ?_
    intro z16 ez16 f17
    obtain rfl : z1 = z16 := by omega
    refine n_aload_n c_56_57 rfl ?_
    refine n_getB c_56_58 hK15.b ?_
    refine n_iload_n c_56_61 rfl ?_
    refine n_iconst c_56_62 ?_
    refine n_v2I c_56_63 rfl sc_4.n rfl rfl rfl rfl (threeOf3_2 (c := c) hS15 (by omega)) ?_
    intro z18 M19 hP20
    obtain ⟨eM, f20⟩ := hP20
    subst eM
    refine n_iastoreV hS15 c_56_66 sc_23.n rfl (by omega) (w_23 (by omega) (by omega)) ?_
    intro M21 eM21 hS21
    have hK21 := hK15.u (by unfold Kok; omega) eM21
    have g21_0 : M21 15 10 = M15 15 10 := by rw [eM21]; exact nu_a (by omega)
    have g21_1 : M21 20 z1 = M15 20 z1 := by rw [eM21]; exact nu_a (by omega)
    have g21_2 : M21 21 z1 = M15 21 z1 := by rw [eM21]; exact nu_a (by omega)
    have g21_3 : M21 22 z1 = M15 22 z1 := by rw [eM21]; exact nu_a (by omega)
    have g21_4 : M21 23 z1 = z18 := by rw [eM21]; exact nu_s _ _ _ _
    refine n_aload_n c_56_67 rfl ?_
    refine n_getR c_56_68 sc_15.n rfl rfl rfl r_15_5 ?_
    refine n_aload_n c_56_71 rfl ?_
    refine n_getV (bi := 10) c_56_72 sc_15.n rfl rfl rfl (t_15_10 hS21) ?_
    intro z22 ez22 f23
    obtain rfl : z1 = z22 := by omega
    refine n_aload_n c_56_75 rfl ?_
    refine n_getB c_56_76 hK21.b ?_
    refine n_iload_n c_56_79 rfl ?_
    refine n_bipush c_56_80 rfl ?_
    refine n_v2I c_56_82 rfl sc_4.n rfl rfl rfl rfl (threeOf6_2 (c := c) hS21 (by omega)) ?_
    intro z24 M25 hP26
    obtain ⟨eM, f26⟩ := hP26
    subst eM
    refine n_iastoreV hS21 c_56_85 sc_24.n rfl (by omega) (w_24 (by omega) (by omega)) ?_
    intro M27 eM27 hS27
    have hK27 := hK21.u (by unfold Kok; omega) eM27
    have g27_0 : M27 15 10 = M21 15 10 := by rw [eM27]; exact nu_a (by omega)
    have g27_1 : M27 20 z1 = M21 20 z1 := by rw [eM27]; exact nu_a (by omega)
    have g27_2 : M27 21 z1 = M21 21 z1 := by rw [eM27]; exact nu_a (by omega)
    have g27_3 : M27 22 z1 = M21 22 z1 := by rw [eM27]; exact nu_a (by omega)
    have g27_4 : M27 23 z1 = M21 23 z1 := by rw [eM27]; exact nu_a (by omega)
    have g27_5 : M27 24 z1 = z24 := by rw [eM27]; exact nu_s _ _ _ _
    refine n_aload_n c_56_86 rfl ?_
    refine n_dup2 c_56_87 ?_
    refine n_getV (bi := 10) c_56_88 sc_15.n rfl rfl rfl (t_15_10 hS27) ?_
    intro z28 ez28 f29
    obtain rfl : z1 = z28 := by omega
    refine n_iconst c_56_91 ?_
    refine n_iadd c_56_92 rfl ?_
    refine n_putV (bi := 10) hS27 c_56_93 sc_15.n rfl rfl rfl rfl (w_15_10 (by omega)) ?_
    intro M30 eM30 hS30
    have hK30 := hK27.cnt (c := z1) (by omega) (by omega) (z := (z1 + 1)) (by omega) eM30
    have g30_0 : M30 20 z1 = M27 20 z1 := by rw [eM30]; exact nu_a (by omega)
    have g30_1 : M30 21 z1 = M27 21 z1 := by rw [eM30]; exact nu_a (by omega)
    have g30_2 : M30 22 z1 = M27 22 z1 := by rw [eM30]; exact nu_a (by omega)
    have g30_3 : M30 23 z1 = M27 23 z1 := by rw [eM30]; exact nu_a (by omega)
    have g30_4 : M30 24 z1 = M27 24 z1 := by rw [eM30]; exact nu_a (by omega)
    have g30_5 : M30 15 10 = (z1 + 1) := by rw [eM30]; exact nu_s _ _ _ _
    refine n_aload_n c_56_96 rfl ?_
    refine n_getP c_56_97 ?_
    intro p31 ep31
    refine n_iload_n c_56_100 rfl ?_
    refine n_aload_n c_56_101 rfl ?_
    refine n_getV (bi := 10) c_56_102 sc_15.n rfl rfl rfl (t_15_10 hS30) ?_
    intro z32 ez32 f33
    refine n_iastoreP hS30 hK30 c_56_105 ep31 (by omega) (by omega) ?_
    intro M34 fM34 hS34 hK34
    have g34_0 := fM34 20 z1 (by omega) (by omega)
    have g34_1 := fM34 21 z1 (by omega) (by omega)
    have g34_2 := fM34 22 z1 (by omega) (by omega)
    have g34_3 := fM34 23 z1 (by omega) (by omega)
    have g34_4 := fM34 24 z1 (by omega) (by omega)
    have g34_5 := fM34 15 10 (by omega) (by omega)
    exact n_rV c_56_106 rfl ⟨hS34, hK34, by omega⟩
  · intro h35
    exact n_rV c_56_10 rfl ⟨hS, hK, by omega⟩

set_option maxHeartbeats 4000000 in
theorem fillM25T_3_2_c {xs : List Int32} {e : Nat} {ac : Int} {M0 M : nM} {p i j g : Int} (hS : Sf 2 ac M0 M) (hp : ActAt p) (hpl : p < 55 + 3 * ac) (hi : 0 ≤ i ∧ i ≤ 7) (hj : 0 ≤ j ∧ j ≤ 7) (hK : MK 256 8 7 56 192 1 2 4 8 16 32 64 128 0 M) (hg : M 15 10 = g) : ∀ nn : Nat, (∀ (x5 x6 x7 x8 x9 x10 : Int) (M : nM), Sf 2 ac M0 M → (2 ≤ x5 ∧ x5 ≤ 2) → (0 ≤ x6 ∧ x6 ≤ 6) → (0 ≤ x7 ∧ x7 ≤ 6) → (0 ≤ x8 ∧ x8 ≤ 6) → (0 ≤ x9 ∧ x9 ≤ 8) → (0 ≤ x10 ∧ x10 ≤ 2) → (MK 256 8 7 56 192 1 2 4 8 16 32 64 128 0 M) → (M 15 10 = g) → (x9 = 4 * x10) → (2 - x10) * 21 + 21 < (nn : Int) → nW xs e 45 86 [some (2, 25), none, some (2, (p + 1)), none, none, some (0, x5), some (0, x6), some (0, x7), some (0, x8), some (0, x9), some (0, x10), none, none, none, none] [] M (nPV fun M1 => Sf 2 ac M0 M1 ∧ (M1 15 10 = g) ∧ MK 256 8 7 56 192 1 2 4 8 16 32 64 128 0 M1)) ∧ (∀ (x5 x6 x7 x8 x9 x10 x11 x12 : Int) (M : nM), Sf 2 ac M0 M → (2 ≤ x5 ∧ x5 ≤ 2) → (0 ≤ x6 ∧ x6 ≤ 6) → (0 ≤ x7 ∧ x7 ≤ 6) → (0 ≤ x8 ∧ x8 ≤ 6) → (0 ≤ x9 ∧ x9 ≤ 8) → (0 ≤ x10 ∧ x10 ≤ 1) → (0 ≤ x11 ∧ x11 ≤ 1) → (0 ≤ x12 ∧ x12 ≤ 2) → (MK 256 8 7 56 192 1 2 4 8 16 32 64 128 0 M) → (M 15 10 = g) → (x9 = 4 * x10 + 2 * x12) → (2 - x10) * 21 + (2 - x12) * 5 + 5 < (nn : Int) → nW xs e 45 110 [some (2, 25), none, some (2, (p + 1)), none, none, some (0, x5), some (0, x6), some (0, x7), some (0, x8), some (0, x9), some (0, x10), some (0, x11), some (0, x12), none, none] [] M (nPV fun M1 => Sf 2 ac M0 M1 ∧ (M1 15 10 = g) ∧ MK 256 8 7 56 192 1 2 4 8 16 32 64 128 0 M1)) ∧ (∀ (x5 x6 x7 x8 x9 x10 x11 x12 x13 x14 : Int) (M : nM), Sf 2 ac M0 M → (2 ≤ x5 ∧ x5 ≤ 2) → (0 ≤ x6 ∧ x6 ≤ 6) → (0 ≤ x7 ∧ x7 ≤ 6) → (0 ≤ x8 ∧ x8 ≤ 6) → (0 ≤ x9 ∧ x9 ≤ 8) → (0 ≤ x10 ∧ x10 ≤ 1) → (0 ≤ x11 ∧ x11 ≤ 1) → (0 ≤ x12 ∧ x12 ≤ 1) → (0 ≤ x13 ∧ x13 ≤ 3) → (0 ≤ x14 ∧ x14 ≤ 2) → (MK 256 8 7 56 192 1 2 4 8 16 32 64 128 0 M) → (M 15 10 = g) → (x9 = 4 * x10 + 2 * x12 + x14) → (2 - x10) * 21 + (2 - x12) * 5 + (2 - x14) * 1 + 1 < (nn : Int) → nW xs e 45 137 [some (2, 25), none, some (2, (p + 1)), none, none, some (0, x5), some (0, x6), some (0, x7), some (0, x8), some (0, x9), some (0, x10), some (0, x11), some (0, x12), some (0, x13), some (0, x14)] [] M (nPV fun M1 => Sf 2 ac M0 M1 ∧ (M1 15 10 = g) ∧ MK 256 8 7 56 192 1 2 4 8 16 32 64 128 0 M1)) := by
  have hd : (2 : Int) = 2 ∨ (2 : Int) = 3 := by decide
  have hac := hS.2.2.2.2
  intro nn
  induction nn with
  | zero => refine ⟨?_, ?_, ?_⟩ <;> (intros; omega)
  | succ nn ih =>
    refine ⟨?_, ?_, ?_⟩
    · intro x5 x6 x7 x8 x9 x10 M hS k5 k6 k7 k8 k9 k10 hK hgg v0 hnn
      refine n_iload c_45_86 rfl ?_
      refine n_iload c_45_88 rfl ?_
      refine n_if2_ge c_45_90 (by omega) (by omega) ?_ ?_
      · intro h1
        exact n_rV c_45_187 rfl ⟨hS, by omega, hK⟩
      · intro h2
        refine n_aload_n c_45_93 rfl ?_
        refine n_iload c_45_94 rfl ?_
        refine n_iload c_45_96 rfl ?_
        refine n_iadd c_45_98 rfl ?_
        refine n_ialoadV c_45_99 hp.c0.2.1.n rfl rfl rfl (by omega) (t_actrl hS hp hpl (Or.inl rfl) (by omega) (by omega)) ?_
        intro z3 ez3 f4
        refine n_aload_n c_45_100 rfl ?_
        refine n_getV (bi := 1) c_45_101 sc_25.n rfl rfl rfl hK.w25.1 ?_
        intro z5 ez5 f6
        obtain rfl : z5 = 1 := by omega
        refine n_imul c_45_104 rfl ?_
        refine n_istore (L2 := [some (2, 25), none, some (2, (p + 1)), none, none, some (0, x5), some (0, x6), some (0, x7), some (0, x8), some (0, x9), some (0, x10), some (0, (z3 * 1)), none, none, none]) c_45_105 rfl rfl ?_
        refine n_iconst c_45_107 ?_
        refine n_istore (L2 := [some (2, 25), none, some (2, (p + 1)), none, none, some (0, x5), some (0, x6), some (0, x7), some (0, x8), some (0, x9), some (0, x10), some (0, (z3 * 1)), some (0, 0), none, none]) c_45_108 rfl rfl ?_
        refine n_fg (le_s (le_n (le_s (le_n (le_n (le_s (le_s (le_s (le_s (le_s (le_s (le_s (le_s (le_n (le_n le_0))))))))))))))) ?_
        exact ih.2.1 _ _ _ _ _ _ _ _ M hS (by omega) (by omega) (by omega) (by omega) (by omega) (by omega) (by omega) (by omega) hK (by omega) (by omega) (by omega)
    · intro x5 x6 x7 x8 x9 x10 x11 x12 M hS k5 k6 k7 k8 k9 k10 k11 k12 hK hgg v0 hnn
      refine n_iload c_45_110 rfl ?_
      refine n_iload c_45_112 rfl ?_
      refine n_if2_ge c_45_114 (by omega) (by omega) ?_ ?_
      · intro h1
        refine n_iinc (L2 := [some (2, 25), none, some (2, (p + 1)), none, none, some (0, x5), some (0, x6), some (0, x7), some (0, x8), some (0, x9), some (0, (x10 + 1)), some (0, x11), some (0, x12), none, none]) c_45_181 rfl rfl rfl ?_
        refine n_goto c_45_184 ?_
        refine n_fg (le_s (le_n (le_s (le_n (le_n (le_s (le_s (le_s (le_s (le_s (le_s (le_n (le_n (le_n (le_n le_0))))))))))))))) ?_
        exact ih.1 _ _ _ _ _ _ M hS (by omega) (by omega) (by omega) (by omega) (by omega) (by omega) hK (by omega) (by omega) (by omega)
      · intro h2
        refine n_iload c_45_117 rfl ?_
        refine n_aload_n c_45_119 rfl ?_
        refine n_iload c_45_120 rfl ?_
        refine n_iload c_45_122 rfl ?_
        refine n_iadd c_45_124 rfl ?_
        refine n_ialoadV c_45_125 hp.c0.2.1.n rfl rfl rfl (by omega) (t_actrl hS hp hpl (Or.inl rfl) (by omega) (by omega)) ?_
        intro z3 ez3 f4
        refine n_aload_n c_45_126 rfl ?_
        refine n_getV (bi := 2) c_45_127 sc_25.n rfl rfl rfl hK.w25.2.1 ?_
        intro z5 ez5 f6
        obtain rfl : z5 = 2 := by omega
        refine n_imul c_45_130 rfl ?_
        refine n_iadd c_45_131 rfl ?_
        refine n_istore (L2 := [some (2, 25), none, some (2, (p + 1)), none, none, some (0, x5), some (0, x6), some (0, x7), some (0, x8), some (0, x9), some (0, x10), some (0, x11), some (0, x12), some (0, (x11 + (z3 * 2))), none]) c_45_132 rfl rfl ?_
        refine n_iconst c_45_134 ?_
        refine n_istore (L2 := [some (2, 25), none, some (2, (p + 1)), none, none, some (0, x5), some (0, x6), some (0, x7), some (0, x8), some (0, x9), some (0, x10), some (0, x11), some (0, x12), some (0, (x11 + (z3 * 2))), some (0, 0)]) c_45_135 rfl rfl ?_
        refine n_fg (le_s (le_n (le_s (le_n (le_n (le_s (le_s (le_s (le_s (le_s (le_s (le_s (le_s (le_s (le_s le_0))))))))))))))) ?_
        exact ih.2.2 _ _ _ _ _ _ _ _ _ _ M hS (by omega) (by omega) (by omega) (by omega) (by omega) (by omega) (by omega) (by omega) (by omega) (by omega) hK (by omega) (by omega) (by omega)
    · intro x5 x6 x7 x8 x9 x10 x11 x12 x13 x14 M hS k5 k6 k7 k8 k9 k10 k11 k12 k13 k14 hK hgg v0 hnn
      refine n_iload c_45_137 rfl ?_
      refine n_iload c_45_139 rfl ?_
      refine n_if2_ge c_45_141 (by omega) (by omega) ?_ ?_
      · intro h1
        refine n_iinc (L2 := [some (2, 25), none, some (2, (p + 1)), none, none, some (0, x5), some (0, x6), some (0, x7), some (0, x8), some (0, x9), some (0, x10), some (0, x11), some (0, (x12 + 1)), some (0, x13), some (0, x14)]) c_45_175 rfl rfl rfl ?_
        refine n_goto c_45_178 ?_
        refine n_fg (le_s (le_n (le_s (le_n (le_n (le_s (le_s (le_s (le_s (le_s (le_s (le_s (le_s (le_n (le_n le_0))))))))))))))) ?_
        exact ih.2.1 _ _ _ _ _ _ _ _ M hS (by omega) (by omega) (by omega) (by omega) (by omega) (by omega) (by omega) (by omega) hK (by omega) (by omega) (by omega)
      · intro h2
        refine n_aload_n c_45_144 rfl ?_
        refine n_getR c_45_145 sc_25.n rfl rfl rfl r_25_0 ?_
        refine n_iload c_45_148 rfl ?_
        refine n_iload c_45_150 rfl ?_
        refine n_aload_n c_45_152 rfl ?_
        refine n_iload c_45_153 rfl ?_
        refine n_iload c_45_155 rfl ?_
        refine n_iadd c_45_157 rfl ?_
        refine n_ialoadV c_45_158 hp.c0.2.1.n rfl rfl rfl (by omega) (t_actrl hS hp hpl (Or.inl rfl) (by omega) (by omega)) ?_
        intro z3 ez3 f4
        refine n_aload_n c_45_159 rfl ?_
        refine n_getV (bi := 3) c_45_160 sc_25.n rfl rfl rfl hK.w25.2.2 ?_
        intro z5 ez5 f6
        obtain rfl : z5 = 4 := by omega
        refine n_imul c_45_163 rfl ?_
        refine n_iadd c_45_164 rfl ?_
        refine n_iastoreV hS c_45_165 sc_26.n rfl (by omega) (w_26 (by omega) (by omega)) ?_
        intro M7 eM7 hS7
        have hK7 := hK.u (by unfold Kok; omega) eM7
        have g7_0 : M7 15 10 = M 15 10 := by rw [eM7]; exact nu_a (by omega)
        refine n_iinc (L2 := [some (2, 25), none, some (2, (p + 1)), none, none, some (0, x5), some (0, x6), some (0, x7), some (0, x8), some (0, (x9 + 1)), some (0, x10), some (0, x11), some (0, x12), some (0, x13), some (0, x14)]) c_45_166 rfl rfl rfl ?_
        refine n_iinc (L2 := [some (2, 25), none, some (2, (p + 1)), none, none, some (0, x5), some (0, x6), some (0, x7), some (0, x8), some (0, (x9 + 1)), some (0, x10), some (0, x11), some (0, x12), some (0, x13), some (0, (x14 + 1))]) c_45_169 rfl rfl rfl ?_
        refine n_goto c_45_172 ?_
        refine n_fg (le_s (le_n (le_s (le_n (le_n (le_s (le_s (le_s (le_s (le_s (le_s (le_s (le_s (le_s (le_s le_0))))))))))))))) ?_
        exact ih.2.2 _ _ _ _ _ _ _ _ _ _ M7 hS7 (by omega) (by omega) (by omega) (by omega) (by omega) (by omega) (by omega) (by omega) (by omega) (by omega) hK7 (by omega) (by omega) (by omega)
set_option maxHeartbeats 4000000 in
theorem fillM25T_3_2 {xs : List Int32} {e : Nat} {ac : Int} {M0 M : nM} {p i j g : Int} (hS : Sf 2 ac M0 M) (hp : ActAt p) (hpl : p < 55 + 3 * ac) (hi : 0 ≤ i ∧ i ≤ 7) (hj : 0 ≤ j ∧ j ≤ 7) (hK : MK 256 8 7 56 192 1 2 4 8 16 32 64 128 0 M) (hg : M 15 10 = g) : nW xs e 45 0 [some (2, 25), some (2, 4), some (2, (p + 1)), some (0, i), some (0, j), none, none, none, none, none, none, none, none, none, none] [] M (nPV fun M1 => Sf 2 ac M0 M1 ∧ (M1 15 10 = g) ∧ MK 256 8 7 56 192 1 2 4 8 16 32 64 128 0 M1) := by
  have hd : (2 : Int) = 2 ∨ (2 : Int) = 3 := by decide
  have hac := hS.2.2.2.2
  refine n_aload_n c_45_0 rfl ?_
  refine n_getV (bi := 1) c_45_1 sc_25.n rfl rfl rfl hK.w25.1 ?_
  intro z1 ez1 f2
  obtain rfl : z1 = 1 := by omega
  refine n_if0_ne c_45_4 (by omega) ?_ ?_
  · intro h3
    refine n_aload_n c_45_8 rfl ?_
    refine n_getV (bi := 0) c_45_9 sc_4.n rfl rfl rfl (t_4_0 hS) ?_
    intro z4 ez4 f5
    obtain rfl : z4 = 2 := by omega
    refine n_istore (L2 := [some (2, 25), some (2, 4), some (2, (p + 1)), some (0, i), some (0, j), some (0, 2), none, none, none, none, none, none, none, none, none]) c_45_12 rfl rfl ?_
    refine n_aload_n c_45_14 rfl ?_
    refine n_getR c_45_15 sc_4.n rfl rfl rfl r_4_2 ?_
    refine n_iload_n c_45_18 rfl ?_
    refine n_ialoadV c_45_19 sc_5.n rfl rfl rfl (by omega) (t_5d hS hd (by omega) (by omega)) ?_
    intro z6 ez6 f7
    refine n_iload c_45_20 rfl ?_
    refine n_imul c_45_22 rfl ?_
    refine n_aload_n c_45_23 rfl ?_
    refine n_getR c_45_24 sc_4.n rfl rfl rfl r_4_2 ?_
    refine n_iload c_45_27 rfl ?_
    refine n_ialoadV c_45_29 sc_5.n rfl rfl rfl (by omega) (t_5d hS hd (by omega) (by omega)) ?_
    intro z8 ez8 f9
    refine n_iadd c_45_30 rfl ?_
    refine n_iload c_45_31 rfl ?_
    refine n_imul c_45_33 rfl ?_
    refine n_istore (L2 := [some (2, 25), some (2, 4), some (2, (p + 1)), some (0, i), some (0, j), some (0, 2), some (0, (((z6 * 2) + z8) * 2)), none, none, none, none, none, none, none, none]) c_45_34 rfl rfl ?_
    refine n_aload_n c_45_36 rfl ?_
    refine n_getR c_45_37 sc_4.n rfl rfl rfl r_4_3 ?_
    refine n_iload_n c_45_40 rfl ?_
    refine n_ialoadV c_45_41 sc_6.n rfl rfl rfl (by omega) (t_6d hS hd (by omega) (by omega)) ?_
    intro z10 ez10 f11
    refine n_iload c_45_42 rfl ?_
    refine n_imul c_45_44 rfl ?_
    refine n_aload_n c_45_45 rfl ?_
    refine n_getR c_45_46 sc_4.n rfl rfl rfl r_4_3 ?_
    refine n_iload c_45_49 rfl ?_
    refine n_ialoadV c_45_51 sc_6.n rfl rfl rfl (by omega) (t_6d hS hd (by omega) (by omega)) ?_
    intro z12 ez12 f13
    refine n_iadd c_45_52 rfl ?_
    refine n_iload c_45_53 rfl ?_
    refine n_imul c_45_55 rfl ?_
    refine n_istore (L2 := [some (2, 25), some (2, 4), some (2, (p + 1)), some (0, i), some (0, j), some (0, 2), some (0, (((z6 * 2) + z8) * 2)), some (0, (((z10 * 2) + z12) * 2)), none, none, none, none, none, none, none]) c_45_56 rfl rfl ?_
    refine n_aload_n c_45_58 rfl ?_
    refine n_getR c_45_59 sc_4.n rfl rfl rfl r_4_4 ?_
    refine n_iload_n c_45_62 rfl ?_
    refine n_ialoadV c_45_63 sc_7.n rfl rfl rfl (by omega) (t_7d hS hd (by omega) (by omega)) ?_
    intro z14 ez14 f15
    refine n_iload c_45_64 rfl ?_
    refine n_imul c_45_66 rfl ?_
    refine n_aload_n c_45_67 rfl ?_
    refine n_getR c_45_68 sc_4.n rfl rfl rfl r_4_4 ?_
    refine n_iload c_45_71 rfl ?_
    refine n_ialoadV c_45_73 sc_7.n rfl rfl rfl (by omega) (t_7d hS hd (by omega) (by omega)) ?_
    intro z16 ez16 f17
    refine n_iadd c_45_74 rfl ?_
    refine n_iload c_45_75 rfl ?_
    refine n_imul c_45_77 rfl ?_
    refine n_istore (L2 := [some (2, 25), some (2, 4), some (2, (p + 1)), some (0, i), some (0, j), some (0, 2), some (0, (((z6 * 2) + z8) * 2)), some (0, (((z10 * 2) + z12) * 2)), some (0, (((z14 * 2) + z16) * 2)), none, none, none, none, none, none]) c_45_78 rfl rfl ?_
    refine n_iconst c_45_80 ?_
    refine n_istore (L2 := [some (2, 25), some (2, 4), some (2, (p + 1)), some (0, i), some (0, j), some (0, 2), some (0, (((z6 * 2) + z8) * 2)), some (0, (((z10 * 2) + z12) * 2)), some (0, (((z14 * 2) + z16) * 2)), some (0, 0), none, none, none, none, none]) c_45_81 rfl rfl ?_
    refine n_iconst c_45_83 ?_
    refine n_istore (L2 := [some (2, 25), some (2, 4), some (2, (p + 1)), some (0, i), some (0, j), some (0, 2), some (0, (((z6 * 2) + z8) * 2)), some (0, (((z10 * 2) + z12) * 2)), some (0, (((z14 * 2) + z16) * 2)), some (0, 0), some (0, 0), none, none, none, none]) c_45_84 rfl rfl ?_
    refine n_fg (le_s (le_n (le_s (le_n (le_n (le_s (le_s (le_s (le_s (le_s (le_s (le_n (le_n (le_n (le_n le_0))))))))))))))) ?_
    exact (fillM25T_3_2_c hS hp hpl hi hj hK hg 178).1 _ _ _ _ _ _ M hS (by omega) (by omega) (by omega) (by omega) (by omega) (by omega) hK (by omega) (by omega) (by omega)
  · intro h18
    exfalso; omega

set_option maxHeartbeats 4000000 in
theorem fillM27T_3_2_c {xs : List Int32} {e : Nat} {ac : Int} {M0 M : nM} {p i j g : Int} (hS : Sf 2 ac M0 M) (hp : ActAt p) (hpl : p < 55 + 3 * ac) (hi : 0 ≤ i ∧ i ≤ 7) (hj : 0 ≤ j ∧ j ≤ 7) (hK : MK 256 8 7 56 192 1 2 4 8 16 32 64 128 0 M) (hg : M 15 10 = g) : ∀ nn : Nat, (∀ (x5 x6 x7 x8 x9 x10 : Int) (M : nM), Sf 2 ac M0 M → (2 ≤ x5 ∧ x5 ≤ 2) → (0 ≤ x6 ∧ x6 ≤ 6) → (0 ≤ x7 ∧ x7 ≤ 6) → (0 ≤ x8 ∧ x8 ≤ 6) → (0 ≤ x9 ∧ x9 ≤ 8) → (0 ≤ x10 ∧ x10 ≤ 2) → (MK 256 8 7 56 192 1 2 4 8 16 32 64 128 0 M) → (M 15 10 = g) → (x9 = 4 * x10) → (2 - x10) * 21 + 21 < (nn : Int) → nW xs e 45 86 [some (2, 27), none, some (2, (p + 1)), none, none, some (0, x5), some (0, x6), some (0, x7), some (0, x8), some (0, x9), some (0, x10), none, none, none, none] [] M (nPV fun M1 => Sf 2 ac M0 M1 ∧ (M1 15 10 = g) ∧ MK 256 8 7 56 192 1 2 4 8 16 32 64 128 0 M1)) ∧ (∀ (x5 x6 x7 x8 x9 x10 x11 x12 : Int) (M : nM), Sf 2 ac M0 M → (2 ≤ x5 ∧ x5 ≤ 2) → (0 ≤ x6 ∧ x6 ≤ 6) → (0 ≤ x7 ∧ x7 ≤ 6) → (0 ≤ x8 ∧ x8 ≤ 6) → (0 ≤ x9 ∧ x9 ≤ 8) → (0 ≤ x10 ∧ x10 ≤ 1) → (0 ≤ x11 ∧ x11 ≤ 8) → (0 ≤ x12 ∧ x12 ≤ 2) → (MK 256 8 7 56 192 1 2 4 8 16 32 64 128 0 M) → (M 15 10 = g) → (x9 = 4 * x10 + 2 * x12) → (2 - x10) * 21 + (2 - x12) * 5 + 5 < (nn : Int) → nW xs e 45 110 [some (2, 27), none, some (2, (p + 1)), none, none, some (0, x5), some (0, x6), some (0, x7), some (0, x8), some (0, x9), some (0, x10), some (0, x11), some (0, x12), none, none] [] M (nPV fun M1 => Sf 2 ac M0 M1 ∧ (M1 15 10 = g) ∧ MK 256 8 7 56 192 1 2 4 8 16 32 64 128 0 M1)) ∧ (∀ (x5 x6 x7 x8 x9 x10 x11 x12 x13 x14 : Int) (M : nM), Sf 2 ac M0 M → (2 ≤ x5 ∧ x5 ≤ 2) → (0 ≤ x6 ∧ x6 ≤ 6) → (0 ≤ x7 ∧ x7 ≤ 6) → (0 ≤ x8 ∧ x8 ≤ 6) → (0 ≤ x9 ∧ x9 ≤ 8) → (0 ≤ x10 ∧ x10 ≤ 1) → (0 ≤ x11 ∧ x11 ≤ 8) → (0 ≤ x12 ∧ x12 ≤ 1) → (0 ≤ x13 ∧ x13 ≤ 24) → (0 ≤ x14 ∧ x14 ≤ 2) → (MK 256 8 7 56 192 1 2 4 8 16 32 64 128 0 M) → (M 15 10 = g) → (x9 = 4 * x10 + 2 * x12 + x14) → (2 - x10) * 21 + (2 - x12) * 5 + (2 - x14) * 1 + 1 < (nn : Int) → nW xs e 45 137 [some (2, 27), none, some (2, (p + 1)), none, none, some (0, x5), some (0, x6), some (0, x7), some (0, x8), some (0, x9), some (0, x10), some (0, x11), some (0, x12), some (0, x13), some (0, x14)] [] M (nPV fun M1 => Sf 2 ac M0 M1 ∧ (M1 15 10 = g) ∧ MK 256 8 7 56 192 1 2 4 8 16 32 64 128 0 M1)) := by
  have hd : (2 : Int) = 2 ∨ (2 : Int) = 3 := by decide
  have hac := hS.2.2.2.2
  intro nn
  induction nn with
  | zero => refine ⟨?_, ?_, ?_⟩ <;> (intros; omega)
  | succ nn ih =>
    refine ⟨?_, ?_, ?_⟩
    · intro x5 x6 x7 x8 x9 x10 M hS k5 k6 k7 k8 k9 k10 hK hgg v0 hnn
      refine n_iload c_45_86 rfl ?_
      refine n_iload c_45_88 rfl ?_
      refine n_if2_ge c_45_90 (by omega) (by omega) ?_ ?_
      · intro h1
        exact n_rV c_45_187 rfl ⟨hS, by omega, hK⟩
      · intro h2
        refine n_aload_n c_45_93 rfl ?_
        refine n_iload c_45_94 rfl ?_
        refine n_iload c_45_96 rfl ?_
        refine n_iadd c_45_98 rfl ?_
        refine n_ialoadV c_45_99 hp.c0.2.1.n rfl rfl rfl (by omega) (t_actrl hS hp hpl (Or.inl rfl) (by omega) (by omega)) ?_
        intro z3 ez3 f4
        refine n_aload_n c_45_100 rfl ?_
        refine n_getV (bi := 1) c_45_101 sc_27.n rfl rfl rfl hK.w27.1 ?_
        intro z5 ez5 f6
        obtain rfl : z5 = 8 := by omega
        refine n_imul c_45_104 rfl ?_
        refine n_istore (L2 := [some (2, 27), none, some (2, (p + 1)), none, none, some (0, x5), some (0, x6), some (0, x7), some (0, x8), some (0, x9), some (0, x10), some (0, (z3 * 8)), none, none, none]) c_45_105 rfl rfl ?_
        refine n_iconst c_45_107 ?_
        refine n_istore (L2 := [some (2, 27), none, some (2, (p + 1)), none, none, some (0, x5), some (0, x6), some (0, x7), some (0, x8), some (0, x9), some (0, x10), some (0, (z3 * 8)), some (0, 0), none, none]) c_45_108 rfl rfl ?_
        refine n_fg (le_s (le_n (le_s (le_n (le_n (le_s (le_s (le_s (le_s (le_s (le_s (le_s (le_s (le_n (le_n le_0))))))))))))))) ?_
        exact ih.2.1 _ _ _ _ _ _ _ _ M hS (by omega) (by omega) (by omega) (by omega) (by omega) (by omega) (by omega) (by omega) hK (by omega) (by omega) (by omega)
    · intro x5 x6 x7 x8 x9 x10 x11 x12 M hS k5 k6 k7 k8 k9 k10 k11 k12 hK hgg v0 hnn
      refine n_iload c_45_110 rfl ?_
      refine n_iload c_45_112 rfl ?_
      refine n_if2_ge c_45_114 (by omega) (by omega) ?_ ?_
      · intro h1
        refine n_iinc (L2 := [some (2, 27), none, some (2, (p + 1)), none, none, some (0, x5), some (0, x6), some (0, x7), some (0, x8), some (0, x9), some (0, (x10 + 1)), some (0, x11), some (0, x12), none, none]) c_45_181 rfl rfl rfl ?_
        refine n_goto c_45_184 ?_
        refine n_fg (le_s (le_n (le_s (le_n (le_n (le_s (le_s (le_s (le_s (le_s (le_s (le_n (le_n (le_n (le_n le_0))))))))))))))) ?_
        exact ih.1 _ _ _ _ _ _ M hS (by omega) (by omega) (by omega) (by omega) (by omega) (by omega) hK (by omega) (by omega) (by omega)
      · intro h2
        refine n_iload c_45_117 rfl ?_
        refine n_aload_n c_45_119 rfl ?_
        refine n_iload c_45_120 rfl ?_
        refine n_iload c_45_122 rfl ?_
        refine n_iadd c_45_124 rfl ?_
        refine n_ialoadV c_45_125 hp.c0.2.1.n rfl rfl rfl (by omega) (t_actrl hS hp hpl (Or.inl rfl) (by omega) (by omega)) ?_
        intro z3 ez3 f4
        refine n_aload_n c_45_126 rfl ?_
        refine n_getV (bi := 2) c_45_127 sc_27.n rfl rfl rfl hK.w27.2.1 ?_
        intro z5 ez5 f6
        obtain rfl : z5 = 16 := by omega
        refine n_imul c_45_130 rfl ?_
        refine n_iadd c_45_131 rfl ?_
        refine n_istore (L2 := [some (2, 27), none, some (2, (p + 1)), none, none, some (0, x5), some (0, x6), some (0, x7), some (0, x8), some (0, x9), some (0, x10), some (0, x11), some (0, x12), some (0, (x11 + (z3 * 16))), none]) c_45_132 rfl rfl ?_
        refine n_iconst c_45_134 ?_
        refine n_istore (L2 := [some (2, 27), none, some (2, (p + 1)), none, none, some (0, x5), some (0, x6), some (0, x7), some (0, x8), some (0, x9), some (0, x10), some (0, x11), some (0, x12), some (0, (x11 + (z3 * 16))), some (0, 0)]) c_45_135 rfl rfl ?_
        refine n_fg (le_s (le_n (le_s (le_n (le_n (le_s (le_s (le_s (le_s (le_s (le_s (le_s (le_s (le_s (le_s le_0))))))))))))))) ?_
        exact ih.2.2 _ _ _ _ _ _ _ _ _ _ M hS (by omega) (by omega) (by omega) (by omega) (by omega) (by omega) (by omega) (by omega) (by omega) (by omega) hK (by omega) (by omega) (by omega)
    · intro x5 x6 x7 x8 x9 x10 x11 x12 x13 x14 M hS k5 k6 k7 k8 k9 k10 k11 k12 k13 k14 hK hgg v0 hnn
      refine n_iload c_45_137 rfl ?_
      refine n_iload c_45_139 rfl ?_
      refine n_if2_ge c_45_141 (by omega) (by omega) ?_ ?_
      · intro h1
        refine n_iinc (L2 := [some (2, 27), none, some (2, (p + 1)), none, none, some (0, x5), some (0, x6), some (0, x7), some (0, x8), some (0, x9), some (0, x10), some (0, x11), some (0, (x12 + 1)), some (0, x13), some (0, x14)]) c_45_175 rfl rfl rfl ?_
        refine n_goto c_45_178 ?_
        refine n_fg (le_s (le_n (le_s (le_n (le_n (le_s (le_s (le_s (le_s (le_s (le_s (le_s (le_s (le_n (le_n le_0))))))))))))))) ?_
        exact ih.2.1 _ _ _ _ _ _ _ _ M hS (by omega) (by omega) (by omega) (by omega) (by omega) (by omega) (by omega) (by omega) hK (by omega) (by omega) (by omega)
      · intro h2
        refine n_aload_n c_45_144 rfl ?_
        refine n_getR c_45_145 sc_27.n rfl rfl rfl r_27_0 ?_
        refine n_iload c_45_148 rfl ?_
        refine n_iload c_45_150 rfl ?_
        refine n_aload_n c_45_152 rfl ?_
        refine n_iload c_45_153 rfl ?_
        refine n_iload c_45_155 rfl ?_
        refine n_iadd c_45_157 rfl ?_
        refine n_ialoadV c_45_158 hp.c0.2.1.n rfl rfl rfl (by omega) (t_actrl hS hp hpl (Or.inl rfl) (by omega) (by omega)) ?_
        intro z3 ez3 f4
        refine n_aload_n c_45_159 rfl ?_
        refine n_getV (bi := 3) c_45_160 sc_27.n rfl rfl rfl hK.w27.2.2 ?_
        intro z5 ez5 f6
        obtain rfl : z5 = 32 := by omega
        refine n_imul c_45_163 rfl ?_
        refine n_iadd c_45_164 rfl ?_
        refine n_iastoreV hS c_45_165 sc_28.n rfl (by omega) (w_28 (by omega) (by omega)) ?_
        intro M7 eM7 hS7
        have hK7 := hK.u (by unfold Kok; omega) eM7
        have g7_0 : M7 15 10 = M 15 10 := by rw [eM7]; exact nu_a (by omega)
        refine n_iinc (L2 := [some (2, 27), none, some (2, (p + 1)), none, none, some (0, x5), some (0, x6), some (0, x7), some (0, x8), some (0, (x9 + 1)), some (0, x10), some (0, x11), some (0, x12), some (0, x13), some (0, x14)]) c_45_166 rfl rfl rfl ?_
        refine n_iinc (L2 := [some (2, 27), none, some (2, (p + 1)), none, none, some (0, x5), some (0, x6), some (0, x7), some (0, x8), some (0, (x9 + 1)), some (0, x10), some (0, x11), some (0, x12), some (0, x13), some (0, (x14 + 1))]) c_45_169 rfl rfl rfl ?_
        refine n_goto c_45_172 ?_
        refine n_fg (le_s (le_n (le_s (le_n (le_n (le_s (le_s (le_s (le_s (le_s (le_s (le_s (le_s (le_s (le_s le_0))))))))))))))) ?_
        exact ih.2.2 _ _ _ _ _ _ _ _ _ _ M7 hS7 (by omega) (by omega) (by omega) (by omega) (by omega) (by omega) (by omega) (by omega) (by omega) (by omega) hK7 (by omega) (by omega) (by omega)
set_option maxHeartbeats 4000000 in
theorem fillM27T_3_2 {xs : List Int32} {e : Nat} {ac : Int} {M0 M : nM} {p i j g : Int} (hS : Sf 2 ac M0 M) (hp : ActAt p) (hpl : p < 55 + 3 * ac) (hi : 0 ≤ i ∧ i ≤ 7) (hj : 0 ≤ j ∧ j ≤ 7) (hK : MK 256 8 7 56 192 1 2 4 8 16 32 64 128 0 M) (hg : M 15 10 = g) : nW xs e 45 0 [some (2, 27), some (2, 4), some (2, (p + 1)), some (0, i), some (0, j), none, none, none, none, none, none, none, none, none, none] [] M (nPV fun M1 => Sf 2 ac M0 M1 ∧ (M1 15 10 = g) ∧ MK 256 8 7 56 192 1 2 4 8 16 32 64 128 0 M1) := by
  have hd : (2 : Int) = 2 ∨ (2 : Int) = 3 := by decide
  have hac := hS.2.2.2.2
  refine n_aload_n c_45_0 rfl ?_
  refine n_getV (bi := 1) c_45_1 sc_27.n rfl rfl rfl hK.w27.1 ?_
  intro z1 ez1 f2
  obtain rfl : z1 = 8 := by omega
  refine n_if0_ne c_45_4 (by omega) ?_ ?_
  · intro h3
    refine n_aload_n c_45_8 rfl ?_
    refine n_getV (bi := 0) c_45_9 sc_4.n rfl rfl rfl (t_4_0 hS) ?_
    intro z4 ez4 f5
    obtain rfl : z4 = 2 := by omega
    refine n_istore (L2 := [some (2, 27), some (2, 4), some (2, (p + 1)), some (0, i), some (0, j), some (0, 2), none, none, none, none, none, none, none, none, none]) c_45_12 rfl rfl ?_
    refine n_aload_n c_45_14 rfl ?_
    refine n_getR c_45_15 sc_4.n rfl rfl rfl r_4_2 ?_
    refine n_iload_n c_45_18 rfl ?_
    refine n_ialoadV c_45_19 sc_5.n rfl rfl rfl (by omega) (t_5d hS hd (by omega) (by omega)) ?_
    intro z6 ez6 f7
    refine n_iload c_45_20 rfl ?_
    refine n_imul c_45_22 rfl ?_
    refine n_aload_n c_45_23 rfl ?_
    refine n_getR c_45_24 sc_4.n rfl rfl rfl r_4_2 ?_
    refine n_iload c_45_27 rfl ?_
    refine n_ialoadV c_45_29 sc_5.n rfl rfl rfl (by omega) (t_5d hS hd (by omega) (by omega)) ?_
    intro z8 ez8 f9
    refine n_iadd c_45_30 rfl ?_
    refine n_iload c_45_31 rfl ?_
    refine n_imul c_45_33 rfl ?_
    refine n_istore (L2 := [some (2, 27), some (2, 4), some (2, (p + 1)), some (0, i), some (0, j), some (0, 2), some (0, (((z6 * 2) + z8) * 2)), none, none, none, none, none, none, none, none]) c_45_34 rfl rfl ?_
    refine n_aload_n c_45_36 rfl ?_
    refine n_getR c_45_37 sc_4.n rfl rfl rfl r_4_3 ?_
    refine n_iload_n c_45_40 rfl ?_
    refine n_ialoadV c_45_41 sc_6.n rfl rfl rfl (by omega) (t_6d hS hd (by omega) (by omega)) ?_
    intro z10 ez10 f11
    refine n_iload c_45_42 rfl ?_
    refine n_imul c_45_44 rfl ?_
    refine n_aload_n c_45_45 rfl ?_
    refine n_getR c_45_46 sc_4.n rfl rfl rfl r_4_3 ?_
    refine n_iload c_45_49 rfl ?_
    refine n_ialoadV c_45_51 sc_6.n rfl rfl rfl (by omega) (t_6d hS hd (by omega) (by omega)) ?_
    intro z12 ez12 f13
    refine n_iadd c_45_52 rfl ?_
    refine n_iload c_45_53 rfl ?_
    refine n_imul c_45_55 rfl ?_
    refine n_istore (L2 := [some (2, 27), some (2, 4), some (2, (p + 1)), some (0, i), some (0, j), some (0, 2), some (0, (((z6 * 2) + z8) * 2)), some (0, (((z10 * 2) + z12) * 2)), none, none, none, none, none, none, none]) c_45_56 rfl rfl ?_
    refine n_aload_n c_45_58 rfl ?_
    refine n_getR c_45_59 sc_4.n rfl rfl rfl r_4_4 ?_
    refine n_iload_n c_45_62 rfl ?_
    refine n_ialoadV c_45_63 sc_7.n rfl rfl rfl (by omega) (t_7d hS hd (by omega) (by omega)) ?_
    intro z14 ez14 f15
    refine n_iload c_45_64 rfl ?_
    refine n_imul c_45_66 rfl ?_
    refine n_aload_n c_45_67 rfl ?_
    refine n_getR c_45_68 sc_4.n rfl rfl rfl r_4_4 ?_
    refine n_iload c_45_71 rfl ?_
    refine n_ialoadV c_45_73 sc_7.n rfl rfl rfl (by omega) (t_7d hS hd (by omega) (by omega)) ?_
    intro z16 ez16 f17
    refine n_iadd c_45_74 rfl ?_
    refine n_iload c_45_75 rfl ?_
    refine n_imul c_45_77 rfl ?_
    refine n_istore (L2 := [some (2, 27), some (2, 4), some (2, (p + 1)), some (0, i), some (0, j), some (0, 2), some (0, (((z6 * 2) + z8) * 2)), some (0, (((z10 * 2) + z12) * 2)), some (0, (((z14 * 2) + z16) * 2)), none, none, none, none, none, none]) c_45_78 rfl rfl ?_
    refine n_iconst c_45_80 ?_
    refine n_istore (L2 := [some (2, 27), some (2, 4), some (2, (p + 1)), some (0, i), some (0, j), some (0, 2), some (0, (((z6 * 2) + z8) * 2)), some (0, (((z10 * 2) + z12) * 2)), some (0, (((z14 * 2) + z16) * 2)), some (0, 0), none, none, none, none, none]) c_45_81 rfl rfl ?_
    refine n_iconst c_45_83 ?_
    refine n_istore (L2 := [some (2, 27), some (2, 4), some (2, (p + 1)), some (0, i), some (0, j), some (0, 2), some (0, (((z6 * 2) + z8) * 2)), some (0, (((z10 * 2) + z12) * 2)), some (0, (((z14 * 2) + z16) * 2)), some (0, 0), some (0, 0), none, none, none, none]) c_45_84 rfl rfl ?_
    refine n_fg (le_s (le_n (le_s (le_n (le_n (le_s (le_s (le_s (le_s (le_s (le_s (le_n (le_n (le_n (le_n le_0))))))))))))))) ?_
    exact (fillM27T_3_2_c hS hp hpl hi hj hK hg 178).1 _ _ _ _ _ _ M hS (by omega) (by omega) (by omega) (by omega) (by omega) (by omega) hK (by omega) (by omega) (by omega)
  · intro h18
    exfalso; omega

set_option maxHeartbeats 4000000 in
theorem fillM29T_3_2_c {xs : List Int32} {e : Nat} {ac : Int} {M0 M : nM} {p i j g : Int} (hS : Sf 2 ac M0 M) (hp : ActAt p) (hpl : p < 55 + 3 * ac) (hi : 0 ≤ i ∧ i ≤ 7) (hj : 0 ≤ j ∧ j ≤ 7) (hK : MK 256 8 7 56 192 1 2 4 8 16 32 64 128 0 M) (hg : M 15 10 = g) : ∀ nn : Nat, (∀ (x5 x6 x7 x8 x9 x10 : Int) (M : nM), Sf 2 ac M0 M → (2 ≤ x5 ∧ x5 ≤ 2) → (0 ≤ x6 ∧ x6 ≤ 6) → (0 ≤ x7 ∧ x7 ≤ 6) → (0 ≤ x8 ∧ x8 ≤ 6) → (0 ≤ x9 ∧ x9 ≤ 8) → (0 ≤ x10 ∧ x10 ≤ 2) → (MK 256 8 7 56 192 1 2 4 8 16 32 64 128 0 M) → (M 15 10 = g) → (x9 = 4 * x10) → (2 - x10) * 21 + 21 < (nn : Int) → nW xs e 45 86 [some (2, 29), none, some (2, (p + 1)), none, none, some (0, x5), some (0, x6), some (0, x7), some (0, x8), some (0, x9), some (0, x10), none, none, none, none] [] M (nPV fun M1 => Sf 2 ac M0 M1 ∧ (M1 15 10 = g) ∧ MK 256 8 7 56 192 1 2 4 8 16 32 64 128 0 M1)) ∧ (∀ (x5 x6 x7 x8 x9 x10 x11 x12 : Int) (M : nM), Sf 2 ac M0 M → (2 ≤ x5 ∧ x5 ≤ 2) → (0 ≤ x6 ∧ x6 ≤ 6) → (0 ≤ x7 ∧ x7 ≤ 6) → (0 ≤ x8 ∧ x8 ≤ 6) → (0 ≤ x9 ∧ x9 ≤ 8) → (0 ≤ x10 ∧ x10 ≤ 1) → (0 ≤ x11 ∧ x11 ≤ 64) → (0 ≤ x12 ∧ x12 ≤ 2) → (MK 256 8 7 56 192 1 2 4 8 16 32 64 128 0 M) → (M 15 10 = g) → (x9 = 4 * x10 + 2 * x12) → (2 - x10) * 21 + (2 - x12) * 5 + 5 < (nn : Int) → nW xs e 45 110 [some (2, 29), none, some (2, (p + 1)), none, none, some (0, x5), some (0, x6), some (0, x7), some (0, x8), some (0, x9), some (0, x10), some (0, x11), some (0, x12), none, none] [] M (nPV fun M1 => Sf 2 ac M0 M1 ∧ (M1 15 10 = g) ∧ MK 256 8 7 56 192 1 2 4 8 16 32 64 128 0 M1)) ∧ (∀ (x5 x6 x7 x8 x9 x10 x11 x12 x13 x14 : Int) (M : nM), Sf 2 ac M0 M → (2 ≤ x5 ∧ x5 ≤ 2) → (0 ≤ x6 ∧ x6 ≤ 6) → (0 ≤ x7 ∧ x7 ≤ 6) → (0 ≤ x8 ∧ x8 ≤ 6) → (0 ≤ x9 ∧ x9 ≤ 8) → (0 ≤ x10 ∧ x10 ≤ 1) → (0 ≤ x11 ∧ x11 ≤ 64) → (0 ≤ x12 ∧ x12 ≤ 1) → (0 ≤ x13 ∧ x13 ≤ 192) → (0 ≤ x14 ∧ x14 ≤ 2) → (MK 256 8 7 56 192 1 2 4 8 16 32 64 128 0 M) → (M 15 10 = g) → (x9 = 4 * x10 + 2 * x12 + x14) → (2 - x10) * 21 + (2 - x12) * 5 + (2 - x14) * 1 + 1 < (nn : Int) → nW xs e 45 137 [some (2, 29), none, some (2, (p + 1)), none, none, some (0, x5), some (0, x6), some (0, x7), some (0, x8), some (0, x9), some (0, x10), some (0, x11), some (0, x12), some (0, x13), some (0, x14)] [] M (nPV fun M1 => Sf 2 ac M0 M1 ∧ (M1 15 10 = g) ∧ MK 256 8 7 56 192 1 2 4 8 16 32 64 128 0 M1)) := by
  have hd : (2 : Int) = 2 ∨ (2 : Int) = 3 := by decide
  have hac := hS.2.2.2.2
  intro nn
  induction nn with
  | zero => refine ⟨?_, ?_, ?_⟩ <;> (intros; omega)
  | succ nn ih =>
    refine ⟨?_, ?_, ?_⟩
    · intro x5 x6 x7 x8 x9 x10 M hS k5 k6 k7 k8 k9 k10 hK hgg v0 hnn
      refine n_iload c_45_86 rfl ?_
      refine n_iload c_45_88 rfl ?_
      refine n_if2_ge c_45_90 (by omega) (by omega) ?_ ?_
      · intro h1
        exact n_rV c_45_187 rfl ⟨hS, by omega, hK⟩
      · intro h2
        refine n_aload_n c_45_93 rfl ?_
        refine n_iload c_45_94 rfl ?_
        refine n_iload c_45_96 rfl ?_
        refine n_iadd c_45_98 rfl ?_
        refine n_ialoadV c_45_99 hp.c0.2.1.n rfl rfl rfl (by omega) (t_actrl hS hp hpl (Or.inl rfl) (by omega) (by omega)) ?_
        intro z3 ez3 f4
        refine n_aload_n c_45_100 rfl ?_
        refine n_getV (bi := 1) c_45_101 sc_29.n rfl rfl rfl hK.w29.1 ?_
        intro z5 ez5 f6
        obtain rfl : z5 = 64 := by omega
        refine n_imul c_45_104 rfl ?_
        refine n_istore (L2 := [some (2, 29), none, some (2, (p + 1)), none, none, some (0, x5), some (0, x6), some (0, x7), some (0, x8), some (0, x9), some (0, x10), some (0, (z3 * 64)), none, none, none]) c_45_105 rfl rfl ?_
        refine n_iconst c_45_107 ?_
        refine n_istore (L2 := [some (2, 29), none, some (2, (p + 1)), none, none, some (0, x5), some (0, x6), some (0, x7), some (0, x8), some (0, x9), some (0, x10), some (0, (z3 * 64)), some (0, 0), none, none]) c_45_108 rfl rfl ?_
        refine n_fg (le_s (le_n (le_s (le_n (le_n (le_s (le_s (le_s (le_s (le_s (le_s (le_s (le_s (le_n (le_n le_0))))))))))))))) ?_
        exact ih.2.1 _ _ _ _ _ _ _ _ M hS (by omega) (by omega) (by omega) (by omega) (by omega) (by omega) (by omega) (by omega) hK (by omega) (by omega) (by omega)
    · intro x5 x6 x7 x8 x9 x10 x11 x12 M hS k5 k6 k7 k8 k9 k10 k11 k12 hK hgg v0 hnn
      refine n_iload c_45_110 rfl ?_
      refine n_iload c_45_112 rfl ?_
      refine n_if2_ge c_45_114 (by omega) (by omega) ?_ ?_
      · intro h1
        refine n_iinc (L2 := [some (2, 29), none, some (2, (p + 1)), none, none, some (0, x5), some (0, x6), some (0, x7), some (0, x8), some (0, x9), some (0, (x10 + 1)), some (0, x11), some (0, x12), none, none]) c_45_181 rfl rfl rfl ?_
        refine n_goto c_45_184 ?_
        refine n_fg (le_s (le_n (le_s (le_n (le_n (le_s (le_s (le_s (le_s (le_s (le_s (le_n (le_n (le_n (le_n le_0))))))))))))))) ?_
        exact ih.1 _ _ _ _ _ _ M hS (by omega) (by omega) (by omega) (by omega) (by omega) (by omega) hK (by omega) (by omega) (by omega)
      · intro h2
        refine n_iload c_45_117 rfl ?_
        refine n_aload_n c_45_119 rfl ?_
        refine n_iload c_45_120 rfl ?_
        refine n_iload c_45_122 rfl ?_
        refine n_iadd c_45_124 rfl ?_
        refine n_ialoadV c_45_125 hp.c0.2.1.n rfl rfl rfl (by omega) (t_actrl hS hp hpl (Or.inl rfl) (by omega) (by omega)) ?_
        intro z3 ez3 f4
        refine n_aload_n c_45_126 rfl ?_
        refine n_getV (bi := 2) c_45_127 sc_29.n rfl rfl rfl hK.w29.2.1 ?_
        intro z5 ez5 f6
        obtain rfl : z5 = 128 := by omega
        refine n_imul c_45_130 rfl ?_
        refine n_iadd c_45_131 rfl ?_
        refine n_istore (L2 := [some (2, 29), none, some (2, (p + 1)), none, none, some (0, x5), some (0, x6), some (0, x7), some (0, x8), some (0, x9), some (0, x10), some (0, x11), some (0, x12), some (0, (x11 + (z3 * 128))), none]) c_45_132 rfl rfl ?_
        refine n_iconst c_45_134 ?_
        refine n_istore (L2 := [some (2, 29), none, some (2, (p + 1)), none, none, some (0, x5), some (0, x6), some (0, x7), some (0, x8), some (0, x9), some (0, x10), some (0, x11), some (0, x12), some (0, (x11 + (z3 * 128))), some (0, 0)]) c_45_135 rfl rfl ?_
        refine n_fg (le_s (le_n (le_s (le_n (le_n (le_s (le_s (le_s (le_s (le_s (le_s (le_s (le_s (le_s (le_s le_0))))))))))))))) ?_
        exact ih.2.2 _ _ _ _ _ _ _ _ _ _ M hS (by omega) (by omega) (by omega) (by omega) (by omega) (by omega) (by omega) (by omega) (by omega) (by omega) hK (by omega) (by omega) (by omega)
    · intro x5 x6 x7 x8 x9 x10 x11 x12 x13 x14 M hS k5 k6 k7 k8 k9 k10 k11 k12 k13 k14 hK hgg v0 hnn
      refine n_iload c_45_137 rfl ?_
      refine n_iload c_45_139 rfl ?_
      refine n_if2_ge c_45_141 (by omega) (by omega) ?_ ?_
      · intro h1
        refine n_iinc (L2 := [some (2, 29), none, some (2, (p + 1)), none, none, some (0, x5), some (0, x6), some (0, x7), some (0, x8), some (0, x9), some (0, x10), some (0, x11), some (0, (x12 + 1)), some (0, x13), some (0, x14)]) c_45_175 rfl rfl rfl ?_
        refine n_goto c_45_178 ?_
        refine n_fg (le_s (le_n (le_s (le_n (le_n (le_s (le_s (le_s (le_s (le_s (le_s (le_s (le_s (le_n (le_n le_0))))))))))))))) ?_
        exact ih.2.1 _ _ _ _ _ _ _ _ M hS (by omega) (by omega) (by omega) (by omega) (by omega) (by omega) (by omega) (by omega) hK (by omega) (by omega) (by omega)
      · intro h2
        refine n_aload_n c_45_144 rfl ?_
        refine n_getR c_45_145 sc_29.n rfl rfl rfl r_29_0 ?_
        refine n_iload c_45_148 rfl ?_
        refine n_iload c_45_150 rfl ?_
        refine n_aload_n c_45_152 rfl ?_
        refine n_iload c_45_153 rfl ?_
        refine n_iload c_45_155 rfl ?_
        refine n_iadd c_45_157 rfl ?_
        refine n_ialoadV c_45_158 hp.c0.2.1.n rfl rfl rfl (by omega) (t_actrl hS hp hpl (Or.inl rfl) (by omega) (by omega)) ?_
        intro z3 ez3 f4
        refine n_aload_n c_45_159 rfl ?_
        refine n_getV (bi := 3) c_45_160 sc_29.n rfl rfl rfl hK.w29.2.2 ?_
        intro z5 ez5 f6
        obtain rfl : z5 = 0 := by omega
        refine n_imul c_45_163 rfl ?_
        refine n_iadd c_45_164 rfl ?_
        refine n_iastoreV hS c_45_165 sc_30.n rfl (by omega) (w_30 (by omega) (by omega)) ?_
        intro M7 eM7 hS7
        have hK7 := hK.u (by unfold Kok; omega) eM7
        have g7_0 : M7 15 10 = M 15 10 := by rw [eM7]; exact nu_a (by omega)
        refine n_iinc (L2 := [some (2, 29), none, some (2, (p + 1)), none, none, some (0, x5), some (0, x6), some (0, x7), some (0, x8), some (0, (x9 + 1)), some (0, x10), some (0, x11), some (0, x12), some (0, x13), some (0, x14)]) c_45_166 rfl rfl rfl ?_
        refine n_iinc (L2 := [some (2, 29), none, some (2, (p + 1)), none, none, some (0, x5), some (0, x6), some (0, x7), some (0, x8), some (0, (x9 + 1)), some (0, x10), some (0, x11), some (0, x12), some (0, x13), some (0, (x14 + 1))]) c_45_169 rfl rfl rfl ?_
        refine n_goto c_45_172 ?_
        refine n_fg (le_s (le_n (le_s (le_n (le_n (le_s (le_s (le_s (le_s (le_s (le_s (le_s (le_s (le_s (le_s le_0))))))))))))))) ?_
        exact ih.2.2 _ _ _ _ _ _ _ _ _ _ M7 hS7 (by omega) (by omega) (by omega) (by omega) (by omega) (by omega) (by omega) (by omega) (by omega) (by omega) hK7 (by omega) (by omega) (by omega)
set_option maxHeartbeats 4000000 in
theorem fillM29T_3_2 {xs : List Int32} {e : Nat} {ac : Int} {M0 M : nM} {p i j g : Int} (hS : Sf 2 ac M0 M) (hp : ActAt p) (hpl : p < 55 + 3 * ac) (hi : 0 ≤ i ∧ i ≤ 7) (hj : 0 ≤ j ∧ j ≤ 7) (hK : MK 256 8 7 56 192 1 2 4 8 16 32 64 128 0 M) (hg : M 15 10 = g) : nW xs e 45 0 [some (2, 29), some (2, 4), some (2, (p + 1)), some (0, i), some (0, j), none, none, none, none, none, none, none, none, none, none] [] M (nPV fun M1 => Sf 2 ac M0 M1 ∧ (M1 15 10 = g) ∧ MK 256 8 7 56 192 1 2 4 8 16 32 64 128 0 M1) := by
  have hd : (2 : Int) = 2 ∨ (2 : Int) = 3 := by decide
  have hac := hS.2.2.2.2
  refine n_aload_n c_45_0 rfl ?_
  refine n_getV (bi := 1) c_45_1 sc_29.n rfl rfl rfl hK.w29.1 ?_
  intro z1 ez1 f2
  obtain rfl : z1 = 64 := by omega
  refine n_if0_ne c_45_4 (by omega) ?_ ?_
  · intro h3
    refine n_aload_n c_45_8 rfl ?_
    refine n_getV (bi := 0) c_45_9 sc_4.n rfl rfl rfl (t_4_0 hS) ?_
    intro z4 ez4 f5
    obtain rfl : z4 = 2 := by omega
    refine n_istore (L2 := [some (2, 29), some (2, 4), some (2, (p + 1)), some (0, i), some (0, j), some (0, 2), none, none, none, none, none, none, none, none, none]) c_45_12 rfl rfl ?_
    refine n_aload_n c_45_14 rfl ?_
    refine n_getR c_45_15 sc_4.n rfl rfl rfl r_4_2 ?_
    refine n_iload_n c_45_18 rfl ?_
    refine n_ialoadV c_45_19 sc_5.n rfl rfl rfl (by omega) (t_5d hS hd (by omega) (by omega)) ?_
    intro z6 ez6 f7
    refine n_iload c_45_20 rfl ?_
    refine n_imul c_45_22 rfl ?_
    refine n_aload_n c_45_23 rfl ?_
    refine n_getR c_45_24 sc_4.n rfl rfl rfl r_4_2 ?_
    refine n_iload c_45_27 rfl ?_
    refine n_ialoadV c_45_29 sc_5.n rfl rfl rfl (by omega) (t_5d hS hd (by omega) (by omega)) ?_
    intro z8 ez8 f9
    refine n_iadd c_45_30 rfl ?_
    refine n_iload c_45_31 rfl ?_
    refine n_imul c_45_33 rfl ?_
    refine n_istore (L2 := [some (2, 29), some (2, 4), some (2, (p + 1)), some (0, i), some (0, j), some (0, 2), some (0, (((z6 * 2) + z8) * 2)), none, none, none, none, none, none, none, none]) c_45_34 rfl rfl ?_
    refine n_aload_n c_45_36 rfl ?_
    refine n_getR c_45_37 sc_4.n rfl rfl rfl r_4_3 ?_
    refine n_iload_n c_45_40 rfl ?_
    refine n_ialoadV c_45_41 sc_6.n rfl rfl rfl (by omega) (t_6d hS hd (by omega) (by omega)) ?_
    intro z10 ez10 f11
    refine n_iload c_45_42 rfl ?_
    refine n_imul c_45_44 rfl ?_
    refine n_aload_n c_45_45 rfl ?_
    refine n_getR c_45_46 sc_4.n rfl rfl rfl r_4_3 ?_
    refine n_iload c_45_49 rfl ?_
    refine n_ialoadV c_45_51 sc_6.n rfl rfl rfl (by omega) (t_6d hS hd (by omega) (by omega)) ?_
    intro z12 ez12 f13
    refine n_iadd c_45_52 rfl ?_
    refine n_iload c_45_53 rfl ?_
    refine n_imul c_45_55 rfl ?_
    refine n_istore (L2 := [some (2, 29), some (2, 4), some (2, (p + 1)), some (0, i), some (0, j), some (0, 2), some (0, (((z6 * 2) + z8) * 2)), some (0, (((z10 * 2) + z12) * 2)), none, none, none, none, none, none, none]) c_45_56 rfl rfl ?_
    refine n_aload_n c_45_58 rfl ?_
    refine n_getR c_45_59 sc_4.n rfl rfl rfl r_4_4 ?_
    refine n_iload_n c_45_62 rfl ?_
    refine n_ialoadV c_45_63 sc_7.n rfl rfl rfl (by omega) (t_7d hS hd (by omega) (by omega)) ?_
    intro z14 ez14 f15
    refine n_iload c_45_64 rfl ?_
    refine n_imul c_45_66 rfl ?_
    refine n_aload_n c_45_67 rfl ?_
    refine n_getR c_45_68 sc_4.n rfl rfl rfl r_4_4 ?_
    refine n_iload c_45_71 rfl ?_
    refine n_ialoadV c_45_73 sc_7.n rfl rfl rfl (by omega) (t_7d hS hd (by omega) (by omega)) ?_
    intro z16 ez16 f17
    refine n_iadd c_45_74 rfl ?_
    refine n_iload c_45_75 rfl ?_
    refine n_imul c_45_77 rfl ?_
    refine n_istore (L2 := [some (2, 29), some (2, 4), some (2, (p + 1)), some (0, i), some (0, j), some (0, 2), some (0, (((z6 * 2) + z8) * 2)), some (0, (((z10 * 2) + z12) * 2)), some (0, (((z14 * 2) + z16) * 2)), none, none, none, none, none, none]) c_45_78 rfl rfl ?_
    refine n_iconst c_45_80 ?_
    refine n_istore (L2 := [some (2, 29), some (2, 4), some (2, (p + 1)), some (0, i), some (0, j), some (0, 2), some (0, (((z6 * 2) + z8) * 2)), some (0, (((z10 * 2) + z12) * 2)), some (0, (((z14 * 2) + z16) * 2)), some (0, 0), none, none, none, none, none]) c_45_81 rfl rfl ?_
    refine n_iconst c_45_83 ?_
    refine n_istore (L2 := [some (2, 29), some (2, 4), some (2, (p + 1)), some (0, i), some (0, j), some (0, 2), some (0, (((z6 * 2) + z8) * 2)), some (0, (((z10 * 2) + z12) * 2)), some (0, (((z14 * 2) + z16) * 2)), some (0, 0), some (0, 0), none, none, none, none]) c_45_84 rfl rfl ?_
    refine n_fg (le_s (le_n (le_s (le_n (le_n (le_s (le_s (le_s (le_s (le_s (le_s (le_n (le_n (le_n (le_n le_0))))))))))))))) ?_
    exact (fillM29T_3_2_c hS hp hpl hi hj hK hg 178).1 _ _ _ _ _ _ M hS (by omega) (by omega) (by omega) (by omega) (by omega) (by omega) hK (by omega) (by omega) (by omega)
  · intro h18
    exfalso; omega

set_option maxHeartbeats 4000000 in
theorem fillM25U_3_2_c {xs : List Int32} {e : Nat} {ac : Int} {M0 M : nM} {p i j g : Int} (hS : Sf 2 ac M0 M) (hp : ActAt p) (hpl : p < 55 + 3 * ac) (hi : 0 ≤ i ∧ i ≤ 7) (hj : 0 ≤ j ∧ j ≤ 7) (hK : MK 256 8 7 56 192 1 2 4 8 16 32 64 128 0 M) (hg : M 15 10 = g) : ∀ nn : Nat, (∀ (x5 x6 x7 x8 x9 x10 : Int) (M : nM), Sf 2 ac M0 M → (2 ≤ x5 ∧ x5 ≤ 2) → (0 ≤ x6 ∧ x6 ≤ 6) → (0 ≤ x7 ∧ x7 ≤ 6) → (0 ≤ x8 ∧ x8 ≤ 6) → (0 ≤ x9 ∧ x9 ≤ 8) → (0 ≤ x10 ∧ x10 ≤ 2) → (MK 256 8 7 56 192 1 2 4 8 16 32 64 128 0 M) → (M 15 10 = g) → (x9 = 4 * x10) → (2 - x10) * 21 + 21 < (nn : Int) → nW xs e 45 86 [some (2, 25), none, some (2, (p + 2)), none, none, some (0, x5), some (0, x6), some (0, x7), some (0, x8), some (0, x9), some (0, x10), none, none, none, none] [] M (nPV fun M1 => Sf 2 ac M0 M1 ∧ (M1 15 10 = g) ∧ MK 256 8 7 56 192 1 2 4 8 16 32 64 128 0 M1)) ∧ (∀ (x5 x6 x7 x8 x9 x10 x11 x12 : Int) (M : nM), Sf 2 ac M0 M → (2 ≤ x5 ∧ x5 ≤ 2) → (0 ≤ x6 ∧ x6 ≤ 6) → (0 ≤ x7 ∧ x7 ≤ 6) → (0 ≤ x8 ∧ x8 ≤ 6) → (0 ≤ x9 ∧ x9 ≤ 8) → (0 ≤ x10 ∧ x10 ≤ 1) → (0 ≤ x11 ∧ x11 ≤ 1) → (0 ≤ x12 ∧ x12 ≤ 2) → (MK 256 8 7 56 192 1 2 4 8 16 32 64 128 0 M) → (M 15 10 = g) → (x9 = 4 * x10 + 2 * x12) → (2 - x10) * 21 + (2 - x12) * 5 + 5 < (nn : Int) → nW xs e 45 110 [some (2, 25), none, some (2, (p + 2)), none, none, some (0, x5), some (0, x6), some (0, x7), some (0, x8), some (0, x9), some (0, x10), some (0, x11), some (0, x12), none, none] [] M (nPV fun M1 => Sf 2 ac M0 M1 ∧ (M1 15 10 = g) ∧ MK 256 8 7 56 192 1 2 4 8 16 32 64 128 0 M1)) ∧ (∀ (x5 x6 x7 x8 x9 x10 x11 x12 x13 x14 : Int) (M : nM), Sf 2 ac M0 M → (2 ≤ x5 ∧ x5 ≤ 2) → (0 ≤ x6 ∧ x6 ≤ 6) → (0 ≤ x7 ∧ x7 ≤ 6) → (0 ≤ x8 ∧ x8 ≤ 6) → (0 ≤ x9 ∧ x9 ≤ 8) → (0 ≤ x10 ∧ x10 ≤ 1) → (0 ≤ x11 ∧ x11 ≤ 1) → (0 ≤ x12 ∧ x12 ≤ 1) → (0 ≤ x13 ∧ x13 ≤ 3) → (0 ≤ x14 ∧ x14 ≤ 2) → (MK 256 8 7 56 192 1 2 4 8 16 32 64 128 0 M) → (M 15 10 = g) → (x9 = 4 * x10 + 2 * x12 + x14) → (2 - x10) * 21 + (2 - x12) * 5 + (2 - x14) * 1 + 1 < (nn : Int) → nW xs e 45 137 [some (2, 25), none, some (2, (p + 2)), none, none, some (0, x5), some (0, x6), some (0, x7), some (0, x8), some (0, x9), some (0, x10), some (0, x11), some (0, x12), some (0, x13), some (0, x14)] [] M (nPV fun M1 => Sf 2 ac M0 M1 ∧ (M1 15 10 = g) ∧ MK 256 8 7 56 192 1 2 4 8 16 32 64 128 0 M1)) := by
  have hd : (2 : Int) = 2 ∨ (2 : Int) = 3 := by decide
  have hac := hS.2.2.2.2
  intro nn
  induction nn with
  | zero => refine ⟨?_, ?_, ?_⟩ <;> (intros; omega)
  | succ nn ih =>
    refine ⟨?_, ?_, ?_⟩
    · intro x5 x6 x7 x8 x9 x10 M hS k5 k6 k7 k8 k9 k10 hK hgg v0 hnn
      refine n_iload c_45_86 rfl ?_
      refine n_iload c_45_88 rfl ?_
      refine n_if2_ge c_45_90 (by omega) (by omega) ?_ ?_
      · intro h1
        exact n_rV c_45_187 rfl ⟨hS, by omega, hK⟩
      · intro h2
        refine n_aload_n c_45_93 rfl ?_
        refine n_iload c_45_94 rfl ?_
        refine n_iload c_45_96 rfl ?_
        refine n_iadd c_45_98 rfl ?_
        refine n_ialoadV c_45_99 hp.c0.2.2.n rfl rfl rfl (by omega) (t_actrl hS hp hpl (Or.inr rfl) (by omega) (by omega)) ?_
        intro z3 ez3 f4
        refine n_aload_n c_45_100 rfl ?_
        refine n_getV (bi := 1) c_45_101 sc_25.n rfl rfl rfl hK.w25.1 ?_
        intro z5 ez5 f6
        obtain rfl : z5 = 1 := by omega
        refine n_imul c_45_104 rfl ?_
        refine n_istore (L2 := [some (2, 25), none, some (2, (p + 2)), none, none, some (0, x5), some (0, x6), some (0, x7), some (0, x8), some (0, x9), some (0, x10), some (0, (z3 * 1)), none, none, none]) c_45_105 rfl rfl ?_
        refine n_iconst c_45_107 ?_
        refine n_istore (L2 := [some (2, 25), none, some (2, (p + 2)), none, none, some (0, x5), some (0, x6), some (0, x7), some (0, x8), some (0, x9), some (0, x10), some (0, (z3 * 1)), some (0, 0), none, none]) c_45_108 rfl rfl ?_
        refine n_fg (le_s (le_n (le_s (le_n (le_n (le_s (le_s (le_s (le_s (le_s (le_s (le_s (le_s (le_n (le_n le_0))))))))))))))) ?_
        exact ih.2.1 _ _ _ _ _ _ _ _ M hS (by omega) (by omega) (by omega) (by omega) (by omega) (by omega) (by omega) (by omega) hK (by omega) (by omega) (by omega)
    · intro x5 x6 x7 x8 x9 x10 x11 x12 M hS k5 k6 k7 k8 k9 k10 k11 k12 hK hgg v0 hnn
      refine n_iload c_45_110 rfl ?_
      refine n_iload c_45_112 rfl ?_
      refine n_if2_ge c_45_114 (by omega) (by omega) ?_ ?_
      · intro h1
        refine n_iinc (L2 := [some (2, 25), none, some (2, (p + 2)), none, none, some (0, x5), some (0, x6), some (0, x7), some (0, x8), some (0, x9), some (0, (x10 + 1)), some (0, x11), some (0, x12), none, none]) c_45_181 rfl rfl rfl ?_
        refine n_goto c_45_184 ?_
        refine n_fg (le_s (le_n (le_s (le_n (le_n (le_s (le_s (le_s (le_s (le_s (le_s (le_n (le_n (le_n (le_n le_0))))))))))))))) ?_
        exact ih.1 _ _ _ _ _ _ M hS (by omega) (by omega) (by omega) (by omega) (by omega) (by omega) hK (by omega) (by omega) (by omega)
      · intro h2
        refine n_iload c_45_117 rfl ?_
        refine n_aload_n c_45_119 rfl ?_
        refine n_iload c_45_120 rfl ?_
        refine n_iload c_45_122 rfl ?_
        refine n_iadd c_45_124 rfl ?_
        refine n_ialoadV c_45_125 hp.c0.2.2.n rfl rfl rfl (by omega) (t_actrl hS hp hpl (Or.inr rfl) (by omega) (by omega)) ?_
        intro z3 ez3 f4
        refine n_aload_n c_45_126 rfl ?_
        refine n_getV (bi := 2) c_45_127 sc_25.n rfl rfl rfl hK.w25.2.1 ?_
        intro z5 ez5 f6
        obtain rfl : z5 = 2 := by omega
        refine n_imul c_45_130 rfl ?_
        refine n_iadd c_45_131 rfl ?_
        refine n_istore (L2 := [some (2, 25), none, some (2, (p + 2)), none, none, some (0, x5), some (0, x6), some (0, x7), some (0, x8), some (0, x9), some (0, x10), some (0, x11), some (0, x12), some (0, (x11 + (z3 * 2))), none]) c_45_132 rfl rfl ?_
        refine n_iconst c_45_134 ?_
        refine n_istore (L2 := [some (2, 25), none, some (2, (p + 2)), none, none, some (0, x5), some (0, x6), some (0, x7), some (0, x8), some (0, x9), some (0, x10), some (0, x11), some (0, x12), some (0, (x11 + (z3 * 2))), some (0, 0)]) c_45_135 rfl rfl ?_
        refine n_fg (le_s (le_n (le_s (le_n (le_n (le_s (le_s (le_s (le_s (le_s (le_s (le_s (le_s (le_s (le_s le_0))))))))))))))) ?_
        exact ih.2.2 _ _ _ _ _ _ _ _ _ _ M hS (by omega) (by omega) (by omega) (by omega) (by omega) (by omega) (by omega) (by omega) (by omega) (by omega) hK (by omega) (by omega) (by omega)
    · intro x5 x6 x7 x8 x9 x10 x11 x12 x13 x14 M hS k5 k6 k7 k8 k9 k10 k11 k12 k13 k14 hK hgg v0 hnn
      refine n_iload c_45_137 rfl ?_
      refine n_iload c_45_139 rfl ?_
      refine n_if2_ge c_45_141 (by omega) (by omega) ?_ ?_
      · intro h1
        refine n_iinc (L2 := [some (2, 25), none, some (2, (p + 2)), none, none, some (0, x5), some (0, x6), some (0, x7), some (0, x8), some (0, x9), some (0, x10), some (0, x11), some (0, (x12 + 1)), some (0, x13), some (0, x14)]) c_45_175 rfl rfl rfl ?_
        refine n_goto c_45_178 ?_
        refine n_fg (le_s (le_n (le_s (le_n (le_n (le_s (le_s (le_s (le_s (le_s (le_s (le_s (le_s (le_n (le_n le_0))))))))))))))) ?_
        exact ih.2.1 _ _ _ _ _ _ _ _ M hS (by omega) (by omega) (by omega) (by omega) (by omega) (by omega) (by omega) (by omega) hK (by omega) (by omega) (by omega)
      · intro h2
        refine n_aload_n c_45_144 rfl ?_
        refine n_getR c_45_145 sc_25.n rfl rfl rfl r_25_0 ?_
        refine n_iload c_45_148 rfl ?_
        refine n_iload c_45_150 rfl ?_
        refine n_aload_n c_45_152 rfl ?_
        refine n_iload c_45_153 rfl ?_
        refine n_iload c_45_155 rfl ?_
        refine n_iadd c_45_157 rfl ?_
        refine n_ialoadV c_45_158 hp.c0.2.2.n rfl rfl rfl (by omega) (t_actrl hS hp hpl (Or.inr rfl) (by omega) (by omega)) ?_
        intro z3 ez3 f4
        refine n_aload_n c_45_159 rfl ?_
        refine n_getV (bi := 3) c_45_160 sc_25.n rfl rfl rfl hK.w25.2.2 ?_
        intro z5 ez5 f6
        obtain rfl : z5 = 4 := by omega
        refine n_imul c_45_163 rfl ?_
        refine n_iadd c_45_164 rfl ?_
        refine n_iastoreV hS c_45_165 sc_26.n rfl (by omega) (w_26 (by omega) (by omega)) ?_
        intro M7 eM7 hS7
        have hK7 := hK.u (by unfold Kok; omega) eM7
        have g7_0 : M7 15 10 = M 15 10 := by rw [eM7]; exact nu_a (by omega)
        refine n_iinc (L2 := [some (2, 25), none, some (2, (p + 2)), none, none, some (0, x5), some (0, x6), some (0, x7), some (0, x8), some (0, (x9 + 1)), some (0, x10), some (0, x11), some (0, x12), some (0, x13), some (0, x14)]) c_45_166 rfl rfl rfl ?_
        refine n_iinc (L2 := [some (2, 25), none, some (2, (p + 2)), none, none, some (0, x5), some (0, x6), some (0, x7), some (0, x8), some (0, (x9 + 1)), some (0, x10), some (0, x11), some (0, x12), some (0, x13), some (0, (x14 + 1))]) c_45_169 rfl rfl rfl ?_
        refine n_goto c_45_172 ?_
        refine n_fg (le_s (le_n (le_s (le_n (le_n (le_s (le_s (le_s (le_s (le_s (le_s (le_s (le_s (le_s (le_s le_0))))))))))))))) ?_
        exact ih.2.2 _ _ _ _ _ _ _ _ _ _ M7 hS7 (by omega) (by omega) (by omega) (by omega) (by omega) (by omega) (by omega) (by omega) (by omega) (by omega) hK7 (by omega) (by omega) (by omega)
set_option maxHeartbeats 4000000 in
theorem fillM25U_3_2 {xs : List Int32} {e : Nat} {ac : Int} {M0 M : nM} {p i j g : Int} (hS : Sf 2 ac M0 M) (hp : ActAt p) (hpl : p < 55 + 3 * ac) (hi : 0 ≤ i ∧ i ≤ 7) (hj : 0 ≤ j ∧ j ≤ 7) (hK : MK 256 8 7 56 192 1 2 4 8 16 32 64 128 0 M) (hg : M 15 10 = g) : nW xs e 45 0 [some (2, 25), some (2, 4), some (2, (p + 2)), some (0, i), some (0, j), none, none, none, none, none, none, none, none, none, none] [] M (nPV fun M1 => Sf 2 ac M0 M1 ∧ (M1 15 10 = g) ∧ MK 256 8 7 56 192 1 2 4 8 16 32 64 128 0 M1) := by
  have hd : (2 : Int) = 2 ∨ (2 : Int) = 3 := by decide
  have hac := hS.2.2.2.2
  refine n_aload_n c_45_0 rfl ?_
  refine n_getV (bi := 1) c_45_1 sc_25.n rfl rfl rfl hK.w25.1 ?_
  intro z1 ez1 f2
  obtain rfl : z1 = 1 := by omega
  refine n_if0_ne c_45_4 (by omega) ?_ ?_
  · intro h3
    refine n_aload_n c_45_8 rfl ?_
    refine n_getV (bi := 0) c_45_9 sc_4.n rfl rfl rfl (t_4_0 hS) ?_
    intro z4 ez4 f5
    obtain rfl : z4 = 2 := by omega
    refine n_istore (L2 := [some (2, 25), some (2, 4), some (2, (p + 2)), some (0, i), some (0, j), some (0, 2), none, none, none, none, none, none, none, none, none]) c_45_12 rfl rfl ?_
    refine n_aload_n c_45_14 rfl ?_
    refine n_getR c_45_15 sc_4.n rfl rfl rfl r_4_2 ?_
    refine n_iload_n c_45_18 rfl ?_
    refine n_ialoadV c_45_19 sc_5.n rfl rfl rfl (by omega) (t_5d hS hd (by omega) (by omega)) ?_
    intro z6 ez6 f7
    refine n_iload c_45_20 rfl ?_
    refine n_imul c_45_22 rfl ?_
    refine n_aload_n c_45_23 rfl ?_
    refine n_getR c_45_24 sc_4.n rfl rfl rfl r_4_2 ?_
    refine n_iload c_45_27 rfl ?_
    refine n_ialoadV c_45_29 sc_5.n rfl rfl rfl (by omega) (t_5d hS hd (by omega) (by omega)) ?_
    intro z8 ez8 f9
    refine n_iadd c_45_30 rfl ?_
    refine n_iload c_45_31 rfl ?_
    refine n_imul c_45_33 rfl ?_
    refine n_istore (L2 := [some (2, 25), some (2, 4), some (2, (p + 2)), some (0, i), some (0, j), some (0, 2), some (0, (((z6 * 2) + z8) * 2)), none, none, none, none, none, none, none, none]) c_45_34 rfl rfl ?_
    refine n_aload_n c_45_36 rfl ?_
    refine n_getR c_45_37 sc_4.n rfl rfl rfl r_4_3 ?_
    refine n_iload_n c_45_40 rfl ?_
    refine n_ialoadV c_45_41 sc_6.n rfl rfl rfl (by omega) (t_6d hS hd (by omega) (by omega)) ?_
    intro z10 ez10 f11
    refine n_iload c_45_42 rfl ?_
    refine n_imul c_45_44 rfl ?_
    refine n_aload_n c_45_45 rfl ?_
    refine n_getR c_45_46 sc_4.n rfl rfl rfl r_4_3 ?_
    refine n_iload c_45_49 rfl ?_
    refine n_ialoadV c_45_51 sc_6.n rfl rfl rfl (by omega) (t_6d hS hd (by omega) (by omega)) ?_
    intro z12 ez12 f13
    refine n_iadd c_45_52 rfl ?_
    refine n_iload c_45_53 rfl ?_
    refine n_imul c_45_55 rfl ?_
    refine n_istore (L2 := [some (2, 25), some (2, 4), some (2, (p + 2)), some (0, i), some (0, j), some (0, 2), some (0, (((z6 * 2) + z8) * 2)), some (0, (((z10 * 2) + z12) * 2)), none, none, none, none, none, none, none]) c_45_56 rfl rfl ?_
    refine n_aload_n c_45_58 rfl ?_
    refine n_getR c_45_59 sc_4.n rfl rfl rfl r_4_4 ?_
    refine n_iload_n c_45_62 rfl ?_
    refine n_ialoadV c_45_63 sc_7.n rfl rfl rfl (by omega) (t_7d hS hd (by omega) (by omega)) ?_
    intro z14 ez14 f15
    refine n_iload c_45_64 rfl ?_
    refine n_imul c_45_66 rfl ?_
    refine n_aload_n c_45_67 rfl ?_
    refine n_getR c_45_68 sc_4.n rfl rfl rfl r_4_4 ?_
    refine n_iload c_45_71 rfl ?_
    refine n_ialoadV c_45_73 sc_7.n rfl rfl rfl (by omega) (t_7d hS hd (by omega) (by omega)) ?_
    intro z16 ez16 f17
    refine n_iadd c_45_74 rfl ?_
    refine n_iload c_45_75 rfl ?_
    refine n_imul c_45_77 rfl ?_
    refine n_istore (L2 := [some (2, 25), some (2, 4), some (2, (p + 2)), some (0, i), some (0, j), some (0, 2), some (0, (((z6 * 2) + z8) * 2)), some (0, (((z10 * 2) + z12) * 2)), some (0, (((z14 * 2) + z16) * 2)), none, none, none, none, none, none]) c_45_78 rfl rfl ?_
    refine n_iconst c_45_80 ?_
    refine n_istore (L2 := [some (2, 25), some (2, 4), some (2, (p + 2)), some (0, i), some (0, j), some (0, 2), some (0, (((z6 * 2) + z8) * 2)), some (0, (((z10 * 2) + z12) * 2)), some (0, (((z14 * 2) + z16) * 2)), some (0, 0), none, none, none, none, none]) c_45_81 rfl rfl ?_
    refine n_iconst c_45_83 ?_
    refine n_istore (L2 := [some (2, 25), some (2, 4), some (2, (p + 2)), some (0, i), some (0, j), some (0, 2), some (0, (((z6 * 2) + z8) * 2)), some (0, (((z10 * 2) + z12) * 2)), some (0, (((z14 * 2) + z16) * 2)), some (0, 0), some (0, 0), none, none, none, none]) c_45_84 rfl rfl ?_
    refine n_fg (le_s (le_n (le_s (le_n (le_n (le_s (le_s (le_s (le_s (le_s (le_s (le_n (le_n (le_n (le_n le_0))))))))))))))) ?_
    exact (fillM25U_3_2_c hS hp hpl hi hj hK hg 178).1 _ _ _ _ _ _ M hS (by omega) (by omega) (by omega) (by omega) (by omega) (by omega) hK (by omega) (by omega) (by omega)
  · intro h18
    exfalso; omega

set_option maxHeartbeats 4000000 in
theorem fillM27U_3_2_c {xs : List Int32} {e : Nat} {ac : Int} {M0 M : nM} {p i j g : Int} (hS : Sf 2 ac M0 M) (hp : ActAt p) (hpl : p < 55 + 3 * ac) (hi : 0 ≤ i ∧ i ≤ 7) (hj : 0 ≤ j ∧ j ≤ 7) (hK : MK 256 8 7 56 192 1 2 4 8 16 32 64 128 0 M) (hg : M 15 10 = g) : ∀ nn : Nat, (∀ (x5 x6 x7 x8 x9 x10 : Int) (M : nM), Sf 2 ac M0 M → (2 ≤ x5 ∧ x5 ≤ 2) → (0 ≤ x6 ∧ x6 ≤ 6) → (0 ≤ x7 ∧ x7 ≤ 6) → (0 ≤ x8 ∧ x8 ≤ 6) → (0 ≤ x9 ∧ x9 ≤ 8) → (0 ≤ x10 ∧ x10 ≤ 2) → (MK 256 8 7 56 192 1 2 4 8 16 32 64 128 0 M) → (M 15 10 = g) → (x9 = 4 * x10) → (2 - x10) * 21 + 21 < (nn : Int) → nW xs e 45 86 [some (2, 27), none, some (2, (p + 2)), none, none, some (0, x5), some (0, x6), some (0, x7), some (0, x8), some (0, x9), some (0, x10), none, none, none, none] [] M (nPV fun M1 => Sf 2 ac M0 M1 ∧ (M1 15 10 = g) ∧ MK 256 8 7 56 192 1 2 4 8 16 32 64 128 0 M1)) ∧ (∀ (x5 x6 x7 x8 x9 x10 x11 x12 : Int) (M : nM), Sf 2 ac M0 M → (2 ≤ x5 ∧ x5 ≤ 2) → (0 ≤ x6 ∧ x6 ≤ 6) → (0 ≤ x7 ∧ x7 ≤ 6) → (0 ≤ x8 ∧ x8 ≤ 6) → (0 ≤ x9 ∧ x9 ≤ 8) → (0 ≤ x10 ∧ x10 ≤ 1) → (0 ≤ x11 ∧ x11 ≤ 8) → (0 ≤ x12 ∧ x12 ≤ 2) → (MK 256 8 7 56 192 1 2 4 8 16 32 64 128 0 M) → (M 15 10 = g) → (x9 = 4 * x10 + 2 * x12) → (2 - x10) * 21 + (2 - x12) * 5 + 5 < (nn : Int) → nW xs e 45 110 [some (2, 27), none, some (2, (p + 2)), none, none, some (0, x5), some (0, x6), some (0, x7), some (0, x8), some (0, x9), some (0, x10), some (0, x11), some (0, x12), none, none] [] M (nPV fun M1 => Sf 2 ac M0 M1 ∧ (M1 15 10 = g) ∧ MK 256 8 7 56 192 1 2 4 8 16 32 64 128 0 M1)) ∧ (∀ (x5 x6 x7 x8 x9 x10 x11 x12 x13 x14 : Int) (M : nM), Sf 2 ac M0 M → (2 ≤ x5 ∧ x5 ≤ 2) → (0 ≤ x6 ∧ x6 ≤ 6) → (0 ≤ x7 ∧ x7 ≤ 6) → (0 ≤ x8 ∧ x8 ≤ 6) → (0 ≤ x9 ∧ x9 ≤ 8) → (0 ≤ x10 ∧ x10 ≤ 1) → (0 ≤ x11 ∧ x11 ≤ 8) → (0 ≤ x12 ∧ x12 ≤ 1) → (0 ≤ x13 ∧ x13 ≤ 24) → (0 ≤ x14 ∧ x14 ≤ 2) → (MK 256 8 7 56 192 1 2 4 8 16 32 64 128 0 M) → (M 15 10 = g) → (x9 = 4 * x10 + 2 * x12 + x14) → (2 - x10) * 21 + (2 - x12) * 5 + (2 - x14) * 1 + 1 < (nn : Int) → nW xs e 45 137 [some (2, 27), none, some (2, (p + 2)), none, none, some (0, x5), some (0, x6), some (0, x7), some (0, x8), some (0, x9), some (0, x10), some (0, x11), some (0, x12), some (0, x13), some (0, x14)] [] M (nPV fun M1 => Sf 2 ac M0 M1 ∧ (M1 15 10 = g) ∧ MK 256 8 7 56 192 1 2 4 8 16 32 64 128 0 M1)) := by
  have hd : (2 : Int) = 2 ∨ (2 : Int) = 3 := by decide
  have hac := hS.2.2.2.2
  intro nn
  induction nn with
  | zero => refine ⟨?_, ?_, ?_⟩ <;> (intros; omega)
  | succ nn ih =>
    refine ⟨?_, ?_, ?_⟩
    · intro x5 x6 x7 x8 x9 x10 M hS k5 k6 k7 k8 k9 k10 hK hgg v0 hnn
      refine n_iload c_45_86 rfl ?_
      refine n_iload c_45_88 rfl ?_
      refine n_if2_ge c_45_90 (by omega) (by omega) ?_ ?_
      · intro h1
        exact n_rV c_45_187 rfl ⟨hS, by omega, hK⟩
      · intro h2
        refine n_aload_n c_45_93 rfl ?_
        refine n_iload c_45_94 rfl ?_
        refine n_iload c_45_96 rfl ?_
        refine n_iadd c_45_98 rfl ?_
        refine n_ialoadV c_45_99 hp.c0.2.2.n rfl rfl rfl (by omega) (t_actrl hS hp hpl (Or.inr rfl) (by omega) (by omega)) ?_
        intro z3 ez3 f4
        refine n_aload_n c_45_100 rfl ?_
        refine n_getV (bi := 1) c_45_101 sc_27.n rfl rfl rfl hK.w27.1 ?_
        intro z5 ez5 f6
        obtain rfl : z5 = 8 := by omega
        refine n_imul c_45_104 rfl ?_
        refine n_istore (L2 := [some (2, 27), none, some (2, (p + 2)), none, none, some (0, x5), some (0, x6), some (0, x7), some (0, x8), some (0, x9), some (0, x10), some (0, (z3 * 8)), none, none, none]) c_45_105 rfl rfl ?_
        refine n_iconst c_45_107 ?_
        refine n_istore (L2 := [some (2, 27), none, some (2, (p + 2)), none, none, some (0, x5), some (0, x6), some (0, x7), some (0, x8), some (0, x9), some (0, x10), some (0, (z3 * 8)), some (0, 0), none, none]) c_45_108 rfl rfl ?_
        refine n_fg (le_s (le_n (le_s (le_n (le_n (le_s (le_s (le_s (le_s (le_s (le_s (le_s (le_s (le_n (le_n le_0))))))))))))))) ?_
        exact ih.2.1 _ _ _ _ _ _ _ _ M hS (by omega) (by omega) (by omega) (by omega) (by omega) (by omega) (by omega) (by omega) hK (by omega) (by omega) (by omega)
    · intro x5 x6 x7 x8 x9 x10 x11 x12 M hS k5 k6 k7 k8 k9 k10 k11 k12 hK hgg v0 hnn
      refine n_iload c_45_110 rfl ?_
      refine n_iload c_45_112 rfl ?_
      refine n_if2_ge c_45_114 (by omega) (by omega) ?_ ?_
      · intro h1
        refine n_iinc (L2 := [some (2, 27), none, some (2, (p + 2)), none, none, some (0, x5), some (0, x6), some (0, x7), some (0, x8), some (0, x9), some (0, (x10 + 1)), some (0, x11), some (0, x12), none, none]) c_45_181 rfl rfl rfl ?_
        refine n_goto c_45_184 ?_
        refine n_fg (le_s (le_n (le_s (le_n (le_n (le_s (le_s (le_s (le_s (le_s (le_s (le_n (le_n (le_n (le_n le_0))))))))))))))) ?_
        exact ih.1 _ _ _ _ _ _ M hS (by omega) (by omega) (by omega) (by omega) (by omega) (by omega) hK (by omega) (by omega) (by omega)
      · intro h2
        refine n_iload c_45_117 rfl ?_
        refine n_aload_n c_45_119 rfl ?_
        refine n_iload c_45_120 rfl ?_
        refine n_iload c_45_122 rfl ?_
        refine n_iadd c_45_124 rfl ?_
        refine n_ialoadV c_45_125 hp.c0.2.2.n rfl rfl rfl (by omega) (t_actrl hS hp hpl (Or.inr rfl) (by omega) (by omega)) ?_
        intro z3 ez3 f4
        refine n_aload_n c_45_126 rfl ?_
        refine n_getV (bi := 2) c_45_127 sc_27.n rfl rfl rfl hK.w27.2.1 ?_
        intro z5 ez5 f6
        obtain rfl : z5 = 16 := by omega
        refine n_imul c_45_130 rfl ?_
        refine n_iadd c_45_131 rfl ?_
        refine n_istore (L2 := [some (2, 27), none, some (2, (p + 2)), none, none, some (0, x5), some (0, x6), some (0, x7), some (0, x8), some (0, x9), some (0, x10), some (0, x11), some (0, x12), some (0, (x11 + (z3 * 16))), none]) c_45_132 rfl rfl ?_
        refine n_iconst c_45_134 ?_
        refine n_istore (L2 := [some (2, 27), none, some (2, (p + 2)), none, none, some (0, x5), some (0, x6), some (0, x7), some (0, x8), some (0, x9), some (0, x10), some (0, x11), some (0, x12), some (0, (x11 + (z3 * 16))), some (0, 0)]) c_45_135 rfl rfl ?_
        refine n_fg (le_s (le_n (le_s (le_n (le_n (le_s (le_s (le_s (le_s (le_s (le_s (le_s (le_s (le_s (le_s le_0))))))))))))))) ?_
        exact ih.2.2 _ _ _ _ _ _ _ _ _ _ M hS (by omega) (by omega) (by omega) (by omega) (by omega) (by omega) (by omega) (by omega) (by omega) (by omega) hK (by omega) (by omega) (by omega)
    · intro x5 x6 x7 x8 x9 x10 x11 x12 x13 x14 M hS k5 k6 k7 k8 k9 k10 k11 k12 k13 k14 hK hgg v0 hnn
      refine n_iload c_45_137 rfl ?_
      refine n_iload c_45_139 rfl ?_
      refine n_if2_ge c_45_141 (by omega) (by omega) ?_ ?_
      · intro h1
        refine n_iinc (L2 := [some (2, 27), none, some (2, (p + 2)), none, none, some (0, x5), some (0, x6), some (0, x7), some (0, x8), some (0, x9), some (0, x10), some (0, x11), some (0, (x12 + 1)), some (0, x13), some (0, x14)]) c_45_175 rfl rfl rfl ?_
        refine n_goto c_45_178 ?_
        refine n_fg (le_s (le_n (le_s (le_n (le_n (le_s (le_s (le_s (le_s (le_s (le_s (le_s (le_s (le_n (le_n le_0))))))))))))))) ?_
        exact ih.2.1 _ _ _ _ _ _ _ _ M hS (by omega) (by omega) (by omega) (by omega) (by omega) (by omega) (by omega) (by omega) hK (by omega) (by omega) (by omega)
      · intro h2
        refine n_aload_n c_45_144 rfl ?_
        refine n_getR c_45_145 sc_27.n rfl rfl rfl r_27_0 ?_
        refine n_iload c_45_148 rfl ?_
        refine n_iload c_45_150 rfl ?_
        refine n_aload_n c_45_152 rfl ?_
        refine n_iload c_45_153 rfl ?_
        refine n_iload c_45_155 rfl ?_
        refine n_iadd c_45_157 rfl ?_
        refine n_ialoadV c_45_158 hp.c0.2.2.n rfl rfl rfl (by omega) (t_actrl hS hp hpl (Or.inr rfl) (by omega) (by omega)) ?_
        intro z3 ez3 f4
        refine n_aload_n c_45_159 rfl ?_
        refine n_getV (bi := 3) c_45_160 sc_27.n rfl rfl rfl hK.w27.2.2 ?_
        intro z5 ez5 f6
        obtain rfl : z5 = 32 := by omega
        refine n_imul c_45_163 rfl ?_
        refine n_iadd c_45_164 rfl ?_
        refine n_iastoreV hS c_45_165 sc_28.n rfl (by omega) (w_28 (by omega) (by omega)) ?_
        intro M7 eM7 hS7
        have hK7 := hK.u (by unfold Kok; omega) eM7
        have g7_0 : M7 15 10 = M 15 10 := by rw [eM7]; exact nu_a (by omega)
        refine n_iinc (L2 := [some (2, 27), none, some (2, (p + 2)), none, none, some (0, x5), some (0, x6), some (0, x7), some (0, x8), some (0, (x9 + 1)), some (0, x10), some (0, x11), some (0, x12), some (0, x13), some (0, x14)]) c_45_166 rfl rfl rfl ?_
        refine n_iinc (L2 := [some (2, 27), none, some (2, (p + 2)), none, none, some (0, x5), some (0, x6), some (0, x7), some (0, x8), some (0, (x9 + 1)), some (0, x10), some (0, x11), some (0, x12), some (0, x13), some (0, (x14 + 1))]) c_45_169 rfl rfl rfl ?_
        refine n_goto c_45_172 ?_
        refine n_fg (le_s (le_n (le_s (le_n (le_n (le_s (le_s (le_s (le_s (le_s (le_s (le_s (le_s (le_s (le_s le_0))))))))))))))) ?_
        exact ih.2.2 _ _ _ _ _ _ _ _ _ _ M7 hS7 (by omega) (by omega) (by omega) (by omega) (by omega) (by omega) (by omega) (by omega) (by omega) (by omega) hK7 (by omega) (by omega) (by omega)
set_option maxHeartbeats 4000000 in
theorem fillM27U_3_2 {xs : List Int32} {e : Nat} {ac : Int} {M0 M : nM} {p i j g : Int} (hS : Sf 2 ac M0 M) (hp : ActAt p) (hpl : p < 55 + 3 * ac) (hi : 0 ≤ i ∧ i ≤ 7) (hj : 0 ≤ j ∧ j ≤ 7) (hK : MK 256 8 7 56 192 1 2 4 8 16 32 64 128 0 M) (hg : M 15 10 = g) : nW xs e 45 0 [some (2, 27), some (2, 4), some (2, (p + 2)), some (0, i), some (0, j), none, none, none, none, none, none, none, none, none, none] [] M (nPV fun M1 => Sf 2 ac M0 M1 ∧ (M1 15 10 = g) ∧ MK 256 8 7 56 192 1 2 4 8 16 32 64 128 0 M1) := by
  have hd : (2 : Int) = 2 ∨ (2 : Int) = 3 := by decide
  have hac := hS.2.2.2.2
  refine n_aload_n c_45_0 rfl ?_
  refine n_getV (bi := 1) c_45_1 sc_27.n rfl rfl rfl hK.w27.1 ?_
  intro z1 ez1 f2
  obtain rfl : z1 = 8 := by omega
  refine n_if0_ne c_45_4 (by omega) ?_ ?_
  · intro h3
    refine n_aload_n c_45_8 rfl ?_
    refine n_getV (bi := 0) c_45_9 sc_4.n rfl rfl rfl (t_4_0 hS) ?_
    intro z4 ez4 f5
    obtain rfl : z4 = 2 := by omega
    refine n_istore (L2 := [some (2, 27), some (2, 4), some (2, (p + 2)), some (0, i), some (0, j), some (0, 2), none, none, none, none, none, none, none, none, none]) c_45_12 rfl rfl ?_
    refine n_aload_n c_45_14 rfl ?_
    refine n_getR c_45_15 sc_4.n rfl rfl rfl r_4_2 ?_
    refine n_iload_n c_45_18 rfl ?_
    refine n_ialoadV c_45_19 sc_5.n rfl rfl rfl (by omega) (t_5d hS hd (by omega) (by omega)) ?_
    intro z6 ez6 f7
    refine n_iload c_45_20 rfl ?_
    refine n_imul c_45_22 rfl ?_
    refine n_aload_n c_45_23 rfl ?_
    refine n_getR c_45_24 sc_4.n rfl rfl rfl r_4_2 ?_
    refine n_iload c_45_27 rfl ?_
    refine n_ialoadV c_45_29 sc_5.n rfl rfl rfl (by omega) (t_5d hS hd (by omega) (by omega)) ?_
    intro z8 ez8 f9
    refine n_iadd c_45_30 rfl ?_
    refine n_iload c_45_31 rfl ?_
    refine n_imul c_45_33 rfl ?_
    refine n_istore (L2 := [some (2, 27), some (2, 4), some (2, (p + 2)), some (0, i), some (0, j), some (0, 2), some (0, (((z6 * 2) + z8) * 2)), none, none, none, none, none, none, none, none]) c_45_34 rfl rfl ?_
    refine n_aload_n c_45_36 rfl ?_
    refine n_getR c_45_37 sc_4.n rfl rfl rfl r_4_3 ?_
    refine n_iload_n c_45_40 rfl ?_
    refine n_ialoadV c_45_41 sc_6.n rfl rfl rfl (by omega) (t_6d hS hd (by omega) (by omega)) ?_
    intro z10 ez10 f11
    refine n_iload c_45_42 rfl ?_
    refine n_imul c_45_44 rfl ?_
    refine n_aload_n c_45_45 rfl ?_
    refine n_getR c_45_46 sc_4.n rfl rfl rfl r_4_3 ?_
    refine n_iload c_45_49 rfl ?_
    refine n_ialoadV c_45_51 sc_6.n rfl rfl rfl (by omega) (t_6d hS hd (by omega) (by omega)) ?_
    intro z12 ez12 f13
    refine n_iadd c_45_52 rfl ?_
    refine n_iload c_45_53 rfl ?_
    refine n_imul c_45_55 rfl ?_
    refine n_istore (L2 := [some (2, 27), some (2, 4), some (2, (p + 2)), some (0, i), some (0, j), some (0, 2), some (0, (((z6 * 2) + z8) * 2)), some (0, (((z10 * 2) + z12) * 2)), none, none, none, none, none, none, none]) c_45_56 rfl rfl ?_
    refine n_aload_n c_45_58 rfl ?_
    refine n_getR c_45_59 sc_4.n rfl rfl rfl r_4_4 ?_
    refine n_iload_n c_45_62 rfl ?_
    refine n_ialoadV c_45_63 sc_7.n rfl rfl rfl (by omega) (t_7d hS hd (by omega) (by omega)) ?_
    intro z14 ez14 f15
    refine n_iload c_45_64 rfl ?_
    refine n_imul c_45_66 rfl ?_
    refine n_aload_n c_45_67 rfl ?_
    refine n_getR c_45_68 sc_4.n rfl rfl rfl r_4_4 ?_
    refine n_iload c_45_71 rfl ?_
    refine n_ialoadV c_45_73 sc_7.n rfl rfl rfl (by omega) (t_7d hS hd (by omega) (by omega)) ?_
    intro z16 ez16 f17
    refine n_iadd c_45_74 rfl ?_
    refine n_iload c_45_75 rfl ?_
    refine n_imul c_45_77 rfl ?_
    refine n_istore (L2 := [some (2, 27), some (2, 4), some (2, (p + 2)), some (0, i), some (0, j), some (0, 2), some (0, (((z6 * 2) + z8) * 2)), some (0, (((z10 * 2) + z12) * 2)), some (0, (((z14 * 2) + z16) * 2)), none, none, none, none, none, none]) c_45_78 rfl rfl ?_
    refine n_iconst c_45_80 ?_
    refine n_istore (L2 := [some (2, 27), some (2, 4), some (2, (p + 2)), some (0, i), some (0, j), some (0, 2), some (0, (((z6 * 2) + z8) * 2)), some (0, (((z10 * 2) + z12) * 2)), some (0, (((z14 * 2) + z16) * 2)), some (0, 0), none, none, none, none, none]) c_45_81 rfl rfl ?_
    refine n_iconst c_45_83 ?_
    refine n_istore (L2 := [some (2, 27), some (2, 4), some (2, (p + 2)), some (0, i), some (0, j), some (0, 2), some (0, (((z6 * 2) + z8) * 2)), some (0, (((z10 * 2) + z12) * 2)), some (0, (((z14 * 2) + z16) * 2)), some (0, 0), some (0, 0), none, none, none, none]) c_45_84 rfl rfl ?_
    refine n_fg (le_s (le_n (le_s (le_n (le_n (le_s (le_s (le_s (le_s (le_s (le_s (le_n (le_n (le_n (le_n le_0))))))))))))))) ?_
    exact (fillM27U_3_2_c hS hp hpl hi hj hK hg 178).1 _ _ _ _ _ _ M hS (by omega) (by omega) (by omega) (by omega) (by omega) (by omega) hK (by omega) (by omega) (by omega)
  · intro h18
    exfalso; omega

set_option maxHeartbeats 4000000 in
theorem fillM29U_3_2_c {xs : List Int32} {e : Nat} {ac : Int} {M0 M : nM} {p i j g : Int} (hS : Sf 2 ac M0 M) (hp : ActAt p) (hpl : p < 55 + 3 * ac) (hi : 0 ≤ i ∧ i ≤ 7) (hj : 0 ≤ j ∧ j ≤ 7) (hK : MK 256 8 7 56 192 1 2 4 8 16 32 64 128 0 M) (hg : M 15 10 = g) : ∀ nn : Nat, (∀ (x5 x6 x7 x8 x9 x10 : Int) (M : nM), Sf 2 ac M0 M → (2 ≤ x5 ∧ x5 ≤ 2) → (0 ≤ x6 ∧ x6 ≤ 6) → (0 ≤ x7 ∧ x7 ≤ 6) → (0 ≤ x8 ∧ x8 ≤ 6) → (0 ≤ x9 ∧ x9 ≤ 8) → (0 ≤ x10 ∧ x10 ≤ 2) → (MK 256 8 7 56 192 1 2 4 8 16 32 64 128 0 M) → (M 15 10 = g) → (x9 = 4 * x10) → (2 - x10) * 21 + 21 < (nn : Int) → nW xs e 45 86 [some (2, 29), none, some (2, (p + 2)), none, none, some (0, x5), some (0, x6), some (0, x7), some (0, x8), some (0, x9), some (0, x10), none, none, none, none] [] M (nPV fun M1 => Sf 2 ac M0 M1 ∧ (M1 15 10 = g) ∧ MK 256 8 7 56 192 1 2 4 8 16 32 64 128 0 M1)) ∧ (∀ (x5 x6 x7 x8 x9 x10 x11 x12 : Int) (M : nM), Sf 2 ac M0 M → (2 ≤ x5 ∧ x5 ≤ 2) → (0 ≤ x6 ∧ x6 ≤ 6) → (0 ≤ x7 ∧ x7 ≤ 6) → (0 ≤ x8 ∧ x8 ≤ 6) → (0 ≤ x9 ∧ x9 ≤ 8) → (0 ≤ x10 ∧ x10 ≤ 1) → (0 ≤ x11 ∧ x11 ≤ 64) → (0 ≤ x12 ∧ x12 ≤ 2) → (MK 256 8 7 56 192 1 2 4 8 16 32 64 128 0 M) → (M 15 10 = g) → (x9 = 4 * x10 + 2 * x12) → (2 - x10) * 21 + (2 - x12) * 5 + 5 < (nn : Int) → nW xs e 45 110 [some (2, 29), none, some (2, (p + 2)), none, none, some (0, x5), some (0, x6), some (0, x7), some (0, x8), some (0, x9), some (0, x10), some (0, x11), some (0, x12), none, none] [] M (nPV fun M1 => Sf 2 ac M0 M1 ∧ (M1 15 10 = g) ∧ MK 256 8 7 56 192 1 2 4 8 16 32 64 128 0 M1)) ∧ (∀ (x5 x6 x7 x8 x9 x10 x11 x12 x13 x14 : Int) (M : nM), Sf 2 ac M0 M → (2 ≤ x5 ∧ x5 ≤ 2) → (0 ≤ x6 ∧ x6 ≤ 6) → (0 ≤ x7 ∧ x7 ≤ 6) → (0 ≤ x8 ∧ x8 ≤ 6) → (0 ≤ x9 ∧ x9 ≤ 8) → (0 ≤ x10 ∧ x10 ≤ 1) → (0 ≤ x11 ∧ x11 ≤ 64) → (0 ≤ x12 ∧ x12 ≤ 1) → (0 ≤ x13 ∧ x13 ≤ 192) → (0 ≤ x14 ∧ x14 ≤ 2) → (MK 256 8 7 56 192 1 2 4 8 16 32 64 128 0 M) → (M 15 10 = g) → (x9 = 4 * x10 + 2 * x12 + x14) → (2 - x10) * 21 + (2 - x12) * 5 + (2 - x14) * 1 + 1 < (nn : Int) → nW xs e 45 137 [some (2, 29), none, some (2, (p + 2)), none, none, some (0, x5), some (0, x6), some (0, x7), some (0, x8), some (0, x9), some (0, x10), some (0, x11), some (0, x12), some (0, x13), some (0, x14)] [] M (nPV fun M1 => Sf 2 ac M0 M1 ∧ (M1 15 10 = g) ∧ MK 256 8 7 56 192 1 2 4 8 16 32 64 128 0 M1)) := by
  have hd : (2 : Int) = 2 ∨ (2 : Int) = 3 := by decide
  have hac := hS.2.2.2.2
  intro nn
  induction nn with
  | zero => refine ⟨?_, ?_, ?_⟩ <;> (intros; omega)
  | succ nn ih =>
    refine ⟨?_, ?_, ?_⟩
    · intro x5 x6 x7 x8 x9 x10 M hS k5 k6 k7 k8 k9 k10 hK hgg v0 hnn
      refine n_iload c_45_86 rfl ?_
      refine n_iload c_45_88 rfl ?_
      refine n_if2_ge c_45_90 (by omega) (by omega) ?_ ?_
      · intro h1
        exact n_rV c_45_187 rfl ⟨hS, by omega, hK⟩
      · intro h2
        refine n_aload_n c_45_93 rfl ?_
        refine n_iload c_45_94 rfl ?_
        refine n_iload c_45_96 rfl ?_
        refine n_iadd c_45_98 rfl ?_
        refine n_ialoadV c_45_99 hp.c0.2.2.n rfl rfl rfl (by omega) (t_actrl hS hp hpl (Or.inr rfl) (by omega) (by omega)) ?_
        intro z3 ez3 f4
        refine n_aload_n c_45_100 rfl ?_
        refine n_getV (bi := 1) c_45_101 sc_29.n rfl rfl rfl hK.w29.1 ?_
        intro z5 ez5 f6
        obtain rfl : z5 = 64 := by omega
        refine n_imul c_45_104 rfl ?_
        refine n_istore (L2 := [some (2, 29), none, some (2, (p + 2)), none, none, some (0, x5), some (0, x6), some (0, x7), some (0, x8), some (0, x9), some (0, x10), some (0, (z3 * 64)), none, none, none]) c_45_105 rfl rfl ?_
        refine n_iconst c_45_107 ?_
        refine n_istore (L2 := [some (2, 29), none, some (2, (p + 2)), none, none, some (0, x5), some (0, x6), some (0, x7), some (0, x8), some (0, x9), some (0, x10), some (0, (z3 * 64)), some (0, 0), none, none]) c_45_108 rfl rfl ?_
        refine n_fg (le_s (le_n (le_s (le_n (le_n (le_s (le_s (le_s (le_s (le_s (le_s (le_s (le_s (le_n (le_n le_0))))))))))))))) ?_
        exact ih.2.1 _ _ _ _ _ _ _ _ M hS (by omega) (by omega) (by omega) (by omega) (by omega) (by omega) (by omega) (by omega) hK (by omega) (by omega) (by omega)
    · intro x5 x6 x7 x8 x9 x10 x11 x12 M hS k5 k6 k7 k8 k9 k10 k11 k12 hK hgg v0 hnn
      refine n_iload c_45_110 rfl ?_
      refine n_iload c_45_112 rfl ?_
      refine n_if2_ge c_45_114 (by omega) (by omega) ?_ ?_
      · intro h1
        refine n_iinc (L2 := [some (2, 29), none, some (2, (p + 2)), none, none, some (0, x5), some (0, x6), some (0, x7), some (0, x8), some (0, x9), some (0, (x10 + 1)), some (0, x11), some (0, x12), none, none]) c_45_181 rfl rfl rfl ?_
        refine n_goto c_45_184 ?_
        refine n_fg (le_s (le_n (le_s (le_n (le_n (le_s (le_s (le_s (le_s (le_s (le_s (le_n (le_n (le_n (le_n le_0))))))))))))))) ?_
        exact ih.1 _ _ _ _ _ _ M hS (by omega) (by omega) (by omega) (by omega) (by omega) (by omega) hK (by omega) (by omega) (by omega)
      · intro h2
        refine n_iload c_45_117 rfl ?_
        refine n_aload_n c_45_119 rfl ?_
        refine n_iload c_45_120 rfl ?_
        refine n_iload c_45_122 rfl ?_
        refine n_iadd c_45_124 rfl ?_
        refine n_ialoadV c_45_125 hp.c0.2.2.n rfl rfl rfl (by omega) (t_actrl hS hp hpl (Or.inr rfl) (by omega) (by omega)) ?_
        intro z3 ez3 f4
        refine n_aload_n c_45_126 rfl ?_
        refine n_getV (bi := 2) c_45_127 sc_29.n rfl rfl rfl hK.w29.2.1 ?_
        intro z5 ez5 f6
        obtain rfl : z5 = 128 := by omega
        refine n_imul c_45_130 rfl ?_
        refine n_iadd c_45_131 rfl ?_
        refine n_istore (L2 := [some (2, 29), none, some (2, (p + 2)), none, none, some (0, x5), some (0, x6), some (0, x7), some (0, x8), some (0, x9), some (0, x10), some (0, x11), some (0, x12), some (0, (x11 + (z3 * 128))), none]) c_45_132 rfl rfl ?_
        refine n_iconst c_45_134 ?_
        refine n_istore (L2 := [some (2, 29), none, some (2, (p + 2)), none, none, some (0, x5), some (0, x6), some (0, x7), some (0, x8), some (0, x9), some (0, x10), some (0, x11), some (0, x12), some (0, (x11 + (z3 * 128))), some (0, 0)]) c_45_135 rfl rfl ?_
        refine n_fg (le_s (le_n (le_s (le_n (le_n (le_s (le_s (le_s (le_s (le_s (le_s (le_s (le_s (le_s (le_s le_0))))))))))))))) ?_
        exact ih.2.2 _ _ _ _ _ _ _ _ _ _ M hS (by omega) (by omega) (by omega) (by omega) (by omega) (by omega) (by omega) (by omega) (by omega) (by omega) hK (by omega) (by omega) (by omega)
    · intro x5 x6 x7 x8 x9 x10 x11 x12 x13 x14 M hS k5 k6 k7 k8 k9 k10 k11 k12 k13 k14 hK hgg v0 hnn
      refine n_iload c_45_137 rfl ?_
      refine n_iload c_45_139 rfl ?_
      refine n_if2_ge c_45_141 (by omega) (by omega) ?_ ?_
      · intro h1
        refine n_iinc (L2 := [some (2, 29), none, some (2, (p + 2)), none, none, some (0, x5), some (0, x6), some (0, x7), some (0, x8), some (0, x9), some (0, x10), some (0, x11), some (0, (x12 + 1)), some (0, x13), some (0, x14)]) c_45_175 rfl rfl rfl ?_
        refine n_goto c_45_178 ?_
        refine n_fg (le_s (le_n (le_s (le_n (le_n (le_s (le_s (le_s (le_s (le_s (le_s (le_s (le_s (le_n (le_n le_0))))))))))))))) ?_
        exact ih.2.1 _ _ _ _ _ _ _ _ M hS (by omega) (by omega) (by omega) (by omega) (by omega) (by omega) (by omega) (by omega) hK (by omega) (by omega) (by omega)
      · intro h2
        refine n_aload_n c_45_144 rfl ?_
        refine n_getR c_45_145 sc_29.n rfl rfl rfl r_29_0 ?_
        refine n_iload c_45_148 rfl ?_
        refine n_iload c_45_150 rfl ?_
        refine n_aload_n c_45_152 rfl ?_
        refine n_iload c_45_153 rfl ?_
        refine n_iload c_45_155 rfl ?_
        refine n_iadd c_45_157 rfl ?_
        refine n_ialoadV c_45_158 hp.c0.2.2.n rfl rfl rfl (by omega) (t_actrl hS hp hpl (Or.inr rfl) (by omega) (by omega)) ?_
        intro z3 ez3 f4
        refine n_aload_n c_45_159 rfl ?_
        refine n_getV (bi := 3) c_45_160 sc_29.n rfl rfl rfl hK.w29.2.2 ?_
        intro z5 ez5 f6
        obtain rfl : z5 = 0 := by omega
        refine n_imul c_45_163 rfl ?_
        refine n_iadd c_45_164 rfl ?_
        refine n_iastoreV hS c_45_165 sc_30.n rfl (by omega) (w_30 (by omega) (by omega)) ?_
        intro M7 eM7 hS7
        have hK7 := hK.u (by unfold Kok; omega) eM7
        have g7_0 : M7 15 10 = M 15 10 := by rw [eM7]; exact nu_a (by omega)
        refine n_iinc (L2 := [some (2, 29), none, some (2, (p + 2)), none, none, some (0, x5), some (0, x6), some (0, x7), some (0, x8), some (0, (x9 + 1)), some (0, x10), some (0, x11), some (0, x12), some (0, x13), some (0, x14)]) c_45_166 rfl rfl rfl ?_
        refine n_iinc (L2 := [some (2, 29), none, some (2, (p + 2)), none, none, some (0, x5), some (0, x6), some (0, x7), some (0, x8), some (0, (x9 + 1)), some (0, x10), some (0, x11), some (0, x12), some (0, x13), some (0, (x14 + 1))]) c_45_169 rfl rfl rfl ?_
        refine n_goto c_45_172 ?_
        refine n_fg (le_s (le_n (le_s (le_n (le_n (le_s (le_s (le_s (le_s (le_s (le_s (le_s (le_s (le_s (le_s le_0))))))))))))))) ?_
        exact ih.2.2 _ _ _ _ _ _ _ _ _ _ M7 hS7 (by omega) (by omega) (by omega) (by omega) (by omega) (by omega) (by omega) (by omega) (by omega) (by omega) hK7 (by omega) (by omega) (by omega)
set_option maxHeartbeats 4000000 in
theorem fillM29U_3_2 {xs : List Int32} {e : Nat} {ac : Int} {M0 M : nM} {p i j g : Int} (hS : Sf 2 ac M0 M) (hp : ActAt p) (hpl : p < 55 + 3 * ac) (hi : 0 ≤ i ∧ i ≤ 7) (hj : 0 ≤ j ∧ j ≤ 7) (hK : MK 256 8 7 56 192 1 2 4 8 16 32 64 128 0 M) (hg : M 15 10 = g) : nW xs e 45 0 [some (2, 29), some (2, 4), some (2, (p + 2)), some (0, i), some (0, j), none, none, none, none, none, none, none, none, none, none] [] M (nPV fun M1 => Sf 2 ac M0 M1 ∧ (M1 15 10 = g) ∧ MK 256 8 7 56 192 1 2 4 8 16 32 64 128 0 M1) := by
  have hd : (2 : Int) = 2 ∨ (2 : Int) = 3 := by decide
  have hac := hS.2.2.2.2
  refine n_aload_n c_45_0 rfl ?_
  refine n_getV (bi := 1) c_45_1 sc_29.n rfl rfl rfl hK.w29.1 ?_
  intro z1 ez1 f2
  obtain rfl : z1 = 64 := by omega
  refine n_if0_ne c_45_4 (by omega) ?_ ?_
  · intro h3
    refine n_aload_n c_45_8 rfl ?_
    refine n_getV (bi := 0) c_45_9 sc_4.n rfl rfl rfl (t_4_0 hS) ?_
    intro z4 ez4 f5
    obtain rfl : z4 = 2 := by omega
    refine n_istore (L2 := [some (2, 29), some (2, 4), some (2, (p + 2)), some (0, i), some (0, j), some (0, 2), none, none, none, none, none, none, none, none, none]) c_45_12 rfl rfl ?_
    refine n_aload_n c_45_14 rfl ?_
    refine n_getR c_45_15 sc_4.n rfl rfl rfl r_4_2 ?_
    refine n_iload_n c_45_18 rfl ?_
    refine n_ialoadV c_45_19 sc_5.n rfl rfl rfl (by omega) (t_5d hS hd (by omega) (by omega)) ?_
    intro z6 ez6 f7
    refine n_iload c_45_20 rfl ?_
    refine n_imul c_45_22 rfl ?_
    refine n_aload_n c_45_23 rfl ?_
    refine n_getR c_45_24 sc_4.n rfl rfl rfl r_4_2 ?_
    refine n_iload c_45_27 rfl ?_
    refine n_ialoadV c_45_29 sc_5.n rfl rfl rfl (by omega) (t_5d hS hd (by omega) (by omega)) ?_
    intro z8 ez8 f9
    refine n_iadd c_45_30 rfl ?_
    refine n_iload c_45_31 rfl ?_
    refine n_imul c_45_33 rfl ?_
    refine n_istore (L2 := [some (2, 29), some (2, 4), some (2, (p + 2)), some (0, i), some (0, j), some (0, 2), some (0, (((z6 * 2) + z8) * 2)), none, none, none, none, none, none, none, none]) c_45_34 rfl rfl ?_
    refine n_aload_n c_45_36 rfl ?_
    refine n_getR c_45_37 sc_4.n rfl rfl rfl r_4_3 ?_
    refine n_iload_n c_45_40 rfl ?_
    refine n_ialoadV c_45_41 sc_6.n rfl rfl rfl (by omega) (t_6d hS hd (by omega) (by omega)) ?_
    intro z10 ez10 f11
    refine n_iload c_45_42 rfl ?_
    refine n_imul c_45_44 rfl ?_
    refine n_aload_n c_45_45 rfl ?_
    refine n_getR c_45_46 sc_4.n rfl rfl rfl r_4_3 ?_
    refine n_iload c_45_49 rfl ?_
    refine n_ialoadV c_45_51 sc_6.n rfl rfl rfl (by omega) (t_6d hS hd (by omega) (by omega)) ?_
    intro z12 ez12 f13
    refine n_iadd c_45_52 rfl ?_
    refine n_iload c_45_53 rfl ?_
    refine n_imul c_45_55 rfl ?_
    refine n_istore (L2 := [some (2, 29), some (2, 4), some (2, (p + 2)), some (0, i), some (0, j), some (0, 2), some (0, (((z6 * 2) + z8) * 2)), some (0, (((z10 * 2) + z12) * 2)), none, none, none, none, none, none, none]) c_45_56 rfl rfl ?_
    refine n_aload_n c_45_58 rfl ?_
    refine n_getR c_45_59 sc_4.n rfl rfl rfl r_4_4 ?_
    refine n_iload_n c_45_62 rfl ?_
    refine n_ialoadV c_45_63 sc_7.n rfl rfl rfl (by omega) (t_7d hS hd (by omega) (by omega)) ?_
    intro z14 ez14 f15
    refine n_iload c_45_64 rfl ?_
    refine n_imul c_45_66 rfl ?_
    refine n_aload_n c_45_67 rfl ?_
    refine n_getR c_45_68 sc_4.n rfl rfl rfl r_4_4 ?_
    refine n_iload c_45_71 rfl ?_
    refine n_ialoadV c_45_73 sc_7.n rfl rfl rfl (by omega) (t_7d hS hd (by omega) (by omega)) ?_
    intro z16 ez16 f17
    refine n_iadd c_45_74 rfl ?_
    refine n_iload c_45_75 rfl ?_
    refine n_imul c_45_77 rfl ?_
    refine n_istore (L2 := [some (2, 29), some (2, 4), some (2, (p + 2)), some (0, i), some (0, j), some (0, 2), some (0, (((z6 * 2) + z8) * 2)), some (0, (((z10 * 2) + z12) * 2)), some (0, (((z14 * 2) + z16) * 2)), none, none, none, none, none, none]) c_45_78 rfl rfl ?_
    refine n_iconst c_45_80 ?_
    refine n_istore (L2 := [some (2, 29), some (2, 4), some (2, (p + 2)), some (0, i), some (0, j), some (0, 2), some (0, (((z6 * 2) + z8) * 2)), some (0, (((z10 * 2) + z12) * 2)), some (0, (((z14 * 2) + z16) * 2)), some (0, 0), none, none, none, none, none]) c_45_81 rfl rfl ?_
    refine n_iconst c_45_83 ?_
    refine n_istore (L2 := [some (2, 29), some (2, 4), some (2, (p + 2)), some (0, i), some (0, j), some (0, 2), some (0, (((z6 * 2) + z8) * 2)), some (0, (((z10 * 2) + z12) * 2)), some (0, (((z14 * 2) + z16) * 2)), some (0, 0), some (0, 0), none, none, none, none]) c_45_84 rfl rfl ?_
    refine n_fg (le_s (le_n (le_s (le_n (le_n (le_s (le_s (le_s (le_s (le_s (le_s (le_n (le_n (le_n (le_n le_0))))))))))))))) ?_
    exact (fillM29U_3_2_c hS hp hpl hi hj hK hg 178).1 _ _ _ _ _ _ M hS (by omega) (by omega) (by omega) (by omega) (by omega) (by omega) hK (by omega) (by omega) (by omega)
  · intro h18
    exfalso; omega

set_option maxHeartbeats 4000000 in
theorem sweepT_3_2_c {xs : List Int32} {e : Nat} {ac : Int} {M0 M : nM} {p x y f t s : Int} {g : Int} (hS : Sf 2 ac M0 M) (hp : ActAt p) (hpl : p < 55 + 3 * ac) (hx : 0 ≤ x ∧ x ≤ 256) (hy : 0 ≤ y ∧ y ≤ 256) (hf : 0 ≤ f ∧ f ≤ 256) (ht : -1 ≤ t ∧ t ≤ 256) (hs : -2147483648 ≤ s ∧ s ≤ 2147483647) (hK : MK 256 8 7 56 192 1 2 4 8 16 32 64 128 0 M) (hxg : x < g) (hyg : y < g) (htg : t < g) (hg : g ≤ M 15 10) : ∀ nn : Nat, (∀ (x7 : Int) (M : nM), Sf 2 ac M0 M → (0 ≤ t ∧ t ≤ 256) → (0 ≤ x7 ∧ x7 ≤ 257) → (MK 256 8 7 56 192 1 2 4 8 16 32 64 128 0 M) → (g ≤ M 15 10) → (257 - x7) * 2 + 2 < (nn : Int) → nW xs (e + 2) 55 111 [some (2, 15), none, none, none, none, some (0, t), some (0, s), some (0, x7), none, none, none] [] M (nPV fun M1 => Sf 2 ac M0 M1 ∧ MK 256 8 7 56 192 1 2 4 8 16 32 64 128 0 M1 ∧ (g ≤ M1 15 10))) ∧ (∀ (x7 : Int) (M : nM), Sf 2 ac M0 M → (0 ≤ t ∧ t ≤ 256) → (0 ≤ x7 ∧ x7 ≤ 256) → (MK 256 8 7 56 192 1 2 4 8 16 32 64 128 0 M) → (g ≤ M 15 10) → (257 - x7) * 2 + 1 < (nn : Int) → nW xs (e + 2) 55 242 [some (2, 15), none, none, none, none, some (0, t), some (0, s), some (0, x7), none, none, none] [] M (nPV fun M1 => Sf 2 ac M0 M1 ∧ MK 256 8 7 56 192 1 2 4 8 16 32 64 128 0 M1 ∧ (g ≤ M1 15 10))) := by
  have hd : (2 : Int) = 2 ∨ (2 : Int) = 3 := by decide
  have hac := hS.2.2.2.2
  intro nn
  induction nn with
  | zero => refine ⟨?_, ?_⟩ <;> (intros; omega)
  | succ nn ih =>
    refine ⟨?_, ?_⟩
    · intro x7 M hS k5 k7 hK v0 hnn
      refine n_iload c_55_111 rfl ?_
      refine n_iload c_55_113 rfl ?_
      refine n_if2_gt c_55_115 (by omega) (by omega) ?_ ?_
      · intro h1
        exact n_rV c_55_248 rfl ⟨hS, hK, by omega⟩
      · intro h2
        refine n_iload c_55_118 rfl ?_
        refine n_aload_n c_55_120 rfl ?_
        refine n_getR c_55_121 sc_15.n rfl rfl rfl r_15_2 ?_
        refine n_iload c_55_124 rfl ?_
        refine n_ialoadV c_55_126 sc_21.n rfl rfl rfl (by omega) (t_21 hS (by omega)) ?_
        intro z3 ez3 f4
        refine n_iadd c_55_127 rfl ?_
        refine n_wrap ?_
        have f5 := n_wr_r (s + z3)
        generalize n_wr (s + z3) = z6 at f5 ⊢
        refine n_istore (L2 := [some (2, 15), none, none, none, none, some (0, t), some (0, s), some (0, x7), some (0, z6), none, none]) c_55_128 rfl rfl ?_
        refine n_iload c_55_130 rfl ?_
        refine n_aload_n c_55_132 rfl ?_
        refine n_getV (bi := 11) c_55_133 sc_15.n rfl rfl rfl (t_15_11 hS) ?_
        intro z7 ez7 f8
        refine n_if2_lt c_55_136 (by omega) (by omega) ?_ ?_
        · intro h9
          refine n_aload_n c_55_140 rfl ?_
          refine n_getR c_55_141 sc_15.n rfl rfl rfl r_15_6 ?_
          refine n_getR c_55_144 sc_25.n rfl rfl rfl r_25_0 ?_
          refine n_aload_n c_55_147 rfl ?_
          refine n_getR c_55_148 sc_15.n rfl rfl rfl r_15_3 ?_
          refine n_iload c_55_151 rfl ?_
          refine n_ialoadV c_55_153 sc_22.n rfl rfl rfl (by omega) (hK.r22 hS (by omega) (by omega)) ?_
          intro z10 ez10 f11
          refine n_ialoadV c_55_154 sc_26.n rfl rfl rfl (by omega) (hK.l26 (by omega) (by omega)) ?_
          intro z12 ez12 f13
          refine n_aload_n c_55_155 rfl ?_
          refine n_getR c_55_156 sc_15.n rfl rfl rfl r_15_7 ?_
          refine n_getR c_55_159 sc_27.n rfl rfl rfl r_27_0 ?_
          refine n_aload_n c_55_162 rfl ?_
          refine n_getR c_55_163 sc_15.n rfl rfl rfl r_15_4 ?_
          refine n_iload c_55_166 rfl ?_
          refine n_ialoadV c_55_168 sc_23.n rfl rfl rfl (by omega) (hK.r23 hS (by omega) (by omega)) ?_
          intro z14 ez14 f15
          refine n_ialoadV c_55_169 sc_28.n rfl rfl rfl (by omega) (hK.l28 (by omega) (by omega)) ?_
          intro z16 ez16 f17
          refine n_iadd c_55_170 rfl ?_
          refine n_aload_n c_55_171 rfl ?_
          refine n_getR c_55_172 sc_15.n rfl rfl rfl r_15_8 ?_
          refine n_getR c_55_175 sc_29.n rfl rfl rfl r_29_0 ?_
          refine n_aload_n c_55_178 rfl ?_
          refine n_getR c_55_179 sc_15.n rfl rfl rfl r_15_5 ?_
          refine n_iload c_55_182 rfl ?_
          refine n_ialoadV c_55_184 sc_24.n rfl rfl rfl (by omega) (hK.r24 hS (by omega) (by omega)) ?_
          intro z18 ez18 f19
          refine n_ialoadV c_55_185 sc_30.n rfl rfl rfl (by omega) (hK.l30 (by omega) (by omega)) ?_
          intro z20 ez20 f21
          refine n_iadd c_55_186 rfl ?_
          refine n_istore (L2 := [some (2, 15), none, none, none, none, some (0, t), some (0, s), some (0, x7), some (0, z6), some (0, ((z12 + z16) + z20)), none]) c_55_187 rfl rfl ?_
          refine n_aload_n c_55_189 rfl ?_
          refine n_getP c_55_190 ?_
          intro p22 ep22
          refine n_iload c_55_193 rfl ?_
          refine n_ialoadP hS hK c_55_195 ep22 (by omega) ?_
          intro z23 hz23
          refine n_iconst c_55_196 ?_
          refine n_isub c_55_197 rfl ?_
          refine n_istore (L2 := [some (2, 15), none, none, none, none, some (0, t), some (0, s), some (0, x7), some (0, z6), some (0, ((z12 + z16) + z20)), some (0, (z23 - 1))]) c_55_198 rfl rfl ?_
          refine n_iload c_55_200 rfl ?_
          refine n_if0_ge c_55_202 (by omega) ?_ ?_
          · intro h24
            refine n_iload c_55_221 rfl ?_
            refine n_aload_n c_55_223 rfl ?_
            refine n_getR c_55_224 sc_15.n rfl rfl rfl r_15_2 ?_
            refine n_iload c_55_227 rfl ?_
            refine n_ialoadV c_55_229 sc_21.n rfl rfl rfl (by omega) (t_21 hS (by omega)) ?_
            intro z25 ez25 f26
            refine n_if2_ge c_55_230 (by omega) (by omega) ?_ ?_
            · intro h27
              refine n_fg (le_s (le_n (le_n (le_n (le_n (le_s (le_s (le_s (le_n (le_n (le_n le_0))))))))))) ?_
              exact ih.2 _ M hS (by omega) (by omega) hK (by omega) (by omega)
            · intro h28
              refine n_aload_n c_55_233 rfl ?_
              refine n_getR c_55_234 sc_15.n rfl rfl rfl r_15_2 ?_
              refine n_iload c_55_237 rfl ?_
              refine n_iload c_55_239 rfl ?_
              refine n_iastoreV hS c_55_241 sc_21.n rfl (by omega) (w_21 (by omega) (by omega)) ?_
              intro M29 eM29 hS29
              have hK29 := hK.u (by unfold Kok; omega) eM29
              have g29_0 : M29 15 10 = M 15 10 := by rw [eM29]; exact nu_a (by omega)
              have g29_1 : M29 15 11 = M 15 11 := by rw [eM29]; exact nu_a (by omega)
              refine n_fg (le_s (le_n (le_n (le_n (le_n (le_s (le_s (le_s (le_n (le_n (le_n le_0))))))))))) ?_
              exact ih.2 _ M29 hS29 (by omega) (by omega) hK29 (by omega) (by omega)
          · intro h30
            refine n_aload_n c_55_205 rfl ?_
            refine n_iload c_55_206 rfl ?_
            refine n_iload c_55_208 rfl ?_
            refine n_ldc (n := 1000000) c_55_210 rfl ?_
            refine n_s2I c_55_212 rfl rfl rfl rfl (imin_2 (x := z6) (y := 1000000) hS (by omega) (by omega)) ?_
            intro z31 M32 hP33
            obtain ⟨eM, f33, f33p0⟩ := hP33
            subst eM
            refine n_v2V c_55_215 rfl sc_15.n rfl rfl rfl rfl (add_3_2 (c := ((z12 + z16) + z20)) (s := z31) hS (by omega) (by omega) hK) ?_
            intro  M34 hP35
            obtain ⟨hS34, f35K, f35p0⟩ := hP35
            refine n_goto c_55_218 ?_
            refine n_fg (le_s (le_n (le_n (le_n (le_n (le_s (le_s (le_s (le_n (le_n (le_n le_0))))))))))) ?_
            exact ih.2 _ M34 hS34 (by omega) (by omega) f35K (by omega) (by omega)
        · intro h36
          exact n_rV c_55_139 rfl ⟨hS, hK, by omega⟩
    · intro x7 M hS k5 k7 hK v0 hnn
      refine n_iinc (L2 := [some (2, 15), none, none, none, none, some (0, t), some (0, s), some (0, (x7 + 1)), none, none, none]) c_55_242 rfl rfl rfl ?_
      refine n_goto c_55_245 ?_
      refine n_fg (le_s (le_n (le_n (le_n (le_n (le_s (le_s (le_s (le_n (le_n (le_n le_0))))))))))) ?_
      exact ih.1 _ M hS (by omega) (by omega) hK (by omega) (by omega)
set_option maxHeartbeats 4000000 in
theorem sweepT_3_2 {xs : List Int32} {e : Nat} {ac : Int} {M0 M : nM} {p x y f t s : Int} {g : Int} (hS : Sf 2 ac M0 M) (hp : ActAt p) (hpl : p < 55 + 3 * ac) (hx : 0 ≤ x ∧ x ≤ 256) (hy : 0 ≤ y ∧ y ≤ 256) (hf : 0 ≤ f ∧ f ≤ 256) (ht : -1 ≤ t ∧ t ≤ 256) (hs : -2147483648 ≤ s ∧ s ≤ 2147483647) (hK : MK 256 8 7 56 192 1 2 4 8 16 32 64 128 0 M) (hxg : x < g) (hyg : y < g) (htg : t < g) (hg : g ≤ M 15 10) : nW xs (e + 2) 55 0 [some (2, 15), some (2, (p + 1)), some (0, x), some (0, y), some (0, f), some (0, t), some (0, s), none, none, none, none] [] M (nPV fun M1 => Sf 2 ac M0 M1 ∧ MK 256 8 7 56 192 1 2 4 8 16 32 64 128 0 M1 ∧ (g ≤ M1 15 10)) := by
  have hd : (2 : Int) = 2 ∨ (2 : Int) = 3 := by decide
  have hac := hS.2.2.2.2
  refine n_iload c_55_0 rfl ?_
  refine n_iload c_55_2 rfl ?_
  refine n_if2_gt c_55_4 (by omega) (by omega) ?_ ?_
  · intro h1
    exact n_rV c_55_34 rfl ⟨hS, hK, by omega⟩
  · intro h2
    refine n_aload_n c_55_7 rfl ?_
    refine n_getV (bi := 10) c_55_8 sc_15.n rfl rfl rfl (t_15_10 hS) ?_
    intro z3 ez3 f4
    refine n_sipush c_55_11 rfl ?_
    refine n_if2_gt c_55_14 (by omega) (by omega) ?_ ?_
    · intro h5
      exact n_rV c_55_34 rfl ⟨hS, hK, by omega⟩
    · intro h6
      refine n_iload c_55_17 rfl ?_
      refine n_aload_n c_55_19 rfl ?_
      refine n_getR c_55_20 sc_15.n rfl rfl rfl r_15_2 ?_
      refine n_iload c_55_23 rfl ?_
      refine n_ialoadV c_55_25 sc_21.n rfl rfl rfl (by omega) (t_21 hS (by omega)) ?_
      intro z7 ez7 f8
      refine n_iadd c_55_26 rfl ?_
      refine n_wrap ?_
      have f9 := n_wr_r (s + z7)
      generalize n_wr (s + z7) = z10 at f9 ⊢
      refine n_aload_n c_55_27 rfl ?_
      refine n_getV (bi := 11) c_55_28 sc_15.n rfl rfl rfl (t_15_11 hS) ?_
      intro z11 ez11 f12
      refine n_if2_lt c_55_31 (by omega) (by omega) ?_ ?_
      · intro h13
        refine n_aload_n c_55_35 rfl ?_
        refine n_getR c_55_36 sc_15.n rfl rfl rfl r_15_6 ?_
        refine n_aload_n c_55_39 rfl ?_
        refine n_getB c_55_40 hK.b ?_
        refine n_aload_n c_55_43 rfl ?_
        refine n_aload_n c_55_44 rfl ?_
        refine n_getR c_55_45 sc_15.n rfl rfl rfl r_15_3 ?_
        refine n_iload_n c_55_48 rfl ?_
        refine n_ialoadV c_55_49 sc_22.n rfl rfl rfl (by omega) (hK.r22 hS (by omega) (by omega)) ?_
        intro z14 ez14 f15
        refine n_aload_n c_55_50 rfl ?_
        refine n_getR c_55_51 sc_15.n rfl rfl rfl r_15_3 ?_
        refine n_iload_n c_55_54 rfl ?_
        refine n_ialoadV c_55_55 sc_22.n rfl rfl rfl (by omega) (hK.r22 hS (by omega) (by omega)) ?_
        intro z16 ez16 f17
        refine n_v4V c_55_56 rfl sc_25.n rfl rfl rfl rfl (fillM25T_3_2 (p := p) (i := z14) (j := z16) (g := (M 15 10)) hS hp hpl (by omega) (by omega) hK rfl) ?_
        intro  M18 hP19
        obtain ⟨hS18, f19g0, f19K⟩ := hP19
        refine n_aload_n c_55_59 rfl ?_
        refine n_getR c_55_60 sc_15.n rfl rfl rfl r_15_7 ?_
        refine n_aload_n c_55_63 rfl ?_
        refine n_getB c_55_64 f19K.b ?_
        refine n_aload_n c_55_67 rfl ?_
        refine n_aload_n c_55_68 rfl ?_
        refine n_getR c_55_69 sc_15.n rfl rfl rfl r_15_4 ?_
        refine n_iload_n c_55_72 rfl ?_
        refine n_ialoadV c_55_73 sc_23.n rfl rfl rfl (by omega) (f19K.r23 hS18 (by omega) (by omega)) ?_
        intro z20 ez20 f21
        refine n_aload_n c_55_74 rfl ?_
        refine n_getR c_55_75 sc_15.n rfl rfl rfl r_15_4 ?_
        refine n_iload_n c_55_78 rfl ?_
        refine n_ialoadV c_55_79 sc_23.n rfl rfl rfl (by omega) (f19K.r23 hS18 (by omega) (by omega)) ?_
        intro z22 ez22 f23
        refine n_v4V c_55_80 rfl sc_27.n rfl rfl rfl rfl (fillM27T_3_2 (p := p) (i := z20) (j := z22) (g := (M18 15 10)) hS18 hp hpl (by omega) (by omega) f19K rfl) ?_
        intro  M24 hP25
        obtain ⟨hS24, f25g0, f25K⟩ := hP25
        refine n_aload_n c_55_83 rfl ?_
        refine n_getR c_55_84 sc_15.n rfl rfl rfl r_15_8 ?_
        refine n_aload_n c_55_87 rfl ?_
        refine n_getB c_55_88 f25K.b ?_
        refine n_aload_n c_55_91 rfl ?_
        refine n_aload_n c_55_92 rfl ?_
        refine n_getR c_55_93 sc_15.n rfl rfl rfl r_15_5 ?_
        refine n_iload_n c_55_96 rfl ?_
        refine n_ialoadV c_55_97 sc_24.n rfl rfl rfl (by omega) (f25K.r24 hS24 (by omega) (by omega)) ?_
        intro z26 ez26 f27
        refine n_aload_n c_55_98 rfl ?_
        refine n_getR c_55_99 sc_15.n rfl rfl rfl r_15_5 ?_
        refine n_iload_n c_55_102 rfl ?_
        refine n_ialoadV c_55_103 sc_24.n rfl rfl rfl (by omega) (f25K.r24 hS24 (by omega) (by omega)) ?_
        intro z28 ez28 f29
        refine n_v4V c_55_104 rfl sc_29.n rfl rfl rfl rfl (fillM29T_3_2 (p := p) (i := z26) (j := z28) (g := (M24 15 10)) hS24 hp hpl (by omega) (by omega) f25K rfl) ?_
        intro  M30 hP31
        obtain ⟨hS30, f31g0, f31K⟩ := hP31
        refine n_iload c_55_107 rfl ?_
        refine n_istore (L2 := [some (2, 15), some (2, (p + 1)), some (0, x), some (0, y), some (0, f), some (0, t), some (0, s), some (0, f), none, none, none]) c_55_109 rfl rfl ?_
        refine n_fg (le_s (le_n (le_n (le_n (le_n (le_s (le_s (le_s (le_n (le_n (le_n le_0))))))))))) ?_
        exact (sweepT_3_2_c hS hp hpl hx hy hf ht hs hK hxg hyg htg hg 1046).1 _ M30 hS30 (by omega) (by omega) f31K (by omega) (by omega)
      · intro h32
        exact n_rV c_55_34 rfl ⟨hS, hK, by omega⟩

set_option maxHeartbeats 4000000 in
theorem sweepU_3_2_c {xs : List Int32} {e : Nat} {ac : Int} {M0 M : nM} {p x y f t s : Int} {g : Int} (hS : Sf 2 ac M0 M) (hp : ActAt p) (hpl : p < 55 + 3 * ac) (hx : 0 ≤ x ∧ x ≤ 256) (hy : 0 ≤ y ∧ y ≤ 256) (hf : 0 ≤ f ∧ f ≤ 256) (ht : -1 ≤ t ∧ t ≤ 256) (hs : -2147483648 ≤ s ∧ s ≤ 2147483647) (hK : MK 256 8 7 56 192 1 2 4 8 16 32 64 128 0 M) (hxg : x < g) (hyg : y < g) (htg : t < g) (hg : g ≤ M 15 10) : ∀ nn : Nat, (∀ (x7 : Int) (M : nM), Sf 2 ac M0 M → (0 ≤ t ∧ t ≤ 256) → (0 ≤ x7 ∧ x7 ≤ 257) → (MK 256 8 7 56 192 1 2 4 8 16 32 64 128 0 M) → (g ≤ M 15 10) → (257 - x7) * 2 + 2 < (nn : Int) → nW xs (e + 2) 55 111 [some (2, 15), none, none, none, none, some (0, t), some (0, s), some (0, x7), none, none, none] [] M (nPV fun M1 => Sf 2 ac M0 M1 ∧ MK 256 8 7 56 192 1 2 4 8 16 32 64 128 0 M1 ∧ (g ≤ M1 15 10))) ∧ (∀ (x7 : Int) (M : nM), Sf 2 ac M0 M → (0 ≤ t ∧ t ≤ 256) → (0 ≤ x7 ∧ x7 ≤ 256) → (MK 256 8 7 56 192 1 2 4 8 16 32 64 128 0 M) → (g ≤ M 15 10) → (257 - x7) * 2 + 1 < (nn : Int) → nW xs (e + 2) 55 242 [some (2, 15), none, none, none, none, some (0, t), some (0, s), some (0, x7), none, none, none] [] M (nPV fun M1 => Sf 2 ac M0 M1 ∧ MK 256 8 7 56 192 1 2 4 8 16 32 64 128 0 M1 ∧ (g ≤ M1 15 10))) := by
  have hd : (2 : Int) = 2 ∨ (2 : Int) = 3 := by decide
  have hac := hS.2.2.2.2
  intro nn
  induction nn with
  | zero => refine ⟨?_, ?_⟩ <;> (intros; omega)
  | succ nn ih =>
    refine ⟨?_, ?_⟩
    · intro x7 M hS k5 k7 hK v0 hnn
      refine n_iload c_55_111 rfl ?_
      refine n_iload c_55_113 rfl ?_
      refine n_if2_gt c_55_115 (by omega) (by omega) ?_ ?_
      · intro h1
        exact n_rV c_55_248 rfl ⟨hS, hK, by omega⟩
      · intro h2
        refine n_iload c_55_118 rfl ?_
        refine n_aload_n c_55_120 rfl ?_
        refine n_getR c_55_121 sc_15.n rfl rfl rfl r_15_2 ?_
        refine n_iload c_55_124 rfl ?_
        refine n_ialoadV c_55_126 sc_21.n rfl rfl rfl (by omega) (t_21 hS (by omega)) ?_
        intro z3 ez3 f4
        refine n_iadd c_55_127 rfl ?_
        refine n_wrap ?_
        have f5 := n_wr_r (s + z3)
        generalize n_wr (s + z3) = z6 at f5 ⊢
        refine n_istore (L2 := [some (2, 15), none, none, none, none, some (0, t), some (0, s), some (0, x7), some (0, z6), none, none]) c_55_128 rfl rfl ?_
        refine n_iload c_55_130 rfl ?_
        refine n_aload_n c_55_132 rfl ?_
        refine n_getV (bi := 11) c_55_133 sc_15.n rfl rfl rfl (t_15_11 hS) ?_
        intro z7 ez7 f8
        refine n_if2_lt c_55_136 (by omega) (by omega) ?_ ?_
        · intro h9
          refine n_aload_n c_55_140 rfl ?_
          refine n_getR c_55_141 sc_15.n rfl rfl rfl r_15_6 ?_
          refine n_getR c_55_144 sc_25.n rfl rfl rfl r_25_0 ?_
          refine n_aload_n c_55_147 rfl ?_
          refine n_getR c_55_148 sc_15.n rfl rfl rfl r_15_3 ?_
          refine n_iload c_55_151 rfl ?_
          refine n_ialoadV c_55_153 sc_22.n rfl rfl rfl (by omega) (hK.r22 hS (by omega) (by omega)) ?_
          intro z10 ez10 f11
          refine n_ialoadV c_55_154 sc_26.n rfl rfl rfl (by omega) (hK.l26 (by omega) (by omega)) ?_
          intro z12 ez12 f13
          refine n_aload_n c_55_155 rfl ?_
          refine n_getR c_55_156 sc_15.n rfl rfl rfl r_15_7 ?_
          refine n_getR c_55_159 sc_27.n rfl rfl rfl r_27_0 ?_
          refine n_aload_n c_55_162 rfl ?_
          refine n_getR c_55_163 sc_15.n rfl rfl rfl r_15_4 ?_
          refine n_iload c_55_166 rfl ?_
          refine n_ialoadV c_55_168 sc_23.n rfl rfl rfl (by omega) (hK.r23 hS (by omega) (by omega)) ?_
          intro z14 ez14 f15
          refine n_ialoadV c_55_169 sc_28.n rfl rfl rfl (by omega) (hK.l28 (by omega) (by omega)) ?_
          intro z16 ez16 f17
          refine n_iadd c_55_170 rfl ?_
          refine n_aload_n c_55_171 rfl ?_
          refine n_getR c_55_172 sc_15.n rfl rfl rfl r_15_8 ?_
          refine n_getR c_55_175 sc_29.n rfl rfl rfl r_29_0 ?_
          refine n_aload_n c_55_178 rfl ?_
          refine n_getR c_55_179 sc_15.n rfl rfl rfl r_15_5 ?_
          refine n_iload c_55_182 rfl ?_
          refine n_ialoadV c_55_184 sc_24.n rfl rfl rfl (by omega) (hK.r24 hS (by omega) (by omega)) ?_
          intro z18 ez18 f19
          refine n_ialoadV c_55_185 sc_30.n rfl rfl rfl (by omega) (hK.l30 (by omega) (by omega)) ?_
          intro z20 ez20 f21
          refine n_iadd c_55_186 rfl ?_
          refine n_istore (L2 := [some (2, 15), none, none, none, none, some (0, t), some (0, s), some (0, x7), some (0, z6), some (0, ((z12 + z16) + z20)), none]) c_55_187 rfl rfl ?_
          refine n_aload_n c_55_189 rfl ?_
          refine n_getP c_55_190 ?_
          intro p22 ep22
          refine n_iload c_55_193 rfl ?_
          refine n_ialoadP hS hK c_55_195 ep22 (by omega) ?_
          intro z23 hz23
          refine n_iconst c_55_196 ?_
          refine n_isub c_55_197 rfl ?_
          refine n_istore (L2 := [some (2, 15), none, none, none, none, some (0, t), some (0, s), some (0, x7), some (0, z6), some (0, ((z12 + z16) + z20)), some (0, (z23 - 1))]) c_55_198 rfl rfl ?_
          refine n_iload c_55_200 rfl ?_
          refine n_if0_ge c_55_202 (by omega) ?_ ?_
          · intro h24
            refine n_iload c_55_221 rfl ?_
            refine n_aload_n c_55_223 rfl ?_
            refine n_getR c_55_224 sc_15.n rfl rfl rfl r_15_2 ?_
            refine n_iload c_55_227 rfl ?_
            refine n_ialoadV c_55_229 sc_21.n rfl rfl rfl (by omega) (t_21 hS (by omega)) ?_
            intro z25 ez25 f26
            refine n_if2_ge c_55_230 (by omega) (by omega) ?_ ?_
            · intro h27
              refine n_fg (le_s (le_n (le_n (le_n (le_n (le_s (le_s (le_s (le_n (le_n (le_n le_0))))))))))) ?_
              exact ih.2 _ M hS (by omega) (by omega) hK (by omega) (by omega)
            · intro h28
              refine n_aload_n c_55_233 rfl ?_
              refine n_getR c_55_234 sc_15.n rfl rfl rfl r_15_2 ?_
              refine n_iload c_55_237 rfl ?_
              refine n_iload c_55_239 rfl ?_
              refine n_iastoreV hS c_55_241 sc_21.n rfl (by omega) (w_21 (by omega) (by omega)) ?_
              intro M29 eM29 hS29
              have hK29 := hK.u (by unfold Kok; omega) eM29
              have g29_0 : M29 15 10 = M 15 10 := by rw [eM29]; exact nu_a (by omega)
              have g29_1 : M29 15 11 = M 15 11 := by rw [eM29]; exact nu_a (by omega)
              refine n_fg (le_s (le_n (le_n (le_n (le_n (le_s (le_s (le_s (le_n (le_n (le_n le_0))))))))))) ?_
              exact ih.2 _ M29 hS29 (by omega) (by omega) hK29 (by omega) (by omega)
          · intro h30
            refine n_aload_n c_55_205 rfl ?_
            refine n_iload c_55_206 rfl ?_
            refine n_iload c_55_208 rfl ?_
            refine n_ldc (n := 1000000) c_55_210 rfl ?_
            refine n_s2I c_55_212 rfl rfl rfl rfl (imin_2 (x := z6) (y := 1000000) hS (by omega) (by omega)) ?_
            intro z31 M32 hP33
            obtain ⟨eM, f33, f33p0⟩ := hP33
            subst eM
            refine n_v2V c_55_215 rfl sc_15.n rfl rfl rfl rfl (add_3_2 (c := ((z12 + z16) + z20)) (s := z31) hS (by omega) (by omega) hK) ?_
            intro  M34 hP35
            obtain ⟨hS34, f35K, f35p0⟩ := hP35
            refine n_goto c_55_218 ?_
            refine n_fg (le_s (le_n (le_n (le_n (le_n (le_s (le_s (le_s (le_n (le_n (le_n le_0))))))))))) ?_
            exact ih.2 _ M34 hS34 (by omega) (by omega) f35K (by omega) (by omega)
        · intro h36
          exact n_rV c_55_139 rfl ⟨hS, hK, by omega⟩
    · intro x7 M hS k5 k7 hK v0 hnn
      refine n_iinc (L2 := [some (2, 15), none, none, none, none, some (0, t), some (0, s), some (0, (x7 + 1)), none, none, none]) c_55_242 rfl rfl rfl ?_
      refine n_goto c_55_245 ?_
      refine n_fg (le_s (le_n (le_n (le_n (le_n (le_s (le_s (le_s (le_n (le_n (le_n le_0))))))))))) ?_
      exact ih.1 _ M hS (by omega) (by omega) hK (by omega) (by omega)
set_option maxHeartbeats 4000000 in
theorem sweepU_3_2 {xs : List Int32} {e : Nat} {ac : Int} {M0 M : nM} {p x y f t s : Int} {g : Int} (hS : Sf 2 ac M0 M) (hp : ActAt p) (hpl : p < 55 + 3 * ac) (hx : 0 ≤ x ∧ x ≤ 256) (hy : 0 ≤ y ∧ y ≤ 256) (hf : 0 ≤ f ∧ f ≤ 256) (ht : -1 ≤ t ∧ t ≤ 256) (hs : -2147483648 ≤ s ∧ s ≤ 2147483647) (hK : MK 256 8 7 56 192 1 2 4 8 16 32 64 128 0 M) (hxg : x < g) (hyg : y < g) (htg : t < g) (hg : g ≤ M 15 10) : nW xs (e + 2) 55 0 [some (2, 15), some (2, (p + 2)), some (0, x), some (0, y), some (0, f), some (0, t), some (0, s), none, none, none, none] [] M (nPV fun M1 => Sf 2 ac M0 M1 ∧ MK 256 8 7 56 192 1 2 4 8 16 32 64 128 0 M1 ∧ (g ≤ M1 15 10)) := by
  have hd : (2 : Int) = 2 ∨ (2 : Int) = 3 := by decide
  have hac := hS.2.2.2.2
  refine n_iload c_55_0 rfl ?_
  refine n_iload c_55_2 rfl ?_
  refine n_if2_gt c_55_4 (by omega) (by omega) ?_ ?_
  · intro h1
    exact n_rV c_55_34 rfl ⟨hS, hK, by omega⟩
  · intro h2
    refine n_aload_n c_55_7 rfl ?_
    refine n_getV (bi := 10) c_55_8 sc_15.n rfl rfl rfl (t_15_10 hS) ?_
    intro z3 ez3 f4
    refine n_sipush c_55_11 rfl ?_
    refine n_if2_gt c_55_14 (by omega) (by omega) ?_ ?_
    · intro h5
      exact n_rV c_55_34 rfl ⟨hS, hK, by omega⟩
    · intro h6
      refine n_iload c_55_17 rfl ?_
      refine n_aload_n c_55_19 rfl ?_
      refine n_getR c_55_20 sc_15.n rfl rfl rfl r_15_2 ?_
      refine n_iload c_55_23 rfl ?_
      refine n_ialoadV c_55_25 sc_21.n rfl rfl rfl (by omega) (t_21 hS (by omega)) ?_
      intro z7 ez7 f8
      refine n_iadd c_55_26 rfl ?_
      refine n_wrap ?_
      have f9 := n_wr_r (s + z7)
      generalize n_wr (s + z7) = z10 at f9 ⊢
      refine n_aload_n c_55_27 rfl ?_
      refine n_getV (bi := 11) c_55_28 sc_15.n rfl rfl rfl (t_15_11 hS) ?_
      intro z11 ez11 f12
      refine n_if2_lt c_55_31 (by omega) (by omega) ?_ ?_
      · intro h13
        refine n_aload_n c_55_35 rfl ?_
        refine n_getR c_55_36 sc_15.n rfl rfl rfl r_15_6 ?_
        refine n_aload_n c_55_39 rfl ?_
        refine n_getB c_55_40 hK.b ?_
        refine n_aload_n c_55_43 rfl ?_
        refine n_aload_n c_55_44 rfl ?_
        refine n_getR c_55_45 sc_15.n rfl rfl rfl r_15_3 ?_
        refine n_iload_n c_55_48 rfl ?_
        refine n_ialoadV c_55_49 sc_22.n rfl rfl rfl (by omega) (hK.r22 hS (by omega) (by omega)) ?_
        intro z14 ez14 f15
        refine n_aload_n c_55_50 rfl ?_
        refine n_getR c_55_51 sc_15.n rfl rfl rfl r_15_3 ?_
        refine n_iload_n c_55_54 rfl ?_
        refine n_ialoadV c_55_55 sc_22.n rfl rfl rfl (by omega) (hK.r22 hS (by omega) (by omega)) ?_
        intro z16 ez16 f17
        refine n_v4V c_55_56 rfl sc_25.n rfl rfl rfl rfl (fillM25U_3_2 (p := p) (i := z14) (j := z16) (g := (M 15 10)) hS hp hpl (by omega) (by omega) hK rfl) ?_
        intro  M18 hP19
        obtain ⟨hS18, f19g0, f19K⟩ := hP19
        refine n_aload_n c_55_59 rfl ?_
        refine n_getR c_55_60 sc_15.n rfl rfl rfl r_15_7 ?_
        refine n_aload_n c_55_63 rfl ?_
        refine n_getB c_55_64 f19K.b ?_
        refine n_aload_n c_55_67 rfl ?_
        refine n_aload_n c_55_68 rfl ?_
        refine n_getR c_55_69 sc_15.n rfl rfl rfl r_15_4 ?_
        refine n_iload_n c_55_72 rfl ?_
        refine n_ialoadV c_55_73 sc_23.n rfl rfl rfl (by omega) (f19K.r23 hS18 (by omega) (by omega)) ?_
        intro z20 ez20 f21
        refine n_aload_n c_55_74 rfl ?_
        refine n_getR c_55_75 sc_15.n rfl rfl rfl r_15_4 ?_
        refine n_iload_n c_55_78 rfl ?_
        refine n_ialoadV c_55_79 sc_23.n rfl rfl rfl (by omega) (f19K.r23 hS18 (by omega) (by omega)) ?_
        intro z22 ez22 f23
        refine n_v4V c_55_80 rfl sc_27.n rfl rfl rfl rfl (fillM27U_3_2 (p := p) (i := z20) (j := z22) (g := (M18 15 10)) hS18 hp hpl (by omega) (by omega) f19K rfl) ?_
        intro  M24 hP25
        obtain ⟨hS24, f25g0, f25K⟩ := hP25
        refine n_aload_n c_55_83 rfl ?_
        refine n_getR c_55_84 sc_15.n rfl rfl rfl r_15_8 ?_
        refine n_aload_n c_55_87 rfl ?_
        refine n_getB c_55_88 f25K.b ?_
        refine n_aload_n c_55_91 rfl ?_
        refine n_aload_n c_55_92 rfl ?_
        refine n_getR c_55_93 sc_15.n rfl rfl rfl r_15_5 ?_
        refine n_iload_n c_55_96 rfl ?_
        refine n_ialoadV c_55_97 sc_24.n rfl rfl rfl (by omega) (f25K.r24 hS24 (by omega) (by omega)) ?_
        intro z26 ez26 f27
        refine n_aload_n c_55_98 rfl ?_
        refine n_getR c_55_99 sc_15.n rfl rfl rfl r_15_5 ?_
        refine n_iload_n c_55_102 rfl ?_
        refine n_ialoadV c_55_103 sc_24.n rfl rfl rfl (by omega) (f25K.r24 hS24 (by omega) (by omega)) ?_
        intro z28 ez28 f29
        refine n_v4V c_55_104 rfl sc_29.n rfl rfl rfl rfl (fillM29U_3_2 (p := p) (i := z26) (j := z28) (g := (M24 15 10)) hS24 hp hpl (by omega) (by omega) f25K rfl) ?_
        intro  M30 hP31
        obtain ⟨hS30, f31g0, f31K⟩ := hP31
        refine n_iload c_55_107 rfl ?_
        refine n_istore (L2 := [some (2, 15), some (2, (p + 2)), some (0, x), some (0, y), some (0, f), some (0, t), some (0, s), some (0, f), none, none, none]) c_55_109 rfl rfl ?_
        refine n_fg (le_s (le_n (le_n (le_n (le_n (le_s (le_s (le_s (le_n (le_n (le_n le_0))))))))))) ?_
        exact (sweepU_3_2_c hS hp hpl hx hy hf ht hs hK hxg hyg htg hg 1046).1 _ M30 hS30 (by omega) (by omega) f31K (by omega) (by omega)
      · intro h32
        exact n_rV c_55_34 rfl ⟨hS, hK, by omega⟩

set_option maxHeartbeats 4000000 in
theorem putOn_3_2_c {xs : List Int32} {e : Nat} {ac : Int} {M0 M : nM} {p e0 : Int} {g : Int} (hS : Sf 2 ac M0 M) (hp : ActAt p) (hpl : p < 55 + 3 * ac) (he0 : 0 ≤ e0 ∧ e0 ≤ 256) (hK : MK 256 8 7 56 192 1 2 4 8 16 32 64 128 0 M) (heg : e0 < g) (hg : g ≤ M 15 10) : ∀ nn : Nat, (∀ (x3 x4 : Int) (M : nM), Sf 2 ac M0 M → (-2147483648 ≤ x3 ∧ x3 ≤ 2147483647) → (0 ≤ x4 ∧ x4 ≤ 257) → (MK 256 8 7 56 192 1 2 4 8 16 32 64 128 0 M) → (g ≤ M 15 10) → (257 - x4) * 1 + 260 < (nn : Int) → nW xs (e + 3) 54 75 [some (2, 15), some (2, p), some (0, e0), some (0, x3), some (0, x4)] [] M (nPV fun M1 => Sf 2 ac M0 M1 ∧ MK 256 8 7 56 192 1 2 4 8 16 32 64 128 0 M1 ∧ (g ≤ M1 15 10))) ∧ (∀ (x3 x4 : Int) (M : nM), Sf 2 ac M0 M → (-2147483648 ≤ x3 ∧ x3 ≤ 2147483647) → (0 ≤ x4 ∧ x4 ≤ 256) → (MK 256 8 7 56 192 1 2 4 8 16 32 64 128 0 M) → (g ≤ M 15 10) → (256 - x4) * 1 + 2 < (nn : Int) → nW xs (e + 3) 54 112 [some (2, 15), some (2, p), some (0, e0), some (0, x3), some (0, x4)] [] M (nPV fun M1 => Sf 2 ac M0 M1 ∧ MK 256 8 7 56 192 1 2 4 8 16 32 64 128 0 M1 ∧ (g ≤ M1 15 10))) ∧ (∀ (M : nM), Sf 2 ac M0 M → (MK 256 8 7 56 192 1 2 4 8 16 32 64 128 0 M) → (g ≤ M 15 10) → 1 < (nn : Int) → nW xs (e + 3) 54 170 [none, none, none, none, none] [] M (nPV fun M1 => Sf 2 ac M0 M1 ∧ MK 256 8 7 56 192 1 2 4 8 16 32 64 128 0 M1 ∧ (g ≤ M1 15 10))) := by
  have hd : (2 : Int) = 2 ∨ (2 : Int) = 3 := by decide
  have hac := hS.2.2.2.2
  intro nn
  induction nn with
  | zero => refine ⟨?_, ?_, ?_⟩ <;> (intros; omega)
  | succ nn ih =>
    refine ⟨?_, ?_, ?_⟩
    · intro x3 x4 M hS k3 k4 hK v0 hnn
      refine n_iload c_54_75 rfl ?_
      refine n_iload_n c_54_77 rfl ?_
      refine n_if2_gt c_54_78 (by omega) (by omega) ?_ ?_
      · intro h1
        refine n_iconst c_54_109 ?_
        refine n_istore (L2 := [some (2, 15), some (2, p), some (0, e0), some (0, x3), some (0, 0)]) c_54_110 rfl rfl ?_
        refine n_fg (le_s (le_s (le_s (le_s (le_s le_0))))) ?_
        exact ih.2.1 _ _ M hS (by omega) (by omega) hK (by omega) (by omega)
      · intro h2
        refine n_aload_n c_54_81 rfl ?_
        refine n_aload_n c_54_82 rfl ?_
        refine n_getR c_54_83 hp.c0.1.n rfl rfl rfl hp.r.1 ?_
        refine n_iload_n c_54_86 rfl ?_
        refine n_iload c_54_87 rfl ?_
        refine n_iconst c_54_89 ?_
        refine n_iload_n c_54_90 rfl ?_
        refine n_iload_n c_54_91 rfl ?_
        refine n_aload_n c_54_92 rfl ?_
        refine n_getR c_54_93 sc_15.n rfl rfl rfl r_15_2 ?_
        refine n_iload c_54_96 rfl ?_
        refine n_ialoadV c_54_98 sc_21.n rfl rfl rfl (by omega) (t_21 hS (by omega)) ?_
        intro z3 ez3 f4
        refine n_iadd c_54_99 rfl ?_
        refine n_wrap ?_
        have f5 := n_wr_r (x3 + z3)
        generalize n_wr (x3 + z3) = z6 at f5 ⊢
        refine n_v6V c_54_100 rfl sc_15.n rfl rfl rfl rfl (sweepT_3_2 (p := p) (x := e0) (y := x4) (f := 0) (t := e0) (s := z6) (g := (M 15 10)) hS hp hpl (by omega) (by omega) (by omega) (by omega) (by omega) hK (by omega) (by omega) (by omega) (by omega)) ?_
        intro  M7 hP8
        obtain ⟨hS7, f8K, f8p0⟩ := hP8
        refine n_iinc (L2 := [some (2, 15), some (2, p), some (0, e0), some (0, x3), some (0, (x4 + 1))]) c_54_103 rfl rfl rfl ?_
        refine n_goto c_54_106 ?_
        refine n_fg (le_s (le_s (le_s (le_s (le_s le_0))))) ?_
        exact ih.1 _ _ M7 hS7 (by omega) (by omega) f8K (by omega) (by omega)
    · intro x3 x4 M hS k3 k4 hK v0 hnn
      refine n_iload c_54_112 rfl ?_
      refine n_iload_n c_54_114 rfl ?_
      refine n_if2_ge c_54_115 (by omega) (by omega) ?_ ?_
      · intro h1
        refine n_fg (le_n (le_n (le_n (le_n (le_n le_0))))) ?_
        exact ih.2.2  M hS hK (by omega) (by omega)
      · intro h2
        refine n_aload_n c_54_118 rfl ?_
        refine n_aload_n c_54_119 rfl ?_
        refine n_getR c_54_120 hp.c0.1.n rfl rfl rfl hp.r.1 ?_
        refine n_iload c_54_123 rfl ?_
        refine n_iload_n c_54_125 rfl ?_
        refine n_iconst c_54_126 ?_
        refine n_iload_n c_54_127 rfl ?_
        refine n_iload_n c_54_128 rfl ?_
        refine n_aload_n c_54_129 rfl ?_
        refine n_getR c_54_130 sc_15.n rfl rfl rfl r_15_2 ?_
        refine n_iload c_54_133 rfl ?_
        refine n_ialoadV c_54_135 sc_21.n rfl rfl rfl (by omega) (t_21 hS (by omega)) ?_
        intro z3 ez3 f4
        refine n_iadd c_54_136 rfl ?_
        refine n_wrap ?_
        have f5 := n_wr_r (x3 + z3)
        generalize n_wr (x3 + z3) = z6 at f5 ⊢
        refine n_v6V c_54_137 rfl sc_15.n rfl rfl rfl rfl (sweepT_3_2 (p := p) (x := x4) (y := e0) (f := 0) (t := e0) (s := z6) (g := (M 15 10)) hS hp hpl (by omega) (by omega) (by omega) (by omega) (by omega) hK (by omega) (by omega) (by omega) (by omega)) ?_
        intro  M7 hP8
        obtain ⟨hS7, f8K, f8p0⟩ := hP8
        refine n_aload_n c_54_140 rfl ?_
        refine n_aload_n c_54_141 rfl ?_
        refine n_getR c_54_142 hp.c0.1.n rfl rfl rfl hp.r.2 ?_
        refine n_iload c_54_145 rfl ?_
        refine n_iload_n c_54_147 rfl ?_
        refine n_iconst c_54_148 ?_
        refine n_iload_n c_54_149 rfl ?_
        refine n_iconst c_54_150 ?_
        refine n_isub c_54_151 rfl ?_
        refine n_iload_n c_54_152 rfl ?_
        refine n_aload_n c_54_153 rfl ?_
        refine n_getR c_54_154 sc_15.n rfl rfl rfl r_15_2 ?_
        refine n_iload c_54_157 rfl ?_
        refine n_ialoadV c_54_159 sc_21.n rfl rfl rfl (by omega) (t_21 hS7 (by omega)) ?_
        intro z9 ez9 f10
        refine n_iadd c_54_160 rfl ?_
        refine n_wrap ?_
        have f11 := n_wr_r (x3 + z9)
        generalize n_wr (x3 + z9) = z12 at f11 ⊢
        refine n_v6V c_54_161 rfl sc_15.n rfl rfl rfl rfl (sweepU_3_2 (p := p) (x := x4) (y := e0) (f := 0) (t := (e0 - 1)) (s := z12) (g := (M7 15 10)) hS7 hp hpl (by omega) (by omega) (by omega) (by omega) (by omega) f8K (by omega) (by omega) (by omega) (by omega)) ?_
        intro  M13 hP14
        obtain ⟨hS13, f14K, f14p0⟩ := hP14
        refine n_iinc (L2 := [some (2, 15), some (2, p), some (0, e0), some (0, x3), some (0, (x4 + 1))]) c_54_164 rfl rfl rfl ?_
        refine n_goto c_54_167 ?_
        refine n_fg (le_s (le_s (le_s (le_s (le_s le_0))))) ?_
        exact ih.2.1 _ _ M13 hS13 (by omega) (by omega) f14K (by omega) (by omega)
    · intro M hS hK v0 hnn
      exact n_rV c_54_170 rfl ⟨hS, hK, by omega⟩
set_option maxHeartbeats 4000000 in
theorem putOn_3_2 {xs : List Int32} {e : Nat} {ac : Int} {M0 M : nM} {p e0 : Int} {g : Int} (hS : Sf 2 ac M0 M) (hp : ActAt p) (hpl : p < 55 + 3 * ac) (he0 : 0 ≤ e0 ∧ e0 ≤ 256) (hK : MK 256 8 7 56 192 1 2 4 8 16 32 64 128 0 M) (heg : e0 < g) (hg : g ≤ M 15 10) : nW xs (e + 3) 54 0 [some (2, 15), some (2, p), some (0, e0), none, none] [] M (nPV fun M1 => Sf 2 ac M0 M1 ∧ MK 256 8 7 56 192 1 2 4 8 16 32 64 128 0 M1 ∧ (g ≤ M1 15 10)) := by
  have hd : (2 : Int) = 2 ∨ (2 : Int) = 3 := by decide
  have hac := hS.2.2.2.2
  refine n_iconst c_54_0 ?_
  refine n_aload_n c_54_1 rfl ?_
  refine n_getR c_54_2 sc_15.n rfl rfl rfl r_15_2 ?_
  refine n_iload_n c_54_5 rfl ?_
  refine n_ialoadV c_54_6 sc_21.n rfl rfl rfl (by omega) (t_21 hS (by omega)) ?_
  intro z1 ez1 f2
  refine n_iadd c_54_7 rfl ?_
  refine n_wrap ?_
  have f3 := n_wr_r (1 + z1)
  generalize n_wr (1 + z1) = z4 at f3 ⊢
  refine n_istore_n (L2 := [some (2, 15), some (2, p), some (0, e0), some (0, z4), none]) c_54_8 rfl rfl ?_
  refine n_aload_n c_54_9 rfl ?_
  refine n_getV (bi := 0) c_54_10 hp.c0.1.n rfl rfl rfl (t_actl hS hp hpl).1 ?_
  intro z5 ez5 f6
  refine n_iconst c_54_13 ?_
  refine n_if2_ne c_54_14 (by omega) (by omega) ?_ ?_
  · intro h7
    refine n_aload_n c_54_33 rfl ?_
    refine n_getV (bi := 0) c_54_34 hp.c0.1.n rfl rfl rfl (t_actl hS hp hpl).1 ?_
    intro z8 ez8 f9
    refine n_iconst c_54_37 ?_
    refine n_if2_ne c_54_38 (by omega) (by omega) ?_ ?_
    · intro h10
      refine n_iconst c_54_72 ?_
      refine n_istore (L2 := [some (2, 15), some (2, p), some (0, e0), some (0, z4), some (0, 0)]) c_54_73 rfl rfl ?_
      refine n_fg (le_s (le_s (le_s (le_s (le_s le_0))))) ?_
      exact (putOn_3_2_c hS hp hpl he0 hK heg hg 1046).1 _ _ M hS (by omega) (by omega) hK (by omega) (by omega)
    · intro h11
      refine n_aload_n c_54_41 rfl ?_
      refine n_aload_n c_54_42 rfl ?_
      refine n_getR c_54_43 hp.c0.1.n rfl rfl rfl hp.r.1 ?_
      refine n_iload_n c_54_46 rfl ?_
      refine n_iload_n c_54_47 rfl ?_
      refine n_iconst c_54_48 ?_
      refine n_iload_n c_54_49 rfl ?_
      refine n_iload_n c_54_50 rfl ?_
      refine n_v6V c_54_51 rfl sc_15.n rfl rfl rfl rfl (sweepT_3_2 (p := p) (x := e0) (y := e0) (f := 0) (t := e0) (s := z4) (g := (M 15 10)) hS hp hpl (by omega) (by omega) (by omega) (by omega) (by omega) hK (by omega) (by omega) (by omega) (by omega)) ?_
      intro  M12 hP13
      obtain ⟨hS12, f13K, f13p0⟩ := hP13
      refine n_aload_n c_54_54 rfl ?_
      refine n_aload_n c_54_55 rfl ?_
      refine n_getR c_54_56 hp.c0.1.n rfl rfl rfl hp.r.2 ?_
      refine n_iload_n c_54_59 rfl ?_
      refine n_iload_n c_54_60 rfl ?_
      refine n_iconst c_54_61 ?_
      refine n_iload_n c_54_62 rfl ?_
      refine n_iconst c_54_63 ?_
      refine n_isub c_54_64 rfl ?_
      refine n_iload_n c_54_65 rfl ?_
      refine n_v6V c_54_66 rfl sc_15.n rfl rfl rfl rfl (sweepU_3_2 (p := p) (x := e0) (y := e0) (f := 0) (t := (e0 - 1)) (s := z4) (g := (M12 15 10)) hS12 hp hpl (by omega) (by omega) (by omega) (by omega) (by omega) f13K (by omega) (by omega) (by omega) (by omega)) ?_
      intro  M14 hP15
      obtain ⟨hS14, f15K, f15p0⟩ := hP15
      refine n_goto c_54_69 ?_
      refine n_fg (le_n (le_n (le_n (le_n (le_n le_0))))) ?_
      exact (putOn_3_2_c hS hp hpl he0 hK heg hg 1046).2.2  M14 hS14 f15K (by omega) (by omega)
  · intro h16
    refine n_aload_n c_54_17 rfl ?_
    refine n_aload_n c_54_18 rfl ?_
    refine n_getR c_54_19 hp.c0.1.n rfl rfl rfl hp.r.1 ?_
    refine n_iload_n c_54_22 rfl ?_
    refine n_iload_n c_54_23 rfl ?_
    refine n_iload_n c_54_24 rfl ?_
    refine n_iload_n c_54_25 rfl ?_
    refine n_iconst c_54_26 ?_
    refine n_v6V c_54_27 rfl sc_15.n rfl rfl rfl rfl (sweepT_3_2 (p := p) (x := e0) (y := e0) (f := e0) (t := e0) (s := 1) (g := (M 15 10)) hS hp hpl (by omega) (by omega) (by omega) (by omega) (by omega) hK (by omega) (by omega) (by omega) (by omega)) ?_
    intro  M17 hP18
    obtain ⟨hS17, f18K, f18p0⟩ := hP18
    refine n_goto c_54_30 ?_
    refine n_fg (le_n (le_n (le_n (le_n (le_n le_0))))) ?_
    exact (putOn_3_2_c hS hp hpl he0 hK heg hg 1046).2.2  M17 hS17 f18K (by omega) (by omega)
