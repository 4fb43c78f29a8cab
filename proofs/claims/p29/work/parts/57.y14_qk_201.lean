/-! What the methods tell. -/
set_option maxHeartbeats 4000000 in
theorem mhandCodeX_2 {xs : List Int32} {e : Nat} {ac : Int} {M0 M : nM} (hS : Sf 2 ac M0 M) (hdm : M0 112 0 = 2) : nW xs (e + 1) 198 0 [some (2, 112), none, none, none] [] M (nPJ fun z M1 => M = M1 ∧ (-9223372036854775808 ≤ z ∧ z ≤ 9223372036854775807) ∧ (z = cdN 2 (fun x => M 127 x) 0 8)) := by
  have hd : (2 : Int) = 2 ∨ (2 : Int) = 3 := by decide
  have hac := hS.2.2.2.2
  refine n_lconst (n := 0) c_198_0 rfl (n_lstore_n (L2 := [some (2, 112), some (1, 0), none, none]) c_198_1 rfl rfl (n_aload_n c_198_2 rfl (n_getV (bi := 0) c_198_3 sc_112.n rfl rfl rfl (t_dm hS hdm) ?_)))
  intro z1 ez1 f2
  obtain rfl : z1 = 2 := by omega
  refine n_iconst c_198_6 (n_s2I c_198_7 rfl rfl rfl rfl (mpower3_2  hS ) ?_)
  intro z3 M4 hP5
  obtain ⟨eM, f5⟩ := hP5
  subst eM
  obtain rfl : z3 = 8 := by omega
  refine n_iconst c_198_10 (n_isub c_198_11 rfl (n_istore_n (L2 := [some (2, 112), some (1, 0), none, some (0, (8 - 1))]) c_198_12 rfl rfl (n_iload_n c_198_13 rfl ?_)))
  refine n_if0_lt c_198_14 (by omega) ?_ ?_
  · intro h6
    exfalso; omega
  · intro h7
    refine n_lload_n c_198_17 rfl (n_aload_n c_198_18 rfl (n_getV (bi := 0) c_198_19 sc_112.n rfl rfl rfl (t_dm hS hdm) ?_))
    intro z8 ez8 f9
    obtain rfl : z8 = 2 := by omega
    refine n_i2l c_198_22 (by omega) ?_
    refine n_lmul c_198_23 rfl (n_aload_n c_198_24 rfl (n_getR c_198_25 sc_112.n rfl rfl rfl r_112_19 (n_iload_n c_198_28 rfl (n_ialoadV c_198_29 sc_127.n rfl rfl rfl (by omega) (t_127 hS (by omega)) ?_))))
    intro z10 ez10 f11
    have kr7 : z10 = M 127 7 := ez10
    refine n_i2l c_198_30 (by omega) ?_
    refine n_ladd c_198_31 rfl (n_lstore_n (L2 := [some (2, 112), some (1, ((0 * 2) + z10)), none, some (0, (8 - 1))]) c_198_32 rfl rfl (n_iinc (L2 := [some (2, 112), some (1, ((0 * 2) + z10)), none, some (0, ((8 - 1) + (-1)))]) c_198_33 rfl rfl rfl (n_goto c_198_36 (n_iload_n c_198_13 rfl ?_))))
    refine n_if0_lt c_198_14 (by omega) ?_ ?_
    · intro h12
      exfalso; omega
    · intro h13
      refine n_lload_n c_198_17 rfl (n_aload_n c_198_18 rfl (n_getV (bi := 0) c_198_19 sc_112.n rfl rfl rfl (t_dm hS hdm) ?_))
      intro z14 ez14 f15
      obtain rfl : z14 = 2 := by omega
      refine n_i2l c_198_22 (by omega) ?_
      refine n_lmul c_198_23 rfl (n_aload_n c_198_24 rfl (n_getR c_198_25 sc_112.n rfl rfl rfl r_112_19 (n_iload_n c_198_28 rfl (n_ialoadV c_198_29 sc_127.n rfl rfl rfl (by omega) (t_127 hS (by omega)) ?_))))
      intro z16 ez16 f17
      have kr6 : z16 = M 127 6 := ez16
      refine n_i2l c_198_30 (by omega) ?_
      refine n_ladd c_198_31 rfl (n_lstore_n (L2 := [some (2, 112), some (1, ((((0 * 2) + z10) * 2) + z16)), none, some (0, ((8 - 1) + (-1)))]) c_198_32 rfl rfl (n_iinc (L2 := [some (2, 112), some (1, ((((0 * 2) + z10) * 2) + z16)), none, some (0, (((8 - 1) + (-1)) + (-1)))]) c_198_33 rfl rfl rfl (n_goto c_198_36 (n_iload_n c_198_13 rfl ?_))))
      refine n_if0_lt c_198_14 (by omega) ?_ ?_
      · intro h18
        exfalso; omega
      · intro h19
        refine n_lload_n c_198_17 rfl (n_aload_n c_198_18 rfl (n_getV (bi := 0) c_198_19 sc_112.n rfl rfl rfl (t_dm hS hdm) ?_))
        intro z20 ez20 f21
        obtain rfl : z20 = 2 := by omega
        refine n_i2l c_198_22 (by omega) ?_
        refine n_lmul c_198_23 rfl (n_aload_n c_198_24 rfl (n_getR c_198_25 sc_112.n rfl rfl rfl r_112_19 (n_iload_n c_198_28 rfl (n_ialoadV c_198_29 sc_127.n rfl rfl rfl (by omega) (t_127 hS (by omega)) ?_))))
        intro z22 ez22 f23
        have kr5 : z22 = M 127 5 := ez22
        refine n_i2l c_198_30 (by omega) ?_
        refine n_ladd c_198_31 rfl (n_lstore_n (L2 := [some (2, 112), some (1, ((((((0 * 2) + z10) * 2) + z16) * 2) + z22)), none, some (0, (((8 - 1) + (-1)) + (-1)))]) c_198_32 rfl rfl (n_iinc (L2 := [some (2, 112), some (1, ((((((0 * 2) + z10) * 2) + z16) * 2) + z22)), none, some (0, ((((8 - 1) + (-1)) + (-1)) + (-1)))]) c_198_33 rfl rfl rfl (n_goto c_198_36 (n_iload_n c_198_13 rfl ?_))))
        refine n_if0_lt c_198_14 (by omega) ?_ ?_
        · intro h24
          exfalso; omega
        · intro h25
          refine n_lload_n c_198_17 rfl (n_aload_n c_198_18 rfl (n_getV (bi := 0) c_198_19 sc_112.n rfl rfl rfl (t_dm hS hdm) ?_))
          intro z26 ez26 f27
          obtain rfl : z26 = 2 := by omega
          refine n_i2l c_198_22 (by omega) ?_
          refine n_lmul c_198_23 rfl (n_aload_n c_198_24 rfl (n_getR c_198_25 sc_112.n rfl rfl rfl r_112_19 (n_iload_n c_198_28 rfl (n_ialoadV c_198_29 sc_127.n rfl rfl rfl (by omega) (t_127 hS (by omega)) ?_))))
          intro z28 ez28 f29
          have kr4 : z28 = M 127 4 := ez28
          refine n_i2l c_198_30 (by omega) ?_
          refine n_ladd c_198_31 rfl (n_lstore_n (L2 := [some (2, 112), some (1, ((((((((0 * 2) + z10) * 2) + z16) * 2) + z22) * 2) + z28)), none, some (0, ((((8 - 1) + (-1)) + (-1)) + (-1)))]) c_198_32 rfl rfl (n_iinc (L2 := [some (2, 112), some (1, ((((((((0 * 2) + z10) * 2) + z16) * 2) + z22) * 2) + z28)), none, some (0, (((((8 - 1) + (-1)) + (-1)) + (-1)) + (-1)))]) c_198_33 rfl rfl rfl (n_goto c_198_36 (n_iload_n c_198_13 rfl ?_))))
          refine n_if0_lt c_198_14 (by omega) ?_ ?_
          · intro h30
            exfalso; omega
          · intro h31
            refine n_lload_n c_198_17 rfl (n_aload_n c_198_18 rfl (n_getV (bi := 0) c_198_19 sc_112.n rfl rfl rfl (t_dm hS hdm) ?_))
            intro z32 ez32 f33
            obtain rfl : z32 = 2 := by omega
            refine n_i2l c_198_22 (by omega) ?_
            refine n_lmul c_198_23 rfl (n_aload_n c_198_24 rfl (n_getR c_198_25 sc_112.n rfl rfl rfl r_112_19 (n_iload_n c_198_28 rfl (n_ialoadV c_198_29 sc_127.n rfl rfl rfl (by omega) (t_127 hS (by omega)) ?_))))
            intro z34 ez34 f35
            have kr3 : z34 = M 127 3 := ez34
            refine n_i2l c_198_30 (by omega) ?_
            refine n_ladd c_198_31 rfl (n_lstore_n (L2 := [some (2, 112), some (1, ((((((((((0 * 2) + z10) * 2) + z16) * 2) + z22) * 2) + z28) * 2) + z34)), none, some (0, (((((8 - 1) + (-1)) + (-1)) + (-1)) + (-1)))]) c_198_32 rfl rfl (n_iinc (L2 := [some (2, 112), some (1, ((((((((((0 * 2) + z10) * 2) + z16) * 2) + z22) * 2) + z28) * 2) + z34)), none, some (0, ((((((8 - 1) + (-1)) + (-1)) + (-1)) + (-1)) + (-1)))]) c_198_33 rfl rfl rfl (n_goto c_198_36 (n_iload_n c_198_13 rfl ?_))))
            refine n_if0_lt c_198_14 (by omega) ?_ ?_
            · intro h36
              exfalso; omega
            · intro h37
              refine n_lload_n c_198_17 rfl (n_aload_n c_198_18 rfl (n_getV (bi := 0) c_198_19 sc_112.n rfl rfl rfl (t_dm hS hdm) ?_))
              intro z38 ez38 f39
              obtain rfl : z38 = 2 := by omega
              refine n_i2l c_198_22 (by omega) ?_
              refine n_lmul c_198_23 rfl (n_aload_n c_198_24 rfl (n_getR c_198_25 sc_112.n rfl rfl rfl r_112_19 (n_iload_n c_198_28 rfl (n_ialoadV c_198_29 sc_127.n rfl rfl rfl (by omega) (t_127 hS (by omega)) ?_))))
              intro z40 ez40 f41
              have kr2 : z40 = M 127 2 := ez40
              refine n_i2l c_198_30 (by omega) ?_
              refine n_ladd c_198_31 rfl (n_lstore_n (L2 := [some (2, 112), some (1, ((((((((((((0 * 2) + z10) * 2) + z16) * 2) + z22) * 2) + z28) * 2) + z34) * 2) + z40)), none, some (0, ((((((8 - 1) + (-1)) + (-1)) + (-1)) + (-1)) + (-1)))]) c_198_32 rfl rfl (n_iinc (L2 := [some (2, 112), some (1, ((((((((((((0 * 2) + z10) * 2) + z16) * 2) + z22) * 2) + z28) * 2) + z34) * 2) + z40)), none, some (0, (((((((8 - 1) + (-1)) + (-1)) + (-1)) + (-1)) + (-1)) + (-1)))]) c_198_33 rfl rfl rfl (n_goto c_198_36 (n_iload_n c_198_13 rfl ?_))))
              refine n_if0_lt c_198_14 (by omega) ?_ ?_
              · intro h42
                exfalso; omega
              · intro h43
                refine n_lload_n c_198_17 rfl (n_aload_n c_198_18 rfl (n_getV (bi := 0) c_198_19 sc_112.n rfl rfl rfl (t_dm hS hdm) ?_))
                intro z44 ez44 f45
                obtain rfl : z44 = 2 := by omega
                refine n_i2l c_198_22 (by omega) ?_
                refine n_lmul c_198_23 rfl (n_aload_n c_198_24 rfl (n_getR c_198_25 sc_112.n rfl rfl rfl r_112_19 (n_iload_n c_198_28 rfl (n_ialoadV c_198_29 sc_127.n rfl rfl rfl (by omega) (t_127 hS (by omega)) ?_))))
                intro z46 ez46 f47
                have kr1 : z46 = M 127 1 := ez46
                refine n_i2l c_198_30 (by omega) ?_
                refine n_ladd c_198_31 rfl (n_lstore_n (L2 := [some (2, 112), some (1, ((((((((((((((0 * 2) + z10) * 2) + z16) * 2) + z22) * 2) + z28) * 2) + z34) * 2) + z40) * 2) + z46)), none, some (0, (((((((8 - 1) + (-1)) + (-1)) + (-1)) + (-1)) + (-1)) + (-1)))]) c_198_32 rfl rfl (n_iinc (L2 := [some (2, 112), some (1, ((((((((((((((0 * 2) + z10) * 2) + z16) * 2) + z22) * 2) + z28) * 2) + z34) * 2) + z40) * 2) + z46)), none, some (0, ((((((((8 - 1) + (-1)) + (-1)) + (-1)) + (-1)) + (-1)) + (-1)) + (-1)))]) c_198_33 rfl rfl rfl (n_goto c_198_36 (n_iload_n c_198_13 rfl ?_))))
                refine n_if0_lt c_198_14 (by omega) ?_ ?_
                · intro h48
                  exfalso; omega
                · intro h49
                  refine n_lload_n c_198_17 rfl (n_aload_n c_198_18 rfl (n_getV (bi := 0) c_198_19 sc_112.n rfl rfl rfl (t_dm hS hdm) ?_))
                  intro z50 ez50 f51
                  obtain rfl : z50 = 2 := by omega
                  refine n_i2l c_198_22 (by omega) ?_
                  refine n_lmul c_198_23 rfl (n_aload_n c_198_24 rfl (n_getR c_198_25 sc_112.n rfl rfl rfl r_112_19 (n_iload_n c_198_28 rfl (n_ialoadV c_198_29 sc_127.n rfl rfl rfl (by omega) (t_127 hS (by omega)) ?_))))
                  intro z52 ez52 f53
                  have kr0 : z52 = M 127 0 := ez52
                  refine n_i2l c_198_30 (by omega) ?_
                  refine n_ladd c_198_31 rfl (n_lstore_n (L2 := [some (2, 112), some (1, ((((((((((((((((0 * 2) + z10) * 2) + z16) * 2) + z22) * 2) + z28) * 2) + z34) * 2) + z40) * 2) + z46) * 2) + z52)), none, some (0, ((((((((8 - 1) + (-1)) + (-1)) + (-1)) + (-1)) + (-1)) + (-1)) + (-1)))]) c_198_32 rfl rfl (n_iinc (L2 := [some (2, 112), some (1, ((((((((((((((((0 * 2) + z10) * 2) + z16) * 2) + z22) * 2) + z28) * 2) + z34) * 2) + z40) * 2) + z46) * 2) + z52)), none, some (0, (((((((((8 - 1) + (-1)) + (-1)) + (-1)) + (-1)) + (-1)) + (-1)) + (-1)) + (-1)))]) c_198_33 rfl rfl rfl (n_goto c_198_36 (n_iload_n c_198_13 rfl ?_))))
                  refine n_if0_lt c_198_14 (by omega) ?_ ?_
                  · intro h54
                    refine n_lload_n c_198_39 rfl ?_
                    exact n_rJ c_198_40 rfl ⟨rfl, by omega, by show _ = M 127 0 + 2 * (M 127 1 + 2 * (M 127 2 + 2 * (M 127 3 + 2 * (M 127 4 + 2 * (M 127 5 + 2 * (M 127 6 + 2 * (M 127 7 + 2 * (0)))))))); omega⟩
                  · intro h55
                    exfalso; omega

set_option maxHeartbeats 4000000 in
theorem mquickX0_2_c {xs : List Int32} {e : Nat} {ac : Int} {M0 M : nM} {Ms : nM} (hS : Sf 2 ac M0 M) (hdm : M0 112 0 = 2) (hms : M = Ms) (hl2 : ∀ l : Int, 0 ≤ l → l < Ms 112 7 → 1 ≤ Ms 118 l) : ∀ nn : Nat, (∀ (x2 x3 : Int) (M : nM), Sf 2 ac M0 M → (0 ≤ x2 ∧ x2 ≤ 4095) → (0 ≤ x3 ∧ x3 ≤ 16) → (LMk x2 (Ms 112 11) (fun i => Ms 120 i)) → (FC 127 Ms M) → (∀ c : Int, 0 ≤ c → c < x3 → ¬ Gh 2 x2 Ms c) → (16 - x3) * 1 + 1 < (nn : Int) → nW xs (e + 4) 200 34 [some (2, 112), none, some (0, x2), some (0, x3)] [] M (nPJ fun z M1 => Sf 2 ac M0 M1 ∧ (-9223372036854775808 ≤ z ∧ z ≤ 9223372036854775807) ∧ (mQ 0 2 z 4 Ms))) := by
  have hd : (2 : Int) = 2 ∨ (2 : Int) = 3 := by decide
  have hac := hS.2.2.2.2
  have pc : pn 2 (2 * 2 : Int).toNat = 16 := by decide +kernel
  intro nn
  induction nn with
  | zero => intros; omega
  | succ nn ih =>
    intro x2 x3 M hS k2 k3 v0 v1 v2 hnn
    have pc2 : pn 2 (2 * 2 : Int).toNat = 16 := by decide +kernel
    refine n_iload_n c_200_34 rfl (n_aload_n c_200_35 rfl (n_getV (bi := 0) c_200_36 sc_112.n rfl rfl rfl (t_dm hS hdm) ?_))
    intro z1 ez1 f2
    obtain rfl : z1 = 2 := by omega
    refine n_aload_n c_200_39 rfl (n_iconst c_200_40 (n_v1I c_200_41 rfl sc_112.n rfl rfl rfl rfl (mrowsOf2_2  hS hdm) ?_))
    intro z3 M4 hP5
    obtain ⟨eM, f5⟩ := hP5
    subst eM
    obtain rfl : z3 = 4 := by omega
    refine n_s2I c_200_44 rfl rfl rfl rfl (mpower4_2  hS ) ?_
    intro z6 M7 hP8
    obtain ⟨eM, f8⟩ := hP8
    subst eM
    obtain rfl : z6 = 16 := by omega
    refine n_if2_ge c_200_47 (by omega) (by omega) ?_ ?_
    · intro h9
      refine n_ldc2 (n := (-7)) c_200_86 rfl ?_
      exact n_rJ c_200_89 rfl ⟨hS, by omega, by exact ⟨x2, v0, mHq.q_2 (Or.inl ⟨rfl, fun c c0 c1 => v2 c c0 (by omega)⟩)⟩⟩
    · intro h10
      refine n_aload_n c_200_50 rfl (n_iload_n c_200_51 rfl (n_i2l c_200_52 (by omega) ?_))
      refine n_aload_n c_200_53 rfl (n_iconst c_200_54 (n_v1I c_200_55 rfl sc_112.n rfl rfl rfl rfl (mrowsOf2_2  hS hdm) ?_))
      intro z11 M12 hP13
      obtain ⟨eM, f13⟩ := hP13
      subst eM
      obtain rfl : z11 = 4 := by omega
      refine n_v2V c_200_58 rfl sc_112.n rfl rfl rfl rfl (mlayX_2 (c := x3) (r := 4) (Ms := M) hS hdm (by omega) (by omega) (by rfl)) ?_
      intro  M14 hP15
      obtain ⟨hS14, f15p0, f15p1⟩ := hP15
      have lfr : FC 127 Ms M14 := fun a i ha => by rw [f15p1 a i ha]; exact v1 a i ha
      have la : ∀ r : Int, 0 ≤ r → r < 2 * 2 → M14 127 r = cdg 2 x3 r := fun r h0 h1 => f15p0 r h0 (by omega)
      refine n_aload_n c_200_61 rfl ?_
      refine n_v0I c_200_62 rfl sc_112.n rfl rfl rfl rfl (misHalfX_2  hS14 hdm (by exact fun i i0 i1 => by rw [la i i0 (by omega)]; unfold cdg; omega)) ?_
      intro z16 M17 hP18
      obtain ⟨eM, f18, f18p0⟩ := hP18
      subst eM
      have ihf : z16 = bb (HFm 2 (fun x => cdg 2 x3 x)) := by rw [f18p0]; exact bb_c (HFm_congr (by decide) la)
      refine n_if0_eq c_200_65 (by omega) ?_ ?_
      · intro h19
        refine n_iinc (L2 := [some (2, 112), none, some (0, x2), some (0, (x3 + 1))]) c_200_80 rfl rfl rfl (n_goto c_200_83 (n_fg (le_s (le_n (le_s (le_s le_0)))) ?_))
        exact ih _ _ M14 hS14 (by omega) (by omega) (by exact v0) (by exact lfr) (by exact fun c c0 c1 => by by_cases y : c = x3; (rw [y]; exact (fun y => (bb_z (by omega)) y.1)); exact v2 c c0 (by omega)) (by omega)
      · intro h20
        refine n_aload_n c_200_68 rfl (n_iconst c_200_69 (n_iload_n c_200_70 rfl ?_))
        refine n_v2I c_200_71 rfl sc_112.n rfl rfl rfl rfl (mhandKeepsX_2 (m := 2) (k := x2) hS14 hdm (by omega) (by omega) (by exact fun l l0 l1 => by rw [lfr 118 l (by omega)]; exact hl2 l l0 (by have y := lfr 112 7 (by omega); omega))) ?_
        intro z21 M22 hP23
        obtain ⟨eM, f23, f23p0⟩ := hP23
        subst eM
        have hk : z21 = bb (KMm 2 2 (fun x => cdg 2 x3 x) x2 Ms) := by rw [f23p0]; exact bb_c ((KMm.of (fun a i u => lfr a i (by omega))).trans (KMm_congr (by decide) (by decide) (fun i i0 i1 => la i i0 (by have y : pw 2 2 = 2 * 2 := (by decide); omega))))
        refine n_if0_eq c_200_74 (by omega) ?_ ?_
        · intro h24
          refine n_iinc (L2 := [some (2, 112), none, some (0, x2), some (0, (x3 + 1))]) c_200_80 rfl rfl rfl (n_goto c_200_83 (n_fg (le_s (le_n (le_s (le_s le_0)))) ?_))
          exact ih _ _ M14 hS14 (by omega) (by omega) (by exact v0) (by exact lfr) (by exact fun c c0 c1 => by by_cases y : c = x3; (rw [y]; exact (fun y => (bb_z (by omega)) y.2)); exact v2 c c0 (by omega)) (by omega)
        · intro h25
          refine n_iload_n c_200_77 rfl (n_i2l c_200_78 (by omega) ?_)
          exact n_rJ c_200_79 rfl ⟨hS14, by omega, by exact ⟨x2, v0, mHq.q_2 (Or.inr ⟨by omega, by omega, ⟨bb_n (by omega), bb_n (by omega)⟩, v2⟩)⟩⟩
set_option maxHeartbeats 4000000 in
theorem mquickX0_2 {xs : List Int32} {e : Nat} {ac : Int} {M0 M : nM} {Ms : nM} (hS : Sf 2 ac M0 M) (hdm : M0 112 0 = 2) (hms : M = Ms) (hl2 : ∀ l : Int, 0 ≤ l → l < Ms 112 7 → 1 ≤ Ms 118 l) : nW xs (e + 4) 200 0 [some (2, 112), some (0, 0), none, none] [] M (nPJ fun z M1 => Sf 2 ac M0 M1 ∧ (-9223372036854775808 ≤ z ∧ z ≤ 9223372036854775807) ∧ (mQ 0 2 z 4 Ms)) := by
  have hd : (2 : Int) = 2 ∨ (2 : Int) = 3 := by decide
  have hac := hS.2.2.2.2
  have pc : pn 2 (2 * 2 : Int).toNat = 16 := by decide +kernel
  refine n_aload_n c_200_0 rfl (n_v0I c_200_1 rfl sc_112.n rfl rfl rfl rfl (maskedX_2  hS hdm) ?_)
  intro z1 M2 hP3
  obtain ⟨eM, f3, f3p0⟩ := hP3
  subst eM
  have lm : LMk z1 (Ms 112 11) (fun i => Ms 120 i) := by have y := f3p0; rw [hms] at y; exact y
  refine n_istore_n (L2 := [some (2, 112), some (0, 0), some (0, z1), none]) c_200_4 rfl rfl (n_iload_n c_200_5 rfl ?_)
  refine n_sw c_200_6 (by omega) (by decide) ?_ ?_
  · intro h4
    refine n_pc (k2 := 219) rfl ?_
    exfalso; omega
  · intro h5 h5b
    refine ⟨_, rfl, by decide, ?_⟩
    refine n_pc (k2 := 32) rfl (n_iconst c_200_32 (n_istore_n (L2 := [some (2, 112), some (0, 0), some (0, z1), some (0, 0)]) c_200_33 rfl rfl (n_fg (le_s (le_n (le_s (le_s le_0)))) ?_)))
    exact (mquickX0_2_c hS hdm hms hl2 46) _ _ M hS (by omega) (by omega) (by exact lm) (by exact fun a i _ => by rw [hms]) (by exact fun c c0 c1 => by omega) (by omega)

set_option maxHeartbeats 4000000 in
theorem mquickX1_2_c {xs : List Int32} {e : Nat} {ac : Int} {M0 M : nM} {Ms : nM} (hS : Sf 2 ac M0 M) (hdm : M0 112 0 = 2) (hms : M = Ms) (hl2 : ∀ l : Int, 0 ≤ l → l < Ms 112 7 → 1 ≤ Ms 118 l) : ∀ nn : Nat, (∀ (x2 x3 : Int) (M : nM), Sf 2 ac M0 M → (0 ≤ x2 ∧ x2 ≤ 4095) → (0 ≤ x3 ∧ x3 ≤ 1) → (LMk x2 (Ms 112 11) (fun i => Ms 120 i)) → (FC 127 Ms M) → (∀ c : Int, 0 ≤ c → c < x3 → ¬ Gm 1 2 x2 Ms c) → (1 - x3) * 1 + 1 < (nn : Int) → nW xs (e + 4) 200 92 [some (2, 112), none, some (0, x2), some (0, x3)] [] M (nPJ fun z M1 => Sf 2 ac M0 M1 ∧ (-9223372036854775808 ≤ z ∧ z ≤ 9223372036854775807) ∧ (mQ 1 2 z 8 Ms))) := by
  have hd : (2 : Int) = 2 ∨ (2 : Int) = 3 := by decide
  have hac := hS.2.2.2.2
  have pk : pn 2 (kV 1 2 - 2).toNat = 1 := by decide
  intro nn
  induction nn with
  | zero => intros; omega
  | succ nn ih =>
    intro x2 x3 M hS k2 k3 v0 v1 v2 hnn
    have pk2 : pn 2 (kV 1 2 - 2).toNat = 1 := by decide
    refine n_iload_n c_200_92 rfl (n_aload_n c_200_93 rfl (n_getV (bi := 0) c_200_94 sc_112.n rfl rfl rfl (t_dm hS hdm) ?_))
    intro z1 ez1 f2
    obtain rfl : z1 = 2 := by omega
    refine n_iconst c_200_97 ?_
    refine n_if2_ne c_200_98 (by omega) (by omega) ?_ ?_
    · intro h3
      exfalso; omega
    · intro h4
      refine n_iconst c_200_101 (n_goto c_200_102 ?_)
      refine n_if2_ge c_200_108 (by omega) (by omega) ?_ ?_
      · intro h5
        refine n_ldc2 (n := (-7)) c_200_136 rfl ?_
        exact n_rJ c_200_139 rfl ⟨hS, by omega, by exact ⟨x2, v0, Or.inl ⟨rfl, fun c c0 c1 => v2 c c0 (by omega)⟩⟩⟩
      · intro h6
        refine n_aload_n c_200_111 rfl (n_iload_n c_200_112 rfl (n_v1V c_200_113 rfl sc_112.n rfl rfl rfl rfl (mlayMostX_2 (k := x3) (Ms := M) hS hdm (by omega) (by rfl)) ?_))
        intro  M7 hP8
        obtain ⟨hS7, f8p0, f8p1⟩ := hP8
        have lfr : FC 127 Ms M7 := fun a i ha => by rw [f8p1 a i ha]; exact v1 a i ha
        have la : ∀ r : Int, 0 ≤ r → r < 8 → M7 127 r = fq 1 2 x3 r := f8p0
        refine n_aload_n c_200_116 rfl (n_iconst c_200_117 (n_iload_n c_200_118 rfl ?_))
        refine n_v2I c_200_119 rfl sc_112.n rfl rfl rfl rfl (mhandKeepsX_2 (m := 3) (k := x2) hS7 hdm (by omega) (by omega) (by exact fun l l0 l1 => by rw [lfr 118 l (by omega)]; exact hl2 l l0 (by have y := lfr 112 7 (by omega); omega))) ?_
        intro z9 M10 hP11
        obtain ⟨eM, f11, f11p0⟩ := hP11
        subst eM
        have hk : z9 = bb (KMm 2 (km 1) (fq 1 2 x3) x2 Ms) := by rw [f11p0]; exact bb_c ((KMm.of (fun a i u => lfr a i (by omega))).trans (KMm_congr (by decide) (by decide) (fun i i0 i1 => la i i0 (by have y : pw 2 3 = 8 := (by decide); omega))))
        refine n_if0_eq c_200_122 (by omega) ?_ ?_
        · intro h12
          refine n_iinc (L2 := [some (2, 112), none, some (0, x2), some (0, (x3 + 1))]) c_200_130 rfl rfl rfl (n_goto c_200_133 (n_fg (le_s (le_n (le_s (le_s le_0)))) ?_))
          exact ih _ _ M7 hS7 (by omega) (by omega) (by exact v0) (by exact lfr) (by exact fun c c0 c1 => by by_cases y : c = x3; (rw [y]; exact fun y => (bb_z (by omega)) y.2); exact v2 c c0 (by omega)) (by omega)
        · intro h13
          refine n_aload_n c_200_125 rfl (n_v0J c_200_126 rfl sc_112.n rfl rfl rfl rfl (mhandCodeX_2  hS7 hdm) ?_)
          intro z14 M15 hP16
          obtain ⟨eM, f16, f16p0⟩ := hP16
          subst eM
          exact n_rJ c_200_129 rfl ⟨hS7, by omega, by exact ⟨x2, v0, Or.inr ⟨x3, by omega, by omega, ⟨fun u => by omega, bb_n (by omega)⟩, v2, by rw [f16p0]; exact cdN_congr 8 0 (fun i i0 i1 => la i i0 (by omega))⟩⟩⟩
set_option maxHeartbeats 4000000 in
theorem mquickX1_2 {xs : List Int32} {e : Nat} {ac : Int} {M0 M : nM} {Ms : nM} (hS : Sf 2 ac M0 M) (hdm : M0 112 0 = 2) (hms : M = Ms) (hl2 : ∀ l : Int, 0 ≤ l → l < Ms 112 7 → 1 ≤ Ms 118 l) : nW xs (e + 4) 200 0 [some (2, 112), some (0, 1), none, none] [] M (nPJ fun z M1 => Sf 2 ac M0 M1 ∧ (-9223372036854775808 ≤ z ∧ z ≤ 9223372036854775807) ∧ (mQ 1 2 z 8 Ms)) := by
  have hd : (2 : Int) = 2 ∨ (2 : Int) = 3 := by decide
  have hac := hS.2.2.2.2
  have pk : pn 2 (kV 1 2 - 2).toNat = 1 := by decide
  refine n_aload_n c_200_0 rfl (n_v0I c_200_1 rfl sc_112.n rfl rfl rfl rfl (maskedX_2  hS hdm) ?_)
  intro z1 M2 hP3
  obtain ⟨eM, f3, f3p0⟩ := hP3
  subst eM
  have lm : LMk z1 (Ms 112 11) (fun i => Ms 120 i) := by have y := f3p0; rw [hms] at y; exact y
  refine n_istore_n (L2 := [some (2, 112), some (0, 1), some (0, z1), none]) c_200_4 rfl rfl (n_iload_n c_200_5 rfl ?_)
  refine n_sw c_200_6 (by omega) (by decide) ?_ ?_
  · intro h4
    refine n_pc (k2 := 219) rfl ?_
    exfalso; omega
  · intro h5 h5b
    refine ⟨_, rfl, by decide, ?_⟩
    refine n_pc (k2 := 90) rfl (n_iconst c_200_90 (n_istore_n (L2 := [some (2, 112), some (0, 1), some (0, z1), some (0, 0)]) c_200_91 rfl rfl (n_fg (le_s (le_n (le_s (le_s le_0)))) ?_)))
    exact (mquickX1_2_c hS hdm hms hl2 16) _ _ M hS (by omega) (by omega) (by exact lm) (by exact fun a i _ => by rw [hms]) (by exact fun c c0 c1 => by omega) (by omega)

set_option maxHeartbeats 4000000 in
theorem mquickX2_2_c {xs : List Int32} {e : Nat} {ac : Int} {M0 M : nM} {Ms : nM} (hS : Sf 2 ac M0 M) (hdm : M0 112 0 = 2) (hms : M = Ms) (hl2 : ∀ l : Int, 0 ≤ l → l < Ms 112 7 → 1 ≤ Ms 118 l) : ∀ nn : Nat, (∀ (x2 x3 : Int) (M : nM), Sf 2 ac M0 M → (0 ≤ x2 ∧ x2 ≤ 4095) → (0 ≤ x3 ∧ x3 ≤ 8) → (LMk x2 (Ms 112 11) (fun i => Ms 120 i)) → (FC 127 Ms M) → (∀ r : Int, 0 ≤ r → r < x3 → M 127 r = tbl (kT 2 2) r) → (8 - x3) * 1 + 1 < (nn : Int) → nW xs (e + 4) 200 142 [some (2, 112), none, some (0, x2), some (0, x3)] [] M (nPJ fun z M1 => Sf 2 ac M0 M1 ∧ (-9223372036854775808 ≤ z ∧ z ≤ 9223372036854775807) ∧ (mQ 2 2 z 8 Ms))) := by
  have hd : (2 : Int) = 2 ∨ (2 : Int) = 3 := by decide
  have hac := hS.2.2.2.2
  have pk : pn 2 (kV 2 2 - 2).toNat = 1 := by decide
  intro nn
  induction nn with
  | zero => intros; omega
  | succ nn ih =>
    intro x2 x3 M hS k2 k3 v0 v1 v2 hnn
    refine n_iload_n c_200_142 rfl (n_aload_n c_200_143 rfl (n_getV (bi := 0) c_200_144 sc_112.n rfl rfl rfl (t_dm hS hdm) ?_))
    intro z1 ez1 f2
    obtain rfl : z1 = 2 := by omega
    refine n_iconst c_200_147 (n_s2I c_200_148 rfl rfl rfl rfl (mpower3_2  hS ) ?_)
    intro z3 M4 hP5
    obtain ⟨eM, f5⟩ := hP5
    subst eM
    obtain rfl : z3 = 8 := by omega
    refine n_if2_ge c_200_151 (by omega) (by omega) ?_ ?_
    · intro h6
      refine n_aload_n c_200_199 rfl (n_iconst c_200_200 (n_iload_n c_200_201 rfl ?_))
      refine n_v2I c_200_202 rfl sc_112.n rfl rfl rfl rfl (mhandKeepsX_2 (m := 3) (k := x2) hS hdm (by omega) (by omega) (by exact fun l l0 l1 => by rw [v1 118 l (by omega)]; exact hl2 l l0 (by have y := v1 112 7 (by omega); omega))) ?_
      intro z7 M8 hP9
      obtain ⟨eM, f9, f9p0⟩ := hP9
      subst eM
      have la : ∀ r : Int, 0 ≤ r → r < 8 → M 127 r = fq 2 2 0 r := fun r h0 h1 => by rw [fq_su (by decide) (by omega)]; exact v2 r h0 (by omega)
      have hk : z7 = bb (KMm 2 (km 2) (fq 2 2 0) x2 Ms) := by rw [f9p0]; exact bb_c ((KMm.of (fun a i u => v1 a i (by omega))).trans (KMm_congr (by decide) (by decide) (fun i i0 i1 => la i i0 (by have y : pw 2 3 = 8 := (by decide); omega))))
      refine n_if0_eq c_200_205 (by omega) ?_ ?_
      · intro h10
        refine n_ldc2 (n := (-7)) c_200_215 rfl ?_
        exact n_rJ c_200_218 rfl ⟨hS, by omega, by exact ⟨x2, v0, Or.inl ⟨rfl, fun k k0 k1 g => by rw [show pn 2 (kV 2 2 - 2).toNat = 1 by decide] at k1; have e : k = 0 := (by omega); rw [e] at g; exact (bb_z (by omega)) g.2⟩⟩⟩
      · intro h11
        refine n_aload_n c_200_208 rfl (n_v0J c_200_209 rfl sc_112.n rfl rfl rfl rfl (mhandCodeX_2  hS hdm) ?_)
        intro z12 M13 hP14
        obtain ⟨eM, f14, f14p0⟩ := hP14
        subst eM
        refine n_goto c_200_212 ?_
        exact n_rJ c_200_218 rfl ⟨hS, by omega, by exact ⟨x2, v0, Or.inr ⟨0, by omega, by rw [show pn 2 (kV 2 2 - 2).toNat = 1 by decide]; omega, ⟨fun u => by omega, bb_n (by omega)⟩, fun j j0 j1 => by omega, by rw [f14p0]; exact cdN_congr 8 0 (fun i i0 i1 => la i i0 (by omega))⟩⟩⟩
    · intro h15
      refine n_aload_n c_200_154 rfl (n_getR c_200_155 sc_112.n rfl rfl rfl r_112_19 (n_iload_n c_200_158 rfl (n_aload_n c_200_159 rfl (n_iload_n c_200_160 rfl (n_iconst c_200_161 (n_iconst c_200_162 (n_v3I c_200_163 rfl sc_112.n rfl rfl rfl rfl (mdigitX_2 (r := x3) (k := 3) (j := 0) hS hdm (by omega) (by omega) (by omega) (by omega)) ?_)))))))
      intro z16 M17 hP18
      obtain ⟨eM, f18, f18p0⟩ := hP18
      subst eM
      have kza : z16 = x3 / (2 * 2) := by rw [f18p0]; exact (dgt3 (d := 2) (by decide) (by omega)).1
      refine n_aload_n c_200_166 rfl (n_getV (bi := 0) c_200_167 sc_112.n rfl rfl rfl (t_dm hS hdm) ?_)
      intro z19 ez19 f20
      obtain rfl : z19 = 2 := by omega
      refine n_iadd c_200_170 rfl (n_aload_n c_200_171 rfl (n_iload_n c_200_172 rfl (n_iconst c_200_173 (n_iconst c_200_174 (n_v3I c_200_175 rfl sc_112.n rfl rfl rfl rfl (mdigitX_2 (r := x3) (k := 3) (j := 1) hS hdm (by omega) (by omega) (by omega) (by omega)) ?_)))))
      intro z21 M22 hP23
      obtain ⟨eM, f23, f23p0⟩ := hP23
      subst eM
      have kzb : z21 = x3 / 2 % 2 := by rw [f23p0]; exact (dgt3 (d := 2) (by decide) (by omega)).2.1
      refine n_isub c_200_178 rfl (n_aload_n c_200_179 rfl (n_iload_n c_200_180 rfl (n_iconst c_200_181 (n_iconst c_200_182 (n_v3I c_200_183 rfl sc_112.n rfl rfl rfl rfl (mdigitX_2 (r := x3) (k := 3) (j := 2) hS hdm (by omega) (by omega) (by omega) (by omega)) ?_)))))
      intro z24 M25 hP26
      obtain ⟨eM, f26, f26p0⟩ := hP26
      subst eM
      have kzc : z24 = x3 % 2 := by rw [f26p0]; exact (dgt3 (d := 2) (by decide) (by omega)).2.2
      have su := su_i (d := 2) (r := x3) (by decide) (by omega) kza kzb kzc
      refine n_iadd c_200_186 rfl (n_aload_n c_200_187 rfl (n_getV (bi := 0) c_200_188 sc_112.n rfl rfl rfl (t_dm hS hdm) ?_))
      intro z27 ez27 f28
      obtain rfl : z27 = 2 := by omega
      refine n_iremV c_200_191 (by omega) (by omega) ?_
      intro z29 ez29 f30
      have ks : z29 = tbl (kT 2 2) x3 := by rw [ez29]; exact su.2.symm
      refine n_iastoreV hS c_200_192 sc_127.n rfl (by omega) (w_127 (by omega) (by omega)) ?_
      intro M31 eM31 hS31
      refine n_iinc (L2 := [some (2, 112), none, some (0, x2), some (0, (x3 + 1))]) c_200_193 rfl rfl rfl (n_goto c_200_196 (n_fg (le_s (le_n (le_s (le_s le_0)))) ?_))
      exact ih _ _ M31 hS31 (by omega) (by omega) (by exact v0) (by exact fun a i ha => by rw [eM31, nu_a ha]; exact v1 a i ha) (by exact fun r h0 h1 => by rw [eM31, nu_e]; by_cases y : r = x3; (rw [if_pos ⟨rfl, y⟩, y]; exact ks); (rw [if_neg (fun q => y q.2)]; exact v2 r h0 (by omega))) (by omega)
set_option maxHeartbeats 4000000 in
theorem mquickX2_2 {xs : List Int32} {e : Nat} {ac : Int} {M0 M : nM} {Ms : nM} (hS : Sf 2 ac M0 M) (hdm : M0 112 0 = 2) (hms : M = Ms) (hl2 : ∀ l : Int, 0 ≤ l → l < Ms 112 7 → 1 ≤ Ms 118 l) : nW xs (e + 4) 200 0 [some (2, 112), some (0, 2), none, none] [] M (nPJ fun z M1 => Sf 2 ac M0 M1 ∧ (-9223372036854775808 ≤ z ∧ z ≤ 9223372036854775807) ∧ (mQ 2 2 z 8 Ms)) := by
  have hd : (2 : Int) = 2 ∨ (2 : Int) = 3 := by decide
  have hac := hS.2.2.2.2
  have pk : pn 2 (kV 2 2 - 2).toNat = 1 := by decide
  refine n_aload_n c_200_0 rfl (n_v0I c_200_1 rfl sc_112.n rfl rfl rfl rfl (maskedX_2  hS hdm) ?_)
  intro z1 M2 hP3
  obtain ⟨eM, f3, f3p0⟩ := hP3
  subst eM
  have lm : LMk z1 (Ms 112 11) (fun i => Ms 120 i) := by have y := f3p0; rw [hms] at y; exact y
  refine n_istore_n (L2 := [some (2, 112), some (0, 2), some (0, z1), none]) c_200_4 rfl rfl (n_iload_n c_200_5 rfl ?_)
  refine n_sw c_200_6 (by omega) (by decide) ?_ ?_
  · intro h4
    refine n_pc (k2 := 219) rfl ?_
    exfalso; omega
  · intro h5 h5b
    refine ⟨_, rfl, by decide, ?_⟩
    refine n_pc (k2 := 140) rfl (n_iconst c_200_140 (n_istore_n (L2 := [some (2, 112), some (0, 2), some (0, z1), some (0, 0)]) c_200_141 rfl rfl (n_fg (le_s (le_n (le_s (le_s le_0)))) ?_)))
    exact (mquickX2_2_c hS hdm hms hl2 30) _ _ M hS (by omega) (by omega) (by exact lm) (by exact fun a i _ => by rw [hms]) (by exact fun r h0 h1 => by omega) (by omega)

set_option maxHeartbeats 4000000 in
theorem mquickXL_2 {xs : List Int32} {e : Nat} {ac : Int} {M0 M : nM} {k : Int} (hS : Sf 2 ac M0 M) (hdm : M0 112 0 = 2) (hk : -2147483648 ≤ k ∧ k ≤ -1) : nW xs (e + 4) 200 0 [some (2, 112), some (0, k), none, none] [] M (nPJ fun z M1 => M = M1 ∧ (-1 ≤ z ∧ z ≤ -1)) := by
  have hd : (2 : Int) = 2 ∨ (2 : Int) = 3 := by decide
  have hac := hS.2.2.2.2
  refine n_aload_n c_200_0 rfl (n_v0I c_200_1 rfl sc_112.n rfl rfl rfl rfl (masked_2  hS hdm) ?_)
  intro z1 M2 hP3
  obtain ⟨eM, f3⟩ := hP3
  subst eM
  refine n_istore_n (L2 := [some (2, 112), some (0, k), some (0, z1), none]) c_200_4 rfl rfl (n_iload_n c_200_5 rfl ?_)
  refine n_sw c_200_6 (by omega) (by decide) ?_ ?_
  · intro h4
    refine n_pc (k2 := 219) rfl (n_ldc2 (n := (-1)) c_200_219 rfl ?_)
    exact n_rJ c_200_222 rfl ⟨rfl, by omega⟩
  · intro h5 h5b
    rcases (show k = 0 ∨ k = 1 ∨ k = 2 by omega) with h5c | h5c | h5c
    · refine ⟨_, by rw [h5c]; rfl, by decide, ?_⟩
      refine n_pc (k2 := 32) rfl ?_
      exfalso; omega
    · refine ⟨_, by rw [h5c]; rfl, by decide, ?_⟩
      refine n_pc (k2 := 90) rfl ?_
      exfalso; omega
    · refine ⟨_, by rw [h5c]; rfl, by decide, ?_⟩
      refine n_pc (k2 := 140) rfl ?_
      exfalso; omega

set_option maxHeartbeats 4000000 in
theorem mquickXH_2 {xs : List Int32} {e : Nat} {ac : Int} {M0 M : nM} {k : Int} (hS : Sf 2 ac M0 M) (hdm : M0 112 0 = 2) (hk : 3 ≤ k ∧ k ≤ 2147483647) : nW xs (e + 4) 200 0 [some (2, 112), some (0, k), none, none] [] M (nPJ fun z M1 => M = M1 ∧ (-1 ≤ z ∧ z ≤ -1)) := by
  have hd : (2 : Int) = 2 ∨ (2 : Int) = 3 := by decide
  have hac := hS.2.2.2.2
  refine n_aload_n c_200_0 rfl (n_v0I c_200_1 rfl sc_112.n rfl rfl rfl rfl (masked_2  hS hdm) ?_)
  intro z1 M2 hP3
  obtain ⟨eM, f3⟩ := hP3
  subst eM
  refine n_istore_n (L2 := [some (2, 112), some (0, k), some (0, z1), none]) c_200_4 rfl rfl (n_iload_n c_200_5 rfl ?_)
  refine n_sw c_200_6 (by omega) (by decide) ?_ ?_
  · intro h4
    refine n_pc (k2 := 219) rfl (n_ldc2 (n := (-1)) c_200_219 rfl ?_)
    exact n_rJ c_200_222 rfl ⟨rfl, by omega⟩
  · intro h5 h5b
    rcases (show k = 0 ∨ k = 1 ∨ k = 2 by omega) with h5c | h5c | h5c
    · refine ⟨_, by rw [h5c]; rfl, by decide, ?_⟩
      refine n_pc (k2 := 32) rfl ?_
      exfalso; omega
    · refine ⟨_, by rw [h5c]; rfl, by decide, ?_⟩
      refine n_pc (k2 := 90) rfl ?_
      exfalso; omega
    · refine ⟨_, by rw [h5c]; rfl, by decide, ?_⟩
      refine n_pc (k2 := 140) rfl ?_
      exfalso; omega
