/-! The methods, by program. -/
set_option maxHeartbeats 4000000 in
theorem mlawL_3_c {xs : List Int32} {e : Nat} {ac : Int} {M0 M : nM} {k s : Int} (hS : Sf 3 ac M0 M) (hdm : M0 112 0 = 3) (hk : -2147483648 ≤ k ∧ k ≤ 0) (hs : -2147483648 ≤ s ∧ s ≤ 2147483647) : ∀ nn : Nat, (1 < (nn : Int) → nW xs (e + 1) 149 17 [none, none, none, none, none, none, none, none, none, none, none, none] [] M (nPI fun z M1 => M = M1 ∧ (-2147483648 ≤ z ∧ z ≤ 2147483647))) := by
  have hd : (3 : Int) = 2 ∨ (3 : Int) = 3 := by decide
  have hac := hS.2.2.2.2
  intro nn
  induction nn with
  | zero => intros; omega
  | succ nn ih =>
    intro hnn
    refine n_bipush c_149_17 rfl ?_
    exact n_rI c_149_19 rfl ⟨rfl, by omega⟩
set_option maxHeartbeats 4000000 in
theorem mlawL_3 {xs : List Int32} {e : Nat} {ac : Int} {M0 M : nM} {k s : Int} (hS : Sf 3 ac M0 M) (hdm : M0 112 0 = 3) (hk : -2147483648 ≤ k ∧ k ≤ 0) (hs : -2147483648 ≤ s ∧ s ≤ 2147483647) : nW xs (e + 1) 149 0 [some (2, 112), some (0, k), some (0, s), none, none, none, none, none, none, none, none, none] [] M (nPI fun z M1 => M = M1 ∧ (-2147483648 ≤ z ∧ z ≤ 2147483647)) := by
  have hd : (3 : Int) = 2 ∨ (3 : Int) = 3 := by decide
  have hac := hS.2.2.2.2
  refine n_iload_n c_149_0 rfl ?_
  refine n_s1I c_149_1 rfl rfl rfl rfl (misSlot_3 (s := s) hS (by omega)) ?_
  intro z1 M2 hP3
  obtain ⟨eM, f3, f3p0⟩ := hP3
  subst eM
  refine n_if0_eq c_149_4 (by omega) ?_ ?_
  · intro h4
    refine n_fg (le_n (le_n (le_n (le_n (le_n (le_n (le_n (le_n (le_n (le_n (le_n (le_n le_0)))))))))))) ?_
    exact (mlawL_3_c hS hdm hk hs 12)   (by omega)
  · intro h5
    refine n_iload_n c_149_7 rfl ?_
    refine n_iconst c_149_8 ?_
    refine n_if2_lt c_149_9 (by omega) (by omega) ?_ ?_
    · intro h6
      refine n_fg (le_n (le_n (le_n (le_n (le_n (le_n (le_n (le_n (le_n (le_n (le_n (le_n le_0)))))))))))) ?_
      exact (mlawL_3_c hS hdm hk hs 12)   (by omega)
    · intro h7
      exfalso; omega

set_option maxHeartbeats 4000000 in
theorem mlawH_3_c {xs : List Int32} {e : Nat} {ac : Int} {M0 M : nM} {k s : Int} (hS : Sf 3 ac M0 M) (hdm : M0 112 0 = 3) (hk : 4 ≤ k ∧ k ≤ 2147483647) (hs : -2147483648 ≤ s ∧ s ≤ 2147483647) : ∀ nn : Nat, (1 < (nn : Int) → nW xs (e + 1) 149 17 [none, none, none, none, none, none, none, none, none, none, none, none] [] M (nPI fun z M1 => M = M1 ∧ (-2147483648 ≤ z ∧ z ≤ 2147483647))) := by
  have hd : (3 : Int) = 2 ∨ (3 : Int) = 3 := by decide
  have hac := hS.2.2.2.2
  intro nn
  induction nn with
  | zero => intros; omega
  | succ nn ih =>
    intro hnn
    refine n_bipush c_149_17 rfl ?_
    exact n_rI c_149_19 rfl ⟨rfl, by omega⟩
set_option maxHeartbeats 4000000 in
theorem mlawH_3 {xs : List Int32} {e : Nat} {ac : Int} {M0 M : nM} {k s : Int} (hS : Sf 3 ac M0 M) (hdm : M0 112 0 = 3) (hk : 4 ≤ k ∧ k ≤ 2147483647) (hs : -2147483648 ≤ s ∧ s ≤ 2147483647) : nW xs (e + 1) 149 0 [some (2, 112), some (0, k), some (0, s), none, none, none, none, none, none, none, none, none] [] M (nPI fun z M1 => M = M1 ∧ (-2147483648 ≤ z ∧ z ≤ 2147483647)) := by
  have hd : (3 : Int) = 2 ∨ (3 : Int) = 3 := by decide
  have hac := hS.2.2.2.2
  refine n_iload_n c_149_0 rfl ?_
  refine n_s1I c_149_1 rfl rfl rfl rfl (misSlot_3 (s := s) hS (by omega)) ?_
  intro z1 M2 hP3
  obtain ⟨eM, f3, f3p0⟩ := hP3
  subst eM
  refine n_if0_eq c_149_4 (by omega) ?_ ?_
  · intro h4
    refine n_fg (le_n (le_n (le_n (le_n (le_n (le_n (le_n (le_n (le_n (le_n (le_n (le_n le_0)))))))))))) ?_
    exact (mlawH_3_c hS hdm hk hs 12)   (by omega)
  · intro h5
    refine n_iload_n c_149_7 rfl ?_
    refine n_iconst c_149_8 ?_
    refine n_if2_lt c_149_9 (by omega) (by omega) ?_ ?_
    · intro h6
      exfalso; omega
    · intro h7
      refine n_iload_n c_149_12 rfl ?_
      refine n_iconst c_149_13 ?_
      refine n_if2_le c_149_14 (by omega) (by omega) ?_ ?_
      · intro h8
        exfalso; omega
      · intro h9
        refine n_fg (le_n (le_n (le_n (le_n (le_n (le_n (le_n (le_n (le_n (le_n (le_n (le_n le_0)))))))))))) ?_
        exact (mlawH_3_c hS hdm hk hs 12)   (by omega)

set_option maxHeartbeats 4000000 in
theorem misUnknownX_3_c {xs : List Int32} {e : Nat} {ac : Int} {M0 M : nM} {u : Int} (hS : Sf 3 ac M0 M) (hdm : M0 112 0 = 3) (hu : -2147483648 ≤ u ∧ u ≤ 2147483647) : ∀ nn : Nat, (1 < (nn : Int) → nW xs e 188 16 [none, none] [] M (nPI fun z M1 => M = M1 ∧ (0 ≤ z ∧ z ≤ 1) ∧ (z = 0 ∨ (0 ≤ u ∧ u < M 112 10)))) := by
  have hd : (3 : Int) = 2 ∨ (3 : Int) = 3 := by decide
  have hac := hS.2.2.2.2
  intro nn
  induction nn with
  | zero => intros; omega
  | succ nn ih =>
    intro hnn
    refine n_iconst c_188_16 ?_
    exact n_rZ c_188_17 rfl (by omega) ⟨rfl, by omega, by omega⟩
set_option maxHeartbeats 4000000 in
theorem misUnknownX_3 {xs : List Int32} {e : Nat} {ac : Int} {M0 M : nM} {u : Int} (hS : Sf 3 ac M0 M) (hdm : M0 112 0 = 3) (hu : -2147483648 ≤ u ∧ u ≤ 2147483647) : nW xs e 188 0 [some (2, 112), some (0, u)] [] M (nPI fun z M1 => M = M1 ∧ (0 ≤ z ∧ z ≤ 1) ∧ (z = 0 ∨ (0 ≤ u ∧ u < M 112 10))) := by
  have hd : (3 : Int) = 2 ∨ (3 : Int) = 3 := by decide
  have hac := hS.2.2.2.2
  refine n_iload_n c_188_0 rfl ?_
  refine n_if0_lt c_188_1 (by omega) ?_ ?_
  · intro h1
    refine n_fg (le_n (le_n le_0)) ?_
    exact (misUnknownX_3_c hS hdm hu 12)   (by omega)
  · intro h2
    refine n_iload_n c_188_4 rfl ?_
    refine n_aload_n c_188_5 rfl ?_
    refine n_getV (bi := 10) c_188_6 sc_112.n rfl rfl rfl (t_112_10 hS) ?_
    intro z3 ez3 f4
    refine n_if2_ge c_188_9 (by omega) (by omega) ?_ ?_
    · intro h5
      refine n_fg (le_n (le_n le_0)) ?_
      exact (misUnknownX_3_c hS hdm hu 12)   (by omega)
    · intro h6
      refine n_iconst c_188_12 ?_
      refine n_goto c_188_13 ?_
      exact n_rZ c_188_17 rfl (by omega) ⟨rfl, by omega, by omega⟩

set_option maxHeartbeats 4000000 in
theorem mask_3 {xs : List Int32} {e : Nat} {ac : Int} {M : nM} {l x y w gd : Int} (hS : Sf 3 ac M M) (hdm : M 112 0 = 3) (hl : -2147483648 ≤ l ∧ l ≤ 2147483647) (hx : -2147483648 ≤ x ∧ x ≤ 2147483647) (hy : -2147483648 ≤ y ∧ y ≤ 2147483647) (hw : -2147483648 ≤ w ∧ w ≤ 2147483647) (hgd : M 112 0 = gd) : nW xs (e + 1) 189 0 [some (2, 112), some (0, l), some (0, x), some (0, y), some (0, w)] [] M (nPI fun z M1 => Sf 3 ac M1 M1 ∧ (-2147483648 ≤ z ∧ z ≤ 2147483647) ∧ (M1 112 0 = gd)) := by
  have hd : (3 : Int) = 2 ∨ (3 : Int) = 3 := by decide
  have hac := hS.2.2.2.2
  refine n_iload_n c_189_0 rfl ?_
  refine n_if0_lt c_189_1 (by omega) ?_ ?_
  · intro h1
    refine n_bipush c_189_57 rfl ?_
    exact n_rI c_189_59 rfl ⟨hS, by omega, by omega⟩
  · intro h2
    refine n_iload_n c_189_4 rfl ?_
    refine n_aload_n c_189_5 rfl ?_
    refine n_getV (bi := 7) c_189_6 sc_112.n rfl rfl rfl (t_112_7 hS) ?_
    intro z3 ez3 f4
    refine n_if2_ge c_189_9 (by omega) (by omega) ?_ ?_
    · intro h5
      refine n_bipush c_189_57 rfl ?_
      exact n_rI c_189_59 rfl ⟨hS, by omega, by omega⟩
    · intro h6
      refine n_aload_n c_189_12 rfl ?_
      refine n_iload_n c_189_13 rfl ?_
      refine n_v1I c_189_14 rfl sc_112.n rfl rfl rfl rfl (misUnknownX_3 (u := x) hS (by omega) (by omega)) ?_
      intro z7 M8 hP9
      obtain ⟨eM, f9, f9p0⟩ := hP9
      subst eM
      refine n_if0_eq c_189_17 (by omega) ?_ ?_
      · intro h10
        refine n_bipush c_189_57 rfl ?_
        exact n_rI c_189_59 rfl ⟨hS, by omega, by omega⟩
      · intro h11
        refine n_aload_n c_189_20 rfl ?_
        refine n_getR c_189_21 sc_112.n rfl rfl rfl r_112_8 ?_
        refine n_iload_n c_189_24 rfl ?_
        refine n_ialoadV c_189_25 sc_118.n rfl rfl rfl (by omega) (t_118 hS (by omega)) ?_
        intro z12 ez12 f13
        refine n_iconst c_189_26 ?_
        refine n_if2_le c_189_27 (by omega) (by omega) ?_ ?_
        · intro h14
          refine n_aload_n c_189_38 rfl ?_
          refine n_getR c_189_39 sc_112.n rfl rfl rfl r_112_8 ?_
          refine n_iload_n c_189_42 rfl ?_
          refine n_ialoadV c_189_43 sc_118.n rfl rfl rfl (by omega) (t_118 hS (by omega)) ?_
          intro z15 ez15 f16
          refine n_iconst c_189_44 ?_
          refine n_if2_le c_189_45 (by omega) (by omega) ?_ ?_
          · intro h17
            refine n_aload_n c_189_60 rfl ?_
            refine n_getV (bi := 11) c_189_61 sc_112.n rfl rfl rfl (t_112_11 hS) ?_
            intro z18 ez18 f19
            refine n_bipush c_189_64 rfl ?_
            refine n_if2_ne c_189_66 (by omega) (by omega) ?_ ?_
            · intro h20
              refine n_aload_n c_189_72 rfl ?_
              refine n_getR c_189_73 sc_112.n rfl rfl rfl r_112_12 ?_
              refine n_aload_n c_189_76 rfl ?_
              refine n_getV (bi := 11) c_189_77 sc_112.n rfl rfl rfl (t_112_11 hS) ?_
              intro z21 ez21 f22
              obtain rfl : z18 = z21 := by omega
              refine n_iload_n c_189_80 rfl ?_
              refine n_iastoreG c_189_81 sc_120.n rfl (by omega) (hS.w120 (by omega) (by omega)) ?_
              intro M23 eM23 hS23
              have g23_0 : M23 112 0 = M 112 0 := by rw [eM23]; exact nu_a (by omega)
              have g23_1 : M23 112 11 = M 112 11 := by rw [eM23]; exact nu_a (by omega)
              have g23_2 : M23 112 7 = M 112 7 := by rw [eM23]; exact nu_a (by omega)
              have g23_3 : M23 112 10 = M 112 10 := by rw [eM23]; exact nu_a (by omega)
              have g23_4 : M23 118 l = M 118 l := by rw [eM23]; exact nu_a (by omega)
              have g23_5 : M23 120 z18 = l := by rw [eM23]; exact nu_s _ _ _ _
              refine n_aload_n c_189_82 rfl ?_
              refine n_getR c_189_83 sc_112.n rfl rfl rfl r_112_13 ?_
              refine n_iconst c_189_86 ?_
              refine n_aload_n c_189_87 rfl ?_
              refine n_getV (bi := 11) c_189_88 sc_112.n rfl rfl rfl (t_112_11 hS23) ?_
              intro z24 ez24 f25
              obtain rfl : z18 = z24 := by omega
              refine n_imul c_189_91 rfl ?_
              refine n_iload_n c_189_92 rfl ?_
              refine n_iastoreG c_189_93 sc_121.n rfl (by omega) (hS23.w121 (by omega) (by omega)) ?_
              intro M26 eM26 hS26
              have g26_0 : M26 112 0 = M23 112 0 := by rw [eM26]; exact nu_a (by omega)
              have g26_1 : M26 112 11 = M23 112 11 := by rw [eM26]; exact nu_a (by omega)
              have g26_2 : M26 112 7 = M23 112 7 := by rw [eM26]; exact nu_a (by omega)
              have g26_3 : M26 112 10 = M23 112 10 := by rw [eM26]; exact nu_a (by omega)
              have g26_4 : M26 118 l = M23 118 l := by rw [eM26]; exact nu_a (by omega)
              have g26_5 : M26 120 z18 = M23 120 z18 := by rw [eM26]; exact nu_a (by omega)
              have g26_6 : M26 121 (3 * z18) = x := by rw [eM26]; exact nu_s _ _ _ _
              refine n_aload_n c_189_94 rfl ?_
              refine n_getR c_189_95 sc_112.n rfl rfl rfl r_112_13 ?_
              refine n_iconst c_189_98 ?_
              refine n_aload_n c_189_99 rfl ?_
              refine n_getV (bi := 11) c_189_100 sc_112.n rfl rfl rfl (t_112_11 hS26) ?_
              intro z27 ez27 f28
              obtain rfl : z18 = z27 := by omega
              refine n_imul c_189_103 rfl ?_
              refine n_iconst c_189_104 ?_
              refine n_iadd c_189_105 rfl ?_
              refine n_iload_n c_189_106 rfl ?_
              refine n_iastoreG c_189_107 sc_121.n rfl (by omega) (hS26.w121 (by omega) (by omega)) ?_
              intro M29 eM29 hS29
              have g29_0 : M29 112 0 = M26 112 0 := by rw [eM29]; exact nu_a (by omega)
              have g29_1 : M29 112 11 = M26 112 11 := by rw [eM29]; exact nu_a (by omega)
              have g29_2 : M29 112 7 = M26 112 7 := by rw [eM29]; exact nu_a (by omega)
              have g29_3 : M29 112 10 = M26 112 10 := by rw [eM29]; exact nu_a (by omega)
              have g29_4 : M29 118 l = M26 118 l := by rw [eM29]; exact nu_a (by omega)
              have g29_5 : M29 120 z18 = M26 120 z18 := by rw [eM29]; exact nu_a (by omega)
              have g29_6 : M29 121 (3 * z18) = M26 121 (3 * z18) := by rw [eM29]; exact nu_i (by omega)
              have g29_7 : M29 121 ((3 * z18) + 1) = y := by rw [eM29]; exact nu_s _ _ _ _
              refine n_aload_n c_189_108 rfl ?_
              refine n_getR c_189_109 sc_112.n rfl rfl rfl r_112_13 ?_
              refine n_iconst c_189_112 ?_
              refine n_aload_n c_189_113 rfl ?_
              refine n_getV (bi := 11) c_189_114 sc_112.n rfl rfl rfl (t_112_11 hS29) ?_
              intro z30 ez30 f31
              obtain rfl : z18 = z30 := by omega
              refine n_imul c_189_117 rfl ?_
              refine n_iconst c_189_118 ?_
              refine n_iadd c_189_119 rfl ?_
              refine n_iload c_189_120 rfl ?_
              refine n_iastoreG c_189_122 sc_121.n rfl (by omega) (hS29.w121 (by omega) (by omega)) ?_
              intro M32 eM32 hS32
              have g32_0 : M32 112 0 = M29 112 0 := by rw [eM32]; exact nu_a (by omega)
              have g32_1 : M32 112 11 = M29 112 11 := by rw [eM32]; exact nu_a (by omega)
              have g32_2 : M32 112 7 = M29 112 7 := by rw [eM32]; exact nu_a (by omega)
              have g32_3 : M32 112 10 = M29 112 10 := by rw [eM32]; exact nu_a (by omega)
              have g32_4 : M32 118 l = M29 118 l := by rw [eM32]; exact nu_a (by omega)
              have g32_5 : M32 120 z18 = M29 120 z18 := by rw [eM32]; exact nu_a (by omega)
              have g32_6 : M32 121 (3 * z18) = M29 121 (3 * z18) := by rw [eM32]; exact nu_i (by omega)
              have g32_7 : M32 121 ((3 * z18) + 1) = M29 121 ((3 * z18) + 1) := by rw [eM32]; exact nu_i (by omega)
              have g32_8 : M32 121 ((3 * z18) + 2) = w := by rw [eM32]; exact nu_s _ _ _ _
              refine n_aload_n c_189_123 rfl ?_
              refine n_dup2 c_189_124 ?_
              refine n_getV (bi := 11) c_189_125 sc_112.n rfl rfl rfl (t_112_11 hS32) ?_
              intro z33 ez33 f34
              obtain rfl : z18 = z33 := by omega
              refine n_iconst c_189_128 ?_
              refine n_iadd c_189_129 rfl ?_
              refine n_putG (P := fun M2 => Sf 3 ac M2 M2) (bi := 11) c_189_130 sc_112.n rfl rfl rfl rfl (hS32.w112_11 (q := z18) (l := l) (by omega) (by omega) (by omega) (by omega) (fun j b1 b2 => by
                have t118 := t_118 hS32 (i := l) (by omega)
                rcases (show j = 0 ∨ j = 1 ∨ j = 2 by omega) with rfl | rfl | rfl
                · rw [show 3 * z18 + 0 = 3 * z18 by omega]; omega
                · omega
                · omega)) ?_
              intro M35 eM35 hS35
              have hgz : M35 112 0 = M32 112 0 := by rw [eM35]; exact nu_i (by omega)
              refine n_aload_n c_189_133 rfl ?_
              refine n_getV (bi := 11) c_189_134 sc_112.n rfl rfl rfl (t_112_11 hS35) ?_
              intro z36 ez36 f37
              refine n_iconst c_189_137 ?_
              refine n_isub c_189_138 rfl ?_
              exact n_rI c_189_139 rfl ⟨hS35, by omega, by omega⟩
            · intro h38
              refine n_bipush c_189_69 rfl ?_
              exact n_rI c_189_71 rfl ⟨hS, by omega, by omega⟩
          · intro h39
            exfalso; omega
        · intro h40
          refine n_aload_n c_189_30 rfl ?_
          refine n_iload_n c_189_31 rfl ?_
          refine n_v1I c_189_32 rfl sc_112.n rfl rfl rfl rfl (misUnknownX_3 (u := y) hS (by omega) (by omega)) ?_
          intro z41 M42 hP43
          obtain ⟨eM, f43, f43p0⟩ := hP43
          subst eM
          refine n_if0_eq c_189_35 (by omega) ?_ ?_
          · intro h44
            refine n_bipush c_189_57 rfl ?_
            exact n_rI c_189_59 rfl ⟨hS, by omega, by omega⟩
          · intro h45
            refine n_aload_n c_189_38 rfl ?_
            refine n_getR c_189_39 sc_112.n rfl rfl rfl r_112_8 ?_
            refine n_iload_n c_189_42 rfl ?_
            refine n_ialoadV c_189_43 sc_118.n rfl rfl rfl (by omega) (t_118 hS (by omega)) ?_
            intro z46 ez46 f47
            refine n_iconst c_189_44 ?_
            refine n_if2_le c_189_45 (by omega) (by omega) ?_ ?_
            · intro h48
              refine n_aload_n c_189_60 rfl ?_
              refine n_getV (bi := 11) c_189_61 sc_112.n rfl rfl rfl (t_112_11 hS) ?_
              intro z49 ez49 f50
              refine n_bipush c_189_64 rfl ?_
              refine n_if2_ne c_189_66 (by omega) (by omega) ?_ ?_
              · intro h51
                refine n_aload_n c_189_72 rfl ?_
                refine n_getR c_189_73 sc_112.n rfl rfl rfl r_112_12 ?_
                refine n_aload_n c_189_76 rfl ?_
                refine n_getV (bi := 11) c_189_77 sc_112.n rfl rfl rfl (t_112_11 hS) ?_
                intro z52 ez52 f53
                obtain rfl : z49 = z52 := by omega
                refine n_iload_n c_189_80 rfl ?_
                refine n_iastoreG c_189_81 sc_120.n rfl (by omega) (hS.w120 (by omega) (by omega)) ?_
                intro M54 eM54 hS54
                have g54_0 : M54 112 0 = M 112 0 := by rw [eM54]; exact nu_a (by omega)
                have g54_1 : M54 112 11 = M 112 11 := by rw [eM54]; exact nu_a (by omega)
                have g54_2 : M54 112 7 = M 112 7 := by rw [eM54]; exact nu_a (by omega)
                have g54_3 : M54 112 10 = M 112 10 := by rw [eM54]; exact nu_a (by omega)
                have g54_4 : M54 118 l = M 118 l := by rw [eM54]; exact nu_a (by omega)
                have g54_5 : M54 120 z49 = l := by rw [eM54]; exact nu_s _ _ _ _
                refine n_aload_n c_189_82 rfl ?_
                refine n_getR c_189_83 sc_112.n rfl rfl rfl r_112_13 ?_
                refine n_iconst c_189_86 ?_
                refine n_aload_n c_189_87 rfl ?_
                refine n_getV (bi := 11) c_189_88 sc_112.n rfl rfl rfl (t_112_11 hS54) ?_
                intro z55 ez55 f56
                obtain rfl : z49 = z55 := by omega
                refine n_imul c_189_91 rfl ?_
                refine n_iload_n c_189_92 rfl ?_
                refine n_iastoreG c_189_93 sc_121.n rfl (by omega) (hS54.w121 (by omega) (by omega)) ?_
                intro M57 eM57 hS57
                have g57_0 : M57 112 0 = M54 112 0 := by rw [eM57]; exact nu_a (by omega)
                have g57_1 : M57 112 11 = M54 112 11 := by rw [eM57]; exact nu_a (by omega)
                have g57_2 : M57 112 7 = M54 112 7 := by rw [eM57]; exact nu_a (by omega)
                have g57_3 : M57 112 10 = M54 112 10 := by rw [eM57]; exact nu_a (by omega)
                have g57_4 : M57 118 l = M54 118 l := by rw [eM57]; exact nu_a (by omega)
                have g57_5 : M57 120 z49 = M54 120 z49 := by rw [eM57]; exact nu_a (by omega)
                have g57_6 : M57 121 (3 * z49) = x := by rw [eM57]; exact nu_s _ _ _ _
                refine n_aload_n c_189_94 rfl ?_
                refine n_getR c_189_95 sc_112.n rfl rfl rfl r_112_13 ?_
                refine n_iconst c_189_98 ?_
                refine n_aload_n c_189_99 rfl ?_
                refine n_getV (bi := 11) c_189_100 sc_112.n rfl rfl rfl (t_112_11 hS57) ?_
                intro z58 ez58 f59
                obtain rfl : z49 = z58 := by omega
                refine n_imul c_189_103 rfl ?_
                refine n_iconst c_189_104 ?_
                refine n_iadd c_189_105 rfl ?_
                refine n_iload_n c_189_106 rfl ?_
                refine n_iastoreG c_189_107 sc_121.n rfl (by omega) (hS57.w121 (by omega) (by omega)) ?_
                intro M60 eM60 hS60
                have g60_0 : M60 112 0 = M57 112 0 := by rw [eM60]; exact nu_a (by omega)
                have g60_1 : M60 112 11 = M57 112 11 := by rw [eM60]; exact nu_a (by omega)
                have g60_2 : M60 112 7 = M57 112 7 := by rw [eM60]; exact nu_a (by omega)
                have g60_3 : M60 112 10 = M57 112 10 := by rw [eM60]; exact nu_a (by omega)
                have g60_4 : M60 118 l = M57 118 l := by rw [eM60]; exact nu_a (by omega)
                have g60_5 : M60 120 z49 = M57 120 z49 := by rw [eM60]; exact nu_a (by omega)
                have g60_6 : M60 121 (3 * z49) = M57 121 (3 * z49) := by rw [eM60]; exact nu_i (by omega)
                have g60_7 : M60 121 ((3 * z49) + 1) = y := by rw [eM60]; exact nu_s _ _ _ _
                refine n_aload_n c_189_108 rfl ?_
                refine n_getR c_189_109 sc_112.n rfl rfl rfl r_112_13 ?_
                refine n_iconst c_189_112 ?_
                refine n_aload_n c_189_113 rfl ?_
                refine n_getV (bi := 11) c_189_114 sc_112.n rfl rfl rfl (t_112_11 hS60) ?_
                intro z61 ez61 f62
                obtain rfl : z49 = z61 := by omega
                refine n_imul c_189_117 rfl ?_
                refine n_iconst c_189_118 ?_
                refine n_iadd c_189_119 rfl ?_
                refine n_iload c_189_120 rfl ?_
                refine n_iastoreG c_189_122 sc_121.n rfl (by omega) (hS60.w121 (by omega) (by omega)) ?_
                intro M63 eM63 hS63
                have g63_0 : M63 112 0 = M60 112 0 := by rw [eM63]; exact nu_a (by omega)
                have g63_1 : M63 112 11 = M60 112 11 := by rw [eM63]; exact nu_a (by omega)
                have g63_2 : M63 112 7 = M60 112 7 := by rw [eM63]; exact nu_a (by omega)
                have g63_3 : M63 112 10 = M60 112 10 := by rw [eM63]; exact nu_a (by omega)
                have g63_4 : M63 118 l = M60 118 l := by rw [eM63]; exact nu_a (by omega)
                have g63_5 : M63 120 z49 = M60 120 z49 := by rw [eM63]; exact nu_a (by omega)
                have g63_6 : M63 121 (3 * z49) = M60 121 (3 * z49) := by rw [eM63]; exact nu_i (by omega)
                have g63_7 : M63 121 ((3 * z49) + 1) = M60 121 ((3 * z49) + 1) := by rw [eM63]; exact nu_i (by omega)
                have g63_8 : M63 121 ((3 * z49) + 2) = w := by rw [eM63]; exact nu_s _ _ _ _
                refine n_aload_n c_189_123 rfl ?_
                refine n_dup2 c_189_124 ?_
                refine n_getV (bi := 11) c_189_125 sc_112.n rfl rfl rfl (t_112_11 hS63) ?_
                intro z64 ez64 f65
                obtain rfl : z49 = z64 := by omega
                refine n_iconst c_189_128 ?_
                refine n_iadd c_189_129 rfl ?_
                refine n_putG (P := fun M2 => Sf 3 ac M2 M2) (bi := 11) c_189_130 sc_112.n rfl rfl rfl rfl (hS63.w112_11 (q := z49) (l := l) (by omega) (by omega) (by omega) (by omega) (fun j b1 b2 => by
                  have t118 := t_118 hS63 (i := l) (by omega)
                  rcases (show j = 0 ∨ j = 1 ∨ j = 2 by omega) with rfl | rfl | rfl
                  · rw [show 3 * z49 + 0 = 3 * z49 by omega]; omega
                  · omega
                  · omega)) ?_
                intro M66 eM66 hS66
                have hgz : M66 112 0 = M63 112 0 := by rw [eM66]; exact nu_i (by omega)
                refine n_aload_n c_189_133 rfl ?_
                refine n_getV (bi := 11) c_189_134 sc_112.n rfl rfl rfl (t_112_11 hS66) ?_
                intro z67 ez67 f68
                refine n_iconst c_189_137 ?_
                refine n_isub c_189_138 rfl ?_
                exact n_rI c_189_139 rfl ⟨hS66, by omega, by omega⟩
              · intro h69
                refine n_bipush c_189_69 rfl ?_
                exact n_rI c_189_71 rfl ⟨hS, by omega, by omega⟩
            · intro h70
              refine n_aload_n c_189_48 rfl ?_
              refine n_iload c_189_49 rfl ?_
              refine n_v1I c_189_51 rfl sc_112.n rfl rfl rfl rfl (misUnknownX_3 (u := w) hS (by omega) (by omega)) ?_
              intro z71 M72 hP73
              obtain ⟨eM, f73, f73p0⟩ := hP73
              subst eM
              refine n_if0_ne c_189_54 (by omega) ?_ ?_
              · intro h74
                refine n_aload_n c_189_60 rfl ?_
                refine n_getV (bi := 11) c_189_61 sc_112.n rfl rfl rfl (t_112_11 hS) ?_
                intro z75 ez75 f76
                refine n_bipush c_189_64 rfl ?_
                refine n_if2_ne c_189_66 (by omega) (by omega) ?_ ?_
                · intro h77
                  refine n_aload_n c_189_72 rfl ?_
                  refine n_getR c_189_73 sc_112.n rfl rfl rfl r_112_12 ?_
                  refine n_aload_n c_189_76 rfl ?_
                  refine n_getV (bi := 11) c_189_77 sc_112.n rfl rfl rfl (t_112_11 hS) ?_
                  intro z78 ez78 f79
                  obtain rfl : z75 = z78 := by omega
                  refine n_iload_n c_189_80 rfl ?_
                  refine n_iastoreG c_189_81 sc_120.n rfl (by omega) (hS.w120 (by omega) (by omega)) ?_
                  intro M80 eM80 hS80
                  have g80_0 : M80 112 0 = M 112 0 := by rw [eM80]; exact nu_a (by omega)
                  have g80_1 : M80 112 11 = M 112 11 := by rw [eM80]; exact nu_a (by omega)
                  have g80_2 : M80 112 7 = M 112 7 := by rw [eM80]; exact nu_a (by omega)
                  have g80_3 : M80 112 10 = M 112 10 := by rw [eM80]; exact nu_a (by omega)
                  have g80_4 : M80 118 l = M 118 l := by rw [eM80]; exact nu_a (by omega)
                  have g80_5 : M80 120 z75 = l := by rw [eM80]; exact nu_s _ _ _ _
                  refine n_aload_n c_189_82 rfl ?_
                  refine n_getR c_189_83 sc_112.n rfl rfl rfl r_112_13 ?_
                  refine n_iconst c_189_86 ?_
                  refine n_aload_n c_189_87 rfl ?_
                  refine n_getV (bi := 11) c_189_88 sc_112.n rfl rfl rfl (t_112_11 hS80) ?_
                  intro z81 ez81 f82
                  obtain rfl : z75 = z81 := by omega
                  refine n_imul c_189_91 rfl ?_
                  refine n_iload_n c_189_92 rfl ?_
                  refine n_iastoreG c_189_93 sc_121.n rfl (by omega) (hS80.w121 (by omega) (by omega)) ?_
                  intro M83 eM83 hS83
                  have g83_0 : M83 112 0 = M80 112 0 := by rw [eM83]; exact nu_a (by omega)
                  have g83_1 : M83 112 11 = M80 112 11 := by rw [eM83]; exact nu_a (by omega)
                  have g83_2 : M83 112 7 = M80 112 7 := by rw [eM83]; exact nu_a (by omega)
                  have g83_3 : M83 112 10 = M80 112 10 := by rw [eM83]; exact nu_a (by omega)
                  have g83_4 : M83 118 l = M80 118 l := by rw [eM83]; exact nu_a (by omega)
                  have g83_5 : M83 120 z75 = M80 120 z75 := by rw [eM83]; exact nu_a (by omega)
                  have g83_6 : M83 121 (3 * z75) = x := by rw [eM83]; exact nu_s _ _ _ _
                  refine n_aload_n c_189_94 rfl ?_
                  refine n_getR c_189_95 sc_112.n rfl rfl rfl r_112_13 ?_
                  refine n_iconst c_189_98 ?_
                  refine n_aload_n c_189_99 rfl ?_
                  refine n_getV (bi := 11) c_189_100 sc_112.n rfl rfl rfl (t_112_11 hS83) ?_
                  intro z84 ez84 f85
                  obtain rfl : z75 = z84 := by omega
                  refine n_imul c_189_103 rfl ?_
                  refine n_iconst c_189_104 ?_
                  refine n_iadd c_189_105 rfl ?_
                  refine n_iload_n c_189_106 rfl ?_
                  refine n_iastoreG c_189_107 sc_121.n rfl (by omega) (hS83.w121 (by omega) (by omega)) ?_
                  intro M86 eM86 hS86
                  have g86_0 : M86 112 0 = M83 112 0 := by rw [eM86]; exact nu_a (by omega)
                  have g86_1 : M86 112 11 = M83 112 11 := by rw [eM86]; exact nu_a (by omega)
                  have g86_2 : M86 112 7 = M83 112 7 := by rw [eM86]; exact nu_a (by omega)
                  have g86_3 : M86 112 10 = M83 112 10 := by rw [eM86]; exact nu_a (by omega)
                  have g86_4 : M86 118 l = M83 118 l := by rw [eM86]; exact nu_a (by omega)
                  have g86_5 : M86 120 z75 = M83 120 z75 := by rw [eM86]; exact nu_a (by omega)
                  have g86_6 : M86 121 (3 * z75) = M83 121 (3 * z75) := by rw [eM86]; exact nu_i (by omega)
                  have g86_7 : M86 121 ((3 * z75) + 1) = y := by rw [eM86]; exact nu_s _ _ _ _
                  refine n_aload_n c_189_108 rfl ?_
                  refine n_getR c_189_109 sc_112.n rfl rfl rfl r_112_13 ?_
                  refine n_iconst c_189_112 ?_
                  refine n_aload_n c_189_113 rfl ?_
                  refine n_getV (bi := 11) c_189_114 sc_112.n rfl rfl rfl (t_112_11 hS86) ?_
                  intro z87 ez87 f88
                  obtain rfl : z75 = z87 := by omega
                  refine n_imul c_189_117 rfl ?_
                  refine n_iconst c_189_118 ?_
                  refine n_iadd c_189_119 rfl ?_
                  refine n_iload c_189_120 rfl ?_
                  refine n_iastoreG c_189_122 sc_121.n rfl (by omega) (hS86.w121 (by omega) (by omega)) ?_
                  intro M89 eM89 hS89
                  have g89_0 : M89 112 0 = M86 112 0 := by rw [eM89]; exact nu_a (by omega)
                  have g89_1 : M89 112 11 = M86 112 11 := by rw [eM89]; exact nu_a (by omega)
                  have g89_2 : M89 112 7 = M86 112 7 := by rw [eM89]; exact nu_a (by omega)
                  have g89_3 : M89 112 10 = M86 112 10 := by rw [eM89]; exact nu_a (by omega)
                  have g89_4 : M89 118 l = M86 118 l := by rw [eM89]; exact nu_a (by omega)
                  have g89_5 : M89 120 z75 = M86 120 z75 := by rw [eM89]; exact nu_a (by omega)
                  have g89_6 : M89 121 (3 * z75) = M86 121 (3 * z75) := by rw [eM89]; exact nu_i (by omega)
                  have g89_7 : M89 121 ((3 * z75) + 1) = M86 121 ((3 * z75) + 1) := by rw [eM89]; exact nu_i (by omega)
                  have g89_8 : M89 121 ((3 * z75) + 2) = w := by rw [eM89]; exact nu_s _ _ _ _
                  refine n_aload_n c_189_123 rfl ?_
                  refine n_dup2 c_189_124 ?_
                  refine n_getV (bi := 11) c_189_125 sc_112.n rfl rfl rfl (t_112_11 hS89) ?_
                  intro z90 ez90 f91
                  obtain rfl : z75 = z90 := by omega
                  refine n_iconst c_189_128 ?_
                  refine n_iadd c_189_129 rfl ?_
                  refine n_putG (P := fun M2 => Sf 3 ac M2 M2) (bi := 11) c_189_130 sc_112.n rfl rfl rfl rfl (hS89.w112_11 (q := z75) (l := l) (by omega) (by omega) (by omega) (by omega) (fun j b1 b2 => by
                    have t118 := t_118 hS89 (i := l) (by omega)
                    rcases (show j = 0 ∨ j = 1 ∨ j = 2 by omega) with rfl | rfl | rfl
                    · rw [show 3 * z75 + 0 = 3 * z75 by omega]; omega
                    · omega
                    · omega)) ?_
                  intro M92 eM92 hS92
                  have hgz : M92 112 0 = M89 112 0 := by rw [eM92]; exact nu_i (by omega)
                  refine n_aload_n c_189_133 rfl ?_
                  refine n_getV (bi := 11) c_189_134 sc_112.n rfl rfl rfl (t_112_11 hS92) ?_
                  intro z93 ez93 f94
                  refine n_iconst c_189_137 ?_
                  refine n_isub c_189_138 rfl ?_
                  exact n_rI c_189_139 rfl ⟨hS92, by omega, by omega⟩
                · intro h95
                  refine n_bipush c_189_69 rfl ?_
                  exact n_rI c_189_71 rfl ⟨hS, by omega, by omega⟩
              · intro h96
                refine n_bipush c_189_57 rfl ?_
                exact n_rI c_189_59 rfl ⟨hS, by omega, by omega⟩
