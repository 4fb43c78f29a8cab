/-! The methods, by program. -/
set_option maxHeartbeats 4000000 in
theorem escapesH3_3_c {xs : List Int32} {e : Nat} {ac : Int} {M0 M : nM} {m f s : Int} (hS : Sf 3 ac M0 M) (hdm : M0 112 0 = 3) (hm : 0 ≤ m ∧ m ≤ 3) (hf : 0 ≤ f ∧ f ≤ 0) (hs : -9223372036854775808 ≤ s ∧ s ≤ 9223372036854775807) : ∀ nn : Nat, (∀ (x7 x8 : Int), (27 ≤ x7 ∧ x7 ≤ 27) → (0 ≤ x8 ∧ x8 ≤ 27) → (27 - x8) * 2612 + 2612 < (nn : Int) → nW xs (e + 2) 154 14 [some (2, 112), some (0, m), some (2, 127), some (0, f), some (0, 3), some (1, s), none, some (0, x7), some (0, x8), none, none, none] [] M (nPI fun z M1 => M = M1 ∧ (-1 ≤ z ∧ z ≤ 26) ∧ (z = -1 ∨ n_land (n_lshr s z) 1 = 0))) ∧ (∀ (x7 x8 x9 : Int), (27 ≤ x7 ∧ x7 ≤ 27) → (0 ≤ x8 ∧ x8 ≤ 26) → (0 ≤ x9 ∧ x9 ≤ 27) → (27 - x8) * 2612 + (27 - x9) * 90 + 91 < (nn : Int) → nW xs (e + 2) 154 39 [some (2, 112), some (0, m), some (2, 127), some (0, f), some (0, 3), some (1, s), none, some (0, x7), some (0, x8), some (0, x9), none, none] [] M (nPI fun z M1 => M = M1 ∧ (-1 ≤ z ∧ z ≤ 26) ∧ (z = -1 ∨ n_land (n_lshr s z) 1 = 0))) ∧ (∀ (x7 x8 x9 : Int), (27 ≤ x7 ∧ x7 ≤ 27) → (0 ≤ x8 ∧ x8 ≤ 26) → (0 ≤ x9 ∧ x9 ≤ 26) → (27 - x8) * 2612 + (27 - x9) * 90 + 90 < (nn : Int) → nW xs (e + 2) 154 75 [some (2, 112), some (0, m), some (2, 127), some (0, f), some (0, 3), some (1, s), none, some (0, x7), some (0, x8), some (0, x9), none, none] [] M (nPI fun z M1 => M = M1 ∧ (-1 ≤ z ∧ z ≤ 26) ∧ (z = -1 ∨ n_land (n_lshr s z) 1 = 0))) ∧ (∀ (x7 x8 x9 x10 : Int), (27 ≤ x7 ∧ x7 ≤ 27) → (0 ≤ x8 ∧ x8 ≤ 26) → (0 ≤ x9 ∧ x9 ≤ 26) → (0 ≤ x10 ∧ x10 ≤ 27) → (27 - x8) * 2612 + (27 - x9) * 90 + (27 - x10) * 3 + 5 < (nn : Int) → nW xs (e + 2) 154 78 [some (2, 112), some (0, m), some (2, 127), some (0, f), some (0, 3), some (1, s), none, some (0, x7), some (0, x8), some (0, x9), some (0, x10), none] [] M (nPI fun z M1 => M = M1 ∧ (-1 ≤ z ∧ z ≤ 26) ∧ (z = -1 ∨ n_land (n_lshr s z) 1 = 0))) ∧ (∀ (x7 x8 x9 x10 : Int), (27 ≤ x7 ∧ x7 ≤ 27) → (0 ≤ x8 ∧ x8 ≤ 26) → (0 ≤ x9 ∧ x9 ≤ 26) → (0 ≤ x10 ∧ x10 ≤ 26) → (27 - x8) * 2612 + (27 - x9) * 90 + (27 - x10) * 3 + 4 < (nn : Int) → nW xs (e + 2) 154 114 [some (2, 112), some (0, m), some (2, 127), some (0, f), some (0, 3), some (1, s), none, some (0, x7), some (0, x8), some (0, x9), some (0, x10), none] [] M (nPI fun z M1 => M = M1 ∧ (-1 ≤ z ∧ z ≤ 26) ∧ (z = -1 ∨ n_land (n_lshr s z) 1 = 0))) ∧ (∀ (x7 x8 x9 x10 : Int), (27 ≤ x7 ∧ x7 ≤ 27) → (0 ≤ x8 ∧ x8 ≤ 26) → (0 ≤ x9 ∧ x9 ≤ 26) → (0 ≤ x10 ∧ x10 ≤ 26) → (27 - x8) * 2612 + (27 - x9) * 90 + (27 - x10) * 3 + 3 < (nn : Int) → nW xs (e + 2) 154 146 [some (2, 112), some (0, m), some (2, 127), some (0, f), some (0, 3), some (1, s), none, some (0, x7), some (0, x8), some (0, x9), some (0, x10), none] [] M (nPI fun z M1 => M = M1 ∧ (-1 ≤ z ∧ z ≤ 26) ∧ (z = -1 ∨ n_land (n_lshr s z) 1 = 0))) ∧ (∀ (x7 x8 x9 : Int), (27 ≤ x7 ∧ x7 ≤ 27) → (0 ≤ x8 ∧ x8 ≤ 26) → (0 ≤ x9 ∧ x9 ≤ 26) → (27 - x8) * 2612 + (27 - x9) * 90 + 2 < (nn : Int) → nW xs (e + 2) 154 152 [some (2, 112), some (0, m), some (2, 127), some (0, f), some (0, 3), some (1, s), none, some (0, x7), some (0, x8), some (0, x9), none, none] [] M (nPI fun z M1 => M = M1 ∧ (-1 ≤ z ∧ z ≤ 26) ∧ (z = -1 ∨ n_land (n_lshr s z) 1 = 0))) ∧ (∀ (x7 x8 : Int), (27 ≤ x7 ∧ x7 ≤ 27) → (0 ≤ x8 ∧ x8 ≤ 26) → (27 - x8) * 2612 + 1 < (nn : Int) → nW xs (e + 2) 154 158 [some (2, 112), some (0, m), some (2, 127), some (0, f), some (0, 3), some (1, s), none, some (0, x7), some (0, x8), none, none, none] [] M (nPI fun z M1 => M = M1 ∧ (-1 ≤ z ∧ z ≤ 26) ∧ (z = -1 ∨ n_land (n_lshr s z) 1 = 0))) := by
  have hd : (3 : Int) = 2 ∨ (3 : Int) = 3 := by decide
  have hac := hS.2.2.2.2
  intro nn
  induction nn with
  | zero => refine ⟨?_, ?_, ?_, ?_, ?_, ?_, ?_, ?_⟩ <;> (intros; omega)
  | succ nn ih =>
    refine ⟨?_, ?_, ?_, ?_, ?_, ?_, ?_, ?_⟩
    · intro x7 x8 k7 k8 hnn
      refine n_iload c_154_14 rfl ?_
      refine n_iload c_154_16 rfl ?_
      refine n_if2_ge c_154_18 (by omega) (by omega) ?_ ?_
      · intro h1
        refine n_iconst c_154_164 ?_
        exact n_rI c_154_165 rfl ⟨rfl, by omega, by first | omega | (refine Or.inr ?_; subst_vars; assumption)⟩
      · intro h2
        refine n_lload c_154_21 rfl ?_
        refine n_iload c_154_23 rfl ?_
        refine n_i_lshr c_154_25 rfl ?_
        have f3 := n_lshr_r s x8
        generalize gz4 : (n_lshr s x8) = z4 at f3 ⊢
        refine n_lconst (n := 1) c_154_26 rfl ?_
        refine n_i_land c_154_27 rfl ?_
        have f5 := n_land_r z4 1
        generalize gz6 : (n_land z4 1) = z6 at f5 ⊢
        refine n_lconst (n := 0) c_154_28 rfl ?_
        refine n_lcmp c_154_29 ?_
        refine n_lif_ne c_154_30 (by omega) (by omega) ?_ ?_
        · intro h7
          refine n_iconst c_154_36 ?_
          refine n_istore (L2 := [some (2, 112), some (0, m), some (2, 127), some (0, f), some (0, 3), some (1, s), none, some (0, x7), some (0, x8), some (0, 0), none, none]) c_154_37 rfl rfl ?_
          refine n_fg (le_s (le_s (le_s (le_s (le_s (le_s (le_n (le_s (le_s (le_s (le_n (le_n le_0)))))))))))) ?_
          exact ih.2.1 _ _ _ (by omega) (by omega) (by omega) (by omega)
        · intro h8
          refine n_goto c_154_33 ?_
          refine n_fg (le_s (le_s (le_s (le_s (le_s (le_s (le_n (le_s (le_s (le_n (le_n (le_n le_0)))))))))))) ?_
          exact ih.2.2.2.2.2.2.2 _ _ (by omega) (by omega) (by omega)
    · intro x7 x8 x9 k7 k8 k9 hnn
      refine n_iload c_154_39 rfl ?_
      refine n_iload_n c_154_41 rfl ?_
      refine n_iconst c_154_42 ?_
      refine n_if2_le c_154_43 (by omega) (by omega) ?_ ?_
      · intro h1
        refine n_iconst c_154_51 ?_
        refine n_if2_ge c_154_52 (by omega) (by omega) ?_ ?_
        · intro h2
          refine n_fg (le_s (le_s (le_s (le_s (le_s (le_s (le_n (le_s (le_s (le_n (le_n (le_n le_0)))))))))))) ?_
          exact ih.2.2.2.2.2.2.2 _ _ (by omega) (by omega) (by omega)
        · intro h3
          refine n_iload_n c_154_55 rfl ?_
          refine n_iconst c_154_56 ?_
          refine n_if2_le c_154_57 (by omega) (by omega) ?_ ?_
          · intro h4
            refine n_fg (le_s (le_s (le_s (le_s (le_s (le_s (le_n (le_s (le_s (le_s (le_n (le_n le_0)))))))))))) ?_
            exact ih.2.2.1 _ _ _ (by omega) (by omega) (by omega) (by omega)
          · intro h5
            exfalso; omega
      · intro h6
        refine n_iload c_154_46 rfl ?_
        refine n_goto c_154_48 ?_
        refine n_if2_ge c_154_52 (by omega) (by omega) ?_ ?_
        · intro h7
          refine n_fg (le_s (le_s (le_s (le_s (le_s (le_s (le_n (le_s (le_s (le_n (le_n (le_n le_0)))))))))))) ?_
          exact ih.2.2.2.2.2.2.2 _ _ (by omega) (by omega) (by omega)
        · intro h8
          refine n_iload_n c_154_55 rfl ?_
          refine n_iconst c_154_56 ?_
          refine n_if2_le c_154_57 (by omega) (by omega) ?_ ?_
          · intro h9
            exfalso; omega
          · intro h10
            refine n_lload c_154_60 rfl ?_
            refine n_iload c_154_62 rfl ?_
            refine n_i_lshr c_154_64 rfl ?_
            have f11 := n_lshr_r s x9
            generalize gz12 : (n_lshr s x9) = z12 at f11 ⊢
            refine n_lconst (n := 1) c_154_65 rfl ?_
            refine n_i_land c_154_66 rfl ?_
            have f13 := n_land_r z12 1
            generalize gz14 : (n_land z12 1) = z14 at f13 ⊢
            refine n_lconst (n := 0) c_154_67 rfl ?_
            refine n_lcmp c_154_68 ?_
            refine n_lif_ne c_154_69 (by omega) (by omega) ?_ ?_
            · intro h15
              refine n_fg (le_s (le_s (le_s (le_s (le_s (le_s (le_n (le_s (le_s (le_s (le_n (le_n le_0)))))))))))) ?_
              exact ih.2.2.1 _ _ _ (by omega) (by omega) (by omega) (by omega)
            · intro h16
              refine n_goto c_154_72 ?_
              refine n_fg (le_s (le_s (le_s (le_s (le_s (le_s (le_n (le_s (le_s (le_s (le_n (le_n le_0)))))))))))) ?_
              exact ih.2.2.2.2.2.2.1 _ _ _ (by omega) (by omega) (by omega) (by omega)
    · intro x7 x8 x9 k7 k8 k9 hnn
      refine n_iconst c_154_75 ?_
      refine n_istore (L2 := [some (2, 112), some (0, m), some (2, 127), some (0, f), some (0, 3), some (1, s), none, some (0, x7), some (0, x8), some (0, x9), some (0, 0), none]) c_154_76 rfl rfl ?_
      refine n_fg (le_s (le_s (le_s (le_s (le_s (le_s (le_n (le_s (le_s (le_s (le_s (le_n le_0)))))))))))) ?_
      exact ih.2.2.2.1 _ _ _ _ (by omega) (by omega) (by omega) (by omega) (by omega)
    · intro x7 x8 x9 x10 k7 k8 k9 k10 hnn
      refine n_iload c_154_78 rfl ?_
      refine n_iload_n c_154_80 rfl ?_
      refine n_iconst c_154_81 ?_
      refine n_if2_le c_154_82 (by omega) (by omega) ?_ ?_
      · intro h1
        refine n_iconst c_154_90 ?_
        refine n_if2_ge c_154_91 (by omega) (by omega) ?_ ?_
        · intro h2
          refine n_fg (le_s (le_s (le_s (le_s (le_s (le_s (le_n (le_s (le_s (le_s (le_n (le_n le_0)))))))))))) ?_
          exact ih.2.2.2.2.2.2.1 _ _ _ (by omega) (by omega) (by omega) (by omega)
        · intro h3
          refine n_iload_n c_154_94 rfl ?_
          refine n_iconst c_154_95 ?_
          refine n_if2_le c_154_96 (by omega) (by omega) ?_ ?_
          · intro h4
            refine n_fg (le_s (le_s (le_s (le_s (le_s (le_s (le_n (le_s (le_s (le_s (le_s (le_n le_0)))))))))))) ?_
            exact ih.2.2.2.2.1 _ _ _ _ (by omega) (by omega) (by omega) (by omega) (by omega)
          · intro h5
            exfalso; omega
      · intro h6
        refine n_iload c_154_85 rfl ?_
        refine n_goto c_154_87 ?_
        refine n_if2_ge c_154_91 (by omega) (by omega) ?_ ?_
        · intro h7
          refine n_fg (le_s (le_s (le_s (le_s (le_s (le_s (le_n (le_s (le_s (le_s (le_n (le_n le_0)))))))))))) ?_
          exact ih.2.2.2.2.2.2.1 _ _ _ (by omega) (by omega) (by omega) (by omega)
        · intro h8
          refine n_iload_n c_154_94 rfl ?_
          refine n_iconst c_154_95 ?_
          refine n_if2_le c_154_96 (by omega) (by omega) ?_ ?_
          · intro h9
            exfalso; omega
          · intro h10
            refine n_lload c_154_99 rfl ?_
            refine n_iload c_154_101 rfl ?_
            refine n_i_lshr c_154_103 rfl ?_
            have f11 := n_lshr_r s x10
            generalize gz12 : (n_lshr s x10) = z12 at f11 ⊢
            refine n_lconst (n := 1) c_154_104 rfl ?_
            refine n_i_land c_154_105 rfl ?_
            have f13 := n_land_r z12 1
            generalize gz14 : (n_land z12 1) = z14 at f13 ⊢
            refine n_lconst (n := 0) c_154_106 rfl ?_
            refine n_lcmp c_154_107 ?_
            refine n_lif_ne c_154_108 (by omega) (by omega) ?_ ?_
            · intro h15
              refine n_fg (le_s (le_s (le_s (le_s (le_s (le_s (le_n (le_s (le_s (le_s (le_s (le_n le_0)))))))))))) ?_
              exact ih.2.2.2.2.1 _ _ _ _ (by omega) (by omega) (by omega) (by omega) (by omega)
            · intro h16
              refine n_goto c_154_111 ?_
              refine n_fg (le_s (le_s (le_s (le_s (le_s (le_s (le_n (le_s (le_s (le_s (le_s (le_n le_0)))))))))))) ?_
              exact ih.2.2.2.2.2.1 _ _ _ _ (by omega) (by omega) (by omega) (by omega) (by omega)
    · intro x7 x8 x9 x10 k7 k8 k9 k10 hnn
      refine n_aload_n c_154_114 rfl ?_
      refine n_iload_n c_154_115 rfl ?_
      refine n_aload_n c_154_116 rfl ?_
      refine n_iload_n c_154_117 rfl ?_
      refine n_iload c_154_118 rfl ?_
      refine n_iload c_154_120 rfl ?_
      refine n_iload c_154_122 rfl ?_
      refine n_iload c_154_124 rfl ?_
      refine n_v7I c_154_126 rfl sc_112.n rfl rfl rfl rfl (imageH3_3 (m := m) (f := f) (x := x8) (y := x9) (z0 := x10) hS hdm (by omega) (by omega) (by omega) (by omega) (by omega)) ?_
      intro z1 M2 hP3
      obtain ⟨eM, f3⟩ := hP3
      subst eM
      refine n_istore (L2 := [some (2, 112), some (0, m), some (2, 127), some (0, f), some (0, 3), some (1, s), none, some (0, x7), some (0, x8), some (0, x9), some (0, x10), some (0, z1)]) c_154_129 rfl rfl ?_
      refine n_lload c_154_131 rfl ?_
      refine n_iload c_154_133 rfl ?_
      refine n_i_lshr c_154_135 rfl ?_
      have f4 := n_lshr_r s z1
      generalize gz5 : (n_lshr s z1) = z5 at f4 ⊢
      refine n_lconst (n := 1) c_154_136 rfl ?_
      refine n_i_land c_154_137 rfl ?_
      have f6 := n_land_r z5 1
      generalize gz7 : (n_land z5 1) = z7 at f6 ⊢
      refine n_lconst (n := 0) c_154_138 rfl ?_
      refine n_lcmp c_154_139 ?_
      refine n_lif_ne c_154_140 (by omega) (by omega) ?_ ?_
      · intro h8
        refine n_fg (le_s (le_s (le_s (le_s (le_s (le_s (le_n (le_s (le_s (le_s (le_s (le_n le_0)))))))))))) ?_
        exact ih.2.2.2.2.2.1 _ _ _ _ (by omega) (by omega) (by omega) (by omega) (by omega)
      · intro h9
        refine n_iload c_154_143 rfl ?_
        exact n_rI c_154_145 rfl ⟨rfl, by omega, by first | omega | (refine Or.inr ?_; subst_vars; assumption)⟩
    · intro x7 x8 x9 x10 k7 k8 k9 k10 hnn
      refine n_iinc (L2 := [some (2, 112), some (0, m), some (2, 127), some (0, f), some (0, 3), some (1, s), none, some (0, x7), some (0, x8), some (0, x9), some (0, (x10 + 1)), none]) c_154_146 rfl rfl rfl ?_
      refine n_goto c_154_149 ?_
      refine n_fg (le_s (le_s (le_s (le_s (le_s (le_s (le_n (le_s (le_s (le_s (le_s (le_n le_0)))))))))))) ?_
      exact ih.2.2.2.1 _ _ _ _ (by omega) (by omega) (by omega) (by omega) (by omega)
    · intro x7 x8 x9 k7 k8 k9 hnn
      refine n_iinc (L2 := [some (2, 112), some (0, m), some (2, 127), some (0, f), some (0, 3), some (1, s), none, some (0, x7), some (0, x8), some (0, (x9 + 1)), none, none]) c_154_152 rfl rfl rfl ?_
      refine n_goto c_154_155 ?_
      refine n_fg (le_s (le_s (le_s (le_s (le_s (le_s (le_n (le_s (le_s (le_s (le_n (le_n le_0)))))))))))) ?_
      exact ih.2.1 _ _ _ (by omega) (by omega) (by omega) (by omega)
    · intro x7 x8 k7 k8 hnn
      refine n_iinc (L2 := [some (2, 112), some (0, m), some (2, 127), some (0, f), some (0, 3), some (1, s), none, some (0, x7), some (0, (x8 + 1)), none, none, none]) c_154_158 rfl rfl rfl ?_
      refine n_goto c_154_161 ?_
      refine n_fg (le_s (le_s (le_s (le_s (le_s (le_s (le_n (le_s (le_s (le_n (le_n (le_n le_0)))))))))))) ?_
      exact ih.1 _ _ (by omega) (by omega) (by omega)
set_option maxHeartbeats 4000000 in
theorem escapesH3_3 {xs : List Int32} {e : Nat} {ac : Int} {M0 M : nM} {m f s : Int} (hS : Sf 3 ac M0 M) (hdm : M0 112 0 = 3) (hm : 0 ≤ m ∧ m ≤ 3) (hf : 0 ≤ f ∧ f ≤ 0) (hs : -9223372036854775808 ≤ s ∧ s ≤ 9223372036854775807) : nW xs (e + 2) 154 0 [some (2, 112), some (0, m), some (2, 127), some (0, f), some (0, 3), some (1, s), none, none, none, none, none, none] [] M (nPI fun z M1 => M = M1 ∧ (-1 ≤ z ∧ z ≤ 26) ∧ (z = -1 ∨ n_land (n_lshr s z) 1 = 0)) := by
  have hd : (3 : Int) = 2 ∨ (3 : Int) = 3 := by decide
  have hac := hS.2.2.2.2
  refine n_aload_n c_154_0 rfl ?_
  refine n_getV (bi := 0) c_154_1 sc_112.n rfl rfl rfl (t_dm hS hdm) ?_
  intro z1 ez1 f2
  obtain rfl : z1 = 3 := by omega
  refine n_iload c_154_4 rfl ?_
  refine n_s2I c_154_6 rfl rfl rfl rfl (mpower3_3  hS ) ?_
  intro z3 M4 hP5
  obtain ⟨eM, f5⟩ := hP5
  subst eM
  obtain rfl : z3 = 27 := by omega
  refine n_istore (L2 := [some (2, 112), some (0, m), some (2, 127), some (0, f), some (0, 3), some (1, s), none, some (0, 27), none, none, none, none]) c_154_9 rfl rfl ?_
  refine n_iconst c_154_11 ?_
  refine n_istore (L2 := [some (2, 112), some (0, m), some (2, 127), some (0, f), some (0, 3), some (1, s), none, some (0, 27), some (0, 0), none, none, none]) c_154_12 rfl rfl ?_
  refine n_fg (le_s (le_s (le_s (le_s (le_s (le_s (le_n (le_s (le_s (le_n (le_n (le_n le_0)))))))))))) ?_
  exact (escapesH3_3_c hS hdm hm hf hs 151506).1 _ _ (by omega) (by omega) (by omega)

set_option maxHeartbeats 4000000 in
theorem escapesH_3 {xs : List Int32} {e : Nat} {ac : Int} {M0 M : nM} {m f k s : Int} (hS : Sf 3 ac M0 M) (hdm : M0 112 0 = 3) (hm : 0 ≤ m ∧ m ≤ 3) (hf : 0 ≤ f ∧ f ≤ 0) (hk : 0 ≤ k ∧ k ≤ 3) (hs : -9223372036854775808 ≤ s ∧ s ≤ 9223372036854775807) : nW xs (e + 2) 154 0 [some (2, 112), some (0, m), some (2, 127), some (0, f), some (0, k), some (1, s), none, none, none, none, none, none] [] M (nPI fun z M1 => M = M1 ∧ (-1 ≤ z ∧ z ≤ 26) ∧ (z = -1 ∨ n_land (n_lshr s z) 1 = 0)) := by
  rcases (show k = 0 ∨ k = 1 ∨ k = 2 ∨ k = 3 by omega) with rfl | rfl | rfl | rfl
  · exact n_post (escapesH0_3 hS hdm (by omega) (by omega) (by omega)) (fun w M1 h => by obtain ⟨z, rfl, h1, h2, h3⟩ := h; exact ⟨z, rfl, h1, by omega, h3⟩)
  · exact n_post (escapesH1_3 hS hdm (by omega) (by omega) (by omega)) (fun w M1 h => by obtain ⟨z, rfl, h1, h2, h3⟩ := h; exact ⟨z, rfl, h1, by omega, h3⟩)
  · exact n_post (escapesH2_3 hS hdm (by omega) (by omega) (by omega)) (fun w M1 h => by obtain ⟨z, rfl, h1, h2, h3⟩ := h; exact ⟨z, rfl, h1, by omega, h3⟩)
  · exact n_post (escapesH3_3 hS hdm (by omega) (by omega) (by omega)) (fun w M1 h => by obtain ⟨z, rfl, h1, h2, h3⟩ := h; exact ⟨z, rfl, h1, by omega, h3⟩)

set_option maxHeartbeats 4000000 in
theorem mkeepsSet_3 {xs : List Int32} {e : Nat} {ac : Int} {M0 M : nM} {a k s : Int} (hS : Sf 3 ac M0 M) (hdm : M0 112 0 = 3) (ha : 0 ≤ a ∧ a ≤ 7) (hk : 0 ≤ k ∧ k ≤ 3) (hs : -9223372036854775808 ≤ s ∧ s ≤ 9223372036854775807) : nW xs (e + 3) 155 0 [some (2, 112), some (0, a), some (0, k), some (1, s), none] [] M (nPI fun z M1 => M = M1 ∧ (0 ≤ z ∧ z ≤ 1)) := by
  have hd : (3 : Int) = 2 ∨ (3 : Int) = 3 := by decide
  have hac := hS.2.2.2.2
  refine n_aload_n c_155_0 rfl ?_
  refine n_aload_n c_155_1 rfl ?_
  refine n_getR c_155_2 sc_112.n rfl rfl rfl r_112_5 ?_
  refine n_iload_n c_155_5 rfl ?_
  refine n_ialoadV c_155_6 sc_116.n rfl rfl rfl (by omega) (t_116 hS (by omega)) ?_
  intro z1 ez1 f2
  refine n_aload_n c_155_7 rfl ?_
  refine n_getR c_155_8 sc_112.n rfl rfl rfl r_112_6 ?_
  refine n_bipush c_155_11 rfl ?_
  refine n_iload_n c_155_13 rfl ?_
  refine n_imul c_155_14 rfl ?_
  refine n_iload_n c_155_15 rfl ?_
  refine n_lload_n c_155_16 rfl ?_
  refine n_v5I c_155_17 rfl sc_112.n rfl rfl rfl rfl (escapesT_3 (m := z1) (f := (27 * a)) (k := k) (s := s) hS hdm (by omega) (by omega) (by omega) (by omega)) ?_
  intro z3 M4 hP5
  obtain ⟨eM, f5, f5p0⟩ := hP5
  subst eM
  refine n_iconst c_155_20 ?_
  refine n_if2_ne c_155_21 (by omega) (by omega) ?_ ?_
  · intro h6
    refine n_iconst c_155_28 ?_
    exact n_rZ c_155_29 rfl (by omega) ⟨rfl, by omega⟩
  · intro h7
    refine n_iconst c_155_24 ?_
    refine n_goto c_155_25 ?_
    exact n_rZ c_155_29 rfl (by omega) ⟨rfl, by omega⟩

set_option maxHeartbeats 4000000 in
theorem mallKeep_3_c {xs : List Int32} {e : Nat} {ac : Int} {M0 M : nM} {k s : Int} (hS : Sf 3 ac M0 M) (hdm : M0 112 0 = 3) (hk : 0 ≤ k ∧ k ≤ 3) (hs : -9223372036854775808 ≤ s ∧ s ≤ 9223372036854775807) : ∀ nn : Nat, (∀ (x4 : Int), (0 ≤ x4 ∧ x4 ≤ 8) → (8 - x4) * 1 + 1 < (nn : Int) → nW xs (e + 4) 156 3 [some (2, 112), some (0, k), some (1, s), none, some (0, x4)] [] M (nPI fun z M1 => M = M1 ∧ (0 ≤ z ∧ z ≤ 1))) := by
  have hd : (3 : Int) = 2 ∨ (3 : Int) = 3 := by decide
  have hac := hS.2.2.2.2
  intro nn
  induction nn with
  | zero => intros; omega
  | succ nn ih =>
    intro x4 k4 hnn
    refine n_iload c_156_3 rfl ?_
    refine n_aload_n c_156_5 rfl ?_
    refine n_getV (bi := 4) c_156_6 sc_112.n rfl rfl rfl (t_112_4 hS) ?_
    intro z1 ez1 f2
    refine n_if2_ge c_156_9 (by omega) (by omega) ?_ ?_
    · intro h3
      refine n_iconst c_156_31 ?_
      exact n_rZ c_156_32 rfl (by omega) ⟨rfl, by omega⟩
    · intro h4
      refine n_aload_n c_156_12 rfl ?_
      refine n_iload c_156_13 rfl ?_
      refine n_iload_n c_156_15 rfl ?_
      refine n_lload_n c_156_16 rfl ?_
      refine n_v3I c_156_17 rfl sc_112.n rfl rfl rfl rfl (mkeepsSet_3 (a := x4) (k := k) (s := s) hS hdm (by omega) (by omega) (by omega)) ?_
      intro z5 M6 hP7
      obtain ⟨eM, f7⟩ := hP7
      subst eM
      refine n_if0_ne c_156_20 (by omega) ?_ ?_
      · intro h8
        refine n_iinc (L2 := [some (2, 112), some (0, k), some (1, s), none, some (0, (x4 + 1))]) c_156_25 rfl rfl rfl ?_
        refine n_goto c_156_28 ?_
        refine n_fg (le_s (le_s (le_s (le_n (le_s le_0))))) ?_
        exact ih _ (by omega) (by omega)
      · intro h9
        refine n_iconst c_156_23 ?_
        exact n_rZ c_156_24 rfl (by omega) ⟨rfl, by omega⟩
set_option maxHeartbeats 4000000 in
theorem mallKeep_3 {xs : List Int32} {e : Nat} {ac : Int} {M0 M : nM} {k s : Int} (hS : Sf 3 ac M0 M) (hdm : M0 112 0 = 3) (hk : 0 ≤ k ∧ k ≤ 3) (hs : -9223372036854775808 ≤ s ∧ s ≤ 9223372036854775807) : nW xs (e + 4) 156 0 [some (2, 112), some (0, k), some (1, s), none, none] [] M (nPI fun z M1 => M = M1 ∧ (0 ≤ z ∧ z ≤ 1)) := by
  have hd : (3 : Int) = 2 ∨ (3 : Int) = 3 := by decide
  have hac := hS.2.2.2.2
  refine n_iconst c_156_0 ?_
  refine n_istore (L2 := [some (2, 112), some (0, k), some (1, s), none, some (0, 0)]) c_156_1 rfl rfl ?_
  refine n_fg (le_s (le_s (le_s (le_n (le_s le_0))))) ?_
  exact (mallKeep_3_c hS hdm hk hs 30) _ (by omega) (by omega)

set_option maxHeartbeats 4000000 in
theorem mkeeps_3_c {xs : List Int32} {e : Nat} {ac : Int} {M0 M : nM} {a l : Int} (hS : Sf 3 ac M0 M) (hdm : M0 112 0 = 3) (ha : -2147483648 ≤ a ∧ a ≤ 2147483647) (hl : -2147483648 ≤ l ∧ l ≤ 2147483647) : ∀ nn : Nat, (1 < (nn : Int) → nW xs (e + 4) 158 24 [none, none, none] [] M (nPI fun z M1 => M = M1 ∧ (-2147483648 ≤ z ∧ z ≤ 2147483647))) := by
  have hd : (3 : Int) = 2 ∨ (3 : Int) = 3 := by decide
  have hac := hS.2.2.2.2
  intro nn
  induction nn with
  | zero => intros; omega
  | succ nn ih =>
    intro hnn
    refine n_iconst c_158_24 ?_
    refine n_goto c_158_25 ?_
    exact n_rI c_158_53 rfl ⟨rfl, by omega⟩
set_option maxHeartbeats 4000000 in
theorem mkeeps_3 {xs : List Int32} {e : Nat} {ac : Int} {M0 M : nM} {a l : Int} (hS : Sf 3 ac M0 M) (hdm : M0 112 0 = 3) (ha : -2147483648 ≤ a ∧ a ≤ 2147483647) (hl : -2147483648 ≤ l ∧ l ≤ 2147483647) : nW xs (e + 4) 158 0 [some (2, 112), some (0, a), some (0, l)] [] M (nPI fun z M1 => M = M1 ∧ (-2147483648 ≤ z ∧ z ≤ 2147483647)) := by
  have hd : (3 : Int) = 2 ∨ (3 : Int) = 3 := by decide
  have hac := hS.2.2.2.2
  refine n_iload_n c_158_0 rfl ?_
  refine n_if0_lt c_158_1 (by omega) ?_ ?_
  · intro h1
    refine n_fg (le_n (le_n (le_n le_0))) ?_
    exact (mkeeps_3_c hS hdm ha hl 12)   (by omega)
  · intro h2
    refine n_iload_n c_158_4 rfl ?_
    refine n_aload_n c_158_5 rfl ?_
    refine n_getV (bi := 4) c_158_6 sc_112.n rfl rfl rfl (t_112_4 hS) ?_
    intro z3 ez3 f4
    refine n_if2_ge c_158_9 (by omega) (by omega) ?_ ?_
    · intro h5
      refine n_fg (le_n (le_n (le_n le_0))) ?_
      exact (mkeeps_3_c hS hdm ha hl 12)   (by omega)
    · intro h6
      refine n_iload_n c_158_12 rfl ?_
      refine n_if0_lt c_158_13 (by omega) ?_ ?_
      · intro h7
        refine n_fg (le_n (le_n (le_n le_0))) ?_
        exact (mkeeps_3_c hS hdm ha hl 12)   (by omega)
      · intro h8
        refine n_iload_n c_158_16 rfl ?_
        refine n_aload_n c_158_17 rfl ?_
        refine n_getV (bi := 7) c_158_18 sc_112.n rfl rfl rfl (t_112_7 hS) ?_
        intro z9 ez9 f10
        refine n_if2_lt c_158_21 (by omega) (by omega) ?_ ?_
        · intro h11
          refine n_aload_n c_158_28 rfl ?_
          refine n_iload_n c_158_29 rfl ?_
          refine n_aload_n c_158_30 rfl ?_
          refine n_getR c_158_31 sc_112.n rfl rfl rfl r_112_8 ?_
          refine n_iload_n c_158_34 rfl ?_
          refine n_ialoadV c_158_35 sc_118.n rfl rfl rfl (by omega) (t_118 hS (by omega)) ?_
          intro z12 ez12 f13
          refine n_aload_n c_158_36 rfl ?_
          refine n_getR c_158_37 sc_112.n rfl rfl rfl r_112_9 ?_
          refine n_iload_n c_158_40 rfl ?_
          refine n_laloadV c_158_41 sc_119.n rfl rfl rfl (by omega) (t_119 hS (by omega)) ?_
          intro z14 ez14 f15
          refine n_v3I c_158_42 rfl sc_112.n rfl rfl rfl rfl (mkeepsSet_3 (a := a) (k := z12) (s := z14) hS hdm (by omega) (by omega) (by omega)) ?_
          intro z16 M17 hP18
          obtain ⟨eM, f18⟩ := hP18
          subst eM
          refine n_if0_eq c_158_45 (by omega) ?_ ?_
          · intro h19
            refine n_iconst c_158_52 ?_
            exact n_rI c_158_53 rfl ⟨rfl, by omega⟩
          · intro h20
            refine n_iconst c_158_48 ?_
            refine n_goto c_158_49 ?_
            exact n_rI c_158_53 rfl ⟨rfl, by omega⟩
        · intro h21
          refine n_fg (le_n (le_n (le_n le_0))) ?_
          exact (mkeeps_3_c hS hdm ha hl 12)   (by omega)

set_option maxHeartbeats 4000000 in
theorem mlaws_3_c {xs : List Int32} {e : Nat} {ac : Int} {M0 M : nM} {k : Int} (hS : Sf 3 ac M0 M) (hdm : M0 112 0 = 3) (hk : -2147483648 ≤ k ∧ k ≤ 2147483647) : ∀ nn : Nat, (134217731 < (nn : Int) → nW xs (e + 5) 160 10 [none, none, none, none, none] [] M (nPI fun z M1 => M = M1 ∧ (-2147483648 ≤ z ∧ z ≤ 2147483647))) ∧ (∀ (x2 x3 : Int), (1 ≤ k ∧ k ≤ 2) → (-2147483648 ≤ x2 ∧ x2 ≤ 2147483647) → (0 ≤ x3 ∧ x3 ≤ 134217728) → (134217728 - x3) * 1 + 1 < (nn : Int) → nW xs (e + 5) 160 16 [some (2, 112), some (0, k), some (0, x2), some (1, x3), none] [] M (nPI fun z M1 => M = M1 ∧ (-2147483648 ≤ z ∧ z ≤ 2147483647))) := by
  have hd : (3 : Int) = 2 ∨ (3 : Int) = 3 := by decide
  have hac := hS.2.2.2.2
  intro nn
  induction nn with
  | zero => refine ⟨?_, ?_⟩ <;> (intros; omega)
  | succ nn ih =>
    refine ⟨?_, ?_⟩
    · intro hnn
      refine n_iconst c_160_10 ?_
      exact n_rI c_160_11 rfl ⟨rfl, by omega⟩
    · intro x2 x3 k1 k2 k3 hnn
      refine n_lload_n c_160_16 rfl ?_
      refine n_lconst (n := 1) c_160_17 rfl ?_
      refine n_aload_n c_160_18 rfl ?_
      refine n_getV (bi := 0) c_160_19 sc_112.n rfl rfl rfl (t_dm hS hdm) ?_
      intro z1 ez1 f2
      obtain rfl : z1 = 3 := by omega
      refine n_iload_n c_160_22 rfl ?_
      refine n_s2I c_160_23 rfl rfl rfl rfl (mpowerU3_3 (n := k) hS (by omega)) ?_
      intro z3 M4 hP5
      obtain ⟨eM, f5⟩ := hP5
      subst eM
      refine n_i_lshl c_160_26 rfl ?_
      have f6 := n_lshl_1 (y := z3) (a := 1) (b := 27) (by decide) (by omega)
      generalize (n_lshl 1 z3) = z7 at f6 ⊢
      refine n_lcmp c_160_27 ?_
      refine n_lif_ge c_160_28 (by omega) (by omega) ?_ ?_
      · intro h8
        refine n_iload_n c_160_55 rfl ?_
        exact n_rI c_160_56 rfl ⟨rfl, by omega⟩
      · intro h9
        refine n_iload_n c_160_31 rfl ?_
        refine n_aload_n c_160_32 rfl ?_
        refine n_iload_n c_160_33 rfl ?_
        refine n_lload_n c_160_34 rfl ?_
        refine n_v2I c_160_35 rfl sc_112.n rfl rfl rfl rfl (mallKeep_3 (k := k) (s := x3) hS hdm (by omega) (by omega)) ?_
        intro z10 M11 hP12
        obtain ⟨eM, f12⟩ := hP12
        subst eM
        refine n_if0_eq c_160_38 (by omega) ?_ ?_
        · intro h13
          refine n_iconst c_160_45 ?_
          refine n_iadd c_160_46 rfl ?_
          refine n_istore_n (L2 := [some (2, 112), some (0, k), some (0, (x2 + 0)), some (1, x3), none]) c_160_47 rfl rfl ?_
          refine n_lload_n c_160_48 rfl ?_
          refine n_lconst (n := 1) c_160_49 rfl ?_
          refine n_ladd c_160_50 rfl ?_
          refine n_lstore_n (L2 := [some (2, 112), some (0, k), some (0, (x2 + 0)), some (1, (x3 + 1)), none]) c_160_51 rfl rfl ?_
          refine n_goto c_160_52 ?_
          refine n_fg (le_s (le_s (le_s (le_s (le_n le_0))))) ?_
          exact ih.2 _ _ (by omega) (by omega) (by omega) (by omega)
        · intro h14
          refine n_iconst c_160_41 ?_
          refine n_goto c_160_42 ?_
          refine n_iadd c_160_46 rfl ?_
          refine n_wrap ?_
          have f15 := n_wr_r (x2 + 1)
          generalize n_wr (x2 + 1) = z16 at f15 ⊢
          refine n_istore_n (L2 := [some (2, 112), some (0, k), some (0, z16), some (1, x3), none]) c_160_47 rfl rfl ?_
          refine n_lload_n c_160_48 rfl ?_
          refine n_lconst (n := 1) c_160_49 rfl ?_
          refine n_ladd c_160_50 rfl ?_
          refine n_lstore_n (L2 := [some (2, 112), some (0, k), some (0, z16), some (1, (x3 + 1)), none]) c_160_51 rfl rfl ?_
          refine n_goto c_160_52 ?_
          refine n_fg (le_s (le_s (le_s (le_s (le_n le_0))))) ?_
          exact ih.2 _ _ (by omega) (by omega) (by omega) (by omega)
set_option maxHeartbeats 4000000 in
theorem mlaws_3 {xs : List Int32} {e : Nat} {ac : Int} {M0 M : nM} {k : Int} (hS : Sf 3 ac M0 M) (hdm : M0 112 0 = 3) (hk : -2147483648 ≤ k ∧ k ≤ 2147483647) : nW xs (e + 5) 160 0 [some (2, 112), some (0, k), none, none, none] [] M (nPI fun z M1 => M = M1 ∧ (-2147483648 ≤ z ∧ z ≤ 2147483647)) := by
  have hd : (3 : Int) = 2 ∨ (3 : Int) = 3 := by decide
  have hac := hS.2.2.2.2
  refine n_iload_n c_160_0 rfl ?_
  refine n_iconst c_160_1 ?_
  refine n_if2_lt c_160_2 (by omega) (by omega) ?_ ?_
  · intro h1
    refine n_fg (le_n (le_n (le_n (le_n (le_n le_0))))) ?_
    exact (mlaws_3_c hS hdm hk 268435472).1   (by omega)
  · intro h2
    refine n_iload_n c_160_5 rfl ?_
    refine n_iconst c_160_6 ?_
    refine n_if2_le c_160_7 (by omega) (by omega) ?_ ?_
    · intro h3
      refine n_iconst c_160_12 ?_
      refine n_istore_n (L2 := [some (2, 112), some (0, k), some (0, 0), none, none]) c_160_13 rfl rfl ?_
      refine n_lconst (n := 0) c_160_14 rfl ?_
      refine n_lstore_n (L2 := [some (2, 112), some (0, k), some (0, 0), some (1, 0), none]) c_160_15 rfl rfl ?_
      refine n_fg (le_s (le_s (le_s (le_s (le_n le_0))))) ?_
      exact (mlaws_3_c hS hdm hk 268435472).2 _ _ (by omega) (by omega) (by omega) (by omega)
    · intro h4
      refine n_fg (le_n (le_n (le_n (le_n (le_n le_0))))) ?_
      exact (mlaws_3_c hS hdm hk 268435472).1   (by omega)

set_option maxHeartbeats 4000000 in
theorem misMaking_3_c {xs : List Int32} {e : Nat} {ac : Int} {M0 M : nM} {n : Int} (hS : Sf 3 ac M0 M) (hdm : M0 112 0 = 3) (hn : -2147483648 ≤ n ∧ n ≤ 2147483647) : ∀ nn : Nat, (1 < (nn : Int) → nW xs e 161 26 [none, none] [] M (nPI fun z M1 => M = M1 ∧ (0 ≤ z ∧ z ≤ 1) ∧ (z = 0 ∨ (1 ≤ n ∧ n ≤ 2)))) := by
  have hd : (3 : Int) = 2 ∨ (3 : Int) = 3 := by decide
  have hac := hS.2.2.2.2
  intro nn
  induction nn with
  | zero => intros; omega
  | succ nn ih =>
    intro hnn
    refine n_iconst c_161_26 ?_
    exact n_rZ c_161_27 rfl (by omega) ⟨rfl, by omega, by omega⟩
set_option maxHeartbeats 4000000 in
theorem misMaking_3 {xs : List Int32} {e : Nat} {ac : Int} {M0 M : nM} {n : Int} (hS : Sf 3 ac M0 M) (hdm : M0 112 0 = 3) (hn : -2147483648 ≤ n ∧ n ≤ 2147483647) : nW xs e 161 0 [some (2, 112), some (0, n)] [] M (nPI fun z M1 => M = M1 ∧ (0 ≤ z ∧ z ≤ 1) ∧ (z = 0 ∨ (1 ≤ n ∧ n ≤ 2))) := by
  have hd : (3 : Int) = 2 ∨ (3 : Int) = 3 := by decide
  have hac := hS.2.2.2.2
  refine n_iload_n c_161_0 rfl ?_
  refine n_iconst c_161_1 ?_
  refine n_if2_lt c_161_2 (by omega) (by omega) ?_ ?_
  · intro h1
    refine n_fg (le_n (le_n le_0)) ?_
    exact (misMaking_3_c hS hdm hn 12)   (by omega)
  · intro h2
    refine n_iload_n c_161_5 rfl ?_
    refine n_aload_n c_161_6 rfl ?_
    refine n_getV (bi := 0) c_161_7 sc_112.n rfl rfl rfl (t_dm hS hdm) ?_
    intro z3 ez3 f4
    obtain rfl : z3 = 3 := by omega
    refine n_iconst c_161_10 ?_
    refine n_if2_ne c_161_11 (by omega) (by omega) ?_ ?_
    · intro h5
      refine n_iconst c_161_18 ?_
      refine n_if2_gt c_161_19 (by omega) (by omega) ?_ ?_
      · intro h6
        refine n_fg (le_n (le_n le_0)) ?_
        exact (misMaking_3_c hS hdm hn 12)   (by omega)
      · intro h7
        refine n_iconst c_161_22 ?_
        refine n_goto c_161_23 ?_
        exact n_rZ c_161_27 rfl (by omega) ⟨rfl, by omega, by omega⟩
    · intro h8
      exfalso; omega

set_option maxHeartbeats 4000000 in
theorem mrowsOf1_3 {xs : List Int32} {e : Nat} {ac : Int} {M0 M : nM} (hS : Sf 3 ac M0 M) (hdm : M0 112 0 = 3) : nW xs (e + 1) 162 0 [some (2, 112), some (0, 1)] [] M (nPI fun z M1 => M = M1 ∧ (3 ≤ z ∧ z ≤ 3)) := by
  have hd : (3 : Int) = 2 ∨ (3 : Int) = 3 := by decide
  have hac := hS.2.2.2.2
  refine n_aload_n c_162_0 rfl ?_
  refine n_getV (bi := 0) c_162_1 sc_112.n rfl rfl rfl (t_dm hS hdm) ?_
  intro z1 ez1 f2
  obtain rfl : z1 = 3 := by omega
  refine n_iload_n c_162_4 rfl ?_
  refine n_s2I c_162_5 rfl rfl rfl rfl (mpower1_3  hS ) ?_
  intro z3 M4 hP5
  obtain ⟨eM, f5⟩ := hP5
  subst eM
  obtain rfl : z3 = 3 := by omega
  exact n_rI c_162_8 rfl ⟨rfl, by omega⟩

set_option maxHeartbeats 4000000 in
theorem mrowsOf2_3 {xs : List Int32} {e : Nat} {ac : Int} {M0 M : nM} (hS : Sf 3 ac M0 M) (hdm : M0 112 0 = 3) : nW xs (e + 1) 162 0 [some (2, 112), some (0, 2)] [] M (nPI fun z M1 => M = M1 ∧ (9 ≤ z ∧ z ≤ 9)) := by
  have hd : (3 : Int) = 2 ∨ (3 : Int) = 3 := by decide
  have hac := hS.2.2.2.2
  refine n_aload_n c_162_0 rfl ?_
  refine n_getV (bi := 0) c_162_1 sc_112.n rfl rfl rfl (t_dm hS hdm) ?_
  intro z1 ez1 f2
  obtain rfl : z1 = 3 := by omega
  refine n_iload_n c_162_4 rfl ?_
  refine n_s2I c_162_5 rfl rfl rfl rfl (mpower2_3  hS ) ?_
  intro z3 M4 hP5
  obtain ⟨eM, f5⟩ := hP5
  subst eM
  obtain rfl : z3 = 9 := by omega
  exact n_rI c_162_8 rfl ⟨rfl, by omega⟩

set_option maxHeartbeats 4000000 in
theorem mrowsOf_3 {xs : List Int32} {e : Nat} {ac : Int} {M0 M : nM} {n : Int} (hS : Sf 3 ac M0 M) (hdm : M0 112 0 = 3) (hn : 1 ≤ n ∧ n ≤ 2) : nW xs (e + 1) 162 0 [some (2, 112), some (0, n)] [] M (nPI fun z M1 => M = M1 ∧ (1 ≤ z ∧ z ≤ 9)) := by
  rcases (show n = 1 ∨ n = 2 by omega) with rfl | rfl
  · exact n_post (mrowsOf1_3 hS hdm) (fun w M1 h => by obtain ⟨z, rfl, h1, h2⟩ := h; exact ⟨z, rfl, h1, by omega⟩)
  · exact n_post (mrowsOf2_3 hS hdm) (fun w M1 h => by obtain ⟨z, rfl, h1, h2⟩ := h; exact ⟨z, rfl, h1, by omega⟩)

set_option maxHeartbeats 4000000 in
theorem msizeOf_3 {xs : List Int32} {e : Nat} {ac : Int} {M0 M : nM} {n i : Int} (hS : Sf 3 ac M0 M) (hdm : M0 112 0 = 3) (hn : 0 ≤ n ∧ n ≤ 3) (hi : 0 ≤ i ∧ i ≤ 255) : nW xs e 164 0 [some (2, 112), some (0, n), some (0, i)] [] M (nPI fun z M1 => M = M1 ∧ (0 ≤ z ∧ z ≤ 1000000)) := by
  have hd : (3 : Int) = 2 ∨ (3 : Int) = 3 := by decide
  have hac := hS.2.2.2.2
  refine n_aload_n c_164_0 rfl ?_
  refine n_getR c_164_1 sc_112.n rfl rfl rfl r_112_15 ?_
  refine n_sipush c_164_4 rfl ?_
  refine n_iload_n c_164_7 rfl ?_
  refine n_imul c_164_8 rfl ?_
  refine n_iload_n c_164_9 rfl ?_
  refine n_iadd c_164_10 rfl ?_
  refine n_ialoadV c_164_11 sc_123.n rfl rfl rfl (by omega) (t_123 hS (by omega)) ?_
  intro z1 ez1 f2
  exact n_rI c_164_12 rfl ⟨rfl, by omega⟩

set_option maxHeartbeats 4000000 in
theorem mlay_3_c {xs : List Int32} {e : Nat} {ac : Int} {M0 M : nM} {c r g : Int} (hS : Sf 3 ac M0 M) (hdm : M0 112 0 = 3) (hc : 0 ≤ c ∧ c ≤ 4611686018427387904) (hr : 0 ≤ r ∧ r ≤ 27) (hg : M 112 22 = g) : ∀ nn : Nat, (∀ (x4 x6 : Int) (M : nM), Sf 3 ac M0 M → (0 ≤ x4 ∧ x4 ≤ 4611686018427387904) → (0 ≤ x6 ∧ x6 ≤ 27) → (M 112 22 = g) → (27 - x6) * 1 + 1 < (nn : Int) → nW xs e 171 6 [some (2, 112), none, none, some (0, r), some (1, x4), none, some (0, x6)] [] M (nPV fun M1 => Sf 3 ac M0 M1 ∧ (M1 112 22 = g))) := by
  have hd : (3 : Int) = 2 ∨ (3 : Int) = 3 := by decide
  have hac := hS.2.2.2.2
  intro nn
  induction nn with
  | zero => intros; omega
  | succ nn ih =>
    intro x4 x6 M hS k4 k6 hgg hnn
    refine n_iload c_171_6 rfl ?_
    refine n_iload_n c_171_8 rfl ?_
    refine n_if2_ge c_171_9 (by omega) (by omega) ?_ ?_
    · intro h1
      exact n_rV c_171_44 rfl ⟨hS, by omega⟩
    · intro h2
      refine n_aload_n c_171_12 rfl ?_
      refine n_getR c_171_13 sc_112.n rfl rfl rfl r_112_19 ?_
      refine n_iload c_171_16 rfl ?_
      refine n_lload c_171_18 rfl ?_
      refine n_aload_n c_171_20 rfl ?_
      refine n_getV (bi := 0) c_171_21 sc_112.n rfl rfl rfl (t_dm hS hdm) ?_
      intro z3 ez3 f4
      obtain rfl : z3 = 3 := by omega
      refine n_i2l c_171_24 (by omega) ?_
      refine n_lremV c_171_25 (by omega) (by omega) ?_
      intro z5 _ f6
      refine n_l2i c_171_26 ?_
      refine n_iastoreV hS c_171_27 sc_127.n rfl (by omega) (w_127 (by omega) (by omega)) ?_
      intro M7 eM7 hS7
      have g7_0 : M7 112 22 = M 112 22 := by rw [eM7]; exact nu_a (by omega)
      refine n_lload c_171_28 rfl ?_
      refine n_aload_n c_171_30 rfl ?_
      refine n_getV (bi := 0) c_171_31 sc_112.n rfl rfl rfl (t_dm hS7 hdm) ?_
      intro z8 ez8 f9
      obtain rfl : z8 = 3 := by omega
      refine n_i2l c_171_34 (by omega) ?_
      refine n_ldivV c_171_35 (by omega) (by omega) ?_
      intro z10 _ f11
      refine n_lstore (L2 := [some (2, 112), none, none, some (0, r), some (1, z10), none, some (0, x6)]) c_171_36 rfl rfl ?_
      refine n_iinc (L2 := [some (2, 112), none, none, some (0, r), some (1, z10), none, some (0, (x6 + 1))]) c_171_38 rfl rfl rfl ?_
      refine n_goto c_171_41 ?_
      refine n_fg (le_s (le_n (le_n (le_s (le_s (le_n (le_s le_0))))))) ?_
      exact ih _ _ M7 hS7 (by omega) (by omega) (by omega) (by omega)
set_option maxHeartbeats 4000000 in
theorem mlay_3 {xs : List Int32} {e : Nat} {ac : Int} {M0 M : nM} {c r g : Int} (hS : Sf 3 ac M0 M) (hdm : M0 112 0 = 3) (hc : 0 ≤ c ∧ c ≤ 4611686018427387904) (hr : 0 ≤ r ∧ r ≤ 27) (hg : M 112 22 = g) : nW xs e 171 0 [some (2, 112), some (1, c), none, some (0, r), none, none, none] [] M (nPV fun M1 => Sf 3 ac M0 M1 ∧ (M1 112 22 = g)) := by
  have hd : (3 : Int) = 2 ∨ (3 : Int) = 3 := by decide
  have hac := hS.2.2.2.2
  refine n_lload_n c_171_0 rfl ?_
  refine n_lstore (L2 := [some (2, 112), some (1, c), none, some (0, r), some (1, c), none, none]) c_171_1 rfl rfl ?_
  refine n_iconst c_171_3 ?_
  refine n_istore (L2 := [some (2, 112), some (1, c), none, some (0, r), some (1, c), none, some (0, 0)]) c_171_4 rfl rfl ?_
  refine n_fg (le_s (le_n (le_n (le_s (le_s (le_n (le_s le_0))))))) ?_
  exact (mlay_3_c hS hdm hc hr hg 68) _ _ M hS (by omega) (by omega) (by omega) (by omega)

set_option maxHeartbeats 4000000 in
theorem mhandKeeps_3_c {xs : List Int32} {e : Nat} {ac : Int} {M0 M : nM} {m k : Int} (hS : Sf 3 ac M0 M) (hdm : M0 112 0 = 3) (hm : 0 ≤ m ∧ m ≤ 3) (hk : -2147483648 ≤ k ∧ k ≤ 2147483647) : ∀ nn : Nat, (∀ (x3 : Int), (0 ≤ x3 ∧ x3 ≤ 12) → (12 - x3) * 2 + 2 < (nn : Int) → nW xs (e + 3) 172 2 [some (2, 112), some (0, m), some (0, k), some (0, x3)] [] M (nPI fun z M1 => M = M1 ∧ (0 ≤ z ∧ z ≤ 1))) ∧ (∀ (x3 : Int), (0 ≤ x3 ∧ x3 ≤ 11) → (12 - x3) * 2 + 1 < (nn : Int) → nW xs (e + 3) 172 47 [some (2, 112), some (0, m), some (0, k), some (0, x3)] [] M (nPI fun z M1 => M = M1 ∧ (0 ≤ z ∧ z ≤ 1))) := by
  have hd : (3 : Int) = 2 ∨ (3 : Int) = 3 := by decide
  have hac := hS.2.2.2.2
  intro nn
  induction nn with
  | zero => refine ⟨?_, ?_⟩ <;> (intros; omega)
  | succ nn ih =>
    refine ⟨?_, ?_⟩
    · intro x3 k3 hnn
      refine n_iload_n c_172_2 rfl ?_
      refine n_aload_n c_172_3 rfl ?_
      refine n_getV (bi := 7) c_172_4 sc_112.n rfl rfl rfl (t_112_7 hS) ?_
      intro z1 ez1 f2
      refine n_if2_ge c_172_7 (by omega) (by omega) ?_ ?_
      · intro h3
        refine n_iconst c_172_53 ?_
        exact n_rZ c_172_54 rfl (by omega) ⟨rfl, by omega⟩
      · intro h4
        refine n_iload_n c_172_10 rfl ?_
        refine n_iload_n c_172_11 rfl ?_
        refine n_i_ishr c_172_12 rfl ?_
        have f5 := n_shr_r k x3
        generalize (n_shr k x3) = z6 at f5 ⊢
        refine n_iconst c_172_13 ?_
        refine n_i_iand c_172_14 rfl ?_
        have f7 := n_and_y (x := z6) (y := 1) (by omega)
        generalize (n_and z6 1) = z8 at f7 ⊢
        refine n_iconst c_172_15 ?_
        refine n_if2_ne c_172_16 (by omega) (by omega) ?_ ?_
        · intro h9
          refine n_fg (le_s (le_s (le_s (le_s le_0)))) ?_
          exact ih.2 _ (by omega) (by omega)
        · intro h10
          refine n_aload_n c_172_19 rfl ?_
          refine n_iload_n c_172_20 rfl ?_
          refine n_aload_n c_172_21 rfl ?_
          refine n_getR c_172_22 sc_112.n rfl rfl rfl r_112_19 ?_
          refine n_iconst c_172_25 ?_
          refine n_aload_n c_172_26 rfl ?_
          refine n_getR c_172_27 sc_112.n rfl rfl rfl r_112_8 ?_
          refine n_iload_n c_172_30 rfl ?_
          refine n_ialoadV c_172_31 sc_118.n rfl rfl rfl (by omega) (t_118 hS (by omega)) ?_
          intro z11 ez11 f12
          refine n_aload_n c_172_32 rfl ?_
          refine n_getR c_172_33 sc_112.n rfl rfl rfl r_112_9 ?_
          refine n_iload_n c_172_36 rfl ?_
          refine n_laloadV c_172_37 sc_119.n rfl rfl rfl (by omega) (t_119 hS (by omega)) ?_
          intro z13 ez13 f14
          refine n_v5I c_172_38 rfl sc_112.n rfl rfl rfl rfl (escapesH_3 (m := m) (f := 0) (k := z11) (s := z13) hS hdm (by omega) (by omega) (by omega) (by omega)) ?_
          intro z15 M16 hP17
          obtain ⟨eM, f17, f17p0⟩ := hP17
          subst eM
          refine n_iconst c_172_41 ?_
          refine n_if2_eq c_172_42 (by omega) (by omega) ?_ ?_
          · intro h18
            refine n_fg (le_s (le_s (le_s (le_s le_0)))) ?_
            exact ih.2 _ (by omega) (by omega)
          · intro h19
            refine n_iconst c_172_45 ?_
            exact n_rZ c_172_46 rfl (by omega) ⟨rfl, by omega⟩
    · intro x3 k3 hnn
      refine n_iinc (L2 := [some (2, 112), some (0, m), some (0, k), some (0, (x3 + 1))]) c_172_47 rfl rfl rfl ?_
      refine n_goto c_172_50 ?_
      refine n_fg (le_s (le_s (le_s (le_s le_0)))) ?_
      exact ih.1 _ (by omega) (by omega)
set_option maxHeartbeats 4000000 in
theorem mhandKeeps_3 {xs : List Int32} {e : Nat} {ac : Int} {M0 M : nM} {m k : Int} (hS : Sf 3 ac M0 M) (hdm : M0 112 0 = 3) (hm : 0 ≤ m ∧ m ≤ 3) (hk : -2147483648 ≤ k ∧ k ≤ 2147483647) : nW xs (e + 3) 172 0 [some (2, 112), some (0, m), some (0, k), none] [] M (nPI fun z M1 => M = M1 ∧ (0 ≤ z ∧ z ≤ 1)) := by
  have hd : (3 : Int) = 2 ∨ (3 : Int) = 3 := by decide
  have hac := hS.2.2.2.2
  refine n_iconst c_172_0 ?_
  refine n_istore_n (L2 := [some (2, 112), some (0, m), some (0, k), some (0, 0)]) c_172_1 rfl rfl ?_
  refine n_fg (le_s (le_s (le_s (le_s le_0)))) ?_
  exact (mhandKeeps_3_c hS hdm hm hk 66).1 _ (by omega) (by omega)

set_option maxHeartbeats 4000000 in
theorem mheaps_3_c {xs : List Int32} {e : Nat} {ac : Int} {M0 M : nM} (hS : Sf 3 ac M0 M) (hdm : M0 112 0 = 3) : ∀ nn : Nat, (∀ (x1 x2 : Int), (-2147483648 ≤ x1 ∧ x1 ≤ 2147483647) → (1 ≤ x2 ∧ x2 ≤ 8) → (8 - x2) * 1 + 1 < (nn : Int) → nW xs (e + 5) 176 4 [some (2, 112), some (0, x1), some (0, x2)] [] M (nPI fun z M1 => M = M1 ∧ (-2147483648 ≤ z ∧ z ≤ 2147483647))) := by
  have hd : (3 : Int) = 2 ∨ (3 : Int) = 3 := by decide
  have hac := hS.2.2.2.2
  intro nn
  induction nn with
  | zero => intros; omega
  | succ nn ih =>
    intro x1 x2 k1 k2 hnn
    refine n_iload_n c_176_4 rfl ?_
    refine n_iconst c_176_5 ?_
    refine n_aload_n c_176_6 rfl ?_
    refine n_getV (bi := 0) c_176_7 sc_112.n rfl rfl rfl (t_dm hS hdm) ?_
    intro z1 ez1 f2
    obtain rfl : z1 = 3 := by omega
    refine n_i_ishl (z := 8) c_176_10 (by decide) ?_
    refine n_if2_ge c_176_11 (by omega) (by omega) ?_ ?_
    · intro h3
      refine n_iload_n c_176_38 rfl ?_
      exact n_rI c_176_39 rfl ⟨rfl, by omega⟩
    · intro h4
      refine n_iload_n c_176_14 rfl ?_
      refine n_aload_n c_176_15 rfl ?_
      refine n_iconst c_176_16 ?_
      refine n_iload_n c_176_17 rfl ?_
      refine n_i2l c_176_18 (by omega) ?_
      refine n_v2I c_176_19 rfl sc_112.n rfl rfl rfl rfl (mallKeep_3 (k := 1) (s := x2) hS hdm (by omega) (by omega)) ?_
      intro z5 M6 hP7
      obtain ⟨eM, f7⟩ := hP7
      subst eM
      refine n_if0_eq c_176_22 (by omega) ?_ ?_
      · intro h8
        refine n_iconst c_176_29 ?_
        refine n_iadd c_176_30 rfl ?_
        refine n_istore_n (L2 := [some (2, 112), some (0, (x1 + 0)), some (0, x2)]) c_176_31 rfl rfl ?_
        refine n_iinc (L2 := [some (2, 112), some (0, (x1 + 0)), some (0, (x2 + 1))]) c_176_32 rfl rfl rfl ?_
        refine n_goto c_176_35 ?_
        refine n_fg (le_s (le_s (le_s le_0))) ?_
        exact ih _ _ (by omega) (by omega) (by omega)
      · intro h9
        refine n_iconst c_176_25 ?_
        refine n_goto c_176_26 ?_
        refine n_iadd c_176_30 rfl ?_
        refine n_wrap ?_
        have f10 := n_wr_r (x1 + 1)
        generalize n_wr (x1 + 1) = z11 at f10 ⊢
        refine n_istore_n (L2 := [some (2, 112), some (0, z11), some (0, x2)]) c_176_31 rfl rfl ?_
        refine n_iinc (L2 := [some (2, 112), some (0, z11), some (0, (x2 + 1))]) c_176_32 rfl rfl rfl ?_
        refine n_goto c_176_35 ?_
        refine n_fg (le_s (le_s (le_s le_0))) ?_
        exact ih _ _ (by omega) (by omega) (by omega)
set_option maxHeartbeats 4000000 in
theorem mheaps_3 {xs : List Int32} {e : Nat} {ac : Int} {M0 M : nM} (hS : Sf 3 ac M0 M) (hdm : M0 112 0 = 3) : nW xs (e + 5) 176 0 [some (2, 112), none, none] [] M (nPI fun z M1 => M = M1 ∧ (-2147483648 ≤ z ∧ z ≤ 2147483647)) := by
  have hd : (3 : Int) = 2 ∨ (3 : Int) = 3 := by decide
  have hac := hS.2.2.2.2
  refine n_iconst c_176_0 ?_
  refine n_istore_n (L2 := [some (2, 112), some (0, 0), none]) c_176_1 rfl rfl ?_
  refine n_iconst c_176_2 ?_
  refine n_istore_n (L2 := [some (2, 112), some (0, 0), some (0, 1)]) c_176_3 rfl rfl ?_
  refine n_fg (le_s (le_s (le_s le_0))) ?_
  exact (mheaps_3_c hS hdm 28) _ _ (by omega) (by omega) (by omega)

set_option maxHeartbeats 4000000 in
theorem misParting_3_c {xs : List Int32} {e : Nat} {ac : Int} {M0 M : nM} {n : Int} (hS : Sf 3 ac M0 M) (hdm : M0 112 0 = 3) (hn : -2147483648 ≤ n ∧ n ≤ 2147483647) : ∀ nn : Nat, (∀ (x2 : Int), (0 ≤ x2 ∧ x2 ≤ 3) → (3 - x2) * 1 + 2 < (nn : Int) → nW xs e 178 2 [some (2, 112), some (0, n), some (0, x2), none] [] M (nPI fun z M1 => M = M1 ∧ (0 ≤ z ∧ z ≤ 1))) ∧ (1 < (nn : Int) → nW xs e 178 34 [none, none, none, none] [] M (nPI fun z M1 => M = M1 ∧ (0 ≤ z ∧ z ≤ 1))) := by
  have hd : (3 : Int) = 2 ∨ (3 : Int) = 3 := by decide
  have hac := hS.2.2.2.2
  intro nn
  induction nn with
  | zero => refine ⟨?_, ?_⟩ <;> (intros; omega)
  | succ nn ih =>
    refine ⟨?_, ?_⟩
    · intro x2 k2 hnn
      refine n_iload_n c_178_2 rfl ?_
      refine n_aload_n c_178_3 rfl ?_
      refine n_getV (bi := 0) c_178_4 sc_112.n rfl rfl rfl (t_dm hS hdm) ?_
      intro z1 ez1 f2
      obtain rfl : z1 = 3 := by omega
      refine n_if2_ge c_178_7 (by omega) (by omega) ?_ ?_
      · intro h3
        refine n_iconst c_178_42 ?_
        exact n_rZ c_178_43 rfl (by omega) ⟨rfl, by omega⟩
      · intro h4
        refine n_iload_n c_178_10 rfl ?_
        refine n_iconst c_178_11 ?_
        refine n_iload_n c_178_12 rfl ?_
        refine n_imul c_178_13 rfl ?_
        refine n_i_ishr c_178_14 rfl ?_
        have f5 := n_shr_r n (2 * x2)
        generalize (n_shr n (2 * x2)) = z6 at f5 ⊢
        refine n_iconst c_178_15 ?_
        refine n_i_iand c_178_16 rfl ?_
        have f7 := n_and_y (x := z6) (y := 3) (by omega)
        generalize (n_and z6 3) = z8 at f7 ⊢
        refine n_istore_n (L2 := [some (2, 112), some (0, n), some (0, x2), some (0, z8)]) c_178_17 rfl rfl ?_
        refine n_iload_n c_178_18 rfl ?_
        refine n_iload_n c_178_19 rfl ?_
        refine n_if2_gt c_178_20 (by omega) (by omega) ?_ ?_
        · intro h9
          refine n_fg (le_n (le_n (le_n (le_n le_0)))) ?_
          exact ih.2   (by omega)
        · intro h10
          refine n_iload_n c_178_23 rfl ?_
          refine n_iconst c_178_24 ?_
          refine n_iload_n c_178_25 rfl ?_
          refine n_imul c_178_26 rfl ?_
          refine n_i_ishr c_178_27 rfl ?_
          have f11 := n_shr_r n (2 * z8)
          generalize (n_shr n (2 * z8)) = z12 at f11 ⊢
          refine n_iconst c_178_28 ?_
          refine n_i_iand c_178_29 rfl ?_
          have f13 := n_and_y (x := z12) (y := 3) (by omega)
          generalize (n_and z12 3) = z14 at f13 ⊢
          refine n_iload_n c_178_30 rfl ?_
          refine n_if2_eq c_178_31 (by omega) (by omega) ?_ ?_
          · intro h15
            refine n_iinc (L2 := [some (2, 112), some (0, n), some (0, (x2 + 1)), some (0, z8)]) c_178_36 rfl rfl rfl ?_
            refine n_goto c_178_39 ?_
            refine n_fg (le_s (le_s (le_s (le_n le_0)))) ?_
            exact ih.1 _ (by omega) (by omega)
          · intro h16
            refine n_fg (le_n (le_n (le_n (le_n le_0)))) ?_
            exact ih.2   (by omega)
    · intro hnn
      refine n_iconst c_178_34 ?_
      exact n_rZ c_178_35 rfl (by omega) ⟨rfl, by omega⟩
set_option maxHeartbeats 4000000 in
theorem misParting_3 {xs : List Int32} {e : Nat} {ac : Int} {M0 M : nM} {n : Int} (hS : Sf 3 ac M0 M) (hdm : M0 112 0 = 3) (hn : -2147483648 ≤ n ∧ n ≤ 2147483647) : nW xs e 178 0 [some (2, 112), some (0, n), none, none] [] M (nPI fun z M1 => M = M1 ∧ (0 ≤ z ∧ z ≤ 1)) := by
  have hd : (3 : Int) = 2 ∨ (3 : Int) = 3 := by decide
  have hac := hS.2.2.2.2
  refine n_iconst c_178_0 ?_
  refine n_istore_n (L2 := [some (2, 112), some (0, n), some (0, 0), none]) c_178_1 rfl rfl ?_
  refine n_fg (le_s (le_s (le_s (le_n le_0)))) ?_
  exact (misParting_3_c hS hdm hn 22).1 _ (by omega) (by omega)

set_option maxHeartbeats 4000000 in
theorem misPairing_3_c {xs : List Int32} {e : Nat} {ac : Int} {M0 M : nM} {n : Int} (hS : Sf 3 ac M0 M) (hdm : M0 112 0 = 3) (hn : -2147483648 ≤ n ∧ n ≤ 2147483647) : ∀ nn : Nat, (∀ (x2 x4 : Int), (-9223372036854775808 ≤ x2 ∧ x2 ≤ 9223372036854775807) → (0 ≤ x4 ∧ x4 ≤ 3) → (3 - x4) * 6 + 6 < (nn : Int) → nW xs (e + 5) 179 15 [some (2, 112), some (0, n), some (1, x2), none, some (0, x4), none] [] M (nPI fun z M1 => M = M1 ∧ (0 ≤ z ∧ z ≤ 1))) ∧ (∀ (x2 x4 x5 : Int), (-9223372036854775808 ≤ x2 ∧ x2 ≤ 9223372036854775807) → (0 ≤ x4 ∧ x4 ≤ 2) → (0 ≤ x5 ∧ x5 ≤ 3) → (3 - x4) * 6 + (3 - x5) * 1 + 1 < (nn : Int) → nW xs (e + 5) 179 27 [some (2, 112), some (0, n), some (1, x2), none, some (0, x4), some (0, x5)] [] M (nPI fun z M1 => M = M1 ∧ (0 ≤ z ∧ z ≤ 1))) := by
  have hd : (3 : Int) = 2 ∨ (3 : Int) = 3 := by decide
  have hac := hS.2.2.2.2
  intro nn
  induction nn with
  | zero => refine ⟨?_, ?_⟩ <;> (intros; omega)
  | succ nn ih =>
    refine ⟨?_, ?_⟩
    · intro x2 x4 k2 k4 hnn
      refine n_iload c_179_15 rfl ?_
      refine n_aload_n c_179_17 rfl ?_
      refine n_getV (bi := 0) c_179_18 sc_112.n rfl rfl rfl (t_dm hS hdm) ?_
      intro z1 ez1 f2
      obtain rfl : z1 = 3 := by omega
      refine n_if2_ge c_179_21 (by omega) (by omega) ?_ ?_
      · intro h3
        refine n_aload_n c_179_86 rfl ?_
        refine n_iconst c_179_87 ?_
        refine n_lload_n c_179_88 rfl ?_
        refine n_v2I c_179_89 rfl sc_112.n rfl rfl rfl rfl (mallKeep_3 (k := 2) (s := x2) hS hdm (by omega) (by omega)) ?_
        intro z4 M5 hP6
        obtain ⟨eM, f6⟩ := hP6
        subst eM
        exact n_rZ c_179_92 rfl (by omega) ⟨rfl, by omega⟩
      · intro h7
        refine n_iconst c_179_24 ?_
        refine n_istore (L2 := [some (2, 112), some (0, n), some (1, x2), none, some (0, x4), some (0, 0)]) c_179_25 rfl rfl ?_
        refine n_fg (le_s (le_s (le_s (le_n (le_s (le_s le_0)))))) ?_
        exact ih.2 _ _ _ (by omega) (by omega) (by omega) (by omega)
    · intro x2 x4 x5 k2 k4 k5 hnn
      refine n_iload c_179_27 rfl ?_
      refine n_aload_n c_179_29 rfl ?_
      refine n_getV (bi := 0) c_179_30 sc_112.n rfl rfl rfl (t_dm hS hdm) ?_
      intro z1 ez1 f2
      obtain rfl : z1 = 3 := by omega
      refine n_if2_ge c_179_33 (by omega) (by omega) ?_ ?_
      · intro h3
        refine n_iinc (L2 := [some (2, 112), some (0, n), some (1, x2), none, some (0, (x4 + 1)), some (0, x5)]) c_179_80 rfl rfl rfl ?_
        refine n_goto c_179_83 ?_
        refine n_fg (le_s (le_s (le_s (le_n (le_s (le_n le_0)))))) ?_
        exact ih.1 _ _ (by omega) (by omega) (by omega)
      · intro h4
        refine n_lload_n c_179_36 rfl ?_
        refine n_iload_n c_179_37 rfl ?_
        refine n_iconst c_179_38 ?_
        refine n_iload c_179_39 rfl ?_
        refine n_imul c_179_41 rfl ?_
        refine n_i_ishr c_179_42 rfl ?_
        have f5 := n_shr_r n (2 * x4)
        generalize (n_shr n (2 * x4)) = z6 at f5 ⊢
        refine n_iconst c_179_43 ?_
        refine n_i_iand c_179_44 rfl ?_
        have f7 := n_and_y (x := z6) (y := 3) (by omega)
        generalize (n_and z6 3) = z8 at f7 ⊢
        refine n_iload_n c_179_45 rfl ?_
        refine n_iconst c_179_46 ?_
        refine n_iload c_179_47 rfl ?_
        refine n_imul c_179_49 rfl ?_
        refine n_i_ishr c_179_50 rfl ?_
        have f9 := n_shr_r n (2 * x5)
        generalize (n_shr n (2 * x5)) = z10 at f9 ⊢
        refine n_iconst c_179_51 ?_
        refine n_i_iand c_179_52 rfl ?_
        have f11 := n_and_y (x := z10) (y := 3) (by omega)
        generalize (n_and z10 3) = z12 at f11 ⊢
        refine n_if2_ne c_179_53 (by omega) (by omega) ?_ ?_
        · intro h13
          refine n_lconst (n := 0) c_179_71 rfl ?_
          refine n_i_lor c_179_72 rfl ?_
          have f14 := n_lor_r x2 0
          generalize (n_lor x2 0) = z15 at f14 ⊢
          refine n_lstore_n (L2 := [some (2, 112), some (0, n), some (1, z15), none, some (0, x4), some (0, x5)]) c_179_73 rfl rfl ?_
          refine n_iinc (L2 := [some (2, 112), some (0, n), some (1, z15), none, some (0, x4), some (0, (x5 + 1))]) c_179_74 rfl rfl rfl ?_
          refine n_goto c_179_77 ?_
          refine n_fg (le_s (le_s (le_s (le_n (le_s (le_s le_0)))))) ?_
          exact ih.2 _ _ _ (by omega) (by omega) (by omega) (by omega)
        · intro h16
          refine n_lconst (n := 1) c_179_56 rfl ?_
          refine n_iload c_179_57 rfl ?_
          refine n_aload_n c_179_59 rfl ?_
          refine n_getV (bi := 0) c_179_60 sc_112.n rfl rfl rfl (t_dm hS hdm) ?_
          intro z17 ez17 f18
          obtain rfl : z17 = 3 := by omega
          refine n_imul c_179_63 rfl ?_
          refine n_iload c_179_64 rfl ?_
          refine n_iadd c_179_66 rfl ?_
          refine n_i_lshl c_179_67 rfl ?_
          have f19 := n_lshl_1 (y := ((x4 * 3) + x5)) (a := 0) (b := 8) (by decide) (by omega)
          generalize (n_lshl 1 ((x4 * 3) + x5)) = z20 at f19 ⊢
          refine n_goto c_179_68 ?_
          refine n_i_lor c_179_72 rfl ?_
          have f21 := n_lor_r x2 z20
          generalize (n_lor x2 z20) = z22 at f21 ⊢
          refine n_lstore_n (L2 := [some (2, 112), some (0, n), some (1, z22), none, some (0, x4), some (0, x5)]) c_179_73 rfl rfl ?_
          refine n_iinc (L2 := [some (2, 112), some (0, n), some (1, z22), none, some (0, x4), some (0, (x5 + 1))]) c_179_74 rfl rfl rfl ?_
          refine n_goto c_179_77 ?_
          refine n_fg (le_s (le_s (le_s (le_n (le_s (le_s le_0)))))) ?_
          exact ih.2 _ _ _ (by omega) (by omega) (by omega) (by omega)
set_option maxHeartbeats 4000000 in
theorem misPairing_3 {xs : List Int32} {e : Nat} {ac : Int} {M0 M : nM} {n : Int} (hS : Sf 3 ac M0 M) (hdm : M0 112 0 = 3) (hn : -2147483648 ≤ n ∧ n ≤ 2147483647) : nW xs (e + 5) 179 0 [some (2, 112), some (0, n), none, none, none, none] [] M (nPI fun z M1 => M = M1 ∧ (0 ≤ z ∧ z ≤ 1)) := by
  have hd : (3 : Int) = 2 ∨ (3 : Int) = 3 := by decide
  have hac := hS.2.2.2.2
  refine n_aload_n c_179_0 rfl ?_
  refine n_iload_n c_179_1 rfl ?_
  refine n_v1I c_179_2 rfl sc_112.n rfl rfl rfl rfl (misParting_3 (n := n) hS hdm (by omega)) ?_
  intro z1 M2 hP3
  obtain ⟨eM, f3⟩ := hP3
  subst eM
  refine n_if0_ne c_179_5 (by omega) ?_ ?_
  · intro h4
    refine n_lconst (n := 0) c_179_10 rfl ?_
    refine n_lstore_n (L2 := [some (2, 112), some (0, n), some (1, 0), none, none, none]) c_179_11 rfl rfl ?_
    refine n_iconst c_179_12 ?_
    refine n_istore (L2 := [some (2, 112), some (0, n), some (1, 0), none, some (0, 0), none]) c_179_13 rfl rfl ?_
    refine n_fg (le_s (le_s (le_s (le_n (le_s (le_n le_0)))))) ?_
    exact (misPairing_3_c hS hdm hn 70).1 _ _ (by omega) (by omega) (by omega)
  · intro h5
    refine n_iconst c_179_8 ?_
    exact n_rZ c_179_9 rfl (by omega) ⟨rfl, by omega⟩

set_option maxHeartbeats 4000000 in
theorem mpairings_3_c {xs : List Int32} {e : Nat} {ac : Int} {M0 M : nM} (hS : Sf 3 ac M0 M) (hdm : M0 112 0 = 3) : ∀ nn : Nat, (∀ (x1 x2 : Int), (-2147483648 ≤ x1 ∧ x1 ≤ 2147483647) → (0 ≤ x2 ∧ x2 ≤ 64) → (64 - x2) * 1 + 1 < (nn : Int) → nW xs (e + 6) 180 4 [some (2, 112), some (0, x1), some (0, x2)] [] M (nPI fun z M1 => M = M1 ∧ (-2147483648 ≤ z ∧ z ≤ 2147483647))) := by
  have hd : (3 : Int) = 2 ∨ (3 : Int) = 3 := by decide
  have hac := hS.2.2.2.2
  intro nn
  induction nn with
  | zero => intros; omega
  | succ nn ih =>
    intro x1 x2 k1 k2 hnn
    refine n_iload_n c_180_4 rfl ?_
    refine n_iconst c_180_5 ?_
    refine n_iconst c_180_6 ?_
    refine n_aload_n c_180_7 rfl ?_
    refine n_getV (bi := 0) c_180_8 sc_112.n rfl rfl rfl (t_dm hS hdm) ?_
    intro z1 ez1 f2
    obtain rfl : z1 = 3 := by omega
    refine n_imul c_180_11 rfl ?_
    refine n_i_ishl (z := 64) c_180_12 (by decide) ?_
    refine n_if2_ge c_180_13 (by omega) (by omega) ?_ ?_
    · intro h3
      refine n_iload_n c_180_38 rfl ?_
      exact n_rI c_180_39 rfl ⟨rfl, by omega⟩
    · intro h4
      refine n_iload_n c_180_16 rfl ?_
      refine n_aload_n c_180_17 rfl ?_
      refine n_iload_n c_180_18 rfl ?_
      refine n_v1I c_180_19 rfl sc_112.n rfl rfl rfl rfl (misPairing_3 (n := x2) hS hdm (by omega)) ?_
      intro z5 M6 hP7
      obtain ⟨eM, f7⟩ := hP7
      subst eM
      refine n_if0_eq c_180_22 (by omega) ?_ ?_
      · intro h8
        refine n_iconst c_180_29 ?_
        refine n_iadd c_180_30 rfl ?_
        refine n_istore_n (L2 := [some (2, 112), some (0, (x1 + 0)), some (0, x2)]) c_180_31 rfl rfl ?_
        refine n_iinc (L2 := [some (2, 112), some (0, (x1 + 0)), some (0, (x2 + 1))]) c_180_32 rfl rfl rfl ?_
        refine n_goto c_180_35 ?_
        refine n_fg (le_s (le_s (le_s le_0))) ?_
        exact ih _ _ (by omega) (by omega) (by omega)
      · intro h9
        refine n_iconst c_180_25 ?_
        refine n_goto c_180_26 ?_
        refine n_iadd c_180_30 rfl ?_
        refine n_wrap ?_
        have f10 := n_wr_r (x1 + 1)
        generalize n_wr (x1 + 1) = z11 at f10 ⊢
        refine n_istore_n (L2 := [some (2, 112), some (0, z11), some (0, x2)]) c_180_31 rfl rfl ?_
        refine n_iinc (L2 := [some (2, 112), some (0, z11), some (0, (x2 + 1))]) c_180_32 rfl rfl rfl ?_
        refine n_goto c_180_35 ?_
        refine n_fg (le_s (le_s (le_s le_0))) ?_
        exact ih _ _ (by omega) (by omega) (by omega)
set_option maxHeartbeats 4000000 in
theorem mpairings_3 {xs : List Int32} {e : Nat} {ac : Int} {M0 M : nM} (hS : Sf 3 ac M0 M) (hdm : M0 112 0 = 3) : nW xs (e + 6) 180 0 [some (2, 112), none, none] [] M (nPI fun z M1 => M = M1 ∧ (-2147483648 ≤ z ∧ z ≤ 2147483647)) := by
  have hd : (3 : Int) = 2 ∨ (3 : Int) = 3 := by decide
  have hac := hS.2.2.2.2
  refine n_iconst c_180_0 ?_
  refine n_istore_n (L2 := [some (2, 112), some (0, 0), none]) c_180_1 rfl rfl ?_
  refine n_iconst c_180_2 ?_
  refine n_istore_n (L2 := [some (2, 112), some (0, 0), some (0, 0)]) c_180_3 rfl rfl ?_
  refine n_fg (le_s (le_s (le_s le_0))) ?_
  exact (mpairings_3_c hS hdm 142) _ _ (by omega) (by omega) (by omega)

set_option maxHeartbeats 4000000 in
theorem mpairing_3_c {xs : List Int32} {e : Nat} {ac : Int} {M0 M : nM} {i : Int} (hS : Sf 3 ac M0 M) (hdm : M0 112 0 = 3) (hi : -2147483648 ≤ i ∧ i ≤ 2147483647) : ∀ nn : Nat, (∀ (x2 x3 : Int), (-2147483648 ≤ x2 ∧ x2 ≤ 2147483647) → (0 ≤ x3 ∧ x3 ≤ 64) → (64 - x3) * 2 + 3 < (nn : Int) → nW xs (e + 6) 181 4 [some (2, 112), none, some (0, x2), some (0, x3)] [] M (nPI fun z M1 => M = M1 ∧ (-2147483648 ≤ z ∧ z ≤ 2147483647))) ∧ (∀ (x2 x3 : Int), (0 ≤ x2 ∧ x2 ≤ 2147483647) → (0 ≤ x3 ∧ x3 ≤ 63) → (64 - x3) * 2 + 2 < (nn : Int) → nW xs (e + 6) 181 37 [some (2, 112), none, some (0, x2), some (0, x3)] [] M (nPI fun z M1 => M = M1 ∧ (-2147483648 ≤ z ∧ z ≤ 2147483647))) ∧ (1 < (nn : Int) → nW xs (e + 6) 181 43 [none, none, none, none] [] M (nPI fun z M1 => M = M1 ∧ (-2147483648 ≤ z ∧ z ≤ 2147483647))) := by
  have hd : (3 : Int) = 2 ∨ (3 : Int) = 3 := by decide
  have hac := hS.2.2.2.2
  intro nn
  induction nn with
  | zero => refine ⟨?_, ?_, ?_⟩ <;> (intros; omega)
  | succ nn ih =>
    refine ⟨?_, ?_, ?_⟩
    · intro x2 x3 k2 k3 hnn
      refine n_iload_n c_181_4 rfl ?_
      refine n_iconst c_181_5 ?_
      refine n_iconst c_181_6 ?_
      refine n_aload_n c_181_7 rfl ?_
      refine n_getV (bi := 0) c_181_8 sc_112.n rfl rfl rfl (t_dm hS hdm) ?_
      intro z1 ez1 f2
      obtain rfl : z1 = 3 := by omega
      refine n_imul c_181_11 rfl ?_
      refine n_i_ishl (z := 64) c_181_12 (by decide) ?_
      refine n_if2_ge c_181_13 (by omega) (by omega) ?_ ?_
      · intro h3
        refine n_fg (le_n (le_n (le_n (le_n le_0)))) ?_
        exact ih.2.2   (by omega)
      · intro h4
        refine n_iload_n c_181_16 rfl ?_
        refine n_if0_lt c_181_17 (by omega) ?_ ?_
        · intro h5
          refine n_fg (le_n (le_n (le_n (le_n le_0)))) ?_
          exact ih.2.2   (by omega)
        · intro h6
          refine n_aload_n c_181_20 rfl ?_
          refine n_iload_n c_181_21 rfl ?_
          refine n_v1I c_181_22 rfl sc_112.n rfl rfl rfl rfl (misPairing_3 (n := x3) hS hdm (by omega)) ?_
          intro z7 M8 hP9
          obtain ⟨eM, f9⟩ := hP9
          subst eM
          refine n_if0_eq c_181_25 (by omega) ?_ ?_
          · intro h10
            refine n_fg (le_s (le_n (le_s (le_s le_0)))) ?_
            exact ih.2.1 _ _ (by omega) (by omega) (by omega)
          · intro h11
            refine n_iload_n c_181_28 rfl ?_
            refine n_if0_ne c_181_29 (by omega) ?_ ?_
            · intro h12
              refine n_iinc (L2 := [some (2, 112), none, some (0, (x2 + (-1))), some (0, x3)]) c_181_34 rfl rfl rfl ?_
              refine n_fg (le_s (le_n (le_s (le_s le_0)))) ?_
              exact ih.2.1 _ _ (by omega) (by omega) (by omega)
            · intro h13
              refine n_iload_n c_181_32 rfl ?_
              exact n_rI c_181_33 rfl ⟨rfl, by omega⟩
    · intro x2 x3 k2 k3 hnn
      refine n_iinc (L2 := [some (2, 112), none, some (0, x2), some (0, (x3 + 1))]) c_181_37 rfl rfl rfl ?_
      refine n_goto c_181_40 ?_
      refine n_fg (le_s (le_n (le_s (le_s le_0)))) ?_
      exact ih.1 _ _ (by omega) (by omega) (by omega)
    · intro hnn
      refine n_iconst c_181_43 ?_
      exact n_rI c_181_44 rfl ⟨rfl, by omega⟩
set_option maxHeartbeats 4000000 in
theorem mpairing_3 {xs : List Int32} {e : Nat} {ac : Int} {M0 M : nM} {i : Int} (hS : Sf 3 ac M0 M) (hdm : M0 112 0 = 3) (hi : -2147483648 ≤ i ∧ i ≤ 2147483647) : nW xs (e + 6) 181 0 [some (2, 112), some (0, i), none, none] [] M (nPI fun z M1 => M = M1 ∧ (-2147483648 ≤ z ∧ z ≤ 2147483647)) := by
  have hd : (3 : Int) = 2 ∨ (3 : Int) = 3 := by decide
  have hac := hS.2.2.2.2
  refine n_iload_n c_181_0 rfl ?_
  refine n_istore_n (L2 := [some (2, 112), some (0, i), some (0, i), none]) c_181_1 rfl rfl ?_
  refine n_iconst c_181_2 ?_
  refine n_istore_n (L2 := [some (2, 112), some (0, i), some (0, i), some (0, 0)]) c_181_3 rfl rfl ?_
  refine n_fg (le_s (le_n (le_s (le_s le_0)))) ?_
  exact (mpairing_3_c hS hdm hi 276).1 _ _ (by omega) (by omega) (by omega)

set_option maxHeartbeats 4000000 in
theorem msigns_3_c {xs : List Int32} {e : Nat} {ac : Int} {M0 M : nM} {a : Int} (hS : Sf 3 ac M0 M) (hdm : M0 112 0 = 3) (ha : -2147483648 ≤ a ∧ a ≤ 2147483647) : ∀ nn : Nat, (1 < (nn : Int) → nW xs (e + 1) 185 20 [none, none, none, none] [] M (nPI fun z M1 => M = M1 ∧ (-2147483648 ≤ z ∧ z ≤ 2147483647))) := by
  have hd : (3 : Int) = 2 ∨ (3 : Int) = 3 := by decide
  have hac := hS.2.2.2.2
  intro nn
  induction nn with
  | zero => intros; omega
  | succ nn ih =>
    intro hnn
    refine n_iconst c_185_20 ?_
    exact n_rI c_185_21 rfl ⟨rfl, by omega⟩
set_option maxHeartbeats 4000000 in
theorem msigns_3 {xs : List Int32} {e : Nat} {ac : Int} {M0 M : nM} {a : Int} (hS : Sf 3 ac M0 M) (hdm : M0 112 0 = 3) (ha : -2147483648 ≤ a ∧ a ≤ 2147483647) : nW xs (e + 1) 185 0 [some (2, 112), some (0, a), none, none] [] M (nPI fun z M1 => M = M1 ∧ (-2147483648 ≤ z ∧ z ≤ 2147483647)) := by
  have hd : (3 : Int) = 2 ∨ (3 : Int) = 3 := by decide
  have hac := hS.2.2.2.2
  refine n_iload_n c_185_0 rfl ?_
  refine n_if0_lt c_185_1 (by omega) ?_ ?_
  · intro h1
    refine n_fg (le_n (le_n (le_n (le_n le_0)))) ?_
    exact (msigns_3_c hS hdm ha 12)   (by omega)
  · intro h2
    refine n_iload_n c_185_4 rfl ?_
    refine n_aload_n c_185_5 rfl ?_
    refine n_getV (bi := 4) c_185_6 sc_112.n rfl rfl rfl (t_112_4 hS) ?_
    intro z3 ez3 f4
    refine n_if2_ge c_185_9 (by omega) (by omega) ?_ ?_
    · intro h5
      refine n_fg (le_n (le_n (le_n (le_n le_0)))) ?_
      exact (msigns_3_c hS hdm ha 12)   (by omega)
    · intro h6
      refine n_aload_n c_185_12 rfl ?_
      refine n_getV (bi := 0) c_185_13 sc_112.n rfl rfl rfl (t_dm hS hdm) ?_
      intro z7 ez7 f8
      obtain rfl : z7 = 3 := by omega
      refine n_iconst c_185_16 ?_
      refine n_if2_ne c_185_17 (by omega) (by omega) ?_ ?_
      · intro h9
        exfalso; omega
      · intro h10
        refine n_fg (le_n (le_n (le_n (le_n le_0)))) ?_
        exact (msigns_3_c hS hdm ha 12)   (by omega)

set_option maxHeartbeats 4000000 in
theorem mwhole_3 {xs : List Int32} {e : Nat} {ac : Int} {M0 M : nM} (hS : Sf 3 ac M0 M) (hdm : M0 112 0 = 3) : nW xs (e + 2) 186 0 [some (2, 112), none, none] [] M (nPI fun z M1 => M = M1 ∧ (-2147483648 ≤ z ∧ z ≤ 2147483647)) := by
  have hd : (3 : Int) = 2 ∨ (3 : Int) = 3 := by decide
  have hac := hS.2.2.2.2
  refine n_aload_n c_186_0 rfl ?_
  refine n_getV (bi := 0) c_186_1 sc_112.n rfl rfl rfl (t_dm hS hdm) ?_
  intro z1 ez1 f2
  obtain rfl : z1 = 3 := by omega
  refine n_iconst c_186_4 ?_
  refine n_if2_ne c_186_5 (by omega) (by omega) ?_ ?_
  · intro h3
    exfalso; omega
  · intro h4
    refine n_iconst c_186_8 ?_
    exact n_rI c_186_9 rfl ⟨rfl, by omega⟩

set_option maxHeartbeats 4000000 in
theorem misUnknown_3_c {xs : List Int32} {e : Nat} {ac : Int} {M0 M : nM} {u : Int} (hS : Sf 3 ac M0 M) (hdm : M0 112 0 = 3) (hu : -2147483648 ≤ u ∧ u ≤ 2147483647) : ∀ nn : Nat, (1 < (nn : Int) → nW xs e 188 16 [none, none] [] M (nPI fun z M1 => M = M1 ∧ (0 ≤ z ∧ z ≤ 1) ∧ (z = 0 ∨ (0 ≤ u ∧ u ≤ 7)))) := by
  have hd : (3 : Int) = 2 ∨ (3 : Int) = 3 := by decide
  have hac := hS.2.2.2.2
  intro nn
  induction nn with
  | zero => intros; omega
  | succ nn ih =>
    intro hnn
    refine n_iconst c_188_16 ?_
    exact n_rZ c_188_17 rfl (by omega) ⟨rfl, by omega, by omega⟩
set_option maxHeartbeats 4000000 in
theorem misUnknown_3 {xs : List Int32} {e : Nat} {ac : Int} {M0 M : nM} {u : Int} (hS : Sf 3 ac M0 M) (hdm : M0 112 0 = 3) (hu : -2147483648 ≤ u ∧ u ≤ 2147483647) : nW xs e 188 0 [some (2, 112), some (0, u)] [] M (nPI fun z M1 => M = M1 ∧ (0 ≤ z ∧ z ≤ 1) ∧ (z = 0 ∨ (0 ≤ u ∧ u ≤ 7))) := by
  have hd : (3 : Int) = 2 ∨ (3 : Int) = 3 := by decide
  have hac := hS.2.2.2.2
  refine n_iload_n c_188_0 rfl ?_
  refine n_if0_lt c_188_1 (by omega) ?_ ?_
  · intro h1
    refine n_fg (le_n (le_n le_0)) ?_
    exact (misUnknown_3_c hS hdm hu 12)   (by omega)
  · intro h2
    refine n_iload_n c_188_4 rfl ?_
    refine n_aload_n c_188_5 rfl ?_
    refine n_getV (bi := 10) c_188_6 sc_112.n rfl rfl rfl (t_112_10 hS) ?_
    intro z3 ez3 f4
    refine n_if2_ge c_188_9 (by omega) (by omega) ?_ ?_
    · intro h5
      refine n_fg (le_n (le_n le_0)) ?_
      exact (misUnknown_3_c hS hdm hu 12)   (by omega)
    · intro h6
      refine n_iconst c_188_12 ?_
      refine n_goto c_188_13 ?_
      exact n_rZ c_188_17 rfl (by omega) ⟨rfl, by omega, by omega⟩

set_option maxHeartbeats 4000000 in
theorem masked_3_c {xs : List Int32} {e : Nat} {ac : Int} {M0 M : nM} (hS : Sf 3 ac M0 M) (hdm : M0 112 0 = 3) : ∀ nn : Nat, (∀ (x1 x2 : Int), (0 ≤ x1 ∧ x1 ≤ 4095) → (0 ≤ x2 ∧ x2 ≤ 30) → (30 - x2) * 1 + 1 < (nn : Int) → nW xs e 196 4 [some (2, 112), some (0, x1), some (0, x2)] [] M (nPI fun z M1 => M = M1 ∧ (-2147483648 ≤ z ∧ z ≤ 2147483647))) := by
  have hd : (3 : Int) = 2 ∨ (3 : Int) = 3 := by decide
  have hac := hS.2.2.2.2
  intro nn
  induction nn with
  | zero => intros; omega
  | succ nn ih =>
    intro x1 x2 k1 k2 hnn
    refine n_iload_n c_196_4 rfl ?_
    refine n_aload_n c_196_5 rfl ?_
    refine n_getV (bi := 11) c_196_6 sc_112.n rfl rfl rfl (t_112_11 hS) ?_
    intro z1 ez1 f2
    refine n_if2_ge c_196_9 (by omega) (by omega) ?_ ?_
    · intro h3
      refine n_iload_n c_196_29 rfl ?_
      exact n_rI c_196_30 rfl ⟨rfl, by omega⟩
    · intro h4
      refine n_iload_n c_196_12 rfl ?_
      refine n_iconst c_196_13 ?_
      refine n_aload_n c_196_14 rfl ?_
      refine n_getR c_196_15 sc_112.n rfl rfl rfl r_112_12 ?_
      refine n_iload_n c_196_18 rfl ?_
      refine n_ialoadV c_196_19 sc_120.n rfl rfl rfl (by omega) (t_120 hS (by omega)) ?_
      intro z5 ez5 f6
      refine n_i_ishl c_196_20 rfl ?_
      have f7 := n_shl_1 (y := z5) (a := 0) (b := 11) (by decide) (by omega)
      generalize (n_shl 1 z5) = z8 at f7 ⊢
      refine n_i_ior c_196_21 rfl ?_
      have f9 := n_or_k (x := x1) (y := z8) (n := 12) (by decide) (by omega) (by omega)
      generalize (n_or x1 z8) = z10 at f9 ⊢
      refine n_istore_n (L2 := [some (2, 112), some (0, z10), some (0, x2)]) c_196_22 rfl rfl ?_
      refine n_iinc (L2 := [some (2, 112), some (0, z10), some (0, (x2 + 1))]) c_196_23 rfl rfl rfl ?_
      refine n_goto c_196_26 ?_
      refine n_fg (le_s (le_s (le_s le_0))) ?_
      exact ih _ _ (by omega) (by omega) (by omega)
set_option maxHeartbeats 4000000 in
theorem masked_3 {xs : List Int32} {e : Nat} {ac : Int} {M0 M : nM} (hS : Sf 3 ac M0 M) (hdm : M0 112 0 = 3) : nW xs e 196 0 [some (2, 112), none, none] [] M (nPI fun z M1 => M = M1 ∧ (-2147483648 ≤ z ∧ z ≤ 2147483647)) := by
  have hd : (3 : Int) = 2 ∨ (3 : Int) = 3 := by decide
  have hac := hS.2.2.2.2
  refine n_iconst c_196_0 ?_
  refine n_istore_n (L2 := [some (2, 112), some (0, 0), none]) c_196_1 rfl rfl ?_
  refine n_iconst c_196_2 ?_
  refine n_istore_n (L2 := [some (2, 112), some (0, 0), some (0, 0)]) c_196_3 rfl rfl ?_
  refine n_fg (le_s (le_s (le_s le_0))) ?_
  exact (masked_3_c hS hdm 74) _ _ (by omega) (by omega) (by omega)

set_option maxHeartbeats 4000000 in
theorem misHalf_3_c {xs : List Int32} {e : Nat} {ac : Int} {M0 M : nM} (hS : Sf 3 ac M0 M) (hdm : M0 112 0 = 3) : ∀ nn : Nat, (∀ (x1 : Int), (0 ≤ x1 ∧ x1 ≤ 3) → (3 - x1) * 31 + 31 < (nn : Int) → nW xs e 197 2 [some (2, 112), some (0, x1), none, none] [] M (nPI fun z M1 => M = M1 ∧ (0 ≤ z ∧ z ≤ 1))) ∧ (∀ (x1 x2 : Int), (0 ≤ x1 ∧ x1 ≤ 2) → (0 ≤ x2 ∧ x2 ≤ 3) → (3 - x1) * 31 + (3 - x2) * 6 + 6 < (nn : Int) → nW xs e 197 31 [some (2, 112), some (0, x1), some (0, x2), none] [] M (nPI fun z M1 => M = M1 ∧ (0 ≤ z ∧ z ≤ 1))) ∧ (∀ (x1 x2 x3 : Int), (0 ≤ x1 ∧ x1 ≤ 2) → (0 ≤ x2 ∧ x2 ≤ 2) → (0 ≤ x3 ∧ x3 ≤ 3) → (3 - x1) * 31 + (3 - x2) * 6 + (3 - x3) * 1 + 1 < (nn : Int) → nW xs e 197 72 [some (2, 112), some (0, x1), some (0, x2), some (0, x3)] [] M (nPI fun z M1 => M = M1 ∧ (0 ≤ z ∧ z ≤ 1))) := by
  have hd : (3 : Int) = 2 ∨ (3 : Int) = 3 := by decide
  have hac := hS.2.2.2.2
  intro nn
  induction nn with
  | zero => refine ⟨?_, ?_, ?_⟩ <;> (intros; omega)
  | succ nn ih =>
    refine ⟨?_, ?_, ?_⟩
    · intro x1 k1 hnn
      refine n_iload_n c_197_2 rfl ?_
      refine n_aload_n c_197_3 rfl ?_
      refine n_getV (bi := 0) c_197_4 sc_112.n rfl rfl rfl (t_dm hS hdm) ?_
      intro z1 ez1 f2
      obtain rfl : z1 = 3 := by omega
      refine n_if2_ge c_197_7 (by omega) (by omega) ?_ ?_
      · intro h3
        refine n_iconst c_197_153 ?_
        exact n_rZ c_197_154 rfl (by omega) ⟨rfl, by omega⟩
      · intro h4
        refine n_aload_n c_197_10 rfl ?_
        refine n_getR c_197_11 sc_112.n rfl rfl rfl r_112_19 ?_
        refine n_iload_n c_197_14 rfl ?_
        refine n_aload_n c_197_15 rfl ?_
        refine n_getV (bi := 0) c_197_16 sc_112.n rfl rfl rfl (t_dm hS hdm) ?_
        intro z5 ez5 f6
        obtain rfl : z5 = 3 := by omega
        refine n_imul c_197_19 rfl ?_
        refine n_iload_n c_197_20 rfl ?_
        refine n_iadd c_197_21 rfl ?_
        refine n_ialoadV c_197_22 sc_127.n rfl rfl rfl (by omega) (t_127 hS (by omega)) ?_
        intro z7 ez7 f8
        refine n_iload_n c_197_23 rfl ?_
        refine n_if2_eq c_197_24 (by omega) (by omega) ?_ ?_
        · intro h9
          refine n_iconst c_197_29 ?_
          refine n_istore_n (L2 := [some (2, 112), some (0, x1), some (0, 0), none]) c_197_30 rfl rfl ?_
          refine n_fg (le_s (le_s (le_s (le_n le_0)))) ?_
          exact ih.2.1 _ _ (by omega) (by omega) (by omega)
        · intro h10
          refine n_iconst c_197_27 ?_
          exact n_rZ c_197_28 rfl (by omega) ⟨rfl, by omega⟩
    · intro x1 x2 k1 k2 hnn
      refine n_iload_n c_197_31 rfl ?_
      refine n_aload_n c_197_32 rfl ?_
      refine n_getV (bi := 0) c_197_33 sc_112.n rfl rfl rfl (t_dm hS hdm) ?_
      intro z1 ez1 f2
      obtain rfl : z1 = 3 := by omega
      refine n_if2_ge c_197_36 (by omega) (by omega) ?_ ?_
      · intro h3
        refine n_iinc (L2 := [some (2, 112), some (0, (x1 + 1)), some (0, x2), none]) c_197_147 rfl rfl rfl ?_
        refine n_goto c_197_150 ?_
        refine n_fg (le_s (le_s (le_n (le_n le_0)))) ?_
        exact ih.1 _ (by omega) (by omega)
      · intro h4
        refine n_aload_n c_197_39 rfl ?_
        refine n_getR c_197_40 sc_112.n rfl rfl rfl r_112_19 ?_
        refine n_iload_n c_197_43 rfl ?_
        refine n_aload_n c_197_44 rfl ?_
        refine n_getV (bi := 0) c_197_45 sc_112.n rfl rfl rfl (t_dm hS hdm) ?_
        intro z5 ez5 f6
        obtain rfl : z5 = 3 := by omega
        refine n_imul c_197_48 rfl ?_
        refine n_iload_n c_197_49 rfl ?_
        refine n_iadd c_197_50 rfl ?_
        refine n_ialoadV c_197_51 sc_127.n rfl rfl rfl (by omega) (t_127 hS (by omega)) ?_
        intro z7 ez7 f8
        refine n_aload_n c_197_52 rfl ?_
        refine n_getR c_197_53 sc_112.n rfl rfl rfl r_112_19 ?_
        refine n_iload_n c_197_56 rfl ?_
        refine n_aload_n c_197_57 rfl ?_
        refine n_getV (bi := 0) c_197_58 sc_112.n rfl rfl rfl (t_dm hS hdm) ?_
        intro z9 ez9 f10
        obtain rfl : z9 = 3 := by omega
        refine n_imul c_197_61 rfl ?_
        refine n_iload_n c_197_62 rfl ?_
        refine n_iadd c_197_63 rfl ?_
        refine n_ialoadV c_197_64 sc_127.n rfl rfl rfl (by omega) (t_127 hS (by omega)) ?_
        intro z11 ez11 f12
        refine n_if2_eq c_197_65 (by omega) (by omega) ?_ ?_
        · intro h13
          refine n_iconst c_197_70 ?_
          refine n_istore_n (L2 := [some (2, 112), some (0, x1), some (0, x2), some (0, 0)]) c_197_71 rfl rfl ?_
          refine n_fg (le_s (le_s (le_s (le_s le_0)))) ?_
          exact ih.2.2 _ _ _ (by omega) (by omega) (by omega) (by omega)
        · intro h14
          refine n_iconst c_197_68 ?_
          exact n_rZ c_197_69 rfl (by omega) ⟨rfl, by omega⟩
    · intro x1 x2 x3 k1 k2 k3 hnn
      refine n_iload_n c_197_72 rfl ?_
      refine n_aload_n c_197_73 rfl ?_
      refine n_getV (bi := 0) c_197_74 sc_112.n rfl rfl rfl (t_dm hS hdm) ?_
      intro z1 ez1 f2
      obtain rfl : z1 = 3 := by omega
      refine n_if2_ge c_197_77 (by omega) (by omega) ?_ ?_
      · intro h3
        refine n_iinc (L2 := [some (2, 112), some (0, x1), some (0, (x2 + 1)), some (0, x3)]) c_197_141 rfl rfl rfl ?_
        refine n_goto c_197_144 ?_
        refine n_fg (le_s (le_s (le_s (le_n le_0)))) ?_
        exact ih.2.1 _ _ (by omega) (by omega) (by omega)
      · intro h4
        refine n_aload_n c_197_80 rfl ?_
        refine n_getR c_197_81 sc_112.n rfl rfl rfl r_112_19 ?_
        refine n_aload_n c_197_84 rfl ?_
        refine n_getR c_197_85 sc_112.n rfl rfl rfl r_112_19 ?_
        refine n_iload_n c_197_88 rfl ?_
        refine n_aload_n c_197_89 rfl ?_
        refine n_getV (bi := 0) c_197_90 sc_112.n rfl rfl rfl (t_dm hS hdm) ?_
        intro z5 ez5 f6
        obtain rfl : z5 = 3 := by omega
        refine n_imul c_197_93 rfl ?_
        refine n_iload_n c_197_94 rfl ?_
        refine n_iadd c_197_95 rfl ?_
        refine n_ialoadV c_197_96 sc_127.n rfl rfl rfl (by omega) (t_127 hS (by omega)) ?_
        intro z7 ez7 f8
        refine n_aload_n c_197_97 rfl ?_
        refine n_getV (bi := 0) c_197_98 sc_112.n rfl rfl rfl (t_dm hS hdm) ?_
        intro z9 ez9 f10
        obtain rfl : z9 = 3 := by omega
        refine n_imul c_197_101 rfl ?_
        refine n_iload_n c_197_102 rfl ?_
        refine n_iadd c_197_103 rfl ?_
        refine n_ialoadV c_197_104 sc_127.n rfl rfl rfl (by omega) (t_127 hS (by omega)) ?_
        intro z11 ez11 f12
        refine n_aload_n c_197_105 rfl ?_
        refine n_getR c_197_106 sc_112.n rfl rfl rfl r_112_19 ?_
        refine n_iload_n c_197_109 rfl ?_
        refine n_aload_n c_197_110 rfl ?_
        refine n_getV (bi := 0) c_197_111 sc_112.n rfl rfl rfl (t_dm hS hdm) ?_
        intro z13 ez13 f14
        obtain rfl : z13 = 3 := by omega
        refine n_imul c_197_114 rfl ?_
        refine n_aload_n c_197_115 rfl ?_
        refine n_getR c_197_116 sc_112.n rfl rfl rfl r_112_19 ?_
        refine n_iload_n c_197_119 rfl ?_
        refine n_aload_n c_197_120 rfl ?_
        refine n_getV (bi := 0) c_197_121 sc_112.n rfl rfl rfl (t_dm hS hdm) ?_
        intro z15 ez15 f16
        obtain rfl : z15 = 3 := by omega
        refine n_imul c_197_124 rfl ?_
        refine n_iload_n c_197_125 rfl ?_
        refine n_iadd c_197_126 rfl ?_
        refine n_ialoadV c_197_127 sc_127.n rfl rfl rfl (by omega) (t_127 hS (by omega)) ?_
        intro z17 ez17 f18
        refine n_iadd c_197_128 rfl ?_
        refine n_ialoadV c_197_129 sc_127.n rfl rfl rfl (by omega) (t_127 hS (by omega)) ?_
        intro z19 ez19 f20
        refine n_if2_eq c_197_130 (by omega) (by omega) ?_ ?_
        · intro h21
          refine n_iinc (L2 := [some (2, 112), some (0, x1), some (0, x2), some (0, (x3 + 1))]) c_197_135 rfl rfl rfl ?_
          refine n_goto c_197_138 ?_
          refine n_fg (le_s (le_s (le_s (le_s le_0)))) ?_
          exact ih.2.2 _ _ _ (by omega) (by omega) (by omega) (by omega)
        · intro h22
          refine n_iconst c_197_133 ?_
          exact n_rZ c_197_134 rfl (by omega) ⟨rfl, by omega⟩
set_option maxHeartbeats 4000000 in
theorem misHalf_3 {xs : List Int32} {e : Nat} {ac : Int} {M0 M : nM} (hS : Sf 3 ac M0 M) (hdm : M0 112 0 = 3) : nW xs e 197 0 [some (2, 112), none, none, none] [] M (nPI fun z M1 => M = M1 ∧ (0 ≤ z ∧ z ≤ 1)) := by
  have hd : (3 : Int) = 2 ∨ (3 : Int) = 3 := by decide
  have hac := hS.2.2.2.2
  refine n_iconst c_197_0 ?_
  refine n_istore_n (L2 := [some (2, 112), some (0, 0), none, none]) c_197_1 rfl rfl ?_
  refine n_fg (le_s (le_s (le_n (le_n le_0)))) ?_
  exact (misHalf_3_c hS hdm 320).1 _ (by omega) (by omega)

set_option maxHeartbeats 4000000 in
theorem mhandCode_3_c {xs : List Int32} {e : Nat} {ac : Int} {M0 M : nM} (hS : Sf 3 ac M0 M) (hdm : M0 112 0 = 3) : ∀ nn : Nat, (∀ (x1 x3 : Int), (-9223372036854775808 ≤ x1 ∧ x1 ≤ 9223372036854775807) → (-1 ≤ x3 ∧ x3 ≤ 26) → (x3 - (-1)) * 1 + 1 < (nn : Int) → nW xs (e + 1) 198 13 [some (2, 112), some (1, x1), none, some (0, x3)] [] M (nPJ fun z M1 => M = M1 ∧ (-9223372036854775808 ≤ z ∧ z ≤ 9223372036854775807))) := by
  have hd : (3 : Int) = 2 ∨ (3 : Int) = 3 := by decide
  have hac := hS.2.2.2.2
  intro nn
  induction nn with
  | zero => intros; omega
  | succ nn ih =>
    intro x1 x3 k1 k3 hnn
    refine n_iload_n c_198_13 rfl ?_
    refine n_if0_lt c_198_14 (by omega) ?_ ?_
    · intro h1
      refine n_lload_n c_198_39 rfl ?_
      exact n_rJ c_198_40 rfl ⟨rfl, by omega⟩
    · intro h2
      refine n_lload_n c_198_17 rfl ?_
      refine n_aload_n c_198_18 rfl ?_
      refine n_getV (bi := 0) c_198_19 sc_112.n rfl rfl rfl (t_dm hS hdm) ?_
      intro z3 ez3 f4
      obtain rfl : z3 = 3 := by omega
      refine n_i2l c_198_22 (by omega) ?_
      refine n_lmul c_198_23 rfl ?_
      refine n_wrapl ?_
      have f5 := n_wl_r (x1 * 3)
      generalize n_wl (x1 * 3) = z6 at f5 ⊢
      refine n_aload_n c_198_24 rfl ?_
      refine n_getR c_198_25 sc_112.n rfl rfl rfl r_112_19 ?_
      refine n_iload_n c_198_28 rfl ?_
      refine n_ialoadV c_198_29 sc_127.n rfl rfl rfl (by omega) (t_127 hS (by omega)) ?_
      intro z7 ez7 f8
      refine n_i2l c_198_30 (by omega) ?_
      refine n_ladd c_198_31 rfl ?_
      refine n_wrapl ?_
      have f9 := n_wl_r (z6 + z7)
      generalize n_wl (z6 + z7) = z10 at f9 ⊢
      refine n_lstore_n (L2 := [some (2, 112), some (1, z10), none, some (0, x3)]) c_198_32 rfl rfl ?_
      refine n_iinc (L2 := [some (2, 112), some (1, z10), none, some (0, (x3 + (-1)))]) c_198_33 rfl rfl rfl ?_
      refine n_goto c_198_36 ?_
      refine n_fg (le_s (le_s (le_n (le_s le_0)))) ?_
      exact ih _ _ (by omega) (by omega) (by omega)
set_option maxHeartbeats 4000000 in
theorem mhandCode_3 {xs : List Int32} {e : Nat} {ac : Int} {M0 M : nM} (hS : Sf 3 ac M0 M) (hdm : M0 112 0 = 3) : nW xs (e + 1) 198 0 [some (2, 112), none, none, none] [] M (nPJ fun z M1 => M = M1 ∧ (-9223372036854775808 ≤ z ∧ z ≤ 9223372036854775807)) := by
  have hd : (3 : Int) = 2 ∨ (3 : Int) = 3 := by decide
  have hac := hS.2.2.2.2
  refine n_lconst (n := 0) c_198_0 rfl ?_
  refine n_lstore_n (L2 := [some (2, 112), some (1, 0), none, none]) c_198_1 rfl rfl ?_
  refine n_aload_n c_198_2 rfl ?_
  refine n_getV (bi := 0) c_198_3 sc_112.n rfl rfl rfl (t_dm hS hdm) ?_
  intro z1 ez1 f2
  obtain rfl : z1 = 3 := by omega
  refine n_iconst c_198_6 ?_
  refine n_s2I c_198_7 rfl rfl rfl rfl (mpower3_3  hS ) ?_
  intro z3 M4 hP5
  obtain ⟨eM, f5⟩ := hP5
  subst eM
  obtain rfl : z3 = 27 := by omega
  refine n_iconst c_198_10 ?_
  refine n_isub c_198_11 rfl ?_
  refine n_istore_n (L2 := [some (2, 112), some (1, 0), none, some (0, (27 - 1))]) c_198_12 rfl rfl ?_
  refine n_fg (le_s (le_s (le_n (le_s le_0)))) ?_
  exact (mhandCode_3_c hS hdm 68) _ _ (by omega) (by omega) (by omega)

set_option maxHeartbeats 4000000 in
theorem mdigit_3 {xs : List Int32} {e : Nat} {ac : Int} {M0 M : nM} {r k j : Int} (hS : Sf 3 ac M0 M) (hdm : M0 112 0 = 3) (hr : 0 ≤ r ∧ r ≤ 2147483647) (hk : 0 ≤ k ∧ k ≤ 9) (hj : 0 ≤ j ∧ j ≤ 8) (hkj : j < k) : nW xs (e + 1) 152 0 [some (2, 112), some (0, r), some (0, k), some (0, j)] [] M (nPI fun z M1 => M = M1 ∧ (0 ≤ z ∧ z ≤ 2)) := by
  have hd : (3 : Int) = 2 ∨ (3 : Int) = 3 := by decide
  have hac := hS.2.2.2.2
  refine n_iload_n c_152_0 rfl ?_
  refine n_aload_n c_152_1 rfl ?_
  refine n_getV (bi := 0) c_152_2 sc_112.n rfl rfl rfl (t_dm hS hdm) ?_
  intro z1 ez1 f2
  obtain rfl : z1 = 3 := by omega
  refine n_iload_n c_152_5 rfl ?_
  refine n_iconst c_152_6 ?_
  refine n_isub c_152_7 rfl ?_
  refine n_iload_n c_152_8 rfl ?_
  refine n_isub c_152_9 rfl ?_
  refine n_s2I c_152_10 rfl rfl rfl rfl (mpowerU_3 (n := ((k - 1) - j)) hS (by omega)) ?_
  intro z3 M4 hP5
  obtain ⟨eM, f5⟩ := hP5
  subst eM
  refine n_idivV c_152_13 (by omega) (by omega) ?_
  intro z6 _ f7
  refine n_aload_n c_152_14 rfl ?_
  refine n_getV (bi := 0) c_152_15 sc_112.n rfl rfl rfl (t_dm hS hdm) ?_
  intro z8 ez8 f9
  obtain rfl : z8 = 3 := by omega
  refine n_iremV c_152_18 (by omega) (by omega) ?_
  intro z10 _ f11
  exact n_rI c_152_19 rfl ⟨rfl, by omega⟩

set_option maxHeartbeats 4000000 in
theorem mjoined3_3_c {xs : List Int32} {e : Nat} {ac : Int} {M0 M : nM} {a x y w s : Int} (hS : Sf 3 ac M0 M) (hdm : M0 112 0 = 3) (ha : 0 ≤ a ∧ a ≤ 7) (hx : 0 ≤ x ∧ x ≤ 256) (hy : 0 ≤ y ∧ y ≤ 256) (hw : 0 ≤ w ∧ w ≤ 256) (hs : 0 ≤ s ∧ s ≤ 1000000) : ∀ nn : Nat, (∀ (x8 : Int) (M : nM), Sf 3 ac M0 M → (0 ≤ x8 ∧ x8 ≤ 26) → 2 < (nn : Int) → nW xs e 163 145 [some (2, 112), none, none, none, none, none, some (0, s), none, some (0, x8), none, none] [] M (nPV fun M1 => Sf 3 ac M0 M1)) ∧ (∀ (M : nM), Sf 3 ac M0 M → 1 < (nn : Int) → nW xs e 163 156 [none, none, none, none, none, none, none, none, none, none, none] [] M (nPV fun M1 => Sf 3 ac M0 M1)) := by
  have hd : (3 : Int) = 2 ∨ (3 : Int) = 3 := by decide
  have hac := hS.2.2.2.2
  intro nn
  induction nn with
  | zero => refine ⟨?_, ?_⟩ <;> (intros; omega)
  | succ nn ih =>
    refine ⟨?_, ?_⟩
    · intro x8 M hS k8 hnn
      refine n_aload_n c_163_145 rfl ?_
      refine n_getR c_163_146 sc_112.n rfl rfl rfl r_112_17 ?_
      refine n_iload c_163_149 rfl ?_
      refine n_iload c_163_151 rfl ?_
      refine n_iconst c_163_153 ?_
      refine n_iadd c_163_154 rfl ?_
      refine n_iastoreV hS c_163_155 sc_125.n rfl (by omega) (w_125 (by omega) (by omega)) ?_
      intro M1 eM1 hS1
      refine n_fg (le_n (le_n (le_n (le_n (le_n (le_n (le_n (le_n (le_n (le_n (le_n le_0))))))))))) ?_
      exact ih.2  M1 hS1  (by omega)
    · intro M hS hnn
      exact n_rV c_163_156 rfl hS
set_option maxHeartbeats 4000000 in
theorem mjoined3_3 {xs : List Int32} {e : Nat} {ac : Int} {M0 M : nM} {a x y w s : Int} (hS : Sf 3 ac M0 M) (hdm : M0 112 0 = 3) (ha : 0 ≤ a ∧ a ≤ 7) (hx : 0 ≤ x ∧ x ≤ 256) (hy : 0 ≤ y ∧ y ≤ 256) (hw : 0 ≤ w ∧ w ≤ 256) (hs : 0 ≤ s ∧ s ≤ 1000000) : nW xs e 163 0 [some (2, 112), some (0, a), some (0, 3), some (0, x), some (0, y), some (0, w), some (0, s), none, none, none, none] [] M (nPV fun M1 => Sf 3 ac M0 M1) := by
  have hd : (3 : Int) = 2 ∨ (3 : Int) = 3 := by decide
  have hac := hS.2.2.2.2
  refine n_aload_n c_163_0 rfl ?_
  refine n_getR c_163_1 sc_112.n rfl rfl rfl r_112_5 ?_
  refine n_iload_n c_163_4 rfl ?_
  refine n_ialoadV c_163_5 sc_116.n rfl rfl rfl (by omega) (t_116 hS (by omega)) ?_
  intro z1 ez1 f2
  refine n_istore (L2 := [some (2, 112), some (0, a), some (0, 3), some (0, x), some (0, y), some (0, w), some (0, s), some (0, z1), none, none, none]) c_163_6 rfl rfl ?_
  refine n_iconst c_163_8 ?_
  refine n_istore (L2 := [some (2, 112), some (0, a), some (0, 3), some (0, x), some (0, y), some (0, w), some (0, s), some (0, z1), some (0, 0), none, none]) c_163_9 rfl rfl ?_
  refine n_iload_n c_163_11 rfl ?_
  refine n_iconst c_163_12 ?_
  refine n_isub c_163_13 rfl ?_
  refine n_istore (L2 := [some (2, 112), some (0, a), some (0, 3), some (0, x), some (0, y), some (0, w), some (0, s), some (0, z1), some (0, 0), some (0, (3 - 1)), none]) c_163_14 rfl rfl ?_
  refine n_iload c_163_16 rfl ?_
  refine n_if0_lt c_163_18 (by omega) ?_ ?_
  · intro h3
    exfalso; omega
  · intro h4
    refine n_aload_n c_163_21 rfl ?_
    refine n_getR c_163_22 sc_112.n rfl rfl rfl r_112_18 ?_
    refine n_bipush c_163_25 rfl ?_
    refine n_iload_n c_163_27 rfl ?_
    refine n_imul c_163_28 rfl ?_
    refine n_iload c_163_29 rfl ?_
    refine n_iadd c_163_31 rfl ?_
    refine n_ialoadV c_163_32 sc_126.n rfl rfl rfl (by omega) (t_126 hS (by omega)) ?_
    intro z5 ez5 f6
    refine n_istore (L2 := [some (2, 112), some (0, a), some (0, 3), some (0, x), some (0, y), some (0, w), some (0, s), some (0, z1), some (0, 0), some (0, (3 - 1)), some (0, z5)]) c_163_33 rfl rfl ?_
    refine n_iload c_163_35 rfl ?_
    refine n_iconst c_163_37 ?_
    refine n_if2_le c_163_38 (by omega) (by omega) ?_ ?_
    · intro h7
      refine n_iload c_163_64 rfl ?_
      refine n_iconst c_163_66 ?_
      refine n_if2_le c_163_67 (by omega) (by omega) ?_ ?_
      · intro h8
        refine n_iload c_163_93 rfl ?_
        refine n_aload_n c_163_95 rfl ?_
        refine n_getV (bi := 0) c_163_96 sc_112.n rfl rfl rfl (t_dm hS hdm) ?_
        intro z9 ez9 f10
        obtain rfl : z9 = 3 := by omega
        refine n_imul c_163_99 rfl ?_
        refine n_aload_n c_163_100 rfl ?_
        refine n_getR c_163_101 sc_112.n rfl rfl rfl r_112_6 ?_
        refine n_bipush c_163_104 rfl ?_
        refine n_iload_n c_163_106 rfl ?_
        refine n_imul c_163_107 rfl ?_
        refine n_iload c_163_108 rfl ?_
        refine n_iadd c_163_110 rfl ?_
        refine n_ialoadV c_163_111 sc_117.n rfl rfl rfl (by omega) (t_117 hS (by omega)) ?_
        intro z11 ez11 f12
        refine n_iadd c_163_112 rfl ?_
        refine n_istore (L2 := [some (2, 112), some (0, a), some (0, 3), some (0, x), some (0, y), some (0, w), some (0, s), some (0, z1), some (0, ((0 * 3) + z11)), some (0, (3 - 1)), some (0, z5)]) c_163_113 rfl rfl ?_
        refine n_iinc (L2 := [some (2, 112), some (0, a), some (0, 3), some (0, x), some (0, y), some (0, w), some (0, s), some (0, z1), some (0, ((0 * 3) + z11)), some (0, ((3 - 1) + (-1))), some (0, z5)]) c_163_115 rfl rfl rfl ?_
        refine n_goto c_163_118 ?_
        refine n_iload c_163_16 rfl ?_
        refine n_if0_lt c_163_18 (by omega) ?_ ?_
        · intro h13
          exfalso; omega
        · intro h14
          refine n_aload_n c_163_21 rfl ?_
          refine n_getR c_163_22 sc_112.n rfl rfl rfl r_112_18 ?_
          refine n_bipush c_163_25 rfl ?_
          refine n_iload_n c_163_27 rfl ?_
          refine n_imul c_163_28 rfl ?_
          refine n_iload c_163_29 rfl ?_
          refine n_iadd c_163_31 rfl ?_
          refine n_ialoadV c_163_32 sc_126.n rfl rfl rfl (by omega) (t_126 hS (by omega)) ?_
          intro z15 ez15 f16
          refine n_istore (L2 := [some (2, 112), some (0, a), some (0, 3), some (0, x), some (0, y), some (0, w), some (0, s), some (0, z1), some (0, ((0 * 3) + z11)), some (0, ((3 - 1) + (-1))), some (0, z15)]) c_163_33 rfl rfl ?_
          refine n_iload c_163_35 rfl ?_
          refine n_iconst c_163_37 ?_
          refine n_if2_le c_163_38 (by omega) (by omega) ?_ ?_
          · intro h17
            refine n_iload c_163_64 rfl ?_
            refine n_iconst c_163_66 ?_
            refine n_if2_le c_163_67 (by omega) (by omega) ?_ ?_
            · intro h18
              refine n_iload c_163_93 rfl ?_
              refine n_aload_n c_163_95 rfl ?_
              refine n_getV (bi := 0) c_163_96 sc_112.n rfl rfl rfl (t_dm hS hdm) ?_
              intro z19 ez19 f20
              obtain rfl : z19 = 3 := by omega
              refine n_imul c_163_99 rfl ?_
              refine n_aload_n c_163_100 rfl ?_
              refine n_getR c_163_101 sc_112.n rfl rfl rfl r_112_6 ?_
              refine n_bipush c_163_104 rfl ?_
              refine n_iload_n c_163_106 rfl ?_
              refine n_imul c_163_107 rfl ?_
              refine n_iload c_163_108 rfl ?_
              refine n_iadd c_163_110 rfl ?_
              refine n_ialoadV c_163_111 sc_117.n rfl rfl rfl (by omega) (t_117 hS (by omega)) ?_
              intro z21 ez21 f22
              refine n_iadd c_163_112 rfl ?_
              refine n_istore (L2 := [some (2, 112), some (0, a), some (0, 3), some (0, x), some (0, y), some (0, w), some (0, s), some (0, z1), some (0, ((((0 * 3) + z11) * 3) + z21)), some (0, ((3 - 1) + (-1))), some (0, z15)]) c_163_113 rfl rfl ?_
              refine n_iinc (L2 := [some (2, 112), some (0, a), some (0, 3), some (0, x), some (0, y), some (0, w), some (0, s), some (0, z1), some (0, ((((0 * 3) + z11) * 3) + z21)), some (0, (((3 - 1) + (-1)) + (-1))), some (0, z15)]) c_163_115 rfl rfl rfl ?_
              refine n_goto c_163_118 ?_
              refine n_iload c_163_16 rfl ?_
              refine n_if0_lt c_163_18 (by omega) ?_ ?_
              · intro h23
                exfalso; omega
              · intro h24
                refine n_aload_n c_163_21 rfl ?_
                refine n_getR c_163_22 sc_112.n rfl rfl rfl r_112_18 ?_
                refine n_bipush c_163_25 rfl ?_
                refine n_iload_n c_163_27 rfl ?_
                refine n_imul c_163_28 rfl ?_
                refine n_iload c_163_29 rfl ?_
                refine n_iadd c_163_31 rfl ?_
                refine n_ialoadV c_163_32 sc_126.n rfl rfl rfl (by omega) (t_126 hS (by omega)) ?_
                intro z25 ez25 f26
                refine n_istore (L2 := [some (2, 112), some (0, a), some (0, 3), some (0, x), some (0, y), some (0, w), some (0, s), some (0, z1), some (0, ((((0 * 3) + z11) * 3) + z21)), some (0, (((3 - 1) + (-1)) + (-1))), some (0, z25)]) c_163_33 rfl rfl ?_
                refine n_iload c_163_35 rfl ?_
                refine n_iconst c_163_37 ?_
                refine n_if2_le c_163_38 (by omega) (by omega) ?_ ?_
                · intro h27
                  refine n_iload c_163_64 rfl ?_
                  refine n_iconst c_163_66 ?_
                  refine n_if2_le c_163_67 (by omega) (by omega) ?_ ?_
                  · intro h28
                    refine n_iload c_163_93 rfl ?_
                    refine n_aload_n c_163_95 rfl ?_
                    refine n_getV (bi := 0) c_163_96 sc_112.n rfl rfl rfl (t_dm hS hdm) ?_
                    intro z29 ez29 f30
                    obtain rfl : z29 = 3 := by omega
                    refine n_imul c_163_99 rfl ?_
                    refine n_aload_n c_163_100 rfl ?_
                    refine n_getR c_163_101 sc_112.n rfl rfl rfl r_112_6 ?_
                    refine n_bipush c_163_104 rfl ?_
                    refine n_iload_n c_163_106 rfl ?_
                    refine n_imul c_163_107 rfl ?_
                    refine n_iload c_163_108 rfl ?_
                    refine n_iadd c_163_110 rfl ?_
                    refine n_ialoadV c_163_111 sc_117.n rfl rfl rfl (by omega) (t_117 hS (by omega)) ?_
                    intro z31 ez31 f32
                    refine n_iadd c_163_112 rfl ?_
                    refine n_istore (L2 := [some (2, 112), some (0, a), some (0, 3), some (0, x), some (0, y), some (0, w), some (0, s), some (0, z1), some (0, ((((((0 * 3) + z11) * 3) + z21) * 3) + z31)), some (0, (((3 - 1) + (-1)) + (-1))), some (0, z25)]) c_163_113 rfl rfl ?_
                    refine n_iinc (L2 := [some (2, 112), some (0, a), some (0, 3), some (0, x), some (0, y), some (0, w), some (0, s), some (0, z1), some (0, ((((((0 * 3) + z11) * 3) + z21) * 3) + z31)), some (0, ((((3 - 1) + (-1)) + (-1)) + (-1))), some (0, z25)]) c_163_115 rfl rfl rfl ?_
                    refine n_goto c_163_118 ?_
                    refine n_iload c_163_16 rfl ?_
                    refine n_if0_lt c_163_18 (by omega) ?_ ?_
                    · intro h33
                      refine n_aload_n c_163_121 rfl ?_
                      refine n_getR c_163_122 sc_112.n rfl rfl rfl r_112_17 ?_
                      refine n_iload c_163_125 rfl ?_
                      refine n_ialoadV c_163_127 sc_125.n rfl rfl rfl (by omega) (t_125 hS (by omega)) ?_
                      intro z34 ez34 f35
                      refine n_if0_eq c_163_128 (by omega) ?_ ?_
                      · intro h36
                        refine n_fg (le_s (le_n (le_n (le_n (le_n (le_n (le_s (le_n (le_s (le_n (le_n le_0))))))))))) ?_
                        exact (mjoined3_3_c hS hdm ha hx hy hw hs 14).1 _ M hS (by omega) (by omega)
                      · intro h37
                        refine n_aload_n c_163_131 rfl ?_
                        refine n_getR c_163_132 sc_112.n rfl rfl rfl r_112_17 ?_
                        refine n_iload c_163_135 rfl ?_
                        refine n_ialoadV c_163_137 sc_125.n rfl rfl rfl (by omega) (t_125 hS (by omega)) ?_
                        intro z38 ez38 f39
                        refine n_iload c_163_138 rfl ?_
                        refine n_iconst c_163_140 ?_
                        refine n_iadd c_163_141 rfl ?_
                        refine n_if2_le c_163_142 (by omega) (by omega) ?_ ?_
                        · intro h40
                          refine n_fg (le_n (le_n (le_n (le_n (le_n (le_n (le_n (le_n (le_n (le_n (le_n le_0))))))))))) ?_
                          exact (mjoined3_3_c hS hdm ha hx hy hw hs 14).2  M hS  (by omega)
                        · intro h41
                          refine n_fg (le_s (le_n (le_n (le_n (le_n (le_n (le_s (le_n (le_s (le_n (le_n le_0))))))))))) ?_
                          exact (mjoined3_3_c hS hdm ha hx hy hw hs 14).1 _ M hS (by omega) (by omega)
                    · intro h42
                      exfalso; omega
                  · intro h43
                    exfalso; omega
                · intro h44
                  exfalso; omega
            · intro h45
              exfalso; omega
          · intro h46
            exfalso; omega
      · intro h47
        exfalso; omega
    · intro h48
      refine n_iload c_163_41 rfl ?_
      refine n_aload_n c_163_43 rfl ?_
      refine n_getV (bi := 0) c_163_44 sc_112.n rfl rfl rfl (t_dm hS hdm) ?_
      intro z49 ez49 f50
      obtain rfl : z49 = 3 := by omega
      refine n_imul c_163_47 rfl ?_
      refine n_aload_n c_163_48 rfl ?_
      refine n_getR c_163_49 sc_112.n rfl rfl rfl r_112_18 ?_
      refine n_bipush c_163_52 rfl ?_
      refine n_iload c_163_54 rfl ?_
      refine n_imul c_163_56 rfl ?_
      refine n_iload c_163_57 rfl ?_
      refine n_iadd c_163_59 rfl ?_
      refine n_ialoadV c_163_60 sc_126.n rfl rfl rfl (by omega) (t_126 hS (by omega)) ?_
      intro z51 ez51 f52
      refine n_iadd c_163_61 rfl ?_
      refine n_istore (L2 := [some (2, 112), some (0, a), some (0, 3), some (0, x), some (0, y), some (0, w), some (0, s), some (0, z1), some (0, 0), some (0, (3 - 1)), some (0, ((z5 * 3) + z51))]) c_163_62 rfl rfl ?_
      refine n_iload c_163_64 rfl ?_
      refine n_iconst c_163_66 ?_
      refine n_if2_le c_163_67 (by omega) (by omega) ?_ ?_
      · intro h53
        refine n_iload c_163_93 rfl ?_
        refine n_aload_n c_163_95 rfl ?_
        refine n_getV (bi := 0) c_163_96 sc_112.n rfl rfl rfl (t_dm hS hdm) ?_
        intro z54 ez54 f55
        obtain rfl : z54 = 3 := by omega
        refine n_imul c_163_99 rfl ?_
        refine n_aload_n c_163_100 rfl ?_
        refine n_getR c_163_101 sc_112.n rfl rfl rfl r_112_6 ?_
        refine n_bipush c_163_104 rfl ?_
        refine n_iload_n c_163_106 rfl ?_
        refine n_imul c_163_107 rfl ?_
        refine n_iload c_163_108 rfl ?_
        refine n_iadd c_163_110 rfl ?_
        refine n_ialoadV c_163_111 sc_117.n rfl rfl rfl (by omega) (t_117 hS (by omega)) ?_
        intro z56 ez56 f57
        refine n_iadd c_163_112 rfl ?_
        refine n_istore (L2 := [some (2, 112), some (0, a), some (0, 3), some (0, x), some (0, y), some (0, w), some (0, s), some (0, z1), some (0, ((0 * 3) + z56)), some (0, (3 - 1)), some (0, ((z5 * 3) + z51))]) c_163_113 rfl rfl ?_
        refine n_iinc (L2 := [some (2, 112), some (0, a), some (0, 3), some (0, x), some (0, y), some (0, w), some (0, s), some (0, z1), some (0, ((0 * 3) + z56)), some (0, ((3 - 1) + (-1))), some (0, ((z5 * 3) + z51))]) c_163_115 rfl rfl rfl ?_
        refine n_goto c_163_118 ?_
        refine n_iload c_163_16 rfl ?_
        refine n_if0_lt c_163_18 (by omega) ?_ ?_
        · intro h58
          exfalso; omega
        · intro h59
          refine n_aload_n c_163_21 rfl ?_
          refine n_getR c_163_22 sc_112.n rfl rfl rfl r_112_18 ?_
          refine n_bipush c_163_25 rfl ?_
          refine n_iload_n c_163_27 rfl ?_
          refine n_imul c_163_28 rfl ?_
          refine n_iload c_163_29 rfl ?_
          refine n_iadd c_163_31 rfl ?_
          refine n_ialoadV c_163_32 sc_126.n rfl rfl rfl (by omega) (t_126 hS (by omega)) ?_
          intro z60 ez60 f61
          refine n_istore (L2 := [some (2, 112), some (0, a), some (0, 3), some (0, x), some (0, y), some (0, w), some (0, s), some (0, z1), some (0, ((0 * 3) + z56)), some (0, ((3 - 1) + (-1))), some (0, z60)]) c_163_33 rfl rfl ?_
          refine n_iload c_163_35 rfl ?_
          refine n_iconst c_163_37 ?_
          refine n_if2_le c_163_38 (by omega) (by omega) ?_ ?_
          · intro h62
            exfalso; omega
          · intro h63
            refine n_iload c_163_41 rfl ?_
            refine n_aload_n c_163_43 rfl ?_
            refine n_getV (bi := 0) c_163_44 sc_112.n rfl rfl rfl (t_dm hS hdm) ?_
            intro z64 ez64 f65
            obtain rfl : z64 = 3 := by omega
            refine n_imul c_163_47 rfl ?_
            refine n_aload_n c_163_48 rfl ?_
            refine n_getR c_163_49 sc_112.n rfl rfl rfl r_112_18 ?_
            refine n_bipush c_163_52 rfl ?_
            refine n_iload c_163_54 rfl ?_
            refine n_imul c_163_56 rfl ?_
            refine n_iload c_163_57 rfl ?_
            refine n_iadd c_163_59 rfl ?_
            refine n_ialoadV c_163_60 sc_126.n rfl rfl rfl (by omega) (t_126 hS (by omega)) ?_
            intro z66 ez66 f67
            refine n_iadd c_163_61 rfl ?_
            refine n_istore (L2 := [some (2, 112), some (0, a), some (0, 3), some (0, x), some (0, y), some (0, w), some (0, s), some (0, z1), some (0, ((0 * 3) + z56)), some (0, ((3 - 1) + (-1))), some (0, ((z60 * 3) + z66))]) c_163_62 rfl rfl ?_
            refine n_iload c_163_64 rfl ?_
            refine n_iconst c_163_66 ?_
            refine n_if2_le c_163_67 (by omega) (by omega) ?_ ?_
            · intro h68
              refine n_iload c_163_93 rfl ?_
              refine n_aload_n c_163_95 rfl ?_
              refine n_getV (bi := 0) c_163_96 sc_112.n rfl rfl rfl (t_dm hS hdm) ?_
              intro z69 ez69 f70
              obtain rfl : z69 = 3 := by omega
              refine n_imul c_163_99 rfl ?_
              refine n_aload_n c_163_100 rfl ?_
              refine n_getR c_163_101 sc_112.n rfl rfl rfl r_112_6 ?_
              refine n_bipush c_163_104 rfl ?_
              refine n_iload_n c_163_106 rfl ?_
              refine n_imul c_163_107 rfl ?_
              refine n_iload c_163_108 rfl ?_
              refine n_iadd c_163_110 rfl ?_
              refine n_ialoadV c_163_111 sc_117.n rfl rfl rfl (by omega) (t_117 hS (by omega)) ?_
              intro z71 ez71 f72
              refine n_iadd c_163_112 rfl ?_
              refine n_istore (L2 := [some (2, 112), some (0, a), some (0, 3), some (0, x), some (0, y), some (0, w), some (0, s), some (0, z1), some (0, ((((0 * 3) + z56) * 3) + z71)), some (0, ((3 - 1) + (-1))), some (0, ((z60 * 3) + z66))]) c_163_113 rfl rfl ?_
              refine n_iinc (L2 := [some (2, 112), some (0, a), some (0, 3), some (0, x), some (0, y), some (0, w), some (0, s), some (0, z1), some (0, ((((0 * 3) + z56) * 3) + z71)), some (0, (((3 - 1) + (-1)) + (-1))), some (0, ((z60 * 3) + z66))]) c_163_115 rfl rfl rfl ?_
              refine n_goto c_163_118 ?_
              refine n_iload c_163_16 rfl ?_
              refine n_if0_lt c_163_18 (by omega) ?_ ?_
              · intro h73
                exfalso; omega
              · intro h74
                refine n_aload_n c_163_21 rfl ?_
                refine n_getR c_163_22 sc_112.n rfl rfl rfl r_112_18 ?_
                refine n_bipush c_163_25 rfl ?_
                refine n_iload_n c_163_27 rfl ?_
                refine n_imul c_163_28 rfl ?_
                refine n_iload c_163_29 rfl ?_
                refine n_iadd c_163_31 rfl ?_
                refine n_ialoadV c_163_32 sc_126.n rfl rfl rfl (by omega) (t_126 hS (by omega)) ?_
                intro z75 ez75 f76
                refine n_istore (L2 := [some (2, 112), some (0, a), some (0, 3), some (0, x), some (0, y), some (0, w), some (0, s), some (0, z1), some (0, ((((0 * 3) + z56) * 3) + z71)), some (0, (((3 - 1) + (-1)) + (-1))), some (0, z75)]) c_163_33 rfl rfl ?_
                refine n_iload c_163_35 rfl ?_
                refine n_iconst c_163_37 ?_
                refine n_if2_le c_163_38 (by omega) (by omega) ?_ ?_
                · intro h77
                  exfalso; omega
                · intro h78
                  refine n_iload c_163_41 rfl ?_
                  refine n_aload_n c_163_43 rfl ?_
                  refine n_getV (bi := 0) c_163_44 sc_112.n rfl rfl rfl (t_dm hS hdm) ?_
                  intro z79 ez79 f80
                  obtain rfl : z79 = 3 := by omega
                  refine n_imul c_163_47 rfl ?_
                  refine n_aload_n c_163_48 rfl ?_
                  refine n_getR c_163_49 sc_112.n rfl rfl rfl r_112_18 ?_
                  refine n_bipush c_163_52 rfl ?_
                  refine n_iload c_163_54 rfl ?_
                  refine n_imul c_163_56 rfl ?_
                  refine n_iload c_163_57 rfl ?_
                  refine n_iadd c_163_59 rfl ?_
                  refine n_ialoadV c_163_60 sc_126.n rfl rfl rfl (by omega) (t_126 hS (by omega)) ?_
                  intro z81 ez81 f82
                  refine n_iadd c_163_61 rfl ?_
                  refine n_istore (L2 := [some (2, 112), some (0, a), some (0, 3), some (0, x), some (0, y), some (0, w), some (0, s), some (0, z1), some (0, ((((0 * 3) + z56) * 3) + z71)), some (0, (((3 - 1) + (-1)) + (-1))), some (0, ((z75 * 3) + z81))]) c_163_62 rfl rfl ?_
                  refine n_iload c_163_64 rfl ?_
                  refine n_iconst c_163_66 ?_
                  refine n_if2_le c_163_67 (by omega) (by omega) ?_ ?_
                  · intro h83
                    refine n_iload c_163_93 rfl ?_
                    refine n_aload_n c_163_95 rfl ?_
                    refine n_getV (bi := 0) c_163_96 sc_112.n rfl rfl rfl (t_dm hS hdm) ?_
                    intro z84 ez84 f85
                    obtain rfl : z84 = 3 := by omega
                    refine n_imul c_163_99 rfl ?_
                    refine n_aload_n c_163_100 rfl ?_
                    refine n_getR c_163_101 sc_112.n rfl rfl rfl r_112_6 ?_
                    refine n_bipush c_163_104 rfl ?_
                    refine n_iload_n c_163_106 rfl ?_
                    refine n_imul c_163_107 rfl ?_
                    refine n_iload c_163_108 rfl ?_
                    refine n_iadd c_163_110 rfl ?_
                    refine n_ialoadV c_163_111 sc_117.n rfl rfl rfl (by omega) (t_117 hS (by omega)) ?_
                    intro z86 ez86 f87
                    refine n_iadd c_163_112 rfl ?_
                    refine n_istore (L2 := [some (2, 112), some (0, a), some (0, 3), some (0, x), some (0, y), some (0, w), some (0, s), some (0, z1), some (0, ((((((0 * 3) + z56) * 3) + z71) * 3) + z86)), some (0, (((3 - 1) + (-1)) + (-1))), some (0, ((z75 * 3) + z81))]) c_163_113 rfl rfl ?_
                    refine n_iinc (L2 := [some (2, 112), some (0, a), some (0, 3), some (0, x), some (0, y), some (0, w), some (0, s), some (0, z1), some (0, ((((((0 * 3) + z56) * 3) + z71) * 3) + z86)), some (0, ((((3 - 1) + (-1)) + (-1)) + (-1))), some (0, ((z75 * 3) + z81))]) c_163_115 rfl rfl rfl ?_
                    refine n_goto c_163_118 ?_
                    refine n_iload c_163_16 rfl ?_
                    refine n_if0_lt c_163_18 (by omega) ?_ ?_
                    · intro h88
                      refine n_aload_n c_163_121 rfl ?_
                      refine n_getR c_163_122 sc_112.n rfl rfl rfl r_112_17 ?_
                      refine n_iload c_163_125 rfl ?_
                      refine n_ialoadV c_163_127 sc_125.n rfl rfl rfl (by omega) (t_125 hS (by omega)) ?_
                      intro z89 ez89 f90
                      refine n_if0_eq c_163_128 (by omega) ?_ ?_
                      · intro h91
                        refine n_fg (le_s (le_n (le_n (le_n (le_n (le_n (le_s (le_n (le_s (le_n (le_n le_0))))))))))) ?_
                        exact (mjoined3_3_c hS hdm ha hx hy hw hs 14).1 _ M hS (by omega) (by omega)
                      · intro h92
                        refine n_aload_n c_163_131 rfl ?_
                        refine n_getR c_163_132 sc_112.n rfl rfl rfl r_112_17 ?_
                        refine n_iload c_163_135 rfl ?_
                        refine n_ialoadV c_163_137 sc_125.n rfl rfl rfl (by omega) (t_125 hS (by omega)) ?_
                        intro z93 ez93 f94
                        refine n_iload c_163_138 rfl ?_
                        refine n_iconst c_163_140 ?_
                        refine n_iadd c_163_141 rfl ?_
                        refine n_if2_le c_163_142 (by omega) (by omega) ?_ ?_
                        · intro h95
                          refine n_fg (le_n (le_n (le_n (le_n (le_n (le_n (le_n (le_n (le_n (le_n (le_n le_0))))))))))) ?_
                          exact (mjoined3_3_c hS hdm ha hx hy hw hs 14).2  M hS  (by omega)
                        · intro h96
                          refine n_fg (le_s (le_n (le_n (le_n (le_n (le_n (le_s (le_n (le_s (le_n (le_n le_0))))))))))) ?_
                          exact (mjoined3_3_c hS hdm ha hx hy hw hs 14).1 _ M hS (by omega) (by omega)
                    · intro h97
                      exfalso; omega
                  · intro h98
                    exfalso; omega
            · intro h99
              exfalso; omega
      · intro h100
        refine n_iload c_163_70 rfl ?_
        refine n_aload_n c_163_72 rfl ?_
        refine n_getV (bi := 0) c_163_73 sc_112.n rfl rfl rfl (t_dm hS hdm) ?_
        intro z101 ez101 f102
        obtain rfl : z101 = 3 := by omega
        refine n_imul c_163_76 rfl ?_
        refine n_aload_n c_163_77 rfl ?_
        refine n_getR c_163_78 sc_112.n rfl rfl rfl r_112_18 ?_
        refine n_bipush c_163_81 rfl ?_
        refine n_iload c_163_83 rfl ?_
        refine n_imul c_163_85 rfl ?_
        refine n_iload c_163_86 rfl ?_
        refine n_iadd c_163_88 rfl ?_
        refine n_ialoadV c_163_89 sc_126.n rfl rfl rfl (by omega) (t_126 hS (by omega)) ?_
        intro z103 ez103 f104
        refine n_iadd c_163_90 rfl ?_
        refine n_istore (L2 := [some (2, 112), some (0, a), some (0, 3), some (0, x), some (0, y), some (0, w), some (0, s), some (0, z1), some (0, 0), some (0, (3 - 1)), some (0, ((((z5 * 3) + z51) * 3) + z103))]) c_163_91 rfl rfl ?_
        refine n_iload c_163_93 rfl ?_
        refine n_aload_n c_163_95 rfl ?_
        refine n_getV (bi := 0) c_163_96 sc_112.n rfl rfl rfl (t_dm hS hdm) ?_
        intro z105 ez105 f106
        obtain rfl : z105 = 3 := by omega
        refine n_imul c_163_99 rfl ?_
        refine n_aload_n c_163_100 rfl ?_
        refine n_getR c_163_101 sc_112.n rfl rfl rfl r_112_6 ?_
        refine n_bipush c_163_104 rfl ?_
        refine n_iload_n c_163_106 rfl ?_
        refine n_imul c_163_107 rfl ?_
        refine n_iload c_163_108 rfl ?_
        refine n_iadd c_163_110 rfl ?_
        refine n_ialoadV c_163_111 sc_117.n rfl rfl rfl (by omega) (t_117 hS (by omega)) ?_
        intro z107 ez107 f108
        refine n_iadd c_163_112 rfl ?_
        refine n_istore (L2 := [some (2, 112), some (0, a), some (0, 3), some (0, x), some (0, y), some (0, w), some (0, s), some (0, z1), some (0, ((0 * 3) + z107)), some (0, (3 - 1)), some (0, ((((z5 * 3) + z51) * 3) + z103))]) c_163_113 rfl rfl ?_
        refine n_iinc (L2 := [some (2, 112), some (0, a), some (0, 3), some (0, x), some (0, y), some (0, w), some (0, s), some (0, z1), some (0, ((0 * 3) + z107)), some (0, ((3 - 1) + (-1))), some (0, ((((z5 * 3) + z51) * 3) + z103))]) c_163_115 rfl rfl rfl ?_
        refine n_goto c_163_118 ?_
        refine n_iload c_163_16 rfl ?_
        refine n_if0_lt c_163_18 (by omega) ?_ ?_
        · intro h109
          exfalso; omega
        · intro h110
          refine n_aload_n c_163_21 rfl ?_
          refine n_getR c_163_22 sc_112.n rfl rfl rfl r_112_18 ?_
          refine n_bipush c_163_25 rfl ?_
          refine n_iload_n c_163_27 rfl ?_
          refine n_imul c_163_28 rfl ?_
          refine n_iload c_163_29 rfl ?_
          refine n_iadd c_163_31 rfl ?_
          refine n_ialoadV c_163_32 sc_126.n rfl rfl rfl (by omega) (t_126 hS (by omega)) ?_
          intro z111 ez111 f112
          refine n_istore (L2 := [some (2, 112), some (0, a), some (0, 3), some (0, x), some (0, y), some (0, w), some (0, s), some (0, z1), some (0, ((0 * 3) + z107)), some (0, ((3 - 1) + (-1))), some (0, z111)]) c_163_33 rfl rfl ?_
          refine n_iload c_163_35 rfl ?_
          refine n_iconst c_163_37 ?_
          refine n_if2_le c_163_38 (by omega) (by omega) ?_ ?_
          · intro h113
            exfalso; omega
          · intro h114
            refine n_iload c_163_41 rfl ?_
            refine n_aload_n c_163_43 rfl ?_
            refine n_getV (bi := 0) c_163_44 sc_112.n rfl rfl rfl (t_dm hS hdm) ?_
            intro z115 ez115 f116
            obtain rfl : z115 = 3 := by omega
            refine n_imul c_163_47 rfl ?_
            refine n_aload_n c_163_48 rfl ?_
            refine n_getR c_163_49 sc_112.n rfl rfl rfl r_112_18 ?_
            refine n_bipush c_163_52 rfl ?_
            refine n_iload c_163_54 rfl ?_
            refine n_imul c_163_56 rfl ?_
            refine n_iload c_163_57 rfl ?_
            refine n_iadd c_163_59 rfl ?_
            refine n_ialoadV c_163_60 sc_126.n rfl rfl rfl (by omega) (t_126 hS (by omega)) ?_
            intro z117 ez117 f118
            refine n_iadd c_163_61 rfl ?_
            refine n_istore (L2 := [some (2, 112), some (0, a), some (0, 3), some (0, x), some (0, y), some (0, w), some (0, s), some (0, z1), some (0, ((0 * 3) + z107)), some (0, ((3 - 1) + (-1))), some (0, ((z111 * 3) + z117))]) c_163_62 rfl rfl ?_
            refine n_iload c_163_64 rfl ?_
            refine n_iconst c_163_66 ?_
            refine n_if2_le c_163_67 (by omega) (by omega) ?_ ?_
            · intro h119
              exfalso; omega
            · intro h120
              refine n_iload c_163_70 rfl ?_
              refine n_aload_n c_163_72 rfl ?_
              refine n_getV (bi := 0) c_163_73 sc_112.n rfl rfl rfl (t_dm hS hdm) ?_
              intro z121 ez121 f122
              obtain rfl : z121 = 3 := by omega
              refine n_imul c_163_76 rfl ?_
              refine n_aload_n c_163_77 rfl ?_
              refine n_getR c_163_78 sc_112.n rfl rfl rfl r_112_18 ?_
              refine n_bipush c_163_81 rfl ?_
              refine n_iload c_163_83 rfl ?_
              refine n_imul c_163_85 rfl ?_
              refine n_iload c_163_86 rfl ?_
              refine n_iadd c_163_88 rfl ?_
              refine n_ialoadV c_163_89 sc_126.n rfl rfl rfl (by omega) (t_126 hS (by omega)) ?_
              intro z123 ez123 f124
              refine n_iadd c_163_90 rfl ?_
              refine n_istore (L2 := [some (2, 112), some (0, a), some (0, 3), some (0, x), some (0, y), some (0, w), some (0, s), some (0, z1), some (0, ((0 * 3) + z107)), some (0, ((3 - 1) + (-1))), some (0, ((((z111 * 3) + z117) * 3) + z123))]) c_163_91 rfl rfl ?_
              refine n_iload c_163_93 rfl ?_
              refine n_aload_n c_163_95 rfl ?_
              refine n_getV (bi := 0) c_163_96 sc_112.n rfl rfl rfl (t_dm hS hdm) ?_
              intro z125 ez125 f126
              obtain rfl : z125 = 3 := by omega
              refine n_imul c_163_99 rfl ?_
              refine n_aload_n c_163_100 rfl ?_
              refine n_getR c_163_101 sc_112.n rfl rfl rfl r_112_6 ?_
              refine n_bipush c_163_104 rfl ?_
              refine n_iload_n c_163_106 rfl ?_
              refine n_imul c_163_107 rfl ?_
              refine n_iload c_163_108 rfl ?_
              refine n_iadd c_163_110 rfl ?_
              refine n_ialoadV c_163_111 sc_117.n rfl rfl rfl (by omega) (t_117 hS (by omega)) ?_
              intro z127 ez127 f128
              refine n_iadd c_163_112 rfl ?_
              refine n_istore (L2 := [some (2, 112), some (0, a), some (0, 3), some (0, x), some (0, y), some (0, w), some (0, s), some (0, z1), some (0, ((((0 * 3) + z107) * 3) + z127)), some (0, ((3 - 1) + (-1))), some (0, ((((z111 * 3) + z117) * 3) + z123))]) c_163_113 rfl rfl ?_
              refine n_iinc (L2 := [some (2, 112), some (0, a), some (0, 3), some (0, x), some (0, y), some (0, w), some (0, s), some (0, z1), some (0, ((((0 * 3) + z107) * 3) + z127)), some (0, (((3 - 1) + (-1)) + (-1))), some (0, ((((z111 * 3) + z117) * 3) + z123))]) c_163_115 rfl rfl rfl ?_
              refine n_goto c_163_118 ?_
              refine n_iload c_163_16 rfl ?_
              refine n_if0_lt c_163_18 (by omega) ?_ ?_
              · intro h129
                exfalso; omega
              · intro h130
                refine n_aload_n c_163_21 rfl ?_
                refine n_getR c_163_22 sc_112.n rfl rfl rfl r_112_18 ?_
                refine n_bipush c_163_25 rfl ?_
                refine n_iload_n c_163_27 rfl ?_
                refine n_imul c_163_28 rfl ?_
                refine n_iload c_163_29 rfl ?_
                refine n_iadd c_163_31 rfl ?_
                refine n_ialoadV c_163_32 sc_126.n rfl rfl rfl (by omega) (t_126 hS (by omega)) ?_
                intro z131 ez131 f132
                refine n_istore (L2 := [some (2, 112), some (0, a), some (0, 3), some (0, x), some (0, y), some (0, w), some (0, s), some (0, z1), some (0, ((((0 * 3) + z107) * 3) + z127)), some (0, (((3 - 1) + (-1)) + (-1))), some (0, z131)]) c_163_33 rfl rfl ?_
                refine n_iload c_163_35 rfl ?_
                refine n_iconst c_163_37 ?_
                refine n_if2_le c_163_38 (by omega) (by omega) ?_ ?_
                · intro h133
                  exfalso; omega
                · intro h134
                  refine n_iload c_163_41 rfl ?_
                  refine n_aload_n c_163_43 rfl ?_
                  refine n_getV (bi := 0) c_163_44 sc_112.n rfl rfl rfl (t_dm hS hdm) ?_
                  intro z135 ez135 f136
                  obtain rfl : z135 = 3 := by omega
                  refine n_imul c_163_47 rfl ?_
                  refine n_aload_n c_163_48 rfl ?_
                  refine n_getR c_163_49 sc_112.n rfl rfl rfl r_112_18 ?_
                  refine n_bipush c_163_52 rfl ?_
                  refine n_iload c_163_54 rfl ?_
                  refine n_imul c_163_56 rfl ?_
                  refine n_iload c_163_57 rfl ?_
                  refine n_iadd c_163_59 rfl ?_
                  refine n_ialoadV c_163_60 sc_126.n rfl rfl rfl (by omega) (t_126 hS (by omega)) ?_
                  intro z137 ez137 f138
                  refine n_iadd c_163_61 rfl ?_
                  refine n_istore (L2 := [some (2, 112), some (0, a), some (0, 3), some (0, x), some (0, y), some (0, w), some (0, s), some (0, z1), some (0, ((((0 * 3) + z107) * 3) + z127)), some (0, (((3 - 1) + (-1)) + (-1))), some (0, ((z131 * 3) + z137))]) c_163_62 rfl rfl ?_
                  refine n_iload c_163_64 rfl ?_
                  refine n_iconst c_163_66 ?_
                  refine n_if2_le c_163_67 (by omega) (by omega) ?_ ?_
                  · intro h139
                    exfalso; omega
                  · intro h140
                    refine n_iload c_163_70 rfl ?_
                    refine n_aload_n c_163_72 rfl ?_
                    refine n_getV (bi := 0) c_163_73 sc_112.n rfl rfl rfl (t_dm hS hdm) ?_
                    intro z141 ez141 f142
                    obtain rfl : z141 = 3 := by omega
                    refine n_imul c_163_76 rfl ?_
                    refine n_aload_n c_163_77 rfl ?_
                    refine n_getR c_163_78 sc_112.n rfl rfl rfl r_112_18 ?_
                    refine n_bipush c_163_81 rfl ?_
                    refine n_iload c_163_83 rfl ?_
                    refine n_imul c_163_85 rfl ?_
                    refine n_iload c_163_86 rfl ?_
                    refine n_iadd c_163_88 rfl ?_
                    refine n_ialoadV c_163_89 sc_126.n rfl rfl rfl (by omega) (t_126 hS (by omega)) ?_
                    intro z143 ez143 f144
                    refine n_iadd c_163_90 rfl ?_
                    refine n_istore (L2 := [some (2, 112), some (0, a), some (0, 3), some (0, x), some (0, y), some (0, w), some (0, s), some (0, z1), some (0, ((((0 * 3) + z107) * 3) + z127)), some (0, (((3 - 1) + (-1)) + (-1))), some (0, ((((z131 * 3) + z137) * 3) + z143))]) c_163_91 rfl rfl ?_
                    refine n_iload c_163_93 rfl ?_
                    refine n_aload_n c_163_95 rfl ?_
                    refine n_getV (bi := 0) c_163_96 sc_112.n rfl rfl rfl (t_dm hS hdm) ?_
                    intro z145 ez145 f146
                    obtain rfl : z145 = 3 := by omega
                    refine n_imul c_163_99 rfl ?_
                    refine n_aload_n c_163_100 rfl ?_
                    refine n_getR c_163_101 sc_112.n rfl rfl rfl r_112_6 ?_
                    refine n_bipush c_163_104 rfl ?_
                    refine n_iload_n c_163_106 rfl ?_
                    refine n_imul c_163_107 rfl ?_
                    refine n_iload c_163_108 rfl ?_
                    refine n_iadd c_163_110 rfl ?_
                    refine n_ialoadV c_163_111 sc_117.n rfl rfl rfl (by omega) (t_117 hS (by omega)) ?_
                    intro z147 ez147 f148
                    refine n_iadd c_163_112 rfl ?_
                    refine n_istore (L2 := [some (2, 112), some (0, a), some (0, 3), some (0, x), some (0, y), some (0, w), some (0, s), some (0, z1), some (0, ((((((0 * 3) + z107) * 3) + z127) * 3) + z147)), some (0, (((3 - 1) + (-1)) + (-1))), some (0, ((((z131 * 3) + z137) * 3) + z143))]) c_163_113 rfl rfl ?_
                    refine n_iinc (L2 := [some (2, 112), some (0, a), some (0, 3), some (0, x), some (0, y), some (0, w), some (0, s), some (0, z1), some (0, ((((((0 * 3) + z107) * 3) + z127) * 3) + z147)), some (0, ((((3 - 1) + (-1)) + (-1)) + (-1))), some (0, ((((z131 * 3) + z137) * 3) + z143))]) c_163_115 rfl rfl rfl ?_
                    refine n_goto c_163_118 ?_
                    refine n_iload c_163_16 rfl ?_
                    refine n_if0_lt c_163_18 (by omega) ?_ ?_
                    · intro h149
                      refine n_aload_n c_163_121 rfl ?_
                      refine n_getR c_163_122 sc_112.n rfl rfl rfl r_112_17 ?_
                      refine n_iload c_163_125 rfl ?_
                      refine n_ialoadV c_163_127 sc_125.n rfl rfl rfl (by omega) (t_125 hS (by omega)) ?_
                      intro z150 ez150 f151
                      refine n_if0_eq c_163_128 (by omega) ?_ ?_
                      · intro h152
                        refine n_fg (le_s (le_n (le_n (le_n (le_n (le_n (le_s (le_n (le_s (le_n (le_n le_0))))))))))) ?_
                        exact (mjoined3_3_c hS hdm ha hx hy hw hs 14).1 _ M hS (by omega) (by omega)
                      · intro h153
                        refine n_aload_n c_163_131 rfl ?_
                        refine n_getR c_163_132 sc_112.n rfl rfl rfl r_112_17 ?_
                        refine n_iload c_163_135 rfl ?_
                        refine n_ialoadV c_163_137 sc_125.n rfl rfl rfl (by omega) (t_125 hS (by omega)) ?_
                        intro z154 ez154 f155
                        refine n_iload c_163_138 rfl ?_
                        refine n_iconst c_163_140 ?_
                        refine n_iadd c_163_141 rfl ?_
                        refine n_if2_le c_163_142 (by omega) (by omega) ?_ ?_
                        · intro h156
                          refine n_fg (le_n (le_n (le_n (le_n (le_n (le_n (le_n (le_n (le_n (le_n (le_n le_0))))))))))) ?_
                          exact (mjoined3_3_c hS hdm ha hx hy hw hs 14).2  M hS  (by omega)
                        · intro h157
                          refine n_fg (le_s (le_n (le_n (le_n (le_n (le_n (le_s (le_n (le_s (le_n (le_n le_0))))))))))) ?_
                          exact (mjoined3_3_c hS hdm ha hx hy hw hs 14).1 _ M hS (by omega) (by omega)
                    · intro h158
                      exfalso; omega
