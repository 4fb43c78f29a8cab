/-! The methods, by program. -/
set_option maxHeartbeats 4000000 in
theorem escapesT3_3_c {xs : List Int32} {e : Nat} {ac : Int} {M0 M : nM} {m f s : Int} (hS : Sf 3 ac M0 M) (hdm : M0 112 0 = 3) (hm : 0 ≤ m ∧ m ≤ 3) (hf : 0 ≤ f ∧ f ≤ 189) (hs : -9223372036854775808 ≤ s ∧ s ≤ 9223372036854775807) : ∀ nn : Nat, (∀ (x7 x8 : Int), (27 ≤ x7 ∧ x7 ≤ 27) → (0 ≤ x8 ∧ x8 ≤ 27) → (27 - x8) * 2612 + 2612 < (nn : Int) → nW xs (e + 2) 154 14 [some (2, 112), some (0, m), some (2, 117), some (0, f), some (0, 3), some (1, s), none, some (0, x7), some (0, x8), none, none, none] [] M (nPI fun z M1 => M = M1 ∧ (-1 ≤ z ∧ z ≤ 26) ∧ (z = -1 ∨ n_land (n_lshr s z) 1 = 0))) ∧ (∀ (x7 x8 x9 : Int), (27 ≤ x7 ∧ x7 ≤ 27) → (0 ≤ x8 ∧ x8 ≤ 26) → (0 ≤ x9 ∧ x9 ≤ 27) → (27 - x8) * 2612 + (27 - x9) * 90 + 91 < (nn : Int) → nW xs (e + 2) 154 39 [some (2, 112), some (0, m), some (2, 117), some (0, f), some (0, 3), some (1, s), none, some (0, x7), some (0, x8), some (0, x9), none, none] [] M (nPI fun z M1 => M = M1 ∧ (-1 ≤ z ∧ z ≤ 26) ∧ (z = -1 ∨ n_land (n_lshr s z) 1 = 0))) ∧ (∀ (x7 x8 x9 : Int), (27 ≤ x7 ∧ x7 ≤ 27) → (0 ≤ x8 ∧ x8 ≤ 26) → (0 ≤ x9 ∧ x9 ≤ 26) → (27 - x8) * 2612 + (27 - x9) * 90 + 90 < (nn : Int) → nW xs (e + 2) 154 75 [some (2, 112), some (0, m), some (2, 117), some (0, f), some (0, 3), some (1, s), none, some (0, x7), some (0, x8), some (0, x9), none, none] [] M (nPI fun z M1 => M = M1 ∧ (-1 ≤ z ∧ z ≤ 26) ∧ (z = -1 ∨ n_land (n_lshr s z) 1 = 0))) ∧ (∀ (x7 x8 x9 x10 : Int), (27 ≤ x7 ∧ x7 ≤ 27) → (0 ≤ x8 ∧ x8 ≤ 26) → (0 ≤ x9 ∧ x9 ≤ 26) → (0 ≤ x10 ∧ x10 ≤ 27) → (27 - x8) * 2612 + (27 - x9) * 90 + (27 - x10) * 3 + 5 < (nn : Int) → nW xs (e + 2) 154 78 [some (2, 112), some (0, m), some (2, 117), some (0, f), some (0, 3), some (1, s), none, some (0, x7), some (0, x8), some (0, x9), some (0, x10), none] [] M (nPI fun z M1 => M = M1 ∧ (-1 ≤ z ∧ z ≤ 26) ∧ (z = -1 ∨ n_land (n_lshr s z) 1 = 0))) ∧ (∀ (x7 x8 x9 x10 : Int), (27 ≤ x7 ∧ x7 ≤ 27) → (0 ≤ x8 ∧ x8 ≤ 26) → (0 ≤ x9 ∧ x9 ≤ 26) → (0 ≤ x10 ∧ x10 ≤ 26) → (27 - x8) * 2612 + (27 - x9) * 90 + (27 - x10) * 3 + 4 < (nn : Int) → nW xs (e + 2) 154 114 [some (2, 112), some (0, m), some (2, 117), some (0, f), some (0, 3), some (1, s), none, some (0, x7), some (0, x8), some (0, x9), some (0, x10), none] [] M (nPI fun z M1 => M = M1 ∧ (-1 ≤ z ∧ z ≤ 26) ∧ (z = -1 ∨ n_land (n_lshr s z) 1 = 0))) ∧ (∀ (x7 x8 x9 x10 : Int), (27 ≤ x7 ∧ x7 ≤ 27) → (0 ≤ x8 ∧ x8 ≤ 26) → (0 ≤ x9 ∧ x9 ≤ 26) → (0 ≤ x10 ∧ x10 ≤ 26) → (27 - x8) * 2612 + (27 - x9) * 90 + (27 - x10) * 3 + 3 < (nn : Int) → nW xs (e + 2) 154 146 [some (2, 112), some (0, m), some (2, 117), some (0, f), some (0, 3), some (1, s), none, some (0, x7), some (0, x8), some (0, x9), some (0, x10), none] [] M (nPI fun z M1 => M = M1 ∧ (-1 ≤ z ∧ z ≤ 26) ∧ (z = -1 ∨ n_land (n_lshr s z) 1 = 0))) ∧ (∀ (x7 x8 x9 : Int), (27 ≤ x7 ∧ x7 ≤ 27) → (0 ≤ x8 ∧ x8 ≤ 26) → (0 ≤ x9 ∧ x9 ≤ 26) → (27 - x8) * 2612 + (27 - x9) * 90 + 2 < (nn : Int) → nW xs (e + 2) 154 152 [some (2, 112), some (0, m), some (2, 117), some (0, f), some (0, 3), some (1, s), none, some (0, x7), some (0, x8), some (0, x9), none, none] [] M (nPI fun z M1 => M = M1 ∧ (-1 ≤ z ∧ z ≤ 26) ∧ (z = -1 ∨ n_land (n_lshr s z) 1 = 0))) ∧ (∀ (x7 x8 : Int), (27 ≤ x7 ∧ x7 ≤ 27) → (0 ≤ x8 ∧ x8 ≤ 26) → (27 - x8) * 2612 + 1 < (nn : Int) → nW xs (e + 2) 154 158 [some (2, 112), some (0, m), some (2, 117), some (0, f), some (0, 3), some (1, s), none, some (0, x7), some (0, x8), none, none, none] [] M (nPI fun z M1 => M = M1 ∧ (-1 ≤ z ∧ z ≤ 26) ∧ (z = -1 ∨ n_land (n_lshr s z) 1 = 0))) := by
  have hd : (3 : Int) = 2 ∨ (3 : Int) = 3 := by decide
  have hac := hS.2.2.2.2
  intro nn
  induction nn with
  | zero => refine ⟨?_, ?_, ?_, ?_, ?_, ?_, ?_, ?_⟩ <;> (intros; omega)
  | succ nn ih =>
    refine ⟨?_, ?_, ?_, ?_, ?_, ?_, ?_, ?_⟩
    · intro x7 x8 k7 k8 hnn
      refine n_iload c_154_14 rfl ?_
      refine n_iload c_154_16 rfl ?_
      refine n_if2_ge c_154_18 (by omega) (by omega) ?_ ?_
      · intro h1
        refine n_iconst c_154_164 ?_
        exact n_rI c_154_165 rfl ⟨rfl, by omega, by first | omega | (refine Or.inr ?_; subst_vars; assumption)⟩
      · intro h2
        refine n_lload c_154_21 rfl ?_
        refine n_iload c_154_23 rfl ?_
        refine n_i_lshr c_154_25 rfl ?_
        have f3 := n_lshr_r s x8
        generalize gz4 : (n_lshr s x8) = z4 at f3 ⊢
        refine n_lconst (n := 1) c_154_26 rfl ?_
        refine n_i_land c_154_27 rfl ?_
        have f5 := n_land_r z4 1
        generalize gz6 : (n_land z4 1) = z6 at f5 ⊢
        refine n_lconst (n := 0) c_154_28 rfl ?_
        refine n_lcmp c_154_29 ?_
        refine n_lif_ne c_154_30 (by omega) (by omega) ?_ ?_
        · intro h7
          refine n_iconst c_154_36 ?_
          refine n_istore (L2 := [some (2, 112), some (0, m), some (2, 117), some (0, f), some (0, 3), some (1, s), none, some (0, x7), some (0, x8), some (0, 0), none, none]) c_154_37 rfl rfl ?_
          refine n_fg (le_s (le_s (le_s (le_s (le_s (le_s (le_n (le_s (le_s (le_s (le_n (le_n le_0)))))))))))) ?_
          exact ih.2.1 _ _ _ (by omega) (by omega) (by omega) (by omega)
        · intro h8
          refine n_goto c_154_33 ?_
          refine n_fg (le_s (le_s (le_s (le_s (le_s (le_s (le_n (le_s (le_s (le_n (le_n (le_n le_0)))))))))))) ?_
          exact ih.2.2.2.2.2.2.2 _ _ (by omega) (by omega) (by omega)
    · intro x7 x8 x9 k7 k8 k9 hnn
      refine n_iload c_154_39 rfl ?_
      refine n_iload_n c_154_41 rfl ?_
      refine n_iconst c_154_42 ?_
      refine n_if2_le c_154_43 (by omega) (by omega) ?_ ?_
      · intro h1
        refine n_iconst c_154_51 ?_
        refine n_if2_ge c_154_52 (by omega) (by omega) ?_ ?_
        · intro h2
          refine n_fg (le_s (le_s (le_s (le_s (le_s (le_s (le_n (le_s (le_s (le_n (le_n (le_n le_0)))))))))))) ?_
          exact ih.2.2.2.2.2.2.2 _ _ (by omega) (by omega) (by omega)
        · intro h3
          refine n_iload_n c_154_55 rfl ?_
          refine n_iconst c_154_56 ?_
          refine n_if2_le c_154_57 (by omega) (by omega) ?_ ?_
          · intro h4
            refine n_fg (le_s (le_s (le_s (le_s (le_s (le_s (le_n (le_s (le_s (le_s (le_n (le_n le_0)))))))))))) ?_
            exact ih.2.2.1 _ _ _ (by omega) (by omega) (by omega) (by omega)
          · intro h5
            exfalso; omega
      · intro h6
        refine n_iload c_154_46 rfl ?_
        refine n_goto c_154_48 ?_
        refine n_if2_ge c_154_52 (by omega) (by omega) ?_ ?_
        · intro h7
          refine n_fg (le_s (le_s (le_s (le_s (le_s (le_s (le_n (le_s (le_s (le_n (le_n (le_n le_0)))))))))))) ?_
          exact ih.2.2.2.2.2.2.2 _ _ (by omega) (by omega) (by omega)
        · intro h8
          refine n_iload_n c_154_55 rfl ?_
          refine n_iconst c_154_56 ?_
          refine n_if2_le c_154_57 (by omega) (by omega) ?_ ?_
          · intro h9
            exfalso; omega
          · intro h10
            refine n_lload c_154_60 rfl ?_
            refine n_iload c_154_62 rfl ?_
            refine n_i_lshr c_154_64 rfl ?_
            have f11 := n_lshr_r s x9
            generalize gz12 : (n_lshr s x9) = z12 at f11 ⊢
            refine n_lconst (n := 1) c_154_65 rfl ?_
            refine n_i_land c_154_66 rfl ?_
            have f13 := n_land_r z12 1
            generalize gz14 : (n_land z12 1) = z14 at f13 ⊢
            refine n_lconst (n := 0) c_154_67 rfl ?_
            refine n_lcmp c_154_68 ?_
            refine n_lif_ne c_154_69 (by omega) (by omega) ?_ ?_
            · intro h15
              refine n_fg (le_s (le_s (le_s (le_s (le_s (le_s (le_n (le_s (le_s (le_s (le_n (le_n le_0)))))))))))) ?_
              exact ih.2.2.1 _ _ _ (by omega) (by omega) (by omega) (by omega)
            · intro h16
              refine n_goto c_154_72 ?_
              refine n_fg (le_s (le_s (le_s (le_s (le_s (le_s (le_n (le_s (le_s (le_s (le_n (le_n le_0)))))))))))) ?_
              exact ih.2.2.2.2.2.2.1 _ _ _ (by omega) (by omega) (by omega) (by omega)
    · intro x7 x8 x9 k7 k8 k9 hnn
      refine n_iconst c_154_75 ?_
      refine n_istore (L2 := [some (2, 112), some (0, m), some (2, 117), some (0, f), some (0, 3), some (1, s), none, some (0, x7), some (0, x8), some (0, x9), some (0, 0), none]) c_154_76 rfl rfl ?_
      refine n_fg (le_s (le_s (le_s (le_s (le_s (le_s (le_n (le_s (le_s (le_s (le_s (le_n le_0)))))))))))) ?_
      exact ih.2.2.2.1 _ _ _ _ (by omega) (by omega) (by omega) (by omega) (by omega)
    · intro x7 x8 x9 x10 k7 k8 k9 k10 hnn
      refine n_iload c_154_78 rfl ?_
      refine n_iload_n c_154_80 rfl ?_
      refine n_iconst c_154_81 ?_
      refine n_if2_le c_154_82 (by omega) (by omega) ?_ ?_
      · intro h1
        refine n_iconst c_154_90 ?_
        refine n_if2_ge c_154_91 (by omega) (by omega) ?_ ?_
        · intro h2
          refine n_fg (le_s (le_s (le_s (le_s (le_s (le_s (le_n (le_s (le_s (le_s (le_n (le_n le_0)))))))))))) ?_
          exact ih.2.2.2.2.2.2.1 _ _ _ (by omega) (by omega) (by omega) (by omega)
        · intro h3
          refine n_iload_n c_154_94 rfl ?_
          refine n_iconst c_154_95 ?_
          refine n_if2_le c_154_96 (by omega) (by omega) ?_ ?_
          · intro h4
            refine n_fg (le_s (le_s (le_s (le_s (le_s (le_s (le_n (le_s (le_s (le_s (le_s (le_n le_0)))))))))))) ?_
            exact ih.2.2.2.2.1 _ _ _ _ (by omega) (by omega) (by omega) (by omega) (by omega)
          · intro h5
            exfalso; omega
      · intro h6
        refine n_iload c_154_85 rfl ?_
        refine n_goto c_154_87 ?_
        refine n_if2_ge c_154_91 (by omega) (by omega) ?_ ?_
        · intro h7
          refine n_fg (le_s (le_s (le_s (le_s (le_s (le_s (le_n (le_s (le_s (le_s (le_n (le_n le_0)))))))))))) ?_
          exact ih.2.2.2.2.2.2.1 _ _ _ (by omega) (by omega) (by omega) (by omega)
        · intro h8
          refine n_iload_n c_154_94 rfl ?_
          refine n_iconst c_154_95 ?_
          refine n_if2_le c_154_96 (by omega) (by omega) ?_ ?_
          · intro h9
            exfalso; omega
          · intro h10
            refine n_lload c_154_99 rfl ?_
            refine n_iload c_154_101 rfl ?_
            refine n_i_lshr c_154_103 rfl ?_
            have f11 := n_lshr_r s x10
            generalize gz12 : (n_lshr s x10) = z12 at f11 ⊢
            refine n_lconst (n := 1) c_154_104 rfl ?_
            refine n_i_land c_154_105 rfl ?_
            have f13 := n_land_r z12 1
            generalize gz14 : (n_land z12 1) = z14 at f13 ⊢
            refine n_lconst (n := 0) c_154_106 rfl ?_
            refine n_lcmp c_154_107 ?_
            refine n_lif_ne c_154_108 (by omega) (by omega) ?_ ?_
            · intro h15
              refine n_fg (le_s (le_s (le_s (le_s (le_s (le_s (le_n (le_s (le_s (le_s (le_s (le_n le_0)))))))))))) ?_
              exact ih.2.2.2.2.1 _ _ _ _ (by omega) (by omega) (by omega) (by omega) (by omega)
            · intro h16
              refine n_goto c_154_111 ?_
              refine n_fg (le_s (le_s (le_s (le_s (le_s (le_s (le_n (le_s (le_s (le_s (le_s (le_n le_0)))))))))))) ?_
              exact ih.2.2.2.2.2.1 _ _ _ _ (by omega) (by omega) (by omega) (by omega) (by omega)
    · intro x7 x8 x9 x10 k7 k8 k9 k10 hnn
      refine n_aload_n c_154_114 rfl ?_
      refine n_iload_n c_154_115 rfl ?_
      refine n_aload_n c_154_116 rfl ?_
      refine n_iload_n c_154_117 rfl ?_
      refine n_iload c_154_118 rfl ?_
      refine n_iload c_154_120 rfl ?_
      refine n_iload c_154_122 rfl ?_
      refine n_iload c_154_124 rfl ?_
      refine n_v7I c_154_126 rfl sc_112.n rfl rfl rfl rfl (imageT3_3 (m := m) (f := f) (x := x8) (y := x9) (z0 := x10) hS hdm (by omega) (by omega) (by omega) (by omega) (by omega)) ?_
      intro z1 M2 hP3
      obtain ⟨eM, f3⟩ := hP3
      subst eM
      refine n_istore (L2 := [some (2, 112), some (0, m), some (2, 117), some (0, f), some (0, 3), some (1, s), none, some (0, x7), some (0, x8), some (0, x9), some (0, x10), some (0, z1)]) c_154_129 rfl rfl ?_
      refine n_lload c_154_131 rfl ?_
      refine n_iload c_154_133 rfl ?_
      refine n_i_lshr c_154_135 rfl ?_
      have f4 := n_lshr_r s z1
      generalize gz5 : (n_lshr s z1) = z5 at f4 ⊢
      refine n_lconst (n := 1) c_154_136 rfl ?_
      refine n_i_land c_154_137 rfl ?_
      have f6 := n_land_r z5 1
      generalize gz7 : (n_land z5 1) = z7 at f6 ⊢
      refine n_lconst (n := 0) c_154_138 rfl ?_
      refine n_lcmp c_154_139 ?_
      refine n_lif_ne c_154_140 (by omega) (by omega) ?_ ?_
      · intro h8
        refine n_fg (le_s (le_s (le_s (le_s (le_s (le_s (le_n (le_s (le_s (le_s (le_s (le_n le_0)))))))))))) ?_
        exact ih.2.2.2.2.2.1 _ _ _ _ (by omega) (by omega) (by omega) (by omega) (by omega)
      · intro h9
        refine n_iload c_154_143 rfl ?_
        exact n_rI c_154_145 rfl ⟨rfl, by omega, by first | omega | (refine Or.inr ?_; subst_vars; assumption)⟩
    · intro x7 x8 x9 x10 k7 k8 k9 k10 hnn
      refine n_iinc (L2 := [some (2, 112), some (0, m), some (2, 117), some (0, f), some (0, 3), some (1, s), none, some (0, x7), some (0, x8), some (0, x9), some (0, (x10 + 1)), none]) c_154_146 rfl rfl rfl ?_
      refine n_goto c_154_149 ?_
      refine n_fg (le_s (le_s (le_s (le_s (le_s (le_s (le_n (le_s (le_s (le_s (le_s (le_n le_0)))))))))))) ?_
      exact ih.2.2.2.1 _ _ _ _ (by omega) (by omega) (by omega) (by omega) (by omega)
    · intro x7 x8 x9 k7 k8 k9 hnn
      refine n_iinc (L2 := [some (2, 112), some (0, m), some (2, 117), some (0, f), some (0, 3), some (1, s), none, some (0, x7), some (0, x8), some (0, (x9 + 1)), none, none]) c_154_152 rfl rfl rfl ?_
      refine n_goto c_154_155 ?_
      refine n_fg (le_s (le_s (le_s (le_s (le_s (le_s (le_n (le_s (le_s (le_s (le_n (le_n le_0)))))))))))) ?_
      exact ih.2.1 _ _ _ (by omega) (by omega) (by omega) (by omega)
    · intro x7 x8 k7 k8 hnn
      refine n_iinc (L2 := [some (2, 112), some (0, m), some (2, 117), some (0, f), some (0, 3), some (1, s), none, some (0, x7), some (0, (x8 + 1)), none, none, none]) c_154_158 rfl rfl rfl ?_
      refine n_goto c_154_161 ?_
      refine n_fg (le_s (le_s (le_s (le_s (le_s (le_s (le_n (le_s (le_s (le_n (le_n (le_n le_0)))))))))))) ?_
      exact ih.1 _ _ (by omega) (by omega) (by omega)
set_option maxHeartbeats 4000000 in
theorem escapesT3_3 {xs : List Int32} {e : Nat} {ac : Int} {M0 M : nM} {m f s : Int} (hS : Sf 3 ac M0 M) (hdm : M0 112 0 = 3) (hm : 0 ≤ m ∧ m ≤ 3) (hf : 0 ≤ f ∧ f ≤ 189) (hs : -9223372036854775808 ≤ s ∧ s ≤ 9223372036854775807) : nW xs (e + 2) 154 0 [some (2, 112), some (0, m), some (2, 117), some (0, f), some (0, 3), some (1, s), none, none, none, none, none, none] [] M (nPI fun z M1 => M = M1 ∧ (-1 ≤ z ∧ z ≤ 26) ∧ (z = -1 ∨ n_land (n_lshr s z) 1 = 0)) := by
  have hd : (3 : Int) = 2 ∨ (3 : Int) = 3 := by decide
  have hac := hS.2.2.2.2
  refine n_aload_n c_154_0 rfl ?_
  refine n_getV (bi := 0) c_154_1 sc_112.n rfl rfl rfl (t_dm hS hdm) ?_
  intro z1 ez1 f2
  obtain rfl : z1 = 3 := by omega
  refine n_iload c_154_4 rfl ?_
  refine n_s2I c_154_6 rfl rfl rfl rfl (mpower3_3  hS ) ?_
  intro z3 M4 hP5
  obtain ⟨eM, f5⟩ := hP5
  subst eM
  obtain rfl : z3 = 27 := by omega
  refine n_istore (L2 := [some (2, 112), some (0, m), some (2, 117), some (0, f), some (0, 3), some (1, s), none, some (0, 27), none, none, none, none]) c_154_9 rfl rfl ?_
  refine n_iconst c_154_11 ?_
  refine n_istore (L2 := [some (2, 112), some (0, m), some (2, 117), some (0, f), some (0, 3), some (1, s), none, some (0, 27), some (0, 0), none, none, none]) c_154_12 rfl rfl ?_
  refine n_fg (le_s (le_s (le_s (le_s (le_s (le_s (le_n (le_s (le_s (le_n (le_n (le_n le_0)))))))))))) ?_
  exact (escapesT3_3_c hS hdm hm hf hs 151506).1 _ _ (by omega) (by omega) (by omega)

set_option maxHeartbeats 4000000 in
theorem escapesT_3 {xs : List Int32} {e : Nat} {ac : Int} {M0 M : nM} {m f k s : Int} (hS : Sf 3 ac M0 M) (hdm : M0 112 0 = 3) (hm : 0 ≤ m ∧ m ≤ 3) (hf : 0 ≤ f ∧ f ≤ 189) (hk : 0 ≤ k ∧ k ≤ 3) (hs : -9223372036854775808 ≤ s ∧ s ≤ 9223372036854775807) : nW xs (e + 2) 154 0 [some (2, 112), some (0, m), some (2, 117), some (0, f), some (0, k), some (1, s), none, none, none, none, none, none] [] M (nPI fun z M1 => M = M1 ∧ (-1 ≤ z ∧ z ≤ 26) ∧ (z = -1 ∨ n_land (n_lshr s z) 1 = 0)) := by
  rcases (show k = 0 ∨ k = 1 ∨ k = 2 ∨ k = 3 by omega) with rfl | rfl | rfl | rfl
  · exact n_post (escapesT0_3 hS hdm (by omega) (by omega) (by omega)) (fun w M1 h => by obtain ⟨z, rfl, h1, h2, h3⟩ := h; exact ⟨z, rfl, h1, by omega, h3⟩)
  · exact n_post (escapesT1_3 hS hdm (by omega) (by omega) (by omega)) (fun w M1 h => by obtain ⟨z, rfl, h1, h2, h3⟩ := h; exact ⟨z, rfl, h1, by omega, h3⟩)
  · exact n_post (escapesT2_3 hS hdm (by omega) (by omega) (by omega)) (fun w M1 h => by obtain ⟨z, rfl, h1, h2, h3⟩ := h; exact ⟨z, rfl, h1, by omega, h3⟩)
  · exact n_post (escapesT3_3 hS hdm (by omega) (by omega) (by omega)) (fun w M1 h => by obtain ⟨z, rfl, h1, h2, h3⟩ := h; exact ⟨z, rfl, h1, by omega, h3⟩)

set_option maxHeartbeats 4000000 in
theorem imageH0_3 {xs : List Int32} {e : Nat} {ac : Int} {M0 M : nM} {m f x y z0 : Int} (hS : Sf 3 ac M0 M) (hdm : M0 112 0 = 3) (hm : 0 ≤ m ∧ m ≤ 3) (hf : 0 ≤ f ∧ f ≤ 0) (hx : 0 ≤ x ∧ x ≤ 26) (hy : 0 ≤ y ∧ y ≤ 26) (hz0 : 0 ≤ z0 ∧ z0 ≤ 26) : nW xs (e + 1) 153 0 [some (2, 112), some (0, m), some (2, 127), some (0, f), some (0, 0), some (0, x), some (0, y), some (0, z0), none, none, none, none] [] M (nPI fun z M1 => M = M1 ∧ (0 ≤ z ∧ z ≤ 26)) := by
  have hd : (3 : Int) = 2 ∨ (3 : Int) = 3 := by decide
  have hac := hS.2.2.2.2
  refine n_iconst c_153_0 ?_
  refine n_istore (L2 := [some (2, 112), some (0, m), some (2, 127), some (0, f), some (0, 0), some (0, x), some (0, y), some (0, z0), some (0, 0), none, none, none]) c_153_1 rfl rfl ?_
  refine n_aload_n c_153_3 rfl ?_
  refine n_getV (bi := 0) c_153_4 sc_112.n rfl rfl rfl (t_dm hS hdm) ?_
  intro z1 ez1 f2
  obtain rfl : z1 = 3 := by omega
  refine n_iload c_153_7 rfl ?_
  refine n_iconst c_153_9 ?_
  refine n_isub c_153_10 rfl ?_
  refine n_s2I c_153_11 rfl rfl rfl rfl (mpowerN_3 (n := (0 - 1)) hS (by omega)) ?_
  intro z3 M4 hP5
  obtain ⟨eM, f5⟩ := hP5
  subst eM
  obtain rfl : z3 = 1 := by omega
  refine n_istore (L2 := [some (2, 112), some (0, m), some (2, 127), some (0, f), some (0, 0), some (0, x), some (0, y), some (0, z0), some (0, 0), some (0, 1), none, none]) c_153_14 rfl rfl ?_
  refine n_iconst c_153_16 ?_
  refine n_istore (L2 := [some (2, 112), some (0, m), some (2, 127), some (0, f), some (0, 0), some (0, x), some (0, y), some (0, z0), some (0, 0), some (0, 1), some (0, 0), none]) c_153_17 rfl rfl ?_
  refine n_iload c_153_19 rfl ?_
  refine n_iload c_153_21 rfl ?_
  refine n_if2_ge c_153_23 (by omega) (by omega) ?_ ?_
  · intro h6
    refine n_iload c_153_119 rfl ?_
    exact n_rI c_153_121 rfl ⟨rfl, by omega⟩
  · intro h7
    exfalso; omega

set_option maxHeartbeats 4000000 in
theorem imageH1_3 {xs : List Int32} {e : Nat} {ac : Int} {M0 M : nM} {m f x y z0 : Int} (hS : Sf 3 ac M0 M) (hdm : M0 112 0 = 3) (hm : 0 ≤ m ∧ m ≤ 3) (hf : 0 ≤ f ∧ f ≤ 0) (hx : 0 ≤ x ∧ x ≤ 26) (hy : 0 ≤ y ∧ y ≤ 26) (hz0 : 0 ≤ z0 ∧ z0 ≤ 26) : nW xs (e + 1) 153 0 [some (2, 112), some (0, m), some (2, 127), some (0, f), some (0, 1), some (0, x), some (0, y), some (0, z0), none, none, none, none] [] M (nPI fun z M1 => M = M1 ∧ (0 ≤ z ∧ z ≤ 26)) := by
  have hd : (3 : Int) = 2 ∨ (3 : Int) = 3 := by decide
  have hac := hS.2.2.2.2
  refine n_iconst c_153_0 ?_
  refine n_istore (L2 := [some (2, 112), some (0, m), some (2, 127), some (0, f), some (0, 1), some (0, x), some (0, y), some (0, z0), some (0, 0), none, none, none]) c_153_1 rfl rfl ?_
  refine n_aload_n c_153_3 rfl ?_
  refine n_getV (bi := 0) c_153_4 sc_112.n rfl rfl rfl (t_dm hS hdm) ?_
  intro z1 ez1 f2
  obtain rfl : z1 = 3 := by omega
  refine n_iload c_153_7 rfl ?_
  refine n_iconst c_153_9 ?_
  refine n_isub c_153_10 rfl ?_
  have hcst : ((1 - 1) : Int) = 0 := by omega
  rw [hcst]
  refine n_s2I c_153_11 rfl rfl rfl rfl (mpower0_3  hS ) ?_
  intro z3 M4 hP5
  obtain ⟨eM, f5⟩ := hP5
  subst eM
  obtain rfl : z3 = 1 := by omega
  refine n_istore (L2 := [some (2, 112), some (0, m), some (2, 127), some (0, f), some (0, 1), some (0, x), some (0, y), some (0, z0), some (0, 0), some (0, 1), none, none]) c_153_14 rfl rfl ?_
  refine n_iconst c_153_16 ?_
  refine n_istore (L2 := [some (2, 112), some (0, m), some (2, 127), some (0, f), some (0, 1), some (0, x), some (0, y), some (0, z0), some (0, 0), some (0, 1), some (0, 0), none]) c_153_17 rfl rfl ?_
  refine n_iload c_153_19 rfl ?_
  refine n_iload c_153_21 rfl ?_
  refine n_if2_ge c_153_23 (by omega) (by omega) ?_ ?_
  · intro h6
    exfalso; omega
  · intro h7
    refine n_iload c_153_26 rfl ?_
    refine n_iload c_153_28 rfl ?_
    refine n_idivV c_153_30 (by omega) (by omega) ?_
    intro z8 _ f9
    refine n_aload_n c_153_31 rfl ?_
    refine n_getV (bi := 0) c_153_32 sc_112.n rfl rfl rfl (t_dm hS hdm) ?_
    intro z10 ez10 f11
    obtain rfl : z10 = 3 := by omega
    refine n_iremV c_153_35 (by omega) (by omega) ?_
    intro z12 _ f13
    refine n_istore (L2 := [some (2, 112), some (0, m), some (2, 127), some (0, f), some (0, 1), some (0, x), some (0, y), some (0, z0), some (0, 0), some (0, 1), some (0, 0), some (0, z12)]) c_153_36 rfl rfl ?_
    refine n_iload_n c_153_38 rfl ?_
    refine n_iconst c_153_39 ?_
    refine n_if2_le c_153_40 (by omega) (by omega) ?_ ?_
    · intro h14
      refine n_iload_n c_153_63 rfl ?_
      refine n_iconst c_153_64 ?_
      refine n_if2_le c_153_65 (by omega) (by omega) ?_ ?_
      · intro h15
        refine n_iload c_153_88 rfl ?_
        refine n_aload_n c_153_90 rfl ?_
        refine n_getV (bi := 0) c_153_91 sc_112.n rfl rfl rfl (t_dm hS hdm) ?_
        intro z16 ez16 f17
        obtain rfl : z16 = 3 := by omega
        refine n_imul c_153_94 rfl ?_
        refine n_aload_n c_153_95 rfl ?_
        refine n_iload_n c_153_96 rfl ?_
        refine n_iload c_153_97 rfl ?_
        refine n_iadd c_153_99 rfl ?_
        refine n_ialoadV c_153_100 sc_127.n rfl rfl rfl (by omega) (t_127 hS (by omega)) ?_
        intro z18 ez18 f19
        refine n_iadd c_153_101 rfl ?_
        refine n_istore (L2 := [some (2, 112), some (0, m), some (2, 127), some (0, f), some (0, 1), some (0, x), some (0, y), some (0, z0), some (0, ((0 * 3) + z18)), some (0, 1), some (0, 0), some (0, z12)]) c_153_102 rfl rfl ?_
        refine n_iload c_153_104 rfl ?_
        refine n_aload_n c_153_106 rfl ?_
        refine n_getV (bi := 0) c_153_107 sc_112.n rfl rfl rfl (t_dm hS hdm) ?_
        intro z20 ez20 f21
        obtain rfl : z20 = 3 := by omega
        refine n_idivT (z := 0) c_153_110 (by omega) (by omega) (by omega) (by decide) ?_
        refine n_istore (L2 := [some (2, 112), some (0, m), some (2, 127), some (0, f), some (0, 1), some (0, x), some (0, y), some (0, z0), some (0, ((0 * 3) + z18)), some (0, 0), some (0, 0), some (0, z12)]) c_153_111 rfl rfl ?_
        refine n_iinc (L2 := [some (2, 112), some (0, m), some (2, 127), some (0, f), some (0, 1), some (0, x), some (0, y), some (0, z0), some (0, ((0 * 3) + z18)), some (0, 0), some (0, (0 + 1)), some (0, z12)]) c_153_113 rfl rfl rfl ?_
        refine n_goto c_153_116 ?_
        refine n_iload c_153_19 rfl ?_
        refine n_iload c_153_21 rfl ?_
        refine n_if2_ge c_153_23 (by omega) (by omega) ?_ ?_
        · intro h22
          refine n_iload c_153_119 rfl ?_
          exact n_rI c_153_121 rfl ⟨rfl, by omega⟩
        · intro h23
          exfalso; omega
      · intro h24
        exfalso; omega
    · intro h25
      refine n_iload c_153_43 rfl ?_
      refine n_aload_n c_153_45 rfl ?_
      refine n_getV (bi := 0) c_153_46 sc_112.n rfl rfl rfl (t_dm hS hdm) ?_
      intro z26 ez26 f27
      obtain rfl : z26 = 3 := by omega
      refine n_imul c_153_49 rfl ?_
      refine n_iload c_153_50 rfl ?_
      refine n_iload c_153_52 rfl ?_
      refine n_idivV c_153_54 (by omega) (by omega) ?_
      intro z28 _ f29
      refine n_aload_n c_153_55 rfl ?_
      refine n_getV (bi := 0) c_153_56 sc_112.n rfl rfl rfl (t_dm hS hdm) ?_
      intro z30 ez30 f31
      obtain rfl : z30 = 3 := by omega
      refine n_iremV c_153_59 (by omega) (by omega) ?_
      intro z32 _ f33
      refine n_iadd c_153_60 rfl ?_
      refine n_istore (L2 := [some (2, 112), some (0, m), some (2, 127), some (0, f), some (0, 1), some (0, x), some (0, y), some (0, z0), some (0, 0), some (0, 1), some (0, 0), some (0, ((z12 * 3) + z32))]) c_153_61 rfl rfl ?_
      refine n_iload_n c_153_63 rfl ?_
      refine n_iconst c_153_64 ?_
      refine n_if2_le c_153_65 (by omega) (by omega) ?_ ?_
      · intro h34
        refine n_iload c_153_88 rfl ?_
        refine n_aload_n c_153_90 rfl ?_
        refine n_getV (bi := 0) c_153_91 sc_112.n rfl rfl rfl (t_dm hS hdm) ?_
        intro z35 ez35 f36
        obtain rfl : z35 = 3 := by omega
        refine n_imul c_153_94 rfl ?_
        refine n_aload_n c_153_95 rfl ?_
        refine n_iload_n c_153_96 rfl ?_
        refine n_iload c_153_97 rfl ?_
        refine n_iadd c_153_99 rfl ?_
        refine n_ialoadV c_153_100 sc_127.n rfl rfl rfl (by omega) (t_127 hS (by omega)) ?_
        intro z37 ez37 f38
        refine n_iadd c_153_101 rfl ?_
        refine n_istore (L2 := [some (2, 112), some (0, m), some (2, 127), some (0, f), some (0, 1), some (0, x), some (0, y), some (0, z0), some (0, ((0 * 3) + z37)), some (0, 1), some (0, 0), some (0, ((z12 * 3) + z32))]) c_153_102 rfl rfl ?_
        refine n_iload c_153_104 rfl ?_
        refine n_aload_n c_153_106 rfl ?_
        refine n_getV (bi := 0) c_153_107 sc_112.n rfl rfl rfl (t_dm hS hdm) ?_
        intro z39 ez39 f40
        obtain rfl : z39 = 3 := by omega
        refine n_idivT (z := 0) c_153_110 (by omega) (by omega) (by omega) (by decide) ?_
        refine n_istore (L2 := [some (2, 112), some (0, m), some (2, 127), some (0, f), some (0, 1), some (0, x), some (0, y), some (0, z0), some (0, ((0 * 3) + z37)), some (0, 0), some (0, 0), some (0, ((z12 * 3) + z32))]) c_153_111 rfl rfl ?_
        refine n_iinc (L2 := [some (2, 112), some (0, m), some (2, 127), some (0, f), some (0, 1), some (0, x), some (0, y), some (0, z0), some (0, ((0 * 3) + z37)), some (0, 0), some (0, (0 + 1)), some (0, ((z12 * 3) + z32))]) c_153_113 rfl rfl rfl ?_
        refine n_goto c_153_116 ?_
        refine n_iload c_153_19 rfl ?_
        refine n_iload c_153_21 rfl ?_
        refine n_if2_ge c_153_23 (by omega) (by omega) ?_ ?_
        · intro h41
          refine n_iload c_153_119 rfl ?_
          exact n_rI c_153_121 rfl ⟨rfl, by omega⟩
        · intro h42
          exfalso; omega
      · intro h43
        refine n_iload c_153_68 rfl ?_
        refine n_aload_n c_153_70 rfl ?_
        refine n_getV (bi := 0) c_153_71 sc_112.n rfl rfl rfl (t_dm hS hdm) ?_
        intro z44 ez44 f45
        obtain rfl : z44 = 3 := by omega
        refine n_imul c_153_74 rfl ?_
        refine n_iload c_153_75 rfl ?_
        refine n_iload c_153_77 rfl ?_
        refine n_idivV c_153_79 (by omega) (by omega) ?_
        intro z46 _ f47
        refine n_aload_n c_153_80 rfl ?_
        refine n_getV (bi := 0) c_153_81 sc_112.n rfl rfl rfl (t_dm hS hdm) ?_
        intro z48 ez48 f49
        obtain rfl : z48 = 3 := by omega
        refine n_iremV c_153_84 (by omega) (by omega) ?_
        intro z50 _ f51
        refine n_iadd c_153_85 rfl ?_
        refine n_istore (L2 := [some (2, 112), some (0, m), some (2, 127), some (0, f), some (0, 1), some (0, x), some (0, y), some (0, z0), some (0, 0), some (0, 1), some (0, 0), some (0, ((((z12 * 3) + z32) * 3) + z50))]) c_153_86 rfl rfl ?_
        refine n_iload c_153_88 rfl ?_
        refine n_aload_n c_153_90 rfl ?_
        refine n_getV (bi := 0) c_153_91 sc_112.n rfl rfl rfl (t_dm hS hdm) ?_
        intro z52 ez52 f53
        obtain rfl : z52 = 3 := by omega
        refine n_imul c_153_94 rfl ?_
        refine n_aload_n c_153_95 rfl ?_
        refine n_iload_n c_153_96 rfl ?_
        refine n_iload c_153_97 rfl ?_
        refine n_iadd c_153_99 rfl ?_
        refine n_ialoadV c_153_100 sc_127.n rfl rfl rfl (by omega) (t_127 hS (by omega)) ?_
        intro z54 ez54 f55
        refine n_iadd c_153_101 rfl ?_
        refine n_istore (L2 := [some (2, 112), some (0, m), some (2, 127), some (0, f), some (0, 1), some (0, x), some (0, y), some (0, z0), some (0, ((0 * 3) + z54)), some (0, 1), some (0, 0), some (0, ((((z12 * 3) + z32) * 3) + z50))]) c_153_102 rfl rfl ?_
        refine n_iload c_153_104 rfl ?_
        refine n_aload_n c_153_106 rfl ?_
        refine n_getV (bi := 0) c_153_107 sc_112.n rfl rfl rfl (t_dm hS hdm) ?_
        intro z56 ez56 f57
        obtain rfl : z56 = 3 := by omega
        refine n_idivT (z := 0) c_153_110 (by omega) (by omega) (by omega) (by decide) ?_
        refine n_istore (L2 := [some (2, 112), some (0, m), some (2, 127), some (0, f), some (0, 1), some (0, x), some (0, y), some (0, z0), some (0, ((0 * 3) + z54)), some (0, 0), some (0, 0), some (0, ((((z12 * 3) + z32) * 3) + z50))]) c_153_111 rfl rfl ?_
        refine n_iinc (L2 := [some (2, 112), some (0, m), some (2, 127), some (0, f), some (0, 1), some (0, x), some (0, y), some (0, z0), some (0, ((0 * 3) + z54)), some (0, 0), some (0, (0 + 1)), some (0, ((((z12 * 3) + z32) * 3) + z50))]) c_153_113 rfl rfl rfl ?_
        refine n_goto c_153_116 ?_
        refine n_iload c_153_19 rfl ?_
        refine n_iload c_153_21 rfl ?_
        refine n_if2_ge c_153_23 (by omega) (by omega) ?_ ?_
        · intro h58
          refine n_iload c_153_119 rfl ?_
          exact n_rI c_153_121 rfl ⟨rfl, by omega⟩
        · intro h59
          exfalso; omega

set_option maxHeartbeats 4000000 in
theorem imageH2_3 {xs : List Int32} {e : Nat} {ac : Int} {M0 M : nM} {m f x y z0 : Int} (hS : Sf 3 ac M0 M) (hdm : M0 112 0 = 3) (hm : 0 ≤ m ∧ m ≤ 3) (hf : 0 ≤ f ∧ f ≤ 0) (hx : 0 ≤ x ∧ x ≤ 26) (hy : 0 ≤ y ∧ y ≤ 26) (hz0 : 0 ≤ z0 ∧ z0 ≤ 26) : nW xs (e + 1) 153 0 [some (2, 112), some (0, m), some (2, 127), some (0, f), some (0, 2), some (0, x), some (0, y), some (0, z0), none, none, none, none] [] M (nPI fun z M1 => M = M1 ∧ (0 ≤ z ∧ z ≤ 26)) := by
  have hd : (3 : Int) = 2 ∨ (3 : Int) = 3 := by decide
  have hac := hS.2.2.2.2
  refine n_iconst c_153_0 ?_
  refine n_istore (L2 := [some (2, 112), some (0, m), some (2, 127), some (0, f), some (0, 2), some (0, x), some (0, y), some (0, z0), some (0, 0), none, none, none]) c_153_1 rfl rfl ?_
  refine n_aload_n c_153_3 rfl ?_
  refine n_getV (bi := 0) c_153_4 sc_112.n rfl rfl rfl (t_dm hS hdm) ?_
  intro z1 ez1 f2
  obtain rfl : z1 = 3 := by omega
  refine n_iload c_153_7 rfl ?_
  refine n_iconst c_153_9 ?_
  refine n_isub c_153_10 rfl ?_
  have hcst : ((2 - 1) : Int) = 1 := by omega
  rw [hcst]
  refine n_s2I c_153_11 rfl rfl rfl rfl (mpower1_3  hS ) ?_
  intro z3 M4 hP5
  obtain ⟨eM, f5⟩ := hP5
  subst eM
  obtain rfl : z3 = 3 := by omega
  refine n_istore (L2 := [some (2, 112), some (0, m), some (2, 127), some (0, f), some (0, 2), some (0, x), some (0, y), some (0, z0), some (0, 0), some (0, 3), none, none]) c_153_14 rfl rfl ?_
  refine n_iconst c_153_16 ?_
  refine n_istore (L2 := [some (2, 112), some (0, m), some (2, 127), some (0, f), some (0, 2), some (0, x), some (0, y), some (0, z0), some (0, 0), some (0, 3), some (0, 0), none]) c_153_17 rfl rfl ?_
  refine n_iload c_153_19 rfl ?_
  refine n_iload c_153_21 rfl ?_
  refine n_if2_ge c_153_23 (by omega) (by omega) ?_ ?_
  · intro h6
    exfalso; omega
  · intro h7
    refine n_iload c_153_26 rfl ?_
    refine n_iload c_153_28 rfl ?_
    refine n_idivV c_153_30 (by omega) (by omega) ?_
    intro z8 _ f9
    refine n_aload_n c_153_31 rfl ?_
    refine n_getV (bi := 0) c_153_32 sc_112.n rfl rfl rfl (t_dm hS hdm) ?_
    intro z10 ez10 f11
    obtain rfl : z10 = 3 := by omega
    refine n_iremV c_153_35 (by omega) (by omega) ?_
    intro z12 _ f13
    refine n_istore (L2 := [some (2, 112), some (0, m), some (2, 127), some (0, f), some (0, 2), some (0, x), some (0, y), some (0, z0), some (0, 0), some (0, 3), some (0, 0), some (0, z12)]) c_153_36 rfl rfl ?_
    refine n_iload_n c_153_38 rfl ?_
    refine n_iconst c_153_39 ?_
    refine n_if2_le c_153_40 (by omega) (by omega) ?_ ?_
    · intro h14
      refine n_iload_n c_153_63 rfl ?_
      refine n_iconst c_153_64 ?_
      refine n_if2_le c_153_65 (by omega) (by omega) ?_ ?_
      · intro h15
        refine n_iload c_153_88 rfl ?_
        refine n_aload_n c_153_90 rfl ?_
        refine n_getV (bi := 0) c_153_91 sc_112.n rfl rfl rfl (t_dm hS hdm) ?_
        intro z16 ez16 f17
        obtain rfl : z16 = 3 := by omega
        refine n_imul c_153_94 rfl ?_
        refine n_aload_n c_153_95 rfl ?_
        refine n_iload_n c_153_96 rfl ?_
        refine n_iload c_153_97 rfl ?_
        refine n_iadd c_153_99 rfl ?_
        refine n_ialoadV c_153_100 sc_127.n rfl rfl rfl (by omega) (t_127 hS (by omega)) ?_
        intro z18 ez18 f19
        refine n_iadd c_153_101 rfl ?_
        refine n_istore (L2 := [some (2, 112), some (0, m), some (2, 127), some (0, f), some (0, 2), some (0, x), some (0, y), some (0, z0), some (0, ((0 * 3) + z18)), some (0, 3), some (0, 0), some (0, z12)]) c_153_102 rfl rfl ?_
        refine n_iload c_153_104 rfl ?_
        refine n_aload_n c_153_106 rfl ?_
        refine n_getV (bi := 0) c_153_107 sc_112.n rfl rfl rfl (t_dm hS hdm) ?_
        intro z20 ez20 f21
        obtain rfl : z20 = 3 := by omega
        refine n_idivT (z := 1) c_153_110 (by omega) (by omega) (by omega) (by decide) ?_
        refine n_istore (L2 := [some (2, 112), some (0, m), some (2, 127), some (0, f), some (0, 2), some (0, x), some (0, y), some (0, z0), some (0, ((0 * 3) + z18)), some (0, 1), some (0, 0), some (0, z12)]) c_153_111 rfl rfl ?_
        refine n_iinc (L2 := [some (2, 112), some (0, m), some (2, 127), some (0, f), some (0, 2), some (0, x), some (0, y), some (0, z0), some (0, ((0 * 3) + z18)), some (0, 1), some (0, (0 + 1)), some (0, z12)]) c_153_113 rfl rfl rfl ?_
        refine n_goto c_153_116 ?_
        refine n_iload c_153_19 rfl ?_
        refine n_iload c_153_21 rfl ?_
        refine n_if2_ge c_153_23 (by omega) (by omega) ?_ ?_
        · intro h22
          exfalso; omega
        · intro h23
          refine n_iload c_153_26 rfl ?_
          refine n_iload c_153_28 rfl ?_
          refine n_idivV c_153_30 (by omega) (by omega) ?_
          intro z24 _ f25
          refine n_aload_n c_153_31 rfl ?_
          refine n_getV (bi := 0) c_153_32 sc_112.n rfl rfl rfl (t_dm hS hdm) ?_
          intro z26 ez26 f27
          obtain rfl : z26 = 3 := by omega
          refine n_iremV c_153_35 (by omega) (by omega) ?_
          intro z28 _ f29
          refine n_istore (L2 := [some (2, 112), some (0, m), some (2, 127), some (0, f), some (0, 2), some (0, x), some (0, y), some (0, z0), some (0, ((0 * 3) + z18)), some (0, 1), some (0, (0 + 1)), some (0, z28)]) c_153_36 rfl rfl ?_
          refine n_iload_n c_153_38 rfl ?_
          refine n_iconst c_153_39 ?_
          refine n_if2_le c_153_40 (by omega) (by omega) ?_ ?_
          · intro h30
            refine n_iload_n c_153_63 rfl ?_
            refine n_iconst c_153_64 ?_
            refine n_if2_le c_153_65 (by omega) (by omega) ?_ ?_
            · intro h31
              refine n_iload c_153_88 rfl ?_
              refine n_aload_n c_153_90 rfl ?_
              refine n_getV (bi := 0) c_153_91 sc_112.n rfl rfl rfl (t_dm hS hdm) ?_
              intro z32 ez32 f33
              obtain rfl : z32 = 3 := by omega
              refine n_imul c_153_94 rfl ?_
              refine n_aload_n c_153_95 rfl ?_
              refine n_iload_n c_153_96 rfl ?_
              refine n_iload c_153_97 rfl ?_
              refine n_iadd c_153_99 rfl ?_
              refine n_ialoadV c_153_100 sc_127.n rfl rfl rfl (by omega) (t_127 hS (by omega)) ?_
              intro z34 ez34 f35
              refine n_iadd c_153_101 rfl ?_
              refine n_istore (L2 := [some (2, 112), some (0, m), some (2, 127), some (0, f), some (0, 2), some (0, x), some (0, y), some (0, z0), some (0, ((((0 * 3) + z18) * 3) + z34)), some (0, 1), some (0, (0 + 1)), some (0, z28)]) c_153_102 rfl rfl ?_
              refine n_iload c_153_104 rfl ?_
              refine n_aload_n c_153_106 rfl ?_
              refine n_getV (bi := 0) c_153_107 sc_112.n rfl rfl rfl (t_dm hS hdm) ?_
              intro z36 ez36 f37
              obtain rfl : z36 = 3 := by omega
              refine n_idivT (z := 0) c_153_110 (by omega) (by omega) (by omega) (by decide) ?_
              refine n_istore (L2 := [some (2, 112), some (0, m), some (2, 127), some (0, f), some (0, 2), some (0, x), some (0, y), some (0, z0), some (0, ((((0 * 3) + z18) * 3) + z34)), some (0, 0), some (0, (0 + 1)), some (0, z28)]) c_153_111 rfl rfl ?_
              refine n_iinc (L2 := [some (2, 112), some (0, m), some (2, 127), some (0, f), some (0, 2), some (0, x), some (0, y), some (0, z0), some (0, ((((0 * 3) + z18) * 3) + z34)), some (0, 0), some (0, ((0 + 1) + 1)), some (0, z28)]) c_153_113 rfl rfl rfl ?_
              refine n_goto c_153_116 ?_
              refine n_iload c_153_19 rfl ?_
              refine n_iload c_153_21 rfl ?_
              refine n_if2_ge c_153_23 (by omega) (by omega) ?_ ?_
              · intro h38
                refine n_iload c_153_119 rfl ?_
                exact n_rI c_153_121 rfl ⟨rfl, by omega⟩
              · intro h39
                exfalso; omega
            · intro h40
              exfalso; omega
          · intro h41
            exfalso; omega
      · intro h42
        exfalso; omega
    · intro h43
      refine n_iload c_153_43 rfl ?_
      refine n_aload_n c_153_45 rfl ?_
      refine n_getV (bi := 0) c_153_46 sc_112.n rfl rfl rfl (t_dm hS hdm) ?_
      intro z44 ez44 f45
      obtain rfl : z44 = 3 := by omega
      refine n_imul c_153_49 rfl ?_
      refine n_iload c_153_50 rfl ?_
      refine n_iload c_153_52 rfl ?_
      refine n_idivV c_153_54 (by omega) (by omega) ?_
      intro z46 _ f47
      refine n_aload_n c_153_55 rfl ?_
      refine n_getV (bi := 0) c_153_56 sc_112.n rfl rfl rfl (t_dm hS hdm) ?_
      intro z48 ez48 f49
      obtain rfl : z48 = 3 := by omega
      refine n_iremV c_153_59 (by omega) (by omega) ?_
      intro z50 _ f51
      refine n_iadd c_153_60 rfl ?_
      refine n_istore (L2 := [some (2, 112), some (0, m), some (2, 127), some (0, f), some (0, 2), some (0, x), some (0, y), some (0, z0), some (0, 0), some (0, 3), some (0, 0), some (0, ((z12 * 3) + z50))]) c_153_61 rfl rfl ?_
      refine n_iload_n c_153_63 rfl ?_
      refine n_iconst c_153_64 ?_
      refine n_if2_le c_153_65 (by omega) (by omega) ?_ ?_
      · intro h52
        refine n_iload c_153_88 rfl ?_
        refine n_aload_n c_153_90 rfl ?_
        refine n_getV (bi := 0) c_153_91 sc_112.n rfl rfl rfl (t_dm hS hdm) ?_
        intro z53 ez53 f54
        obtain rfl : z53 = 3 := by omega
        refine n_imul c_153_94 rfl ?_
        refine n_aload_n c_153_95 rfl ?_
        refine n_iload_n c_153_96 rfl ?_
        refine n_iload c_153_97 rfl ?_
        refine n_iadd c_153_99 rfl ?_
        refine n_ialoadV c_153_100 sc_127.n rfl rfl rfl (by omega) (t_127 hS (by omega)) ?_
        intro z55 ez55 f56
        refine n_iadd c_153_101 rfl ?_
        refine n_istore (L2 := [some (2, 112), some (0, m), some (2, 127), some (0, f), some (0, 2), some (0, x), some (0, y), some (0, z0), some (0, ((0 * 3) + z55)), some (0, 3), some (0, 0), some (0, ((z12 * 3) + z50))]) c_153_102 rfl rfl ?_
        refine n_iload c_153_104 rfl ?_
        refine n_aload_n c_153_106 rfl ?_
        refine n_getV (bi := 0) c_153_107 sc_112.n rfl rfl rfl (t_dm hS hdm) ?_
        intro z57 ez57 f58
        obtain rfl : z57 = 3 := by omega
        refine n_idivT (z := 1) c_153_110 (by omega) (by omega) (by omega) (by decide) ?_
        refine n_istore (L2 := [some (2, 112), some (0, m), some (2, 127), some (0, f), some (0, 2), some (0, x), some (0, y), some (0, z0), some (0, ((0 * 3) + z55)), some (0, 1), some (0, 0), some (0, ((z12 * 3) + z50))]) c_153_111 rfl rfl ?_
        refine n_iinc (L2 := [some (2, 112), some (0, m), some (2, 127), some (0, f), some (0, 2), some (0, x), some (0, y), some (0, z0), some (0, ((0 * 3) + z55)), some (0, 1), some (0, (0 + 1)), some (0, ((z12 * 3) + z50))]) c_153_113 rfl rfl rfl ?_
        refine n_goto c_153_116 ?_
        refine n_iload c_153_19 rfl ?_
        refine n_iload c_153_21 rfl ?_
        refine n_if2_ge c_153_23 (by omega) (by omega) ?_ ?_
        · intro h59
          exfalso; omega
        · intro h60
          refine n_iload c_153_26 rfl ?_
          refine n_iload c_153_28 rfl ?_
          refine n_idivV c_153_30 (by omega) (by omega) ?_
          intro z61 _ f62
          refine n_aload_n c_153_31 rfl ?_
          refine n_getV (bi := 0) c_153_32 sc_112.n rfl rfl rfl (t_dm hS hdm) ?_
          intro z63 ez63 f64
          obtain rfl : z63 = 3 := by omega
          refine n_iremV c_153_35 (by omega) (by omega) ?_
          intro z65 _ f66
          refine n_istore (L2 := [some (2, 112), some (0, m), some (2, 127), some (0, f), some (0, 2), some (0, x), some (0, y), some (0, z0), some (0, ((0 * 3) + z55)), some (0, 1), some (0, (0 + 1)), some (0, z65)]) c_153_36 rfl rfl ?_
          refine n_iload_n c_153_38 rfl ?_
          refine n_iconst c_153_39 ?_
          refine n_if2_le c_153_40 (by omega) (by omega) ?_ ?_
          · intro h67
            exfalso; omega
          · intro h68
            refine n_iload c_153_43 rfl ?_
            refine n_aload_n c_153_45 rfl ?_
            refine n_getV (bi := 0) c_153_46 sc_112.n rfl rfl rfl (t_dm hS hdm) ?_
            intro z69 ez69 f70
            obtain rfl : z69 = 3 := by omega
            refine n_imul c_153_49 rfl ?_
            refine n_iload c_153_50 rfl ?_
            refine n_iload c_153_52 rfl ?_
            refine n_idivV c_153_54 (by omega) (by omega) ?_
            intro z71 _ f72
            refine n_aload_n c_153_55 rfl ?_
            refine n_getV (bi := 0) c_153_56 sc_112.n rfl rfl rfl (t_dm hS hdm) ?_
            intro z73 ez73 f74
            obtain rfl : z73 = 3 := by omega
            refine n_iremV c_153_59 (by omega) (by omega) ?_
            intro z75 _ f76
            refine n_iadd c_153_60 rfl ?_
            refine n_istore (L2 := [some (2, 112), some (0, m), some (2, 127), some (0, f), some (0, 2), some (0, x), some (0, y), some (0, z0), some (0, ((0 * 3) + z55)), some (0, 1), some (0, (0 + 1)), some (0, ((z65 * 3) + z75))]) c_153_61 rfl rfl ?_
            refine n_iload_n c_153_63 rfl ?_
            refine n_iconst c_153_64 ?_
            refine n_if2_le c_153_65 (by omega) (by omega) ?_ ?_
            · intro h77
              refine n_iload c_153_88 rfl ?_
              refine n_aload_n c_153_90 rfl ?_
              refine n_getV (bi := 0) c_153_91 sc_112.n rfl rfl rfl (t_dm hS hdm) ?_
              intro z78 ez78 f79
              obtain rfl : z78 = 3 := by omega
              refine n_imul c_153_94 rfl ?_
              refine n_aload_n c_153_95 rfl ?_
              refine n_iload_n c_153_96 rfl ?_
              refine n_iload c_153_97 rfl ?_
              refine n_iadd c_153_99 rfl ?_
              refine n_ialoadV c_153_100 sc_127.n rfl rfl rfl (by omega) (t_127 hS (by omega)) ?_
              intro z80 ez80 f81
              refine n_iadd c_153_101 rfl ?_
              refine n_istore (L2 := [some (2, 112), some (0, m), some (2, 127), some (0, f), some (0, 2), some (0, x), some (0, y), some (0, z0), some (0, ((((0 * 3) + z55) * 3) + z80)), some (0, 1), some (0, (0 + 1)), some (0, ((z65 * 3) + z75))]) c_153_102 rfl rfl ?_
              refine n_iload c_153_104 rfl ?_
              refine n_aload_n c_153_106 rfl ?_
              refine n_getV (bi := 0) c_153_107 sc_112.n rfl rfl rfl (t_dm hS hdm) ?_
              intro z82 ez82 f83
              obtain rfl : z82 = 3 := by omega
              refine n_idivT (z := 0) c_153_110 (by omega) (by omega) (by omega) (by decide) ?_
              refine n_istore (L2 := [some (2, 112), some (0, m), some (2, 127), some (0, f), some (0, 2), some (0, x), some (0, y), some (0, z0), some (0, ((((0 * 3) + z55) * 3) + z80)), some (0, 0), some (0, (0 + 1)), some (0, ((z65 * 3) + z75))]) c_153_111 rfl rfl ?_
              refine n_iinc (L2 := [some (2, 112), some (0, m), some (2, 127), some (0, f), some (0, 2), some (0, x), some (0, y), some (0, z0), some (0, ((((0 * 3) + z55) * 3) + z80)), some (0, 0), some (0, ((0 + 1) + 1)), some (0, ((z65 * 3) + z75))]) c_153_113 rfl rfl rfl ?_
              refine n_goto c_153_116 ?_
              refine n_iload c_153_19 rfl ?_
              refine n_iload c_153_21 rfl ?_
              refine n_if2_ge c_153_23 (by omega) (by omega) ?_ ?_
              · intro h84
                refine n_iload c_153_119 rfl ?_
                exact n_rI c_153_121 rfl ⟨rfl, by omega⟩
              · intro h85
                exfalso; omega
            · intro h86
              exfalso; omega
      · intro h87
        refine n_iload c_153_68 rfl ?_
        refine n_aload_n c_153_70 rfl ?_
        refine n_getV (bi := 0) c_153_71 sc_112.n rfl rfl rfl (t_dm hS hdm) ?_
        intro z88 ez88 f89
        obtain rfl : z88 = 3 := by omega
        refine n_imul c_153_74 rfl ?_
        refine n_iload c_153_75 rfl ?_
        refine n_iload c_153_77 rfl ?_
        refine n_idivV c_153_79 (by omega) (by omega) ?_
        intro z90 _ f91
        refine n_aload_n c_153_80 rfl ?_
        refine n_getV (bi := 0) c_153_81 sc_112.n rfl rfl rfl (t_dm hS hdm) ?_
        intro z92 ez92 f93
        obtain rfl : z92 = 3 := by omega
        refine n_iremV c_153_84 (by omega) (by omega) ?_
        intro z94 _ f95
        refine n_iadd c_153_85 rfl ?_
        refine n_istore (L2 := [some (2, 112), some (0, m), some (2, 127), some (0, f), some (0, 2), some (0, x), some (0, y), some (0, z0), some (0, 0), some (0, 3), some (0, 0), some (0, ((((z12 * 3) + z50) * 3) + z94))]) c_153_86 rfl rfl ?_
        refine n_iload c_153_88 rfl ?_
        refine n_aload_n c_153_90 rfl ?_
        refine n_getV (bi := 0) c_153_91 sc_112.n rfl rfl rfl (t_dm hS hdm) ?_
        intro z96 ez96 f97
        obtain rfl : z96 = 3 := by omega
        refine n_imul c_153_94 rfl ?_
        refine n_aload_n c_153_95 rfl ?_
        refine n_iload_n c_153_96 rfl ?_
        refine n_iload c_153_97 rfl ?_
        refine n_iadd c_153_99 rfl ?_
        refine n_ialoadV c_153_100 sc_127.n rfl rfl rfl (by omega) (t_127 hS (by omega)) ?_
        intro z98 ez98 f99
        refine n_iadd c_153_101 rfl ?_
        refine n_istore (L2 := [some (2, 112), some (0, m), some (2, 127), some (0, f), some (0, 2), some (0, x), some (0, y), some (0, z0), some (0, ((0 * 3) + z98)), some (0, 3), some (0, 0), some (0, ((((z12 * 3) + z50) * 3) + z94))]) c_153_102 rfl rfl ?_
        refine n_iload c_153_104 rfl ?_
        refine n_aload_n c_153_106 rfl ?_
        refine n_getV (bi := 0) c_153_107 sc_112.n rfl rfl rfl (t_dm hS hdm) ?_
        intro z100 ez100 f101
        obtain rfl : z100 = 3 := by omega
        refine n_idivT (z := 1) c_153_110 (by omega) (by omega) (by omega) (by decide) ?_
        refine n_istore (L2 := [some (2, 112), some (0, m), some (2, 127), some (0, f), some (0, 2), some (0, x), some (0, y), some (0, z0), some (0, ((0 * 3) + z98)), some (0, 1), some (0, 0), some (0, ((((z12 * 3) + z50) * 3) + z94))]) c_153_111 rfl rfl ?_
        refine n_iinc (L2 := [some (2, 112), some (0, m), some (2, 127), some (0, f), some (0, 2), some (0, x), some (0, y), some (0, z0), some (0, ((0 * 3) + z98)), some (0, 1), some (0, (0 + 1)), some (0, ((((z12 * 3) + z50) * 3) + z94))]) c_153_113 rfl rfl rfl ?_
        refine n_goto c_153_116 ?_
        refine n_iload c_153_19 rfl ?_
        refine n_iload c_153_21 rfl ?_
        refine n_if2_ge c_153_23 (by omega) (by omega) ?_ ?_
        · intro h102
          exfalso; omega
        · intro h103
          refine n_iload c_153_26 rfl ?_
          refine n_iload c_153_28 rfl ?_
          refine n_idivV c_153_30 (by omega) (by omega) ?_
          intro z104 _ f105
          refine n_aload_n c_153_31 rfl ?_
          refine n_getV (bi := 0) c_153_32 sc_112.n rfl rfl rfl (t_dm hS hdm) ?_
          intro z106 ez106 f107
          obtain rfl : z106 = 3 := by omega
          refine n_iremV c_153_35 (by omega) (by omega) ?_
          intro z108 _ f109
          refine n_istore (L2 := [some (2, 112), some (0, m), some (2, 127), some (0, f), some (0, 2), some (0, x), some (0, y), some (0, z0), some (0, ((0 * 3) + z98)), some (0, 1), some (0, (0 + 1)), some (0, z108)]) c_153_36 rfl rfl ?_
          refine n_iload_n c_153_38 rfl ?_
          refine n_iconst c_153_39 ?_
          refine n_if2_le c_153_40 (by omega) (by omega) ?_ ?_
          · intro h110
            exfalso; omega
          · intro h111
            refine n_iload c_153_43 rfl ?_
            refine n_aload_n c_153_45 rfl ?_
            refine n_getV (bi := 0) c_153_46 sc_112.n rfl rfl rfl (t_dm hS hdm) ?_
            intro z112 ez112 f113
            obtain rfl : z112 = 3 := by omega
            refine n_imul c_153_49 rfl ?_
            refine n_iload c_153_50 rfl ?_
            refine n_iload c_153_52 rfl ?_
            refine n_idivV c_153_54 (by omega) (by omega) ?_
            intro z114 _ f115
            refine n_aload_n c_153_55 rfl ?_
            refine n_getV (bi := 0) c_153_56 sc_112.n rfl rfl rfl (t_dm hS hdm) ?_
            intro z116 ez116 f117
            obtain rfl : z116 = 3 := by omega
            refine n_iremV c_153_59 (by omega) (by omega) ?_
            intro z118 _ f119
            refine n_iadd c_153_60 rfl ?_
            refine n_istore (L2 := [some (2, 112), some (0, m), some (2, 127), some (0, f), some (0, 2), some (0, x), some (0, y), some (0, z0), some (0, ((0 * 3) + z98)), some (0, 1), some (0, (0 + 1)), some (0, ((z108 * 3) + z118))]) c_153_61 rfl rfl ?_
            refine n_iload_n c_153_63 rfl ?_
            refine n_iconst c_153_64 ?_
            refine n_if2_le c_153_65 (by omega) (by omega) ?_ ?_
            · intro h120
              exfalso; omega
            · intro h121
              refine n_iload c_153_68 rfl ?_
              refine n_aload_n c_153_70 rfl ?_
              refine n_getV (bi := 0) c_153_71 sc_112.n rfl rfl rfl (t_dm hS hdm) ?_
              intro z122 ez122 f123
              obtain rfl : z122 = 3 := by omega
              refine n_imul c_153_74 rfl ?_
              refine n_iload c_153_75 rfl ?_
              refine n_iload c_153_77 rfl ?_
              refine n_idivV c_153_79 (by omega) (by omega) ?_
              intro z124 _ f125
              refine n_aload_n c_153_80 rfl ?_
              refine n_getV (bi := 0) c_153_81 sc_112.n rfl rfl rfl (t_dm hS hdm) ?_
              intro z126 ez126 f127
              obtain rfl : z126 = 3 := by omega
              refine n_iremV c_153_84 (by omega) (by omega) ?_
              intro z128 _ f129
              refine n_iadd c_153_85 rfl ?_
              refine n_istore (L2 := [some (2, 112), some (0, m), some (2, 127), some (0, f), some (0, 2), some (0, x), some (0, y), some (0, z0), some (0, ((0 * 3) + z98)), some (0, 1), some (0, (0 + 1)), some (0, ((((z108 * 3) + z118) * 3) + z128))]) c_153_86 rfl rfl ?_
              refine n_iload c_153_88 rfl ?_
              refine n_aload_n c_153_90 rfl ?_
              refine n_getV (bi := 0) c_153_91 sc_112.n rfl rfl rfl (t_dm hS hdm) ?_
              intro z130 ez130 f131
              obtain rfl : z130 = 3 := by omega
              refine n_imul c_153_94 rfl ?_
              refine n_aload_n c_153_95 rfl ?_
              refine n_iload_n c_153_96 rfl ?_
              refine n_iload c_153_97 rfl ?_
              refine n_iadd c_153_99 rfl ?_
              refine n_ialoadV c_153_100 sc_127.n rfl rfl rfl (by omega) (t_127 hS (by omega)) ?_
              intro z132 ez132 f133
              refine n_iadd c_153_101 rfl ?_
              refine n_istore (L2 := [some (2, 112), some (0, m), some (2, 127), some (0, f), some (0, 2), some (0, x), some (0, y), some (0, z0), some (0, ((((0 * 3) + z98) * 3) + z132)), some (0, 1), some (0, (0 + 1)), some (0, ((((z108 * 3) + z118) * 3) + z128))]) c_153_102 rfl rfl ?_
              refine n_iload c_153_104 rfl ?_
              refine n_aload_n c_153_106 rfl ?_
              refine n_getV (bi := 0) c_153_107 sc_112.n rfl rfl rfl (t_dm hS hdm) ?_
              intro z134 ez134 f135
              obtain rfl : z134 = 3 := by omega
              refine n_idivT (z := 0) c_153_110 (by omega) (by omega) (by omega) (by decide) ?_
              refine n_istore (L2 := [some (2, 112), some (0, m), some (2, 127), some (0, f), some (0, 2), some (0, x), some (0, y), some (0, z0), some (0, ((((0 * 3) + z98) * 3) + z132)), some (0, 0), some (0, (0 + 1)), some (0, ((((z108 * 3) + z118) * 3) + z128))]) c_153_111 rfl rfl ?_
              refine n_iinc (L2 := [some (2, 112), some (0, m), some (2, 127), some (0, f), some (0, 2), some (0, x), some (0, y), some (0, z0), some (0, ((((0 * 3) + z98) * 3) + z132)), some (0, 0), some (0, ((0 + 1) + 1)), some (0, ((((z108 * 3) + z118) * 3) + z128))]) c_153_113 rfl rfl rfl ?_
              refine n_goto c_153_116 ?_
              refine n_iload c_153_19 rfl ?_
              refine n_iload c_153_21 rfl ?_
              refine n_if2_ge c_153_23 (by omega) (by omega) ?_ ?_
              · intro h136
                refine n_iload c_153_119 rfl ?_
                exact n_rI c_153_121 rfl ⟨rfl, by omega⟩
              · intro h137
                exfalso; omega

set_option maxHeartbeats 4000000 in
theorem imageH3_3 {xs : List Int32} {e : Nat} {ac : Int} {M0 M : nM} {m f x y z0 : Int} (hS : Sf 3 ac M0 M) (hdm : M0 112 0 = 3) (hm : 0 ≤ m ∧ m ≤ 3) (hf : 0 ≤ f ∧ f ≤ 0) (hx : 0 ≤ x ∧ x ≤ 26) (hy : 0 ≤ y ∧ y ≤ 26) (hz0 : 0 ≤ z0 ∧ z0 ≤ 26) : nW xs (e + 1) 153 0 [some (2, 112), some (0, m), some (2, 127), some (0, f), some (0, 3), some (0, x), some (0, y), some (0, z0), none, none, none, none] [] M (nPI fun z M1 => M = M1 ∧ (0 ≤ z ∧ z ≤ 26)) := by
  have hd : (3 : Int) = 2 ∨ (3 : Int) = 3 := by decide
  have hac := hS.2.2.2.2
  refine n_iconst c_153_0 ?_
  refine n_istore (L2 := [some (2, 112), some (0, m), some (2, 127), some (0, f), some (0, 3), some (0, x), some (0, y), some (0, z0), some (0, 0), none, none, none]) c_153_1 rfl rfl ?_
  refine n_aload_n c_153_3 rfl ?_
  refine n_getV (bi := 0) c_153_4 sc_112.n rfl rfl rfl (t_dm hS hdm) ?_
  intro z1 ez1 f2
  obtain rfl : z1 = 3 := by omega
  refine n_iload c_153_7 rfl ?_
  refine n_iconst c_153_9 ?_
  refine n_isub c_153_10 rfl ?_
  have hcst : ((3 - 1) : Int) = 2 := by omega
  rw [hcst]
  refine n_s2I c_153_11 rfl rfl rfl rfl (mpower2_3  hS ) ?_
  intro z3 M4 hP5
  obtain ⟨eM, f5⟩ := hP5
  subst eM
  obtain rfl : z3 = 9 := by omega
  refine n_istore (L2 := [some (2, 112), some (0, m), some (2, 127), some (0, f), some (0, 3), some (0, x), some (0, y), some (0, z0), some (0, 0), some (0, 9), none, none]) c_153_14 rfl rfl ?_
  refine n_iconst c_153_16 ?_
  refine n_istore (L2 := [some (2, 112), some (0, m), some (2, 127), some (0, f), some (0, 3), some (0, x), some (0, y), some (0, z0), some (0, 0), some (0, 9), some (0, 0), none]) c_153_17 rfl rfl ?_
  refine n_iload c_153_19 rfl ?_
  refine n_iload c_153_21 rfl ?_
  refine n_if2_ge c_153_23 (by omega) (by omega) ?_ ?_
  · intro h6
    exfalso; omega
  · intro h7
    refine n_iload c_153_26 rfl ?_
    refine n_iload c_153_28 rfl ?_
    refine n_idivV c_153_30 (by omega) (by omega) ?_
    intro z8 _ f9
    refine n_aload_n c_153_31 rfl ?_
    refine n_getV (bi := 0) c_153_32 sc_112.n rfl rfl rfl (t_dm hS hdm) ?_
    intro z10 ez10 f11
    obtain rfl : z10 = 3 := by omega
    refine n_iremV c_153_35 (by omega) (by omega) ?_
    intro z12 _ f13
    refine n_istore (L2 := [some (2, 112), some (0, m), some (2, 127), some (0, f), some (0, 3), some (0, x), some (0, y), some (0, z0), some (0, 0), some (0, 9), some (0, 0), some (0, z12)]) c_153_36 rfl rfl ?_
    refine n_iload_n c_153_38 rfl ?_
    refine n_iconst c_153_39 ?_
    refine n_if2_le c_153_40 (by omega) (by omega) ?_ ?_
    · intro h14
      refine n_iload_n c_153_63 rfl ?_
      refine n_iconst c_153_64 ?_
      refine n_if2_le c_153_65 (by omega) (by omega) ?_ ?_
      · intro h15
        refine n_iload c_153_88 rfl ?_
        refine n_aload_n c_153_90 rfl ?_
        refine n_getV (bi := 0) c_153_91 sc_112.n rfl rfl rfl (t_dm hS hdm) ?_
        intro z16 ez16 f17
        obtain rfl : z16 = 3 := by omega
        refine n_imul c_153_94 rfl ?_
        refine n_aload_n c_153_95 rfl ?_
        refine n_iload_n c_153_96 rfl ?_
        refine n_iload c_153_97 rfl ?_
        refine n_iadd c_153_99 rfl ?_
        refine n_ialoadV c_153_100 sc_127.n rfl rfl rfl (by omega) (t_127 hS (by omega)) ?_
        intro z18 ez18 f19
        refine n_iadd c_153_101 rfl ?_
        refine n_istore (L2 := [some (2, 112), some (0, m), some (2, 127), some (0, f), some (0, 3), some (0, x), some (0, y), some (0, z0), some (0, ((0 * 3) + z18)), some (0, 9), some (0, 0), some (0, z12)]) c_153_102 rfl rfl ?_
        refine n_iload c_153_104 rfl ?_
        refine n_aload_n c_153_106 rfl ?_
        refine n_getV (bi := 0) c_153_107 sc_112.n rfl rfl rfl (t_dm hS hdm) ?_
        intro z20 ez20 f21
        obtain rfl : z20 = 3 := by omega
        refine n_idivT (z := 3) c_153_110 (by omega) (by omega) (by omega) (by decide) ?_
        refine n_istore (L2 := [some (2, 112), some (0, m), some (2, 127), some (0, f), some (0, 3), some (0, x), some (0, y), some (0, z0), some (0, ((0 * 3) + z18)), some (0, 3), some (0, 0), some (0, z12)]) c_153_111 rfl rfl ?_
        refine n_iinc (L2 := [some (2, 112), some (0, m), some (2, 127), some (0, f), some (0, 3), some (0, x), some (0, y), some (0, z0), some (0, ((0 * 3) + z18)), some (0, 3), some (0, (0 + 1)), some (0, z12)]) c_153_113 rfl rfl rfl ?_
        refine n_goto c_153_116 ?_
        refine n_iload c_153_19 rfl ?_
        refine n_iload c_153_21 rfl ?_
        refine n_if2_ge c_153_23 (by omega) (by omega) ?_ ?_
        · intro h22
          exfalso; omega
        · intro h23
          refine n_iload c_153_26 rfl ?_
          refine n_iload c_153_28 rfl ?_
          refine n_idivV c_153_30 (by omega) (by omega) ?_
          intro z24 _ f25
          refine n_aload_n c_153_31 rfl ?_
          refine n_getV (bi := 0) c_153_32 sc_112.n rfl rfl rfl (t_dm hS hdm) ?_
          intro z26 ez26 f27
          obtain rfl : z26 = 3 := by omega
          refine n_iremV c_153_35 (by omega) (by omega) ?_
          intro z28 _ f29
          refine n_istore (L2 := [some (2, 112), some (0, m), some (2, 127), some (0, f), some (0, 3), some (0, x), some (0, y), some (0, z0), some (0, ((0 * 3) + z18)), some (0, 3), some (0, (0 + 1)), some (0, z28)]) c_153_36 rfl rfl ?_
          refine n_iload_n c_153_38 rfl ?_
          refine n_iconst c_153_39 ?_
          refine n_if2_le c_153_40 (by omega) (by omega) ?_ ?_
          · intro h30
            refine n_iload_n c_153_63 rfl ?_
            refine n_iconst c_153_64 ?_
            refine n_if2_le c_153_65 (by omega) (by omega) ?_ ?_
            · intro h31
              refine n_iload c_153_88 rfl ?_
              refine n_aload_n c_153_90 rfl ?_
              refine n_getV (bi := 0) c_153_91 sc_112.n rfl rfl rfl (t_dm hS hdm) ?_
              intro z32 ez32 f33
              obtain rfl : z32 = 3 := by omega
              refine n_imul c_153_94 rfl ?_
              refine n_aload_n c_153_95 rfl ?_
              refine n_iload_n c_153_96 rfl ?_
              refine n_iload c_153_97 rfl ?_
              refine n_iadd c_153_99 rfl ?_
              refine n_ialoadV c_153_100 sc_127.n rfl rfl rfl (by omega) (t_127 hS (by omega)) ?_
              intro z34 ez34 f35
              refine n_iadd c_153_101 rfl ?_
              refine n_istore (L2 := [some (2, 112), some (0, m), some (2, 127), some (0, f), some (0, 3), some (0, x), some (0, y), some (0, z0), some (0, ((((0 * 3) + z18) * 3) + z34)), some (0, 3), some (0, (0 + 1)), some (0, z28)]) c_153_102 rfl rfl ?_
              refine n_iload c_153_104 rfl ?_
              refine n_aload_n c_153_106 rfl ?_
              refine n_getV (bi := 0) c_153_107 sc_112.n rfl rfl rfl (t_dm hS hdm) ?_
              intro z36 ez36 f37
              obtain rfl : z36 = 3 := by omega
              refine n_idivT (z := 1) c_153_110 (by omega) (by omega) (by omega) (by decide) ?_
              refine n_istore (L2 := [some (2, 112), some (0, m), some (2, 127), some (0, f), some (0, 3), some (0, x), some (0, y), some (0, z0), some (0, ((((0 * 3) + z18) * 3) + z34)), some (0, 1), some (0, (0 + 1)), some (0, z28)]) c_153_111 rfl rfl ?_
              refine n_iinc (L2 := [some (2, 112), some (0, m), some (2, 127), some (0, f), some (0, 3), some (0, x), some (0, y), some (0, z0), some (0, ((((0 * 3) + z18) * 3) + z34)), some (0, 1), some (0, ((0 + 1) + 1)), some (0, z28)]) c_153_113 rfl rfl rfl ?_
              refine n_goto c_153_116 ?_
              refine n_iload c_153_19 rfl ?_
              refine n_iload c_153_21 rfl ?_
              refine n_if2_ge c_153_23 (by omega) (by omega) ?_ ?_
              · intro h38
                exfalso; omega
              · intro h39
                refine n_iload c_153_26 rfl ?_
                refine n_iload c_153_28 rfl ?_
                refine n_idivV c_153_30 (by omega) (by omega) ?_
                intro z40 _ f41
                refine n_aload_n c_153_31 rfl ?_
                refine n_getV (bi := 0) c_153_32 sc_112.n rfl rfl rfl (t_dm hS hdm) ?_
                intro z42 ez42 f43
                obtain rfl : z42 = 3 := by omega
                refine n_iremV c_153_35 (by omega) (by omega) ?_
                intro z44 _ f45
                refine n_istore (L2 := [some (2, 112), some (0, m), some (2, 127), some (0, f), some (0, 3), some (0, x), some (0, y), some (0, z0), some (0, ((((0 * 3) + z18) * 3) + z34)), some (0, 1), some (0, ((0 + 1) + 1)), some (0, z44)]) c_153_36 rfl rfl ?_
                refine n_iload_n c_153_38 rfl ?_
                refine n_iconst c_153_39 ?_
                refine n_if2_le c_153_40 (by omega) (by omega) ?_ ?_
                · intro h46
                  refine n_iload_n c_153_63 rfl ?_
                  refine n_iconst c_153_64 ?_
                  refine n_if2_le c_153_65 (by omega) (by omega) ?_ ?_
                  · intro h47
                    refine n_iload c_153_88 rfl ?_
                    refine n_aload_n c_153_90 rfl ?_
                    refine n_getV (bi := 0) c_153_91 sc_112.n rfl rfl rfl (t_dm hS hdm) ?_
                    intro z48 ez48 f49
                    obtain rfl : z48 = 3 := by omega
                    refine n_imul c_153_94 rfl ?_
                    refine n_aload_n c_153_95 rfl ?_
                    refine n_iload_n c_153_96 rfl ?_
                    refine n_iload c_153_97 rfl ?_
                    refine n_iadd c_153_99 rfl ?_
                    refine n_ialoadV c_153_100 sc_127.n rfl rfl rfl (by omega) (t_127 hS (by omega)) ?_
                    intro z50 ez50 f51
                    refine n_iadd c_153_101 rfl ?_
                    refine n_istore (L2 := [some (2, 112), some (0, m), some (2, 127), some (0, f), some (0, 3), some (0, x), some (0, y), some (0, z0), some (0, ((((((0 * 3) + z18) * 3) + z34) * 3) + z50)), some (0, 1), some (0, ((0 + 1) + 1)), some (0, z44)]) c_153_102 rfl rfl ?_
                    refine n_iload c_153_104 rfl ?_
                    refine n_aload_n c_153_106 rfl ?_
                    refine n_getV (bi := 0) c_153_107 sc_112.n rfl rfl rfl (t_dm hS hdm) ?_
                    intro z52 ez52 f53
                    obtain rfl : z52 = 3 := by omega
                    refine n_idivT (z := 0) c_153_110 (by omega) (by omega) (by omega) (by decide) ?_
                    refine n_istore (L2 := [some (2, 112), some (0, m), some (2, 127), some (0, f), some (0, 3), some (0, x), some (0, y), some (0, z0), some (0, ((((((0 * 3) + z18) * 3) + z34) * 3) + z50)), some (0, 0), some (0, ((0 + 1) + 1)), some (0, z44)]) c_153_111 rfl rfl ?_
                    refine n_iinc (L2 := [some (2, 112), some (0, m), some (2, 127), some (0, f), some (0, 3), some (0, x), some (0, y), some (0, z0), some (0, ((((((0 * 3) + z18) * 3) + z34) * 3) + z50)), some (0, 0), some (0, (((0 + 1) + 1) + 1)), some (0, z44)]) c_153_113 rfl rfl rfl ?_
                    refine n_goto c_153_116 ?_
                    refine n_iload c_153_19 rfl ?_
                    refine n_iload c_153_21 rfl ?_
                    refine n_if2_ge c_153_23 (by omega) (by omega) ?_ ?_
                    · intro h54
                      refine n_iload c_153_119 rfl ?_
                      exact n_rI c_153_121 rfl ⟨rfl, by omega⟩
                    · intro h55
                      exfalso; omega
                  · intro h56
                    exfalso; omega
                · intro h57
                  exfalso; omega
            · intro h58
              exfalso; omega
          · intro h59
            exfalso; omega
      · intro h60
        exfalso; omega
    · intro h61
      refine n_iload c_153_43 rfl ?_
      refine n_aload_n c_153_45 rfl ?_
      refine n_getV (bi := 0) c_153_46 sc_112.n rfl rfl rfl (t_dm hS hdm) ?_
      intro z62 ez62 f63
      obtain rfl : z62 = 3 := by omega
      refine n_imul c_153_49 rfl ?_
      refine n_iload c_153_50 rfl ?_
      refine n_iload c_153_52 rfl ?_
      refine n_idivV c_153_54 (by omega) (by omega) ?_
      intro z64 _ f65
      refine n_aload_n c_153_55 rfl ?_
      refine n_getV (bi := 0) c_153_56 sc_112.n rfl rfl rfl (t_dm hS hdm) ?_
      intro z66 ez66 f67
      obtain rfl : z66 = 3 := by omega
      refine n_iremV c_153_59 (by omega) (by omega) ?_
      intro z68 _ f69
      refine n_iadd c_153_60 rfl ?_
      refine n_istore (L2 := [some (2, 112), some (0, m), some (2, 127), some (0, f), some (0, 3), some (0, x), some (0, y), some (0, z0), some (0, 0), some (0, 9), some (0, 0), some (0, ((z12 * 3) + z68))]) c_153_61 rfl rfl ?_
      refine n_iload_n c_153_63 rfl ?_
      refine n_iconst c_153_64 ?_
      refine n_if2_le c_153_65 (by omega) (by omega) ?_ ?_
      · intro h70
        refine n_iload c_153_88 rfl ?_
        refine n_aload_n c_153_90 rfl ?_
        refine n_getV (bi := 0) c_153_91 sc_112.n rfl rfl rfl (t_dm hS hdm) ?_
        intro z71 ez71 f72
        obtain rfl : z71 = 3 := by omega
        refine n_imul c_153_94 rfl ?_
        refine n_aload_n c_153_95 rfl ?_
        refine n_iload_n c_153_96 rfl ?_
        refine n_iload c_153_97 rfl ?_
        refine n_iadd c_153_99 rfl ?_
        refine n_ialoadV c_153_100 sc_127.n rfl rfl rfl (by omega) (t_127 hS (by omega)) ?_
        intro z73 ez73 f74
        refine n_iadd c_153_101 rfl ?_
        refine n_istore (L2 := [some (2, 112), some (0, m), some (2, 127), some (0, f), some (0, 3), some (0, x), some (0, y), some (0, z0), some (0, ((0 * 3) + z73)), some (0, 9), some (0, 0), some (0, ((z12 * 3) + z68))]) c_153_102 rfl rfl ?_
        refine n_iload c_153_104 rfl ?_
        refine n_aload_n c_153_106 rfl ?_
        refine n_getV (bi := 0) c_153_107 sc_112.n rfl rfl rfl (t_dm hS hdm) ?_
        intro z75 ez75 f76
        obtain rfl : z75 = 3 := by omega
        refine n_idivT (z := 3) c_153_110 (by omega) (by omega) (by omega) (by decide) ?_
        refine n_istore (L2 := [some (2, 112), some (0, m), some (2, 127), some (0, f), some (0, 3), some (0, x), some (0, y), some (0, z0), some (0, ((0 * 3) + z73)), some (0, 3), some (0, 0), some (0, ((z12 * 3) + z68))]) c_153_111 rfl rfl ?_
        refine n_iinc (L2 := [some (2, 112), some (0, m), some (2, 127), some (0, f), some (0, 3), some (0, x), some (0, y), some (0, z0), some (0, ((0 * 3) + z73)), some (0, 3), some (0, (0 + 1)), some (0, ((z12 * 3) + z68))]) c_153_113 rfl rfl rfl ?_
        refine n_goto c_153_116 ?_
        refine n_iload c_153_19 rfl ?_
        refine n_iload c_153_21 rfl ?_
        refine n_if2_ge c_153_23 (by omega) (by omega) ?_ ?_
        · intro h77
          exfalso; omega
        · intro h78
          refine n_iload c_153_26 rfl ?_
          refine n_iload c_153_28 rfl ?_
          refine n_idivV c_153_30 (by omega) (by omega) ?_
          intro z79 _ f80
          refine n_aload_n c_153_31 rfl ?_
          refine n_getV (bi := 0) c_153_32 sc_112.n rfl rfl rfl (t_dm hS hdm) ?_
          intro z81 ez81 f82
          obtain rfl : z81 = 3 := by omega
          refine n_iremV c_153_35 (by omega) (by omega) ?_
          intro z83 _ f84
          refine n_istore (L2 := [some (2, 112), some (0, m), some (2, 127), some (0, f), some (0, 3), some (0, x), some (0, y), some (0, z0), some (0, ((0 * 3) + z73)), some (0, 3), some (0, (0 + 1)), some (0, z83)]) c_153_36 rfl rfl ?_
          refine n_iload_n c_153_38 rfl ?_
          refine n_iconst c_153_39 ?_
          refine n_if2_le c_153_40 (by omega) (by omega) ?_ ?_
          · intro h85
            exfalso; omega
          · intro h86
            refine n_iload c_153_43 rfl ?_
            refine n_aload_n c_153_45 rfl ?_
            refine n_getV (bi := 0) c_153_46 sc_112.n rfl rfl rfl (t_dm hS hdm) ?_
            intro z87 ez87 f88
            obtain rfl : z87 = 3 := by omega
            refine n_imul c_153_49 rfl ?_
            refine n_iload c_153_50 rfl ?_
            refine n_iload c_153_52 rfl ?_
            refine n_idivV c_153_54 (by omega) (by omega) ?_
            intro z89 _ f90
            refine n_aload_n c_153_55 rfl ?_
            refine n_getV (bi := 0) c_153_56 sc_112.n rfl rfl rfl (t_dm hS hdm) ?_
            intro z91 ez91 f92
            obtain rfl : z91 = 3 := by omega
            refine n_iremV c_153_59 (by omega) (by omega) ?_
            intro z93 _ f94
            refine n_iadd c_153_60 rfl ?_
            refine n_istore (L2 := [some (2, 112), some (0, m), some (2, 127), some (0, f), some (0, 3), some (0, x), some (0, y), some (0, z0), some (0, ((0 * 3) + z73)), some (0, 3), some (0, (0 + 1)), some (0, ((z83 * 3) + z93))]) c_153_61 rfl rfl ?_
            refine n_iload_n c_153_63 rfl ?_
            refine n_iconst c_153_64 ?_
            refine n_if2_le c_153_65 (by omega) (by omega) ?_ ?_
            · intro h95
              refine n_iload c_153_88 rfl ?_
              refine n_aload_n c_153_90 rfl ?_
              refine n_getV (bi := 0) c_153_91 sc_112.n rfl rfl rfl (t_dm hS hdm) ?_
              intro z96 ez96 f97
              obtain rfl : z96 = 3 := by omega
              refine n_imul c_153_94 rfl ?_
              refine n_aload_n c_153_95 rfl ?_
              refine n_iload_n c_153_96 rfl ?_
              refine n_iload c_153_97 rfl ?_
              refine n_iadd c_153_99 rfl ?_
              refine n_ialoadV c_153_100 sc_127.n rfl rfl rfl (by omega) (t_127 hS (by omega)) ?_
              intro z98 ez98 f99
              refine n_iadd c_153_101 rfl ?_
              refine n_istore (L2 := [some (2, 112), some (0, m), some (2, 127), some (0, f), some (0, 3), some (0, x), some (0, y), some (0, z0), some (0, ((((0 * 3) + z73) * 3) + z98)), some (0, 3), some (0, (0 + 1)), some (0, ((z83 * 3) + z93))]) c_153_102 rfl rfl ?_
              refine n_iload c_153_104 rfl ?_
              refine n_aload_n c_153_106 rfl ?_
              refine n_getV (bi := 0) c_153_107 sc_112.n rfl rfl rfl (t_dm hS hdm) ?_
              intro z100 ez100 f101
              obtain rfl : z100 = 3 := by omega
              refine n_idivT (z := 1) c_153_110 (by omega) (by omega) (by omega) (by decide) ?_
              refine n_istore (L2 := [some (2, 112), some (0, m), some (2, 127), some (0, f), some (0, 3), some (0, x), some (0, y), some (0, z0), some (0, ((((0 * 3) + z73) * 3) + z98)), some (0, 1), some (0, (0 + 1)), some (0, ((z83 * 3) + z93))]) c_153_111 rfl rfl ?_
              refine n_iinc (L2 := [some (2, 112), some (0, m), some (2, 127), some (0, f), some (0, 3), some (0, x), some (0, y), some (0, z0), some (0, ((((0 * 3) + z73) * 3) + z98)), some (0, 1), some (0, ((0 + 1) + 1)), some (0, ((z83 * 3) + z93))]) c_153_113 rfl rfl rfl ?_
              refine n_goto c_153_116 ?_
              refine n_iload c_153_19 rfl ?_
              refine n_iload c_153_21 rfl ?_
              refine n_if2_ge c_153_23 (by omega) (by omega) ?_ ?_
              · intro h102
                exfalso; omega
              · intro h103
                refine n_iload c_153_26 rfl ?_
                refine n_iload c_153_28 rfl ?_
                refine n_idivV c_153_30 (by omega) (by omega) ?_
                intro z104 _ f105
                refine n_aload_n c_153_31 rfl ?_
                refine n_getV (bi := 0) c_153_32 sc_112.n rfl rfl rfl (t_dm hS hdm) ?_
                intro z106 ez106 f107
                obtain rfl : z106 = 3 := by omega
                refine n_iremV c_153_35 (by omega) (by omega) ?_
                intro z108 _ f109
                refine n_istore (L2 := [some (2, 112), some (0, m), some (2, 127), some (0, f), some (0, 3), some (0, x), some (0, y), some (0, z0), some (0, ((((0 * 3) + z73) * 3) + z98)), some (0, 1), some (0, ((0 + 1) + 1)), some (0, z108)]) c_153_36 rfl rfl ?_
                refine n_iload_n c_153_38 rfl ?_
                refine n_iconst c_153_39 ?_
                refine n_if2_le c_153_40 (by omega) (by omega) ?_ ?_
                · intro h110
                  exfalso; omega
                · intro h111
                  refine n_iload c_153_43 rfl ?_
                  refine n_aload_n c_153_45 rfl ?_
                  refine n_getV (bi := 0) c_153_46 sc_112.n rfl rfl rfl (t_dm hS hdm) ?_
                  intro z112 ez112 f113
                  obtain rfl : z112 = 3 := by omega
                  refine n_imul c_153_49 rfl ?_
                  refine n_iload c_153_50 rfl ?_
                  refine n_iload c_153_52 rfl ?_
                  refine n_idivV c_153_54 (by omega) (by omega) ?_
                  intro z114 _ f115
                  refine n_aload_n c_153_55 rfl ?_
                  refine n_getV (bi := 0) c_153_56 sc_112.n rfl rfl rfl (t_dm hS hdm) ?_
                  intro z116 ez116 f117
                  obtain rfl : z116 = 3 := by omega
                  refine n_iremV c_153_59 (by omega) (by omega) ?_
                  intro z118 _ f119
                  refine n_iadd c_153_60 rfl ?_
                  refine n_istore (L2 := [some (2, 112), some (0, m), some (2, 127), some (0, f), some (0, 3), some (0, x), some (0, y), some (0, z0), some (0, ((((0 * 3) + z73) * 3) + z98)), some (0, 1), some (0, ((0 + 1) + 1)), some (0, ((z108 * 3) + z118))]) c_153_61 rfl rfl ?_
                  refine n_iload_n c_153_63 rfl ?_
                  refine n_iconst c_153_64 ?_
                  refine n_if2_le c_153_65 (by omega) (by omega) ?_ ?_
                  · intro h120
                    refine n_iload c_153_88 rfl ?_
                    refine n_aload_n c_153_90 rfl ?_
                    refine n_getV (bi := 0) c_153_91 sc_112.n rfl rfl rfl (t_dm hS hdm) ?_
                    intro z121 ez121 f122
                    obtain rfl : z121 = 3 := by omega
                    refine n_imul c_153_94 rfl ?_
                    refine n_aload_n c_153_95 rfl ?_
                    refine n_iload_n c_153_96 rfl ?_
                    refine n_iload c_153_97 rfl ?_
                    refine n_iadd c_153_99 rfl ?_
                    refine n_ialoadV c_153_100 sc_127.n rfl rfl rfl (by omega) (t_127 hS (by omega)) ?_
                    intro z123 ez123 f124
                    refine n_iadd c_153_101 rfl ?_
                    refine n_istore (L2 := [some (2, 112), some (0, m), some (2, 127), some (0, f), some (0, 3), some (0, x), some (0, y), some (0, z0), some (0, ((((((0 * 3) + z73) * 3) + z98) * 3) + z123)), some (0, 1), some (0, ((0 + 1) + 1)), some (0, ((z108 * 3) + z118))]) c_153_102 rfl rfl ?_
                    refine n_iload c_153_104 rfl ?_
                    refine n_aload_n c_153_106 rfl ?_
                    refine n_getV (bi := 0) c_153_107 sc_112.n rfl rfl rfl (t_dm hS hdm) ?_
                    intro z125 ez125 f126
                    obtain rfl : z125 = 3 := by omega
                    refine n_idivT (z := 0) c_153_110 (by omega) (by omega) (by omega) (by decide) ?_
                    refine n_istore (L2 := [some (2, 112), some (0, m), some (2, 127), some (0, f), some (0, 3), some (0, x), some (0, y), some (0, z0), some (0, ((((((0 * 3) + z73) * 3) + z98) * 3) + z123)), some (0, 0), some (0, ((0 + 1) + 1)), some (0, ((z108 * 3) + z118))]) c_153_111 rfl rfl ?_
                    refine n_iinc (L2 := [some (2, 112), some (0, m), some (2, 127), some (0, f), some (0, 3), some (0, x), some (0, y), some (0, z0), some (0, ((((((0 * 3) + z73) * 3) + z98) * 3) + z123)), some (0, 0), some (0, (((0 + 1) + 1) + 1)), some (0, ((z108 * 3) + z118))]) c_153_113 rfl rfl rfl ?_
                    refine n_goto c_153_116 ?_
                    refine n_iload c_153_19 rfl ?_
                    refine n_iload c_153_21 rfl ?_
                    refine n_if2_ge c_153_23 (by omega) (by omega) ?_ ?_
                    · intro h127
                      refine n_iload c_153_119 rfl ?_
                      exact n_rI c_153_121 rfl ⟨rfl, by omega⟩
                    · intro h128
                      exfalso; omega
                  · intro h129
                    exfalso; omega
            · intro h130
              exfalso; omega
      · intro h131
        refine n_iload c_153_68 rfl ?_
        refine n_aload_n c_153_70 rfl ?_
        refine n_getV (bi := 0) c_153_71 sc_112.n rfl rfl rfl (t_dm hS hdm) ?_
        intro z132 ez132 f133
        obtain rfl : z132 = 3 := by omega
        refine n_imul c_153_74 rfl ?_
        refine n_iload c_153_75 rfl ?_
        refine n_iload c_153_77 rfl ?_
        refine n_idivV c_153_79 (by omega) (by omega) ?_
        intro z134 _ f135
        refine n_aload_n c_153_80 rfl ?_
        refine n_getV (bi := 0) c_153_81 sc_112.n rfl rfl rfl (t_dm hS hdm) ?_
        intro z136 ez136 f137
        obtain rfl : z136 = 3 := by omega
        refine n_iremV c_153_84 (by omega) (by omega) ?_
        intro z138 _ f139
        refine n_iadd c_153_85 rfl ?_
        refine n_istore (L2 := [some (2, 112), some (0, m), some (2, 127), some (0, f), some (0, 3), some (0, x), some (0, y), some (0, z0), some (0, 0), some (0, 9), some (0, 0), some (0, ((((z12 * 3) + z68) * 3) + z138))]) c_153_86 rfl rfl ?_
        refine n_iload c_153_88 rfl ?_
        refine n_aload_n c_153_90 rfl ?_
        refine n_getV (bi := 0) c_153_91 sc_112.n rfl rfl rfl (t_dm hS hdm) ?_
        intro z140 ez140 f141
        obtain rfl : z140 = 3 := by omega
        refine n_imul c_153_94 rfl ?_
        refine n_aload_n c_153_95 rfl ?_
        refine n_iload_n c_153_96 rfl ?_
        refine n_iload c_153_97 rfl ?_
        refine n_iadd c_153_99 rfl ?_
        refine n_ialoadV c_153_100 sc_127.n rfl rfl rfl (by omega) (t_127 hS (by omega)) ?_
        intro z142 ez142 f143
        refine n_iadd c_153_101 rfl ?_
        refine n_istore (L2 := [some (2, 112), some (0, m), some (2, 127), some (0, f), some (0, 3), some (0, x), some (0, y), some (0, z0), some (0, ((0 * 3) + z142)), some (0, 9), some (0, 0), some (0, ((((z12 * 3) + z68) * 3) + z138))]) c_153_102 rfl rfl ?_
        refine n_iload c_153_104 rfl ?_
        refine n_aload_n c_153_106 rfl ?_
        refine n_getV (bi := 0) c_153_107 sc_112.n rfl rfl rfl (t_dm hS hdm) ?_
        intro z144 ez144 f145
        obtain rfl : z144 = 3 := by omega
        refine n_idivT (z := 3) c_153_110 (by omega) (by omega) (by omega) (by decide) ?_
        refine n_istore (L2 := [some (2, 112), some (0, m), some (2, 127), some (0, f), some (0, 3), some (0, x), some (0, y), some (0, z0), some (0, ((0 * 3) + z142)), some (0, 3), some (0, 0), some (0, ((((z12 * 3) + z68) * 3) + z138))]) c_153_111 rfl rfl ?_
        refine n_iinc (L2 := [some (2, 112), some (0, m), some (2, 127), some (0, f), some (0, 3), some (0, x), some (0, y), some (0, z0), some (0, ((0 * 3) + z142)), some (0, 3), some (0, (0 + 1)), some (0, ((((z12 * 3) + z68) * 3) + z138))]) c_153_113 rfl rfl rfl ?_
        refine n_goto c_153_116 ?_
        refine n_iload c_153_19 rfl ?_
        refine n_iload c_153_21 rfl ?_
        refine n_if2_ge c_153_23 (by omega) (by omega) ?_ ?_
        · intro h146
          exfalso; omega
        · intro h147
          refine n_iload c_153_26 rfl ?_
          refine n_iload c_153_28 rfl ?_
          refine n_idivV c_153_30 (by omega) (by omega) ?_
          intro z148 _ f149
          refine n_aload_n c_153_31 rfl ?_
          refine n_getV (bi := 0) c_153_32 sc_112.n rfl rfl rfl (t_dm hS hdm) ?_
          intro z150 ez150 f151
          obtain rfl : z150 = 3 := by omega
          refine n_iremV c_153_35 (by omega) (by omega) ?_
          intro z152 _ f153
          refine n_istore (L2 := [some (2, 112), some (0, m), some (2, 127), some (0, f), some (0, 3), some (0, x), some (0, y), some (0, z0), some (0, ((0 * 3) + z142)), some (0, 3), some (0, (0 + 1)), some (0, z152)]) c_153_36 rfl rfl ?_
          refine n_iload_n c_153_38 rfl ?_
          refine n_iconst c_153_39 ?_
          refine n_if2_le c_153_40 (by omega) (by omega) ?_ ?_
          · intro h154
            exfalso; omega
          · intro h155
            refine n_iload c_153_43 rfl ?_
            refine n_aload_n c_153_45 rfl ?_
            refine n_getV (bi := 0) c_153_46 sc_112.n rfl rfl rfl (t_dm hS hdm) ?_
            intro z156 ez156 f157
            obtain rfl : z156 = 3 := by omega
            refine n_imul c_153_49 rfl ?_
            refine n_iload c_153_50 rfl ?_
            refine n_iload c_153_52 rfl ?_
            refine n_idivV c_153_54 (by omega) (by omega) ?_
            intro z158 _ f159
            refine n_aload_n c_153_55 rfl ?_
            refine n_getV (bi := 0) c_153_56 sc_112.n rfl rfl rfl (t_dm hS hdm) ?_
            intro z160 ez160 f161
            obtain rfl : z160 = 3 := by omega
            refine n_iremV c_153_59 (by omega) (by omega) ?_
            intro z162 _ f163
            refine n_iadd c_153_60 rfl ?_
            refine n_istore (L2 := [some (2, 112), some (0, m), some (2, 127), some (0, f), some (0, 3), some (0, x), some (0, y), some (0, z0), some (0, ((0 * 3) + z142)), some (0, 3), some (0, (0 + 1)), some (0, ((z152 * 3) + z162))]) c_153_61 rfl rfl ?_
            refine n_iload_n c_153_63 rfl ?_
            refine n_iconst c_153_64 ?_
            refine n_if2_le c_153_65 (by omega) (by omega) ?_ ?_
            · intro h164
              exfalso; omega
            · intro h165
              refine n_iload c_153_68 rfl ?_
              refine n_aload_n c_153_70 rfl ?_
              refine n_getV (bi := 0) c_153_71 sc_112.n rfl rfl rfl (t_dm hS hdm) ?_
              intro z166 ez166 f167
              obtain rfl : z166 = 3 := by omega
              refine n_imul c_153_74 rfl ?_
              refine n_iload c_153_75 rfl ?_
              refine n_iload c_153_77 rfl ?_
              refine n_idivV c_153_79 (by omega) (by omega) ?_
              intro z168 _ f169
              refine n_aload_n c_153_80 rfl ?_
              refine n_getV (bi := 0) c_153_81 sc_112.n rfl rfl rfl (t_dm hS hdm) ?_
              intro z170 ez170 f171
              obtain rfl : z170 = 3 := by omega
              refine n_iremV c_153_84 (by omega) (by omega) ?_
              intro z172 _ f173
              refine n_iadd c_153_85 rfl ?_
              refine n_istore (L2 := [some (2, 112), some (0, m), some (2, 127), some (0, f), some (0, 3), some (0, x), some (0, y), some (0, z0), some (0, ((0 * 3) + z142)), some (0, 3), some (0, (0 + 1)), some (0, ((((z152 * 3) + z162) * 3) + z172))]) c_153_86 rfl rfl ?_
              refine n_iload c_153_88 rfl ?_
              refine n_aload_n c_153_90 rfl ?_
              refine n_getV (bi := 0) c_153_91 sc_112.n rfl rfl rfl (t_dm hS hdm) ?_
              intro z174 ez174 f175
              obtain rfl : z174 = 3 := by omega
              refine n_imul c_153_94 rfl ?_
              refine n_aload_n c_153_95 rfl ?_
              refine n_iload_n c_153_96 rfl ?_
              refine n_iload c_153_97 rfl ?_
              refine n_iadd c_153_99 rfl ?_
              refine n_ialoadV c_153_100 sc_127.n rfl rfl rfl (by omega) (t_127 hS (by omega)) ?_
              intro z176 ez176 f177
              refine n_iadd c_153_101 rfl ?_
              refine n_istore (L2 := [some (2, 112), some (0, m), some (2, 127), some (0, f), some (0, 3), some (0, x), some (0, y), some (0, z0), some (0, ((((0 * 3) + z142) * 3) + z176)), some (0, 3), some (0, (0 + 1)), some (0, ((((z152 * 3) + z162) * 3) + z172))]) c_153_102 rfl rfl ?_
              refine n_iload c_153_104 rfl ?_
              refine n_aload_n c_153_106 rfl ?_
              refine n_getV (bi := 0) c_153_107 sc_112.n rfl rfl rfl (t_dm hS hdm) ?_
              intro z178 ez178 f179
              obtain rfl : z178 = 3 := by omega
              refine n_idivT (z := 1) c_153_110 (by omega) (by omega) (by omega) (by decide) ?_
              refine n_istore (L2 := [some (2, 112), some (0, m), some (2, 127), some (0, f), some (0, 3), some (0, x), some (0, y), some (0, z0), some (0, ((((0 * 3) + z142) * 3) + z176)), some (0, 1), some (0, (0 + 1)), some (0, ((((z152 * 3) + z162) * 3) + z172))]) c_153_111 rfl rfl ?_
              refine n_iinc (L2 := [some (2, 112), some (0, m), some (2, 127), some (0, f), some (0, 3), some (0, x), some (0, y), some (0, z0), some (0, ((((0 * 3) + z142) * 3) + z176)), some (0, 1), some (0, ((0 + 1) + 1)), some (0, ((((z152 * 3) + z162) * 3) + z172))]) c_153_113 rfl rfl rfl ?_
              refine n_goto c_153_116 ?_
              refine n_iload c_153_19 rfl ?_
              refine n_iload c_153_21 rfl ?_
              refine n_if2_ge c_153_23 (by omega) (by omega) ?_ ?_
              · intro h180
                exfalso; omega
              · intro h181
                refine n_iload c_153_26 rfl ?_
                refine n_iload c_153_28 rfl ?_
                refine n_idivV c_153_30 (by omega) (by omega) ?_
                intro z182 _ f183
                refine n_aload_n c_153_31 rfl ?_
                refine n_getV (bi := 0) c_153_32 sc_112.n rfl rfl rfl (t_dm hS hdm) ?_
                intro z184 ez184 f185
                obtain rfl : z184 = 3 := by omega
                refine n_iremV c_153_35 (by omega) (by omega) ?_
                intro z186 _ f187
                refine n_istore (L2 := [some (2, 112), some (0, m), some (2, 127), some (0, f), some (0, 3), some (0, x), some (0, y), some (0, z0), some (0, ((((0 * 3) + z142) * 3) + z176)), some (0, 1), some (0, ((0 + 1) + 1)), some (0, z186)]) c_153_36 rfl rfl ?_
                refine n_iload_n c_153_38 rfl ?_
                refine n_iconst c_153_39 ?_
                refine n_if2_le c_153_40 (by omega) (by omega) ?_ ?_
                · intro h188
                  exfalso; omega
                · intro h189
                  refine n_iload c_153_43 rfl ?_
                  refine n_aload_n c_153_45 rfl ?_
                  refine n_getV (bi := 0) c_153_46 sc_112.n rfl rfl rfl (t_dm hS hdm) ?_
                  intro z190 ez190 f191
                  obtain rfl : z190 = 3 := by omega
                  refine n_imul c_153_49 rfl ?_
                  refine n_iload c_153_50 rfl ?_
                  refine n_iload c_153_52 rfl ?_
                  refine n_idivV c_153_54 (by omega) (by omega) ?_
                  intro z192 _ f193
                  refine n_aload_n c_153_55 rfl ?_
                  refine n_getV (bi := 0) c_153_56 sc_112.n rfl rfl rfl (t_dm hS hdm) ?_
                  intro z194 ez194 f195
                  obtain rfl : z194 = 3 := by omega
                  refine n_iremV c_153_59 (by omega) (by omega) ?_
                  intro z196 _ f197
                  refine n_iadd c_153_60 rfl ?_
                  refine n_istore (L2 := [some (2, 112), some (0, m), some (2, 127), some (0, f), some (0, 3), some (0, x), some (0, y), some (0, z0), some (0, ((((0 * 3) + z142) * 3) + z176)), some (0, 1), some (0, ((0 + 1) + 1)), some (0, ((z186 * 3) + z196))]) c_153_61 rfl rfl ?_
                  refine n_iload_n c_153_63 rfl ?_
                  refine n_iconst c_153_64 ?_
                  refine n_if2_le c_153_65 (by omega) (by omega) ?_ ?_
                  · intro h198
                    exfalso; omega
                  · intro h199
                    refine n_iload c_153_68 rfl ?_
                    refine n_aload_n c_153_70 rfl ?_
                    refine n_getV (bi := 0) c_153_71 sc_112.n rfl rfl rfl (t_dm hS hdm) ?_
                    intro z200 ez200 f201
                    obtain rfl : z200 = 3 := by omega
                    refine n_imul c_153_74 rfl ?_
                    refine n_iload c_153_75 rfl ?_
                    refine n_iload c_153_77 rfl ?_
                    refine n_idivV c_153_79 (by omega) (by omega) ?_
                    intro z202 _ f203
                    refine n_aload_n c_153_80 rfl ?_
                    refine n_getV (bi := 0) c_153_81 sc_112.n rfl rfl rfl (t_dm hS hdm) ?_
                    intro z204 ez204 f205
                    obtain rfl : z204 = 3 := by omega
                    refine n_iremV c_153_84 (by omega) (by omega) ?_
                    intro z206 _ f207
                    refine n_iadd c_153_85 rfl ?_
                    refine n_istore (L2 := [some (2, 112), some (0, m), some (2, 127), some (0, f), some (0, 3), some (0, x), some (0, y), some (0, z0), some (0, ((((0 * 3) + z142) * 3) + z176)), some (0, 1), some (0, ((0 + 1) + 1)), some (0, ((((z186 * 3) + z196) * 3) + z206))]) c_153_86 rfl rfl ?_
                    refine n_iload c_153_88 rfl ?_
                    refine n_aload_n c_153_90 rfl ?_
                    refine n_getV (bi := 0) c_153_91 sc_112.n rfl rfl rfl (t_dm hS hdm) ?_
                    intro z208 ez208 f209
                    obtain rfl : z208 = 3 := by omega
                    refine n_imul c_153_94 rfl ?_
                    refine n_aload_n c_153_95 rfl ?_
                    refine n_iload_n c_153_96 rfl ?_
                    refine n_iload c_153_97 rfl ?_
                    refine n_iadd c_153_99 rfl ?_
                    refine n_ialoadV c_153_100 sc_127.n rfl rfl rfl (by omega) (t_127 hS (by omega)) ?_
                    intro z210 ez210 f211
                    refine n_iadd c_153_101 rfl ?_
                    refine n_istore (L2 := [some (2, 112), some (0, m), some (2, 127), some (0, f), some (0, 3), some (0, x), some (0, y), some (0, z0), some (0, ((((((0 * 3) + z142) * 3) + z176) * 3) + z210)), some (0, 1), some (0, ((0 + 1) + 1)), some (0, ((((z186 * 3) + z196) * 3) + z206))]) c_153_102 rfl rfl ?_
                    refine n_iload c_153_104 rfl ?_
                    refine n_aload_n c_153_106 rfl ?_
                    refine n_getV (bi := 0) c_153_107 sc_112.n rfl rfl rfl (t_dm hS hdm) ?_
                    intro z212 ez212 f213
                    obtain rfl : z212 = 3 := by omega
                    refine n_idivT (z := 0) c_153_110 (by omega) (by omega) (by omega) (by decide) ?_
                    refine n_istore (L2 := [some (2, 112), some (0, m), some (2, 127), some (0, f), some (0, 3), some (0, x), some (0, y), some (0, z0), some (0, ((((((0 * 3) + z142) * 3) + z176) * 3) + z210)), some (0, 0), some (0, ((0 + 1) + 1)), some (0, ((((z186 * 3) + z196) * 3) + z206))]) c_153_111 rfl rfl ?_
                    refine n_iinc (L2 := [some (2, 112), some (0, m), some (2, 127), some (0, f), some (0, 3), some (0, x), some (0, y), some (0, z0), some (0, ((((((0 * 3) + z142) * 3) + z176) * 3) + z210)), some (0, 0), some (0, (((0 + 1) + 1) + 1)), some (0, ((((z186 * 3) + z196) * 3) + z206))]) c_153_113 rfl rfl rfl ?_
                    refine n_goto c_153_116 ?_
                    refine n_iload c_153_19 rfl ?_
                    refine n_iload c_153_21 rfl ?_
                    refine n_if2_ge c_153_23 (by omega) (by omega) ?_ ?_
                    · intro h214
                      refine n_iload c_153_119 rfl ?_
                      exact n_rI c_153_121 rfl ⟨rfl, by omega⟩
                    · intro h215
                      exfalso; omega

set_option maxHeartbeats 4000000 in
theorem imageH_3 {xs : List Int32} {e : Nat} {ac : Int} {M0 M : nM} {m f k x y z0 : Int} (hS : Sf 3 ac M0 M) (hdm : M0 112 0 = 3) (hm : 0 ≤ m ∧ m ≤ 3) (hf : 0 ≤ f ∧ f ≤ 0) (hk : 0 ≤ k ∧ k ≤ 3) (hx : 0 ≤ x ∧ x ≤ 26) (hy : 0 ≤ y ∧ y ≤ 26) (hz0 : 0 ≤ z0 ∧ z0 ≤ 26) : nW xs (e + 1) 153 0 [some (2, 112), some (0, m), some (2, 127), some (0, f), some (0, k), some (0, x), some (0, y), some (0, z0), none, none, none, none] [] M (nPI fun z M1 => M = M1 ∧ (0 ≤ z ∧ z ≤ 26)) := by
  rcases (show k = 0 ∨ k = 1 ∨ k = 2 ∨ k = 3 by omega) with rfl | rfl | rfl | rfl
  · exact n_post (imageH0_3 hS hdm (by omega) (by omega) (by omega) (by omega) (by omega)) (fun w M1 h => by obtain ⟨z, rfl, h1, h2⟩ := h; exact ⟨z, rfl, h1, by omega⟩)
  · exact n_post (imageH1_3 hS hdm (by omega) (by omega) (by omega) (by omega) (by omega)) (fun w M1 h => by obtain ⟨z, rfl, h1, h2⟩ := h; exact ⟨z, rfl, h1, by omega⟩)
  · exact n_post (imageH2_3 hS hdm (by omega) (by omega) (by omega) (by omega) (by omega)) (fun w M1 h => by obtain ⟨z, rfl, h1, h2⟩ := h; exact ⟨z, rfl, h1, by omega⟩)
  · exact n_post (imageH3_3 hS hdm (by omega) (by omega) (by omega) (by omega) (by omega)) (fun w M1 h => by obtain ⟨z, rfl, h1, h2⟩ := h; exact ⟨z, rfl, h1, by omega⟩)

set_option maxHeartbeats 4000000 in
theorem escapesH0_3_c {xs : List Int32} {e : Nat} {ac : Int} {M0 M : nM} {m f s : Int} (hS : Sf 3 ac M0 M) (hdm : M0 112 0 = 3) (hm : 0 ≤ m ∧ m ≤ 3) (hf : 0 ≤ f ∧ f ≤ 0) (hs : -9223372036854775808 ≤ s ∧ s ≤ 9223372036854775807) : ∀ nn : Nat, (∀ (x7 x8 : Int), (1 ≤ x7 ∧ x7 ≤ 1) → (0 ≤ x8 ∧ x8 ≤ 1) → (1 - x8) * 38 + 38 < (nn : Int) → nW xs (e + 2) 154 14 [some (2, 112), some (0, m), some (2, 127), some (0, f), some (0, 0), some (1, s), none, some (0, x7), some (0, x8), none, none, none] [] M (nPI fun z M1 => M = M1 ∧ (-1 ≤ z ∧ z ≤ 26) ∧ (z = -1 ∨ n_land (n_lshr s z) 1 = 0))) ∧ (∀ (x7 x8 x9 : Int), (1 ≤ x7 ∧ x7 ≤ 1) → (0 ≤ x8 ∧ x8 ≤ 0) → (0 ≤ x9 ∧ x9 ≤ 1) → (1 - x8) * 38 + (1 - x9) * 12 + 13 < (nn : Int) → nW xs (e + 2) 154 39 [some (2, 112), some (0, m), some (2, 127), some (0, f), some (0, 0), some (1, s), none, some (0, x7), some (0, x8), some (0, x9), none, none] [] M (nPI fun z M1 => M = M1 ∧ (-1 ≤ z ∧ z ≤ 26) ∧ (z = -1 ∨ n_land (n_lshr s z) 1 = 0))) ∧ (∀ (x7 x8 x9 : Int), (1 ≤ x7 ∧ x7 ≤ 1) → (0 ≤ x8 ∧ x8 ≤ 0) → (0 ≤ x9 ∧ x9 ≤ 0) → (1 - x8) * 38 + (1 - x9) * 12 + 12 < (nn : Int) → nW xs (e + 2) 154 75 [some (2, 112), some (0, m), some (2, 127), some (0, f), some (0, 0), some (1, s), none, some (0, x7), some (0, x8), some (0, x9), none, none] [] M (nPI fun z M1 => M = M1 ∧ (-1 ≤ z ∧ z ≤ 26) ∧ (z = -1 ∨ n_land (n_lshr s z) 1 = 0))) ∧ (∀ (x7 x8 x9 x10 : Int), (1 ≤ x7 ∧ x7 ≤ 1) → (0 ≤ x8 ∧ x8 ≤ 0) → (0 ≤ x9 ∧ x9 ≤ 0) → (0 ≤ x10 ∧ x10 ≤ 1) → (1 - x8) * 38 + (1 - x9) * 12 + (1 - x10) * 3 + 5 < (nn : Int) → nW xs (e + 2) 154 78 [some (2, 112), some (0, m), some (2, 127), some (0, f), some (0, 0), some (1, s), none, some (0, x7), some (0, x8), some (0, x9), some (0, x10), none] [] M (nPI fun z M1 => M = M1 ∧ (-1 ≤ z ∧ z ≤ 26) ∧ (z = -1 ∨ n_land (n_lshr s z) 1 = 0))) ∧ (∀ (x7 x8 x9 x10 : Int), (1 ≤ x7 ∧ x7 ≤ 1) → (0 ≤ x8 ∧ x8 ≤ 0) → (0 ≤ x9 ∧ x9 ≤ 0) → (0 ≤ x10 ∧ x10 ≤ 0) → (1 - x8) * 38 + (1 - x9) * 12 + (1 - x10) * 3 + 4 < (nn : Int) → nW xs (e + 2) 154 114 [some (2, 112), some (0, m), some (2, 127), some (0, f), some (0, 0), some (1, s), none, some (0, x7), some (0, x8), some (0, x9), some (0, x10), none] [] M (nPI fun z M1 => M = M1 ∧ (-1 ≤ z ∧ z ≤ 26) ∧ (z = -1 ∨ n_land (n_lshr s z) 1 = 0))) ∧ (∀ (x7 x8 x9 x10 : Int), (1 ≤ x7 ∧ x7 ≤ 1) → (0 ≤ x8 ∧ x8 ≤ 0) → (0 ≤ x9 ∧ x9 ≤ 0) → (0 ≤ x10 ∧ x10 ≤ 0) → (1 - x8) * 38 + (1 - x9) * 12 + (1 - x10) * 3 + 3 < (nn : Int) → nW xs (e + 2) 154 146 [some (2, 112), some (0, m), some (2, 127), some (0, f), some (0, 0), some (1, s), none, some (0, x7), some (0, x8), some (0, x9), some (0, x10), none] [] M (nPI fun z M1 => M = M1 ∧ (-1 ≤ z ∧ z ≤ 26) ∧ (z = -1 ∨ n_land (n_lshr s z) 1 = 0))) ∧ (∀ (x7 x8 x9 : Int), (1 ≤ x7 ∧ x7 ≤ 1) → (0 ≤ x8 ∧ x8 ≤ 0) → (0 ≤ x9 ∧ x9 ≤ 0) → (1 - x8) * 38 + (1 - x9) * 12 + 2 < (nn : Int) → nW xs (e + 2) 154 152 [some (2, 112), some (0, m), some (2, 127), some (0, f), some (0, 0), some (1, s), none, some (0, x7), some (0, x8), some (0, x9), none, none] [] M (nPI fun z M1 => M = M1 ∧ (-1 ≤ z ∧ z ≤ 26) ∧ (z = -1 ∨ n_land (n_lshr s z) 1 = 0))) ∧ (∀ (x7 x8 : Int), (1 ≤ x7 ∧ x7 ≤ 1) → (0 ≤ x8 ∧ x8 ≤ 0) → (1 - x8) * 38 + 1 < (nn : Int) → nW xs (e + 2) 154 158 [some (2, 112), some (0, m), some (2, 127), some (0, f), some (0, 0), some (1, s), none, some (0, x7), some (0, x8), none, none, none] [] M (nPI fun z M1 => M = M1 ∧ (-1 ≤ z ∧ z ≤ 26) ∧ (z = -1 ∨ n_land (n_lshr s z) 1 = 0))) := by
  have hd : (3 : Int) = 2 ∨ (3 : Int) = 3 := by decide
  have hac := hS.2.2.2.2
  intro nn
  induction nn with
  | zero => refine ⟨?_, ?_, ?_, ?_, ?_, ?_, ?_, ?_⟩ <;> (intros; omega)
  | succ nn ih =>
    refine ⟨?_, ?_, ?_, ?_, ?_, ?_, ?_, ?_⟩
    · intro x7 x8 k7 k8 hnn
      refine n_iload c_154_14 rfl ?_
      refine n_iload c_154_16 rfl ?_
      refine n_if2_ge c_154_18 (by omega) (by omega) ?_ ?_
      · intro h1
        refine n_iconst c_154_164 ?_
        exact n_rI c_154_165 rfl ⟨rfl, by omega, by first | omega | (refine Or.inr ?_; subst_vars; assumption)⟩
      · intro h2
        refine n_lload c_154_21 rfl ?_
        refine n_iload c_154_23 rfl ?_
        refine n_i_lshr c_154_25 rfl ?_
        have f3 := n_lshr_r s x8
        generalize gz4 : (n_lshr s x8) = z4 at f3 ⊢
        refine n_lconst (n := 1) c_154_26 rfl ?_
        refine n_i_land c_154_27 rfl ?_
        have f5 := n_land_r z4 1
        generalize gz6 : (n_land z4 1) = z6 at f5 ⊢
        refine n_lconst (n := 0) c_154_28 rfl ?_
        refine n_lcmp c_154_29 ?_
        refine n_lif_ne c_154_30 (by omega) (by omega) ?_ ?_
        · intro h7
          refine n_iconst c_154_36 ?_
          refine n_istore (L2 := [some (2, 112), some (0, m), some (2, 127), some (0, f), some (0, 0), some (1, s), none, some (0, x7), some (0, x8), some (0, 0), none, none]) c_154_37 rfl rfl ?_
          refine n_fg (le_s (le_s (le_s (le_s (le_s (le_s (le_n (le_s (le_s (le_s (le_n (le_n le_0)))))))))))) ?_
          exact ih.2.1 _ _ _ (by omega) (by omega) (by omega) (by omega)
        · intro h8
          refine n_goto c_154_33 ?_
          refine n_fg (le_s (le_s (le_s (le_s (le_s (le_s (le_n (le_s (le_s (le_n (le_n (le_n le_0)))))))))))) ?_
          exact ih.2.2.2.2.2.2.2 _ _ (by omega) (by omega) (by omega)
    · intro x7 x8 x9 k7 k8 k9 hnn
      refine n_iload c_154_39 rfl ?_
      refine n_iload_n c_154_41 rfl ?_
      refine n_iconst c_154_42 ?_
      refine n_if2_le c_154_43 (by omega) (by omega) ?_ ?_
      · intro h1
        refine n_iconst c_154_51 ?_
        refine n_if2_ge c_154_52 (by omega) (by omega) ?_ ?_
        · intro h2
          refine n_fg (le_s (le_s (le_s (le_s (le_s (le_s (le_n (le_s (le_s (le_n (le_n (le_n le_0)))))))))))) ?_
          exact ih.2.2.2.2.2.2.2 _ _ (by omega) (by omega) (by omega)
        · intro h3
          refine n_iload_n c_154_55 rfl ?_
          refine n_iconst c_154_56 ?_
          refine n_if2_le c_154_57 (by omega) (by omega) ?_ ?_
          · intro h4
            refine n_fg (le_s (le_s (le_s (le_s (le_s (le_s (le_n (le_s (le_s (le_s (le_n (le_n le_0)))))))))))) ?_
            exact ih.2.2.1 _ _ _ (by omega) (by omega) (by omega) (by omega)
          · intro h5
            exfalso; omega
      · intro h6
        refine n_iload c_154_46 rfl ?_
        refine n_goto c_154_48 ?_
        refine n_if2_ge c_154_52 (by omega) (by omega) ?_ ?_
        · intro h7
          refine n_fg (le_s (le_s (le_s (le_s (le_s (le_s (le_n (le_s (le_s (le_n (le_n (le_n le_0)))))))))))) ?_
          exact ih.2.2.2.2.2.2.2 _ _ (by omega) (by omega) (by omega)
        · intro h8
          refine n_iload_n c_154_55 rfl ?_
          refine n_iconst c_154_56 ?_
          refine n_if2_le c_154_57 (by omega) (by omega) ?_ ?_
          · intro h9
            exfalso; omega
          · intro h10
            refine n_lload c_154_60 rfl ?_
            refine n_iload c_154_62 rfl ?_
            refine n_i_lshr c_154_64 rfl ?_
            have f11 := n_lshr_r s x9
            generalize gz12 : (n_lshr s x9) = z12 at f11 ⊢
            refine n_lconst (n := 1) c_154_65 rfl ?_
            refine n_i_land c_154_66 rfl ?_
            have f13 := n_land_r z12 1
            generalize gz14 : (n_land z12 1) = z14 at f13 ⊢
            refine n_lconst (n := 0) c_154_67 rfl ?_
            refine n_lcmp c_154_68 ?_
            refine n_lif_ne c_154_69 (by omega) (by omega) ?_ ?_
            · intro h15
              refine n_fg (le_s (le_s (le_s (le_s (le_s (le_s (le_n (le_s (le_s (le_s (le_n (le_n le_0)))))))))))) ?_
              exact ih.2.2.1 _ _ _ (by omega) (by omega) (by omega) (by omega)
            · intro h16
              refine n_goto c_154_72 ?_
              refine n_fg (le_s (le_s (le_s (le_s (le_s (le_s (le_n (le_s (le_s (le_s (le_n (le_n le_0)))))))))))) ?_
              exact ih.2.2.2.2.2.2.1 _ _ _ (by omega) (by omega) (by omega) (by omega)
    · intro x7 x8 x9 k7 k8 k9 hnn
      refine n_iconst c_154_75 ?_
      refine n_istore (L2 := [some (2, 112), some (0, m), some (2, 127), some (0, f), some (0, 0), some (1, s), none, some (0, x7), some (0, x8), some (0, x9), some (0, 0), none]) c_154_76 rfl rfl ?_
      refine n_fg (le_s (le_s (le_s (le_s (le_s (le_s (le_n (le_s (le_s (le_s (le_s (le_n le_0)))))))))))) ?_
      exact ih.2.2.2.1 _ _ _ _ (by omega) (by omega) (by omega) (by omega) (by omega)
    · intro x7 x8 x9 x10 k7 k8 k9 k10 hnn
      refine n_iload c_154_78 rfl ?_
      refine n_iload_n c_154_80 rfl ?_
      refine n_iconst c_154_81 ?_
      refine n_if2_le c_154_82 (by omega) (by omega) ?_ ?_
      · intro h1
        refine n_iconst c_154_90 ?_
        refine n_if2_ge c_154_91 (by omega) (by omega) ?_ ?_
        · intro h2
          refine n_fg (le_s (le_s (le_s (le_s (le_s (le_s (le_n (le_s (le_s (le_s (le_n (le_n le_0)))))))))))) ?_
          exact ih.2.2.2.2.2.2.1 _ _ _ (by omega) (by omega) (by omega) (by omega)
        · intro h3
          refine n_iload_n c_154_94 rfl ?_
          refine n_iconst c_154_95 ?_
          refine n_if2_le c_154_96 (by omega) (by omega) ?_ ?_
          · intro h4
            refine n_fg (le_s (le_s (le_s (le_s (le_s (le_s (le_n (le_s (le_s (le_s (le_s (le_n le_0)))))))))))) ?_
            exact ih.2.2.2.2.1 _ _ _ _ (by omega) (by omega) (by omega) (by omega) (by omega)
          · intro h5
            exfalso; omega
      · intro h6
        refine n_iload c_154_85 rfl ?_
        refine n_goto c_154_87 ?_
        refine n_if2_ge c_154_91 (by omega) (by omega) ?_ ?_
        · intro h7
          refine n_fg (le_s (le_s (le_s (le_s (le_s (le_s (le_n (le_s (le_s (le_s (le_n (le_n le_0)))))))))))) ?_
          exact ih.2.2.2.2.2.2.1 _ _ _ (by omega) (by omega) (by omega) (by omega)
        · intro h8
          refine n_iload_n c_154_94 rfl ?_
          refine n_iconst c_154_95 ?_
          refine n_if2_le c_154_96 (by omega) (by omega) ?_ ?_
          · intro h9
            exfalso; omega
          · intro h10
            refine n_lload c_154_99 rfl ?_
            refine n_iload c_154_101 rfl ?_
            refine n_i_lshr c_154_103 rfl ?_
            have f11 := n_lshr_r s x10
            generalize gz12 : (n_lshr s x10) = z12 at f11 ⊢
            refine n_lconst (n := 1) c_154_104 rfl ?_
            refine n_i_land c_154_105 rfl ?_
            have f13 := n_land_r z12 1
            generalize gz14 : (n_land z12 1) = z14 at f13 ⊢
            refine n_lconst (n := 0) c_154_106 rfl ?_
            refine n_lcmp c_154_107 ?_
            refine n_lif_ne c_154_108 (by omega) (by omega) ?_ ?_
            · intro h15
              refine n_fg (le_s (le_s (le_s (le_s (le_s (le_s (le_n (le_s (le_s (le_s (le_s (le_n le_0)))))))))))) ?_
              exact ih.2.2.2.2.1 _ _ _ _ (by omega) (by omega) (by omega) (by omega) (by omega)
            · intro h16
              refine n_goto c_154_111 ?_
              refine n_fg (le_s (le_s (le_s (le_s (le_s (le_s (le_n (le_s (le_s (le_s (le_s (le_n le_0)))))))))))) ?_
              exact ih.2.2.2.2.2.1 _ _ _ _ (by omega) (by omega) (by omega) (by omega) (by omega)
    · intro x7 x8 x9 x10 k7 k8 k9 k10 hnn
      refine n_aload_n c_154_114 rfl ?_
      refine n_iload_n c_154_115 rfl ?_
      refine n_aload_n c_154_116 rfl ?_
      refine n_iload_n c_154_117 rfl ?_
      refine n_iload c_154_118 rfl ?_
      refine n_iload c_154_120 rfl ?_
      refine n_iload c_154_122 rfl ?_
      refine n_iload c_154_124 rfl ?_
      refine n_v7I c_154_126 rfl sc_112.n rfl rfl rfl rfl (imageH0_3 (m := m) (f := f) (x := x8) (y := x9) (z0 := x10) hS hdm (by omega) (by omega) (by omega) (by omega) (by omega)) ?_
      intro z1 M2 hP3
      obtain ⟨eM, f3⟩ := hP3
      subst eM
      refine n_istore (L2 := [some (2, 112), some (0, m), some (2, 127), some (0, f), some (0, 0), some (1, s), none, some (0, x7), some (0, x8), some (0, x9), some (0, x10), some (0, z1)]) c_154_129 rfl rfl ?_
      refine n_lload c_154_131 rfl ?_
      refine n_iload c_154_133 rfl ?_
      refine n_i_lshr c_154_135 rfl ?_
      have f4 := n_lshr_r s z1
      generalize gz5 : (n_lshr s z1) = z5 at f4 ⊢
      refine n_lconst (n := 1) c_154_136 rfl ?_
      refine n_i_land c_154_137 rfl ?_
      have f6 := n_land_r z5 1
      generalize gz7 : (n_land z5 1) = z7 at f6 ⊢
      refine n_lconst (n := 0) c_154_138 rfl ?_
      refine n_lcmp c_154_139 ?_
      refine n_lif_ne c_154_140 (by omega) (by omega) ?_ ?_
      · intro h8
        refine n_fg (le_s (le_s (le_s (le_s (le_s (le_s (le_n (le_s (le_s (le_s (le_s (le_n le_0)))))))))))) ?_
        exact ih.2.2.2.2.2.1 _ _ _ _ (by omega) (by omega) (by omega) (by omega) (by omega)
      · intro h9
        refine n_iload c_154_143 rfl ?_
        exact n_rI c_154_145 rfl ⟨rfl, by omega, by first | omega | (refine Or.inr ?_; subst_vars; assumption)⟩
    · intro x7 x8 x9 x10 k7 k8 k9 k10 hnn
      refine n_iinc (L2 := [some (2, 112), some (0, m), some (2, 127), some (0, f), some (0, 0), some (1, s), none, some (0, x7), some (0, x8), some (0, x9), some (0, (x10 + 1)), none]) c_154_146 rfl rfl rfl ?_
      refine n_goto c_154_149 ?_
      refine n_fg (le_s (le_s (le_s (le_s (le_s (le_s (le_n (le_s (le_s (le_s (le_s (le_n le_0)))))))))))) ?_
      exact ih.2.2.2.1 _ _ _ _ (by omega) (by omega) (by omega) (by omega) (by omega)
    · intro x7 x8 x9 k7 k8 k9 hnn
      refine n_iinc (L2 := [some (2, 112), some (0, m), some (2, 127), some (0, f), some (0, 0), some (1, s), none, some (0, x7), some (0, x8), some (0, (x9 + 1)), none, none]) c_154_152 rfl rfl rfl ?_
      refine n_goto c_154_155 ?_
      refine n_fg (le_s (le_s (le_s (le_s (le_s (le_s (le_n (le_s (le_s (le_s (le_n (le_n le_0)))))))))))) ?_
      exact ih.2.1 _ _ _ (by omega) (by omega) (by omega) (by omega)
    · intro x7 x8 k7 k8 hnn
      refine n_iinc (L2 := [some (2, 112), some (0, m), some (2, 127), some (0, f), some (0, 0), some (1, s), none, some (0, x7), some (0, (x8 + 1)), none, none, none]) c_154_158 rfl rfl rfl ?_
      refine n_goto c_154_161 ?_
      refine n_fg (le_s (le_s (le_s (le_s (le_s (le_s (le_n (le_s (le_s (le_n (le_n (le_n le_0)))))))))))) ?_
      exact ih.1 _ _ (by omega) (by omega) (by omega)
set_option maxHeartbeats 4000000 in
theorem escapesH0_3 {xs : List Int32} {e : Nat} {ac : Int} {M0 M : nM} {m f s : Int} (hS : Sf 3 ac M0 M) (hdm : M0 112 0 = 3) (hm : 0 ≤ m ∧ m ≤ 3) (hf : 0 ≤ f ∧ f ≤ 0) (hs : -9223372036854775808 ≤ s ∧ s ≤ 9223372036854775807) : nW xs (e + 2) 154 0 [some (2, 112), some (0, m), some (2, 127), some (0, f), some (0, 0), some (1, s), none, none, none, none, none, none] [] M (nPI fun z M1 => M = M1 ∧ (-1 ≤ z ∧ z ≤ 26) ∧ (z = -1 ∨ n_land (n_lshr s z) 1 = 0)) := by
  have hd : (3 : Int) = 2 ∨ (3 : Int) = 3 := by decide
  have hac := hS.2.2.2.2
  refine n_aload_n c_154_0 rfl ?_
  refine n_getV (bi := 0) c_154_1 sc_112.n rfl rfl rfl (t_dm hS hdm) ?_
  intro z1 ez1 f2
  obtain rfl : z1 = 3 := by omega
  refine n_iload c_154_4 rfl ?_
  refine n_s2I c_154_6 rfl rfl rfl rfl (mpower0_3  hS ) ?_
  intro z3 M4 hP5
  obtain ⟨eM, f5⟩ := hP5
  subst eM
  obtain rfl : z3 = 1 := by omega
  refine n_istore (L2 := [some (2, 112), some (0, m), some (2, 127), some (0, f), some (0, 0), some (1, s), none, some (0, 1), none, none, none, none]) c_154_9 rfl rfl ?_
  refine n_iconst c_154_11 ?_
  refine n_istore (L2 := [some (2, 112), some (0, m), some (2, 127), some (0, f), some (0, 0), some (1, s), none, some (0, 1), some (0, 0), none, none, none]) c_154_12 rfl rfl ?_
  refine n_fg (le_s (le_s (le_s (le_s (le_s (le_s (le_n (le_s (le_s (le_n (le_n (le_n le_0)))))))))))) ?_
  exact (escapesH0_3_c hS hdm hm hf hs 238).1 _ _ (by omega) (by omega) (by omega)

set_option maxHeartbeats 4000000 in
theorem escapesH1_3_c {xs : List Int32} {e : Nat} {ac : Int} {M0 M : nM} {m f s : Int} (hS : Sf 3 ac M0 M) (hdm : M0 112 0 = 3) (hm : 0 ≤ m ∧ m ≤ 3) (hf : 0 ≤ f ∧ f ≤ 0) (hs : -9223372036854775808 ≤ s ∧ s ≤ 9223372036854775807) : ∀ nn : Nat, (∀ (x7 x8 : Int), (3 ≤ x7 ∧ x7 ≤ 3) → (0 ≤ x8 ∧ x8 ≤ 3) → (3 - x8) * 92 + 92 < (nn : Int) → nW xs (e + 2) 154 14 [some (2, 112), some (0, m), some (2, 127), some (0, f), some (0, 1), some (1, s), none, some (0, x7), some (0, x8), none, none, none] [] M (nPI fun z M1 => M = M1 ∧ (-1 ≤ z ∧ z ≤ 26) ∧ (z = -1 ∨ n_land (n_lshr s z) 1 = 0))) ∧ (∀ (x7 x8 x9 : Int), (3 ≤ x7 ∧ x7 ≤ 3) → (0 ≤ x8 ∧ x8 ≤ 2) → (0 ≤ x9 ∧ x9 ≤ 3) → (3 - x8) * 92 + (3 - x9) * 18 + 19 < (nn : Int) → nW xs (e + 2) 154 39 [some (2, 112), some (0, m), some (2, 127), some (0, f), some (0, 1), some (1, s), none, some (0, x7), some (0, x8), some (0, x9), none, none] [] M (nPI fun z M1 => M = M1 ∧ (-1 ≤ z ∧ z ≤ 26) ∧ (z = -1 ∨ n_land (n_lshr s z) 1 = 0))) ∧ (∀ (x7 x8 x9 : Int), (3 ≤ x7 ∧ x7 ≤ 3) → (0 ≤ x8 ∧ x8 ≤ 2) → (0 ≤ x9 ∧ x9 ≤ 2) → (3 - x8) * 92 + (3 - x9) * 18 + 18 < (nn : Int) → nW xs (e + 2) 154 75 [some (2, 112), some (0, m), some (2, 127), some (0, f), some (0, 1), some (1, s), none, some (0, x7), some (0, x8), some (0, x9), none, none] [] M (nPI fun z M1 => M = M1 ∧ (-1 ≤ z ∧ z ≤ 26) ∧ (z = -1 ∨ n_land (n_lshr s z) 1 = 0))) ∧ (∀ (x7 x8 x9 x10 : Int), (3 ≤ x7 ∧ x7 ≤ 3) → (0 ≤ x8 ∧ x8 ≤ 2) → (0 ≤ x9 ∧ x9 ≤ 2) → (0 ≤ x10 ∧ x10 ≤ 3) → (3 - x8) * 92 + (3 - x9) * 18 + (3 - x10) * 3 + 5 < (nn : Int) → nW xs (e + 2) 154 78 [some (2, 112), some (0, m), some (2, 127), some (0, f), some (0, 1), some (1, s), none, some (0, x7), some (0, x8), some (0, x9), some (0, x10), none] [] M (nPI fun z M1 => M = M1 ∧ (-1 ≤ z ∧ z ≤ 26) ∧ (z = -1 ∨ n_land (n_lshr s z) 1 = 0))) ∧ (∀ (x7 x8 x9 x10 : Int), (3 ≤ x7 ∧ x7 ≤ 3) → (0 ≤ x8 ∧ x8 ≤ 2) → (0 ≤ x9 ∧ x9 ≤ 2) → (0 ≤ x10 ∧ x10 ≤ 2) → (3 - x8) * 92 + (3 - x9) * 18 + (3 - x10) * 3 + 4 < (nn : Int) → nW xs (e + 2) 154 114 [some (2, 112), some (0, m), some (2, 127), some (0, f), some (0, 1), some (1, s), none, some (0, x7), some (0, x8), some (0, x9), some (0, x10), none] [] M (nPI fun z M1 => M = M1 ∧ (-1 ≤ z ∧ z ≤ 26) ∧ (z = -1 ∨ n_land (n_lshr s z) 1 = 0))) ∧ (∀ (x7 x8 x9 x10 : Int), (3 ≤ x7 ∧ x7 ≤ 3) → (0 ≤ x8 ∧ x8 ≤ 2) → (0 ≤ x9 ∧ x9 ≤ 2) → (0 ≤ x10 ∧ x10 ≤ 2) → (3 - x8) * 92 + (3 - x9) * 18 + (3 - x10) * 3 + 3 < (nn : Int) → nW xs (e + 2) 154 146 [some (2, 112), some (0, m), some (2, 127), some (0, f), some (0, 1), some (1, s), none, some (0, x7), some (0, x8), some (0, x9), some (0, x10), none] [] M (nPI fun z M1 => M = M1 ∧ (-1 ≤ z ∧ z ≤ 26) ∧ (z = -1 ∨ n_land (n_lshr s z) 1 = 0))) ∧ (∀ (x7 x8 x9 : Int), (3 ≤ x7 ∧ x7 ≤ 3) → (0 ≤ x8 ∧ x8 ≤ 2) → (0 ≤ x9 ∧ x9 ≤ 2) → (3 - x8) * 92 + (3 - x9) * 18 + 2 < (nn : Int) → nW xs (e + 2) 154 152 [some (2, 112), some (0, m), some (2, 127), some (0, f), some (0, 1), some (1, s), none, some (0, x7), some (0, x8), some (0, x9), none, none] [] M (nPI fun z M1 => M = M1 ∧ (-1 ≤ z ∧ z ≤ 26) ∧ (z = -1 ∨ n_land (n_lshr s z) 1 = 0))) ∧ (∀ (x7 x8 : Int), (3 ≤ x7 ∧ x7 ≤ 3) → (0 ≤ x8 ∧ x8 ≤ 2) → (3 - x8) * 92 + 1 < (nn : Int) → nW xs (e + 2) 154 158 [some (2, 112), some (0, m), some (2, 127), some (0, f), some (0, 1), some (1, s), none, some (0, x7), some (0, x8), none, none, none] [] M (nPI fun z M1 => M = M1 ∧ (-1 ≤ z ∧ z ≤ 26) ∧ (z = -1 ∨ n_land (n_lshr s z) 1 = 0))) := by
  have hd : (3 : Int) = 2 ∨ (3 : Int) = 3 := by decide
  have hac := hS.2.2.2.2
  intro nn
  induction nn with
  | zero => refine ⟨?_, ?_, ?_, ?_, ?_, ?_, ?_, ?_⟩ <;> (intros; omega)
  | succ nn ih =>
    refine ⟨?_, ?_, ?_, ?_, ?_, ?_, ?_, ?_⟩
    · intro x7 x8 k7 k8 hnn
      refine n_iload c_154_14 rfl ?_
      refine n_iload c_154_16 rfl ?_
      refine n_if2_ge c_154_18 (by omega) (by omega) ?_ ?_
      · intro h1
        refine n_iconst c_154_164 ?_
        exact n_rI c_154_165 rfl ⟨rfl, by omega, by first | omega | (refine Or.inr ?_; subst_vars; assumption)⟩
      · intro h2
        refine n_lload c_154_21 rfl ?_
        refine n_iload c_154_23 rfl ?_
        refine n_i_lshr c_154_25 rfl ?_
        have f3 := n_lshr_r s x8
        generalize gz4 : (n_lshr s x8) = z4 at f3 ⊢
        refine n_lconst (n := 1) c_154_26 rfl ?_
        refine n_i_land c_154_27 rfl ?_
        have f5 := n_land_r z4 1
        generalize gz6 : (n_land z4 1) = z6 at f5 ⊢
        refine n_lconst (n := 0) c_154_28 rfl ?_
        refine n_lcmp c_154_29 ?_
        refine n_lif_ne c_154_30 (by omega) (by omega) ?_ ?_
        · intro h7
          refine n_iconst c_154_36 ?_
          refine n_istore (L2 := [some (2, 112), some (0, m), some (2, 127), some (0, f), some (0, 1), some (1, s), none, some (0, x7), some (0, x8), some (0, 0), none, none]) c_154_37 rfl rfl ?_
          refine n_fg (le_s (le_s (le_s (le_s (le_s (le_s (le_n (le_s (le_s (le_s (le_n (le_n le_0)))))))))))) ?_
          exact ih.2.1 _ _ _ (by omega) (by omega) (by omega) (by omega)
        · intro h8
          refine n_goto c_154_33 ?_
          refine n_fg (le_s (le_s (le_s (le_s (le_s (le_s (le_n (le_s (le_s (le_n (le_n (le_n le_0)))))))))))) ?_
          exact ih.2.2.2.2.2.2.2 _ _ (by omega) (by omega) (by omega)
    · intro x7 x8 x9 k7 k8 k9 hnn
      refine n_iload c_154_39 rfl ?_
      refine n_iload_n c_154_41 rfl ?_
      refine n_iconst c_154_42 ?_
      refine n_if2_le c_154_43 (by omega) (by omega) ?_ ?_
      · intro h1
        refine n_iconst c_154_51 ?_
        refine n_if2_ge c_154_52 (by omega) (by omega) ?_ ?_
        · intro h2
          refine n_fg (le_s (le_s (le_s (le_s (le_s (le_s (le_n (le_s (le_s (le_n (le_n (le_n le_0)))))))))))) ?_
          exact ih.2.2.2.2.2.2.2 _ _ (by omega) (by omega) (by omega)
        · intro h3
          refine n_iload_n c_154_55 rfl ?_
          refine n_iconst c_154_56 ?_
          refine n_if2_le c_154_57 (by omega) (by omega) ?_ ?_
          · intro h4
            refine n_fg (le_s (le_s (le_s (le_s (le_s (le_s (le_n (le_s (le_s (le_s (le_n (le_n le_0)))))))))))) ?_
            exact ih.2.2.1 _ _ _ (by omega) (by omega) (by omega) (by omega)
          · intro h5
            exfalso; omega
      · intro h6
        refine n_iload c_154_46 rfl ?_
        refine n_goto c_154_48 ?_
        refine n_if2_ge c_154_52 (by omega) (by omega) ?_ ?_
        · intro h7
          refine n_fg (le_s (le_s (le_s (le_s (le_s (le_s (le_n (le_s (le_s (le_n (le_n (le_n le_0)))))))))))) ?_
          exact ih.2.2.2.2.2.2.2 _ _ (by omega) (by omega) (by omega)
        · intro h8
          refine n_iload_n c_154_55 rfl ?_
          refine n_iconst c_154_56 ?_
          refine n_if2_le c_154_57 (by omega) (by omega) ?_ ?_
          · intro h9
            exfalso; omega
          · intro h10
            refine n_lload c_154_60 rfl ?_
            refine n_iload c_154_62 rfl ?_
            refine n_i_lshr c_154_64 rfl ?_
            have f11 := n_lshr_r s x9
            generalize gz12 : (n_lshr s x9) = z12 at f11 ⊢
            refine n_lconst (n := 1) c_154_65 rfl ?_
            refine n_i_land c_154_66 rfl ?_
            have f13 := n_land_r z12 1
            generalize gz14 : (n_land z12 1) = z14 at f13 ⊢
            refine n_lconst (n := 0) c_154_67 rfl ?_
            refine n_lcmp c_154_68 ?_
            refine n_lif_ne c_154_69 (by omega) (by omega) ?_ ?_
            · intro h15
              refine n_fg (le_s (le_s (le_s (le_s (le_s (le_s (le_n (le_s (le_s (le_s (le_n (le_n le_0)))))))))))) ?_
              exact ih.2.2.1 _ _ _ (by omega) (by omega) (by omega) (by omega)
            · intro h16
              refine n_goto c_154_72 ?_
              refine n_fg (le_s (le_s (le_s (le_s (le_s (le_s (le_n (le_s (le_s (le_s (le_n (le_n le_0)))))))))))) ?_
              exact ih.2.2.2.2.2.2.1 _ _ _ (by omega) (by omega) (by omega) (by omega)
    · intro x7 x8 x9 k7 k8 k9 hnn
      refine n_iconst c_154_75 ?_
      refine n_istore (L2 := [some (2, 112), some (0, m), some (2, 127), some (0, f), some (0, 1), some (1, s), none, some (0, x7), some (0, x8), some (0, x9), some (0, 0), none]) c_154_76 rfl rfl ?_
      refine n_fg (le_s (le_s (le_s (le_s (le_s (le_s (le_n (le_s (le_s (le_s (le_s (le_n le_0)))))))))))) ?_
      exact ih.2.2.2.1 _ _ _ _ (by omega) (by omega) (by omega) (by omega) (by omega)
    · intro x7 x8 x9 x10 k7 k8 k9 k10 hnn
      refine n_iload c_154_78 rfl ?_
      refine n_iload_n c_154_80 rfl ?_
      refine n_iconst c_154_81 ?_
      refine n_if2_le c_154_82 (by omega) (by omega) ?_ ?_
      · intro h1
        refine n_iconst c_154_90 ?_
        refine n_if2_ge c_154_91 (by omega) (by omega) ?_ ?_
        · intro h2
          refine n_fg (le_s (le_s (le_s (le_s (le_s (le_s (le_n (le_s (le_s (le_s (le_n (le_n le_0)))))))))))) ?_
          exact ih.2.2.2.2.2.2.1 _ _ _ (by omega) (by omega) (by omega) (by omega)
        · intro h3
          refine n_iload_n c_154_94 rfl ?_
          refine n_iconst c_154_95 ?_
          refine n_if2_le c_154_96 (by omega) (by omega) ?_ ?_
          · intro h4
            refine n_fg (le_s (le_s (le_s (le_s (le_s (le_s (le_n (le_s (le_s (le_s (le_s (le_n le_0)))))))))))) ?_
            exact ih.2.2.2.2.1 _ _ _ _ (by omega) (by omega) (by omega) (by omega) (by omega)
          · intro h5
            exfalso; omega
      · intro h6
        refine n_iload c_154_85 rfl ?_
        refine n_goto c_154_87 ?_
        refine n_if2_ge c_154_91 (by omega) (by omega) ?_ ?_
        · intro h7
          refine n_fg (le_s (le_s (le_s (le_s (le_s (le_s (le_n (le_s (le_s (le_s (le_n (le_n le_0)))))))))))) ?_
          exact ih.2.2.2.2.2.2.1 _ _ _ (by omega) (by omega) (by omega) (by omega)
        · intro h8
          refine n_iload_n c_154_94 rfl ?_
          refine n_iconst c_154_95 ?_
          refine n_if2_le c_154_96 (by omega) (by omega) ?_ ?_
          · intro h9
            exfalso; omega
          · intro h10
            refine n_lload c_154_99 rfl ?_
            refine n_iload c_154_101 rfl ?_
            refine n_i_lshr c_154_103 rfl ?_
            have f11 := n_lshr_r s x10
            generalize gz12 : (n_lshr s x10) = z12 at f11 ⊢
            refine n_lconst (n := 1) c_154_104 rfl ?_
            refine n_i_land c_154_105 rfl ?_
            have f13 := n_land_r z12 1
            generalize gz14 : (n_land z12 1) = z14 at f13 ⊢
            refine n_lconst (n := 0) c_154_106 rfl ?_
            refine n_lcmp c_154_107 ?_
            refine n_lif_ne c_154_108 (by omega) (by omega) ?_ ?_
            · intro h15
              refine n_fg (le_s (le_s (le_s (le_s (le_s (le_s (le_n (le_s (le_s (le_s (le_s (le_n le_0)))))))))))) ?_
              exact ih.2.2.2.2.1 _ _ _ _ (by omega) (by omega) (by omega) (by omega) (by omega)
            · intro h16
              refine n_goto c_154_111 ?_
              refine n_fg (le_s (le_s (le_s (le_s (le_s (le_s (le_n (le_s (le_s (le_s (le_s (le_n le_0)))))))))))) ?_
              exact ih.2.2.2.2.2.1 _ _ _ _ (by omega) (by omega) (by omega) (by omega) (by omega)
    · intro x7 x8 x9 x10 k7 k8 k9 k10 hnn
      refine n_aload_n c_154_114 rfl ?_
      refine n_iload_n c_154_115 rfl ?_
      refine n_aload_n c_154_116 rfl ?_
      refine n_iload_n c_154_117 rfl ?_
      refine n_iload c_154_118 rfl ?_
      refine n_iload c_154_120 rfl ?_
      refine n_iload c_154_122 rfl ?_
      refine n_iload c_154_124 rfl ?_
      refine n_v7I c_154_126 rfl sc_112.n rfl rfl rfl rfl (imageH1_3 (m := m) (f := f) (x := x8) (y := x9) (z0 := x10) hS hdm (by omega) (by omega) (by omega) (by omega) (by omega)) ?_
      intro z1 M2 hP3
      obtain ⟨eM, f3⟩ := hP3
      subst eM
      refine n_istore (L2 := [some (2, 112), some (0, m), some (2, 127), some (0, f), some (0, 1), some (1, s), none, some (0, x7), some (0, x8), some (0, x9), some (0, x10), some (0, z1)]) c_154_129 rfl rfl ?_
      refine n_lload c_154_131 rfl ?_
      refine n_iload c_154_133 rfl ?_
      refine n_i_lshr c_154_135 rfl ?_
      have f4 := n_lshr_r s z1
      generalize gz5 : (n_lshr s z1) = z5 at f4 ⊢
      refine n_lconst (n := 1) c_154_136 rfl ?_
      refine n_i_land c_154_137 rfl ?_
      have f6 := n_land_r z5 1
      generalize gz7 : (n_land z5 1) = z7 at f6 ⊢
      refine n_lconst (n := 0) c_154_138 rfl ?_
      refine n_lcmp c_154_139 ?_
      refine n_lif_ne c_154_140 (by omega) (by omega) ?_ ?_
      · intro h8
        refine n_fg (le_s (le_s (le_s (le_s (le_s (le_s (le_n (le_s (le_s (le_s (le_s (le_n le_0)))))))))))) ?_
        exact ih.2.2.2.2.2.1 _ _ _ _ (by omega) (by omega) (by omega) (by omega) (by omega)
      · intro h9
        refine n_iload c_154_143 rfl ?_
        exact n_rI c_154_145 rfl ⟨rfl, by omega, by first | omega | (refine Or.inr ?_; subst_vars; assumption)⟩
    · intro x7 x8 x9 x10 k7 k8 k9 k10 hnn
      refine n_iinc (L2 := [some (2, 112), some (0, m), some (2, 127), some (0, f), some (0, 1), some (1, s), none, some (0, x7), some (0, x8), some (0, x9), some (0, (x10 + 1)), none]) c_154_146 rfl rfl rfl ?_
      refine n_goto c_154_149 ?_
      refine n_fg (le_s (le_s (le_s (le_s (le_s (le_s (le_n (le_s (le_s (le_s (le_s (le_n le_0)))))))))))) ?_
      exact ih.2.2.2.1 _ _ _ _ (by omega) (by omega) (by omega) (by omega) (by omega)
    · intro x7 x8 x9 k7 k8 k9 hnn
      refine n_iinc (L2 := [some (2, 112), some (0, m), some (2, 127), some (0, f), some (0, 1), some (1, s), none, some (0, x7), some (0, x8), some (0, (x9 + 1)), none, none]) c_154_152 rfl rfl rfl ?_
      refine n_goto c_154_155 ?_
      refine n_fg (le_s (le_s (le_s (le_s (le_s (le_s (le_n (le_s (le_s (le_s (le_n (le_n le_0)))))))))))) ?_
      exact ih.2.1 _ _ _ (by omega) (by omega) (by omega) (by omega)
    · intro x7 x8 k7 k8 hnn
      refine n_iinc (L2 := [some (2, 112), some (0, m), some (2, 127), some (0, f), some (0, 1), some (1, s), none, some (0, x7), some (0, (x8 + 1)), none, none, none]) c_154_158 rfl rfl rfl ?_
      refine n_goto c_154_161 ?_
      refine n_fg (le_s (le_s (le_s (le_s (le_s (le_s (le_n (le_s (le_s (le_n (le_n (le_n le_0)))))))))))) ?_
      exact ih.1 _ _ (by omega) (by omega) (by omega)
set_option maxHeartbeats 4000000 in
theorem escapesH1_3 {xs : List Int32} {e : Nat} {ac : Int} {M0 M : nM} {m f s : Int} (hS : Sf 3 ac M0 M) (hdm : M0 112 0 = 3) (hm : 0 ≤ m ∧ m ≤ 3) (hf : 0 ≤ f ∧ f ≤ 0) (hs : -9223372036854775808 ≤ s ∧ s ≤ 9223372036854775807) : nW xs (e + 2) 154 0 [some (2, 112), some (0, m), some (2, 127), some (0, f), some (0, 1), some (1, s), none, none, none, none, none, none] [] M (nPI fun z M1 => M = M1 ∧ (-1 ≤ z ∧ z ≤ 26) ∧ (z = -1 ∨ n_land (n_lshr s z) 1 = 0)) := by
  have hd : (3 : Int) = 2 ∨ (3 : Int) = 3 := by decide
  have hac := hS.2.2.2.2
  refine n_aload_n c_154_0 rfl ?_
  refine n_getV (bi := 0) c_154_1 sc_112.n rfl rfl rfl (t_dm hS hdm) ?_
  intro z1 ez1 f2
  obtain rfl : z1 = 3 := by omega
  refine n_iload c_154_4 rfl ?_
  refine n_s2I c_154_6 rfl rfl rfl rfl (mpower1_3  hS ) ?_
  intro z3 M4 hP5
  obtain ⟨eM, f5⟩ := hP5
  subst eM
  obtain rfl : z3 = 3 := by omega
  refine n_istore (L2 := [some (2, 112), some (0, m), some (2, 127), some (0, f), some (0, 1), some (1, s), none, some (0, 3), none, none, none, none]) c_154_9 rfl rfl ?_
  refine n_iconst c_154_11 ?_
  refine n_istore (L2 := [some (2, 112), some (0, m), some (2, 127), some (0, f), some (0, 1), some (1, s), none, some (0, 3), some (0, 0), none, none, none]) c_154_12 rfl rfl ?_
  refine n_fg (le_s (le_s (le_s (le_s (le_s (le_s (le_n (le_s (le_s (le_n (le_n (le_n le_0)))))))))))) ?_
  exact (escapesH1_3_c hS hdm hm hf hs 930).1 _ _ (by omega) (by omega) (by omega)

set_option maxHeartbeats 4000000 in
theorem escapesH2_3_c {xs : List Int32} {e : Nat} {ac : Int} {M0 M : nM} {m f s : Int} (hS : Sf 3 ac M0 M) (hdm : M0 112 0 = 3) (hm : 0 ≤ m ∧ m ≤ 3) (hf : 0 ≤ f ∧ f ≤ 0) (hs : -9223372036854775808 ≤ s ∧ s ≤ 9223372036854775807) : ∀ nn : Nat, (∀ (x7 x8 : Int), (9 ≤ x7 ∧ x7 ≤ 9) → (0 ≤ x8 ∧ x8 ≤ 9) → (9 - x8) * 398 + 398 < (nn : Int) → nW xs (e + 2) 154 14 [some (2, 112), some (0, m), some (2, 127), some (0, f), some (0, 2), some (1, s), none, some (0, x7), some (0, x8), none, none, none] [] M (nPI fun z M1 => M = M1 ∧ (-1 ≤ z ∧ z ≤ 26) ∧ (z = -1 ∨ n_land (n_lshr s z) 1 = 0))) ∧ (∀ (x7 x8 x9 : Int), (9 ≤ x7 ∧ x7 ≤ 9) → (0 ≤ x8 ∧ x8 ≤ 8) → (0 ≤ x9 ∧ x9 ≤ 9) → (9 - x8) * 398 + (9 - x9) * 36 + 37 < (nn : Int) → nW xs (e + 2) 154 39 [some (2, 112), some (0, m), some (2, 127), some (0, f), some (0, 2), some (1, s), none, some (0, x7), some (0, x8), some (0, x9), none, none] [] M (nPI fun z M1 => M = M1 ∧ (-1 ≤ z ∧ z ≤ 26) ∧ (z = -1 ∨ n_land (n_lshr s z) 1 = 0))) ∧ (∀ (x7 x8 x9 : Int), (9 ≤ x7 ∧ x7 ≤ 9) → (0 ≤ x8 ∧ x8 ≤ 8) → (0 ≤ x9 ∧ x9 ≤ 8) → (9 - x8) * 398 + (9 - x9) * 36 + 36 < (nn : Int) → nW xs (e + 2) 154 75 [some (2, 112), some (0, m), some (2, 127), some (0, f), some (0, 2), some (1, s), none, some (0, x7), some (0, x8), some (0, x9), none, none] [] M (nPI fun z M1 => M = M1 ∧ (-1 ≤ z ∧ z ≤ 26) ∧ (z = -1 ∨ n_land (n_lshr s z) 1 = 0))) ∧ (∀ (x7 x8 x9 x10 : Int), (9 ≤ x7 ∧ x7 ≤ 9) → (0 ≤ x8 ∧ x8 ≤ 8) → (0 ≤ x9 ∧ x9 ≤ 8) → (0 ≤ x10 ∧ x10 ≤ 9) → (9 - x8) * 398 + (9 - x9) * 36 + (9 - x10) * 3 + 5 < (nn : Int) → nW xs (e + 2) 154 78 [some (2, 112), some (0, m), some (2, 127), some (0, f), some (0, 2), some (1, s), none, some (0, x7), some (0, x8), some (0, x9), some (0, x10), none] [] M (nPI fun z M1 => M = M1 ∧ (-1 ≤ z ∧ z ≤ 26) ∧ (z = -1 ∨ n_land (n_lshr s z) 1 = 0))) ∧ (∀ (x7 x8 x9 x10 : Int), (9 ≤ x7 ∧ x7 ≤ 9) → (0 ≤ x8 ∧ x8 ≤ 8) → (0 ≤ x9 ∧ x9 ≤ 8) → (0 ≤ x10 ∧ x10 ≤ 8) → (9 - x8) * 398 + (9 - x9) * 36 + (9 - x10) * 3 + 4 < (nn : Int) → nW xs (e + 2) 154 114 [some (2, 112), some (0, m), some (2, 127), some (0, f), some (0, 2), some (1, s), none, some (0, x7), some (0, x8), some (0, x9), some (0, x10), none] [] M (nPI fun z M1 => M = M1 ∧ (-1 ≤ z ∧ z ≤ 26) ∧ (z = -1 ∨ n_land (n_lshr s z) 1 = 0))) ∧ (∀ (x7 x8 x9 x10 : Int), (9 ≤ x7 ∧ x7 ≤ 9) → (0 ≤ x8 ∧ x8 ≤ 8) → (0 ≤ x9 ∧ x9 ≤ 8) → (0 ≤ x10 ∧ x10 ≤ 8) → (9 - x8) * 398 + (9 - x9) * 36 + (9 - x10) * 3 + 3 < (nn : Int) → nW xs (e + 2) 154 146 [some (2, 112), some (0, m), some (2, 127), some (0, f), some (0, 2), some (1, s), none, some (0, x7), some (0, x8), some (0, x9), some (0, x10), none] [] M (nPI fun z M1 => M = M1 ∧ (-1 ≤ z ∧ z ≤ 26) ∧ (z = -1 ∨ n_land (n_lshr s z) 1 = 0))) ∧ (∀ (x7 x8 x9 : Int), (9 ≤ x7 ∧ x7 ≤ 9) → (0 ≤ x8 ∧ x8 ≤ 8) → (0 ≤ x9 ∧ x9 ≤ 8) → (9 - x8) * 398 + (9 - x9) * 36 + 2 < (nn : Int) → nW xs (e + 2) 154 152 [some (2, 112), some (0, m), some (2, 127), some (0, f), some (0, 2), some (1, s), none, some (0, x7), some (0, x8), some (0, x9), none, none] [] M (nPI fun z M1 => M = M1 ∧ (-1 ≤ z ∧ z ≤ 26) ∧ (z = -1 ∨ n_land (n_lshr s z) 1 = 0))) ∧ (∀ (x7 x8 : Int), (9 ≤ x7 ∧ x7 ≤ 9) → (0 ≤ x8 ∧ x8 ≤ 8) → (9 - x8) * 398 + 1 < (nn : Int) → nW xs (e + 2) 154 158 [some (2, 112), some (0, m), some (2, 127), some (0, f), some (0, 2), some (1, s), none, some (0, x7), some (0, x8), none, none, none] [] M (nPI fun z M1 => M = M1 ∧ (-1 ≤ z ∧ z ≤ 26) ∧ (z = -1 ∨ n_land (n_lshr s z) 1 = 0))) := by
  have hd : (3 : Int) = 2 ∨ (3 : Int) = 3 := by decide
  have hac := hS.2.2.2.2
  intro nn
  induction nn with
  | zero => refine ⟨?_, ?_, ?_, ?_, ?_, ?_, ?_, ?_⟩ <;> (intros; omega)
  | succ nn ih =>
    refine ⟨?_, ?_, ?_, ?_, ?_, ?_, ?_, ?_⟩
    · intro x7 x8 k7 k8 hnn
      refine n_iload c_154_14 rfl ?_
      refine n_iload c_154_16 rfl ?_
      refine n_if2_ge c_154_18 (by omega) (by omega) ?_ ?_
      · intro h1
        refine n_iconst c_154_164 ?_
        exact n_rI c_154_165 rfl ⟨rfl, by omega, by first | omega | (refine Or.inr ?_; subst_vars; assumption)⟩
      · intro h2
        refine n_lload c_154_21 rfl ?_
        refine n_iload c_154_23 rfl ?_
        refine n_i_lshr c_154_25 rfl ?_
        have f3 := n_lshr_r s x8
        generalize gz4 : (n_lshr s x8) = z4 at f3 ⊢
        refine n_lconst (n := 1) c_154_26 rfl ?_
        refine n_i_land c_154_27 rfl ?_
        have f5 := n_land_r z4 1
        generalize gz6 : (n_land z4 1) = z6 at f5 ⊢
        refine n_lconst (n := 0) c_154_28 rfl ?_
        refine n_lcmp c_154_29 ?_
        refine n_lif_ne c_154_30 (by omega) (by omega) ?_ ?_
        · intro h7
          refine n_iconst c_154_36 ?_
          refine n_istore (L2 := [some (2, 112), some (0, m), some (2, 127), some (0, f), some (0, 2), some (1, s), none, some (0, x7), some (0, x8), some (0, 0), none, none]) c_154_37 rfl rfl ?_
          refine n_fg (le_s (le_s (le_s (le_s (le_s (le_s (le_n (le_s (le_s (le_s (le_n (le_n le_0)))))))))))) ?_
          exact ih.2.1 _ _ _ (by omega) (by omega) (by omega) (by omega)
        · intro h8
          refine n_goto c_154_33 ?_
          refine n_fg (le_s (le_s (le_s (le_s (le_s (le_s (le_n (le_s (le_s (le_n (le_n (le_n le_0)))))))))))) ?_
          exact ih.2.2.2.2.2.2.2 _ _ (by omega) (by omega) (by omega)
    · intro x7 x8 x9 k7 k8 k9 hnn
      refine n_iload c_154_39 rfl ?_
      refine n_iload_n c_154_41 rfl ?_
      refine n_iconst c_154_42 ?_
      refine n_if2_le c_154_43 (by omega) (by omega) ?_ ?_
      · intro h1
        refine n_iconst c_154_51 ?_
        refine n_if2_ge c_154_52 (by omega) (by omega) ?_ ?_
        · intro h2
          refine n_fg (le_s (le_s (le_s (le_s (le_s (le_s (le_n (le_s (le_s (le_n (le_n (le_n le_0)))))))))))) ?_
          exact ih.2.2.2.2.2.2.2 _ _ (by omega) (by omega) (by omega)
        · intro h3
          refine n_iload_n c_154_55 rfl ?_
          refine n_iconst c_154_56 ?_
          refine n_if2_le c_154_57 (by omega) (by omega) ?_ ?_
          · intro h4
            refine n_fg (le_s (le_s (le_s (le_s (le_s (le_s (le_n (le_s (le_s (le_s (le_n (le_n le_0)))))))))))) ?_
            exact ih.2.2.1 _ _ _ (by omega) (by omega) (by omega) (by omega)
          · intro h5
            exfalso; omega
      · intro h6
        refine n_iload c_154_46 rfl ?_
        refine n_goto c_154_48 ?_
        refine n_if2_ge c_154_52 (by omega) (by omega) ?_ ?_
        · intro h7
          refine n_fg (le_s (le_s (le_s (le_s (le_s (le_s (le_n (le_s (le_s (le_n (le_n (le_n le_0)))))))))))) ?_
          exact ih.2.2.2.2.2.2.2 _ _ (by omega) (by omega) (by omega)
        · intro h8
          refine n_iload_n c_154_55 rfl ?_
          refine n_iconst c_154_56 ?_
          refine n_if2_le c_154_57 (by omega) (by omega) ?_ ?_
          · intro h9
            exfalso; omega
          · intro h10
            refine n_lload c_154_60 rfl ?_
            refine n_iload c_154_62 rfl ?_
            refine n_i_lshr c_154_64 rfl ?_
            have f11 := n_lshr_r s x9
            generalize gz12 : (n_lshr s x9) = z12 at f11 ⊢
            refine n_lconst (n := 1) c_154_65 rfl ?_
            refine n_i_land c_154_66 rfl ?_
            have f13 := n_land_r z12 1
            generalize gz14 : (n_land z12 1) = z14 at f13 ⊢
            refine n_lconst (n := 0) c_154_67 rfl ?_
            refine n_lcmp c_154_68 ?_
            refine n_lif_ne c_154_69 (by omega) (by omega) ?_ ?_
            · intro h15
              refine n_fg (le_s (le_s (le_s (le_s (le_s (le_s (le_n (le_s (le_s (le_s (le_n (le_n le_0)))))))))))) ?_
              exact ih.2.2.1 _ _ _ (by omega) (by omega) (by omega) (by omega)
            · intro h16
              refine n_goto c_154_72 ?_
              refine n_fg (le_s (le_s (le_s (le_s (le_s (le_s (le_n (le_s (le_s (le_s (le_n (le_n le_0)))))))))))) ?_
              exact ih.2.2.2.2.2.2.1 _ _ _ (by omega) (by omega) (by omega) (by omega)
    · intro x7 x8 x9 k7 k8 k9 hnn
      refine n_iconst c_154_75 ?_
      refine n_istore (L2 := [some (2, 112), some (0, m), some (2, 127), some (0, f), some (0, 2), some (1, s), none, some (0, x7), some (0, x8), some (0, x9), some (0, 0), none]) c_154_76 rfl rfl ?_
      refine n_fg (le_s (le_s (le_s (le_s (le_s (le_s (le_n (le_s (le_s (le_s (le_s (le_n le_0)))))))))))) ?_
      exact ih.2.2.2.1 _ _ _ _ (by omega) (by omega) (by omega) (by omega) (by omega)
    · intro x7 x8 x9 x10 k7 k8 k9 k10 hnn
      refine n_iload c_154_78 rfl ?_
      refine n_iload_n c_154_80 rfl ?_
      refine n_iconst c_154_81 ?_
      refine n_if2_le c_154_82 (by omega) (by omega) ?_ ?_
      · intro h1
        refine n_iconst c_154_90 ?_
        refine n_if2_ge c_154_91 (by omega) (by omega) ?_ ?_
        · intro h2
          refine n_fg (le_s (le_s (le_s (le_s (le_s (le_s (le_n (le_s (le_s (le_s (le_n (le_n le_0)))))))))))) ?_
          exact ih.2.2.2.2.2.2.1 _ _ _ (by omega) (by omega) (by omega) (by omega)
        · intro h3
          refine n_iload_n c_154_94 rfl ?_
          refine n_iconst c_154_95 ?_
          refine n_if2_le c_154_96 (by omega) (by omega) ?_ ?_
          · intro h4
            refine n_fg (le_s (le_s (le_s (le_s (le_s (le_s (le_n (le_s (le_s (le_s (le_s (le_n le_0)))))))))))) ?_
            exact ih.2.2.2.2.1 _ _ _ _ (by omega) (by omega) (by omega) (by omega) (by omega)
          · intro h5
            exfalso; omega
      · intro h6
        refine n_iload c_154_85 rfl ?_
        refine n_goto c_154_87 ?_
        refine n_if2_ge c_154_91 (by omega) (by omega) ?_ ?_
        · intro h7
          refine n_fg (le_s (le_s (le_s (le_s (le_s (le_s (le_n (le_s (le_s (le_s (le_n (le_n le_0)))))))))))) ?_
          exact ih.2.2.2.2.2.2.1 _ _ _ (by omega) (by omega) (by omega) (by omega)
        · intro h8
          refine n_iload_n c_154_94 rfl ?_
          refine n_iconst c_154_95 ?_
          refine n_if2_le c_154_96 (by omega) (by omega) ?_ ?_
          · intro h9
            exfalso; omega
          · intro h10
            refine n_lload c_154_99 rfl ?_
            refine n_iload c_154_101 rfl ?_
            refine n_i_lshr c_154_103 rfl ?_
            have f11 := n_lshr_r s x10
            generalize gz12 : (n_lshr s x10) = z12 at f11 ⊢
            refine n_lconst (n := 1) c_154_104 rfl ?_
            refine n_i_land c_154_105 rfl ?_
            have f13 := n_land_r z12 1
            generalize gz14 : (n_land z12 1) = z14 at f13 ⊢
            refine n_lconst (n := 0) c_154_106 rfl ?_
            refine n_lcmp c_154_107 ?_
            refine n_lif_ne c_154_108 (by omega) (by omega) ?_ ?_
            · intro h15
              refine n_fg (le_s (le_s (le_s (le_s (le_s (le_s (le_n (le_s (le_s (le_s (le_s (le_n le_0)))))))))))) ?_
              exact ih.2.2.2.2.1 _ _ _ _ (by omega) (by omega) (by omega) (by omega) (by omega)
            · intro h16
              refine n_goto c_154_111 ?_
              refine n_fg (le_s (le_s (le_s (le_s (le_s (le_s (le_n (le_s (le_s (le_s (le_s (le_n le_0)))))))))))) ?_
              exact ih.2.2.2.2.2.1 _ _ _ _ (by omega) (by omega) (by omega) (by omega) (by omega)
    · intro x7 x8 x9 x10 k7 k8 k9 k10 hnn
      refine n_aload_n c_154_114 rfl ?_
      refine n_iload_n c_154_115 rfl ?_
      refine n_aload_n c_154_116 rfl ?_
      refine n_iload_n c_154_117 rfl ?_
      refine n_iload c_154_118 rfl ?_
      refine n_iload c_154_120 rfl ?_
      refine n_iload c_154_122 rfl ?_
      refine n_iload c_154_124 rfl ?_
      refine n_v7I c_154_126 rfl sc_112.n rfl rfl rfl rfl (imageH2_3 (m := m) (f := f) (x := x8) (y := x9) (z0 := x10) hS hdm (by omega) (by omega) (by omega) (by omega) (by omega)) ?_
      intro z1 M2 hP3
      obtain ⟨eM, f3⟩ := hP3
      subst eM
      refine n_istore (L2 := [some (2, 112), some (0, m), some (2, 127), some (0, f), some (0, 2), some (1, s), none, some (0, x7), some (0, x8), some (0, x9), some (0, x10), some (0, z1)]) c_154_129 rfl rfl ?_
      refine n_lload c_154_131 rfl ?_
      refine n_iload c_154_133 rfl ?_
      refine n_i_lshr c_154_135 rfl ?_
      have f4 := n_lshr_r s z1
      generalize gz5 : (n_lshr s z1) = z5 at f4 ⊢
      refine n_lconst (n := 1) c_154_136 rfl ?_
      refine n_i_land c_154_137 rfl ?_
      have f6 := n_land_r z5 1
      generalize gz7 : (n_land z5 1) = z7 at f6 ⊢
      refine n_lconst (n := 0) c_154_138 rfl ?_
      refine n_lcmp c_154_139 ?_
      refine n_lif_ne c_154_140 (by omega) (by omega) ?_ ?_
      · intro h8
        refine n_fg (le_s (le_s (le_s (le_s (le_s (le_s (le_n (le_s (le_s (le_s (le_s (le_n le_0)))))))))))) ?_
        exact ih.2.2.2.2.2.1 _ _ _ _ (by omega) (by omega) (by omega) (by omega) (by omega)
      · intro h9
        refine n_iload c_154_143 rfl ?_
        exact n_rI c_154_145 rfl ⟨rfl, by omega, by first | omega | (refine Or.inr ?_; subst_vars; assumption)⟩
    · intro x7 x8 x9 x10 k7 k8 k9 k10 hnn
      refine n_iinc (L2 := [some (2, 112), some (0, m), some (2, 127), some (0, f), some (0, 2), some (1, s), none, some (0, x7), some (0, x8), some (0, x9), some (0, (x10 + 1)), none]) c_154_146 rfl rfl rfl ?_
      refine n_goto c_154_149 ?_
      refine n_fg (le_s (le_s (le_s (le_s (le_s (le_s (le_n (le_s (le_s (le_s (le_s (le_n le_0)))))))))))) ?_
      exact ih.2.2.2.1 _ _ _ _ (by omega) (by omega) (by omega) (by omega) (by omega)
    · intro x7 x8 x9 k7 k8 k9 hnn
      refine n_iinc (L2 := [some (2, 112), some (0, m), some (2, 127), some (0, f), some (0, 2), some (1, s), none, some (0, x7), some (0, x8), some (0, (x9 + 1)), none, none]) c_154_152 rfl rfl rfl ?_
      refine n_goto c_154_155 ?_
      refine n_fg (le_s (le_s (le_s (le_s (le_s (le_s (le_n (le_s (le_s (le_s (le_n (le_n le_0)))))))))))) ?_
      exact ih.2.1 _ _ _ (by omega) (by omega) (by omega) (by omega)
    · intro x7 x8 k7 k8 hnn
      refine n_iinc (L2 := [some (2, 112), some (0, m), some (2, 127), some (0, f), some (0, 2), some (1, s), none, some (0, x7), some (0, (x8 + 1)), none, none, none]) c_154_158 rfl rfl rfl ?_
      refine n_goto c_154_161 ?_
      refine n_fg (le_s (le_s (le_s (le_s (le_s (le_s (le_n (le_s (le_s (le_n (le_n (le_n le_0)))))))))))) ?_
      exact ih.1 _ _ (by omega) (by omega) (by omega)
set_option maxHeartbeats 4000000 in
theorem escapesH2_3 {xs : List Int32} {e : Nat} {ac : Int} {M0 M : nM} {m f s : Int} (hS : Sf 3 ac M0 M) (hdm : M0 112 0 = 3) (hm : 0 ≤ m ∧ m ≤ 3) (hf : 0 ≤ f ∧ f ≤ 0) (hs : -9223372036854775808 ≤ s ∧ s ≤ 9223372036854775807) : nW xs (e + 2) 154 0 [some (2, 112), some (0, m), some (2, 127), some (0, f), some (0, 2), some (1, s), none, none, none, none, none, none] [] M (nPI fun z M1 => M = M1 ∧ (-1 ≤ z ∧ z ≤ 26) ∧ (z = -1 ∨ n_land (n_lshr s z) 1 = 0)) := by
  have hd : (3 : Int) = 2 ∨ (3 : Int) = 3 := by decide
  have hac := hS.2.2.2.2
  refine n_aload_n c_154_0 rfl ?_
  refine n_getV (bi := 0) c_154_1 sc_112.n rfl rfl rfl (t_dm hS hdm) ?_
  intro z1 ez1 f2
  obtain rfl : z1 = 3 := by omega
  refine n_iload c_154_4 rfl ?_
  refine n_s2I c_154_6 rfl rfl rfl rfl (mpower2_3  hS ) ?_
  intro z3 M4 hP5
  obtain ⟨eM, f5⟩ := hP5
  subst eM
  obtain rfl : z3 = 9 := by omega
  refine n_istore (L2 := [some (2, 112), some (0, m), some (2, 127), some (0, f), some (0, 2), some (1, s), none, some (0, 9), none, none, none, none]) c_154_9 rfl rfl ?_
  refine n_iconst c_154_11 ?_
  refine n_istore (L2 := [some (2, 112), some (0, m), some (2, 127), some (0, f), some (0, 2), some (1, s), none, some (0, 9), some (0, 0), none, none, none]) c_154_12 rfl rfl ?_
  refine n_fg (le_s (le_s (le_s (le_s (le_s (le_s (le_n (le_s (le_s (le_n (le_n (le_n le_0)))))))))))) ?_
  exact (escapesH2_3_c hS hdm hm hf hs 8766).1 _ _ (by omega) (by omega) (by omega)
