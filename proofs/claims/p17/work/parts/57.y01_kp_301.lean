/-! What the methods tell. -/
set_option maxHeartbeats 4000000 in
theorem escapesXH3_3_c {xs : List Int32} {e : Nat} {ac : Int} {M0 M : nM} {m f s : Int} (hS : Sf 3 ac M0 M) (hdm : M0 112 0 = 3) (hm : 1 ≤ m ∧ m ≤ 3) (hf : 0 ≤ f ∧ f ≤ 0) (hs : 0 ≤ s ∧ s ≤ 134217727) : ∀ nn : Nat, (∀ (x7 x8 : Int), (27 ≤ x7 ∧ x7 ≤ 27) → (0 ≤ x8 ∧ x8 ≤ 27) → (K1 3 m (fun i => M 127 (f + i)) 3 s x8) → (27 - x8) * 871 + 871 < (nn : Int) → nW xs (e + 2) 154 14 [some (2, 112), some (0, m), some (2, 127), some (0, f), some (0, 3), some (1, s), none, some (0, x7), some (0, x8), none, none, none] [] M (nPI fun z M1 => M = M1 ∧ (-1 ≤ z ∧ z ≤ 26) ∧ (ESC 3 m (fun i => M 127 (f + i)) 3 s z))) ∧ (∀ (x7 x8 x9 : Int), (27 ≤ x7 ∧ x7 ≤ 27) → (0 ≤ x8 ∧ x8 ≤ 26) → (0 ≤ x9 ∧ x9 ≤ 27) → (K1 3 m (fun i => M 127 (f + i)) 3 s x8) → (bt s x8) → (K2 3 m (fun i => M 127 (f + i)) 3 s x8 x9) → (x8 < 27) → (27 - x8) * 871 + (27 - x9) * 30 + 30 < (nn : Int) → nW xs (e + 2) 154 39 [some (2, 112), some (0, m), some (2, 127), some (0, f), some (0, 3), some (1, s), none, some (0, x7), some (0, x8), some (0, x9), none, none] [] M (nPI fun z M1 => M = M1 ∧ (-1 ≤ z ∧ z ≤ 26) ∧ (ESC 3 m (fun i => M 127 (f + i)) 3 s z))) ∧ (∀ (x7 x8 x9 x10 : Int), (27 ≤ x7 ∧ x7 ≤ 27) → (0 ≤ x8 ∧ x8 ≤ 26) → (0 ≤ x9 ∧ x9 ≤ 26) → (0 ≤ x10 ∧ x10 ≤ 27) → (K1 3 m (fun i => M 127 (f + i)) 3 s x8) → (bt s x8) → (K2 3 m (fun i => M 127 (f + i)) 3 s x8 x9) → (1 < m → bt s x9) → (x9 < ly m (pw 3 3)) → (K3 3 m (fun i => M 127 (f + i)) 3 s x8 x9 x10) → (x8 < 27) → (27 - x8) * 871 + (27 - x9) * 30 + (27 - x10) * 1 + 1 < (nn : Int) → nW xs (e + 2) 154 78 [some (2, 112), some (0, m), some (2, 127), some (0, f), some (0, 3), some (1, s), none, some (0, x7), some (0, x8), some (0, x9), some (0, x10), none] [] M (nPI fun z M1 => M = M1 ∧ (-1 ≤ z ∧ z ≤ 26) ∧ (ESC 3 m (fun i => M 127 (f + i)) 3 s z))) := by
  have hd : (3 : Int) = 2 ∨ (3 : Int) = 3 := by decide
  have hac := hS.2.2.2.2
  have hpw : pw 3 3 = 27 := by decide
  intro nn
  induction nn with
  | zero => refine ⟨?_, ?_, ?_⟩ <;> (intros; omega)
  | succ nn ih =>
    refine ⟨?_, ?_, ?_⟩
    · intro x7 x8 k7 k8 v0 hnn
      refine n_iload c_154_14 rfl (n_iload c_154_16 rfl ?_)
      refine n_if2_ge c_154_18 (by omega) (by omega) ?_ ?_
      · intro h1
        refine n_iconst c_154_164 ?_
        exact n_rI c_154_165 rfl ⟨rfl, by omega, by exact Or.inl ⟨rfl, K1.all (by omega) (by omega) v0 (by omega)⟩⟩
      · intro h2
        refine n_lload c_154_21 rfl (n_iload c_154_23 rfl (n_i_lshr c_154_25 rfl ?_))
        have f3 := n_lshr_r s x8
        generalize gz4 : (n_lshr s x8) = z4 at f3 ⊢
        refine n_lconst (n := 1) c_154_26 rfl (n_i_land c_154_27 rfl ?_)
        have f5 := n_land_r z4 1
        generalize gz6 : (n_land z4 1) = z6 at f5 ⊢
        have hb27 : z6 = s / 2 ^ (x8).toNat % 2 := by rw [← gz6, ← gz4]; exact lb_v (by omega) (by omega)
        refine n_lconst (n := 0) c_154_28 rfl (n_lcmp c_154_29 ?_)
        refine n_lif_ne c_154_30 (by omega) (by omega) ?_ ?_
        · intro h7
          refine n_iconst c_154_36 (n_istore (L2 := [some (2, 112), some (0, m), some (2, 127), some (0, f), some (0, 3), some (1, s), none, some (0, x7), some (0, x8), some (0, 0), none, none]) c_154_37 rfl rfl (n_fg (le_s (le_s (le_s (le_s (le_s (le_s (le_n (le_s (le_s (le_s (le_n (le_n le_0)))))))))))) ?_))
          exact ih.2.1 _ _ _ (by omega) (by omega) (by omega) (by exact v0) (by unfold bt; omega) (by exact fun y w h0 h1 => by omega) (by omega) (by omega)
        · intro h8
          refine n_goto c_154_33 (n_iinc (L2 := [some (2, 112), some (0, m), some (2, 127), some (0, f), some (0, 3), some (1, s), none, some (0, x7), some (0, (x8 + 1)), none, none, none]) c_154_158 rfl rfl rfl (n_goto c_154_161 (n_fg (le_s (le_s (le_s (le_s (le_s (le_s (le_n (le_s (le_s (le_n (le_n (le_n le_0)))))))))))) ?_)))
          exact ih.1 _ _ (by omega) (by omega) (by exact K1.skip v0 (by unfold bt; omega)) (by omega)
    · intro x7 x8 x9 k7 k8 k9 v0 v1 v2 v3 hnn
      refine n_iload c_154_39 rfl (n_iload_n c_154_41 rfl (n_iconst c_154_42 ?_))
      refine n_if2_le c_154_43 (by omega) (by omega) ?_ ?_
      · intro h1
        refine n_iconst c_154_51 ?_
        refine n_if2_ge c_154_52 (by omega) (by omega) ?_ ?_
        · intro h2
          refine n_iinc (L2 := [some (2, 112), some (0, m), some (2, 127), some (0, f), some (0, 3), some (1, s), none, some (0, x7), some (0, (x8 + 1)), some (0, x9), none, none]) c_154_158 rfl rfl rfl (n_goto c_154_161 (n_fg (le_s (le_s (le_s (le_s (le_s (le_s (le_n (le_s (le_s (le_n (le_n (le_n le_0)))))))))))) ?_))
          exact ih.1 _ _ (by omega) (by omega) (by exact K1.step v0 v2 (by show (if 1 < m then pw 3 3 else 1) ≤ x9; split <;> omega)) (by omega)
        · intro h3
          refine n_iload_n c_154_55 rfl (n_iconst c_154_56 ?_)
          refine n_if2_le c_154_57 (by omega) (by omega) ?_ ?_
          · intro h4
            refine n_iconst c_154_75 (n_istore (L2 := [some (2, 112), some (0, m), some (2, 127), some (0, f), some (0, 3), some (1, s), none, some (0, x7), some (0, x8), some (0, x9), some (0, 0), none]) c_154_76 rfl rfl (n_fg (le_s (le_s (le_s (le_s (le_s (le_s (le_n (le_s (le_s (le_s (le_s (le_n le_0)))))))))))) ?_))
            exact ih.2.2 _ _ _ _ (by omega) (by omega) (by omega) (by omega) (by exact v0) (by exact v1) (by exact v2) (by exact fun q => by unfold bt; omega) (by show x9 < (if 1 < m then pw 3 3 else 1); split <;> omega) (by exact fun w h0 h1 => by omega) (by omega) (by omega)
          · intro h5
            exfalso; omega
      · intro h6
        refine n_iload c_154_46 rfl (n_goto c_154_48 ?_)
        refine n_if2_ge c_154_52 (by omega) (by omega) ?_ ?_
        · intro h7
          refine n_iinc (L2 := [some (2, 112), some (0, m), some (2, 127), some (0, f), some (0, 3), some (1, s), none, some (0, x7), some (0, (x8 + 1)), some (0, x9), none, none]) c_154_158 rfl rfl rfl (n_goto c_154_161 (n_fg (le_s (le_s (le_s (le_s (le_s (le_s (le_n (le_s (le_s (le_n (le_n (le_n le_0)))))))))))) ?_))
          exact ih.1 _ _ (by omega) (by omega) (by exact K1.step v0 v2 (by show (if 1 < m then pw 3 3 else 1) ≤ x9; split <;> omega)) (by omega)
        · intro h8
          refine n_iload_n c_154_55 rfl (n_iconst c_154_56 ?_)
          refine n_if2_le c_154_57 (by omega) (by omega) ?_ ?_
          · intro h9
            exfalso; omega
          · intro h10
            refine n_lload c_154_60 rfl (n_iload c_154_62 rfl (n_i_lshr c_154_64 rfl ?_))
            have f11 := n_lshr_r s x9
            generalize gz12 : (n_lshr s x9) = z12 at f11 ⊢
            refine n_lconst (n := 1) c_154_65 rfl (n_i_land c_154_66 rfl ?_)
            have f13 := n_land_r z12 1
            generalize gz14 : (n_land z12 1) = z14 at f13 ⊢
            have hb66 : z14 = s / 2 ^ (x9).toNat % 2 := by rw [← gz14, ← gz12]; exact lb_v (by omega) (by omega)
            refine n_lconst (n := 0) c_154_67 rfl (n_lcmp c_154_68 ?_)
            refine n_lif_ne c_154_69 (by omega) (by omega) ?_ ?_
            · intro h15
              refine n_iconst c_154_75 (n_istore (L2 := [some (2, 112), some (0, m), some (2, 127), some (0, f), some (0, 3), some (1, s), none, some (0, x7), some (0, x8), some (0, x9), some (0, 0), none]) c_154_76 rfl rfl (n_fg (le_s (le_s (le_s (le_s (le_s (le_s (le_n (le_s (le_s (le_s (le_s (le_n le_0)))))))))))) ?_))
              exact ih.2.2 _ _ _ _ (by omega) (by omega) (by omega) (by omega) (by exact v0) (by exact v1) (by exact v2) (by exact fun q => by unfold bt; omega) (by show x9 < (if 1 < m then pw 3 3 else 1); split <;> omega) (by exact fun w h0 h1 => by omega) (by omega) (by omega)
            · intro h16
              refine n_goto c_154_72 (n_iinc (L2 := [some (2, 112), some (0, m), some (2, 127), some (0, f), some (0, 3), some (1, s), none, some (0, x7), some (0, x8), some (0, (x9 + 1)), none, none]) c_154_152 rfl rfl rfl (n_goto c_154_155 (n_fg (le_s (le_s (le_s (le_s (le_s (le_s (le_n (le_s (le_s (le_s (le_n (le_n le_0)))))))))))) ?_)))
              exact ih.2.1 _ _ _ (by omega) (by omega) (by omega) (by exact v0) (by exact v1) (by exact K2.skip v2 ⟨by omega, by unfold bt; omega⟩) (by omega) (by omega)
    · intro x7 x8 x9 x10 k7 k8 k9 k10 v0 v1 v2 v3 v4 v5 v6 hnn
      refine n_iload c_154_78 rfl (n_iload_n c_154_80 rfl (n_iconst c_154_81 ?_))
      refine n_if2_le c_154_82 (by omega) (by omega) ?_ ?_
      · intro h1
        refine n_iconst c_154_90 ?_
        refine n_if2_ge c_154_91 (by omega) (by omega) ?_ ?_
        · intro h2
          refine n_iinc (L2 := [some (2, 112), some (0, m), some (2, 127), some (0, f), some (0, 3), some (1, s), none, some (0, x7), some (0, x8), some (0, (x9 + 1)), some (0, x10), none]) c_154_152 rfl rfl rfl (n_goto c_154_155 (n_fg (le_s (le_s (le_s (le_s (le_s (le_s (le_n (le_s (le_s (le_s (le_n (le_n le_0)))))))))))) ?_))
          exact ih.2.1 _ _ _ (by omega) (by omega) (by omega) (by exact v0) (by exact v1) (by exact K2.step v2 v5 (by show (if 2 < m then pw 3 3 else 1) ≤ x10; split <;> omega)) (by omega) (by omega)
        · intro h3
          refine n_iload_n c_154_94 rfl (n_iconst c_154_95 ?_)
          refine n_if2_le c_154_96 (by omega) (by omega) ?_ ?_
          · intro h4
            refine n_aload_n c_154_114 rfl (n_iload_n c_154_115 rfl (n_aload_n c_154_116 rfl (n_iload_n c_154_117 rfl (n_iload c_154_118 rfl (n_iload c_154_120 rfl (n_iload c_154_122 rfl (n_iload c_154_124 rfl (n_v7I c_154_126 rfl sc_112.n rfl rfl rfl rfl (imageXH3_3 (m := m) (f := f) (x := x8) (y := x9) (z0 := x10) hS hdm (by omega) (by omega) (by omega) (by omega) (by omega)) ?_))))))))
            intro z5 M6 hP7
            obtain ⟨eM, f7, f7p0⟩ := hP7
            subst eM
            refine n_istore (L2 := [some (2, 112), some (0, m), some (2, 127), some (0, f), some (0, 3), some (1, s), none, some (0, x7), some (0, x8), some (0, x9), some (0, x10), some (0, z5)]) c_154_129 rfl rfl (n_lload c_154_131 rfl (n_iload c_154_133 rfl (n_i_lshr c_154_135 rfl ?_)))
            have f8 := n_lshr_r s z5
            generalize gz9 : (n_lshr s z5) = z9 at f8 ⊢
            refine n_lconst (n := 1) c_154_136 rfl (n_i_land c_154_137 rfl ?_)
            have f10 := n_land_r z9 1
            generalize gz11 : (n_land z9 1) = z11 at f10 ⊢
            have hb137 : z11 = s / 2 ^ (z5).toNat % 2 := by rw [← gz11, ← gz9]; exact lb_v (by omega) (by omega)
            refine n_lconst (n := 0) c_154_138 rfl (n_lcmp c_154_139 ?_)
            refine n_lif_ne c_154_140 (by omega) (by omega) ?_ ?_
            · intro h12
              refine n_iinc (L2 := [some (2, 112), some (0, m), some (2, 127), some (0, f), some (0, 3), some (1, s), none, some (0, x7), some (0, x8), some (0, x9), some (0, (x10 + 1)), some (0, z5)]) c_154_146 rfl rfl rfl (n_goto c_154_149 (n_fg (le_s (le_s (le_s (le_s (le_s (le_s (le_n (le_s (le_s (le_s (le_s (le_n le_0)))))))))))) ?_))
              exact ih.2.2 _ _ _ _ (by omega) (by omega) (by omega) (by omega) (by exact v0) (by exact v1) (by exact v2) (by exact v3) (by exact v4) (by exact K3.step v5 (fun _ _ _ => by rw [← f7p0]; unfold bt; omega)) (by omega) (by omega)
            · intro h13
              refine n_iload c_154_143 rfl ?_
              exact n_rI c_154_145 rfl ⟨rfl, by omega, by exact Or.inr ⟨by omega, by unfold bt; omega, x8, x9, x10, ⟨by omega, by omega, v1⟩, fun q => ⟨by omega, ly_e v4 q, v3 q⟩, fun q => ⟨by omega, by omega, by unfold bt; omega⟩, f7p0⟩⟩
          · intro h14
            exfalso; omega
      · intro h15
        refine n_iload c_154_85 rfl (n_goto c_154_87 ?_)
        refine n_if2_ge c_154_91 (by omega) (by omega) ?_ ?_
        · intro h16
          refine n_iinc (L2 := [some (2, 112), some (0, m), some (2, 127), some (0, f), some (0, 3), some (1, s), none, some (0, x7), some (0, x8), some (0, (x9 + 1)), some (0, x10), none]) c_154_152 rfl rfl rfl (n_goto c_154_155 (n_fg (le_s (le_s (le_s (le_s (le_s (le_s (le_n (le_s (le_s (le_s (le_n (le_n le_0)))))))))))) ?_))
          exact ih.2.1 _ _ _ (by omega) (by omega) (by omega) (by exact v0) (by exact v1) (by exact K2.step v2 v5 (by show (if 2 < m then pw 3 3 else 1) ≤ x10; split <;> omega)) (by omega) (by omega)
        · intro h17
          refine n_iload_n c_154_94 rfl (n_iconst c_154_95 ?_)
          refine n_if2_le c_154_96 (by omega) (by omega) ?_ ?_
          · intro h18
            exfalso; omega
          · intro h19
            refine n_lload c_154_99 rfl (n_iload c_154_101 rfl (n_i_lshr c_154_103 rfl ?_))
            have f20 := n_lshr_r s x10
            generalize gz21 : (n_lshr s x10) = z21 at f20 ⊢
            refine n_lconst (n := 1) c_154_104 rfl (n_i_land c_154_105 rfl ?_)
            have f22 := n_land_r z21 1
            generalize gz23 : (n_land z21 1) = z23 at f22 ⊢
            have hb105 : z23 = s / 2 ^ (x10).toNat % 2 := by rw [← gz23, ← gz21]; exact lb_v (by omega) (by omega)
            refine n_lconst (n := 0) c_154_106 rfl (n_lcmp c_154_107 ?_)
            refine n_lif_ne c_154_108 (by omega) (by omega) ?_ ?_
            · intro h24
              refine n_aload_n c_154_114 rfl (n_iload_n c_154_115 rfl (n_aload_n c_154_116 rfl (n_iload_n c_154_117 rfl (n_iload c_154_118 rfl (n_iload c_154_120 rfl (n_iload c_154_122 rfl (n_iload c_154_124 rfl (n_v7I c_154_126 rfl sc_112.n rfl rfl rfl rfl (imageXH3_3 (m := m) (f := f) (x := x8) (y := x9) (z0 := x10) hS hdm (by omega) (by omega) (by omega) (by omega) (by omega)) ?_))))))))
              intro z25 M26 hP27
              obtain ⟨eM, f27, f27p0⟩ := hP27
              subst eM
              refine n_istore (L2 := [some (2, 112), some (0, m), some (2, 127), some (0, f), some (0, 3), some (1, s), none, some (0, x7), some (0, x8), some (0, x9), some (0, x10), some (0, z25)]) c_154_129 rfl rfl (n_lload c_154_131 rfl (n_iload c_154_133 rfl (n_i_lshr c_154_135 rfl ?_)))
              have f28 := n_lshr_r s z25
              generalize gz29 : (n_lshr s z25) = z29 at f28 ⊢
              refine n_lconst (n := 1) c_154_136 rfl (n_i_land c_154_137 rfl ?_)
              have f30 := n_land_r z29 1
              generalize gz31 : (n_land z29 1) = z31 at f30 ⊢
              have hb137 : z31 = s / 2 ^ (z25).toNat % 2 := by rw [← gz31, ← gz29]; exact lb_v (by omega) (by omega)
              refine n_lconst (n := 0) c_154_138 rfl (n_lcmp c_154_139 ?_)
              refine n_lif_ne c_154_140 (by omega) (by omega) ?_ ?_
              · intro h32
                refine n_iinc (L2 := [some (2, 112), some (0, m), some (2, 127), some (0, f), some (0, 3), some (1, s), none, some (0, x7), some (0, x8), some (0, x9), some (0, (x10 + 1)), some (0, z25)]) c_154_146 rfl rfl rfl (n_goto c_154_149 (n_fg (le_s (le_s (le_s (le_s (le_s (le_s (le_n (le_s (le_s (le_s (le_s (le_n le_0)))))))))))) ?_))
                exact ih.2.2 _ _ _ _ (by omega) (by omega) (by omega) (by omega) (by exact v0) (by exact v1) (by exact v2) (by exact v3) (by exact v4) (by exact K3.step v5 (fun _ _ _ => by rw [← f27p0]; unfold bt; omega)) (by omega) (by omega)
              · intro h33
                refine n_iload c_154_143 rfl ?_
                exact n_rI c_154_145 rfl ⟨rfl, by omega, by exact Or.inr ⟨by omega, by unfold bt; omega, x8, x9, x10, ⟨by omega, by omega, v1⟩, fun q => ⟨by omega, ly_e v4 q, v3 q⟩, fun q => ⟨by omega, by omega, by unfold bt; omega⟩, f27p0⟩⟩
            · intro h34
              refine n_goto c_154_111 (n_iinc (L2 := [some (2, 112), some (0, m), some (2, 127), some (0, f), some (0, 3), some (1, s), none, some (0, x7), some (0, x8), some (0, x9), some (0, (x10 + 1)), none]) c_154_146 rfl rfl rfl (n_goto c_154_149 (n_fg (le_s (le_s (le_s (le_s (le_s (le_s (le_n (le_s (le_s (le_s (le_s (le_n le_0)))))))))))) ?_)))
              exact ih.2.2 _ _ _ _ (by omega) (by omega) (by omega) (by omega) (by exact v0) (by exact v1) (by exact v2) (by exact v3) (by exact v4) (by exact K3.step v5 (fun _ _ q => absurd (q (by omega)) (by unfold bt; omega))) (by omega) (by omega)
set_option maxHeartbeats 4000000 in
theorem escapesXH3_3 {xs : List Int32} {e : Nat} {ac : Int} {M0 M : nM} {m f s : Int} (hS : Sf 3 ac M0 M) (hdm : M0 112 0 = 3) (hm : 1 ≤ m ∧ m ≤ 3) (hf : 0 ≤ f ∧ f ≤ 0) (hs : 0 ≤ s ∧ s ≤ 134217727) : nW xs (e + 2) 154 0 [some (2, 112), some (0, m), some (2, 127), some (0, f), some (0, 3), some (1, s), none, none, none, none, none, none] [] M (nPI fun z M1 => M = M1 ∧ (-1 ≤ z ∧ z ≤ 26) ∧ (ESC 3 m (fun i => M 127 (f + i)) 3 s z)) := by
  have hd : (3 : Int) = 2 ∨ (3 : Int) = 3 := by decide
  have hac := hS.2.2.2.2
  have hpw : pw 3 3 = 27 := by decide
  refine n_aload_n c_154_0 rfl (n_getV (bi := 0) c_154_1 sc_112.n rfl rfl rfl (t_dm hS hdm) ?_)
  intro z1 ez1 f2
  obtain rfl : z1 = 3 := by omega
  refine n_iload c_154_4 rfl (n_s2I c_154_6 rfl rfl rfl rfl (mpower3_3  hS ) ?_)
  intro z3 M4 hP5
  obtain ⟨eM, f5⟩ := hP5
  subst eM
  obtain rfl : z3 = 27 := by omega
  refine n_istore (L2 := [some (2, 112), some (0, m), some (2, 127), some (0, f), some (0, 3), some (1, s), none, some (0, 27), none, none, none, none]) c_154_9 rfl rfl (n_iconst c_154_11 (n_istore (L2 := [some (2, 112), some (0, m), some (2, 127), some (0, f), some (0, 3), some (1, s), none, some (0, 27), some (0, 0), none, none, none]) c_154_12 rfl rfl (n_fg (le_s (le_s (le_s (le_s (le_s (le_s (le_n (le_s (le_s (le_n (le_n (le_n le_0)))))))))))) ?_)))
  exact (escapesXH3_3_c hS hdm hm hf hs 50528).1 _ _ (by omega) (by omega) (by exact fun x y w h0 h1 => by omega) (by omega)

set_option maxHeartbeats 4000000 in
theorem escapesXH_3 {xs : List Int32} {e : Nat} {ac : Int} {M0 M : nM} {m f k s : Int} (hS : Sf 3 ac M0 M) (hdm : M0 112 0 = 3) (hm : 1 ≤ m ∧ m ≤ 3) (hf : 0 ≤ f ∧ f ≤ 0) (hk : 1 ≤ k ∧ k ≤ 3) (hs : 0 ≤ s ∧ s ≤ 134217727) : nW xs (e + 2) 154 0 [some (2, 112), some (0, m), some (2, 127), some (0, f), some (0, k), some (1, s), none, none, none, none, none, none] [] M (nPI fun z M1 => M = M1 ∧ (-1 ≤ z ∧ z ≤ 26) ∧ (ESC 3 m (fun i => M 127 (f + i)) k s z)) := by
  rcases (show k = 1 ∨ k = 2 ∨ k = 3 by omega) with rfl | rfl | rfl
  · exact n_post (escapesXH1_3 hS hdm (by omega) (by omega) (by omega)) (fun w M1 h => by obtain ⟨z, rfl, h1, h2, h3⟩ := h; exact ⟨z, rfl, h1, by omega, h3⟩)
  · exact n_post (escapesXH2_3 hS hdm (by omega) (by omega) (by omega)) (fun w M1 h => by obtain ⟨z, rfl, h1, h2, h3⟩ := h; exact ⟨z, rfl, h1, by omega, h3⟩)
  · exact n_post (escapesXH3_3 hS hdm (by omega) (by omega) (by omega)) (fun w M1 h => by obtain ⟨z, rfl, h1, h2, h3⟩ := h; exact ⟨z, rfl, h1, by omega, h3⟩)
