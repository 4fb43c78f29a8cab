/-! What the methods tell. -/
set_option maxHeartbeats 4000000 in
theorem canHaveX_3 {xs : List Int32} {e : Nat} {ac : Int} {M0 M : nM} {u t : Int} (hS : Sf 3 ac M0 M) (hu : 0 ≤ u ∧ u ≤ 7) (ht : 0 ≤ t ∧ t ≤ 2) (hD : Dok 3 8 (fun v => M 37 v)) : nW xs e 81 0 [some (2, 32), some (0, u), some (0, t)] [] M (nPI fun z M1 => M = M1 ∧ (0 ≤ z ∧ z ≤ 1) ∧ (z = bb (bt (M 37 u) t))) := by
  have hd : (3 : Int) = 2 ∨ (3 : Int) = 3 := by decide
  have hac := hS.2.2.2.2
  have har : 3 ≤ alld 3 ∧ alld 3 ≤ 7 := alld_r (by decide)
  refine n_aload_n c_81_0 rfl (n_getR c_81_1 sc_32.n rfl rfl rfl r_32_6 (n_iload_n c_81_4 rfl (n_ialoadV c_81_5 sc_37.n rfl rfl rfl (by omega) (t_37 hS (by omega)) ?_)))
  intro z1 ez1 f2
  have hu7 : 0 ≤ M 37 u ∧ M 37 u ≤ alld 3 := hD u (by omega) (by omega)
  refine n_iload_n c_81_6 rfl (n_i_ishr c_81_7 rfl ?_)
  have f3 := n_shr_r z1 t
  generalize gz4 : (n_shr z1 t) = z4 at f3 ⊢
  refine n_iconst c_81_8 (n_i_iand c_81_9 rfl ?_)
  have f5 := n_and_y (x := z4) (y := 1) (by omega)
  generalize gz6 : (n_and z4 1) = z6 at f5 ⊢
  have hb9 : z6 = z1 / 2 ^ (t).toNat % 2 := by rw [← gz6, ← gz4]; exact ib_v (by omega) (by omega)
  refine n_if0_eq c_81_10 (by omega) ?_ ?_
  · intro h7
    refine n_iconst c_81_17 ?_
    exact n_rZ c_81_18 rfl (by omega) ⟨rfl, by omega, by exact (bb_f (by unfold bt; subst_vars; omega)).symm⟩
  · intro h8
    refine n_iconst c_81_13 (n_goto c_81_14 ?_)
    exact n_rZ c_81_18 rfl (by omega) ⟨rfl, by omega, by exact (bb_t (by unfold bt; subst_vars; omega)).symm⟩

set_option maxHeartbeats 4000000 in
theorem isOpenX_3 {xs : List Int32} {e : Nat} {ac : Int} {M0 M : nM} {i a b c : Int} (hS : Sf 3 ac M0 M) (hi : 0 ≤ i ∧ i ≤ 29) (ha : 0 ≤ a ∧ a ≤ 2) (hb : 0 ≤ b ∧ b ≤ 2) (hc : 0 ≤ c ∧ c ≤ 2) (hD : Dok 3 8 (fun v => M 37 v)) : nW xs (e + 1) 80 0 [some (2, 32), some (0, i), some (0, a), some (0, b), some (0, c)] [] M (nPI fun z M1 => M = M1 ∧ (0 ≤ z ∧ z ≤ 1) ∧ (z = bb (Op (fun u => M 37 u) (M 34 i) (M 35 i) (M 36 i) a b c))) := by
  have hd : (3 : Int) = 2 ∨ (3 : Int) = 3 := by decide
  have hac := hS.2.2.2.2
  refine n_aload_n c_80_0 rfl (n_aload_n c_80_1 rfl (n_getR c_80_2 sc_32.n rfl rfl rfl r_32_3 (n_iload_n c_80_5 rfl (n_ialoadV c_80_6 sc_34.n rfl rfl rfl (by omega) (t_34 hS (by omega)) ?_))))
  intro z1 ez1 f2
  refine n_iload_n c_80_7 rfl (n_v2I c_80_8 rfl sc_32.n rfl rfl rfl rfl (canHaveX_3 (u := z1) (t := a) hS (by omega) (by omega) (by exact hD)) ?_)
  intro z3 M4 hP5
  obtain ⟨eM, f5, f5p0⟩ := hP5
  subst eM
  refine n_if0_eq c_80_11 (by omega) ?_ ?_
  · intro h6
    refine n_iconst c_80_43 ?_
    exact n_rZ c_80_44 rfl (by omega) ⟨rfl, by omega, by subst_vars; exact (bb_f (fun q => by obtain ⟨q1, q2, q3, q4, q5, q6⟩ := q; (try dsimp only at q1); (try dsimp only at q2); (try dsimp only at q3); first | omega | exact absurd q1 (bb_z (by omega)) | exact absurd q2 (bb_z (by omega)) | exact absurd q3 (bb_z (by omega)))).symm⟩
  · intro h7
    refine n_aload_n c_80_14 rfl (n_aload_n c_80_15 rfl (n_getR c_80_16 sc_32.n rfl rfl rfl r_32_4 (n_iload_n c_80_19 rfl (n_ialoadV c_80_20 sc_35.n rfl rfl rfl (by omega) (t_35 hS (by omega)) ?_))))
    intro z8 ez8 f9
    refine n_iload_n c_80_21 rfl (n_v2I c_80_22 rfl sc_32.n rfl rfl rfl rfl (canHaveX_3 (u := z8) (t := b) hS (by omega) (by omega) (by exact hD)) ?_)
    intro z10 M11 hP12
    obtain ⟨eM, f12, f12p0⟩ := hP12
    subst eM
    refine n_if0_eq c_80_25 (by omega) ?_ ?_
    · intro h13
      refine n_iconst c_80_43 ?_
      exact n_rZ c_80_44 rfl (by omega) ⟨rfl, by omega, by subst_vars; exact (bb_f (fun q => by obtain ⟨q1, q2, q3, q4, q5, q6⟩ := q; (try dsimp only at q1); (try dsimp only at q2); (try dsimp only at q3); first | omega | exact absurd q1 (bb_z (by omega)) | exact absurd q2 (bb_z (by omega)) | exact absurd q3 (bb_z (by omega)))).symm⟩
    · intro h14
      refine n_aload_n c_80_28 rfl (n_aload_n c_80_29 rfl (n_getR c_80_30 sc_32.n rfl rfl rfl r_32_5 (n_iload_n c_80_33 rfl (n_ialoadV c_80_34 sc_36.n rfl rfl rfl (by omega) (t_36 hS (by omega)) ?_))))
      intro z15 ez15 f16
      refine n_iload c_80_35 rfl (n_v2I c_80_37 rfl sc_32.n rfl rfl rfl rfl (canHaveX_3 (u := z15) (t := c) hS (by omega) (by omega) (by exact hD)) ?_)
      intro z17 M18 hP19
      obtain ⟨eM, f19, f19p0⟩ := hP19
      subst eM
      refine n_if0_ne c_80_40 (by omega) ?_ ?_
      · intro h20
        refine n_aload_n c_80_45 rfl (n_getR c_80_46 sc_32.n rfl rfl rfl r_32_3 (n_iload_n c_80_49 rfl (n_ialoadV c_80_50 sc_34.n rfl rfl rfl (by omega) (t_34 hS (by omega)) ?_)))
        intro z21 ez21 f22
        refine n_aload_n c_80_51 rfl (n_getR c_80_52 sc_32.n rfl rfl rfl r_32_4 (n_iload_n c_80_55 rfl (n_ialoadV c_80_56 sc_35.n rfl rfl rfl (by omega) (t_35 hS (by omega)) ?_)))
        intro z23 ez23 f24
        refine n_if2_ne c_80_57 (by omega) (by omega) ?_ ?_
        · intro h25
          refine n_aload_n c_80_65 rfl (n_getR c_80_66 sc_32.n rfl rfl rfl r_32_4 (n_iload_n c_80_69 rfl (n_ialoadV c_80_70 sc_35.n rfl rfl rfl (by omega) (t_35 hS (by omega)) ?_)))
          intro z26 ez26 f27
          refine n_aload_n c_80_71 rfl (n_getR c_80_72 sc_32.n rfl rfl rfl r_32_5 (n_iload_n c_80_75 rfl (n_ialoadV c_80_76 sc_36.n rfl rfl rfl (by omega) (t_36 hS (by omega)) ?_)))
          intro z28 ez28 f29
          refine n_if2_ne c_80_77 (by omega) (by omega) ?_ ?_
          · intro h30
            refine n_aload_n c_80_86 rfl (n_getR c_80_87 sc_32.n rfl rfl rfl r_32_3 (n_iload_n c_80_90 rfl (n_ialoadV c_80_91 sc_34.n rfl rfl rfl (by omega) (t_34 hS (by omega)) ?_)))
            intro z31 ez31 f32
            refine n_aload_n c_80_92 rfl (n_getR c_80_93 sc_32.n rfl rfl rfl r_32_5 (n_iload_n c_80_96 rfl (n_ialoadV c_80_97 sc_36.n rfl rfl rfl (by omega) (t_36 hS (by omega)) ?_)))
            intro z33 ez33 f34
            refine n_if2_ne c_80_98 (by omega) (by omega) ?_ ?_
            · intro h35
              refine n_iconst c_80_107 (n_goto c_80_108 ?_)
              exact n_rZ c_80_112 rfl (by omega) ⟨rfl, by omega, by subst_vars; exact (bb_t ⟨bb_n (by omega), bb_n (by omega), bb_n (by omega), fun _ => by omega, fun _ => by omega, fun _ => by omega⟩).symm⟩
            · intro h36
              refine n_iload_n c_80_101 rfl (n_iload c_80_102 rfl ?_)
              refine n_if2_ne c_80_104 (by omega) (by omega) ?_ ?_
              · intro h37
                refine n_iconst c_80_111 ?_
                exact n_rZ c_80_112 rfl (by omega) ⟨rfl, by omega, by subst_vars; exact (bb_f (fun q => by obtain ⟨q1, q2, q3, q4, q5, q6⟩ := q; (try dsimp only at q1); (try dsimp only at q2); (try dsimp only at q3); first | omega | exact absurd q1 (bb_z (by omega)) | exact absurd q2 (bb_z (by omega)) | exact absurd q3 (bb_z (by omega)))).symm⟩
              · intro h38
                refine n_iconst c_80_107 (n_goto c_80_108 ?_)
                exact n_rZ c_80_112 rfl (by omega) ⟨rfl, by omega, by subst_vars; exact (bb_t ⟨bb_n (by omega), bb_n (by omega), bb_n (by omega), fun _ => by omega, fun _ => by omega, fun _ => by omega⟩).symm⟩
          · intro h39
            refine n_iload_n c_80_80 rfl (n_iload c_80_81 rfl ?_)
            refine n_if2_ne c_80_83 (by omega) (by omega) ?_ ?_
            · intro h40
              refine n_iconst c_80_111 ?_
              exact n_rZ c_80_112 rfl (by omega) ⟨rfl, by omega, by subst_vars; exact (bb_f (fun q => by obtain ⟨q1, q2, q3, q4, q5, q6⟩ := q; (try dsimp only at q1); (try dsimp only at q2); (try dsimp only at q3); first | omega | exact absurd q1 (bb_z (by omega)) | exact absurd q2 (bb_z (by omega)) | exact absurd q3 (bb_z (by omega)))).symm⟩
            · intro h41
              refine n_aload_n c_80_86 rfl (n_getR c_80_87 sc_32.n rfl rfl rfl r_32_3 (n_iload_n c_80_90 rfl (n_ialoadV c_80_91 sc_34.n rfl rfl rfl (by omega) (t_34 hS (by omega)) ?_)))
              intro z42 ez42 f43
              refine n_aload_n c_80_92 rfl (n_getR c_80_93 sc_32.n rfl rfl rfl r_32_5 (n_iload_n c_80_96 rfl (n_ialoadV c_80_97 sc_36.n rfl rfl rfl (by omega) (t_36 hS (by omega)) ?_)))
              intro z44 ez44 f45
              refine n_if2_ne c_80_98 (by omega) (by omega) ?_ ?_
              · intro h46
                refine n_iconst c_80_107 (n_goto c_80_108 ?_)
                exact n_rZ c_80_112 rfl (by omega) ⟨rfl, by omega, by subst_vars; exact (bb_t ⟨bb_n (by omega), bb_n (by omega), bb_n (by omega), fun _ => by omega, fun _ => by omega, fun _ => by omega⟩).symm⟩
              · intro h47
                refine n_iload_n c_80_101 rfl (n_iload c_80_102 rfl ?_)
                refine n_if2_ne c_80_104 (by omega) (by omega) ?_ ?_
                · intro h48
                  refine n_iconst c_80_111 ?_
                  exact n_rZ c_80_112 rfl (by omega) ⟨rfl, by omega, by subst_vars; exact (bb_f (fun q => by obtain ⟨q1, q2, q3, q4, q5, q6⟩ := q; (try dsimp only at q1); (try dsimp only at q2); (try dsimp only at q3); first | omega | exact absurd q1 (bb_z (by omega)) | exact absurd q2 (bb_z (by omega)) | exact absurd q3 (bb_z (by omega)))).symm⟩
                · intro h49
                  refine n_iconst c_80_107 (n_goto c_80_108 ?_)
                  exact n_rZ c_80_112 rfl (by omega) ⟨rfl, by omega, by subst_vars; exact (bb_t ⟨bb_n (by omega), bb_n (by omega), bb_n (by omega), fun _ => by omega, fun _ => by omega, fun _ => by omega⟩).symm⟩
        · intro h50
          refine n_iload_n c_80_60 rfl (n_iload_n c_80_61 rfl ?_)
          refine n_if2_ne c_80_62 (by omega) (by omega) ?_ ?_
          · intro h51
            refine n_iconst c_80_111 ?_
            exact n_rZ c_80_112 rfl (by omega) ⟨rfl, by omega, by subst_vars; exact (bb_f (fun q => by obtain ⟨q1, q2, q3, q4, q5, q6⟩ := q; (try dsimp only at q1); (try dsimp only at q2); (try dsimp only at q3); first | omega | exact absurd q1 (bb_z (by omega)) | exact absurd q2 (bb_z (by omega)) | exact absurd q3 (bb_z (by omega)))).symm⟩
          · intro h52
            refine n_aload_n c_80_65 rfl (n_getR c_80_66 sc_32.n rfl rfl rfl r_32_4 (n_iload_n c_80_69 rfl (n_ialoadV c_80_70 sc_35.n rfl rfl rfl (by omega) (t_35 hS (by omega)) ?_)))
            intro z53 ez53 f54
            refine n_aload_n c_80_71 rfl (n_getR c_80_72 sc_32.n rfl rfl rfl r_32_5 (n_iload_n c_80_75 rfl (n_ialoadV c_80_76 sc_36.n rfl rfl rfl (by omega) (t_36 hS (by omega)) ?_)))
            intro z55 ez55 f56
            refine n_if2_ne c_80_77 (by omega) (by omega) ?_ ?_
            · intro h57
              refine n_aload_n c_80_86 rfl (n_getR c_80_87 sc_32.n rfl rfl rfl r_32_3 (n_iload_n c_80_90 rfl (n_ialoadV c_80_91 sc_34.n rfl rfl rfl (by omega) (t_34 hS (by omega)) ?_)))
              intro z58 ez58 f59
              refine n_aload_n c_80_92 rfl (n_getR c_80_93 sc_32.n rfl rfl rfl r_32_5 (n_iload_n c_80_96 rfl (n_ialoadV c_80_97 sc_36.n rfl rfl rfl (by omega) (t_36 hS (by omega)) ?_)))
              intro z60 ez60 f61
              refine n_if2_ne c_80_98 (by omega) (by omega) ?_ ?_
              · intro h62
                refine n_iconst c_80_107 (n_goto c_80_108 ?_)
                exact n_rZ c_80_112 rfl (by omega) ⟨rfl, by omega, by subst_vars; exact (bb_t ⟨bb_n (by omega), bb_n (by omega), bb_n (by omega), fun _ => by omega, fun _ => by omega, fun _ => by omega⟩).symm⟩
              · intro h63
                refine n_iload_n c_80_101 rfl (n_iload c_80_102 rfl ?_)
                refine n_if2_ne c_80_104 (by omega) (by omega) ?_ ?_
                · intro h64
                  refine n_iconst c_80_111 ?_
                  exact n_rZ c_80_112 rfl (by omega) ⟨rfl, by omega, by subst_vars; exact (bb_f (fun q => by obtain ⟨q1, q2, q3, q4, q5, q6⟩ := q; (try dsimp only at q1); (try dsimp only at q2); (try dsimp only at q3); first | omega | exact absurd q1 (bb_z (by omega)) | exact absurd q2 (bb_z (by omega)) | exact absurd q3 (bb_z (by omega)))).symm⟩
                · intro h65
                  refine n_iconst c_80_107 (n_goto c_80_108 ?_)
                  exact n_rZ c_80_112 rfl (by omega) ⟨rfl, by omega, by subst_vars; exact (bb_t ⟨bb_n (by omega), bb_n (by omega), bb_n (by omega), fun _ => by omega, fun _ => by omega, fun _ => by omega⟩).symm⟩
            · intro h66
              refine n_iload_n c_80_80 rfl (n_iload c_80_81 rfl ?_)
              refine n_if2_ne c_80_83 (by omega) (by omega) ?_ ?_
              · intro h67
                refine n_iconst c_80_111 ?_
                exact n_rZ c_80_112 rfl (by omega) ⟨rfl, by omega, by subst_vars; exact (bb_f (fun q => by obtain ⟨q1, q2, q3, q4, q5, q6⟩ := q; (try dsimp only at q1); (try dsimp only at q2); (try dsimp only at q3); first | omega | exact absurd q1 (bb_z (by omega)) | exact absurd q2 (bb_z (by omega)) | exact absurd q3 (bb_z (by omega)))).symm⟩
              · intro h68
                refine n_aload_n c_80_86 rfl (n_getR c_80_87 sc_32.n rfl rfl rfl r_32_3 (n_iload_n c_80_90 rfl (n_ialoadV c_80_91 sc_34.n rfl rfl rfl (by omega) (t_34 hS (by omega)) ?_)))
                intro z69 ez69 f70
                refine n_aload_n c_80_92 rfl (n_getR c_80_93 sc_32.n rfl rfl rfl r_32_5 (n_iload_n c_80_96 rfl (n_ialoadV c_80_97 sc_36.n rfl rfl rfl (by omega) (t_36 hS (by omega)) ?_)))
                intro z71 ez71 f72
                refine n_if2_ne c_80_98 (by omega) (by omega) ?_ ?_
                · intro h73
                  refine n_iconst c_80_107 (n_goto c_80_108 ?_)
                  exact n_rZ c_80_112 rfl (by omega) ⟨rfl, by omega, by subst_vars; exact (bb_t ⟨bb_n (by omega), bb_n (by omega), bb_n (by omega), fun _ => by omega, fun _ => by omega, fun _ => by omega⟩).symm⟩
                · intro h74
                  refine n_iload_n c_80_101 rfl (n_iload c_80_102 rfl ?_)
                  refine n_if2_ne c_80_104 (by omega) (by omega) ?_ ?_
                  · intro h75
                    refine n_iconst c_80_111 ?_
                    exact n_rZ c_80_112 rfl (by omega) ⟨rfl, by omega, by subst_vars; exact (bb_f (fun q => by obtain ⟨q1, q2, q3, q4, q5, q6⟩ := q; (try dsimp only at q1); (try dsimp only at q2); (try dsimp only at q3); first | omega | exact absurd q1 (bb_z (by omega)) | exact absurd q2 (bb_z (by omega)) | exact absurd q3 (bb_z (by omega)))).symm⟩
                  · intro h76
                    refine n_iconst c_80_107 (n_goto c_80_108 ?_)
                    exact n_rZ c_80_112 rfl (by omega) ⟨rfl, by omega, by subst_vars; exact (bb_t ⟨bb_n (by omega), bb_n (by omega), bb_n (by omega), fun _ => by omega, fun _ => by omega, fun _ => by omega⟩).symm⟩
      · intro h77
        refine n_iconst c_80_43 ?_
        exact n_rZ c_80_44 rfl (by omega) ⟨rfl, by omega, by subst_vars; exact (bb_f (fun q => by obtain ⟨q1, q2, q3, q4, q5, q6⟩ := q; (try dsimp only at q1); (try dsimp only at q2); (try dsimp only at q3); first | omega | exact absurd q1 (bb_z (by omega)) | exact absurd q2 (bb_z (by omega)) | exact absurd q3 (bb_z (by omega)))).symm⟩

set_option maxHeartbeats 4000000 in
theorem leaveX_3 {xs : List Int32} {e : Nat} {ac : Int} {M0 M : nM} {u t : Int} (hS : Sf 3 ac M0 M) (hu : 0 ≤ u ∧ u ≤ 7) (ht : 0 ≤ t ∧ t ≤ 7) : nW xs e 82 0 [some (2, 32), some (0, u), some (0, t), none] [] M (nPI fun z M1 => Sf 3 ac M0 M1 ∧ (0 ≤ z ∧ z ≤ 1) ∧ (LV 37 u t z M M1)) := by
  have hd : (3 : Int) = 2 ∨ (3 : Int) = 3 := by decide
  have hac := hS.2.2.2.2
  refine n_aload_n c_82_0 rfl (n_getR c_82_1 sc_32.n rfl rfl rfl r_32_6 (n_iload_n c_82_4 rfl (n_ialoadV c_82_5 sc_37.n rfl rfl rfl (by omega) (t_37 hS (by omega)) ?_)))
  intro z1 ez1 f2
  refine n_istore_n (L2 := [some (2, 32), some (0, u), some (0, t), some (0, z1)]) c_82_6 rfl rfl (n_aload_n c_82_7 rfl (n_getR c_82_8 sc_32.n rfl rfl rfl r_32_6 (n_iload_n c_82_11 rfl (n_iload_n c_82_12 rfl (n_iload_n c_82_13 rfl (n_i_iand c_82_14 rfl ?_))))))
  have f3 := n_and_y (x := z1) (y := t) (by omega)
  generalize gz4 : (n_and z1 t) = z4 at f3 ⊢
  refine n_iastoreV hS c_82_15 sc_37.n rfl (by omega) (w_37 (by omega) (by omega)) ?_
  intro M5 eM5 hS5
  refine n_aload_n c_82_16 rfl (n_getR c_82_17 sc_32.n rfl rfl rfl r_32_6 (n_iload_n c_82_20 rfl (n_ialoadV c_82_21 sc_37.n rfl rfl rfl (by omega) (t_37 hS5 (by omega)) ?_)))
  intro z6 ez6 f7
  refine n_iload_n c_82_22 rfl ?_
  refine n_if2_eq c_82_23 (by omega) (by omega) ?_ ?_
  · intro h8
    refine n_iconst c_82_30 ?_
    exact n_rZ c_82_31 rfl (by omega) ⟨hS5, by omega, by have g4 : n_and (M 37 u) t = z4 := (by rw [← ez1]; exact gz4); have y : z6 = z4 := (by rw [ez6, eM5, nu_s]); exact ⟨by rw [g4]; exact eM5, Or.inl ⟨rfl, by omega⟩⟩⟩
  · intro h9
    refine n_iconst c_82_26 (n_goto c_82_27 ?_)
    exact n_rZ c_82_31 rfl (by omega) ⟨hS5, by omega, by have g4 : n_and (M 37 u) t = z4 := (by rw [← ez1]; exact gz4); have y : z6 = z4 := (by rw [ez6, eM5, nu_s]); exact ⟨by rw [g4]; exact eM5, Or.inr ⟨rfl, by omega⟩⟩⟩

set_option maxHeartbeats 4000000 in
theorem narrowByX_3_c {xs : List Int32} {e : Nat} {ac : Int} {M0 M : nM} {w i : Int} {Ms : nM} (hS : Sf 3 ac M0 M) (hw : LawAt w) (hi : 0 ≤ i ∧ i ≤ 29) (hms : M = Ms) (hDs : Dok 3 8 (fun v => Ms 37 v)) (hL : LawOk 3 w Ms) (hx1 : 0 ≤ Ms 34 i ∧ Ms 34 i < Ms 32 0) (hx2 : 0 ≤ Ms 35 i ∧ Ms 35 i < Ms 32 0) (hx3 : 0 ≤ Ms 36 i ∧ Ms 36 i < Ms 32 0) : ∀ nn : Nat, (∀ (x4 x5 x6 x7 : Int) (M : nM), Sf 3 ac M0 M → (0 ≤ x4 ∧ x4 ≤ 7) → (0 ≤ x5 ∧ x5 ≤ 7) → (0 ≤ x6 ∧ x6 ≤ 7) → (0 ≤ x7 ∧ x7 ≤ 27) → (M = Ms) → (BN 3 (fun v => Ms 37 v) (Ms 34 i) (Ms 35 i) (Ms 36 i) (fun j => Ms (w + 1) j) (wA 3) x4 x7) → (BN 3 (fun v => Ms 37 v) (Ms 34 i) (Ms 35 i) (Ms 36 i) (fun j => Ms (w + 1) j) (wB 3) x5 x7) → (BN 3 (fun v => Ms 37 v) (Ms 34 i) (Ms 35 i) (Ms 36 i) (fun j => Ms (w + 1) j) (wC 3) x6 x7) → (x7 ≤ Ms w 3) → (27 - x7) * 1 + 1 < (nn : Int) → nW xs (e + 2) 79 12 [some (2, 32), some (0, i), some (2, w), some (2, 4), some (0, x4), some (0, x5), some (0, x6), some (0, x7), none, none, none] [] M (nPI fun z M1 => Sf 3 ac M0 M1 ∧ (0 ≤ z ∧ z ≤ 1) ∧ (NB 3 (Ms 32 0) (Ms 34 i) (Ms 35 i) (Ms 36 i) (Ms w 2) z Ms M1))) := by
  have hd : (3 : Int) = 2 ∨ (3 : Int) = 3 := by decide
  have hac := hS.2.2.2.2
  have har : 3 ≤ alld 3 ∧ alld 3 ≤ 7 := alld_r (by decide)
  have hU := t_32_0 (hms ▸ hS : Sf 3 ac M0 Ms)
  have hwb : w = 50 ∨ (79 ≤ w ∧ w ≤ 101) := by unfold LawAt at hw; omega
  have hr : ∀ j : Int, 0 ≤ j → j < Ms w 3 → Ms (w + 1) j < 27 := fun j h0 h1 => by obtain ⟨_, _, _, _, u⟩ := LRn.row (by decide) hL.1 hL.2 h0 h1; exact u
  intro nn
  induction nn with
  | zero => intros; omega
  | succ nn ih =>
    intro x4 x5 x6 x7 M hS k4 k5 k6 k7 v0 v1 v2 v3 v4 hnn
    refine n_iload c_79_12 rfl (n_aload_n c_79_14 rfl (n_getV (bi := 3) c_79_15 hw.c0.1.n rfl rfl rfl (t_law hS hw).2.2.2 ?_))
    intro z1 ez1 f2
    refine n_if2_ge c_79_18 (by omega) (by omega) ?_ ?_
    · intro h3
      refine n_aload_n c_79_110 rfl (n_aload_n c_79_111 rfl (n_getR c_79_112 sc_32.n rfl rfl rfl r_32_3 (n_iload_n c_79_115 rfl (n_ialoadV c_79_116 sc_34.n rfl rfl rfl (by omega) (t_34 hS (by omega)) ?_))))
      intro z4 ez4 f5
      refine n_iload c_79_117 rfl (n_v2I c_79_119 rfl sc_32.n rfl rfl rfl rfl (leaveX_3 (u := z4) (t := x4) hS (by omega) (by omega)) ?_)
      intro z6 M7 hP8
      obtain ⟨hS7, f8, f8p0⟩ := hP8
      have k1 : z4 = Ms 34 i := by rw [ez4, v0]
      rw [k1, v0] at f8p0
      refine n_istore (L2 := [some (2, 32), some (0, i), some (2, w), some (2, 4), some (0, x4), some (0, x5), some (0, x6), some (0, z6), none, none, none]) c_79_122 rfl rfl (n_iload c_79_124 rfl (n_aload_n c_79_126 rfl (n_aload_n c_79_127 rfl (n_getR c_79_128 sc_32.n rfl rfl rfl r_32_4 (n_iload_n c_79_131 rfl (n_ialoadV c_79_132 sc_35.n rfl rfl rfl (by omega) (t_35 hS7 (by omega)) ?_))))))
      intro z9 ez9 f10
      refine n_iload c_79_133 rfl (n_v2I c_79_135 rfl sc_32.n rfl rfl rfl rfl (leaveX_3 (u := z9) (t := x5) hS7 (by omega) (by omega)) ?_)
      intro z11 M12 hP13
      obtain ⟨hS12, f13, f13p0⟩ := hP13
      have k2 : z9 = Ms 35 i := by rw [ez9, f8p0.1, nu_a (by omega)]
      rw [k2] at f13p0
      refine n_i_ior c_79_138 rfl ?_
      have f14 := n_or_1 (x := z6) (y := z11) (by omega) (by omega)
      generalize gz15 : (n_or z6 z11) = z15 at f14 ⊢
      refine n_istore (L2 := [some (2, 32), some (0, i), some (2, w), some (2, 4), some (0, x4), some (0, x5), some (0, x6), some (0, z15), none, none, none]) c_79_139 rfl rfl (n_iload c_79_141 rfl (n_aload_n c_79_143 rfl (n_aload_n c_79_144 rfl (n_getR c_79_145 sc_32.n rfl rfl rfl r_32_5 (n_iload_n c_79_148 rfl (n_ialoadV c_79_149 sc_36.n rfl rfl rfl (by omega) (t_36 hS12 (by omega)) ?_))))))
      intro z16 ez16 f17
      refine n_iload c_79_150 rfl (n_v2I c_79_152 rfl sc_32.n rfl rfl rfl rfl (leaveX_3 (u := z16) (t := x6) hS12 (by omega) (by omega)) ?_)
      intro z18 M19 hP20
      obtain ⟨hS19, f20, f20p0⟩ := hP20
      have k3 : z16 = Ms 36 i := by rw [ez16, f13p0.1, nu_a (by omega), f8p0.1, nu_a (by omega)]
      rw [k3] at f20p0
      refine n_i_ior c_79_155 rfl ?_
      have f21 := n_or_1 (x := z15) (y := z18) (by omega) (by omega)
      generalize gz22 : (n_or z15 z18) = z22 at f21 ⊢
      refine n_istore (L2 := [some (2, 32), some (0, i), some (2, w), some (2, 4), some (0, x4), some (0, x5), some (0, x6), some (0, z22), none, none, none]) c_79_156 rfl rfl (n_iload c_79_158 rfl ?_)
      exact n_rZ c_79_160 rfl (by omega) ⟨hS19, by omega, by have c7 : x7 = Ms w 3 := (by rw [v0] at *; omega); rw [c7] at v1 v2 v3; rw [← gz22, ← gz15]; exact NB.mk (by decide) hL.1 hL.2 (by omega) hDs hx1 hx2 hx3 (by omega) (by omega) (by omega) v1 v2 v3 f8p0 f13p0 f20p0 (by omega) (by omega) (by omega)⟩
    · intro h23
      refine n_aload_n c_79_21 rfl (n_getR c_79_22 sc_4.n rfl rfl rfl r_4_2 (n_aload_n c_79_25 rfl (n_getR c_79_26 hw.c0.1.n rfl rfl rfl hw.r (n_iload c_79_29 rfl (n_ialoadV c_79_31 hw.c0.2.n rfl rfl rfl (by omega) (t_lawr hS hw (by omega)) ?_)))))
      intro z24 ez24 f25
      have w31 := hr x7 (by omega) (by rw [← v0]; omega)
      have y31 : z24 = Ms (w + 1) x7 := by rw [ez24, v0]
      refine n_ialoadV c_79_32 sc_5.n rfl rfl rfl (by omega) (t_5d hS hd (by omega) (by omega)) ?_
      intro z26 ez26 f27
      have t32 := t_5e hS (i := z24) (by omega) (by omega)
      have u32 : z26 = wA 3 (Ms (w + 1) x7) := by unfold wA; rw [ez26, t32, y31]
      refine n_istore (L2 := [some (2, 32), some (0, i), some (2, w), some (2, 4), some (0, x4), some (0, x5), some (0, x6), some (0, x7), some (0, z26), none, none]) c_79_33 rfl rfl (n_aload_n c_79_35 rfl (n_getR c_79_36 sc_4.n rfl rfl rfl r_4_3 (n_aload_n c_79_39 rfl (n_getR c_79_40 hw.c0.1.n rfl rfl rfl hw.r (n_iload c_79_43 rfl (n_ialoadV c_79_45 hw.c0.2.n rfl rfl rfl (by omega) (t_lawr hS hw (by omega)) ?_))))))
      intro z28 ez28 f29
      have w45 := hr x7 (by omega) (by rw [← v0]; omega)
      have y45 : z28 = Ms (w + 1) x7 := by rw [ez28, v0]
      refine n_ialoadV c_79_46 sc_6.n rfl rfl rfl (by omega) (t_6d hS hd (by omega) (by omega)) ?_
      intro z30 ez30 f31
      have t46 := t_6e hS (i := z28) (by omega) (by omega)
      have u46 : z30 = wB 3 (Ms (w + 1) x7) := by unfold wB; rw [ez30, t46, y45]
      refine n_istore (L2 := [some (2, 32), some (0, i), some (2, w), some (2, 4), some (0, x4), some (0, x5), some (0, x6), some (0, x7), some (0, z26), some (0, z30), none]) c_79_47 rfl rfl (n_aload_n c_79_49 rfl (n_getR c_79_50 sc_4.n rfl rfl rfl r_4_4 (n_aload_n c_79_53 rfl (n_getR c_79_54 hw.c0.1.n rfl rfl rfl hw.r (n_iload c_79_57 rfl (n_ialoadV c_79_59 hw.c0.2.n rfl rfl rfl (by omega) (t_lawr hS hw (by omega)) ?_))))))
      intro z32 ez32 f33
      have w59 := hr x7 (by omega) (by rw [← v0]; omega)
      have y59 : z32 = Ms (w + 1) x7 := by rw [ez32, v0]
      refine n_ialoadV c_79_60 sc_7.n rfl rfl rfl (by omega) (t_7d hS hd (by omega) (by omega)) ?_
      intro z34 ez34 f35
      have t60 := t_7e hS (i := z32) (by omega) (by omega)
      have u60 : z34 = wC 3 (Ms (w + 1) x7) := by unfold wC; rw [ez34, t60, y59]
      refine n_istore (L2 := [some (2, 32), some (0, i), some (2, w), some (2, 4), some (0, x4), some (0, x5), some (0, x6), some (0, x7), some (0, z26), some (0, z30), some (0, z34)]) c_79_61 rfl rfl (n_aload_n c_79_63 rfl (n_iload_n c_79_64 rfl (n_iload c_79_65 rfl (n_iload c_79_67 rfl (n_iload c_79_69 rfl ?_)))))
      refine n_v4I c_79_71 rfl sc_32.n rfl rfl rfl rfl (isOpenX_3 (i := i) (a := z26) (b := z30) (c := z34) hS (by omega) (by omega) (by omega) (by omega) (by rw [v0]; exact hDs)) ?_
      intro z36 M37 hP38
      obtain ⟨eM, f38, f38p0⟩ := hP38
      subst eM
      have vo : z36 = bb (OpW 3 (fun v => Ms 37 v) (Ms 34 i) (Ms 35 i) (Ms 36 i) (Ms (w + 1) x7)) := by rw [f38p0, u32, u46, u60, v0]; rfl
      refine n_if0_eq c_79_74 (by omega) ?_ ?_
      · intro h39
        refine n_iinc (L2 := [some (2, 32), some (0, i), some (2, w), some (2, 4), some (0, x4), some (0, x5), some (0, x6), some (0, (x7 + 1)), some (0, z26), some (0, z30), some (0, z34)]) c_79_104 rfl rfl rfl (n_goto c_79_107 (n_fg (le_s (le_s (le_s (le_s (le_s (le_s (le_s (le_s (le_n (le_n (le_n le_0))))))))))) ?_))
        exact ih _ _ _ _ M hS (by omega) (by omega) (by omega) (by omega) (by exact v0) (by exact BN.skip v1 (bb_z (by rw [← vo]; omega))) (by exact BN.skip v2 (bb_z (by rw [← vo]; omega))) (by exact BN.skip v3 (bb_z (by rw [← vo]; omega))) (by rw [v0] at *; omega) (by omega)
      · intro h40
        refine n_iload c_79_77 rfl (n_iconst c_79_79 (n_iload c_79_80 rfl (n_i_ishl c_79_82 rfl ?_)))
        have f41 := n_shl_1 (y := z26) (a := 0) (b := 2) (by decide) (by omega)
        generalize gz42 : (n_shl 1 z26) = z42 at f41 ⊢
        refine n_i_ior c_79_83 rfl ?_
        have f43 := n_or_k (x := x4) (y := z42) (n := 3) (by decide) (by omega) (by omega)
        generalize gz44 : (n_or x4 z42) = z44 at f43 ⊢
        refine n_istore (L2 := [some (2, 32), some (0, i), some (2, w), some (2, 4), some (0, z44), some (0, x5), some (0, x6), some (0, x7), some (0, z26), some (0, z30), some (0, z34)]) c_79_84 rfl rfl (n_iload c_79_86 rfl (n_iconst c_79_88 (n_iload c_79_89 rfl (n_i_ishl c_79_91 rfl ?_))))
        have f45 := n_shl_1 (y := z30) (a := 0) (b := 2) (by decide) (by omega)
        generalize gz46 : (n_shl 1 z30) = z46 at f45 ⊢
        refine n_i_ior c_79_92 rfl ?_
        have f47 := n_or_k (x := x5) (y := z46) (n := 3) (by decide) (by omega) (by omega)
        generalize gz48 : (n_or x5 z46) = z48 at f47 ⊢
        refine n_istore (L2 := [some (2, 32), some (0, i), some (2, w), some (2, 4), some (0, z44), some (0, z48), some (0, x6), some (0, x7), some (0, z26), some (0, z30), some (0, z34)]) c_79_93 rfl rfl (n_iload c_79_95 rfl (n_iconst c_79_97 (n_iload c_79_98 rfl (n_i_ishl c_79_100 rfl ?_))))
        have f49 := n_shl_1 (y := z34) (a := 0) (b := 2) (by decide) (by omega)
        generalize gz50 : (n_shl 1 z34) = z50 at f49 ⊢
        refine n_i_ior c_79_101 rfl ?_
        have f51 := n_or_k (x := x6) (y := z50) (n := 3) (by decide) (by omega) (by omega)
        generalize gz52 : (n_or x6 z50) = z52 at f51 ⊢
        refine n_istore (L2 := [some (2, 32), some (0, i), some (2, w), some (2, 4), some (0, z44), some (0, z48), some (0, z52), some (0, x7), some (0, z26), some (0, z30), some (0, z34)]) c_79_102 rfl rfl (n_iinc (L2 := [some (2, 32), some (0, i), some (2, w), some (2, 4), some (0, z44), some (0, z48), some (0, z52), some (0, (x7 + 1)), some (0, z26), some (0, z30), some (0, z34)]) c_79_104 rfl rfl rfl (n_goto c_79_107 (n_fg (le_s (le_s (le_s (le_s (le_s (le_s (le_s (le_s (le_n (le_n (le_n le_0))))))))))) ?_)))
        exact ih _ _ _ _ M hS (by omega) (by omega) (by omega) (by omega) (by exact v0) (by rw [← gz44, ← gz42]; exact BN.add v1 (by omega) (by omega) (by omega) (by show wA 3 (Ms (w + 1) x7) = _; omega) (bb_n (by rw [← vo]; omega))) (by rw [← gz48, ← gz46]; exact BN.add v2 (by omega) (by omega) (by omega) (by show wB 3 (Ms (w + 1) x7) = _; omega) (bb_n (by rw [← vo]; omega))) (by rw [← gz52, ← gz50]; exact BN.add v3 (by omega) (by omega) (by omega) (by show wC 3 (Ms (w + 1) x7) = _; omega) (bb_n (by rw [← vo]; omega))) (by rw [v0] at *; omega) (by omega)
set_option maxHeartbeats 4000000 in
theorem narrowByX_3 {xs : List Int32} {e : Nat} {ac : Int} {M0 M : nM} {w i : Int} {Ms : nM} (hS : Sf 3 ac M0 M) (hw : LawAt w) (hi : 0 ≤ i ∧ i ≤ 29) (hms : M = Ms) (hDs : Dok 3 8 (fun v => Ms 37 v)) (hL : LawOk 3 w Ms) (hx1 : 0 ≤ Ms 34 i ∧ Ms 34 i < Ms 32 0) (hx2 : 0 ≤ Ms 35 i ∧ Ms 35 i < Ms 32 0) (hx3 : 0 ≤ Ms 36 i ∧ Ms 36 i < Ms 32 0) : nW xs (e + 2) 79 0 [some (2, 32), some (0, i), some (2, w), some (2, 4), none, none, none, none, none, none, none] [] M (nPI fun z M1 => Sf 3 ac M0 M1 ∧ (0 ≤ z ∧ z ≤ 1) ∧ (NB 3 (Ms 32 0) (Ms 34 i) (Ms 35 i) (Ms 36 i) (Ms w 2) z Ms M1)) := by
  have hd : (3 : Int) = 2 ∨ (3 : Int) = 3 := by decide
  have hac := hS.2.2.2.2
  have har : 3 ≤ alld 3 ∧ alld 3 ≤ 7 := alld_r (by decide)
  have hU := t_32_0 (hms ▸ hS : Sf 3 ac M0 Ms)
  have hwb : w = 50 ∨ (79 ≤ w ∧ w ≤ 101) := by unfold LawAt at hw; omega
  have hr : ∀ j : Int, 0 ≤ j → j < Ms w 3 → Ms (w + 1) j < 27 := fun j h0 h1 => by obtain ⟨_, _, _, _, u⟩ := LRn.row (by decide) hL.1 hL.2 h0 h1; exact u
  refine n_iconst c_79_0 (n_istore (L2 := [some (2, 32), some (0, i), some (2, w), some (2, 4), some (0, 0), none, none, none, none, none, none]) c_79_1 rfl rfl (n_iconst c_79_3 (n_istore (L2 := [some (2, 32), some (0, i), some (2, w), some (2, 4), some (0, 0), some (0, 0), none, none, none, none, none]) c_79_4 rfl rfl (n_iconst c_79_6 (n_istore (L2 := [some (2, 32), some (0, i), some (2, w), some (2, 4), some (0, 0), some (0, 0), some (0, 0), none, none, none, none]) c_79_7 rfl rfl (n_iconst c_79_9 (n_istore (L2 := [some (2, 32), some (0, i), some (2, w), some (2, 4), some (0, 0), some (0, 0), some (0, 0), some (0, 0), none, none, none]) c_79_10 rfl rfl (n_fg (le_s (le_s (le_s (le_s (le_s (le_s (le_s (le_s (le_n (le_n (le_n le_0))))))))))) ?_))))))))
  exact (narrowByX_3_c hS hw hi hms hDs hL hx1 hx2 hx3 68) _ _ _ _ M hS (by omega) (by omega) (by omega) (by omega) (by exact hms) (by exact BN.init) (by exact BN.init) (by exact BN.init) (by have tl := t_law hS hw; rw [← hms]; omega) (by omega)

set_option maxHeartbeats 4000000 in
theorem fillX37_3_c {xs : List Int32} {e : Nat} {ac : Int} {M0 M : nM} {Ms : nM} (hS : Sf 3 ac M0 M) (hf : ∀ a i : Int, a ≠ 37 → M a i = Ms a i) : ∀ nn : Nat, (∀ (x2 x3 : Int) (M : nM), Sf 3 ac M0 M → (0 ≤ x2 ∧ x2 ≤ 8) → (8 ≤ x3 ∧ x3 ≤ 8) → (∀ a i : Int, a ≠ 37 → M a i = Ms a i) → (∀ i : Int, 0 ≤ i → i < x2 → M 37 i = 7) → (8 - x2) * 1 + 1 < (nn : Int) → nW xs e 208 5 [some (2, 37), some (0, 7), some (0, x2), some (0, x3)] [] M (nPV fun M1 => Sf 3 ac M0 M1 ∧ (∀ a i : Int, a ≠ 37 → M1 a i = Ms a i) ∧ (∀ i : Int, 0 ≤ i → i < 8 → M1 37 i = 7))) := by
  have hd : (3 : Int) = 2 ∨ (3 : Int) = 3 := by decide
  have hac := hS.2.2.2.2
  intro nn
  induction nn with
  | zero => intros; omega
  | succ nn ih =>
    intro x2 x3 M hS k2 k3 v0 v1 hnn
    refine n_iload_n c_208_5 rfl (n_iload_n c_208_6 rfl ?_)
    refine n_if2_ge c_208_7 (by omega) (by omega) ?_ ?_
    · intro h1
      exact n_rV c_208_20 rfl ⟨hS, by assumption, by exact fun i h0 h1 => v1 i h0 (by omega)⟩
    · intro h2
      refine n_aload_n c_208_10 rfl (n_iload_n c_208_11 rfl (n_iload_n c_208_12 rfl (n_iastoreV hS c_208_13 sc_37.n rfl (by omega) (w_37 (by omega) (by omega)) ?_)))
      intro M3 eM3 hS3
      refine n_iinc (L2 := [some (2, 37), some (0, 7), some (0, (x2 + 1)), some (0, x3)]) c_208_14 rfl rfl rfl (n_goto c_208_17 (n_fg (le_s (le_s (le_s (le_s le_0)))) ?_))
      exact ih _ _ M3 hS3 (by omega) (by omega) (by exact fun a i ha => by rw [eM3, nu_a ha]; exact v0 a i ha) (by exact fun i h0 h1 => by rw [eM3, nu_e]; split <;> first | exact v1 i h0 (by omega) | rfl) (by omega)
set_option maxHeartbeats 4000000 in
theorem fillX37_3 {xs : List Int32} {e : Nat} {ac : Int} {M0 M : nM} {Ms : nM} (hS : Sf 3 ac M0 M) (hf : ∀ a i : Int, a ≠ 37 → M a i = Ms a i) : nW xs e 208 0 [some (2, 37), some (0, 7), none, none] [] M (nPV fun M1 => Sf 3 ac M0 M1 ∧ (∀ a i : Int, a ≠ 37 → M1 a i = Ms a i) ∧ (∀ i : Int, 0 ≤ i → i < 8 → M1 37 i = 7)) := by
  have hd : (3 : Int) = 2 ∨ (3 : Int) = 3 := by decide
  have hac := hS.2.2.2.2
  refine n_iconst c_208_0 (n_istore_n (L2 := [some (2, 37), some (0, 7), some (0, 0), none]) c_208_1 rfl rfl (n_aload_n c_208_2 rfl (n_alen c_208_3 sc_37.n rfl (n_istore_n (L2 := [some (2, 37), some (0, 7), some (0, 0), some (0, ((8 : Nat) : Int))]) c_208_4 rfl rfl (n_fg (le_s (le_s (le_s (le_s le_0)))) ?_)))))
  exact (fillX37_3_c hS hf 30) _ _ M hS (by omega) (by omega) (by exact hf) (by exact fun i h0 h1 => by omega) (by omega)

set_option maxHeartbeats 4000000 in
theorem narrowX_3_c {xs : List Int32} {e : Nat} {ac : Int} {M0 M : nM} {Ms : nM} (hS : Sf 3 ac M0 M) (hms : M = Ms) (hxl : ∀ l : Int, 0 ≤ l → l < Ms 3 15 → LawOk 3 (79 + 2 * l) Ms) (hak : ∀ i : Int, 0 ≤ i → i < Ms 32 1 → (0 ≤ Ms 33 i ∧ Ms 33 i < Ms 3 15) ∧ (0 ≤ Ms 34 i ∧ Ms 34 i < Ms 32 0) ∧ (0 ≤ Ms 35 i ∧ Ms 35 i < Ms 32 0) ∧ (0 ≤ Ms 36 i ∧ Ms 36 i < Ms 32 0)) : ∀ nn : Nat, (∀ (x3 x4 : Int) (M : nM), Sf 3 ac M0 M → (0 ≤ x3 ∧ x3 ≤ 1) → (0 ≤ x4 ∧ x4 ≤ 25) → (NI 3 Ms M) → (x3 = 0 → NCs 3 Ms (fun v => M 37 v) (Ms 32 1)) → (x3 = 1 → pcs 37 M ≤ 24 - x4) → (25 - x4) * 33 + 33 < (nn : Int) → nW xs (e + 3) 78 16 [some (2, 32), some (2, 13), some (2, 4), some (0, x3), some (0, x4), none] [] M (nPV fun M1 => Sf 3 ac M0 M1 ∧ (GND 3 Ms (fun v => M1 37 v)) ∧ (∀ a i : Int, a ≠ 37 → M1 a i = Ms a i))) ∧ (∀ (x3 x4 x5 : Int) (M : nM), Sf 3 ac M0 M → (0 ≤ x3 ∧ x3 ≤ 1) → (0 ≤ x4 ∧ x4 ≤ 24) → (0 ≤ x5 ∧ x5 ≤ 30) → (NI 3 Ms M) → (x3 = 0 → NCs 3 Ms (fun v => M 37 v) x5) → (pcs 37 M ≤ 24 - x4) → (x3 = 1 → pcs 37 M ≤ 24 - x4 - 1) → (x5 ≤ Ms 32 1) → (25 - x4) * 33 + (30 - x5) * 1 + 1 < (nn : Int) → nW xs (e + 3) 78 32 [some (2, 32), some (2, 13), some (2, 4), some (0, x3), some (0, x4), some (0, x5)] [] M (nPV fun M1 => Sf 3 ac M0 M1 ∧ (GND 3 Ms (fun v => M1 37 v)) ∧ (∀ a i : Int, a ≠ 37 → M1 a i = Ms a i))) := by
  have hd : (3 : Int) = 2 ∨ (3 : Int) = 3 := by decide
  have hac := hS.2.2.2.2
  have hU := t_32_0 (hms ▸ hS : Sf 3 ac M0 Ms)
  have hQ := t_32_1 (hms ▸ hS : Sf 3 ac M0 Ms)
  intro nn
  induction nn with
  | zero => refine ⟨?_, ?_⟩ <;> (intros; omega)
  | succ nn ih =>
    refine ⟨?_, ?_⟩
    · intro x3 x4 M hS k3 k4 v0 v1 v2 hnn
      refine n_iload c_78_16 rfl (n_bipush c_78_18 rfl ?_)
      refine n_if2_ge c_78_20 (by omega) (by omega) ?_ ?_
      · intro h1
        exact n_rV c_78_72 rfl ⟨hS, by have x0 : x3 = 0 := (by by_cases u : x3 = 0; exact u; have := v2 (by omega); have := pcs_24 (by decide) v0.2.1; omega); exact NI.gnd (by omega) v0 (v1 x0), by exact v0.1⟩
      · intro h2
        refine n_iload_n c_78_23 rfl ?_
        refine n_if0_eq c_78_24 (by omega) ?_ ?_
        · intro h3
          exact n_rV c_78_72 rfl ⟨hS, by have x0 : x3 = 0 := (by by_cases u : x3 = 0; exact u; have := v2 (by omega); have := pcs_24 (by decide) v0.2.1; omega); exact NI.gnd (by omega) v0 (v1 x0), by exact v0.1⟩
        · intro h4
          refine n_iconst c_78_27 (n_istore_n (L2 := [some (2, 32), some (2, 13), some (2, 4), some (0, 0), some (0, x4), none]) c_78_28 rfl rfl (n_iconst c_78_29 (n_istore (L2 := [some (2, 32), some (2, 13), some (2, 4), some (0, 0), some (0, x4), some (0, 0)]) c_78_30 rfl rfl (n_fg (le_s (le_s (le_s (le_s (le_s (le_s le_0)))))) ?_))))
          exact ih.2 _ _ _ M hS (by omega) (by omega) (by omega) (by exact v0) (by exact fun _ i i0 i1 => by omega) (by exact v2 (by omega)) (by exact fun u => by omega) (by omega) (by omega)
    · intro x3 x4 x5 M hS k3 k4 k5 v0 v1 v2 v3 v4 hnn
      have q321 := v0.1 32 1 (by omega)
      refine n_iload c_78_32 rfl (n_aload_n c_78_34 rfl (n_getV (bi := 1) c_78_35 sc_32.n rfl rfl rfl (t_32_1 hS) ?_))
      intro z1 ez1 f2
      refine n_if2_ge c_78_38 (by omega) (by omega) ?_ ?_
      · intro h3
        refine n_iinc (L2 := [some (2, 32), some (2, 13), some (2, 4), some (0, x3), some (0, (x4 + 1)), some (0, x5)]) c_78_66 rfl rfl rfl (n_goto c_78_69 (n_fg (le_s (le_s (le_s (le_s (le_s (le_n le_0)))))) ?_))
        exact ih.1 _ _ M hS (by omega) (by omega) (by exact v0) (by exact fun u => by have q := v0.1 32 1 (by omega); have e5 : x5 = Ms 32 1 := (by omega); rw [← e5]; exact v1 u) (by exact fun u => by have := v3 u; omega) (by omega)
      · intro h4
        refine n_iload_n c_78_41 rfl (n_aload_n c_78_42 rfl (n_iload c_78_43 rfl (n_aload_n c_78_45 rfl (n_aload_n c_78_46 rfl (n_getR c_78_47 sc_32.n rfl rfl rfl r_32_2 (n_iload c_78_50 rfl (n_ialoadV c_78_52 sc_33.n rfl rfl rfl (by omega) (t_33 hS (by omega)) ?_)))))))
        intro z5 ez5 f6
        refine n_aaload c_78_53 sc_13.n rfl rfl rfl (by omega) (r_laws _) ?_
        have q7 : LawAt (79 + 2 * z5) := by unfold LawAt; omega
        refine n_aload_n c_78_54 rfl ?_
        refine n_v3I c_78_55 rfl sc_32.n rfl rfl rfl rfl (narrowByX_3 (i := x5) (w := (79 + 2 * z5)) (Ms := M) hS q7 (by omega) (by rfl) (by exact v0.2.1) (by have q5 := hak x5 (by omega) (by omega); have q33 := v0.1 33 x5 (by omega); rw [ez5, q33]; exact (hxl (Ms 33 x5) q5.1.1 q5.1.2).of (fun a i u1 u2 => v0.1 a i (by omega))) (by have q5 := hak x5 (by omega) (by omega); rw [v0.1 34 x5 (by omega), v0.1 32 0 (by omega)]; exact q5.2.1) (by have q5 := hak x5 (by omega) (by omega); rw [v0.1 35 x5 (by omega), v0.1 32 0 (by omega)]; exact q5.2.2.1) (by have q5 := hak x5 (by omega) (by omega); rw [v0.1 36 x5 (by omega), v0.1 32 0 (by omega)]; exact q5.2.2.2)) ?_
        intro z8 M9 hP10
        obtain ⟨hS9, f10, f10p0⟩ := hP10
        obtain ⟨ni2, nz2, nc2, np2⟩ := NI.step (q := x5) v0 (by omega) (by have q := f10p0; rw [ez5] at q; exact q) (by have q33 := v0.1 33 x5 (by omega); omega)
        refine n_i_ior c_78_58 rfl ?_
        have f11 := n_or_1 (x := x3) (y := z8) (by omega) (by omega)
        generalize gz12 : (n_or x3 z8) = z12 at f11 ⊢
        refine n_istore_n (L2 := [some (2, 32), some (2, 13), some (2, 4), some (0, z12), some (0, x4), some (0, x5)]) c_78_59 rfl rfl (n_iinc (L2 := [some (2, 32), some (2, 13), some (2, 4), some (0, z12), some (0, x4), some (0, (x5 + 1))]) c_78_60 rfl rfl rfl (n_goto c_78_63 (n_fg (le_s (le_s (le_s (le_s (le_s (le_s le_0)))))) ?_)))
        exact ih.2 _ _ _ M9 hS9 (by omega) (by omega) (by omega) (by exact ni2) (by exact fun u => by have o := or01 (x := x3) (y := z8) (by omega) (by omega); obtain ⟨m1, m2⟩ := nz2 (by omega); rw [m1]; exact NCs.step (v1 (by omega)) m2) (by omega) (by exact fun u => by have o := or01 (x := x3) (y := z8) (by omega) (by omega); have := nc2; have := v3; omega) (by omega) (by omega)
set_option maxHeartbeats 4000000 in
theorem narrowX_3 {xs : List Int32} {e : Nat} {ac : Int} {M0 M : nM} {Ms : nM} (hS : Sf 3 ac M0 M) (hms : M = Ms) (hxl : ∀ l : Int, 0 ≤ l → l < Ms 3 15 → LawOk 3 (79 + 2 * l) Ms) (hak : ∀ i : Int, 0 ≤ i → i < Ms 32 1 → (0 ≤ Ms 33 i ∧ Ms 33 i < Ms 3 15) ∧ (0 ≤ Ms 34 i ∧ Ms 34 i < Ms 32 0) ∧ (0 ≤ Ms 35 i ∧ Ms 35 i < Ms 32 0) ∧ (0 ≤ Ms 36 i ∧ Ms 36 i < Ms 32 0)) : nW xs (e + 3) 78 0 [some (2, 32), some (2, 13), some (2, 4), none, none, none] [] M (nPV fun M1 => Sf 3 ac M0 M1 ∧ (GND 3 Ms (fun v => M1 37 v)) ∧ (∀ a i : Int, a ≠ 37 → M1 a i = Ms a i)) := by
  have hd : (3 : Int) = 2 ∨ (3 : Int) = 3 := by decide
  have hac := hS.2.2.2.2
  have hU := t_32_0 (hms ▸ hS : Sf 3 ac M0 Ms)
  have hQ := t_32_1 (hms ▸ hS : Sf 3 ac M0 Ms)
  refine n_aload_n c_78_0 rfl (n_getR c_78_1 sc_32.n rfl rfl rfl r_32_6 (n_aload_n c_78_4 rfl (n_v0I c_78_5 rfl sc_4.n rfl rfl rfl rfl (allThings_3  hS ) ?_)))
  intro z1 M2 hP3
  obtain ⟨eM, f3⟩ := hP3
  subst eM
  obtain rfl : z1 = 7 := by omega
  refine n_s2V c_78_8 rfl rfl rfl rfl (fillX37_3 (Ms := M) hS (by exact fun _ _ _ => rfl)) ?_
  intro  M4 hP5
  obtain ⟨hS4, f5p0, f5p1⟩ := hP5
  refine n_iconst c_78_11 (n_istore_n (L2 := [some (2, 32), some (2, 13), some (2, 4), some (0, 1), none, none]) c_78_12 rfl rfl (n_iconst c_78_13 (n_istore (L2 := [some (2, 32), some (2, 13), some (2, 4), some (0, 1), some (0, 0), none]) c_78_14 rfl rfl (n_fg (le_s (le_s (le_s (le_s (le_s (le_n le_0)))))) ?_))))
  exact (narrowX_3_c hS hms hxl hak 1792).1 _ _ M4 hS4 (by omega) (by omega) (by exact NI.init (by decide) (by omega) (fun a i ha => by rw [f5p0 a i ha, hms]) (fun u u0 u1 => f5p1 u u0 u1)) (by exact fun u => by omega) (by exact fun _ => by have q := pcs_24 (d := 3) (M := M4) (by decide) (NI.init (Ms := Ms) (by decide) (by omega) (fun a i ha => by rw [f5p0 a i ha, hms]) (fun u u0 u1 => f5p1 u u0 u1)).2.1; omega) (by omega)

set_option maxHeartbeats 4000000 in
theorem narrowedX_3 {xs : List Int32} {e : Nat} {ac : Int} {M0 M : nM} {u : Int} {Ms : nM} (hS : Sf 3 ac M0 M) (hu : -2147483648 ≤ u ∧ u ≤ 2147483647) (hms : M = Ms) (hxl : ∀ l : Int, 0 ≤ l → l < Ms 3 15 → LawOk 3 (79 + 2 * l) Ms) (hak : ∀ i : Int, 0 ≤ i → i < Ms 32 1 → (0 ≤ Ms 33 i ∧ Ms 33 i < Ms 3 15) ∧ (0 ≤ Ms 34 i ∧ Ms 34 i < Ms 32 0) ∧ (0 ≤ Ms 35 i ∧ Ms 35 i < Ms 32 0) ∧ (0 ≤ Ms 36 i ∧ Ms 36 i < Ms 32 0)) : nW xs (e + 4) 117 0 [some (2, 3), some (0, u)] [] M (nPI fun z M1 => Sf 3 ac M0 M1 ∧ (-2147483648 ≤ z ∧ z ≤ 2147483647) ∧ (cNa 3 u z Ms)) := by
  have hd : (3 : Int) = 2 ∨ (3 : Int) = 3 := by decide
  have hac := hS.2.2.2.2
  refine n_aload_n c_117_0 rfl (n_getR c_117_1 sc_3.n rfl rfl rfl r_3_6 (n_iload_n c_117_4 rfl (n_v1I c_117_5 rfl sc_32.n rfl rfl rfl rfl (isUnknownF_3 (u := u) hS (by omega)) ?_)))
  intro z1 M2 hP3
  obtain ⟨eM, f3, f3p0⟩ := hP3
  subst eM
  refine n_if0_ne c_117_8 (by omega) ?_ ?_
  · intro h4
    refine n_aload_n c_117_13 rfl (n_getR c_117_14 sc_3.n rfl rfl rfl r_3_6 (n_aload_n c_117_17 rfl (n_getR c_117_18 sc_3.n rfl rfl rfl r_3_3 (n_aload_n c_117_21 rfl (n_getR c_117_22 sc_3.n rfl rfl rfl r_3_0 ?_)))))
    refine n_v2V c_117_25 rfl sc_32.n rfl rfl rfl rfl (narrowX_3 (Ms := M) hS (by rfl) (by rw [hms]; exact hxl) (by rw [hms]; exact hak)) ?_
    intro  M5 hP6
    obtain ⟨hS5, f6p0, f6p1⟩ := hP6
    refine n_aload_n c_117_28 rfl (n_getR c_117_29 sc_3.n rfl rfl rfl r_3_6 (n_getR c_117_32 sc_32.n rfl rfl rfl r_32_6 (n_iload_n c_117_35 rfl (n_ialoadV c_117_36 sc_37.n rfl rfl rfl (by omega) (t_37 hS5 (by omega)) ?_))))
    intro z7 ez7 f8
    exact n_rI c_117_37 rfl ⟨hS5, by omega, by have q := f6p0; rw [hms] at q; exact Or.inr ⟨by omega, by rw [← hms]; omega, _, q, by show _ = M5 37 u; omega⟩⟩
  · intro h9
    refine n_iconst c_117_11 ?_
    exact n_rI c_117_12 rfl ⟨hS, by omega, by exact Or.inl ⟨by rw [← hms]; omega, rfl⟩⟩

set_option maxHeartbeats 4000000 in
theorem mdigitX_3 {xs : List Int32} {e : Nat} {ac : Int} {M0 M : nM} {r k j : Int} (hS : Sf 3 ac M0 M) (hdm : M0 112 0 = 3) (hr : 0 ≤ r ∧ r ≤ 26) (hk : 1 ≤ k ∧ k ≤ 3) (hj : 0 ≤ j ∧ j ≤ 2) (hkj : j < k) : nW xs (e + 1) 152 0 [some (2, 112), some (0, r), some (0, k), some (0, j)] [] M (nPI fun z M1 => M = M1 ∧ (0 ≤ z ∧ z ≤ 2) ∧ (z = dgt 3 k r j)) := by
  have hd : (3 : Int) = 2 ∨ (3 : Int) = 3 := by decide
  have hac := hS.2.2.2.2
  refine n_iload_n c_152_0 rfl (n_aload_n c_152_1 rfl (n_getV (bi := 0) c_152_2 sc_112.n rfl rfl rfl (t_dm hS hdm) ?_))
  intro z1 ez1 f2
  obtain rfl : z1 = 3 := by omega
  refine n_iload_n c_152_5 rfl (n_iconst c_152_6 (n_isub c_152_7 rfl (n_iload_n c_152_8 rfl (n_isub c_152_9 rfl (n_s2I c_152_10 rfl rfl rfl rfl (mpowF_3 (n := ((k - 1) - j)) hS (by omega)) ?_)))))
  intro z3 M4 hP5
  obtain ⟨eM, f5, f5p0⟩ := hP5
  subst eM
  refine n_idivV c_152_13 (by omega) (by omega) ?_
  intro z6 ez6 f7
  refine n_aload_n c_152_14 rfl (n_getV (bi := 0) c_152_15 sc_112.n rfl rfl rfl (t_dm hS hdm) ?_)
  intro z8 ez8 f9
  obtain rfl : z8 = 3 := by omega
  refine n_iremV c_152_18 (by omega) (by omega) ?_
  intro z10 ez10 f11
  exact n_rI c_152_19 rfl ⟨rfl, by omega, by have q := f5p0; unfold dgt; rw [← q]; subst_vars; rfl⟩

set_option maxHeartbeats 4000000 in
theorem mfitsX_3_c {xs : List Int32} {e : Nat} {ac : Int} {M0 M : nM} {q r : Int} (hS : Sf 3 ac M0 M) (hdm : M0 112 0 = 3) (hq : 0 ≤ q ∧ q ≤ 29) (hr : 0 ≤ r ∧ r ≤ 26) (hq2 : q < M 112 11) (hk1 : 1 ≤ (M 118 (M 120 q))) : ∀ nn : Nat, (∀ (x3 x4 : Int), (1 ≤ x3 ∧ x3 ≤ 3) → (0 ≤ x4 ∧ x4 ≤ 3) → (x3 = (M 118 (M 120 q))) → (FT 3 (fun v => M 129 v) (fun j => M 121 (3 * q + j)) (M 118 (M 120 q)) r x4) → (x4 ≤ x3) → (3 - x4) * 5 + 5 < (nn : Int) → nW xs (e + 2) 190 15 [some (2, 112), some (0, q), some (0, r), some (0, x3), some (0, x4), none, none, none] [] M (nPI fun z M1 => M = M1 ∧ (0 ≤ z ∧ z ≤ 1) ∧ (z = bb (FT 3 (fun v => M 129 v) (fun j => M 121 (3 * q + j)) (M 118 (M 120 q)) r (M 118 (M 120 q)))))) ∧ (∀ (x3 x4 x5 x6 x7 : Int), (1 ≤ x3 ∧ x3 ≤ 3) → (0 ≤ x4 ∧ x4 ≤ 2) → (0 ≤ x5 ∧ x5 ≤ 7) → (0 ≤ x6 ∧ x6 ≤ 2) → (0 ≤ x7 ∧ x7 ≤ 2) → (x3 = (M 118 (M 120 q))) → (FT 3 (fun v => M 129 v) (fun j => M 121 (3 * q + j)) (M 118 (M 120 q)) r x4) → (x4 < x3) → (bt (M 129 (M 121 (3 * q + x4))) (dgt 3 (M 118 (M 120 q)) r x4)) → (∀ i : Int, 0 ≤ i → i < x7 → M 121 (3 * q + i) = M 121 (3 * q + x4) → dgt 3 (M 118 (M 120 q)) r i = dgt 3 (M 118 (M 120 q)) r x4) → (x6 = dgt 3 (M 118 (M 120 q)) r x4) → (x5 = M 121 (3 * q + x4)) → (x7 ≤ x4) → (3 - x4) * 5 + (2 - x7) * 1 + 1 < (nn : Int) → nW xs (e + 2) 190 64 [some (2, 112), some (0, q), some (0, r), some (0, x3), some (0, x4), some (0, x5), some (0, x6), some (0, x7)] [] M (nPI fun z M1 => M = M1 ∧ (0 ≤ z ∧ z ≤ 1) ∧ (z = bb (FT 3 (fun v => M 129 v) (fun j => M 121 (3 * q + j)) (M 118 (M 120 q)) r (M 118 (M 120 q)))))) := by
  have hd : (3 : Int) = 2 ∨ (3 : Int) = 3 := by decide
  have hac := hS.2.2.2.2
  intro nn
  induction nn with
  | zero => refine ⟨?_, ?_⟩ <;> (intros; omega)
  | succ nn ih =>
    refine ⟨?_, ?_⟩
    · intro x3 x4 k3 k4 v0 v1 v2 hnn
      refine n_iload c_190_15 rfl (n_iload_n c_190_17 rfl ?_)
      refine n_if2_ge c_190_18 (by omega) (by omega) ?_ ?_
      · intro h1
        refine n_iconst c_190_114 ?_
        exact n_rZ c_190_115 rfl (by omega) ⟨rfl, by omega, by exact (bb_t (fun j j0 j1 => v1 j j0 (by omega))).symm⟩
      · intro h2
        refine n_aload_n c_190_21 rfl (n_getR c_190_22 sc_112.n rfl rfl rfl r_112_13 (n_iconst c_190_25 (n_iload_n c_190_26 rfl (n_imul c_190_27 rfl (n_iload c_190_28 rfl (n_iadd c_190_30 rfl (n_ialoadV c_190_31 sc_121.n rfl rfl rfl (by omega) (t_121 hS (by omega)) ?_)))))))
        intro z3 ez3 f4
        have tk := t_ask (q := q) (j := x4) hS (by omega) (by omega) (by omega) (by omega)
        have tu := t_112_10 hS
        refine n_istore (L2 := [some (2, 112), some (0, q), some (0, r), some (0, x3), some (0, x4), some (0, z3), none, none]) c_190_32 rfl rfl (n_aload_n c_190_34 rfl (n_iload_n c_190_35 rfl (n_iload_n c_190_36 rfl (n_iload c_190_37 rfl (n_v3I c_190_39 rfl sc_112.n rfl rfl rfl rfl (mdigitX_3 (r := r) (k := x3) (j := x4) hS hdm (by omega) (by omega) (by omega) (by omega)) ?_)))))
        intro z5 M6 hP7
        obtain ⟨eM, f7, f7p0⟩ := hP7
        subst eM
        refine n_istore (L2 := [some (2, 112), some (0, q), some (0, r), some (0, x3), some (0, x4), some (0, z3), some (0, z5), none]) c_190_42 rfl rfl (n_aload_n c_190_44 rfl (n_getR c_190_45 sc_112.n rfl rfl rfl r_112_24 (n_iload c_190_48 rfl (n_ialoadV c_190_50 sc_129.n rfl rfl rfl (by omega) (t_129 hS (by omega)) ?_))))
        intro z8 ez8 f9
        refine n_iload c_190_51 rfl (n_i_ishr c_190_53 rfl ?_)
        have f10 := n_shr_r z8 z5
        generalize gz11 : (n_shr z8 z5) = z11 at f10 ⊢
        refine n_iconst c_190_54 (n_i_iand c_190_55 rfl ?_)
        have f12 := n_and_y (x := z11) (y := 1) (by omega)
        generalize gz13 : (n_and z11 1) = z13 at f12 ⊢
        have hb55 : z13 = z8 / 2 ^ (z5).toNat % 2 := by rw [← gz13, ← gz11]; exact ib_v (by omega) (by omega)
        refine n_if0_ne c_190_56 (by omega) ?_ ?_
        · intro h14
          refine n_iconst c_190_61 (n_istore (L2 := [some (2, 112), some (0, q), some (0, r), some (0, x3), some (0, x4), some (0, z3), some (0, z5), some (0, 0)]) c_190_62 rfl rfl (n_fg (le_s (le_s (le_s (le_s (le_s (le_s (le_s (le_s le_0)))))))) ?_))
          exact ih.2 _ _ _ _ _ (by omega) (by omega) (by omega) (by omega) (by omega) (by exact v0) (by exact v1) (by omega) (by have eb : bt (M 129 (M 121 (3 * q + x4))) (dgt 3 (M 118 (M 120 q)) r x4) ↔ z13 = 1 := (by have y := f7p0; rw [v0] at y; rw [← y]; unfold bt; subst_vars; omega); exact eb.mpr (by omega)) (by exact fun i i0 i1 => by omega) (by have y := f7p0; rw [v0] at y; omega) (by omega) (by omega) (by omega)
        · intro h15
          refine n_iconst c_190_59 ?_
          exact n_rZ c_190_60 rfl (by omega) ⟨rfl, by omega, by have eb : bt (M 129 (M 121 (3 * q + x4))) (dgt 3 (M 118 (M 120 q)) r x4) ↔ z13 = 1 := (by have y := f7p0; rw [v0] at y; rw [← y]; unfold bt; subst_vars; omega); exact (bb_f (fun y => by have y1 := (y x4 (by omega) (by omega)).1; have y2 := eb.mp y1; omega)).symm⟩
    · intro x3 x4 x5 x6 x7 k3 k4 k5 k6 k7 v0 v1 v2 v3 v4 v5 v6 v7 hnn
      refine n_iload c_190_64 rfl (n_iload c_190_66 rfl ?_)
      refine n_if2_ge c_190_68 (by omega) (by omega) ?_ ?_
      · intro h1
        refine n_iinc (L2 := [some (2, 112), some (0, q), some (0, r), some (0, x3), some (0, (x4 + 1)), some (0, x5), some (0, x6), some (0, x7)]) c_190_108 rfl rfl rfl (n_goto c_190_111 (n_fg (le_s (le_s (le_s (le_s (le_s (le_n (le_n (le_n le_0)))))))) ?_))
        exact ih.1 _ _ (by omega) (by omega) (by exact v0) (by exact fun j j0 j1 => by by_cases y : j = x4; (rw [y]; exact ⟨v3, fun i i0 i1 e => v4 i i0 (by omega) e⟩); exact v1 j j0 (by omega)) (by omega) (by omega)
      · intro h2
        refine n_aload_n c_190_71 rfl (n_getR c_190_72 sc_112.n rfl rfl rfl r_112_13 (n_iconst c_190_75 (n_iload_n c_190_76 rfl (n_imul c_190_77 rfl (n_iload c_190_78 rfl (n_iadd c_190_80 rfl (n_ialoadV c_190_81 sc_121.n rfl rfl rfl (by omega) (t_121 hS (by omega)) ?_)))))))
        intro z3 ez3 f4
        refine n_iload c_190_82 rfl ?_
        refine n_if2_ne c_190_84 (by omega) (by omega) ?_ ?_
        · intro h5
          refine n_iinc (L2 := [some (2, 112), some (0, q), some (0, r), some (0, x3), some (0, x4), some (0, x5), some (0, x6), some (0, (x7 + 1))]) c_190_102 rfl rfl rfl (n_goto c_190_105 (n_fg (le_s (le_s (le_s (le_s (le_s (le_s (le_s (le_s le_0)))))))) ?_))
          exact ih.2 _ _ _ _ _ (by omega) (by omega) (by omega) (by omega) (by omega) (by exact v0) (by exact v1) (by omega) (by exact v3) (by exact fun i i0 i1 e => by by_cases y : i = x7; (rw [y] at e; exfalso; omega); exact v4 i i0 (by omega) e) (by exact v5) (by exact v6) (by omega) (by omega)
        · intro h6
          refine n_aload_n c_190_87 rfl (n_iload_n c_190_88 rfl (n_iload_n c_190_89 rfl (n_iload c_190_90 rfl (n_v3I c_190_92 rfl sc_112.n rfl rfl rfl rfl (mdigitX_3 (r := r) (k := x3) (j := x7) hS hdm (by omega) (by omega) (by omega) (by omega)) ?_))))
          intro z7 M8 hP9
          obtain ⟨eM, f9, f9p0⟩ := hP9
          subst eM
          refine n_iload c_190_95 rfl ?_
          refine n_if2_eq c_190_97 (by omega) (by omega) ?_ ?_
          · intro h10
            refine n_iinc (L2 := [some (2, 112), some (0, q), some (0, r), some (0, x3), some (0, x4), some (0, x5), some (0, x6), some (0, (x7 + 1))]) c_190_102 rfl rfl rfl (n_goto c_190_105 (n_fg (le_s (le_s (le_s (le_s (le_s (le_s (le_s (le_s le_0)))))))) ?_))
            exact ih.2 _ _ _ _ _ (by omega) (by omega) (by omega) (by omega) (by omega) (by exact v0) (by exact v1) (by omega) (by exact v3) (by exact fun i i0 i1 e => by by_cases y : i = x7; (have y1 := f9p0; rw [v0] at y1; rw [y, ← y1, ← v5]; omega); exact v4 i i0 (by omega) e) (by exact v5) (by exact v6) (by omega) (by omega)
          · intro h11
            refine n_iconst c_190_100 ?_
            exact n_rZ c_190_101 rfl (by omega) ⟨rfl, by omega, by exact (bb_f (fun y => by have y1 : dgt 3 (M 118 (M 120 q)) r x7 = dgt 3 (M 118 (M 120 q)) r x4 := (y x4 (by omega) (by omega)).2 x7 (by omega) (by omega) (by show M 121 (3 * q + x7) = M 121 (3 * q + x4); omega); have y2 := f9p0; rw [v0] at y2; omega)).symm⟩
set_option maxHeartbeats 4000000 in
theorem mfitsX_3 {xs : List Int32} {e : Nat} {ac : Int} {M0 M : nM} {q r : Int} (hS : Sf 3 ac M0 M) (hdm : M0 112 0 = 3) (hq : 0 ≤ q ∧ q ≤ 29) (hr : 0 ≤ r ∧ r ≤ 26) (hq2 : q < M 112 11) (hk1 : 1 ≤ (M 118 (M 120 q))) : nW xs (e + 2) 190 0 [some (2, 112), some (0, q), some (0, r), none, none, none, none, none] [] M (nPI fun z M1 => M = M1 ∧ (0 ≤ z ∧ z ≤ 1) ∧ (z = bb (FT 3 (fun v => M 129 v) (fun j => M 121 (3 * q + j)) (M 118 (M 120 q)) r (M 118 (M 120 q))))) := by
  have hd : (3 : Int) = 2 ∨ (3 : Int) = 3 := by decide
  have hac := hS.2.2.2.2
  refine n_aload_n c_190_0 rfl (n_getR c_190_1 sc_112.n rfl rfl rfl r_112_8 (n_aload_n c_190_4 rfl (n_getR c_190_5 sc_112.n rfl rfl rfl r_112_12 (n_iload_n c_190_8 rfl (n_ialoadV c_190_9 sc_120.n rfl rfl rfl (by omega) (t_120 hS (by omega)) ?_)))))
  intro z1 ez1 f2
  refine n_ialoadV c_190_10 sc_118.n rfl rfl rfl (by omega) (t_118 hS (by omega)) ?_
  intro z3 ez3 f4
  have tk0 := t_118 hS (i := M 120 q) (by omega)
  have k0 : z3 = M 118 (M 120 q) := by subst_vars; rfl
  refine n_istore_n (L2 := [some (2, 112), some (0, q), some (0, r), some (0, z3), none, none, none, none]) c_190_11 rfl rfl (n_iconst c_190_12 (n_istore (L2 := [some (2, 112), some (0, q), some (0, r), some (0, z3), some (0, 0), none, none, none]) c_190_13 rfl rfl (n_fg (le_s (le_s (le_s (le_s (le_s (le_n (le_n (le_n le_0)))))))) ?_)))
  exact (mfitsX_3_c hS hdm hq hr hq2 hk1 60).1 _ _ (by omega) (by omega) (by subst_vars; rfl) (by exact fun j j0 j1 => by omega) (by omega) (by omega)
