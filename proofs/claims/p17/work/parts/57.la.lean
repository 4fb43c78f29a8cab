/-! The law's own instructions; methods by cases. -/
section
variable {xs : List Int32} {d j k : Nat} {L : nL} {st : List nX} {M : nM} {Q : Option nX → nM → Prop} {nx a b c : Nat}
theorem n_pop {x : Int} (hc : mj_code j k = some (.pop, nx, a, b, c)) (h : nW xs d j nx L st M Q) : nW xs d j k L ((0, x) :: st) M Q := n_gs hc (fun _ _ _ _ => rfl) h
theorem n_pop2 {x : Int} (hc : mj_code j k = some (.pop2, nx, a, b, c)) (h : nW xs d j nx L st M Q) : nW xs d j k L ((1, x) :: st) M Q := n_gs hc (fun _ _ _ _ => rfl) h
end
set_option maxHeartbeats 4000000 in
theorem actA_2 {xs : List Int32} {e : Nat} {ac : Int} {M : nM} {k s gd : Int} (hS : Sf 2 ac M M) (hk : -2147483648 ≤ k ∧ k ≤ 2147483647) (hs : -2147483648 ≤ s ∧ s ≤ 2147483647) (hgd : M 112 0 = gd) : nW xs (e + 2) 97 0 [some (2, 3), some (0, k), some (0, s), none, none, none] [] M (nPI fun z M1 => (∃ ac2, Sf 2 ac2 M1 M1) ∧ (-2147483648 ≤ z ∧ z ≤ 2147483647) ∧ (M1 112 0 = gd)) := by
  rcases (show (-2147483648 ≤ k ∧ k ≤ 0) ∨ k = 1 ∨ k = 2 ∨ k = 3 ∨ (4 ≤ k ∧ k ≤ 2147483647) by omega) with hx | rfl | rfl | rfl | hx
  · exact n_post (actL_2 hS (by omega) (by omega)) (fun w M1 h => by obtain ⟨z, rfl, rfl, h2⟩ := h; exact ⟨z, rfl, ⟨_, hS⟩, by omega, hgd⟩)
  · exact act1_2 hS (by omega) hgd
  · exact act2_2 hS (by omega) hgd
  · exact act3_2 hS (by omega) hgd
  · exact n_post (actH_2 hS (by omega) (by omega)) (fun w M1 h => by obtain ⟨z, rfl, rfl, h2⟩ := h; exact ⟨z, rfl, ⟨_, hS⟩, by omega, hgd⟩)

set_option maxHeartbeats 4000000 in
theorem mlawA_2 {xs : List Int32} {e : Nat} {ac : Int} {M : nM} {k s gd : Int} (hS : Sf 2 ac M M) (hdm : M 112 0 = 2) (hk : -2147483648 ≤ k ∧ k ≤ 2147483647) (hs : -2147483648 ≤ s ∧ s ≤ 2147483647) (hgd : M 112 0 = gd) : nW xs (e + 1) 149 0 [some (2, 112), some (0, k), some (0, s), none, none, none, none, none, none, none, none, none] [] M (nPI fun z M1 => Sf 2 ac M1 M1 ∧ (-2147483648 ≤ z ∧ z ≤ 2147483647) ∧ (M1 112 0 = gd)) := by
  rcases (show (-2147483648 ≤ k ∧ k ≤ 0) ∨ k = 1 ∨ k = 2 ∨ k = 3 ∨ (4 ≤ k ∧ k ≤ 2147483647) by omega) with hx | rfl | rfl | rfl | hx
  · exact n_post (mlawL_2 hS hdm (by omega) (by omega)) (fun w M1 h => by obtain ⟨z, rfl, rfl, h2⟩ := h; exact ⟨z, rfl, hS, by omega, hgd⟩)
  · exact mlaw1_2 hS hdm (by omega) hgd
  · exact mlaw2_2 hS hdm (by omega) hgd
  · exact mlaw3_2 hS hdm (by omega) hgd
  · exact n_post (mlawH_2 hS hdm (by omega) (by omega)) (fun w M1 h => by obtain ⟨z, rfl, rfl, h2⟩ := h; exact ⟨z, rfl, hS, by omega, hgd⟩)

set_option maxHeartbeats 4000000 in
theorem isSlotF_2 {xs : List Int32} {e : Nat} {ac : Int} {M0 M : nM} {s : Int} (hS : Sf 2 ac M0 M) (hs : -2147483648 ≤ s ∧ s ≤ 2147483647) : nW xs e 84 0 [some (2, 8), some (0, s)] [] M (nPI fun z M1 => M = M1 ∧ (0 ≤ z ∧ z ≤ 1) ∧ ((z = 1 ∧ 0 ≤ s ∧ s ≤ 7) ∨ (z = 0 ∧ (s < 0 ∨ 7 < s)))) := by
  have hd : (2 : Int) = 2 ∨ (2 : Int) = 3 := by decide
  have hac := hS.2.2.2.2
  refine n_iload_n c_84_0 rfl ?_
  refine n_if0_lt c_84_1 (by omega) ?_ ?_
  · intro h1
    refine n_iconst c_84_14 ?_
    exact n_rZ c_84_15 rfl (by omega) ⟨rfl, by omega, by omega⟩
  · intro h2
    refine n_iload_n c_84_4 rfl ?_
    refine n_bipush c_84_5 rfl ?_
    refine n_if2_ge c_84_7 (by omega) (by omega) ?_ ?_
    · intro h3
      refine n_iconst c_84_14 ?_
      exact n_rZ c_84_15 rfl (by omega) ⟨rfl, by omega, by omega⟩
    · intro h4
      refine n_iconst c_84_10 ?_
      refine n_goto c_84_11 ?_
      exact n_rZ c_84_15 rfl (by omega) ⟨rfl, by omega, by omega⟩

set_option maxHeartbeats 4000000 in
theorem misSlotF_2 {xs : List Int32} {e : Nat} {ac : Int} {M0 M : nM} {s : Int} (hS : Sf 2 ac M0 M) (hs : -2147483648 ≤ s ∧ s ≤ 2147483647) : nW xs e 143 0 [some (0, s)] [] M (nPI fun z M1 => M = M1 ∧ (0 ≤ z ∧ z ≤ 1) ∧ ((z = 1 ∧ 0 ≤ s ∧ s ≤ 7) ∨ (z = 0 ∧ (s < 0 ∨ 7 < s)))) := by
  have hd : (2 : Int) = 2 ∨ (2 : Int) = 3 := by decide
  have hac := hS.2.2.2.2
  refine n_iload_n c_143_0 rfl ?_
  refine n_if0_lt c_143_1 (by omega) ?_ ?_
  · intro h1
    refine n_iconst c_143_14 ?_
    exact n_rZ c_143_15 rfl (by omega) ⟨rfl, by omega, by omega⟩
  · intro h2
    refine n_iload_n c_143_4 rfl ?_
    refine n_bipush c_143_5 rfl ?_
    refine n_if2_gt c_143_7 (by omega) (by omega) ?_ ?_
    · intro h3
      refine n_iconst c_143_14 ?_
      exact n_rZ c_143_15 rfl (by omega) ⟨rfl, by omega, by omega⟩
    · intro h4
      refine n_iconst c_143_10 ?_
      refine n_goto c_143_11 ?_
      exact n_rZ c_143_15 rfl (by omega) ⟨rfl, by omega, by omega⟩

set_option maxHeartbeats 4000000 in
theorem rowF_2 {xs : List Int32} {e : Nat} {ac : Int} {M : nM} {s w n gd : Int} (hS : Sf 2 ac M M) (hs : -2147483648 ≤ s ∧ s ≤ 2147483647) (hw : -2147483648 ≤ w ∧ w ≤ 2147483647) (hn : -2147483648 ≤ n ∧ n ≤ 2147483647) (hgd : M 112 0 = gd) : nW xs (e + 1) 94 0 [some (2, 3), some (0, s), some (0, w), some (0, n)] [] M (nPI fun z M1 => Sf 2 ac M1 M1 ∧ (-2147483648 ≤ z ∧ z ≤ 2147483647) ∧ (M1 112 0 = gd) ∧ (((s < 0 ∨ 7 < s ∨ w < 0 ∨ 3 < w ∨ 40 < n) ∧ z = -2) ∨ (0 ≤ s ∧ s ≤ 7 ∧ 0 ≤ w ∧ w ≤ 3 ∧ n < 0 ∧ z = -3) ∨ (0 ≤ s ∧ s ≤ 7 ∧ 0 ≤ w ∧ w ≤ 3 ∧ 0 ≤ n ∧ n ≤ 40 ∧ z = 0))) := by
  have hd : (2 : Int) = 2 ∨ (2 : Int) = 3 := by decide
  have hac := hS.2.2.2.2
  refine n_aload_n c_94_0 rfl ?_
  refine n_getR c_94_1 sc_3.n rfl rfl rfl r_3_1 ?_
  refine n_iload_n c_94_4 rfl ?_
  refine n_v1I c_94_5 rfl sc_8.n rfl rfl rfl rfl (isSlotF_2 (s := s) hS (by omega)) ?_
  intro z1 M2 hP3
  obtain ⟨eM, f3, f3p0⟩ := hP3
  subst eM
  refine n_if0_eq c_94_8 (by omega) ?_ ?_
  · intro h4
    refine n_bipush c_94_26 rfl ?_
    exact n_rI c_94_28 rfl ⟨hS, by omega, by omega, by omega⟩
  · intro h5
    refine n_iload_n c_94_11 rfl ?_
    refine n_if0_lt c_94_12 (by omega) ?_ ?_
    · intro h6
      refine n_bipush c_94_26 rfl ?_
      exact n_rI c_94_28 rfl ⟨hS, by omega, by omega, by omega⟩
    · intro h7
      refine n_iload_n c_94_15 rfl ?_
      refine n_iconst c_94_16 ?_
      refine n_if2_gt c_94_17 (by omega) (by omega) ?_ ?_
      · intro h8
        refine n_bipush c_94_26 rfl ?_
        exact n_rI c_94_28 rfl ⟨hS, by omega, by omega, by omega⟩
      · intro h9
        refine n_iload_n c_94_20 rfl ?_
        refine n_bipush c_94_21 rfl ?_
        refine n_if2_le c_94_23 (by omega) (by omega) ?_ ?_
        · intro h10
          refine n_iload_n c_94_29 rfl ?_
          refine n_if0_ge c_94_30 (by omega) ?_ ?_
          · intro h11
            refine n_aload_n c_94_36 rfl ?_
            refine n_getR c_94_37 sc_3.n rfl rfl rfl r_3_1 ?_
            refine n_iload_n c_94_40 rfl ?_
            refine n_iload_n c_94_41 rfl ?_
            refine n_iload_n c_94_42 rfl ?_
            refine n_v3V c_94_43 rfl sc_8.n rfl rfl rfl rfl (layG_2 (s := s) (w := w) (n := n) (gd := (M 112 0)) hS (by omega) (by omega) (by omega) rfl) ?_
            intro  M12 hP13
            obtain ⟨hS12, f13g0⟩ := hP13
            refine n_iconst c_94_46 ?_
            exact n_rI c_94_47 rfl ⟨hS12, by omega, by omega, by omega⟩
          · intro h14
            refine n_bipush c_94_33 rfl ?_
            exact n_rI c_94_35 rfl ⟨hS, by omega, by omega, by omega⟩
        · intro h15
          refine n_bipush c_94_26 rfl ?_
          exact n_rI c_94_28 rfl ⟨hS, by omega, by omega, by omega⟩

set_option maxHeartbeats 4000000 in
theorem mrowF_2_c {xs : List Int32} {e : Nat} {ac : Int} {M : nM} {s w n gd : Int} (hS : Sf 2 ac M M) (hdm : M 112 0 = 2) (hs : -2147483648 ≤ s ∧ s ≤ 2147483647) (hw : -2147483648 ≤ w ∧ w ≤ 2147483647) (hn : -2147483648 ≤ n ∧ n ≤ 2147483647) (hgd : M 112 0 = gd) : ∀ nn : Nat, (∀ (x4 : Int) (M : nM), Sf 2 ac M M → (0 ≤ s ∧ s ≤ 7) → (0 ≤ n ∧ n ≤ 40) → (0 ≤ x4 ∧ x4 ≤ 40) → (M 112 0 = 2) → (M 112 0 = gd) → (0 ≤ w ∧ w ≤ 3) → (0 ≤ n ∧ n ≤ 40) → (0 ≤ s ∧ s ≤ 7) → (40 - x4) * 1 + 1 < (nn : Int) → nW xs (e + 1) 144 51 [some (2, 112), some (0, s), none, some (0, n), some (0, x4)] [] M (nPI fun z M1 => Sf 2 ac M1 M1 ∧ (-2147483648 ≤ z ∧ z ≤ 2147483647) ∧ (M1 112 0 = gd) ∧ (((s < 0 ∨ 7 < s ∨ w < 0 ∨ 3 < w ∨ 40 < n) ∧ z = -2) ∨ (0 ≤ s ∧ s ≤ 7 ∧ 0 ≤ w ∧ w ≤ 3 ∧ n < 0 ∧ z = -3) ∨ (0 ≤ s ∧ s ≤ 7 ∧ 0 ≤ w ∧ w ≤ 3 ∧ 0 ≤ n ∧ n ≤ 40 ∧ z = 0)))) := by
  have hd : (2 : Int) = 2 ∨ (2 : Int) = 3 := by decide
  have hac := hS.2.2.2.2
  intro nn
  induction nn with
  | zero => intros; omega
  | succ nn ih =>
    intro x4 M hS k1 k3 k4 hdm hggd v0 v1 v2 hnn
    refine n_iload c_144_51 rfl ?_
    refine n_iload_n c_144_53 rfl ?_
    refine n_if2_ge c_144_54 (by omega) (by omega) ?_ ?_
    · intro h1
      refine n_iconst c_144_76 ?_
      exact n_rI c_144_77 rfl ⟨hS, by omega, by omega, by omega⟩
    · intro h2
      refine n_aload_n c_144_57 rfl ?_
      refine n_getR c_144_58 sc_112.n rfl rfl rfl r_112_3 ?_
      refine n_bipush c_144_61 rfl ?_
      refine n_iload_n c_144_63 rfl ?_
      refine n_imul c_144_64 rfl ?_
      refine n_iload c_144_65 rfl ?_
      refine n_iadd c_144_67 rfl ?_
      refine n_lconst (n := 0) c_144_68 rfl ?_
      refine n_lastoreM hS c_144_69 sc_115.n rfl (by omega) (m_115 (by omega) (by omega)) ?_
      intro M3 eM3 hS3
      have g3_0 : M3 112 0 = M 112 0 := by rw [eM3]; exact nu_a (by omega)
      refine n_iinc (L2 := [some (2, 112), some (0, s), none, some (0, n), some (0, (x4 + 1))]) c_144_70 rfl rfl rfl ?_
      refine n_goto c_144_73 ?_
      refine n_fg (le_s (le_s (le_n (le_s (le_s le_0))))) ?_
      exact ih _ M3 hS3 (by omega) (by omega) (by omega) (by omega) (by omega) (by omega) (by omega) (by omega) (by omega)
set_option maxHeartbeats 4000000 in
theorem mrowF_2 {xs : List Int32} {e : Nat} {ac : Int} {M : nM} {s w n gd : Int} (hS : Sf 2 ac M M) (hdm : M 112 0 = 2) (hs : -2147483648 ≤ s ∧ s ≤ 2147483647) (hw : -2147483648 ≤ w ∧ w ≤ 2147483647) (hn : -2147483648 ≤ n ∧ n ≤ 2147483647) (hgd : M 112 0 = gd) : nW xs (e + 1) 144 0 [some (2, 112), some (0, s), some (0, w), some (0, n), none] [] M (nPI fun z M1 => Sf 2 ac M1 M1 ∧ (-2147483648 ≤ z ∧ z ≤ 2147483647) ∧ (M1 112 0 = gd) ∧ (((s < 0 ∨ 7 < s ∨ w < 0 ∨ 3 < w ∨ 40 < n) ∧ z = -2) ∨ (0 ≤ s ∧ s ≤ 7 ∧ 0 ≤ w ∧ w ≤ 3 ∧ n < 0 ∧ z = -3) ∨ (0 ≤ s ∧ s ≤ 7 ∧ 0 ≤ w ∧ w ≤ 3 ∧ 0 ≤ n ∧ n ≤ 40 ∧ z = 0))) := by
  have hd : (2 : Int) = 2 ∨ (2 : Int) = 3 := by decide
  have hac := hS.2.2.2.2
  refine n_iload_n c_144_0 rfl ?_
  refine n_s1I c_144_1 rfl rfl rfl rfl (misSlotF_2 (s := s) hS (by omega)) ?_
  intro z1 M2 hP3
  obtain ⟨eM, f3, f3p0⟩ := hP3
  subst eM
  refine n_if0_eq c_144_4 (by omega) ?_ ?_
  · intro h4
    refine n_bipush c_144_22 rfl ?_
    exact n_rI c_144_24 rfl ⟨hS, by omega, by omega, by omega⟩
  · intro h5
    refine n_iload_n c_144_7 rfl ?_
    refine n_if0_lt c_144_8 (by omega) ?_ ?_
    · intro h6
      refine n_bipush c_144_22 rfl ?_
      exact n_rI c_144_24 rfl ⟨hS, by omega, by omega, by omega⟩
    · intro h7
      refine n_iload_n c_144_11 rfl ?_
      refine n_iconst c_144_12 ?_
      refine n_if2_gt c_144_13 (by omega) (by omega) ?_ ?_
      · intro h8
        refine n_bipush c_144_22 rfl ?_
        exact n_rI c_144_24 rfl ⟨hS, by omega, by omega, by omega⟩
      · intro h9
        refine n_iload_n c_144_16 rfl ?_
        refine n_bipush c_144_17 rfl ?_
        refine n_if2_le c_144_19 (by omega) (by omega) ?_ ?_
        · intro h10
          refine n_iload_n c_144_25 rfl ?_
          refine n_if0_ge c_144_26 (by omega) ?_ ?_
          · intro h11
            refine n_aload_n c_144_32 rfl ?_
            refine n_getR c_144_33 sc_112.n rfl rfl rfl r_112_1 ?_
            refine n_iload_n c_144_36 rfl ?_
            refine n_iload_n c_144_37 rfl ?_
            refine n_iconst c_144_38 ?_
            refine n_iadd c_144_39 rfl ?_
            refine n_iastoreM hS c_144_40 sc_113.n rfl (by omega) (m_113 (by omega) (by omega)) ?_
            intro M12 eM12 hS12
            have g12_0 : M12 112 0 = M 112 0 := by rw [eM12]; exact nu_a (by omega)
            refine n_aload_n c_144_41 rfl ?_
            refine n_getR c_144_42 sc_112.n rfl rfl rfl r_112_2 ?_
            refine n_iload_n c_144_45 rfl ?_
            refine n_iload_n c_144_46 rfl ?_
            refine n_iastoreM hS12 c_144_47 sc_114.n rfl (by omega) (m_114 (by omega) (by omega)) ?_
            intro M13 eM13 hS13
            have g13_0 : M13 112 0 = M12 112 0 := by rw [eM13]; exact nu_a (by omega)
            refine n_iconst c_144_48 ?_
            refine n_istore (L2 := [some (2, 112), some (0, s), some (0, w), some (0, n), some (0, 0)]) c_144_49 rfl rfl ?_
            refine n_fg (le_s (le_s (le_n (le_s (le_s le_0))))) ?_
            exact (mrowF_2_c hS hdm hs hw hn hgd 94) _ M13 hS13 (by omega) (by omega) (by omega) (by omega) (by omega) (by omega) (by omega) (by omega) (by omega)
          · intro h14
            refine n_bipush c_144_29 rfl ?_
            exact n_rI c_144_31 rfl ⟨hS, by omega, by omega, by omega⟩
        · intro h15
          refine n_bipush c_144_22 rfl ?_
          exact n_rI c_144_24 rfl ⟨hS, by omega, by omega, by omega⟩

set_option maxHeartbeats 4000000 in
theorem riddleF_2 {xs : List Int32} {e : Nat} {ac : Int} {M : nM} {u gd : Int} (hS : Sf 2 ac M M) (hu : -2147483648 ≤ u ∧ u ≤ 2147483647) (hgd : M 112 0 = gd) : nW xs (e + 1) 115 0 [some (2, 3), some (0, u)] [] M (nPI fun z M1 => Sf 2 ac M1 M1 ∧ (0 ≤ z ∧ z ≤ 1) ∧ (M1 112 0 = gd) ∧ ((z = 1 ∧ 1 ≤ u ∧ u ≤ 8) ∨ (z = 0 ∧ (u < 1 ∨ 8 < u)))) := by
  have hd : (2 : Int) = 2 ∨ (2 : Int) = 3 := by decide
  have hac := hS.2.2.2.2
  refine n_iload_n c_115_0 rfl ?_
  refine n_iconst c_115_1 ?_
  refine n_if2_lt c_115_2 (by omega) (by omega) ?_ ?_
  · intro h1
    refine n_iconst c_115_11 ?_
    exact n_rZ c_115_12 rfl (by omega) ⟨hS, by omega, by omega, by omega⟩
  · intro h2
    refine n_iload_n c_115_5 rfl ?_
    refine n_bipush c_115_6 rfl ?_
    refine n_if2_le c_115_8 (by omega) (by omega) ?_ ?_
    · intro h3
      refine n_aload_n c_115_13 rfl ?_
      refine n_getR c_115_14 sc_3.n rfl rfl rfl r_3_6 ?_
      refine n_iload_n c_115_17 rfl ?_
      refine n_v1V c_115_18 rfl sc_32.n rfl rfl rfl rfl (rstartG_2 (u := u) (gd := (M 112 0)) hS (by omega) rfl) ?_
      intro  M4 hP5
      obtain ⟨hS4, f5g0⟩ := hP5
      refine n_aload_n c_115_21 rfl ?_
      refine n_iconst c_115_22 ?_
      refine n_putZM (bi := 18) hS4 c_115_23 sc_3.n rfl rfl rfl (by omega) rfl (m_3_18 (by omega)) ?_
      intro M6 eM6 hS6
      have g6_0 : M6 112 0 = M4 112 0 := by rw [eM6]; exact nu_a (by omega)
      have g6_1 : M6 3 18 = 0 := by rw [eM6]; exact nu_s _ _ _ _
      refine n_iconst c_115_26 ?_
      exact n_rZ c_115_27 rfl (by omega) ⟨hS6, by omega, by omega, by omega⟩
    · intro h7
      refine n_iconst c_115_11 ?_
      exact n_rZ c_115_12 rfl (by omega) ⟨hS, by omega, by omega, by omega⟩

set_option maxHeartbeats 4000000 in
theorem mriddleF_2 {xs : List Int32} {e : Nat} {ac : Int} {M : nM} {u gd : Int} (hS : Sf 2 ac M M) (hdm : M 112 0 = 2) (hu : -2147483648 ≤ u ∧ u ≤ 2147483647) (hgd : M 112 0 = gd) : nW xs e 187 0 [some (2, 112), some (0, u)] [] M (nPI fun z M1 => Sf 2 ac M1 M1 ∧ (0 ≤ z ∧ z ≤ 1) ∧ (M1 112 0 = gd) ∧ ((z = 1 ∧ 1 ≤ u ∧ u ≤ 8) ∨ (z = 0 ∧ (u < 1 ∨ 8 < u)))) := by
  have hd : (2 : Int) = 2 ∨ (2 : Int) = 3 := by decide
  have hac := hS.2.2.2.2
  refine n_iload_n c_187_0 rfl ?_
  refine n_iconst c_187_1 ?_
  refine n_if2_lt c_187_2 (by omega) (by omega) ?_ ?_
  · intro h1
    refine n_iconst c_187_11 ?_
    exact n_rZ c_187_12 rfl (by omega) ⟨hS, by omega, by omega, by omega⟩
  · intro h2
    refine n_iload_n c_187_5 rfl ?_
    refine n_bipush c_187_6 rfl ?_
    refine n_if2_le c_187_8 (by omega) (by omega) ?_ ?_
    · intro h3
      refine n_aload_n c_187_13 rfl ?_
      refine n_iload_n c_187_14 rfl ?_
      refine n_putG (P := Sq 2 ac) (bi := 10) c_187_15 sc_112.n rfl rfl rfl rfl (hS.sq.u (by omega) (show (1 : Int) ≤ u ∧ u ≤ (8 : Int) by omega)) ?_
      intro M4 eM4 hQ4
      have g4_0 : M4 112 0 = M 112 0 := by rw [eM4]; exact nu_i (by omega)
      have g4_1 : M4 112 10 = u := by rw [eM4]; exact nu_s _ _ _ _
      refine n_aload_n c_187_18 rfl ?_
      refine n_iconst c_187_19 ?_
      refine n_putG (P := Sq 2 ac) (bi := 11) c_187_20 sc_112.n rfl rfl rfl rfl (hQ4.u (by omega) (show (0 : Int) ≤ 0 ∧ 0 ≤ (30 : Int) by omega)) ?_
      intro M5 eM5 hQ5
      have g5_0 : M5 112 0 = M4 112 0 := by rw [eM5]; exact nu_i (by omega)
      have g5_1 : M5 112 10 = M4 112 10 := by rw [eM5]; exact nu_i (by omega)
      have g5_2 : M5 112 11 = 0 := by rw [eM5]; exact nu_s _ _ _ _
      have hS5 := hQ5.sf (AK.none (by omega))
      refine n_iconst c_187_23 ?_
      exact n_rZ c_187_24 rfl (by omega) ⟨hS5, by omega, by omega, by omega⟩
    · intro h6
      refine n_iconst c_187_11 ?_
      exact n_rZ c_187_12 rfl (by omega) ⟨hS, by omega, by omega, by omega⟩
set_option maxHeartbeats 4000000 in
theorem actA_3 {xs : List Int32} {e : Nat} {ac : Int} {M : nM} {k s gd : Int} (hS : Sf 3 ac M M) (hk : -2147483648 ≤ k ∧ k ≤ 2147483647) (hs : -2147483648 ≤ s ∧ s ≤ 2147483647) (hgd : M 112 0 = gd) : nW xs (e + 2) 97 0 [some (2, 3), some (0, k), some (0, s), none, none, none] [] M (nPI fun z M1 => (∃ ac2, Sf 3 ac2 M1 M1) ∧ (-2147483648 ≤ z ∧ z ≤ 2147483647) ∧ (M1 112 0 = gd)) := by
  rcases (show (-2147483648 ≤ k ∧ k ≤ 0) ∨ k = 1 ∨ k = 2 ∨ k = 3 ∨ (4 ≤ k ∧ k ≤ 2147483647) by omega) with hx | rfl | rfl | rfl | hx
  · exact n_post (actL_3 hS (by omega) (by omega)) (fun w M1 h => by obtain ⟨z, rfl, rfl, h2⟩ := h; exact ⟨z, rfl, ⟨_, hS⟩, by omega, hgd⟩)
  · exact act1_3 hS (by omega) hgd
  · exact act2_3 hS (by omega) hgd
  · exact act3_3 hS (by omega) hgd
  · exact n_post (actH_3 hS (by omega) (by omega)) (fun w M1 h => by obtain ⟨z, rfl, rfl, h2⟩ := h; exact ⟨z, rfl, ⟨_, hS⟩, by omega, hgd⟩)

set_option maxHeartbeats 4000000 in
theorem mlawA_3 {xs : List Int32} {e : Nat} {ac : Int} {M : nM} {k s gd : Int} (hS : Sf 3 ac M M) (hdm : M 112 0 = 3) (hk : -2147483648 ≤ k ∧ k ≤ 2147483647) (hs : -2147483648 ≤ s ∧ s ≤ 2147483647) (hgd : M 112 0 = gd) : nW xs (e + 1) 149 0 [some (2, 112), some (0, k), some (0, s), none, none, none, none, none, none, none, none, none] [] M (nPI fun z M1 => Sf 3 ac M1 M1 ∧ (-2147483648 ≤ z ∧ z ≤ 2147483647) ∧ (M1 112 0 = gd)) := by
  rcases (show (-2147483648 ≤ k ∧ k ≤ 0) ∨ k = 1 ∨ k = 2 ∨ k = 3 ∨ (4 ≤ k ∧ k ≤ 2147483647) by omega) with hx | rfl | rfl | rfl | hx
  · exact n_post (mlawL_3 hS hdm (by omega) (by omega)) (fun w M1 h => by obtain ⟨z, rfl, rfl, h2⟩ := h; exact ⟨z, rfl, hS, by omega, hgd⟩)
  · exact mlaw1_3 hS hdm (by omega) hgd
  · exact mlaw2_3 hS hdm (by omega) hgd
  · exact mlaw3_3 hS hdm (by omega) hgd
  · exact n_post (mlawH_3 hS hdm (by omega) (by omega)) (fun w M1 h => by obtain ⟨z, rfl, rfl, h2⟩ := h; exact ⟨z, rfl, hS, by omega, hgd⟩)

set_option maxHeartbeats 4000000 in
theorem isSlotF_3 {xs : List Int32} {e : Nat} {ac : Int} {M0 M : nM} {s : Int} (hS : Sf 3 ac M0 M) (hs : -2147483648 ≤ s ∧ s ≤ 2147483647) : nW xs e 84 0 [some (2, 8), some (0, s)] [] M (nPI fun z M1 => M = M1 ∧ (0 ≤ z ∧ z ≤ 1) ∧ ((z = 1 ∧ 0 ≤ s ∧ s ≤ 7) ∨ (z = 0 ∧ (s < 0 ∨ 7 < s)))) := by
  have hd : (3 : Int) = 2 ∨ (3 : Int) = 3 := by decide
  have hac := hS.2.2.2.2
  refine n_iload_n c_84_0 rfl ?_
  refine n_if0_lt c_84_1 (by omega) ?_ ?_
  · intro h1
    refine n_iconst c_84_14 ?_
    exact n_rZ c_84_15 rfl (by omega) ⟨rfl, by omega, by omega⟩
  · intro h2
    refine n_iload_n c_84_4 rfl ?_
    refine n_bipush c_84_5 rfl ?_
    refine n_if2_ge c_84_7 (by omega) (by omega) ?_ ?_
    · intro h3
      refine n_iconst c_84_14 ?_
      exact n_rZ c_84_15 rfl (by omega) ⟨rfl, by omega, by omega⟩
    · intro h4
      refine n_iconst c_84_10 ?_
      refine n_goto c_84_11 ?_
      exact n_rZ c_84_15 rfl (by omega) ⟨rfl, by omega, by omega⟩

set_option maxHeartbeats 4000000 in
theorem misSlotF_3 {xs : List Int32} {e : Nat} {ac : Int} {M0 M : nM} {s : Int} (hS : Sf 3 ac M0 M) (hs : -2147483648 ≤ s ∧ s ≤ 2147483647) : nW xs e 143 0 [some (0, s)] [] M (nPI fun z M1 => M = M1 ∧ (0 ≤ z ∧ z ≤ 1) ∧ ((z = 1 ∧ 0 ≤ s ∧ s ≤ 7) ∨ (z = 0 ∧ (s < 0 ∨ 7 < s)))) := by
  have hd : (3 : Int) = 2 ∨ (3 : Int) = 3 := by decide
  have hac := hS.2.2.2.2
  refine n_iload_n c_143_0 rfl ?_
  refine n_if0_lt c_143_1 (by omega) ?_ ?_
  · intro h1
    refine n_iconst c_143_14 ?_
    exact n_rZ c_143_15 rfl (by omega) ⟨rfl, by omega, by omega⟩
  · intro h2
    refine n_iload_n c_143_4 rfl ?_
    refine n_bipush c_143_5 rfl ?_
    refine n_if2_gt c_143_7 (by omega) (by omega) ?_ ?_
    · intro h3
      refine n_iconst c_143_14 ?_
      exact n_rZ c_143_15 rfl (by omega) ⟨rfl, by omega, by omega⟩
    · intro h4
      refine n_iconst c_143_10 ?_
      refine n_goto c_143_11 ?_
      exact n_rZ c_143_15 rfl (by omega) ⟨rfl, by omega, by omega⟩

set_option maxHeartbeats 4000000 in
theorem rowF_3 {xs : List Int32} {e : Nat} {ac : Int} {M : nM} {s w n gd : Int} (hS : Sf 3 ac M M) (hs : -2147483648 ≤ s ∧ s ≤ 2147483647) (hw : -2147483648 ≤ w ∧ w ≤ 2147483647) (hn : -2147483648 ≤ n ∧ n ≤ 2147483647) (hgd : M 112 0 = gd) : nW xs (e + 1) 94 0 [some (2, 3), some (0, s), some (0, w), some (0, n)] [] M (nPI fun z M1 => Sf 3 ac M1 M1 ∧ (-2147483648 ≤ z ∧ z ≤ 2147483647) ∧ (M1 112 0 = gd) ∧ (((s < 0 ∨ 7 < s ∨ w < 0 ∨ 3 < w ∨ 40 < n) ∧ z = -2) ∨ (0 ≤ s ∧ s ≤ 7 ∧ 0 ≤ w ∧ w ≤ 3 ∧ n < 0 ∧ z = -3) ∨ (0 ≤ s ∧ s ≤ 7 ∧ 0 ≤ w ∧ w ≤ 3 ∧ 0 ≤ n ∧ n ≤ 40 ∧ z = 0))) := by
  have hd : (3 : Int) = 2 ∨ (3 : Int) = 3 := by decide
  have hac := hS.2.2.2.2
  refine n_aload_n c_94_0 rfl ?_
  refine n_getR c_94_1 sc_3.n rfl rfl rfl r_3_1 ?_
  refine n_iload_n c_94_4 rfl ?_
  refine n_v1I c_94_5 rfl sc_8.n rfl rfl rfl rfl (isSlotF_3 (s := s) hS (by omega)) ?_
  intro z1 M2 hP3
  obtain ⟨eM, f3, f3p0⟩ := hP3
  subst eM
  refine n_if0_eq c_94_8 (by omega) ?_ ?_
  · intro h4
    refine n_bipush c_94_26 rfl ?_
    exact n_rI c_94_28 rfl ⟨hS, by omega, by omega, by omega⟩
  · intro h5
    refine n_iload_n c_94_11 rfl ?_
    refine n_if0_lt c_94_12 (by omega) ?_ ?_
    · intro h6
      refine n_bipush c_94_26 rfl ?_
      exact n_rI c_94_28 rfl ⟨hS, by omega, by omega, by omega⟩
    · intro h7
      refine n_iload_n c_94_15 rfl ?_
      refine n_iconst c_94_16 ?_
      refine n_if2_gt c_94_17 (by omega) (by omega) ?_ ?_
      · intro h8
        refine n_bipush c_94_26 rfl ?_
        exact n_rI c_94_28 rfl ⟨hS, by omega, by omega, by omega⟩
      · intro h9
        refine n_iload_n c_94_20 rfl ?_
        refine n_bipush c_94_21 rfl ?_
        refine n_if2_le c_94_23 (by omega) (by omega) ?_ ?_
        · intro h10
          refine n_iload_n c_94_29 rfl ?_
          refine n_if0_ge c_94_30 (by omega) ?_ ?_
          · intro h11
            refine n_aload_n c_94_36 rfl ?_
            refine n_getR c_94_37 sc_3.n rfl rfl rfl r_3_1 ?_
            refine n_iload_n c_94_40 rfl ?_
            refine n_iload_n c_94_41 rfl ?_
            refine n_iload_n c_94_42 rfl ?_
            refine n_v3V c_94_43 rfl sc_8.n rfl rfl rfl rfl (layG_3 (s := s) (w := w) (n := n) (gd := (M 112 0)) hS (by omega) (by omega) (by omega) rfl) ?_
            intro  M12 hP13
            obtain ⟨hS12, f13g0⟩ := hP13
            refine n_iconst c_94_46 ?_
            exact n_rI c_94_47 rfl ⟨hS12, by omega, by omega, by omega⟩
          · intro h14
            refine n_bipush c_94_33 rfl ?_
            exact n_rI c_94_35 rfl ⟨hS, by omega, by omega, by omega⟩
        · intro h15
          refine n_bipush c_94_26 rfl ?_
          exact n_rI c_94_28 rfl ⟨hS, by omega, by omega, by omega⟩

set_option maxHeartbeats 4000000 in
theorem mrowF_3_c {xs : List Int32} {e : Nat} {ac : Int} {M : nM} {s w n gd : Int} (hS : Sf 3 ac M M) (hdm : M 112 0 = 3) (hs : -2147483648 ≤ s ∧ s ≤ 2147483647) (hw : -2147483648 ≤ w ∧ w ≤ 2147483647) (hn : -2147483648 ≤ n ∧ n ≤ 2147483647) (hgd : M 112 0 = gd) : ∀ nn : Nat, (∀ (x4 : Int) (M : nM), Sf 3 ac M M → (0 ≤ s ∧ s ≤ 7) → (0 ≤ n ∧ n ≤ 40) → (0 ≤ x4 ∧ x4 ≤ 40) → (M 112 0 = 3) → (M 112 0 = gd) → (0 ≤ w ∧ w ≤ 3) → (0 ≤ n ∧ n ≤ 40) → (0 ≤ s ∧ s ≤ 7) → (40 - x4) * 1 + 1 < (nn : Int) → nW xs (e + 1) 144 51 [some (2, 112), some (0, s), none, some (0, n), some (0, x4)] [] M (nPI fun z M1 => Sf 3 ac M1 M1 ∧ (-2147483648 ≤ z ∧ z ≤ 2147483647) ∧ (M1 112 0 = gd) ∧ (((s < 0 ∨ 7 < s ∨ w < 0 ∨ 3 < w ∨ 40 < n) ∧ z = -2) ∨ (0 ≤ s ∧ s ≤ 7 ∧ 0 ≤ w ∧ w ≤ 3 ∧ n < 0 ∧ z = -3) ∨ (0 ≤ s ∧ s ≤ 7 ∧ 0 ≤ w ∧ w ≤ 3 ∧ 0 ≤ n ∧ n ≤ 40 ∧ z = 0)))) := by
  have hd : (3 : Int) = 2 ∨ (3 : Int) = 3 := by decide
  have hac := hS.2.2.2.2
  intro nn
  induction nn with
  | zero => intros; omega
  | succ nn ih =>
    intro x4 M hS k1 k3 k4 hdm hggd v0 v1 v2 hnn
    refine n_iload c_144_51 rfl ?_
    refine n_iload_n c_144_53 rfl ?_
    refine n_if2_ge c_144_54 (by omega) (by omega) ?_ ?_
    · intro h1
      refine n_iconst c_144_76 ?_
      exact n_rI c_144_77 rfl ⟨hS, by omega, by omega, by omega⟩
    · intro h2
      refine n_aload_n c_144_57 rfl ?_
      refine n_getR c_144_58 sc_112.n rfl rfl rfl r_112_3 ?_
      refine n_bipush c_144_61 rfl ?_
      refine n_iload_n c_144_63 rfl ?_
      refine n_imul c_144_64 rfl ?_
      refine n_iload c_144_65 rfl ?_
      refine n_iadd c_144_67 rfl ?_
      refine n_lconst (n := 0) c_144_68 rfl ?_
      refine n_lastoreM hS c_144_69 sc_115.n rfl (by omega) (m_115 (by omega) (by omega)) ?_
      intro M3 eM3 hS3
      have g3_0 : M3 112 0 = M 112 0 := by rw [eM3]; exact nu_a (by omega)
      refine n_iinc (L2 := [some (2, 112), some (0, s), none, some (0, n), some (0, (x4 + 1))]) c_144_70 rfl rfl rfl ?_
      refine n_goto c_144_73 ?_
      refine n_fg (le_s (le_s (le_n (le_s (le_s le_0))))) ?_
      exact ih _ M3 hS3 (by omega) (by omega) (by omega) (by omega) (by omega) (by omega) (by omega) (by omega) (by omega)
set_option maxHeartbeats 4000000 in
theorem mrowF_3 {xs : List Int32} {e : Nat} {ac : Int} {M : nM} {s w n gd : Int} (hS : Sf 3 ac M M) (hdm : M 112 0 = 3) (hs : -2147483648 ≤ s ∧ s ≤ 2147483647) (hw : -2147483648 ≤ w ∧ w ≤ 2147483647) (hn : -2147483648 ≤ n ∧ n ≤ 2147483647) (hgd : M 112 0 = gd) : nW xs (e + 1) 144 0 [some (2, 112), some (0, s), some (0, w), some (0, n), none] [] M (nPI fun z M1 => Sf 3 ac M1 M1 ∧ (-2147483648 ≤ z ∧ z ≤ 2147483647) ∧ (M1 112 0 = gd) ∧ (((s < 0 ∨ 7 < s ∨ w < 0 ∨ 3 < w ∨ 40 < n) ∧ z = -2) ∨ (0 ≤ s ∧ s ≤ 7 ∧ 0 ≤ w ∧ w ≤ 3 ∧ n < 0 ∧ z = -3) ∨ (0 ≤ s ∧ s ≤ 7 ∧ 0 ≤ w ∧ w ≤ 3 ∧ 0 ≤ n ∧ n ≤ 40 ∧ z = 0))) := by
  have hd : (3 : Int) = 2 ∨ (3 : Int) = 3 := by decide
  have hac := hS.2.2.2.2
  refine n_iload_n c_144_0 rfl ?_
  refine n_s1I c_144_1 rfl rfl rfl rfl (misSlotF_3 (s := s) hS (by omega)) ?_
  intro z1 M2 hP3
  obtain ⟨eM, f3, f3p0⟩ := hP3
  subst eM
  refine n_if0_eq c_144_4 (by omega) ?_ ?_
  · intro h4
    refine n_bipush c_144_22 rfl ?_
    exact n_rI c_144_24 rfl ⟨hS, by omega, by omega, by omega⟩
  · intro h5
    refine n_iload_n c_144_7 rfl ?_
    refine n_if0_lt c_144_8 (by omega) ?_ ?_
    · intro h6
      refine n_bipush c_144_22 rfl ?_
      exact n_rI c_144_24 rfl ⟨hS, by omega, by omega, by omega⟩
    · intro h7
      refine n_iload_n c_144_11 rfl ?_
      refine n_iconst c_144_12 ?_
      refine n_if2_gt c_144_13 (by omega) (by omega) ?_ ?_
      · intro h8
        refine n_bipush c_144_22 rfl ?_
        exact n_rI c_144_24 rfl ⟨hS, by omega, by omega, by omega⟩
      · intro h9
        refine n_iload_n c_144_16 rfl ?_
        refine n_bipush c_144_17 rfl ?_
        refine n_if2_le c_144_19 (by omega) (by omega) ?_ ?_
        · intro h10
          refine n_iload_n c_144_25 rfl ?_
          refine n_if0_ge c_144_26 (by omega) ?_ ?_
          · intro h11
            refine n_aload_n c_144_32 rfl ?_
            refine n_getR c_144_33 sc_112.n rfl rfl rfl r_112_1 ?_
            refine n_iload_n c_144_36 rfl ?_
            refine n_iload_n c_144_37 rfl ?_
            refine n_iconst c_144_38 ?_
            refine n_iadd c_144_39 rfl ?_
            refine n_iastoreM hS c_144_40 sc_113.n rfl (by omega) (m_113 (by omega) (by omega)) ?_
            intro M12 eM12 hS12
            have g12_0 : M12 112 0 = M 112 0 := by rw [eM12]; exact nu_a (by omega)
            refine n_aload_n c_144_41 rfl ?_
            refine n_getR c_144_42 sc_112.n rfl rfl rfl r_112_2 ?_
            refine n_iload_n c_144_45 rfl ?_
            refine n_iload_n c_144_46 rfl ?_
            refine n_iastoreM hS12 c_144_47 sc_114.n rfl (by omega) (m_114 (by omega) (by omega)) ?_
            intro M13 eM13 hS13
            have g13_0 : M13 112 0 = M12 112 0 := by rw [eM13]; exact nu_a (by omega)
            refine n_iconst c_144_48 ?_
            refine n_istore (L2 := [some (2, 112), some (0, s), some (0, w), some (0, n), some (0, 0)]) c_144_49 rfl rfl ?_
            refine n_fg (le_s (le_s (le_n (le_s (le_s le_0))))) ?_
            exact (mrowF_3_c hS hdm hs hw hn hgd 94) _ M13 hS13 (by omega) (by omega) (by omega) (by omega) (by omega) (by omega) (by omega) (by omega) (by omega)
          · intro h14
            refine n_bipush c_144_29 rfl ?_
            exact n_rI c_144_31 rfl ⟨hS, by omega, by omega, by omega⟩
        · intro h15
          refine n_bipush c_144_22 rfl ?_
          exact n_rI c_144_24 rfl ⟨hS, by omega, by omega, by omega⟩

set_option maxHeartbeats 4000000 in
theorem riddleF_3 {xs : List Int32} {e : Nat} {ac : Int} {M : nM} {u gd : Int} (hS : Sf 3 ac M M) (hu : -2147483648 ≤ u ∧ u ≤ 2147483647) (hgd : M 112 0 = gd) : nW xs (e + 1) 115 0 [some (2, 3), some (0, u)] [] M (nPI fun z M1 => Sf 3 ac M1 M1 ∧ (0 ≤ z ∧ z ≤ 1) ∧ (M1 112 0 = gd) ∧ ((z = 1 ∧ 1 ≤ u ∧ u ≤ 8) ∨ (z = 0 ∧ (u < 1 ∨ 8 < u)))) := by
  have hd : (3 : Int) = 2 ∨ (3 : Int) = 3 := by decide
  have hac := hS.2.2.2.2
  refine n_iload_n c_115_0 rfl ?_
  refine n_iconst c_115_1 ?_
  refine n_if2_lt c_115_2 (by omega) (by omega) ?_ ?_
  · intro h1
    refine n_iconst c_115_11 ?_
    exact n_rZ c_115_12 rfl (by omega) ⟨hS, by omega, by omega, by omega⟩
  · intro h2
    refine n_iload_n c_115_5 rfl ?_
    refine n_bipush c_115_6 rfl ?_
    refine n_if2_le c_115_8 (by omega) (by omega) ?_ ?_
    · intro h3
      refine n_aload_n c_115_13 rfl ?_
      refine n_getR c_115_14 sc_3.n rfl rfl rfl r_3_6 ?_
      refine n_iload_n c_115_17 rfl ?_
      refine n_v1V c_115_18 rfl sc_32.n rfl rfl rfl rfl (rstartG_3 (u := u) (gd := (M 112 0)) hS (by omega) rfl) ?_
      intro  M4 hP5
      obtain ⟨hS4, f5g0⟩ := hP5
      refine n_aload_n c_115_21 rfl ?_
      refine n_iconst c_115_22 ?_
      refine n_putZM (bi := 18) hS4 c_115_23 sc_3.n rfl rfl rfl (by omega) rfl (m_3_18 (by omega)) ?_
      intro M6 eM6 hS6
      have g6_0 : M6 112 0 = M4 112 0 := by rw [eM6]; exact nu_a (by omega)
      have g6_1 : M6 3 18 = 0 := by rw [eM6]; exact nu_s _ _ _ _
      refine n_iconst c_115_26 ?_
      exact n_rZ c_115_27 rfl (by omega) ⟨hS6, by omega, by omega, by omega⟩
    · intro h7
      refine n_iconst c_115_11 ?_
      exact n_rZ c_115_12 rfl (by omega) ⟨hS, by omega, by omega, by omega⟩

set_option maxHeartbeats 4000000 in
theorem mriddleF_3 {xs : List Int32} {e : Nat} {ac : Int} {M : nM} {u gd : Int} (hS : Sf 3 ac M M) (hdm : M 112 0 = 3) (hu : -2147483648 ≤ u ∧ u ≤ 2147483647) (hgd : M 112 0 = gd) : nW xs e 187 0 [some (2, 112), some (0, u)] [] M (nPI fun z M1 => Sf 3 ac M1 M1 ∧ (0 ≤ z ∧ z ≤ 1) ∧ (M1 112 0 = gd) ∧ ((z = 1 ∧ 1 ≤ u ∧ u ≤ 8) ∨ (z = 0 ∧ (u < 1 ∨ 8 < u)))) := by
  have hd : (3 : Int) = 2 ∨ (3 : Int) = 3 := by decide
  have hac := hS.2.2.2.2
  refine n_iload_n c_187_0 rfl ?_
  refine n_iconst c_187_1 ?_
  refine n_if2_lt c_187_2 (by omega) (by omega) ?_ ?_
  · intro h1
    refine n_iconst c_187_11 ?_
    exact n_rZ c_187_12 rfl (by omega) ⟨hS, by omega, by omega, by omega⟩
  · intro h2
    refine n_iload_n c_187_5 rfl ?_
    refine n_bipush c_187_6 rfl ?_
    refine n_if2_le c_187_8 (by omega) (by omega) ?_ ?_
    · intro h3
      refine n_aload_n c_187_13 rfl ?_
      refine n_iload_n c_187_14 rfl ?_
      refine n_putG (P := Sq 3 ac) (bi := 10) c_187_15 sc_112.n rfl rfl rfl rfl (hS.sq.u (by omega) (show (1 : Int) ≤ u ∧ u ≤ (8 : Int) by omega)) ?_
      intro M4 eM4 hQ4
      have g4_0 : M4 112 0 = M 112 0 := by rw [eM4]; exact nu_i (by omega)
      have g4_1 : M4 112 10 = u := by rw [eM4]; exact nu_s _ _ _ _
      refine n_aload_n c_187_18 rfl ?_
      refine n_iconst c_187_19 ?_
      refine n_putG (P := Sq 3 ac) (bi := 11) c_187_20 sc_112.n rfl rfl rfl rfl (hQ4.u (by omega) (show (0 : Int) ≤ 0 ∧ 0 ≤ (30 : Int) by omega)) ?_
      intro M5 eM5 hQ5
      have g5_0 : M5 112 0 = M4 112 0 := by rw [eM5]; exact nu_i (by omega)
      have g5_1 : M5 112 10 = M4 112 10 := by rw [eM5]; exact nu_i (by omega)
      have g5_2 : M5 112 11 = 0 := by rw [eM5]; exact nu_s _ _ _ _
      have hS5 := hQ5.sf (AK.none (by omega))
      refine n_iconst c_187_23 ?_
      exact n_rZ c_187_24 rfl (by omega) ⟨hS5, by omega, by omega, by omega⟩
    · intro h6
      refine n_iconst c_187_11 ?_
      exact n_rZ c_187_12 rfl (by omega) ⟨hS, by omega, by omega, by omega⟩
