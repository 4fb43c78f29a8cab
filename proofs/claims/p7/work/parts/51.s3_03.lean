/-! The methods, by program. -/
set_option maxHeartbeats 4000000 in
theorem fmodU_3 {xs : List Int32} {e : Nat} {ac : Int} {M0 M : nM} {x : Int} (hS : Sf 3 ac M0 M) (hx : -2 ≤ x ∧ x ≤ 4) : nW xs e 204 0 [some (0, x), some (0, 3), none] [] M (nPI fun z M1 => M = M1 ∧ (0 ≤ z ∧ z ≤ 2)) := by
  rcases (show x = (-2) ∨ x = (-1) ∨ x = 0 ∨ x = 1 ∨ x = 2 ∨ x = 3 ∨ x = 4 by omega) with rfl | rfl | rfl | rfl | rfl | rfl | rfl
  · exact n_post (fmod1_3 hS ) (fun w M1 h => by obtain ⟨z, rfl, h1, h2⟩ := h; exact ⟨z, rfl, h1, by omega⟩)
  · exact n_post (fmod2_3 hS ) (fun w M1 h => by obtain ⟨z, rfl, h1, h2⟩ := h; exact ⟨z, rfl, h1, by omega⟩)
  · exact n_post (fmod3_3 hS ) (fun w M1 h => by obtain ⟨z, rfl, h1, h2⟩ := h; exact ⟨z, rfl, h1, by omega⟩)
  · exact n_post (fmod4_3 hS ) (fun w M1 h => by obtain ⟨z, rfl, h1, h2⟩ := h; exact ⟨z, rfl, h1, by omega⟩)
  · exact n_post (fmod5_3 hS ) (fun w M1 h => by obtain ⟨z, rfl, h1, h2⟩ := h; exact ⟨z, rfl, h1, by omega⟩)
  · exact n_post (fmod6_3 hS ) (fun w M1 h => by obtain ⟨z, rfl, h1, h2⟩ := h; exact ⟨z, rfl, h1, by omega⟩)
  · exact n_post (fmod7_3 hS ) (fun w M1 h => by obtain ⟨z, rfl, h1, h2⟩ := h; exact ⟨z, rfl, h1, by omega⟩)

set_option maxHeartbeats 4000000 in
theorem beMost_3_c {xs : List Int32} {e : Nat} {ac : Int} {M0 M : nM} (hS : Sf 3 ac M0 M)  : ∀ nn : Nat, (∀ (x2 : Int) (M : nM), Sf 3 ac M0 M → (-1 ≤ x2 ∧ x2 ≤ 26) → (M 44 2 ≤ 9) → (21 ≤ x2 → M 44 2 ≤ 3) → (19 ≤ x2 → M 44 2 ≤ 4) → (15 ≤ x2 → M 44 2 ≤ 5) → (11 ≤ x2 → M 44 2 ≤ 6) → (7 ≤ x2 → M 44 2 ≤ 7) → (5 ≤ x2 → M 44 2 ≤ 8) → (x2 - (-1)) * 1 + 1 < (nn : Int) → nW xs (e + 1) 22 17 [some (2, 44), some (2, 4), some (0, x2), none, none, none] [] M (nPV fun M1 => Sf 3 ac M0 M1)) := by
  have hd : (3 : Int) = 2 ∨ (3 : Int) = 3 := by decide
  have hac := hS.2.2.2.2
  intro nn
  induction nn with
  | zero => intros; omega
  | succ nn ih =>
    intro x2 M hS k2 v0 v1 v2 v3 v4 v5 v6 hnn
    rcases (show x2 = (-1) ∨ x2 = 0 ∨ x2 = 1 ∨ x2 = 2 ∨ x2 = 3 ∨ x2 = 4 ∨ x2 = 5 ∨ x2 = 6 ∨ x2 = 7 ∨ x2 = 8 ∨ x2 = 9 ∨ x2 = 10 ∨ x2 = 11 ∨ x2 = 12 ∨ x2 = 13 ∨ x2 = 14 ∨ x2 = 15 ∨ x2 = 16 ∨ x2 = 17 ∨ x2 = 18 ∨ x2 = 19 ∨ x2 = 20 ∨ x2 = 21 ∨ x2 = 22 ∨ x2 = 23 ∨ x2 = 24 ∨ x2 = 25 ∨ x2 = 26 by omega) with rfl | rfl | rfl | rfl | rfl | rfl | rfl | rfl | rfl | rfl | rfl | rfl | rfl | rfl | rfl | rfl | rfl | rfl | rfl | rfl | rfl | rfl | rfl | rfl | rfl | rfl | rfl | rfl
    · skip
      refine n_iload_n c_22_17 rfl ?_
      refine n_if0_lt c_22_18 (by omega) ?_ ?_
      · intro h1
        exact n_rV c_22_107 rfl hS
      · intro h2
        exfalso; omega
    · skip
      refine n_iload_n c_22_17 rfl ?_
      refine n_if0_lt c_22_18 (by omega) ?_ ?_
      · intro h3
        exfalso; omega
      · intro h4
        refine n_aload_n c_22_21 rfl ?_
        refine n_getR c_22_22 sc_4.n rfl rfl rfl r_4_2 ?_
        refine n_iload_n c_22_25 rfl ?_
        refine n_ialoadV c_22_26 sc_5.n rfl rfl rfl (by omega) (t_5k (z := 0) hS (by omega) (by omega) (by omega)) ?_
        intro z5 ez5 f6
        refine n_istore_n (L2 := [some (2, 44), some (2, 4), some (0, 0), some (0, z5), none, none]) c_22_27 rfl rfl ?_
        refine n_aload_n c_22_28 rfl ?_
        refine n_getR c_22_29 sc_4.n rfl rfl rfl r_4_3 ?_
        refine n_iload_n c_22_32 rfl ?_
        refine n_ialoadV c_22_33 sc_6.n rfl rfl rfl (by omega) (t_6k (z := 0) hS (by omega) (by omega) (by omega)) ?_
        intro z7 ez7 f8
        refine n_istore (L2 := [some (2, 44), some (2, 4), some (0, 0), some (0, z5), some (0, z7), none]) c_22_34 rfl rfl ?_
        refine n_aload_n c_22_36 rfl ?_
        refine n_getR c_22_37 sc_4.n rfl rfl rfl r_4_4 ?_
        refine n_iload_n c_22_40 rfl ?_
        refine n_ialoadV c_22_41 sc_7.n rfl rfl rfl (by omega) (t_7k (z := 0) hS (by omega) (by omega) (by omega)) ?_
        intro z9 ez9 f10
        refine n_istore (L2 := [some (2, 44), some (2, 4), some (0, 0), some (0, z5), some (0, z7), some (0, z9)]) c_22_42 rfl rfl ?_
        refine n_iload_n c_22_44 rfl ?_
        refine n_iload c_22_45 rfl ?_
        refine n_if2_eq c_22_47 (by omega) (by omega) ?_ ?_
        · intro h11
          refine n_aload_n c_22_56 rfl ?_
          refine n_getR c_22_57 sc_44.n rfl rfl rfl r_44_4 ?_
          refine n_iload_n c_22_60 rfl ?_
          refine n_iload_n c_22_61 rfl ?_
          refine n_iastoreV hS c_22_62 sc_45.n rfl (by omega) (w_45 (by omega) (by omega)) ?_
          intro M12 eM12 hS12
          have g12_0 : M12 44 2 = M 44 2 := by rw [eM12]; exact nu_a (by omega)
          refine n_goto c_22_63 ?_
          refine n_iinc (L2 := [some (2, 44), some (2, 4), some (0, (0 + (-1))), some (0, z5), some (0, z7), some (0, z9)]) c_22_101 rfl rfl rfl ?_
          refine n_goto c_22_104 ?_
          refine n_fg (le_s (le_s (le_s (le_n (le_n (le_n le_0)))))) ?_
          exact ih _ M12 hS12 (by omega) (by omega) (by omega) (by omega) (by omega) (by omega) (by omega) (by omega) (by omega)
        · intro h13
          exfalso; omega
    · skip
      refine n_iload_n c_22_17 rfl ?_
      refine n_if0_lt c_22_18 (by omega) ?_ ?_
      · intro h14
        exfalso; omega
      · intro h15
        refine n_aload_n c_22_21 rfl ?_
        refine n_getR c_22_22 sc_4.n rfl rfl rfl r_4_2 ?_
        refine n_iload_n c_22_25 rfl ?_
        refine n_ialoadV c_22_26 sc_5.n rfl rfl rfl (by omega) (t_5k (z := 0) hS (by omega) (by omega) (by omega)) ?_
        intro z16 ez16 f17
        refine n_istore_n (L2 := [some (2, 44), some (2, 4), some (0, 1), some (0, z16), none, none]) c_22_27 rfl rfl ?_
        refine n_aload_n c_22_28 rfl ?_
        refine n_getR c_22_29 sc_4.n rfl rfl rfl r_4_3 ?_
        refine n_iload_n c_22_32 rfl ?_
        refine n_ialoadV c_22_33 sc_6.n rfl rfl rfl (by omega) (t_6k (z := 0) hS (by omega) (by omega) (by omega)) ?_
        intro z18 ez18 f19
        refine n_istore (L2 := [some (2, 44), some (2, 4), some (0, 1), some (0, z16), some (0, z18), none]) c_22_34 rfl rfl ?_
        refine n_aload_n c_22_36 rfl ?_
        refine n_getR c_22_37 sc_4.n rfl rfl rfl r_4_4 ?_
        refine n_iload_n c_22_40 rfl ?_
        refine n_ialoadV c_22_41 sc_7.n rfl rfl rfl (by omega) (t_7k (z := 1) hS (by omega) (by omega) (by omega)) ?_
        intro z20 ez20 f21
        refine n_istore (L2 := [some (2, 44), some (2, 4), some (0, 1), some (0, z16), some (0, z18), some (0, z20)]) c_22_42 rfl rfl ?_
        refine n_iload_n c_22_44 rfl ?_
        refine n_iload c_22_45 rfl ?_
        refine n_if2_eq c_22_47 (by omega) (by omega) ?_ ?_
        · intro h22
          refine n_aload_n c_22_56 rfl ?_
          refine n_getR c_22_57 sc_44.n rfl rfl rfl r_44_4 ?_
          refine n_iload_n c_22_60 rfl ?_
          refine n_iload_n c_22_61 rfl ?_
          refine n_iastoreV hS c_22_62 sc_45.n rfl (by omega) (w_45 (by omega) (by omega)) ?_
          intro M23 eM23 hS23
          have g23_0 : M23 44 2 = M 44 2 := by rw [eM23]; exact nu_a (by omega)
          refine n_goto c_22_63 ?_
          refine n_iinc (L2 := [some (2, 44), some (2, 4), some (0, (1 + (-1))), some (0, z16), some (0, z18), some (0, z20)]) c_22_101 rfl rfl rfl ?_
          refine n_goto c_22_104 ?_
          refine n_fg (le_s (le_s (le_s (le_n (le_n (le_n le_0)))))) ?_
          exact ih _ M23 hS23 (by omega) (by omega) (by omega) (by omega) (by omega) (by omega) (by omega) (by omega) (by omega)
        · intro h24
          exfalso; omega
    · skip
      refine n_iload_n c_22_17 rfl ?_
      refine n_if0_lt c_22_18 (by omega) ?_ ?_
      · intro h25
        exfalso; omega
      · intro h26
        refine n_aload_n c_22_21 rfl ?_
        refine n_getR c_22_22 sc_4.n rfl rfl rfl r_4_2 ?_
        refine n_iload_n c_22_25 rfl ?_
        refine n_ialoadV c_22_26 sc_5.n rfl rfl rfl (by omega) (t_5k (z := 0) hS (by omega) (by omega) (by omega)) ?_
        intro z27 ez27 f28
        refine n_istore_n (L2 := [some (2, 44), some (2, 4), some (0, 2), some (0, z27), none, none]) c_22_27 rfl rfl ?_
        refine n_aload_n c_22_28 rfl ?_
        refine n_getR c_22_29 sc_4.n rfl rfl rfl r_4_3 ?_
        refine n_iload_n c_22_32 rfl ?_
        refine n_ialoadV c_22_33 sc_6.n rfl rfl rfl (by omega) (t_6k (z := 0) hS (by omega) (by omega) (by omega)) ?_
        intro z29 ez29 f30
        refine n_istore (L2 := [some (2, 44), some (2, 4), some (0, 2), some (0, z27), some (0, z29), none]) c_22_34 rfl rfl ?_
        refine n_aload_n c_22_36 rfl ?_
        refine n_getR c_22_37 sc_4.n rfl rfl rfl r_4_4 ?_
        refine n_iload_n c_22_40 rfl ?_
        refine n_ialoadV c_22_41 sc_7.n rfl rfl rfl (by omega) (t_7k (z := 2) hS (by omega) (by omega) (by omega)) ?_
        intro z31 ez31 f32
        refine n_istore (L2 := [some (2, 44), some (2, 4), some (0, 2), some (0, z27), some (0, z29), some (0, z31)]) c_22_42 rfl rfl ?_
        refine n_iload_n c_22_44 rfl ?_
        refine n_iload c_22_45 rfl ?_
        refine n_if2_eq c_22_47 (by omega) (by omega) ?_ ?_
        · intro h33
          refine n_aload_n c_22_56 rfl ?_
          refine n_getR c_22_57 sc_44.n rfl rfl rfl r_44_4 ?_
          refine n_iload_n c_22_60 rfl ?_
          refine n_iload_n c_22_61 rfl ?_
          refine n_iastoreV hS c_22_62 sc_45.n rfl (by omega) (w_45 (by omega) (by omega)) ?_
          intro M34 eM34 hS34
          have g34_0 : M34 44 2 = M 44 2 := by rw [eM34]; exact nu_a (by omega)
          refine n_goto c_22_63 ?_
          refine n_iinc (L2 := [some (2, 44), some (2, 4), some (0, (2 + (-1))), some (0, z27), some (0, z29), some (0, z31)]) c_22_101 rfl rfl rfl ?_
          refine n_goto c_22_104 ?_
          refine n_fg (le_s (le_s (le_s (le_n (le_n (le_n le_0)))))) ?_
          exact ih _ M34 hS34 (by omega) (by omega) (by omega) (by omega) (by omega) (by omega) (by omega) (by omega) (by omega)
        · intro h35
          exfalso; omega
    · skip
      refine n_iload_n c_22_17 rfl ?_
      refine n_if0_lt c_22_18 (by omega) ?_ ?_
      · intro h36
        exfalso; omega
      · intro h37
        refine n_aload_n c_22_21 rfl ?_
        refine n_getR c_22_22 sc_4.n rfl rfl rfl r_4_2 ?_
        refine n_iload_n c_22_25 rfl ?_
        refine n_ialoadV c_22_26 sc_5.n rfl rfl rfl (by omega) (t_5k (z := 0) hS (by omega) (by omega) (by omega)) ?_
        intro z38 ez38 f39
        refine n_istore_n (L2 := [some (2, 44), some (2, 4), some (0, 3), some (0, z38), none, none]) c_22_27 rfl rfl ?_
        refine n_aload_n c_22_28 rfl ?_
        refine n_getR c_22_29 sc_4.n rfl rfl rfl r_4_3 ?_
        refine n_iload_n c_22_32 rfl ?_
        refine n_ialoadV c_22_33 sc_6.n rfl rfl rfl (by omega) (t_6k (z := 1) hS (by omega) (by omega) (by omega)) ?_
        intro z40 ez40 f41
        refine n_istore (L2 := [some (2, 44), some (2, 4), some (0, 3), some (0, z38), some (0, z40), none]) c_22_34 rfl rfl ?_
        refine n_aload_n c_22_36 rfl ?_
        refine n_getR c_22_37 sc_4.n rfl rfl rfl r_4_4 ?_
        refine n_iload_n c_22_40 rfl ?_
        refine n_ialoadV c_22_41 sc_7.n rfl rfl rfl (by omega) (t_7k (z := 0) hS (by omega) (by omega) (by omega)) ?_
        intro z42 ez42 f43
        refine n_istore (L2 := [some (2, 44), some (2, 4), some (0, 3), some (0, z38), some (0, z40), some (0, z42)]) c_22_42 rfl rfl ?_
        refine n_iload_n c_22_44 rfl ?_
        refine n_iload c_22_45 rfl ?_
        refine n_if2_eq c_22_47 (by omega) (by omega) ?_ ?_
        · intro h44
          exfalso; omega
        · intro h45
          refine n_iload_n c_22_50 rfl ?_
          refine n_iload c_22_51 rfl ?_
          refine n_if2_ne c_22_53 (by omega) (by omega) ?_ ?_
          · intro h46
            exfalso; omega
          · intro h47
            refine n_aload_n c_22_56 rfl ?_
            refine n_getR c_22_57 sc_44.n rfl rfl rfl r_44_4 ?_
            refine n_iload_n c_22_60 rfl ?_
            refine n_iload_n c_22_61 rfl ?_
            refine n_iastoreV hS c_22_62 sc_45.n rfl (by omega) (w_45 (by omega) (by omega)) ?_
            intro M48 eM48 hS48
            have g48_0 : M48 44 2 = M 44 2 := by rw [eM48]; exact nu_a (by omega)
            refine n_goto c_22_63 ?_
            refine n_iinc (L2 := [some (2, 44), some (2, 4), some (0, (3 + (-1))), some (0, z38), some (0, z40), some (0, z42)]) c_22_101 rfl rfl rfl ?_
            refine n_goto c_22_104 ?_
            refine n_fg (le_s (le_s (le_s (le_n (le_n (le_n le_0)))))) ?_
            exact ih _ M48 hS48 (by omega) (by omega) (by omega) (by omega) (by omega) (by omega) (by omega) (by omega) (by omega)
    · skip
      refine n_iload_n c_22_17 rfl ?_
      refine n_if0_lt c_22_18 (by omega) ?_ ?_
      · intro h49
        exfalso; omega
      · intro h50
        refine n_aload_n c_22_21 rfl ?_
        refine n_getR c_22_22 sc_4.n rfl rfl rfl r_4_2 ?_
        refine n_iload_n c_22_25 rfl ?_
        refine n_ialoadV c_22_26 sc_5.n rfl rfl rfl (by omega) (t_5k (z := 0) hS (by omega) (by omega) (by omega)) ?_
        intro z51 ez51 f52
        refine n_istore_n (L2 := [some (2, 44), some (2, 4), some (0, 4), some (0, z51), none, none]) c_22_27 rfl rfl ?_
        refine n_aload_n c_22_28 rfl ?_
        refine n_getR c_22_29 sc_4.n rfl rfl rfl r_4_3 ?_
        refine n_iload_n c_22_32 rfl ?_
        refine n_ialoadV c_22_33 sc_6.n rfl rfl rfl (by omega) (t_6k (z := 1) hS (by omega) (by omega) (by omega)) ?_
        intro z53 ez53 f54
        refine n_istore (L2 := [some (2, 44), some (2, 4), some (0, 4), some (0, z51), some (0, z53), none]) c_22_34 rfl rfl ?_
        refine n_aload_n c_22_36 rfl ?_
        refine n_getR c_22_37 sc_4.n rfl rfl rfl r_4_4 ?_
        refine n_iload_n c_22_40 rfl ?_
        refine n_ialoadV c_22_41 sc_7.n rfl rfl rfl (by omega) (t_7k (z := 1) hS (by omega) (by omega) (by omega)) ?_
        intro z55 ez55 f56
        refine n_istore (L2 := [some (2, 44), some (2, 4), some (0, 4), some (0, z51), some (0, z53), some (0, z55)]) c_22_42 rfl rfl ?_
        refine n_iload_n c_22_44 rfl ?_
        refine n_iload c_22_45 rfl ?_
        refine n_if2_eq c_22_47 (by omega) (by omega) ?_ ?_
        · intro h57
          exfalso; omega
        · intro h58
          refine n_iload_n c_22_50 rfl ?_
          refine n_iload c_22_51 rfl ?_
          refine n_if2_ne c_22_53 (by omega) (by omega) ?_ ?_
          · intro h59
            refine n_iload c_22_66 rfl ?_
            refine n_iload c_22_68 rfl ?_
            refine n_if2_ne c_22_70 (by omega) (by omega) ?_ ?_
            · intro h60
              exfalso; omega
            · intro h61
              refine n_aload_n c_22_73 rfl ?_
              refine n_getR c_22_74 sc_44.n rfl rfl rfl r_44_4 ?_
              refine n_iload_n c_22_77 rfl ?_
              refine n_iload c_22_78 rfl ?_
              refine n_iastoreV hS c_22_80 sc_45.n rfl (by omega) (w_45 (by omega) (by omega)) ?_
              intro M62 eM62 hS62
              have g62_0 : M62 44 2 = M 44 2 := by rw [eM62]; exact nu_a (by omega)
              refine n_goto c_22_81 ?_
              refine n_iinc (L2 := [some (2, 44), some (2, 4), some (0, (4 + (-1))), some (0, z51), some (0, z53), some (0, z55)]) c_22_101 rfl rfl rfl ?_
              refine n_goto c_22_104 ?_
              refine n_fg (le_s (le_s (le_s (le_n (le_n (le_n le_0)))))) ?_
              exact ih _ M62 hS62 (by omega) (by omega) (by omega) (by omega) (by omega) (by omega) (by omega) (by omega) (by omega)
          · intro h63
            exfalso; omega
    · skip
      refine n_iload_n c_22_17 rfl ?_
      refine n_if0_lt c_22_18 (by omega) ?_ ?_
      · intro h64
        exfalso; omega
      · intro h65
        refine n_aload_n c_22_21 rfl ?_
        refine n_getR c_22_22 sc_4.n rfl rfl rfl r_4_2 ?_
        refine n_iload_n c_22_25 rfl ?_
        refine n_ialoadV c_22_26 sc_5.n rfl rfl rfl (by omega) (t_5k (z := 0) hS (by omega) (by omega) (by omega)) ?_
        intro z66 ez66 f67
        refine n_istore_n (L2 := [some (2, 44), some (2, 4), some (0, 5), some (0, z66), none, none]) c_22_27 rfl rfl ?_
        refine n_aload_n c_22_28 rfl ?_
        refine n_getR c_22_29 sc_4.n rfl rfl rfl r_4_3 ?_
        refine n_iload_n c_22_32 rfl ?_
        refine n_ialoadV c_22_33 sc_6.n rfl rfl rfl (by omega) (t_6k (z := 1) hS (by omega) (by omega) (by omega)) ?_
        intro z68 ez68 f69
        refine n_istore (L2 := [some (2, 44), some (2, 4), some (0, 5), some (0, z66), some (0, z68), none]) c_22_34 rfl rfl ?_
        refine n_aload_n c_22_36 rfl ?_
        refine n_getR c_22_37 sc_4.n rfl rfl rfl r_4_4 ?_
        refine n_iload_n c_22_40 rfl ?_
        refine n_ialoadV c_22_41 sc_7.n rfl rfl rfl (by omega) (t_7k (z := 2) hS (by omega) (by omega) (by omega)) ?_
        intro z70 ez70 f71
        refine n_istore (L2 := [some (2, 44), some (2, 4), some (0, 5), some (0, z66), some (0, z68), some (0, z70)]) c_22_42 rfl rfl ?_
        refine n_iload_n c_22_44 rfl ?_
        refine n_iload c_22_45 rfl ?_
        refine n_if2_eq c_22_47 (by omega) (by omega) ?_ ?_
        · intro h72
          exfalso; omega
        · intro h73
          refine n_iload_n c_22_50 rfl ?_
          refine n_iload c_22_51 rfl ?_
          refine n_if2_ne c_22_53 (by omega) (by omega) ?_ ?_
          · intro h74
            refine n_iload c_22_66 rfl ?_
            refine n_iload c_22_68 rfl ?_
            refine n_if2_ne c_22_70 (by omega) (by omega) ?_ ?_
            · intro h75
              refine n_aload_n c_22_84 rfl ?_
              refine n_getR c_22_85 sc_44.n rfl rfl rfl r_44_4 ?_
              refine n_iload_n c_22_88 rfl ?_
              refine n_aload_n c_22_89 rfl ?_
              refine n_dup2 c_22_90 ?_
              refine n_getV (bi := 2) c_22_91 sc_44.n rfl rfl rfl (t_44_2 hS) ?_
              intro z76 ez76 f77
              refine n_dup_x102 c_22_94 ?_
              refine n_iconst c_22_95 ?_
              refine n_iadd c_22_96 rfl ?_
              refine n_putV (bi := 2) hS c_22_97 sc_44.n rfl rfl rfl rfl (w_44_2 (by omega)) ?_
              intro M78 eM78 hS78
              have g78_0 : M78 44 2 = (z76 + 1) := by rw [eM78]; exact nu_s _ _ _ _
              refine n_iastoreV hS78 c_22_100 sc_45.n rfl (by omega) (w_45 (by omega) (by omega)) ?_
              intro M79 eM79 hS79
              have g79_0 : M79 44 2 = M78 44 2 := by rw [eM79]; exact nu_a (by omega)
              refine n_iinc (L2 := [some (2, 44), some (2, 4), some (0, (5 + (-1))), some (0, z66), some (0, z68), some (0, z70)]) c_22_101 rfl rfl rfl ?_
              refine n_goto c_22_104 ?_
              refine n_fg (le_s (le_s (le_s (le_n (le_n (le_n le_0)))))) ?_
              exact ih _ M79 hS79 (by omega) (by omega) (by omega) (by omega) (by omega) (by omega) (by omega) (by omega) (by omega)
            · intro h80
              exfalso; omega
          · intro h81
            exfalso; omega
    · skip
      refine n_iload_n c_22_17 rfl ?_
      refine n_if0_lt c_22_18 (by omega) ?_ ?_
      · intro h82
        exfalso; omega
      · intro h83
        refine n_aload_n c_22_21 rfl ?_
        refine n_getR c_22_22 sc_4.n rfl rfl rfl r_4_2 ?_
        refine n_iload_n c_22_25 rfl ?_
        refine n_ialoadV c_22_26 sc_5.n rfl rfl rfl (by omega) (t_5k (z := 0) hS (by omega) (by omega) (by omega)) ?_
        intro z84 ez84 f85
        refine n_istore_n (L2 := [some (2, 44), some (2, 4), some (0, 6), some (0, z84), none, none]) c_22_27 rfl rfl ?_
        refine n_aload_n c_22_28 rfl ?_
        refine n_getR c_22_29 sc_4.n rfl rfl rfl r_4_3 ?_
        refine n_iload_n c_22_32 rfl ?_
        refine n_ialoadV c_22_33 sc_6.n rfl rfl rfl (by omega) (t_6k (z := 2) hS (by omega) (by omega) (by omega)) ?_
        intro z86 ez86 f87
        refine n_istore (L2 := [some (2, 44), some (2, 4), some (0, 6), some (0, z84), some (0, z86), none]) c_22_34 rfl rfl ?_
        refine n_aload_n c_22_36 rfl ?_
        refine n_getR c_22_37 sc_4.n rfl rfl rfl r_4_4 ?_
        refine n_iload_n c_22_40 rfl ?_
        refine n_ialoadV c_22_41 sc_7.n rfl rfl rfl (by omega) (t_7k (z := 0) hS (by omega) (by omega) (by omega)) ?_
        intro z88 ez88 f89
        refine n_istore (L2 := [some (2, 44), some (2, 4), some (0, 6), some (0, z84), some (0, z86), some (0, z88)]) c_22_42 rfl rfl ?_
        refine n_iload_n c_22_44 rfl ?_
        refine n_iload c_22_45 rfl ?_
        refine n_if2_eq c_22_47 (by omega) (by omega) ?_ ?_
        · intro h90
          exfalso; omega
        · intro h91
          refine n_iload_n c_22_50 rfl ?_
          refine n_iload c_22_51 rfl ?_
          refine n_if2_ne c_22_53 (by omega) (by omega) ?_ ?_
          · intro h92
            exfalso; omega
          · intro h93
            refine n_aload_n c_22_56 rfl ?_
            refine n_getR c_22_57 sc_44.n rfl rfl rfl r_44_4 ?_
            refine n_iload_n c_22_60 rfl ?_
            refine n_iload_n c_22_61 rfl ?_
            refine n_iastoreV hS c_22_62 sc_45.n rfl (by omega) (w_45 (by omega) (by omega)) ?_
            intro M94 eM94 hS94
            have g94_0 : M94 44 2 = M 44 2 := by rw [eM94]; exact nu_a (by omega)
            refine n_goto c_22_63 ?_
            refine n_iinc (L2 := [some (2, 44), some (2, 4), some (0, (6 + (-1))), some (0, z84), some (0, z86), some (0, z88)]) c_22_101 rfl rfl rfl ?_
            refine n_goto c_22_104 ?_
            refine n_fg (le_s (le_s (le_s (le_n (le_n (le_n le_0)))))) ?_
            exact ih _ M94 hS94 (by omega) (by omega) (by omega) (by omega) (by omega) (by omega) (by omega) (by omega) (by omega)
    · skip
      refine n_iload_n c_22_17 rfl ?_
      refine n_if0_lt c_22_18 (by omega) ?_ ?_
      · intro h95
        exfalso; omega
      · intro h96
        refine n_aload_n c_22_21 rfl ?_
        refine n_getR c_22_22 sc_4.n rfl rfl rfl r_4_2 ?_
        refine n_iload_n c_22_25 rfl ?_
        refine n_ialoadV c_22_26 sc_5.n rfl rfl rfl (by omega) (t_5k (z := 0) hS (by omega) (by omega) (by omega)) ?_
        intro z97 ez97 f98
        refine n_istore_n (L2 := [some (2, 44), some (2, 4), some (0, 7), some (0, z97), none, none]) c_22_27 rfl rfl ?_
        refine n_aload_n c_22_28 rfl ?_
        refine n_getR c_22_29 sc_4.n rfl rfl rfl r_4_3 ?_
        refine n_iload_n c_22_32 rfl ?_
        refine n_ialoadV c_22_33 sc_6.n rfl rfl rfl (by omega) (t_6k (z := 2) hS (by omega) (by omega) (by omega)) ?_
        intro z99 ez99 f100
        refine n_istore (L2 := [some (2, 44), some (2, 4), some (0, 7), some (0, z97), some (0, z99), none]) c_22_34 rfl rfl ?_
        refine n_aload_n c_22_36 rfl ?_
        refine n_getR c_22_37 sc_4.n rfl rfl rfl r_4_4 ?_
        refine n_iload_n c_22_40 rfl ?_
        refine n_ialoadV c_22_41 sc_7.n rfl rfl rfl (by omega) (t_7k (z := 1) hS (by omega) (by omega) (by omega)) ?_
        intro z101 ez101 f102
        refine n_istore (L2 := [some (2, 44), some (2, 4), some (0, 7), some (0, z97), some (0, z99), some (0, z101)]) c_22_42 rfl rfl ?_
        refine n_iload_n c_22_44 rfl ?_
        refine n_iload c_22_45 rfl ?_
        refine n_if2_eq c_22_47 (by omega) (by omega) ?_ ?_
        · intro h103
          exfalso; omega
        · intro h104
          refine n_iload_n c_22_50 rfl ?_
          refine n_iload c_22_51 rfl ?_
          refine n_if2_ne c_22_53 (by omega) (by omega) ?_ ?_
          · intro h105
            refine n_iload c_22_66 rfl ?_
            refine n_iload c_22_68 rfl ?_
            refine n_if2_ne c_22_70 (by omega) (by omega) ?_ ?_
            · intro h106
              refine n_aload_n c_22_84 rfl ?_
              refine n_getR c_22_85 sc_44.n rfl rfl rfl r_44_4 ?_
              refine n_iload_n c_22_88 rfl ?_
              refine n_aload_n c_22_89 rfl ?_
              refine n_dup2 c_22_90 ?_
              refine n_getV (bi := 2) c_22_91 sc_44.n rfl rfl rfl (t_44_2 hS) ?_
              intro z107 ez107 f108
              refine n_dup_x102 c_22_94 ?_
              refine n_iconst c_22_95 ?_
              refine n_iadd c_22_96 rfl ?_
              refine n_putV (bi := 2) hS c_22_97 sc_44.n rfl rfl rfl rfl (w_44_2 (by omega)) ?_
              intro M109 eM109 hS109
              have g109_0 : M109 44 2 = (z107 + 1) := by rw [eM109]; exact nu_s _ _ _ _
              refine n_iastoreV hS109 c_22_100 sc_45.n rfl (by omega) (w_45 (by omega) (by omega)) ?_
              intro M110 eM110 hS110
              have g110_0 : M110 44 2 = M109 44 2 := by rw [eM110]; exact nu_a (by omega)
              refine n_iinc (L2 := [some (2, 44), some (2, 4), some (0, (7 + (-1))), some (0, z97), some (0, z99), some (0, z101)]) c_22_101 rfl rfl rfl ?_
              refine n_goto c_22_104 ?_
              refine n_fg (le_s (le_s (le_s (le_n (le_n (le_n le_0)))))) ?_
              exact ih _ M110 hS110 (by omega) (by omega) (by omega) (by omega) (by omega) (by omega) (by omega) (by omega) (by omega)
            · intro h111
              exfalso; omega
          · intro h112
            exfalso; omega
    · skip
      refine n_iload_n c_22_17 rfl ?_
      refine n_if0_lt c_22_18 (by omega) ?_ ?_
      · intro h113
        exfalso; omega
      · intro h114
        refine n_aload_n c_22_21 rfl ?_
        refine n_getR c_22_22 sc_4.n rfl rfl rfl r_4_2 ?_
        refine n_iload_n c_22_25 rfl ?_
        refine n_ialoadV c_22_26 sc_5.n rfl rfl rfl (by omega) (t_5k (z := 0) hS (by omega) (by omega) (by omega)) ?_
        intro z115 ez115 f116
        refine n_istore_n (L2 := [some (2, 44), some (2, 4), some (0, 8), some (0, z115), none, none]) c_22_27 rfl rfl ?_
        refine n_aload_n c_22_28 rfl ?_
        refine n_getR c_22_29 sc_4.n rfl rfl rfl r_4_3 ?_
        refine n_iload_n c_22_32 rfl ?_
        refine n_ialoadV c_22_33 sc_6.n rfl rfl rfl (by omega) (t_6k (z := 2) hS (by omega) (by omega) (by omega)) ?_
        intro z117 ez117 f118
        refine n_istore (L2 := [some (2, 44), some (2, 4), some (0, 8), some (0, z115), some (0, z117), none]) c_22_34 rfl rfl ?_
        refine n_aload_n c_22_36 rfl ?_
        refine n_getR c_22_37 sc_4.n rfl rfl rfl r_4_4 ?_
        refine n_iload_n c_22_40 rfl ?_
        refine n_ialoadV c_22_41 sc_7.n rfl rfl rfl (by omega) (t_7k (z := 2) hS (by omega) (by omega) (by omega)) ?_
        intro z119 ez119 f120
        refine n_istore (L2 := [some (2, 44), some (2, 4), some (0, 8), some (0, z115), some (0, z117), some (0, z119)]) c_22_42 rfl rfl ?_
        refine n_iload_n c_22_44 rfl ?_
        refine n_iload c_22_45 rfl ?_
        refine n_if2_eq c_22_47 (by omega) (by omega) ?_ ?_
        · intro h121
          exfalso; omega
        · intro h122
          refine n_iload_n c_22_50 rfl ?_
          refine n_iload c_22_51 rfl ?_
          refine n_if2_ne c_22_53 (by omega) (by omega) ?_ ?_
          · intro h123
            refine n_iload c_22_66 rfl ?_
            refine n_iload c_22_68 rfl ?_
            refine n_if2_ne c_22_70 (by omega) (by omega) ?_ ?_
            · intro h124
              exfalso; omega
            · intro h125
              refine n_aload_n c_22_73 rfl ?_
              refine n_getR c_22_74 sc_44.n rfl rfl rfl r_44_4 ?_
              refine n_iload_n c_22_77 rfl ?_
              refine n_iload c_22_78 rfl ?_
              refine n_iastoreV hS c_22_80 sc_45.n rfl (by omega) (w_45 (by omega) (by omega)) ?_
              intro M126 eM126 hS126
              have g126_0 : M126 44 2 = M 44 2 := by rw [eM126]; exact nu_a (by omega)
              refine n_goto c_22_81 ?_
              refine n_iinc (L2 := [some (2, 44), some (2, 4), some (0, (8 + (-1))), some (0, z115), some (0, z117), some (0, z119)]) c_22_101 rfl rfl rfl ?_
              refine n_goto c_22_104 ?_
              refine n_fg (le_s (le_s (le_s (le_n (le_n (le_n le_0)))))) ?_
              exact ih _ M126 hS126 (by omega) (by omega) (by omega) (by omega) (by omega) (by omega) (by omega) (by omega) (by omega)
          · intro h127
            exfalso; omega
    · skip
      refine n_iload_n c_22_17 rfl ?_
      refine n_if0_lt c_22_18 (by omega) ?_ ?_
      · intro h128
        exfalso; omega
      · intro h129
        refine n_aload_n c_22_21 rfl ?_
        refine n_getR c_22_22 sc_4.n rfl rfl rfl r_4_2 ?_
        refine n_iload_n c_22_25 rfl ?_
        refine n_ialoadV c_22_26 sc_5.n rfl rfl rfl (by omega) (t_5k (z := 1) hS (by omega) (by omega) (by omega)) ?_
        intro z130 ez130 f131
        refine n_istore_n (L2 := [some (2, 44), some (2, 4), some (0, 9), some (0, z130), none, none]) c_22_27 rfl rfl ?_
        refine n_aload_n c_22_28 rfl ?_
        refine n_getR c_22_29 sc_4.n rfl rfl rfl r_4_3 ?_
        refine n_iload_n c_22_32 rfl ?_
        refine n_ialoadV c_22_33 sc_6.n rfl rfl rfl (by omega) (t_6k (z := 0) hS (by omega) (by omega) (by omega)) ?_
        intro z132 ez132 f133
        refine n_istore (L2 := [some (2, 44), some (2, 4), some (0, 9), some (0, z130), some (0, z132), none]) c_22_34 rfl rfl ?_
        refine n_aload_n c_22_36 rfl ?_
        refine n_getR c_22_37 sc_4.n rfl rfl rfl r_4_4 ?_
        refine n_iload_n c_22_40 rfl ?_
        refine n_ialoadV c_22_41 sc_7.n rfl rfl rfl (by omega) (t_7k (z := 0) hS (by omega) (by omega) (by omega)) ?_
        intro z134 ez134 f135
        refine n_istore (L2 := [some (2, 44), some (2, 4), some (0, 9), some (0, z130), some (0, z132), some (0, z134)]) c_22_42 rfl rfl ?_
        refine n_iload_n c_22_44 rfl ?_
        refine n_iload c_22_45 rfl ?_
        refine n_if2_eq c_22_47 (by omega) (by omega) ?_ ?_
        · intro h136
          exfalso; omega
        · intro h137
          refine n_iload_n c_22_50 rfl ?_
          refine n_iload c_22_51 rfl ?_
          refine n_if2_ne c_22_53 (by omega) (by omega) ?_ ?_
          · intro h138
            refine n_iload c_22_66 rfl ?_
            refine n_iload c_22_68 rfl ?_
            refine n_if2_ne c_22_70 (by omega) (by omega) ?_ ?_
            · intro h139
              exfalso; omega
            · intro h140
              refine n_aload_n c_22_73 rfl ?_
              refine n_getR c_22_74 sc_44.n rfl rfl rfl r_44_4 ?_
              refine n_iload_n c_22_77 rfl ?_
              refine n_iload c_22_78 rfl ?_
              refine n_iastoreV hS c_22_80 sc_45.n rfl (by omega) (w_45 (by omega) (by omega)) ?_
              intro M141 eM141 hS141
              have g141_0 : M141 44 2 = M 44 2 := by rw [eM141]; exact nu_a (by omega)
              refine n_goto c_22_81 ?_
              refine n_iinc (L2 := [some (2, 44), some (2, 4), some (0, (9 + (-1))), some (0, z130), some (0, z132), some (0, z134)]) c_22_101 rfl rfl rfl ?_
              refine n_goto c_22_104 ?_
              refine n_fg (le_s (le_s (le_s (le_n (le_n (le_n le_0)))))) ?_
              exact ih _ M141 hS141 (by omega) (by omega) (by omega) (by omega) (by omega) (by omega) (by omega) (by omega) (by omega)
          · intro h142
            exfalso; omega
    · skip
      refine n_iload_n c_22_17 rfl ?_
      refine n_if0_lt c_22_18 (by omega) ?_ ?_
      · intro h143
        exfalso; omega
      · intro h144
        refine n_aload_n c_22_21 rfl ?_
        refine n_getR c_22_22 sc_4.n rfl rfl rfl r_4_2 ?_
        refine n_iload_n c_22_25 rfl ?_
        refine n_ialoadV c_22_26 sc_5.n rfl rfl rfl (by omega) (t_5k (z := 1) hS (by omega) (by omega) (by omega)) ?_
        intro z145 ez145 f146
        refine n_istore_n (L2 := [some (2, 44), some (2, 4), some (0, 10), some (0, z145), none, none]) c_22_27 rfl rfl ?_
        refine n_aload_n c_22_28 rfl ?_
        refine n_getR c_22_29 sc_4.n rfl rfl rfl r_4_3 ?_
        refine n_iload_n c_22_32 rfl ?_
        refine n_ialoadV c_22_33 sc_6.n rfl rfl rfl (by omega) (t_6k (z := 0) hS (by omega) (by omega) (by omega)) ?_
        intro z147 ez147 f148
        refine n_istore (L2 := [some (2, 44), some (2, 4), some (0, 10), some (0, z145), some (0, z147), none]) c_22_34 rfl rfl ?_
        refine n_aload_n c_22_36 rfl ?_
        refine n_getR c_22_37 sc_4.n rfl rfl rfl r_4_4 ?_
        refine n_iload_n c_22_40 rfl ?_
        refine n_ialoadV c_22_41 sc_7.n rfl rfl rfl (by omega) (t_7k (z := 1) hS (by omega) (by omega) (by omega)) ?_
        intro z149 ez149 f150
        refine n_istore (L2 := [some (2, 44), some (2, 4), some (0, 10), some (0, z145), some (0, z147), some (0, z149)]) c_22_42 rfl rfl ?_
        refine n_iload_n c_22_44 rfl ?_
        refine n_iload c_22_45 rfl ?_
        refine n_if2_eq c_22_47 (by omega) (by omega) ?_ ?_
        · intro h151
          exfalso; omega
        · intro h152
          refine n_iload_n c_22_50 rfl ?_
          refine n_iload c_22_51 rfl ?_
          refine n_if2_ne c_22_53 (by omega) (by omega) ?_ ?_
          · intro h153
            exfalso; omega
          · intro h154
            refine n_aload_n c_22_56 rfl ?_
            refine n_getR c_22_57 sc_44.n rfl rfl rfl r_44_4 ?_
            refine n_iload_n c_22_60 rfl ?_
            refine n_iload_n c_22_61 rfl ?_
            refine n_iastoreV hS c_22_62 sc_45.n rfl (by omega) (w_45 (by omega) (by omega)) ?_
            intro M155 eM155 hS155
            have g155_0 : M155 44 2 = M 44 2 := by rw [eM155]; exact nu_a (by omega)
            refine n_goto c_22_63 ?_
            refine n_iinc (L2 := [some (2, 44), some (2, 4), some (0, (10 + (-1))), some (0, z145), some (0, z147), some (0, z149)]) c_22_101 rfl rfl rfl ?_
            refine n_goto c_22_104 ?_
            refine n_fg (le_s (le_s (le_s (le_n (le_n (le_n le_0)))))) ?_
            exact ih _ M155 hS155 (by omega) (by omega) (by omega) (by omega) (by omega) (by omega) (by omega) (by omega) (by omega)
    · skip
      refine n_iload_n c_22_17 rfl ?_
      refine n_if0_lt c_22_18 (by omega) ?_ ?_
      · intro h156
        exfalso; omega
      · intro h157
        refine n_aload_n c_22_21 rfl ?_
        refine n_getR c_22_22 sc_4.n rfl rfl rfl r_4_2 ?_
        refine n_iload_n c_22_25 rfl ?_
        refine n_ialoadV c_22_26 sc_5.n rfl rfl rfl (by omega) (t_5k (z := 1) hS (by omega) (by omega) (by omega)) ?_
        intro z158 ez158 f159
        refine n_istore_n (L2 := [some (2, 44), some (2, 4), some (0, 11), some (0, z158), none, none]) c_22_27 rfl rfl ?_
        refine n_aload_n c_22_28 rfl ?_
        refine n_getR c_22_29 sc_4.n rfl rfl rfl r_4_3 ?_
        refine n_iload_n c_22_32 rfl ?_
        refine n_ialoadV c_22_33 sc_6.n rfl rfl rfl (by omega) (t_6k (z := 0) hS (by omega) (by omega) (by omega)) ?_
        intro z160 ez160 f161
        refine n_istore (L2 := [some (2, 44), some (2, 4), some (0, 11), some (0, z158), some (0, z160), none]) c_22_34 rfl rfl ?_
        refine n_aload_n c_22_36 rfl ?_
        refine n_getR c_22_37 sc_4.n rfl rfl rfl r_4_4 ?_
        refine n_iload_n c_22_40 rfl ?_
        refine n_ialoadV c_22_41 sc_7.n rfl rfl rfl (by omega) (t_7k (z := 2) hS (by omega) (by omega) (by omega)) ?_
        intro z162 ez162 f163
        refine n_istore (L2 := [some (2, 44), some (2, 4), some (0, 11), some (0, z158), some (0, z160), some (0, z162)]) c_22_42 rfl rfl ?_
        refine n_iload_n c_22_44 rfl ?_
        refine n_iload c_22_45 rfl ?_
        refine n_if2_eq c_22_47 (by omega) (by omega) ?_ ?_
        · intro h164
          exfalso; omega
        · intro h165
          refine n_iload_n c_22_50 rfl ?_
          refine n_iload c_22_51 rfl ?_
          refine n_if2_ne c_22_53 (by omega) (by omega) ?_ ?_
          · intro h166
            refine n_iload c_22_66 rfl ?_
            refine n_iload c_22_68 rfl ?_
            refine n_if2_ne c_22_70 (by omega) (by omega) ?_ ?_
            · intro h167
              refine n_aload_n c_22_84 rfl ?_
              refine n_getR c_22_85 sc_44.n rfl rfl rfl r_44_4 ?_
              refine n_iload_n c_22_88 rfl ?_
              refine n_aload_n c_22_89 rfl ?_
              refine n_dup2 c_22_90 ?_
              refine n_getV (bi := 2) c_22_91 sc_44.n rfl rfl rfl (t_44_2 hS) ?_
              intro z168 ez168 f169
              refine n_dup_x102 c_22_94 ?_
              refine n_iconst c_22_95 ?_
              refine n_iadd c_22_96 rfl ?_
              refine n_putV (bi := 2) hS c_22_97 sc_44.n rfl rfl rfl rfl (w_44_2 (by omega)) ?_
              intro M170 eM170 hS170
              have g170_0 : M170 44 2 = (z168 + 1) := by rw [eM170]; exact nu_s _ _ _ _
              refine n_iastoreV hS170 c_22_100 sc_45.n rfl (by omega) (w_45 (by omega) (by omega)) ?_
              intro M171 eM171 hS171
              have g171_0 : M171 44 2 = M170 44 2 := by rw [eM171]; exact nu_a (by omega)
              refine n_iinc (L2 := [some (2, 44), some (2, 4), some (0, (11 + (-1))), some (0, z158), some (0, z160), some (0, z162)]) c_22_101 rfl rfl rfl ?_
              refine n_goto c_22_104 ?_
              refine n_fg (le_s (le_s (le_s (le_n (le_n (le_n le_0)))))) ?_
              exact ih _ M171 hS171 (by omega) (by omega) (by omega) (by omega) (by omega) (by omega) (by omega) (by omega) (by omega)
            · intro h172
              exfalso; omega
          · intro h173
            exfalso; omega
    · skip
      refine n_iload_n c_22_17 rfl ?_
      refine n_if0_lt c_22_18 (by omega) ?_ ?_
      · intro h174
        exfalso; omega
      · intro h175
        refine n_aload_n c_22_21 rfl ?_
        refine n_getR c_22_22 sc_4.n rfl rfl rfl r_4_2 ?_
        refine n_iload_n c_22_25 rfl ?_
        refine n_ialoadV c_22_26 sc_5.n rfl rfl rfl (by omega) (t_5k (z := 1) hS (by omega) (by omega) (by omega)) ?_
        intro z176 ez176 f177
        refine n_istore_n (L2 := [some (2, 44), some (2, 4), some (0, 12), some (0, z176), none, none]) c_22_27 rfl rfl ?_
        refine n_aload_n c_22_28 rfl ?_
        refine n_getR c_22_29 sc_4.n rfl rfl rfl r_4_3 ?_
        refine n_iload_n c_22_32 rfl ?_
        refine n_ialoadV c_22_33 sc_6.n rfl rfl rfl (by omega) (t_6k (z := 1) hS (by omega) (by omega) (by omega)) ?_
        intro z178 ez178 f179
        refine n_istore (L2 := [some (2, 44), some (2, 4), some (0, 12), some (0, z176), some (0, z178), none]) c_22_34 rfl rfl ?_
        refine n_aload_n c_22_36 rfl ?_
        refine n_getR c_22_37 sc_4.n rfl rfl rfl r_4_4 ?_
        refine n_iload_n c_22_40 rfl ?_
        refine n_ialoadV c_22_41 sc_7.n rfl rfl rfl (by omega) (t_7k (z := 0) hS (by omega) (by omega) (by omega)) ?_
        intro z180 ez180 f181
        refine n_istore (L2 := [some (2, 44), some (2, 4), some (0, 12), some (0, z176), some (0, z178), some (0, z180)]) c_22_42 rfl rfl ?_
        refine n_iload_n c_22_44 rfl ?_
        refine n_iload c_22_45 rfl ?_
        refine n_if2_eq c_22_47 (by omega) (by omega) ?_ ?_
        · intro h182
          refine n_aload_n c_22_56 rfl ?_
          refine n_getR c_22_57 sc_44.n rfl rfl rfl r_44_4 ?_
          refine n_iload_n c_22_60 rfl ?_
          refine n_iload_n c_22_61 rfl ?_
          refine n_iastoreV hS c_22_62 sc_45.n rfl (by omega) (w_45 (by omega) (by omega)) ?_
          intro M183 eM183 hS183
          have g183_0 : M183 44 2 = M 44 2 := by rw [eM183]; exact nu_a (by omega)
          refine n_goto c_22_63 ?_
          refine n_iinc (L2 := [some (2, 44), some (2, 4), some (0, (12 + (-1))), some (0, z176), some (0, z178), some (0, z180)]) c_22_101 rfl rfl rfl ?_
          refine n_goto c_22_104 ?_
          refine n_fg (le_s (le_s (le_s (le_n (le_n (le_n le_0)))))) ?_
          exact ih _ M183 hS183 (by omega) (by omega) (by omega) (by omega) (by omega) (by omega) (by omega) (by omega) (by omega)
        · intro h184
          exfalso; omega
    · skip
      refine n_iload_n c_22_17 rfl ?_
      refine n_if0_lt c_22_18 (by omega) ?_ ?_
      · intro h185
        exfalso; omega
      · intro h186
        refine n_aload_n c_22_21 rfl ?_
        refine n_getR c_22_22 sc_4.n rfl rfl rfl r_4_2 ?_
        refine n_iload_n c_22_25 rfl ?_
        refine n_ialoadV c_22_26 sc_5.n rfl rfl rfl (by omega) (t_5k (z := 1) hS (by omega) (by omega) (by omega)) ?_
        intro z187 ez187 f188
        refine n_istore_n (L2 := [some (2, 44), some (2, 4), some (0, 13), some (0, z187), none, none]) c_22_27 rfl rfl ?_
        refine n_aload_n c_22_28 rfl ?_
        refine n_getR c_22_29 sc_4.n rfl rfl rfl r_4_3 ?_
        refine n_iload_n c_22_32 rfl ?_
        refine n_ialoadV c_22_33 sc_6.n rfl rfl rfl (by omega) (t_6k (z := 1) hS (by omega) (by omega) (by omega)) ?_
        intro z189 ez189 f190
        refine n_istore (L2 := [some (2, 44), some (2, 4), some (0, 13), some (0, z187), some (0, z189), none]) c_22_34 rfl rfl ?_
        refine n_aload_n c_22_36 rfl ?_
        refine n_getR c_22_37 sc_4.n rfl rfl rfl r_4_4 ?_
        refine n_iload_n c_22_40 rfl ?_
        refine n_ialoadV c_22_41 sc_7.n rfl rfl rfl (by omega) (t_7k (z := 1) hS (by omega) (by omega) (by omega)) ?_
        intro z191 ez191 f192
        refine n_istore (L2 := [some (2, 44), some (2, 4), some (0, 13), some (0, z187), some (0, z189), some (0, z191)]) c_22_42 rfl rfl ?_
        refine n_iload_n c_22_44 rfl ?_
        refine n_iload c_22_45 rfl ?_
        refine n_if2_eq c_22_47 (by omega) (by omega) ?_ ?_
        · intro h193
          refine n_aload_n c_22_56 rfl ?_
          refine n_getR c_22_57 sc_44.n rfl rfl rfl r_44_4 ?_
          refine n_iload_n c_22_60 rfl ?_
          refine n_iload_n c_22_61 rfl ?_
          refine n_iastoreV hS c_22_62 sc_45.n rfl (by omega) (w_45 (by omega) (by omega)) ?_
          intro M194 eM194 hS194
          have g194_0 : M194 44 2 = M 44 2 := by rw [eM194]; exact nu_a (by omega)
          refine n_goto c_22_63 ?_
          refine n_iinc (L2 := [some (2, 44), some (2, 4), some (0, (13 + (-1))), some (0, z187), some (0, z189), some (0, z191)]) c_22_101 rfl rfl rfl ?_
          refine n_goto c_22_104 ?_
          refine n_fg (le_s (le_s (le_s (le_n (le_n (le_n le_0)))))) ?_
          exact ih _ M194 hS194 (by omega) (by omega) (by omega) (by omega) (by omega) (by omega) (by omega) (by omega) (by omega)
        · intro h195
          exfalso; omega
    · skip
      refine n_iload_n c_22_17 rfl ?_
      refine n_if0_lt c_22_18 (by omega) ?_ ?_
      · intro h196
        exfalso; omega
      · intro h197
        refine n_aload_n c_22_21 rfl ?_
        refine n_getR c_22_22 sc_4.n rfl rfl rfl r_4_2 ?_
        refine n_iload_n c_22_25 rfl ?_
        refine n_ialoadV c_22_26 sc_5.n rfl rfl rfl (by omega) (t_5k (z := 1) hS (by omega) (by omega) (by omega)) ?_
        intro z198 ez198 f199
        refine n_istore_n (L2 := [some (2, 44), some (2, 4), some (0, 14), some (0, z198), none, none]) c_22_27 rfl rfl ?_
        refine n_aload_n c_22_28 rfl ?_
        refine n_getR c_22_29 sc_4.n rfl rfl rfl r_4_3 ?_
        refine n_iload_n c_22_32 rfl ?_
        refine n_ialoadV c_22_33 sc_6.n rfl rfl rfl (by omega) (t_6k (z := 1) hS (by omega) (by omega) (by omega)) ?_
        intro z200 ez200 f201
        refine n_istore (L2 := [some (2, 44), some (2, 4), some (0, 14), some (0, z198), some (0, z200), none]) c_22_34 rfl rfl ?_
        refine n_aload_n c_22_36 rfl ?_
        refine n_getR c_22_37 sc_4.n rfl rfl rfl r_4_4 ?_
        refine n_iload_n c_22_40 rfl ?_
        refine n_ialoadV c_22_41 sc_7.n rfl rfl rfl (by omega) (t_7k (z := 2) hS (by omega) (by omega) (by omega)) ?_
        intro z202 ez202 f203
        refine n_istore (L2 := [some (2, 44), some (2, 4), some (0, 14), some (0, z198), some (0, z200), some (0, z202)]) c_22_42 rfl rfl ?_
        refine n_iload_n c_22_44 rfl ?_
        refine n_iload c_22_45 rfl ?_
        refine n_if2_eq c_22_47 (by omega) (by omega) ?_ ?_
        · intro h204
          refine n_aload_n c_22_56 rfl ?_
          refine n_getR c_22_57 sc_44.n rfl rfl rfl r_44_4 ?_
          refine n_iload_n c_22_60 rfl ?_
          refine n_iload_n c_22_61 rfl ?_
          refine n_iastoreV hS c_22_62 sc_45.n rfl (by omega) (w_45 (by omega) (by omega)) ?_
          intro M205 eM205 hS205
          have g205_0 : M205 44 2 = M 44 2 := by rw [eM205]; exact nu_a (by omega)
          refine n_goto c_22_63 ?_
          refine n_iinc (L2 := [some (2, 44), some (2, 4), some (0, (14 + (-1))), some (0, z198), some (0, z200), some (0, z202)]) c_22_101 rfl rfl rfl ?_
          refine n_goto c_22_104 ?_
          refine n_fg (le_s (le_s (le_s (le_n (le_n (le_n le_0)))))) ?_
          exact ih _ M205 hS205 (by omega) (by omega) (by omega) (by omega) (by omega) (by omega) (by omega) (by omega) (by omega)
        · intro h206
          exfalso; omega
    · skip
      refine n_iload_n c_22_17 rfl ?_
      refine n_if0_lt c_22_18 (by omega) ?_ ?_
      · intro h207
        exfalso; omega
      · intro h208
        refine n_aload_n c_22_21 rfl ?_
        refine n_getR c_22_22 sc_4.n rfl rfl rfl r_4_2 ?_
        refine n_iload_n c_22_25 rfl ?_
        refine n_ialoadV c_22_26 sc_5.n rfl rfl rfl (by omega) (t_5k (z := 1) hS (by omega) (by omega) (by omega)) ?_
        intro z209 ez209 f210
        refine n_istore_n (L2 := [some (2, 44), some (2, 4), some (0, 15), some (0, z209), none, none]) c_22_27 rfl rfl ?_
        refine n_aload_n c_22_28 rfl ?_
        refine n_getR c_22_29 sc_4.n rfl rfl rfl r_4_3 ?_
        refine n_iload_n c_22_32 rfl ?_
        refine n_ialoadV c_22_33 sc_6.n rfl rfl rfl (by omega) (t_6k (z := 2) hS (by omega) (by omega) (by omega)) ?_
        intro z211 ez211 f212
        refine n_istore (L2 := [some (2, 44), some (2, 4), some (0, 15), some (0, z209), some (0, z211), none]) c_22_34 rfl rfl ?_
        refine n_aload_n c_22_36 rfl ?_
        refine n_getR c_22_37 sc_4.n rfl rfl rfl r_4_4 ?_
        refine n_iload_n c_22_40 rfl ?_
        refine n_ialoadV c_22_41 sc_7.n rfl rfl rfl (by omega) (t_7k (z := 0) hS (by omega) (by omega) (by omega)) ?_
        intro z213 ez213 f214
        refine n_istore (L2 := [some (2, 44), some (2, 4), some (0, 15), some (0, z209), some (0, z211), some (0, z213)]) c_22_42 rfl rfl ?_
        refine n_iload_n c_22_44 rfl ?_
        refine n_iload c_22_45 rfl ?_
        refine n_if2_eq c_22_47 (by omega) (by omega) ?_ ?_
        · intro h215
          exfalso; omega
        · intro h216
          refine n_iload_n c_22_50 rfl ?_
          refine n_iload c_22_51 rfl ?_
          refine n_if2_ne c_22_53 (by omega) (by omega) ?_ ?_
          · intro h217
            refine n_iload c_22_66 rfl ?_
            refine n_iload c_22_68 rfl ?_
            refine n_if2_ne c_22_70 (by omega) (by omega) ?_ ?_
            · intro h218
              refine n_aload_n c_22_84 rfl ?_
              refine n_getR c_22_85 sc_44.n rfl rfl rfl r_44_4 ?_
              refine n_iload_n c_22_88 rfl ?_
              refine n_aload_n c_22_89 rfl ?_
              refine n_dup2 c_22_90 ?_
              refine n_getV (bi := 2) c_22_91 sc_44.n rfl rfl rfl (t_44_2 hS) ?_
              intro z219 ez219 f220
              refine n_dup_x102 c_22_94 ?_
              refine n_iconst c_22_95 ?_
              refine n_iadd c_22_96 rfl ?_
              refine n_putV (bi := 2) hS c_22_97 sc_44.n rfl rfl rfl rfl (w_44_2 (by omega)) ?_
              intro M221 eM221 hS221
              have g221_0 : M221 44 2 = (z219 + 1) := by rw [eM221]; exact nu_s _ _ _ _
              refine n_iastoreV hS221 c_22_100 sc_45.n rfl (by omega) (w_45 (by omega) (by omega)) ?_
              intro M222 eM222 hS222
              have g222_0 : M222 44 2 = M221 44 2 := by rw [eM222]; exact nu_a (by omega)
              refine n_iinc (L2 := [some (2, 44), some (2, 4), some (0, (15 + (-1))), some (0, z209), some (0, z211), some (0, z213)]) c_22_101 rfl rfl rfl ?_
              refine n_goto c_22_104 ?_
              refine n_fg (le_s (le_s (le_s (le_n (le_n (le_n le_0)))))) ?_
              exact ih _ M222 hS222 (by omega) (by omega) (by omega) (by omega) (by omega) (by omega) (by omega) (by omega) (by omega)
            · intro h223
              exfalso; omega
          · intro h224
            exfalso; omega
    · skip
      refine n_iload_n c_22_17 rfl ?_
      refine n_if0_lt c_22_18 (by omega) ?_ ?_
      · intro h225
        exfalso; omega
      · intro h226
        refine n_aload_n c_22_21 rfl ?_
        refine n_getR c_22_22 sc_4.n rfl rfl rfl r_4_2 ?_
        refine n_iload_n c_22_25 rfl ?_
        refine n_ialoadV c_22_26 sc_5.n rfl rfl rfl (by omega) (t_5k (z := 1) hS (by omega) (by omega) (by omega)) ?_
        intro z227 ez227 f228
        refine n_istore_n (L2 := [some (2, 44), some (2, 4), some (0, 16), some (0, z227), none, none]) c_22_27 rfl rfl ?_
        refine n_aload_n c_22_28 rfl ?_
        refine n_getR c_22_29 sc_4.n rfl rfl rfl r_4_3 ?_
        refine n_iload_n c_22_32 rfl ?_
        refine n_ialoadV c_22_33 sc_6.n rfl rfl rfl (by omega) (t_6k (z := 2) hS (by omega) (by omega) (by omega)) ?_
        intro z229 ez229 f230
        refine n_istore (L2 := [some (2, 44), some (2, 4), some (0, 16), some (0, z227), some (0, z229), none]) c_22_34 rfl rfl ?_
        refine n_aload_n c_22_36 rfl ?_
        refine n_getR c_22_37 sc_4.n rfl rfl rfl r_4_4 ?_
        refine n_iload_n c_22_40 rfl ?_
        refine n_ialoadV c_22_41 sc_7.n rfl rfl rfl (by omega) (t_7k (z := 1) hS (by omega) (by omega) (by omega)) ?_
        intro z231 ez231 f232
        refine n_istore (L2 := [some (2, 44), some (2, 4), some (0, 16), some (0, z227), some (0, z229), some (0, z231)]) c_22_42 rfl rfl ?_
        refine n_iload_n c_22_44 rfl ?_
        refine n_iload c_22_45 rfl ?_
        refine n_if2_eq c_22_47 (by omega) (by omega) ?_ ?_
        · intro h233
          exfalso; omega
        · intro h234
          refine n_iload_n c_22_50 rfl ?_
          refine n_iload c_22_51 rfl ?_
          refine n_if2_ne c_22_53 (by omega) (by omega) ?_ ?_
          · intro h235
            exfalso; omega
          · intro h236
            refine n_aload_n c_22_56 rfl ?_
            refine n_getR c_22_57 sc_44.n rfl rfl rfl r_44_4 ?_
            refine n_iload_n c_22_60 rfl ?_
            refine n_iload_n c_22_61 rfl ?_
            refine n_iastoreV hS c_22_62 sc_45.n rfl (by omega) (w_45 (by omega) (by omega)) ?_
            intro M237 eM237 hS237
            have g237_0 : M237 44 2 = M 44 2 := by rw [eM237]; exact nu_a (by omega)
            refine n_goto c_22_63 ?_
            refine n_iinc (L2 := [some (2, 44), some (2, 4), some (0, (16 + (-1))), some (0, z227), some (0, z229), some (0, z231)]) c_22_101 rfl rfl rfl ?_
            refine n_goto c_22_104 ?_
            refine n_fg (le_s (le_s (le_s (le_n (le_n (le_n le_0)))))) ?_
            exact ih _ M237 hS237 (by omega) (by omega) (by omega) (by omega) (by omega) (by omega) (by omega) (by omega) (by omega)
    · skip
      refine n_iload_n c_22_17 rfl ?_
      refine n_if0_lt c_22_18 (by omega) ?_ ?_
      · intro h238
        exfalso; omega
      · intro h239
        refine n_aload_n c_22_21 rfl ?_
        refine n_getR c_22_22 sc_4.n rfl rfl rfl r_4_2 ?_
        refine n_iload_n c_22_25 rfl ?_
        refine n_ialoadV c_22_26 sc_5.n rfl rfl rfl (by omega) (t_5k (z := 1) hS (by omega) (by omega) (by omega)) ?_
        intro z240 ez240 f241
        refine n_istore_n (L2 := [some (2, 44), some (2, 4), some (0, 17), some (0, z240), none, none]) c_22_27 rfl rfl ?_
        refine n_aload_n c_22_28 rfl ?_
        refine n_getR c_22_29 sc_4.n rfl rfl rfl r_4_3 ?_
        refine n_iload_n c_22_32 rfl ?_
        refine n_ialoadV c_22_33 sc_6.n rfl rfl rfl (by omega) (t_6k (z := 2) hS (by omega) (by omega) (by omega)) ?_
        intro z242 ez242 f243
        refine n_istore (L2 := [some (2, 44), some (2, 4), some (0, 17), some (0, z240), some (0, z242), none]) c_22_34 rfl rfl ?_
        refine n_aload_n c_22_36 rfl ?_
        refine n_getR c_22_37 sc_4.n rfl rfl rfl r_4_4 ?_
        refine n_iload_n c_22_40 rfl ?_
        refine n_ialoadV c_22_41 sc_7.n rfl rfl rfl (by omega) (t_7k (z := 2) hS (by omega) (by omega) (by omega)) ?_
        intro z244 ez244 f245
        refine n_istore (L2 := [some (2, 44), some (2, 4), some (0, 17), some (0, z240), some (0, z242), some (0, z244)]) c_22_42 rfl rfl ?_
        refine n_iload_n c_22_44 rfl ?_
        refine n_iload c_22_45 rfl ?_
        refine n_if2_eq c_22_47 (by omega) (by omega) ?_ ?_
        · intro h246
          exfalso; omega
        · intro h247
          refine n_iload_n c_22_50 rfl ?_
          refine n_iload c_22_51 rfl ?_
          refine n_if2_ne c_22_53 (by omega) (by omega) ?_ ?_
          · intro h248
            refine n_iload c_22_66 rfl ?_
            refine n_iload c_22_68 rfl ?_
            refine n_if2_ne c_22_70 (by omega) (by omega) ?_ ?_
            · intro h249
              exfalso; omega
            · intro h250
              refine n_aload_n c_22_73 rfl ?_
              refine n_getR c_22_74 sc_44.n rfl rfl rfl r_44_4 ?_
              refine n_iload_n c_22_77 rfl ?_
              refine n_iload c_22_78 rfl ?_
              refine n_iastoreV hS c_22_80 sc_45.n rfl (by omega) (w_45 (by omega) (by omega)) ?_
              intro M251 eM251 hS251
              have g251_0 : M251 44 2 = M 44 2 := by rw [eM251]; exact nu_a (by omega)
              refine n_goto c_22_81 ?_
              refine n_iinc (L2 := [some (2, 44), some (2, 4), some (0, (17 + (-1))), some (0, z240), some (0, z242), some (0, z244)]) c_22_101 rfl rfl rfl ?_
              refine n_goto c_22_104 ?_
              refine n_fg (le_s (le_s (le_s (le_n (le_n (le_n le_0)))))) ?_
              exact ih _ M251 hS251 (by omega) (by omega) (by omega) (by omega) (by omega) (by omega) (by omega) (by omega) (by omega)
          · intro h252
            exfalso; omega
    · skip
      refine n_iload_n c_22_17 rfl ?_
      refine n_if0_lt c_22_18 (by omega) ?_ ?_
      · intro h253
        exfalso; omega
      · intro h254
        refine n_aload_n c_22_21 rfl ?_
        refine n_getR c_22_22 sc_4.n rfl rfl rfl r_4_2 ?_
        refine n_iload_n c_22_25 rfl ?_
        refine n_ialoadV c_22_26 sc_5.n rfl rfl rfl (by omega) (t_5k (z := 2) hS (by omega) (by omega) (by omega)) ?_
        intro z255 ez255 f256
        refine n_istore_n (L2 := [some (2, 44), some (2, 4), some (0, 18), some (0, z255), none, none]) c_22_27 rfl rfl ?_
        refine n_aload_n c_22_28 rfl ?_
        refine n_getR c_22_29 sc_4.n rfl rfl rfl r_4_3 ?_
        refine n_iload_n c_22_32 rfl ?_
        refine n_ialoadV c_22_33 sc_6.n rfl rfl rfl (by omega) (t_6k (z := 0) hS (by omega) (by omega) (by omega)) ?_
        intro z257 ez257 f258
        refine n_istore (L2 := [some (2, 44), some (2, 4), some (0, 18), some (0, z255), some (0, z257), none]) c_22_34 rfl rfl ?_
        refine n_aload_n c_22_36 rfl ?_
        refine n_getR c_22_37 sc_4.n rfl rfl rfl r_4_4 ?_
        refine n_iload_n c_22_40 rfl ?_
        refine n_ialoadV c_22_41 sc_7.n rfl rfl rfl (by omega) (t_7k (z := 0) hS (by omega) (by omega) (by omega)) ?_
        intro z259 ez259 f260
        refine n_istore (L2 := [some (2, 44), some (2, 4), some (0, 18), some (0, z255), some (0, z257), some (0, z259)]) c_22_42 rfl rfl ?_
        refine n_iload_n c_22_44 rfl ?_
        refine n_iload c_22_45 rfl ?_
        refine n_if2_eq c_22_47 (by omega) (by omega) ?_ ?_
        · intro h261
          exfalso; omega
        · intro h262
          refine n_iload_n c_22_50 rfl ?_
          refine n_iload c_22_51 rfl ?_
          refine n_if2_ne c_22_53 (by omega) (by omega) ?_ ?_
          · intro h263
            refine n_iload c_22_66 rfl ?_
            refine n_iload c_22_68 rfl ?_
            refine n_if2_ne c_22_70 (by omega) (by omega) ?_ ?_
            · intro h264
              exfalso; omega
            · intro h265
              refine n_aload_n c_22_73 rfl ?_
              refine n_getR c_22_74 sc_44.n rfl rfl rfl r_44_4 ?_
              refine n_iload_n c_22_77 rfl ?_
              refine n_iload c_22_78 rfl ?_
              refine n_iastoreV hS c_22_80 sc_45.n rfl (by omega) (w_45 (by omega) (by omega)) ?_
              intro M266 eM266 hS266
              have g266_0 : M266 44 2 = M 44 2 := by rw [eM266]; exact nu_a (by omega)
              refine n_goto c_22_81 ?_
              refine n_iinc (L2 := [some (2, 44), some (2, 4), some (0, (18 + (-1))), some (0, z255), some (0, z257), some (0, z259)]) c_22_101 rfl rfl rfl ?_
              refine n_goto c_22_104 ?_
              refine n_fg (le_s (le_s (le_s (le_n (le_n (le_n le_0)))))) ?_
              exact ih _ M266 hS266 (by omega) (by omega) (by omega) (by omega) (by omega) (by omega) (by omega) (by omega) (by omega)
          · intro h267
            exfalso; omega
    · skip
      refine n_iload_n c_22_17 rfl ?_
      refine n_if0_lt c_22_18 (by omega) ?_ ?_
      · intro h268
        exfalso; omega
      · intro h269
        refine n_aload_n c_22_21 rfl ?_
        refine n_getR c_22_22 sc_4.n rfl rfl rfl r_4_2 ?_
        refine n_iload_n c_22_25 rfl ?_
        refine n_ialoadV c_22_26 sc_5.n rfl rfl rfl (by omega) (t_5k (z := 2) hS (by omega) (by omega) (by omega)) ?_
        intro z270 ez270 f271
        refine n_istore_n (L2 := [some (2, 44), some (2, 4), some (0, 19), some (0, z270), none, none]) c_22_27 rfl rfl ?_
        refine n_aload_n c_22_28 rfl ?_
        refine n_getR c_22_29 sc_4.n rfl rfl rfl r_4_3 ?_
        refine n_iload_n c_22_32 rfl ?_
        refine n_ialoadV c_22_33 sc_6.n rfl rfl rfl (by omega) (t_6k (z := 0) hS (by omega) (by omega) (by omega)) ?_
        intro z272 ez272 f273
        refine n_istore (L2 := [some (2, 44), some (2, 4), some (0, 19), some (0, z270), some (0, z272), none]) c_22_34 rfl rfl ?_
        refine n_aload_n c_22_36 rfl ?_
        refine n_getR c_22_37 sc_4.n rfl rfl rfl r_4_4 ?_
        refine n_iload_n c_22_40 rfl ?_
        refine n_ialoadV c_22_41 sc_7.n rfl rfl rfl (by omega) (t_7k (z := 1) hS (by omega) (by omega) (by omega)) ?_
        intro z274 ez274 f275
        refine n_istore (L2 := [some (2, 44), some (2, 4), some (0, 19), some (0, z270), some (0, z272), some (0, z274)]) c_22_42 rfl rfl ?_
        refine n_iload_n c_22_44 rfl ?_
        refine n_iload c_22_45 rfl ?_
        refine n_if2_eq c_22_47 (by omega) (by omega) ?_ ?_
        · intro h276
          exfalso; omega
        · intro h277
          refine n_iload_n c_22_50 rfl ?_
          refine n_iload c_22_51 rfl ?_
          refine n_if2_ne c_22_53 (by omega) (by omega) ?_ ?_
          · intro h278
            refine n_iload c_22_66 rfl ?_
            refine n_iload c_22_68 rfl ?_
            refine n_if2_ne c_22_70 (by omega) (by omega) ?_ ?_
            · intro h279
              refine n_aload_n c_22_84 rfl ?_
              refine n_getR c_22_85 sc_44.n rfl rfl rfl r_44_4 ?_
              refine n_iload_n c_22_88 rfl ?_
              refine n_aload_n c_22_89 rfl ?_
              refine n_dup2 c_22_90 ?_
              refine n_getV (bi := 2) c_22_91 sc_44.n rfl rfl rfl (t_44_2 hS) ?_
              intro z280 ez280 f281
              refine n_dup_x102 c_22_94 ?_
              refine n_iconst c_22_95 ?_
              refine n_iadd c_22_96 rfl ?_
              refine n_putV (bi := 2) hS c_22_97 sc_44.n rfl rfl rfl rfl (w_44_2 (by omega)) ?_
              intro M282 eM282 hS282
              have g282_0 : M282 44 2 = (z280 + 1) := by rw [eM282]; exact nu_s _ _ _ _
              refine n_iastoreV hS282 c_22_100 sc_45.n rfl (by omega) (w_45 (by omega) (by omega)) ?_
              intro M283 eM283 hS283
              have g283_0 : M283 44 2 = M282 44 2 := by rw [eM283]; exact nu_a (by omega)
              refine n_iinc (L2 := [some (2, 44), some (2, 4), some (0, (19 + (-1))), some (0, z270), some (0, z272), some (0, z274)]) c_22_101 rfl rfl rfl ?_
              refine n_goto c_22_104 ?_
              refine n_fg (le_s (le_s (le_s (le_n (le_n (le_n le_0)))))) ?_
              exact ih _ M283 hS283 (by omega) (by omega) (by omega) (by omega) (by omega) (by omega) (by omega) (by omega) (by omega)
            · intro h284
              exfalso; omega
          · intro h285
            exfalso; omega
    · skip
      refine n_iload_n c_22_17 rfl ?_
      refine n_if0_lt c_22_18 (by omega) ?_ ?_
      · intro h286
        exfalso; omega
      · intro h287
        refine n_aload_n c_22_21 rfl ?_
        refine n_getR c_22_22 sc_4.n rfl rfl rfl r_4_2 ?_
        refine n_iload_n c_22_25 rfl ?_
        refine n_ialoadV c_22_26 sc_5.n rfl rfl rfl (by omega) (t_5k (z := 2) hS (by omega) (by omega) (by omega)) ?_
        intro z288 ez288 f289
        refine n_istore_n (L2 := [some (2, 44), some (2, 4), some (0, 20), some (0, z288), none, none]) c_22_27 rfl rfl ?_
        refine n_aload_n c_22_28 rfl ?_
        refine n_getR c_22_29 sc_4.n rfl rfl rfl r_4_3 ?_
        refine n_iload_n c_22_32 rfl ?_
        refine n_ialoadV c_22_33 sc_6.n rfl rfl rfl (by omega) (t_6k (z := 0) hS (by omega) (by omega) (by omega)) ?_
        intro z290 ez290 f291
        refine n_istore (L2 := [some (2, 44), some (2, 4), some (0, 20), some (0, z288), some (0, z290), none]) c_22_34 rfl rfl ?_
        refine n_aload_n c_22_36 rfl ?_
        refine n_getR c_22_37 sc_4.n rfl rfl rfl r_4_4 ?_
        refine n_iload_n c_22_40 rfl ?_
        refine n_ialoadV c_22_41 sc_7.n rfl rfl rfl (by omega) (t_7k (z := 2) hS (by omega) (by omega) (by omega)) ?_
        intro z292 ez292 f293
        refine n_istore (L2 := [some (2, 44), some (2, 4), some (0, 20), some (0, z288), some (0, z290), some (0, z292)]) c_22_42 rfl rfl ?_
        refine n_iload_n c_22_44 rfl ?_
        refine n_iload c_22_45 rfl ?_
        refine n_if2_eq c_22_47 (by omega) (by omega) ?_ ?_
        · intro h294
          exfalso; omega
        · intro h295
          refine n_iload_n c_22_50 rfl ?_
          refine n_iload c_22_51 rfl ?_
          refine n_if2_ne c_22_53 (by omega) (by omega) ?_ ?_
          · intro h296
            exfalso; omega
          · intro h297
            refine n_aload_n c_22_56 rfl ?_
            refine n_getR c_22_57 sc_44.n rfl rfl rfl r_44_4 ?_
            refine n_iload_n c_22_60 rfl ?_
            refine n_iload_n c_22_61 rfl ?_
            refine n_iastoreV hS c_22_62 sc_45.n rfl (by omega) (w_45 (by omega) (by omega)) ?_
            intro M298 eM298 hS298
            have g298_0 : M298 44 2 = M 44 2 := by rw [eM298]; exact nu_a (by omega)
            refine n_goto c_22_63 ?_
            refine n_iinc (L2 := [some (2, 44), some (2, 4), some (0, (20 + (-1))), some (0, z288), some (0, z290), some (0, z292)]) c_22_101 rfl rfl rfl ?_
            refine n_goto c_22_104 ?_
            refine n_fg (le_s (le_s (le_s (le_n (le_n (le_n le_0)))))) ?_
            exact ih _ M298 hS298 (by omega) (by omega) (by omega) (by omega) (by omega) (by omega) (by omega) (by omega) (by omega)
    · skip
      refine n_iload_n c_22_17 rfl ?_
      refine n_if0_lt c_22_18 (by omega) ?_ ?_
      · intro h299
        exfalso; omega
      · intro h300
        refine n_aload_n c_22_21 rfl ?_
        refine n_getR c_22_22 sc_4.n rfl rfl rfl r_4_2 ?_
        refine n_iload_n c_22_25 rfl ?_
        refine n_ialoadV c_22_26 sc_5.n rfl rfl rfl (by omega) (t_5k (z := 2) hS (by omega) (by omega) (by omega)) ?_
        intro z301 ez301 f302
        refine n_istore_n (L2 := [some (2, 44), some (2, 4), some (0, 21), some (0, z301), none, none]) c_22_27 rfl rfl ?_
        refine n_aload_n c_22_28 rfl ?_
        refine n_getR c_22_29 sc_4.n rfl rfl rfl r_4_3 ?_
        refine n_iload_n c_22_32 rfl ?_
        refine n_ialoadV c_22_33 sc_6.n rfl rfl rfl (by omega) (t_6k (z := 1) hS (by omega) (by omega) (by omega)) ?_
        intro z303 ez303 f304
        refine n_istore (L2 := [some (2, 44), some (2, 4), some (0, 21), some (0, z301), some (0, z303), none]) c_22_34 rfl rfl ?_
        refine n_aload_n c_22_36 rfl ?_
        refine n_getR c_22_37 sc_4.n rfl rfl rfl r_4_4 ?_
        refine n_iload_n c_22_40 rfl ?_
        refine n_ialoadV c_22_41 sc_7.n rfl rfl rfl (by omega) (t_7k (z := 0) hS (by omega) (by omega) (by omega)) ?_
        intro z305 ez305 f306
        refine n_istore (L2 := [some (2, 44), some (2, 4), some (0, 21), some (0, z301), some (0, z303), some (0, z305)]) c_22_42 rfl rfl ?_
        refine n_iload_n c_22_44 rfl ?_
        refine n_iload c_22_45 rfl ?_
        refine n_if2_eq c_22_47 (by omega) (by omega) ?_ ?_
        · intro h307
          exfalso; omega
        · intro h308
          refine n_iload_n c_22_50 rfl ?_
          refine n_iload c_22_51 rfl ?_
          refine n_if2_ne c_22_53 (by omega) (by omega) ?_ ?_
          · intro h309
            refine n_iload c_22_66 rfl ?_
            refine n_iload c_22_68 rfl ?_
            refine n_if2_ne c_22_70 (by omega) (by omega) ?_ ?_
            · intro h310
              refine n_aload_n c_22_84 rfl ?_
              refine n_getR c_22_85 sc_44.n rfl rfl rfl r_44_4 ?_
              refine n_iload_n c_22_88 rfl ?_
              refine n_aload_n c_22_89 rfl ?_
              refine n_dup2 c_22_90 ?_
              refine n_getV (bi := 2) c_22_91 sc_44.n rfl rfl rfl (t_44_2 hS) ?_
              intro z311 ez311 f312
              refine n_dup_x102 c_22_94 ?_
              refine n_iconst c_22_95 ?_
              refine n_iadd c_22_96 rfl ?_
              refine n_putV (bi := 2) hS c_22_97 sc_44.n rfl rfl rfl rfl (w_44_2 (by omega)) ?_
              intro M313 eM313 hS313
              have g313_0 : M313 44 2 = (z311 + 1) := by rw [eM313]; exact nu_s _ _ _ _
              refine n_iastoreV hS313 c_22_100 sc_45.n rfl (by omega) (w_45 (by omega) (by omega)) ?_
              intro M314 eM314 hS314
              have g314_0 : M314 44 2 = M313 44 2 := by rw [eM314]; exact nu_a (by omega)
              refine n_iinc (L2 := [some (2, 44), some (2, 4), some (0, (21 + (-1))), some (0, z301), some (0, z303), some (0, z305)]) c_22_101 rfl rfl rfl ?_
              refine n_goto c_22_104 ?_
              refine n_fg (le_s (le_s (le_s (le_n (le_n (le_n le_0)))))) ?_
              exact ih _ M314 hS314 (by omega) (by omega) (by omega) (by omega) (by omega) (by omega) (by omega) (by omega) (by omega)
            · intro h315
              exfalso; omega
          · intro h316
            exfalso; omega
    · skip
      refine n_iload_n c_22_17 rfl ?_
      refine n_if0_lt c_22_18 (by omega) ?_ ?_
      · intro h317
        exfalso; omega
      · intro h318
        refine n_aload_n c_22_21 rfl ?_
        refine n_getR c_22_22 sc_4.n rfl rfl rfl r_4_2 ?_
        refine n_iload_n c_22_25 rfl ?_
        refine n_ialoadV c_22_26 sc_5.n rfl rfl rfl (by omega) (t_5k (z := 2) hS (by omega) (by omega) (by omega)) ?_
        intro z319 ez319 f320
        refine n_istore_n (L2 := [some (2, 44), some (2, 4), some (0, 22), some (0, z319), none, none]) c_22_27 rfl rfl ?_
        refine n_aload_n c_22_28 rfl ?_
        refine n_getR c_22_29 sc_4.n rfl rfl rfl r_4_3 ?_
        refine n_iload_n c_22_32 rfl ?_
        refine n_ialoadV c_22_33 sc_6.n rfl rfl rfl (by omega) (t_6k (z := 1) hS (by omega) (by omega) (by omega)) ?_
        intro z321 ez321 f322
        refine n_istore (L2 := [some (2, 44), some (2, 4), some (0, 22), some (0, z319), some (0, z321), none]) c_22_34 rfl rfl ?_
        refine n_aload_n c_22_36 rfl ?_
        refine n_getR c_22_37 sc_4.n rfl rfl rfl r_4_4 ?_
        refine n_iload_n c_22_40 rfl ?_
        refine n_ialoadV c_22_41 sc_7.n rfl rfl rfl (by omega) (t_7k (z := 1) hS (by omega) (by omega) (by omega)) ?_
        intro z323 ez323 f324
        refine n_istore (L2 := [some (2, 44), some (2, 4), some (0, 22), some (0, z319), some (0, z321), some (0, z323)]) c_22_42 rfl rfl ?_
        refine n_iload_n c_22_44 rfl ?_
        refine n_iload c_22_45 rfl ?_
        refine n_if2_eq c_22_47 (by omega) (by omega) ?_ ?_
        · intro h325
          exfalso; omega
        · intro h326
          refine n_iload_n c_22_50 rfl ?_
          refine n_iload c_22_51 rfl ?_
          refine n_if2_ne c_22_53 (by omega) (by omega) ?_ ?_
          · intro h327
            refine n_iload c_22_66 rfl ?_
            refine n_iload c_22_68 rfl ?_
            refine n_if2_ne c_22_70 (by omega) (by omega) ?_ ?_
            · intro h328
              exfalso; omega
            · intro h329
              refine n_aload_n c_22_73 rfl ?_
              refine n_getR c_22_74 sc_44.n rfl rfl rfl r_44_4 ?_
              refine n_iload_n c_22_77 rfl ?_
              refine n_iload c_22_78 rfl ?_
              refine n_iastoreV hS c_22_80 sc_45.n rfl (by omega) (w_45 (by omega) (by omega)) ?_
              intro M330 eM330 hS330
              have g330_0 : M330 44 2 = M 44 2 := by rw [eM330]; exact nu_a (by omega)
              refine n_goto c_22_81 ?_
              refine n_iinc (L2 := [some (2, 44), some (2, 4), some (0, (22 + (-1))), some (0, z319), some (0, z321), some (0, z323)]) c_22_101 rfl rfl rfl ?_
              refine n_goto c_22_104 ?_
              refine n_fg (le_s (le_s (le_s (le_n (le_n (le_n le_0)))))) ?_
              exact ih _ M330 hS330 (by omega) (by omega) (by omega) (by omega) (by omega) (by omega) (by omega) (by omega) (by omega)
          · intro h331
            exfalso; omega
    · skip
      refine n_iload_n c_22_17 rfl ?_
      refine n_if0_lt c_22_18 (by omega) ?_ ?_
      · intro h332
        exfalso; omega
      · intro h333
        refine n_aload_n c_22_21 rfl ?_
        refine n_getR c_22_22 sc_4.n rfl rfl rfl r_4_2 ?_
        refine n_iload_n c_22_25 rfl ?_
        refine n_ialoadV c_22_26 sc_5.n rfl rfl rfl (by omega) (t_5k (z := 2) hS (by omega) (by omega) (by omega)) ?_
        intro z334 ez334 f335
        refine n_istore_n (L2 := [some (2, 44), some (2, 4), some (0, 23), some (0, z334), none, none]) c_22_27 rfl rfl ?_
        refine n_aload_n c_22_28 rfl ?_
        refine n_getR c_22_29 sc_4.n rfl rfl rfl r_4_3 ?_
        refine n_iload_n c_22_32 rfl ?_
        refine n_ialoadV c_22_33 sc_6.n rfl rfl rfl (by omega) (t_6k (z := 1) hS (by omega) (by omega) (by omega)) ?_
        intro z336 ez336 f337
        refine n_istore (L2 := [some (2, 44), some (2, 4), some (0, 23), some (0, z334), some (0, z336), none]) c_22_34 rfl rfl ?_
        refine n_aload_n c_22_36 rfl ?_
        refine n_getR c_22_37 sc_4.n rfl rfl rfl r_4_4 ?_
        refine n_iload_n c_22_40 rfl ?_
        refine n_ialoadV c_22_41 sc_7.n rfl rfl rfl (by omega) (t_7k (z := 2) hS (by omega) (by omega) (by omega)) ?_
        intro z338 ez338 f339
        refine n_istore (L2 := [some (2, 44), some (2, 4), some (0, 23), some (0, z334), some (0, z336), some (0, z338)]) c_22_42 rfl rfl ?_
        refine n_iload_n c_22_44 rfl ?_
        refine n_iload c_22_45 rfl ?_
        refine n_if2_eq c_22_47 (by omega) (by omega) ?_ ?_
        · intro h340
          exfalso; omega
        · intro h341
          refine n_iload_n c_22_50 rfl ?_
          refine n_iload c_22_51 rfl ?_
          refine n_if2_ne c_22_53 (by omega) (by omega) ?_ ?_
          · intro h342
            exfalso; omega
          · intro h343
            refine n_aload_n c_22_56 rfl ?_
            refine n_getR c_22_57 sc_44.n rfl rfl rfl r_44_4 ?_
            refine n_iload_n c_22_60 rfl ?_
            refine n_iload_n c_22_61 rfl ?_
            refine n_iastoreV hS c_22_62 sc_45.n rfl (by omega) (w_45 (by omega) (by omega)) ?_
            intro M344 eM344 hS344
            have g344_0 : M344 44 2 = M 44 2 := by rw [eM344]; exact nu_a (by omega)
            refine n_goto c_22_63 ?_
            refine n_iinc (L2 := [some (2, 44), some (2, 4), some (0, (23 + (-1))), some (0, z334), some (0, z336), some (0, z338)]) c_22_101 rfl rfl rfl ?_
            refine n_goto c_22_104 ?_
            refine n_fg (le_s (le_s (le_s (le_n (le_n (le_n le_0)))))) ?_
            exact ih _ M344 hS344 (by omega) (by omega) (by omega) (by omega) (by omega) (by omega) (by omega) (by omega) (by omega)
    · skip
      refine n_iload_n c_22_17 rfl ?_
      refine n_if0_lt c_22_18 (by omega) ?_ ?_
      · intro h345
        exfalso; omega
      · intro h346
        refine n_aload_n c_22_21 rfl ?_
        refine n_getR c_22_22 sc_4.n rfl rfl rfl r_4_2 ?_
        refine n_iload_n c_22_25 rfl ?_
        refine n_ialoadV c_22_26 sc_5.n rfl rfl rfl (by omega) (t_5k (z := 2) hS (by omega) (by omega) (by omega)) ?_
        intro z347 ez347 f348
        refine n_istore_n (L2 := [some (2, 44), some (2, 4), some (0, 24), some (0, z347), none, none]) c_22_27 rfl rfl ?_
        refine n_aload_n c_22_28 rfl ?_
        refine n_getR c_22_29 sc_4.n rfl rfl rfl r_4_3 ?_
        refine n_iload_n c_22_32 rfl ?_
        refine n_ialoadV c_22_33 sc_6.n rfl rfl rfl (by omega) (t_6k (z := 2) hS (by omega) (by omega) (by omega)) ?_
        intro z349 ez349 f350
        refine n_istore (L2 := [some (2, 44), some (2, 4), some (0, 24), some (0, z347), some (0, z349), none]) c_22_34 rfl rfl ?_
        refine n_aload_n c_22_36 rfl ?_
        refine n_getR c_22_37 sc_4.n rfl rfl rfl r_4_4 ?_
        refine n_iload_n c_22_40 rfl ?_
        refine n_ialoadV c_22_41 sc_7.n rfl rfl rfl (by omega) (t_7k (z := 0) hS (by omega) (by omega) (by omega)) ?_
        intro z351 ez351 f352
        refine n_istore (L2 := [some (2, 44), some (2, 4), some (0, 24), some (0, z347), some (0, z349), some (0, z351)]) c_22_42 rfl rfl ?_
        refine n_iload_n c_22_44 rfl ?_
        refine n_iload c_22_45 rfl ?_
        refine n_if2_eq c_22_47 (by omega) (by omega) ?_ ?_
        · intro h353
          refine n_aload_n c_22_56 rfl ?_
          refine n_getR c_22_57 sc_44.n rfl rfl rfl r_44_4 ?_
          refine n_iload_n c_22_60 rfl ?_
          refine n_iload_n c_22_61 rfl ?_
          refine n_iastoreV hS c_22_62 sc_45.n rfl (by omega) (w_45 (by omega) (by omega)) ?_
          intro M354 eM354 hS354
          have g354_0 : M354 44 2 = M 44 2 := by rw [eM354]; exact nu_a (by omega)
          refine n_goto c_22_63 ?_
          refine n_iinc (L2 := [some (2, 44), some (2, 4), some (0, (24 + (-1))), some (0, z347), some (0, z349), some (0, z351)]) c_22_101 rfl rfl rfl ?_
          refine n_goto c_22_104 ?_
          refine n_fg (le_s (le_s (le_s (le_n (le_n (le_n le_0)))))) ?_
          exact ih _ M354 hS354 (by omega) (by omega) (by omega) (by omega) (by omega) (by omega) (by omega) (by omega) (by omega)
        · intro h355
          exfalso; omega
    · skip
      refine n_iload_n c_22_17 rfl ?_
      refine n_if0_lt c_22_18 (by omega) ?_ ?_
      · intro h356
        exfalso; omega
      · intro h357
        refine n_aload_n c_22_21 rfl ?_
        refine n_getR c_22_22 sc_4.n rfl rfl rfl r_4_2 ?_
        refine n_iload_n c_22_25 rfl ?_
        refine n_ialoadV c_22_26 sc_5.n rfl rfl rfl (by omega) (t_5k (z := 2) hS (by omega) (by omega) (by omega)) ?_
        intro z358 ez358 f359
        refine n_istore_n (L2 := [some (2, 44), some (2, 4), some (0, 25), some (0, z358), none, none]) c_22_27 rfl rfl ?_
        refine n_aload_n c_22_28 rfl ?_
        refine n_getR c_22_29 sc_4.n rfl rfl rfl r_4_3 ?_
        refine n_iload_n c_22_32 rfl ?_
        refine n_ialoadV c_22_33 sc_6.n rfl rfl rfl (by omega) (t_6k (z := 2) hS (by omega) (by omega) (by omega)) ?_
        intro z360 ez360 f361
        refine n_istore (L2 := [some (2, 44), some (2, 4), some (0, 25), some (0, z358), some (0, z360), none]) c_22_34 rfl rfl ?_
        refine n_aload_n c_22_36 rfl ?_
        refine n_getR c_22_37 sc_4.n rfl rfl rfl r_4_4 ?_
        refine n_iload_n c_22_40 rfl ?_
        refine n_ialoadV c_22_41 sc_7.n rfl rfl rfl (by omega) (t_7k (z := 1) hS (by omega) (by omega) (by omega)) ?_
        intro z362 ez362 f363
        refine n_istore (L2 := [some (2, 44), some (2, 4), some (0, 25), some (0, z358), some (0, z360), some (0, z362)]) c_22_42 rfl rfl ?_
        refine n_iload_n c_22_44 rfl ?_
        refine n_iload c_22_45 rfl ?_
        refine n_if2_eq c_22_47 (by omega) (by omega) ?_ ?_
        · intro h364
          refine n_aload_n c_22_56 rfl ?_
          refine n_getR c_22_57 sc_44.n rfl rfl rfl r_44_4 ?_
          refine n_iload_n c_22_60 rfl ?_
          refine n_iload_n c_22_61 rfl ?_
          refine n_iastoreV hS c_22_62 sc_45.n rfl (by omega) (w_45 (by omega) (by omega)) ?_
          intro M365 eM365 hS365
          have g365_0 : M365 44 2 = M 44 2 := by rw [eM365]; exact nu_a (by omega)
          refine n_goto c_22_63 ?_
          refine n_iinc (L2 := [some (2, 44), some (2, 4), some (0, (25 + (-1))), some (0, z358), some (0, z360), some (0, z362)]) c_22_101 rfl rfl rfl ?_
          refine n_goto c_22_104 ?_
          refine n_fg (le_s (le_s (le_s (le_n (le_n (le_n le_0)))))) ?_
          exact ih _ M365 hS365 (by omega) (by omega) (by omega) (by omega) (by omega) (by omega) (by omega) (by omega) (by omega)
        · intro h366
          exfalso; omega
    · skip
      refine n_iload_n c_22_17 rfl ?_
      refine n_if0_lt c_22_18 (by omega) ?_ ?_
      · intro h367
        exfalso; omega
      · intro h368
        refine n_aload_n c_22_21 rfl ?_
        refine n_getR c_22_22 sc_4.n rfl rfl rfl r_4_2 ?_
        refine n_iload_n c_22_25 rfl ?_
        refine n_ialoadV c_22_26 sc_5.n rfl rfl rfl (by omega) (t_5k (z := 2) hS (by omega) (by omega) (by omega)) ?_
        intro z369 ez369 f370
        refine n_istore_n (L2 := [some (2, 44), some (2, 4), some (0, 26), some (0, z369), none, none]) c_22_27 rfl rfl ?_
        refine n_aload_n c_22_28 rfl ?_
        refine n_getR c_22_29 sc_4.n rfl rfl rfl r_4_3 ?_
        refine n_iload_n c_22_32 rfl ?_
        refine n_ialoadV c_22_33 sc_6.n rfl rfl rfl (by omega) (t_6k (z := 2) hS (by omega) (by omega) (by omega)) ?_
        intro z371 ez371 f372
        refine n_istore (L2 := [some (2, 44), some (2, 4), some (0, 26), some (0, z369), some (0, z371), none]) c_22_34 rfl rfl ?_
        refine n_aload_n c_22_36 rfl ?_
        refine n_getR c_22_37 sc_4.n rfl rfl rfl r_4_4 ?_
        refine n_iload_n c_22_40 rfl ?_
        refine n_ialoadV c_22_41 sc_7.n rfl rfl rfl (by omega) (t_7k (z := 2) hS (by omega) (by omega) (by omega)) ?_
        intro z373 ez373 f374
        refine n_istore (L2 := [some (2, 44), some (2, 4), some (0, 26), some (0, z369), some (0, z371), some (0, z373)]) c_22_42 rfl rfl ?_
        refine n_iload_n c_22_44 rfl ?_
        refine n_iload c_22_45 rfl ?_
        refine n_if2_eq c_22_47 (by omega) (by omega) ?_ ?_
        · intro h375
          refine n_aload_n c_22_56 rfl ?_
          refine n_getR c_22_57 sc_44.n rfl rfl rfl r_44_4 ?_
          refine n_iload_n c_22_60 rfl ?_
          refine n_iload_n c_22_61 rfl ?_
          refine n_iastoreV hS c_22_62 sc_45.n rfl (by omega) (w_45 (by omega) (by omega)) ?_
          intro M376 eM376 hS376
          have g376_0 : M376 44 2 = M 44 2 := by rw [eM376]; exact nu_a (by omega)
          refine n_goto c_22_63 ?_
          refine n_iinc (L2 := [some (2, 44), some (2, 4), some (0, (26 + (-1))), some (0, z369), some (0, z371), some (0, z373)]) c_22_101 rfl rfl rfl ?_
          refine n_goto c_22_104 ?_
          refine n_fg (le_s (le_s (le_s (le_n (le_n (le_n le_0)))))) ?_
          exact ih _ M376 hS376 (by omega) (by omega) (by omega) (by omega) (by omega) (by omega) (by omega) (by omega) (by omega)
        · intro h377
          exfalso; omega
set_option maxHeartbeats 4000000 in
theorem beMost_3 {xs : List Int32} {e : Nat} {ac : Int} {M0 M : nM} (hS : Sf 3 ac M0 M)  : nW xs (e + 1) 22 0 [some (2, 44), some (2, 4), none, none, none, none] [] M (nPV fun M1 => Sf 3 ac M0 M1) := by
  have hd : (3 : Int) = 2 ∨ (3 : Int) = 3 := by decide
  have hac := hS.2.2.2.2
  refine n_aload_n c_22_0 rfl ?_
  refine n_iconst c_22_1 ?_
  refine n_aload_n c_22_2 rfl ?_
  refine n_getV (bi := 0) c_22_3 sc_4.n rfl rfl rfl (t_4_0 hS) ?_
  intro z1 ez1 f2
  obtain rfl : z1 = 3 := by omega
  refine n_aload_n c_22_6 rfl ?_
  refine n_v3V c_22_7 rfl sc_44.n rfl rfl rfl rfl (begin_3 (n := 3) (c := 3) hS (by omega) (by omega)) ?_
  intro  M3 hP4
  obtain ⟨hS3, f4p0⟩ := hP4
  refine n_aload_n c_22_10 rfl ?_
  refine n_getV (bi := 1) c_22_11 sc_4.n rfl rfl rfl (t_4_1 hS3) ?_
  intro z5 ez5 f6
  obtain rfl : z5 = 27 := by omega
  refine n_iconst c_22_14 ?_
  refine n_isub c_22_15 rfl ?_
  refine n_istore_n (L2 := [some (2, 44), some (2, 4), some (0, (27 - 1)), none, none, none]) c_22_16 rfl rfl ?_
  refine n_fg (le_s (le_s (le_s (le_n (le_n (le_n le_0)))))) ?_
  exact (beMost_3_c hS  68) _ M3 hS3 (by omega) (by omega) (by omega) (by omega) (by omega) (by omega) (by omega) (by omega) (by omega)

set_option maxHeartbeats 4000000 in
theorem beSum_3_c {xs : List Int32} {e : Nat} {ac : Int} {M0 M : nM} (hS : Sf 3 ac M0 M)  : ∀ nn : Nat, (∀ (x2 : Int) (M : nM), Sf 3 ac M0 M → (0 ≤ x2 ∧ x2 ≤ 27) → (M 44 5 = 3) → (27 - x2) * 1 + 1 < (nn : Int) → nW xs (e + 1) 23 12 [some (2, 44), some (2, 4), some (0, x2), none] [] M (nPV fun M1 => Sf 3 ac M0 M1)) := by
  have hd : (3 : Int) = 2 ∨ (3 : Int) = 3 := by decide
  have hac := hS.2.2.2.2
  intro nn
  induction nn with
  | zero => intros; omega
  | succ nn ih =>
    intro x2 M hS k2 v0 hnn
    rcases (show x2 = 0 ∨ x2 = 1 ∨ x2 = 2 ∨ x2 = 3 ∨ x2 = 4 ∨ x2 = 5 ∨ x2 = 6 ∨ x2 = 7 ∨ x2 = 8 ∨ x2 = 9 ∨ x2 = 10 ∨ x2 = 11 ∨ x2 = 12 ∨ x2 = 13 ∨ x2 = 14 ∨ x2 = 15 ∨ x2 = 16 ∨ x2 = 17 ∨ x2 = 18 ∨ x2 = 19 ∨ x2 = 20 ∨ x2 = 21 ∨ x2 = 22 ∨ x2 = 23 ∨ x2 = 24 ∨ x2 = 25 ∨ x2 = 26 ∨ x2 = 27 by omega) with rfl | rfl | rfl | rfl | rfl | rfl | rfl | rfl | rfl | rfl | rfl | rfl | rfl | rfl | rfl | rfl | rfl | rfl | rfl | rfl | rfl | rfl | rfl | rfl | rfl | rfl | rfl | rfl
    · skip
      refine n_iload_n c_23_12 rfl ?_
      refine n_aload_n c_23_13 rfl ?_
      refine n_getV (bi := 1) c_23_14 sc_4.n rfl rfl rfl (t_4_1 hS) ?_
      intro z1 ez1 f2
      obtain rfl : z1 = 27 := by omega
      refine n_if2_ge c_23_17 (by omega) (by omega) ?_ ?_
      · intro h3
        exfalso; omega
      · intro h4
        refine n_aload_n c_23_20 rfl ?_
        refine n_getR c_23_21 sc_4.n rfl rfl rfl r_4_2 ?_
        refine n_iload_n c_23_24 rfl ?_
        refine n_ialoadV c_23_25 sc_5.n rfl rfl rfl (by omega) (t_5k (z := 0) hS (by omega) (by omega) (by omega)) ?_
        intro z5 ez5 f6
        refine n_aload_n c_23_26 rfl ?_
        refine n_getR c_23_27 sc_4.n rfl rfl rfl r_4_3 ?_
        refine n_iload_n c_23_30 rfl ?_
        refine n_ialoadV c_23_31 sc_6.n rfl rfl rfl (by omega) (t_6k (z := 0) hS (by omega) (by omega) (by omega)) ?_
        intro z7 ez7 f8
        refine n_isub c_23_32 rfl ?_
        refine n_aload_n c_23_33 rfl ?_
        refine n_getR c_23_34 sc_4.n rfl rfl rfl r_4_4 ?_
        refine n_iload_n c_23_37 rfl ?_
        refine n_ialoadV c_23_38 sc_7.n rfl rfl rfl (by omega) (t_7k (z := 0) hS (by omega) (by omega) (by omega)) ?_
        intro z9 ez9 f10
        refine n_iadd c_23_39 rfl ?_
        refine n_istore_n (L2 := [some (2, 44), some (2, 4), some (0, 0), some (0, ((z5 - z7) + z9))]) c_23_40 rfl rfl ?_
        refine n_aload_n c_23_41 rfl ?_
        refine n_getR c_23_42 sc_44.n rfl rfl rfl r_44_4 ?_
        refine n_iload_n c_23_45 rfl ?_
        refine n_iload_n c_23_46 rfl ?_
        refine n_aload_n c_23_47 rfl ?_
        refine n_getV (bi := 5) c_23_48 sc_44.n rfl rfl rfl (t_44_5 hS) ?_
        intro z11 ez11 f12
        obtain rfl : z11 = 3 := by omega
        refine n_iconst c_23_51 ?_
        refine n_if2_ne c_23_52 (by omega) (by omega) ?_ ?_
        · intro h13
          refine n_iconst c_23_59 ?_
          have hcst : (((z5 - z7) + z9) : Int) = 0 := by omega
          rw [hcst]
          refine n_s2I c_23_60 rfl rfl rfl rfl (fmod3_3  hS ) ?_
          intro z14 M15 hP16
          obtain ⟨eM, f16⟩ := hP16
          subst eM
          obtain rfl : z14 = 0 := by omega
          refine n_iastoreV hS c_23_63 sc_45.n rfl (by omega) (w_45 (by omega) (by omega)) ?_
          intro M17 eM17 hS17
          have g17_0 : M17 44 5 = M 44 5 := by rw [eM17]; exact nu_a (by omega)
          refine n_iinc (L2 := [some (2, 44), some (2, 4), some (0, (0 + 1)), some (0, 0)]) c_23_64 rfl rfl rfl ?_
          refine n_goto c_23_67 ?_
          refine n_fg (le_s (le_s (le_s (le_n le_0)))) ?_
          exact ih _ M17 hS17 (by omega) (by omega) (by omega)
        · intro h18
          exfalso; omega
    · skip
      refine n_iload_n c_23_12 rfl ?_
      refine n_aload_n c_23_13 rfl ?_
      refine n_getV (bi := 1) c_23_14 sc_4.n rfl rfl rfl (t_4_1 hS) ?_
      intro z19 ez19 f20
      obtain rfl : z19 = 27 := by omega
      refine n_if2_ge c_23_17 (by omega) (by omega) ?_ ?_
      · intro h21
        exfalso; omega
      · intro h22
        refine n_aload_n c_23_20 rfl ?_
        refine n_getR c_23_21 sc_4.n rfl rfl rfl r_4_2 ?_
        refine n_iload_n c_23_24 rfl ?_
        refine n_ialoadV c_23_25 sc_5.n rfl rfl rfl (by omega) (t_5k (z := 0) hS (by omega) (by omega) (by omega)) ?_
        intro z23 ez23 f24
        refine n_aload_n c_23_26 rfl ?_
        refine n_getR c_23_27 sc_4.n rfl rfl rfl r_4_3 ?_
        refine n_iload_n c_23_30 rfl ?_
        refine n_ialoadV c_23_31 sc_6.n rfl rfl rfl (by omega) (t_6k (z := 0) hS (by omega) (by omega) (by omega)) ?_
        intro z25 ez25 f26
        refine n_isub c_23_32 rfl ?_
        refine n_aload_n c_23_33 rfl ?_
        refine n_getR c_23_34 sc_4.n rfl rfl rfl r_4_4 ?_
        refine n_iload_n c_23_37 rfl ?_
        refine n_ialoadV c_23_38 sc_7.n rfl rfl rfl (by omega) (t_7k (z := 1) hS (by omega) (by omega) (by omega)) ?_
        intro z27 ez27 f28
        refine n_iadd c_23_39 rfl ?_
        refine n_istore_n (L2 := [some (2, 44), some (2, 4), some (0, 1), some (0, ((z23 - z25) + z27))]) c_23_40 rfl rfl ?_
        refine n_aload_n c_23_41 rfl ?_
        refine n_getR c_23_42 sc_44.n rfl rfl rfl r_44_4 ?_
        refine n_iload_n c_23_45 rfl ?_
        refine n_iload_n c_23_46 rfl ?_
        refine n_aload_n c_23_47 rfl ?_
        refine n_getV (bi := 5) c_23_48 sc_44.n rfl rfl rfl (t_44_5 hS) ?_
        intro z29 ez29 f30
        obtain rfl : z29 = 3 := by omega
        refine n_iconst c_23_51 ?_
        refine n_if2_ne c_23_52 (by omega) (by omega) ?_ ?_
        · intro h31
          refine n_iconst c_23_59 ?_
          have hcst : (((z23 - z25) + z27) : Int) = 1 := by omega
          rw [hcst]
          refine n_s2I c_23_60 rfl rfl rfl rfl (fmod4_3  hS ) ?_
          intro z32 M33 hP34
          obtain ⟨eM, f34⟩ := hP34
          subst eM
          obtain rfl : z32 = 1 := by omega
          refine n_iastoreV hS c_23_63 sc_45.n rfl (by omega) (w_45 (by omega) (by omega)) ?_
          intro M35 eM35 hS35
          have g35_0 : M35 44 5 = M 44 5 := by rw [eM35]; exact nu_a (by omega)
          refine n_iinc (L2 := [some (2, 44), some (2, 4), some (0, (1 + 1)), some (0, 1)]) c_23_64 rfl rfl rfl ?_
          refine n_goto c_23_67 ?_
          refine n_fg (le_s (le_s (le_s (le_n le_0)))) ?_
          exact ih _ M35 hS35 (by omega) (by omega) (by omega)
        · intro h36
          exfalso; omega
    · skip
      refine n_iload_n c_23_12 rfl ?_
      refine n_aload_n c_23_13 rfl ?_
      refine n_getV (bi := 1) c_23_14 sc_4.n rfl rfl rfl (t_4_1 hS) ?_
      intro z37 ez37 f38
      obtain rfl : z37 = 27 := by omega
      refine n_if2_ge c_23_17 (by omega) (by omega) ?_ ?_
      · intro h39
        exfalso; omega
      · intro h40
        refine n_aload_n c_23_20 rfl ?_
        refine n_getR c_23_21 sc_4.n rfl rfl rfl r_4_2 ?_
        refine n_iload_n c_23_24 rfl ?_
        refine n_ialoadV c_23_25 sc_5.n rfl rfl rfl (by omega) (t_5k (z := 0) hS (by omega) (by omega) (by omega)) ?_
        intro z41 ez41 f42
        refine n_aload_n c_23_26 rfl ?_
        refine n_getR c_23_27 sc_4.n rfl rfl rfl r_4_3 ?_
        refine n_iload_n c_23_30 rfl ?_
        refine n_ialoadV c_23_31 sc_6.n rfl rfl rfl (by omega) (t_6k (z := 0) hS (by omega) (by omega) (by omega)) ?_
        intro z43 ez43 f44
        refine n_isub c_23_32 rfl ?_
        refine n_aload_n c_23_33 rfl ?_
        refine n_getR c_23_34 sc_4.n rfl rfl rfl r_4_4 ?_
        refine n_iload_n c_23_37 rfl ?_
        refine n_ialoadV c_23_38 sc_7.n rfl rfl rfl (by omega) (t_7k (z := 2) hS (by omega) (by omega) (by omega)) ?_
        intro z45 ez45 f46
        refine n_iadd c_23_39 rfl ?_
        refine n_istore_n (L2 := [some (2, 44), some (2, 4), some (0, 2), some (0, ((z41 - z43) + z45))]) c_23_40 rfl rfl ?_
        refine n_aload_n c_23_41 rfl ?_
        refine n_getR c_23_42 sc_44.n rfl rfl rfl r_44_4 ?_
        refine n_iload_n c_23_45 rfl ?_
        refine n_iload_n c_23_46 rfl ?_
        refine n_aload_n c_23_47 rfl ?_
        refine n_getV (bi := 5) c_23_48 sc_44.n rfl rfl rfl (t_44_5 hS) ?_
        intro z47 ez47 f48
        obtain rfl : z47 = 3 := by omega
        refine n_iconst c_23_51 ?_
        refine n_if2_ne c_23_52 (by omega) (by omega) ?_ ?_
        · intro h49
          refine n_iconst c_23_59 ?_
          have hcst : (((z41 - z43) + z45) : Int) = 2 := by omega
          rw [hcst]
          refine n_s2I c_23_60 rfl rfl rfl rfl (fmod5_3  hS ) ?_
          intro z50 M51 hP52
          obtain ⟨eM, f52⟩ := hP52
          subst eM
          obtain rfl : z50 = 2 := by omega
          refine n_iastoreV hS c_23_63 sc_45.n rfl (by omega) (w_45 (by omega) (by omega)) ?_
          intro M53 eM53 hS53
          have g53_0 : M53 44 5 = M 44 5 := by rw [eM53]; exact nu_a (by omega)
          refine n_iinc (L2 := [some (2, 44), some (2, 4), some (0, (2 + 1)), some (0, 2)]) c_23_64 rfl rfl rfl ?_
          refine n_goto c_23_67 ?_
          refine n_fg (le_s (le_s (le_s (le_n le_0)))) ?_
          exact ih _ M53 hS53 (by omega) (by omega) (by omega)
        · intro h54
          exfalso; omega
    · skip
      refine n_iload_n c_23_12 rfl ?_
      refine n_aload_n c_23_13 rfl ?_
      refine n_getV (bi := 1) c_23_14 sc_4.n rfl rfl rfl (t_4_1 hS) ?_
      intro z55 ez55 f56
      obtain rfl : z55 = 27 := by omega
      refine n_if2_ge c_23_17 (by omega) (by omega) ?_ ?_
      · intro h57
        exfalso; omega
      · intro h58
        refine n_aload_n c_23_20 rfl ?_
        refine n_getR c_23_21 sc_4.n rfl rfl rfl r_4_2 ?_
        refine n_iload_n c_23_24 rfl ?_
        refine n_ialoadV c_23_25 sc_5.n rfl rfl rfl (by omega) (t_5k (z := 0) hS (by omega) (by omega) (by omega)) ?_
        intro z59 ez59 f60
        refine n_aload_n c_23_26 rfl ?_
        refine n_getR c_23_27 sc_4.n rfl rfl rfl r_4_3 ?_
        refine n_iload_n c_23_30 rfl ?_
        refine n_ialoadV c_23_31 sc_6.n rfl rfl rfl (by omega) (t_6k (z := 1) hS (by omega) (by omega) (by omega)) ?_
        intro z61 ez61 f62
        refine n_isub c_23_32 rfl ?_
        refine n_aload_n c_23_33 rfl ?_
        refine n_getR c_23_34 sc_4.n rfl rfl rfl r_4_4 ?_
        refine n_iload_n c_23_37 rfl ?_
        refine n_ialoadV c_23_38 sc_7.n rfl rfl rfl (by omega) (t_7k (z := 0) hS (by omega) (by omega) (by omega)) ?_
        intro z63 ez63 f64
        refine n_iadd c_23_39 rfl ?_
        refine n_istore_n (L2 := [some (2, 44), some (2, 4), some (0, 3), some (0, ((z59 - z61) + z63))]) c_23_40 rfl rfl ?_
        refine n_aload_n c_23_41 rfl ?_
        refine n_getR c_23_42 sc_44.n rfl rfl rfl r_44_4 ?_
        refine n_iload_n c_23_45 rfl ?_
        refine n_iload_n c_23_46 rfl ?_
        refine n_aload_n c_23_47 rfl ?_
        refine n_getV (bi := 5) c_23_48 sc_44.n rfl rfl rfl (t_44_5 hS) ?_
        intro z65 ez65 f66
        obtain rfl : z65 = 3 := by omega
        refine n_iconst c_23_51 ?_
        refine n_if2_ne c_23_52 (by omega) (by omega) ?_ ?_
        · intro h67
          refine n_iconst c_23_59 ?_
          have hcst : (((z59 - z61) + z63) : Int) = (-1) := by omega
          rw [hcst]
          refine n_s2I c_23_60 rfl rfl rfl rfl (fmod2_3  hS ) ?_
          intro z68 M69 hP70
          obtain ⟨eM, f70⟩ := hP70
          subst eM
          obtain rfl : z68 = 2 := by omega
          refine n_iastoreV hS c_23_63 sc_45.n rfl (by omega) (w_45 (by omega) (by omega)) ?_
          intro M71 eM71 hS71
          have g71_0 : M71 44 5 = M 44 5 := by rw [eM71]; exact nu_a (by omega)
          refine n_iinc (L2 := [some (2, 44), some (2, 4), some (0, (3 + 1)), some (0, (-1))]) c_23_64 rfl rfl rfl ?_
          refine n_goto c_23_67 ?_
          refine n_fg (le_s (le_s (le_s (le_n le_0)))) ?_
          exact ih _ M71 hS71 (by omega) (by omega) (by omega)
        · intro h72
          exfalso; omega
    · skip
      refine n_iload_n c_23_12 rfl ?_
      refine n_aload_n c_23_13 rfl ?_
      refine n_getV (bi := 1) c_23_14 sc_4.n rfl rfl rfl (t_4_1 hS) ?_
      intro z73 ez73 f74
      obtain rfl : z73 = 27 := by omega
      refine n_if2_ge c_23_17 (by omega) (by omega) ?_ ?_
      · intro h75
        exfalso; omega
      · intro h76
        refine n_aload_n c_23_20 rfl ?_
        refine n_getR c_23_21 sc_4.n rfl rfl rfl r_4_2 ?_
        refine n_iload_n c_23_24 rfl ?_
        refine n_ialoadV c_23_25 sc_5.n rfl rfl rfl (by omega) (t_5k (z := 0) hS (by omega) (by omega) (by omega)) ?_
        intro z77 ez77 f78
        refine n_aload_n c_23_26 rfl ?_
        refine n_getR c_23_27 sc_4.n rfl rfl rfl r_4_3 ?_
        refine n_iload_n c_23_30 rfl ?_
        refine n_ialoadV c_23_31 sc_6.n rfl rfl rfl (by omega) (t_6k (z := 1) hS (by omega) (by omega) (by omega)) ?_
        intro z79 ez79 f80
        refine n_isub c_23_32 rfl ?_
        refine n_aload_n c_23_33 rfl ?_
        refine n_getR c_23_34 sc_4.n rfl rfl rfl r_4_4 ?_
        refine n_iload_n c_23_37 rfl ?_
        refine n_ialoadV c_23_38 sc_7.n rfl rfl rfl (by omega) (t_7k (z := 1) hS (by omega) (by omega) (by omega)) ?_
        intro z81 ez81 f82
        refine n_iadd c_23_39 rfl ?_
        refine n_istore_n (L2 := [some (2, 44), some (2, 4), some (0, 4), some (0, ((z77 - z79) + z81))]) c_23_40 rfl rfl ?_
        refine n_aload_n c_23_41 rfl ?_
        refine n_getR c_23_42 sc_44.n rfl rfl rfl r_44_4 ?_
        refine n_iload_n c_23_45 rfl ?_
        refine n_iload_n c_23_46 rfl ?_
        refine n_aload_n c_23_47 rfl ?_
        refine n_getV (bi := 5) c_23_48 sc_44.n rfl rfl rfl (t_44_5 hS) ?_
        intro z83 ez83 f84
        obtain rfl : z83 = 3 := by omega
        refine n_iconst c_23_51 ?_
        refine n_if2_ne c_23_52 (by omega) (by omega) ?_ ?_
        · intro h85
          refine n_iconst c_23_59 ?_
          have hcst : (((z77 - z79) + z81) : Int) = 0 := by omega
          rw [hcst]
          refine n_s2I c_23_60 rfl rfl rfl rfl (fmod3_3  hS ) ?_
          intro z86 M87 hP88
          obtain ⟨eM, f88⟩ := hP88
          subst eM
          obtain rfl : z86 = 0 := by omega
          refine n_iastoreV hS c_23_63 sc_45.n rfl (by omega) (w_45 (by omega) (by omega)) ?_
          intro M89 eM89 hS89
          have g89_0 : M89 44 5 = M 44 5 := by rw [eM89]; exact nu_a (by omega)
          refine n_iinc (L2 := [some (2, 44), some (2, 4), some (0, (4 + 1)), some (0, 0)]) c_23_64 rfl rfl rfl ?_
          refine n_goto c_23_67 ?_
          refine n_fg (le_s (le_s (le_s (le_n le_0)))) ?_
          exact ih _ M89 hS89 (by omega) (by omega) (by omega)
        · intro h90
          exfalso; omega
    · skip
      refine n_iload_n c_23_12 rfl ?_
      refine n_aload_n c_23_13 rfl ?_
      refine n_getV (bi := 1) c_23_14 sc_4.n rfl rfl rfl (t_4_1 hS) ?_
      intro z91 ez91 f92
      obtain rfl : z91 = 27 := by omega
      refine n_if2_ge c_23_17 (by omega) (by omega) ?_ ?_
      · intro h93
        exfalso; omega
      · intro h94
        refine n_aload_n c_23_20 rfl ?_
        refine n_getR c_23_21 sc_4.n rfl rfl rfl r_4_2 ?_
        refine n_iload_n c_23_24 rfl ?_
        refine n_ialoadV c_23_25 sc_5.n rfl rfl rfl (by omega) (t_5k (z := 0) hS (by omega) (by omega) (by omega)) ?_
        intro z95 ez95 f96
        refine n_aload_n c_23_26 rfl ?_
        refine n_getR c_23_27 sc_4.n rfl rfl rfl r_4_3 ?_
        refine n_iload_n c_23_30 rfl ?_
        refine n_ialoadV c_23_31 sc_6.n rfl rfl rfl (by omega) (t_6k (z := 1) hS (by omega) (by omega) (by omega)) ?_
        intro z97 ez97 f98
        refine n_isub c_23_32 rfl ?_
        refine n_aload_n c_23_33 rfl ?_
        refine n_getR c_23_34 sc_4.n rfl rfl rfl r_4_4 ?_
        refine n_iload_n c_23_37 rfl ?_
        refine n_ialoadV c_23_38 sc_7.n rfl rfl rfl (by omega) (t_7k (z := 2) hS (by omega) (by omega) (by omega)) ?_
        intro z99 ez99 f100
        refine n_iadd c_23_39 rfl ?_
        refine n_istore_n (L2 := [some (2, 44), some (2, 4), some (0, 5), some (0, ((z95 - z97) + z99))]) c_23_40 rfl rfl ?_
        refine n_aload_n c_23_41 rfl ?_
        refine n_getR c_23_42 sc_44.n rfl rfl rfl r_44_4 ?_
        refine n_iload_n c_23_45 rfl ?_
        refine n_iload_n c_23_46 rfl ?_
        refine n_aload_n c_23_47 rfl ?_
        refine n_getV (bi := 5) c_23_48 sc_44.n rfl rfl rfl (t_44_5 hS) ?_
        intro z101 ez101 f102
        obtain rfl : z101 = 3 := by omega
        refine n_iconst c_23_51 ?_
        refine n_if2_ne c_23_52 (by omega) (by omega) ?_ ?_
        · intro h103
          refine n_iconst c_23_59 ?_
          have hcst : (((z95 - z97) + z99) : Int) = 1 := by omega
          rw [hcst]
          refine n_s2I c_23_60 rfl rfl rfl rfl (fmod4_3  hS ) ?_
          intro z104 M105 hP106
          obtain ⟨eM, f106⟩ := hP106
          subst eM
          obtain rfl : z104 = 1 := by omega
          refine n_iastoreV hS c_23_63 sc_45.n rfl (by omega) (w_45 (by omega) (by omega)) ?_
          intro M107 eM107 hS107
          have g107_0 : M107 44 5 = M 44 5 := by rw [eM107]; exact nu_a (by omega)
          refine n_iinc (L2 := [some (2, 44), some (2, 4), some (0, (5 + 1)), some (0, 1)]) c_23_64 rfl rfl rfl ?_
          refine n_goto c_23_67 ?_
          refine n_fg (le_s (le_s (le_s (le_n le_0)))) ?_
          exact ih _ M107 hS107 (by omega) (by omega) (by omega)
        · intro h108
          exfalso; omega
    · skip
      refine n_iload_n c_23_12 rfl ?_
      refine n_aload_n c_23_13 rfl ?_
      refine n_getV (bi := 1) c_23_14 sc_4.n rfl rfl rfl (t_4_1 hS) ?_
      intro z109 ez109 f110
      obtain rfl : z109 = 27 := by omega
      refine n_if2_ge c_23_17 (by omega) (by omega) ?_ ?_
      · intro h111
        exfalso; omega
      · intro h112
        refine n_aload_n c_23_20 rfl ?_
        refine n_getR c_23_21 sc_4.n rfl rfl rfl r_4_2 ?_
        refine n_iload_n c_23_24 rfl ?_
        refine n_ialoadV c_23_25 sc_5.n rfl rfl rfl (by omega) (t_5k (z := 0) hS (by omega) (by omega) (by omega)) ?_
        intro z113 ez113 f114
        refine n_aload_n c_23_26 rfl ?_
        refine n_getR c_23_27 sc_4.n rfl rfl rfl r_4_3 ?_
        refine n_iload_n c_23_30 rfl ?_
        refine n_ialoadV c_23_31 sc_6.n rfl rfl rfl (by omega) (t_6k (z := 2) hS (by omega) (by omega) (by omega)) ?_
        intro z115 ez115 f116
        refine n_isub c_23_32 rfl ?_
        refine n_aload_n c_23_33 rfl ?_
        refine n_getR c_23_34 sc_4.n rfl rfl rfl r_4_4 ?_
        refine n_iload_n c_23_37 rfl ?_
        refine n_ialoadV c_23_38 sc_7.n rfl rfl rfl (by omega) (t_7k (z := 0) hS (by omega) (by omega) (by omega)) ?_
        intro z117 ez117 f118
        refine n_iadd c_23_39 rfl ?_
        refine n_istore_n (L2 := [some (2, 44), some (2, 4), some (0, 6), some (0, ((z113 - z115) + z117))]) c_23_40 rfl rfl ?_
        refine n_aload_n c_23_41 rfl ?_
        refine n_getR c_23_42 sc_44.n rfl rfl rfl r_44_4 ?_
        refine n_iload_n c_23_45 rfl ?_
        refine n_iload_n c_23_46 rfl ?_
        refine n_aload_n c_23_47 rfl ?_
        refine n_getV (bi := 5) c_23_48 sc_44.n rfl rfl rfl (t_44_5 hS) ?_
        intro z119 ez119 f120
        obtain rfl : z119 = 3 := by omega
        refine n_iconst c_23_51 ?_
        refine n_if2_ne c_23_52 (by omega) (by omega) ?_ ?_
        · intro h121
          refine n_iconst c_23_59 ?_
          have hcst : (((z113 - z115) + z117) : Int) = (-2) := by omega
          rw [hcst]
          refine n_s2I c_23_60 rfl rfl rfl rfl (fmod1_3  hS ) ?_
          intro z122 M123 hP124
          obtain ⟨eM, f124⟩ := hP124
          subst eM
          obtain rfl : z122 = 1 := by omega
          refine n_iastoreV hS c_23_63 sc_45.n rfl (by omega) (w_45 (by omega) (by omega)) ?_
          intro M125 eM125 hS125
          have g125_0 : M125 44 5 = M 44 5 := by rw [eM125]; exact nu_a (by omega)
          refine n_iinc (L2 := [some (2, 44), some (2, 4), some (0, (6 + 1)), some (0, (-2))]) c_23_64 rfl rfl rfl ?_
          refine n_goto c_23_67 ?_
          refine n_fg (le_s (le_s (le_s (le_n le_0)))) ?_
          exact ih _ M125 hS125 (by omega) (by omega) (by omega)
        · intro h126
          exfalso; omega
    · skip
      refine n_iload_n c_23_12 rfl ?_
      refine n_aload_n c_23_13 rfl ?_
      refine n_getV (bi := 1) c_23_14 sc_4.n rfl rfl rfl (t_4_1 hS) ?_
      intro z127 ez127 f128
      obtain rfl : z127 = 27 := by omega
      refine n_if2_ge c_23_17 (by omega) (by omega) ?_ ?_
      · intro h129
        exfalso; omega
      · intro h130
        refine n_aload_n c_23_20 rfl ?_
        refine n_getR c_23_21 sc_4.n rfl rfl rfl r_4_2 ?_
        refine n_iload_n c_23_24 rfl ?_
        refine n_ialoadV c_23_25 sc_5.n rfl rfl rfl (by omega) (t_5k (z := 0) hS (by omega) (by omega) (by omega)) ?_
        intro z131 ez131 f132
        refine n_aload_n c_23_26 rfl ?_
        refine n_getR c_23_27 sc_4.n rfl rfl rfl r_4_3 ?_
        refine n_iload_n c_23_30 rfl ?_
        refine n_ialoadV c_23_31 sc_6.n rfl rfl rfl (by omega) (t_6k (z := 2) hS (by omega) (by omega) (by omega)) ?_
        intro z133 ez133 f134
        refine n_isub c_23_32 rfl ?_
        refine n_aload_n c_23_33 rfl ?_
        refine n_getR c_23_34 sc_4.n rfl rfl rfl r_4_4 ?_
        refine n_iload_n c_23_37 rfl ?_
        refine n_ialoadV c_23_38 sc_7.n rfl rfl rfl (by omega) (t_7k (z := 1) hS (by omega) (by omega) (by omega)) ?_
        intro z135 ez135 f136
        refine n_iadd c_23_39 rfl ?_
        refine n_istore_n (L2 := [some (2, 44), some (2, 4), some (0, 7), some (0, ((z131 - z133) + z135))]) c_23_40 rfl rfl ?_
        refine n_aload_n c_23_41 rfl ?_
        refine n_getR c_23_42 sc_44.n rfl rfl rfl r_44_4 ?_
        refine n_iload_n c_23_45 rfl ?_
        refine n_iload_n c_23_46 rfl ?_
        refine n_aload_n c_23_47 rfl ?_
        refine n_getV (bi := 5) c_23_48 sc_44.n rfl rfl rfl (t_44_5 hS) ?_
        intro z137 ez137 f138
        obtain rfl : z137 = 3 := by omega
        refine n_iconst c_23_51 ?_
        refine n_if2_ne c_23_52 (by omega) (by omega) ?_ ?_
        · intro h139
          refine n_iconst c_23_59 ?_
          have hcst : (((z131 - z133) + z135) : Int) = (-1) := by omega
          rw [hcst]
          refine n_s2I c_23_60 rfl rfl rfl rfl (fmod2_3  hS ) ?_
          intro z140 M141 hP142
          obtain ⟨eM, f142⟩ := hP142
          subst eM
          obtain rfl : z140 = 2 := by omega
          refine n_iastoreV hS c_23_63 sc_45.n rfl (by omega) (w_45 (by omega) (by omega)) ?_
          intro M143 eM143 hS143
          have g143_0 : M143 44 5 = M 44 5 := by rw [eM143]; exact nu_a (by omega)
          refine n_iinc (L2 := [some (2, 44), some (2, 4), some (0, (7 + 1)), some (0, (-1))]) c_23_64 rfl rfl rfl ?_
          refine n_goto c_23_67 ?_
          refine n_fg (le_s (le_s (le_s (le_n le_0)))) ?_
          exact ih _ M143 hS143 (by omega) (by omega) (by omega)
        · intro h144
          exfalso; omega
    · skip
      refine n_iload_n c_23_12 rfl ?_
      refine n_aload_n c_23_13 rfl ?_
      refine n_getV (bi := 1) c_23_14 sc_4.n rfl rfl rfl (t_4_1 hS) ?_
      intro z145 ez145 f146
      obtain rfl : z145 = 27 := by omega
      refine n_if2_ge c_23_17 (by omega) (by omega) ?_ ?_
      · intro h147
        exfalso; omega
      · intro h148
        refine n_aload_n c_23_20 rfl ?_
        refine n_getR c_23_21 sc_4.n rfl rfl rfl r_4_2 ?_
        refine n_iload_n c_23_24 rfl ?_
        refine n_ialoadV c_23_25 sc_5.n rfl rfl rfl (by omega) (t_5k (z := 0) hS (by omega) (by omega) (by omega)) ?_
        intro z149 ez149 f150
        refine n_aload_n c_23_26 rfl ?_
        refine n_getR c_23_27 sc_4.n rfl rfl rfl r_4_3 ?_
        refine n_iload_n c_23_30 rfl ?_
        refine n_ialoadV c_23_31 sc_6.n rfl rfl rfl (by omega) (t_6k (z := 2) hS (by omega) (by omega) (by omega)) ?_
        intro z151 ez151 f152
        refine n_isub c_23_32 rfl ?_
        refine n_aload_n c_23_33 rfl ?_
        refine n_getR c_23_34 sc_4.n rfl rfl rfl r_4_4 ?_
        refine n_iload_n c_23_37 rfl ?_
        refine n_ialoadV c_23_38 sc_7.n rfl rfl rfl (by omega) (t_7k (z := 2) hS (by omega) (by omega) (by omega)) ?_
        intro z153 ez153 f154
        refine n_iadd c_23_39 rfl ?_
        refine n_istore_n (L2 := [some (2, 44), some (2, 4), some (0, 8), some (0, ((z149 - z151) + z153))]) c_23_40 rfl rfl ?_
        refine n_aload_n c_23_41 rfl ?_
        refine n_getR c_23_42 sc_44.n rfl rfl rfl r_44_4 ?_
        refine n_iload_n c_23_45 rfl ?_
        refine n_iload_n c_23_46 rfl ?_
        refine n_aload_n c_23_47 rfl ?_
        refine n_getV (bi := 5) c_23_48 sc_44.n rfl rfl rfl (t_44_5 hS) ?_
        intro z155 ez155 f156
        obtain rfl : z155 = 3 := by omega
        refine n_iconst c_23_51 ?_
        refine n_if2_ne c_23_52 (by omega) (by omega) ?_ ?_
        · intro h157
          refine n_iconst c_23_59 ?_
          have hcst : (((z149 - z151) + z153) : Int) = 0 := by omega
          rw [hcst]
          refine n_s2I c_23_60 rfl rfl rfl rfl (fmod3_3  hS ) ?_
          intro z158 M159 hP160
          obtain ⟨eM, f160⟩ := hP160
          subst eM
          obtain rfl : z158 = 0 := by omega
          refine n_iastoreV hS c_23_63 sc_45.n rfl (by omega) (w_45 (by omega) (by omega)) ?_
          intro M161 eM161 hS161
          have g161_0 : M161 44 5 = M 44 5 := by rw [eM161]; exact nu_a (by omega)
          refine n_iinc (L2 := [some (2, 44), some (2, 4), some (0, (8 + 1)), some (0, 0)]) c_23_64 rfl rfl rfl ?_
          refine n_goto c_23_67 ?_
          refine n_fg (le_s (le_s (le_s (le_n le_0)))) ?_
          exact ih _ M161 hS161 (by omega) (by omega) (by omega)
        · intro h162
          exfalso; omega
    · skip
      refine n_iload_n c_23_12 rfl ?_
      refine n_aload_n c_23_13 rfl ?_
      refine n_getV (bi := 1) c_23_14 sc_4.n rfl rfl rfl (t_4_1 hS) ?_
      intro z163 ez163 f164
      obtain rfl : z163 = 27 := by omega
      refine n_if2_ge c_23_17 (by omega) (by omega) ?_ ?_
      · intro h165
        exfalso; omega
      · intro h166
        refine n_aload_n c_23_20 rfl ?_
        refine n_getR c_23_21 sc_4.n rfl rfl rfl r_4_2 ?_
        refine n_iload_n c_23_24 rfl ?_
        refine n_ialoadV c_23_25 sc_5.n rfl rfl rfl (by omega) (t_5k (z := 1) hS (by omega) (by omega) (by omega)) ?_
        intro z167 ez167 f168
        refine n_aload_n c_23_26 rfl ?_
        refine n_getR c_23_27 sc_4.n rfl rfl rfl r_4_3 ?_
        refine n_iload_n c_23_30 rfl ?_
        refine n_ialoadV c_23_31 sc_6.n rfl rfl rfl (by omega) (t_6k (z := 0) hS (by omega) (by omega) (by omega)) ?_
        intro z169 ez169 f170
        refine n_isub c_23_32 rfl ?_
        refine n_aload_n c_23_33 rfl ?_
        refine n_getR c_23_34 sc_4.n rfl rfl rfl r_4_4 ?_
        refine n_iload_n c_23_37 rfl ?_
        refine n_ialoadV c_23_38 sc_7.n rfl rfl rfl (by omega) (t_7k (z := 0) hS (by omega) (by omega) (by omega)) ?_
        intro z171 ez171 f172
        refine n_iadd c_23_39 rfl ?_
        refine n_istore_n (L2 := [some (2, 44), some (2, 4), some (0, 9), some (0, ((z167 - z169) + z171))]) c_23_40 rfl rfl ?_
        refine n_aload_n c_23_41 rfl ?_
        refine n_getR c_23_42 sc_44.n rfl rfl rfl r_44_4 ?_
        refine n_iload_n c_23_45 rfl ?_
        refine n_iload_n c_23_46 rfl ?_
        refine n_aload_n c_23_47 rfl ?_
        refine n_getV (bi := 5) c_23_48 sc_44.n rfl rfl rfl (t_44_5 hS) ?_
        intro z173 ez173 f174
        obtain rfl : z173 = 3 := by omega
        refine n_iconst c_23_51 ?_
        refine n_if2_ne c_23_52 (by omega) (by omega) ?_ ?_
        · intro h175
          refine n_iconst c_23_59 ?_
          have hcst : (((z167 - z169) + z171) : Int) = 1 := by omega
          rw [hcst]
          refine n_s2I c_23_60 rfl rfl rfl rfl (fmod4_3  hS ) ?_
          intro z176 M177 hP178
          obtain ⟨eM, f178⟩ := hP178
          subst eM
          obtain rfl : z176 = 1 := by omega
          refine n_iastoreV hS c_23_63 sc_45.n rfl (by omega) (w_45 (by omega) (by omega)) ?_
          intro M179 eM179 hS179
          have g179_0 : M179 44 5 = M 44 5 := by rw [eM179]; exact nu_a (by omega)
          refine n_iinc (L2 := [some (2, 44), some (2, 4), some (0, (9 + 1)), some (0, 1)]) c_23_64 rfl rfl rfl ?_
          refine n_goto c_23_67 ?_
          refine n_fg (le_s (le_s (le_s (le_n le_0)))) ?_
          exact ih _ M179 hS179 (by omega) (by omega) (by omega)
        · intro h180
          exfalso; omega
    · skip
      refine n_iload_n c_23_12 rfl ?_
      refine n_aload_n c_23_13 rfl ?_
      refine n_getV (bi := 1) c_23_14 sc_4.n rfl rfl rfl (t_4_1 hS) ?_
      intro z181 ez181 f182
      obtain rfl : z181 = 27 := by omega
      refine n_if2_ge c_23_17 (by omega) (by omega) ?_ ?_
      · intro h183
        exfalso; omega
      · intro h184
        refine n_aload_n c_23_20 rfl ?_
        refine n_getR c_23_21 sc_4.n rfl rfl rfl r_4_2 ?_
        refine n_iload_n c_23_24 rfl ?_
        refine n_ialoadV c_23_25 sc_5.n rfl rfl rfl (by omega) (t_5k (z := 1) hS (by omega) (by omega) (by omega)) ?_
        intro z185 ez185 f186
        refine n_aload_n c_23_26 rfl ?_
        refine n_getR c_23_27 sc_4.n rfl rfl rfl r_4_3 ?_
        refine n_iload_n c_23_30 rfl ?_
        refine n_ialoadV c_23_31 sc_6.n rfl rfl rfl (by omega) (t_6k (z := 0) hS (by omega) (by omega) (by omega)) ?_
        intro z187 ez187 f188
        refine n_isub c_23_32 rfl ?_
        refine n_aload_n c_23_33 rfl ?_
        refine n_getR c_23_34 sc_4.n rfl rfl rfl r_4_4 ?_
        refine n_iload_n c_23_37 rfl ?_
        refine n_ialoadV c_23_38 sc_7.n rfl rfl rfl (by omega) (t_7k (z := 1) hS (by omega) (by omega) (by omega)) ?_
        intro z189 ez189 f190
        refine n_iadd c_23_39 rfl ?_
        refine n_istore_n (L2 := [some (2, 44), some (2, 4), some (0, 10), some (0, ((z185 - z187) + z189))]) c_23_40 rfl rfl ?_
        refine n_aload_n c_23_41 rfl ?_
        refine n_getR c_23_42 sc_44.n rfl rfl rfl r_44_4 ?_
        refine n_iload_n c_23_45 rfl ?_
        refine n_iload_n c_23_46 rfl ?_
        refine n_aload_n c_23_47 rfl ?_
        refine n_getV (bi := 5) c_23_48 sc_44.n rfl rfl rfl (t_44_5 hS) ?_
        intro z191 ez191 f192
        obtain rfl : z191 = 3 := by omega
        refine n_iconst c_23_51 ?_
        refine n_if2_ne c_23_52 (by omega) (by omega) ?_ ?_
        · intro h193
          refine n_iconst c_23_59 ?_
          have hcst : (((z185 - z187) + z189) : Int) = 2 := by omega
          rw [hcst]
          refine n_s2I c_23_60 rfl rfl rfl rfl (fmod5_3  hS ) ?_
          intro z194 M195 hP196
          obtain ⟨eM, f196⟩ := hP196
          subst eM
          obtain rfl : z194 = 2 := by omega
          refine n_iastoreV hS c_23_63 sc_45.n rfl (by omega) (w_45 (by omega) (by omega)) ?_
          intro M197 eM197 hS197
          have g197_0 : M197 44 5 = M 44 5 := by rw [eM197]; exact nu_a (by omega)
          refine n_iinc (L2 := [some (2, 44), some (2, 4), some (0, (10 + 1)), some (0, 2)]) c_23_64 rfl rfl rfl ?_
          refine n_goto c_23_67 ?_
          refine n_fg (le_s (le_s (le_s (le_n le_0)))) ?_
          exact ih _ M197 hS197 (by omega) (by omega) (by omega)
        · intro h198
          exfalso; omega
    · skip
      refine n_iload_n c_23_12 rfl ?_
      refine n_aload_n c_23_13 rfl ?_
      refine n_getV (bi := 1) c_23_14 sc_4.n rfl rfl rfl (t_4_1 hS) ?_
      intro z199 ez199 f200
      obtain rfl : z199 = 27 := by omega
      refine n_if2_ge c_23_17 (by omega) (by omega) ?_ ?_
      · intro h201
        exfalso; omega
      · intro h202
        refine n_aload_n c_23_20 rfl ?_
        refine n_getR c_23_21 sc_4.n rfl rfl rfl r_4_2 ?_
        refine n_iload_n c_23_24 rfl ?_
        refine n_ialoadV c_23_25 sc_5.n rfl rfl rfl (by omega) (t_5k (z := 1) hS (by omega) (by omega) (by omega)) ?_
        intro z203 ez203 f204
        refine n_aload_n c_23_26 rfl ?_
        refine n_getR c_23_27 sc_4.n rfl rfl rfl r_4_3 ?_
        refine n_iload_n c_23_30 rfl ?_
        refine n_ialoadV c_23_31 sc_6.n rfl rfl rfl (by omega) (t_6k (z := 0) hS (by omega) (by omega) (by omega)) ?_
        intro z205 ez205 f206
        refine n_isub c_23_32 rfl ?_
        refine n_aload_n c_23_33 rfl ?_
        refine n_getR c_23_34 sc_4.n rfl rfl rfl r_4_4 ?_
        refine n_iload_n c_23_37 rfl ?_
        refine n_ialoadV c_23_38 sc_7.n rfl rfl rfl (by omega) (t_7k (z := 2) hS (by omega) (by omega) (by omega)) ?_
        intro z207 ez207 f208
        refine n_iadd c_23_39 rfl ?_
        refine n_istore_n (L2 := [some (2, 44), some (2, 4), some (0, 11), some (0, ((z203 - z205) + z207))]) c_23_40 rfl rfl ?_
        refine n_aload_n c_23_41 rfl ?_
        refine n_getR c_23_42 sc_44.n rfl rfl rfl r_44_4 ?_
        refine n_iload_n c_23_45 rfl ?_
        refine n_iload_n c_23_46 rfl ?_
        refine n_aload_n c_23_47 rfl ?_
        refine n_getV (bi := 5) c_23_48 sc_44.n rfl rfl rfl (t_44_5 hS) ?_
        intro z209 ez209 f210
        obtain rfl : z209 = 3 := by omega
        refine n_iconst c_23_51 ?_
        refine n_if2_ne c_23_52 (by omega) (by omega) ?_ ?_
        · intro h211
          refine n_iconst c_23_59 ?_
          have hcst : (((z203 - z205) + z207) : Int) = 3 := by omega
          rw [hcst]
          refine n_s2I c_23_60 rfl rfl rfl rfl (fmod6_3  hS ) ?_
          intro z212 M213 hP214
          obtain ⟨eM, f214⟩ := hP214
          subst eM
          obtain rfl : z212 = 0 := by omega
          refine n_iastoreV hS c_23_63 sc_45.n rfl (by omega) (w_45 (by omega) (by omega)) ?_
          intro M215 eM215 hS215
          have g215_0 : M215 44 5 = M 44 5 := by rw [eM215]; exact nu_a (by omega)
          refine n_iinc (L2 := [some (2, 44), some (2, 4), some (0, (11 + 1)), some (0, 3)]) c_23_64 rfl rfl rfl ?_
          refine n_goto c_23_67 ?_
          refine n_fg (le_s (le_s (le_s (le_n le_0)))) ?_
          exact ih _ M215 hS215 (by omega) (by omega) (by omega)
        · intro h216
          exfalso; omega
    · skip
      refine n_iload_n c_23_12 rfl ?_
      refine n_aload_n c_23_13 rfl ?_
      refine n_getV (bi := 1) c_23_14 sc_4.n rfl rfl rfl (t_4_1 hS) ?_
      intro z217 ez217 f218
      obtain rfl : z217 = 27 := by omega
      refine n_if2_ge c_23_17 (by omega) (by omega) ?_ ?_
      · intro h219
        exfalso; omega
      · intro h220
        refine n_aload_n c_23_20 rfl ?_
        refine n_getR c_23_21 sc_4.n rfl rfl rfl r_4_2 ?_
        refine n_iload_n c_23_24 rfl ?_
        refine n_ialoadV c_23_25 sc_5.n rfl rfl rfl (by omega) (t_5k (z := 1) hS (by omega) (by omega) (by omega)) ?_
        intro z221 ez221 f222
        refine n_aload_n c_23_26 rfl ?_
        refine n_getR c_23_27 sc_4.n rfl rfl rfl r_4_3 ?_
        refine n_iload_n c_23_30 rfl ?_
        refine n_ialoadV c_23_31 sc_6.n rfl rfl rfl (by omega) (t_6k (z := 1) hS (by omega) (by omega) (by omega)) ?_
        intro z223 ez223 f224
        refine n_isub c_23_32 rfl ?_
        refine n_aload_n c_23_33 rfl ?_
        refine n_getR c_23_34 sc_4.n rfl rfl rfl r_4_4 ?_
        refine n_iload_n c_23_37 rfl ?_
        refine n_ialoadV c_23_38 sc_7.n rfl rfl rfl (by omega) (t_7k (z := 0) hS (by omega) (by omega) (by omega)) ?_
        intro z225 ez225 f226
        refine n_iadd c_23_39 rfl ?_
        refine n_istore_n (L2 := [some (2, 44), some (2, 4), some (0, 12), some (0, ((z221 - z223) + z225))]) c_23_40 rfl rfl ?_
        refine n_aload_n c_23_41 rfl ?_
        refine n_getR c_23_42 sc_44.n rfl rfl rfl r_44_4 ?_
        refine n_iload_n c_23_45 rfl ?_
        refine n_iload_n c_23_46 rfl ?_
        refine n_aload_n c_23_47 rfl ?_
        refine n_getV (bi := 5) c_23_48 sc_44.n rfl rfl rfl (t_44_5 hS) ?_
        intro z227 ez227 f228
        obtain rfl : z227 = 3 := by omega
        refine n_iconst c_23_51 ?_
        refine n_if2_ne c_23_52 (by omega) (by omega) ?_ ?_
        · intro h229
          refine n_iconst c_23_59 ?_
          have hcst : (((z221 - z223) + z225) : Int) = 0 := by omega
          rw [hcst]
          refine n_s2I c_23_60 rfl rfl rfl rfl (fmod3_3  hS ) ?_
          intro z230 M231 hP232
          obtain ⟨eM, f232⟩ := hP232
          subst eM
          obtain rfl : z230 = 0 := by omega
          refine n_iastoreV hS c_23_63 sc_45.n rfl (by omega) (w_45 (by omega) (by omega)) ?_
          intro M233 eM233 hS233
          have g233_0 : M233 44 5 = M 44 5 := by rw [eM233]; exact nu_a (by omega)
          refine n_iinc (L2 := [some (2, 44), some (2, 4), some (0, (12 + 1)), some (0, 0)]) c_23_64 rfl rfl rfl ?_
          refine n_goto c_23_67 ?_
          refine n_fg (le_s (le_s (le_s (le_n le_0)))) ?_
          exact ih _ M233 hS233 (by omega) (by omega) (by omega)
        · intro h234
          exfalso; omega
    · skip
      refine n_iload_n c_23_12 rfl ?_
      refine n_aload_n c_23_13 rfl ?_
      refine n_getV (bi := 1) c_23_14 sc_4.n rfl rfl rfl (t_4_1 hS) ?_
      intro z235 ez235 f236
      obtain rfl : z235 = 27 := by omega
      refine n_if2_ge c_23_17 (by omega) (by omega) ?_ ?_
      · intro h237
        exfalso; omega
      · intro h238
        refine n_aload_n c_23_20 rfl ?_
        refine n_getR c_23_21 sc_4.n rfl rfl rfl r_4_2 ?_
        refine n_iload_n c_23_24 rfl ?_
        refine n_ialoadV c_23_25 sc_5.n rfl rfl rfl (by omega) (t_5k (z := 1) hS (by omega) (by omega) (by omega)) ?_
        intro z239 ez239 f240
        refine n_aload_n c_23_26 rfl ?_
        refine n_getR c_23_27 sc_4.n rfl rfl rfl r_4_3 ?_
        refine n_iload_n c_23_30 rfl ?_
        refine n_ialoadV c_23_31 sc_6.n rfl rfl rfl (by omega) (t_6k (z := 1) hS (by omega) (by omega) (by omega)) ?_
        intro z241 ez241 f242
        refine n_isub c_23_32 rfl ?_
        refine n_aload_n c_23_33 rfl ?_
        refine n_getR c_23_34 sc_4.n rfl rfl rfl r_4_4 ?_
        refine n_iload_n c_23_37 rfl ?_
        refine n_ialoadV c_23_38 sc_7.n rfl rfl rfl (by omega) (t_7k (z := 1) hS (by omega) (by omega) (by omega)) ?_
        intro z243 ez243 f244
        refine n_iadd c_23_39 rfl ?_
        refine n_istore_n (L2 := [some (2, 44), some (2, 4), some (0, 13), some (0, ((z239 - z241) + z243))]) c_23_40 rfl rfl ?_
        refine n_aload_n c_23_41 rfl ?_
        refine n_getR c_23_42 sc_44.n rfl rfl rfl r_44_4 ?_
        refine n_iload_n c_23_45 rfl ?_
        refine n_iload_n c_23_46 rfl ?_
        refine n_aload_n c_23_47 rfl ?_
        refine n_getV (bi := 5) c_23_48 sc_44.n rfl rfl rfl (t_44_5 hS) ?_
        intro z245 ez245 f246
        obtain rfl : z245 = 3 := by omega
        refine n_iconst c_23_51 ?_
        refine n_if2_ne c_23_52 (by omega) (by omega) ?_ ?_
        · intro h247
          refine n_iconst c_23_59 ?_
          have hcst : (((z239 - z241) + z243) : Int) = 1 := by omega
          rw [hcst]
          refine n_s2I c_23_60 rfl rfl rfl rfl (fmod4_3  hS ) ?_
          intro z248 M249 hP250
          obtain ⟨eM, f250⟩ := hP250
          subst eM
          obtain rfl : z248 = 1 := by omega
          refine n_iastoreV hS c_23_63 sc_45.n rfl (by omega) (w_45 (by omega) (by omega)) ?_
          intro M251 eM251 hS251
          have g251_0 : M251 44 5 = M 44 5 := by rw [eM251]; exact nu_a (by omega)
          refine n_iinc (L2 := [some (2, 44), some (2, 4), some (0, (13 + 1)), some (0, 1)]) c_23_64 rfl rfl rfl ?_
          refine n_goto c_23_67 ?_
          refine n_fg (le_s (le_s (le_s (le_n le_0)))) ?_
          exact ih _ M251 hS251 (by omega) (by omega) (by omega)
        · intro h252
          exfalso; omega
    · skip
      refine n_iload_n c_23_12 rfl ?_
      refine n_aload_n c_23_13 rfl ?_
      refine n_getV (bi := 1) c_23_14 sc_4.n rfl rfl rfl (t_4_1 hS) ?_
      intro z253 ez253 f254
      obtain rfl : z253 = 27 := by omega
      refine n_if2_ge c_23_17 (by omega) (by omega) ?_ ?_
      · intro h255
        exfalso; omega
      · intro h256
        refine n_aload_n c_23_20 rfl ?_
        refine n_getR c_23_21 sc_4.n rfl rfl rfl r_4_2 ?_
        refine n_iload_n c_23_24 rfl ?_
        refine n_ialoadV c_23_25 sc_5.n rfl rfl rfl (by omega) (t_5k (z := 1) hS (by omega) (by omega) (by omega)) ?_
        intro z257 ez257 f258
        refine n_aload_n c_23_26 rfl ?_
        refine n_getR c_23_27 sc_4.n rfl rfl rfl r_4_3 ?_
        refine n_iload_n c_23_30 rfl ?_
        refine n_ialoadV c_23_31 sc_6.n rfl rfl rfl (by omega) (t_6k (z := 1) hS (by omega) (by omega) (by omega)) ?_
        intro z259 ez259 f260
        refine n_isub c_23_32 rfl ?_
        refine n_aload_n c_23_33 rfl ?_
        refine n_getR c_23_34 sc_4.n rfl rfl rfl r_4_4 ?_
        refine n_iload_n c_23_37 rfl ?_
        refine n_ialoadV c_23_38 sc_7.n rfl rfl rfl (by omega) (t_7k (z := 2) hS (by omega) (by omega) (by omega)) ?_
        intro z261 ez261 f262
        refine n_iadd c_23_39 rfl ?_
        refine n_istore_n (L2 := [some (2, 44), some (2, 4), some (0, 14), some (0, ((z257 - z259) + z261))]) c_23_40 rfl rfl ?_
        refine n_aload_n c_23_41 rfl ?_
        refine n_getR c_23_42 sc_44.n rfl rfl rfl r_44_4 ?_
        refine n_iload_n c_23_45 rfl ?_
        refine n_iload_n c_23_46 rfl ?_
        refine n_aload_n c_23_47 rfl ?_
        refine n_getV (bi := 5) c_23_48 sc_44.n rfl rfl rfl (t_44_5 hS) ?_
        intro z263 ez263 f264
        obtain rfl : z263 = 3 := by omega
        refine n_iconst c_23_51 ?_
        refine n_if2_ne c_23_52 (by omega) (by omega) ?_ ?_
        · intro h265
          refine n_iconst c_23_59 ?_
          have hcst : (((z257 - z259) + z261) : Int) = 2 := by omega
          rw [hcst]
          refine n_s2I c_23_60 rfl rfl rfl rfl (fmod5_3  hS ) ?_
          intro z266 M267 hP268
          obtain ⟨eM, f268⟩ := hP268
          subst eM
          obtain rfl : z266 = 2 := by omega
          refine n_iastoreV hS c_23_63 sc_45.n rfl (by omega) (w_45 (by omega) (by omega)) ?_
          intro M269 eM269 hS269
          have g269_0 : M269 44 5 = M 44 5 := by rw [eM269]; exact nu_a (by omega)
          refine n_iinc (L2 := [some (2, 44), some (2, 4), some (0, (14 + 1)), some (0, 2)]) c_23_64 rfl rfl rfl ?_
          refine n_goto c_23_67 ?_
          refine n_fg (le_s (le_s (le_s (le_n le_0)))) ?_
          exact ih _ M269 hS269 (by omega) (by omega) (by omega)
        · intro h270
          exfalso; omega
    · skip
      refine n_iload_n c_23_12 rfl ?_
      refine n_aload_n c_23_13 rfl ?_
      refine n_getV (bi := 1) c_23_14 sc_4.n rfl rfl rfl (t_4_1 hS) ?_
      intro z271 ez271 f272
      obtain rfl : z271 = 27 := by omega
      refine n_if2_ge c_23_17 (by omega) (by omega) ?_ ?_
      · intro h273
        exfalso; omega
      · intro h274
        refine n_aload_n c_23_20 rfl ?_
        refine n_getR c_23_21 sc_4.n rfl rfl rfl r_4_2 ?_
        refine n_iload_n c_23_24 rfl ?_
        refine n_ialoadV c_23_25 sc_5.n rfl rfl rfl (by omega) (t_5k (z := 1) hS (by omega) (by omega) (by omega)) ?_
        intro z275 ez275 f276
        refine n_aload_n c_23_26 rfl ?_
        refine n_getR c_23_27 sc_4.n rfl rfl rfl r_4_3 ?_
        refine n_iload_n c_23_30 rfl ?_
        refine n_ialoadV c_23_31 sc_6.n rfl rfl rfl (by omega) (t_6k (z := 2) hS (by omega) (by omega) (by omega)) ?_
        intro z277 ez277 f278
        refine n_isub c_23_32 rfl ?_
        refine n_aload_n c_23_33 rfl ?_
        refine n_getR c_23_34 sc_4.n rfl rfl rfl r_4_4 ?_
        refine n_iload_n c_23_37 rfl ?_
        refine n_ialoadV c_23_38 sc_7.n rfl rfl rfl (by omega) (t_7k (z := 0) hS (by omega) (by omega) (by omega)) ?_
        intro z279 ez279 f280
        refine n_iadd c_23_39 rfl ?_
        refine n_istore_n (L2 := [some (2, 44), some (2, 4), some (0, 15), some (0, ((z275 - z277) + z279))]) c_23_40 rfl rfl ?_
        refine n_aload_n c_23_41 rfl ?_
        refine n_getR c_23_42 sc_44.n rfl rfl rfl r_44_4 ?_
        refine n_iload_n c_23_45 rfl ?_
        refine n_iload_n c_23_46 rfl ?_
        refine n_aload_n c_23_47 rfl ?_
        refine n_getV (bi := 5) c_23_48 sc_44.n rfl rfl rfl (t_44_5 hS) ?_
        intro z281 ez281 f282
        obtain rfl : z281 = 3 := by omega
        refine n_iconst c_23_51 ?_
        refine n_if2_ne c_23_52 (by omega) (by omega) ?_ ?_
        · intro h283
          refine n_iconst c_23_59 ?_
          have hcst : (((z275 - z277) + z279) : Int) = (-1) := by omega
          rw [hcst]
          refine n_s2I c_23_60 rfl rfl rfl rfl (fmod2_3  hS ) ?_
          intro z284 M285 hP286
          obtain ⟨eM, f286⟩ := hP286
          subst eM
          obtain rfl : z284 = 2 := by omega
          refine n_iastoreV hS c_23_63 sc_45.n rfl (by omega) (w_45 (by omega) (by omega)) ?_
          intro M287 eM287 hS287
          have g287_0 : M287 44 5 = M 44 5 := by rw [eM287]; exact nu_a (by omega)
          refine n_iinc (L2 := [some (2, 44), some (2, 4), some (0, (15 + 1)), some (0, (-1))]) c_23_64 rfl rfl rfl ?_
          refine n_goto c_23_67 ?_
          refine n_fg (le_s (le_s (le_s (le_n le_0)))) ?_
          exact ih _ M287 hS287 (by omega) (by omega) (by omega)
        · intro h288
          exfalso; omega
    · skip
      refine n_iload_n c_23_12 rfl ?_
      refine n_aload_n c_23_13 rfl ?_
      refine n_getV (bi := 1) c_23_14 sc_4.n rfl rfl rfl (t_4_1 hS) ?_
      intro z289 ez289 f290
      obtain rfl : z289 = 27 := by omega
      refine n_if2_ge c_23_17 (by omega) (by omega) ?_ ?_
      · intro h291
        exfalso; omega
      · intro h292
        refine n_aload_n c_23_20 rfl ?_
        refine n_getR c_23_21 sc_4.n rfl rfl rfl r_4_2 ?_
        refine n_iload_n c_23_24 rfl ?_
        refine n_ialoadV c_23_25 sc_5.n rfl rfl rfl (by omega) (t_5k (z := 1) hS (by omega) (by omega) (by omega)) ?_
        intro z293 ez293 f294
        refine n_aload_n c_23_26 rfl ?_
        refine n_getR c_23_27 sc_4.n rfl rfl rfl r_4_3 ?_
        refine n_iload_n c_23_30 rfl ?_
        refine n_ialoadV c_23_31 sc_6.n rfl rfl rfl (by omega) (t_6k (z := 2) hS (by omega) (by omega) (by omega)) ?_
        intro z295 ez295 f296
        refine n_isub c_23_32 rfl ?_
        refine n_aload_n c_23_33 rfl ?_
        refine n_getR c_23_34 sc_4.n rfl rfl rfl r_4_4 ?_
        refine n_iload_n c_23_37 rfl ?_
        refine n_ialoadV c_23_38 sc_7.n rfl rfl rfl (by omega) (t_7k (z := 1) hS (by omega) (by omega) (by omega)) ?_
        intro z297 ez297 f298
        refine n_iadd c_23_39 rfl ?_
        refine n_istore_n (L2 := [some (2, 44), some (2, 4), some (0, 16), some (0, ((z293 - z295) + z297))]) c_23_40 rfl rfl ?_
        refine n_aload_n c_23_41 rfl ?_
        refine n_getR c_23_42 sc_44.n rfl rfl rfl r_44_4 ?_
        refine n_iload_n c_23_45 rfl ?_
        refine n_iload_n c_23_46 rfl ?_
        refine n_aload_n c_23_47 rfl ?_
        refine n_getV (bi := 5) c_23_48 sc_44.n rfl rfl rfl (t_44_5 hS) ?_
        intro z299 ez299 f300
        obtain rfl : z299 = 3 := by omega
        refine n_iconst c_23_51 ?_
        refine n_if2_ne c_23_52 (by omega) (by omega) ?_ ?_
        · intro h301
          refine n_iconst c_23_59 ?_
          have hcst : (((z293 - z295) + z297) : Int) = 0 := by omega
          rw [hcst]
          refine n_s2I c_23_60 rfl rfl rfl rfl (fmod3_3  hS ) ?_
          intro z302 M303 hP304
          obtain ⟨eM, f304⟩ := hP304
          subst eM
          obtain rfl : z302 = 0 := by omega
          refine n_iastoreV hS c_23_63 sc_45.n rfl (by omega) (w_45 (by omega) (by omega)) ?_
          intro M305 eM305 hS305
          have g305_0 : M305 44 5 = M 44 5 := by rw [eM305]; exact nu_a (by omega)
          refine n_iinc (L2 := [some (2, 44), some (2, 4), some (0, (16 + 1)), some (0, 0)]) c_23_64 rfl rfl rfl ?_
          refine n_goto c_23_67 ?_
          refine n_fg (le_s (le_s (le_s (le_n le_0)))) ?_
          exact ih _ M305 hS305 (by omega) (by omega) (by omega)
        · intro h306
          exfalso; omega
    · skip
      refine n_iload_n c_23_12 rfl ?_
      refine n_aload_n c_23_13 rfl ?_
      refine n_getV (bi := 1) c_23_14 sc_4.n rfl rfl rfl (t_4_1 hS) ?_
      intro z307 ez307 f308
      obtain rfl : z307 = 27 := by omega
      refine n_if2_ge c_23_17 (by omega) (by omega) ?_ ?_
      · intro h309
        exfalso; omega
      · intro h310
        refine n_aload_n c_23_20 rfl ?_
        refine n_getR c_23_21 sc_4.n rfl rfl rfl r_4_2 ?_
        refine n_iload_n c_23_24 rfl ?_
        refine n_ialoadV c_23_25 sc_5.n rfl rfl rfl (by omega) (t_5k (z := 1) hS (by omega) (by omega) (by omega)) ?_
        intro z311 ez311 f312
        refine n_aload_n c_23_26 rfl ?_
        refine n_getR c_23_27 sc_4.n rfl rfl rfl r_4_3 ?_
        refine n_iload_n c_23_30 rfl ?_
        refine n_ialoadV c_23_31 sc_6.n rfl rfl rfl (by omega) (t_6k (z := 2) hS (by omega) (by omega) (by omega)) ?_
        intro z313 ez313 f314
        refine n_isub c_23_32 rfl ?_
        refine n_aload_n c_23_33 rfl ?_
        refine n_getR c_23_34 sc_4.n rfl rfl rfl r_4_4 ?_
        refine n_iload_n c_23_37 rfl ?_
        refine n_ialoadV c_23_38 sc_7.n rfl rfl rfl (by omega) (t_7k (z := 2) hS (by omega) (by omega) (by omega)) ?_
        intro z315 ez315 f316
        refine n_iadd c_23_39 rfl ?_
        refine n_istore_n (L2 := [some (2, 44), some (2, 4), some (0, 17), some (0, ((z311 - z313) + z315))]) c_23_40 rfl rfl ?_
        refine n_aload_n c_23_41 rfl ?_
        refine n_getR c_23_42 sc_44.n rfl rfl rfl r_44_4 ?_
        refine n_iload_n c_23_45 rfl ?_
        refine n_iload_n c_23_46 rfl ?_
        refine n_aload_n c_23_47 rfl ?_
        refine n_getV (bi := 5) c_23_48 sc_44.n rfl rfl rfl (t_44_5 hS) ?_
        intro z317 ez317 f318
        obtain rfl : z317 = 3 := by omega
        refine n_iconst c_23_51 ?_
        refine n_if2_ne c_23_52 (by omega) (by omega) ?_ ?_
        · intro h319
          refine n_iconst c_23_59 ?_
          have hcst : (((z311 - z313) + z315) : Int) = 1 := by omega
          rw [hcst]
          refine n_s2I c_23_60 rfl rfl rfl rfl (fmod4_3  hS ) ?_
          intro z320 M321 hP322
          obtain ⟨eM, f322⟩ := hP322
          subst eM
          obtain rfl : z320 = 1 := by omega
          refine n_iastoreV hS c_23_63 sc_45.n rfl (by omega) (w_45 (by omega) (by omega)) ?_
          intro M323 eM323 hS323
          have g323_0 : M323 44 5 = M 44 5 := by rw [eM323]; exact nu_a (by omega)
          refine n_iinc (L2 := [some (2, 44), some (2, 4), some (0, (17 + 1)), some (0, 1)]) c_23_64 rfl rfl rfl ?_
          refine n_goto c_23_67 ?_
          refine n_fg (le_s (le_s (le_s (le_n le_0)))) ?_
          exact ih _ M323 hS323 (by omega) (by omega) (by omega)
        · intro h324
          exfalso; omega
    · skip
      refine n_iload_n c_23_12 rfl ?_
      refine n_aload_n c_23_13 rfl ?_
      refine n_getV (bi := 1) c_23_14 sc_4.n rfl rfl rfl (t_4_1 hS) ?_
      intro z325 ez325 f326
      obtain rfl : z325 = 27 := by omega
      refine n_if2_ge c_23_17 (by omega) (by omega) ?_ ?_
      · intro h327
        exfalso; omega
      · intro h328
        refine n_aload_n c_23_20 rfl ?_
        refine n_getR c_23_21 sc_4.n rfl rfl rfl r_4_2 ?_
        refine n_iload_n c_23_24 rfl ?_
        refine n_ialoadV c_23_25 sc_5.n rfl rfl rfl (by omega) (t_5k (z := 2) hS (by omega) (by omega) (by omega)) ?_
        intro z329 ez329 f330
        refine n_aload_n c_23_26 rfl ?_
        refine n_getR c_23_27 sc_4.n rfl rfl rfl r_4_3 ?_
        refine n_iload_n c_23_30 rfl ?_
        refine n_ialoadV c_23_31 sc_6.n rfl rfl rfl (by omega) (t_6k (z := 0) hS (by omega) (by omega) (by omega)) ?_
        intro z331 ez331 f332
        refine n_isub c_23_32 rfl ?_
        refine n_aload_n c_23_33 rfl ?_
        refine n_getR c_23_34 sc_4.n rfl rfl rfl r_4_4 ?_
        refine n_iload_n c_23_37 rfl ?_
        refine n_ialoadV c_23_38 sc_7.n rfl rfl rfl (by omega) (t_7k (z := 0) hS (by omega) (by omega) (by omega)) ?_
        intro z333 ez333 f334
        refine n_iadd c_23_39 rfl ?_
        refine n_istore_n (L2 := [some (2, 44), some (2, 4), some (0, 18), some (0, ((z329 - z331) + z333))]) c_23_40 rfl rfl ?_
        refine n_aload_n c_23_41 rfl ?_
        refine n_getR c_23_42 sc_44.n rfl rfl rfl r_44_4 ?_
        refine n_iload_n c_23_45 rfl ?_
        refine n_iload_n c_23_46 rfl ?_
        refine n_aload_n c_23_47 rfl ?_
        refine n_getV (bi := 5) c_23_48 sc_44.n rfl rfl rfl (t_44_5 hS) ?_
        intro z335 ez335 f336
        obtain rfl : z335 = 3 := by omega
        refine n_iconst c_23_51 ?_
        refine n_if2_ne c_23_52 (by omega) (by omega) ?_ ?_
        · intro h337
          refine n_iconst c_23_59 ?_
          have hcst : (((z329 - z331) + z333) : Int) = 2 := by omega
          rw [hcst]
          refine n_s2I c_23_60 rfl rfl rfl rfl (fmod5_3  hS ) ?_
          intro z338 M339 hP340
          obtain ⟨eM, f340⟩ := hP340
          subst eM
          obtain rfl : z338 = 2 := by omega
          refine n_iastoreV hS c_23_63 sc_45.n rfl (by omega) (w_45 (by omega) (by omega)) ?_
          intro M341 eM341 hS341
          have g341_0 : M341 44 5 = M 44 5 := by rw [eM341]; exact nu_a (by omega)
          refine n_iinc (L2 := [some (2, 44), some (2, 4), some (0, (18 + 1)), some (0, 2)]) c_23_64 rfl rfl rfl ?_
          refine n_goto c_23_67 ?_
          refine n_fg (le_s (le_s (le_s (le_n le_0)))) ?_
          exact ih _ M341 hS341 (by omega) (by omega) (by omega)
        · intro h342
          exfalso; omega
    · skip
      refine n_iload_n c_23_12 rfl ?_
      refine n_aload_n c_23_13 rfl ?_
      refine n_getV (bi := 1) c_23_14 sc_4.n rfl rfl rfl (t_4_1 hS) ?_
      intro z343 ez343 f344
      obtain rfl : z343 = 27 := by omega
      refine n_if2_ge c_23_17 (by omega) (by omega) ?_ ?_
      · intro h345
        exfalso; omega
      · intro h346
        refine n_aload_n c_23_20 rfl ?_
        refine n_getR c_23_21 sc_4.n rfl rfl rfl r_4_2 ?_
        refine n_iload_n c_23_24 rfl ?_
        refine n_ialoadV c_23_25 sc_5.n rfl rfl rfl (by omega) (t_5k (z := 2) hS (by omega) (by omega) (by omega)) ?_
        intro z347 ez347 f348
        refine n_aload_n c_23_26 rfl ?_
        refine n_getR c_23_27 sc_4.n rfl rfl rfl r_4_3 ?_
        refine n_iload_n c_23_30 rfl ?_
        refine n_ialoadV c_23_31 sc_6.n rfl rfl rfl (by omega) (t_6k (z := 0) hS (by omega) (by omega) (by omega)) ?_
        intro z349 ez349 f350
        refine n_isub c_23_32 rfl ?_
        refine n_aload_n c_23_33 rfl ?_
        refine n_getR c_23_34 sc_4.n rfl rfl rfl r_4_4 ?_
        refine n_iload_n c_23_37 rfl ?_
        refine n_ialoadV c_23_38 sc_7.n rfl rfl rfl (by omega) (t_7k (z := 1) hS (by omega) (by omega) (by omega)) ?_
        intro z351 ez351 f352
        refine n_iadd c_23_39 rfl ?_
        refine n_istore_n (L2 := [some (2, 44), some (2, 4), some (0, 19), some (0, ((z347 - z349) + z351))]) c_23_40 rfl rfl ?_
        refine n_aload_n c_23_41 rfl ?_
        refine n_getR c_23_42 sc_44.n rfl rfl rfl r_44_4 ?_
        refine n_iload_n c_23_45 rfl ?_
        refine n_iload_n c_23_46 rfl ?_
        refine n_aload_n c_23_47 rfl ?_
        refine n_getV (bi := 5) c_23_48 sc_44.n rfl rfl rfl (t_44_5 hS) ?_
        intro z353 ez353 f354
        obtain rfl : z353 = 3 := by omega
        refine n_iconst c_23_51 ?_
        refine n_if2_ne c_23_52 (by omega) (by omega) ?_ ?_
        · intro h355
          refine n_iconst c_23_59 ?_
          have hcst : (((z347 - z349) + z351) : Int) = 3 := by omega
          rw [hcst]
          refine n_s2I c_23_60 rfl rfl rfl rfl (fmod6_3  hS ) ?_
          intro z356 M357 hP358
          obtain ⟨eM, f358⟩ := hP358
          subst eM
          obtain rfl : z356 = 0 := by omega
          refine n_iastoreV hS c_23_63 sc_45.n rfl (by omega) (w_45 (by omega) (by omega)) ?_
          intro M359 eM359 hS359
          have g359_0 : M359 44 5 = M 44 5 := by rw [eM359]; exact nu_a (by omega)
          refine n_iinc (L2 := [some (2, 44), some (2, 4), some (0, (19 + 1)), some (0, 3)]) c_23_64 rfl rfl rfl ?_
          refine n_goto c_23_67 ?_
          refine n_fg (le_s (le_s (le_s (le_n le_0)))) ?_
          exact ih _ M359 hS359 (by omega) (by omega) (by omega)
        · intro h360
          exfalso; omega
    · skip
      refine n_iload_n c_23_12 rfl ?_
      refine n_aload_n c_23_13 rfl ?_
      refine n_getV (bi := 1) c_23_14 sc_4.n rfl rfl rfl (t_4_1 hS) ?_
      intro z361 ez361 f362
      obtain rfl : z361 = 27 := by omega
      refine n_if2_ge c_23_17 (by omega) (by omega) ?_ ?_
      · intro h363
        exfalso; omega
      · intro h364
        refine n_aload_n c_23_20 rfl ?_
        refine n_getR c_23_21 sc_4.n rfl rfl rfl r_4_2 ?_
        refine n_iload_n c_23_24 rfl ?_
        refine n_ialoadV c_23_25 sc_5.n rfl rfl rfl (by omega) (t_5k (z := 2) hS (by omega) (by omega) (by omega)) ?_
        intro z365 ez365 f366
        refine n_aload_n c_23_26 rfl ?_
        refine n_getR c_23_27 sc_4.n rfl rfl rfl r_4_3 ?_
        refine n_iload_n c_23_30 rfl ?_
        refine n_ialoadV c_23_31 sc_6.n rfl rfl rfl (by omega) (t_6k (z := 0) hS (by omega) (by omega) (by omega)) ?_
        intro z367 ez367 f368
        refine n_isub c_23_32 rfl ?_
        refine n_aload_n c_23_33 rfl ?_
        refine n_getR c_23_34 sc_4.n rfl rfl rfl r_4_4 ?_
        refine n_iload_n c_23_37 rfl ?_
        refine n_ialoadV c_23_38 sc_7.n rfl rfl rfl (by omega) (t_7k (z := 2) hS (by omega) (by omega) (by omega)) ?_
        intro z369 ez369 f370
        refine n_iadd c_23_39 rfl ?_
        refine n_istore_n (L2 := [some (2, 44), some (2, 4), some (0, 20), some (0, ((z365 - z367) + z369))]) c_23_40 rfl rfl ?_
        refine n_aload_n c_23_41 rfl ?_
        refine n_getR c_23_42 sc_44.n rfl rfl rfl r_44_4 ?_
        refine n_iload_n c_23_45 rfl ?_
        refine n_iload_n c_23_46 rfl ?_
        refine n_aload_n c_23_47 rfl ?_
        refine n_getV (bi := 5) c_23_48 sc_44.n rfl rfl rfl (t_44_5 hS) ?_
        intro z371 ez371 f372
        obtain rfl : z371 = 3 := by omega
        refine n_iconst c_23_51 ?_
        refine n_if2_ne c_23_52 (by omega) (by omega) ?_ ?_
        · intro h373
          refine n_iconst c_23_59 ?_
          have hcst : (((z365 - z367) + z369) : Int) = 4 := by omega
          rw [hcst]
          refine n_s2I c_23_60 rfl rfl rfl rfl (fmod7_3  hS ) ?_
          intro z374 M375 hP376
          obtain ⟨eM, f376⟩ := hP376
          subst eM
          obtain rfl : z374 = 1 := by omega
          refine n_iastoreV hS c_23_63 sc_45.n rfl (by omega) (w_45 (by omega) (by omega)) ?_
          intro M377 eM377 hS377
          have g377_0 : M377 44 5 = M 44 5 := by rw [eM377]; exact nu_a (by omega)
          refine n_iinc (L2 := [some (2, 44), some (2, 4), some (0, (20 + 1)), some (0, 4)]) c_23_64 rfl rfl rfl ?_
          refine n_goto c_23_67 ?_
          refine n_fg (le_s (le_s (le_s (le_n le_0)))) ?_
          exact ih _ M377 hS377 (by omega) (by omega) (by omega)
        · intro h378
          exfalso; omega
    · skip
      refine n_iload_n c_23_12 rfl ?_
      refine n_aload_n c_23_13 rfl ?_
      refine n_getV (bi := 1) c_23_14 sc_4.n rfl rfl rfl (t_4_1 hS) ?_
      intro z379 ez379 f380
      obtain rfl : z379 = 27 := by omega
      refine n_if2_ge c_23_17 (by omega) (by omega) ?_ ?_
      · intro h381
        exfalso; omega
      · intro h382
        refine n_aload_n c_23_20 rfl ?_
        refine n_getR c_23_21 sc_4.n rfl rfl rfl r_4_2 ?_
        refine n_iload_n c_23_24 rfl ?_
        refine n_ialoadV c_23_25 sc_5.n rfl rfl rfl (by omega) (t_5k (z := 2) hS (by omega) (by omega) (by omega)) ?_
        intro z383 ez383 f384
        refine n_aload_n c_23_26 rfl ?_
        refine n_getR c_23_27 sc_4.n rfl rfl rfl r_4_3 ?_
        refine n_iload_n c_23_30 rfl ?_
        refine n_ialoadV c_23_31 sc_6.n rfl rfl rfl (by omega) (t_6k (z := 1) hS (by omega) (by omega) (by omega)) ?_
        intro z385 ez385 f386
        refine n_isub c_23_32 rfl ?_
        refine n_aload_n c_23_33 rfl ?_
        refine n_getR c_23_34 sc_4.n rfl rfl rfl r_4_4 ?_
        refine n_iload_n c_23_37 rfl ?_
        refine n_ialoadV c_23_38 sc_7.n rfl rfl rfl (by omega) (t_7k (z := 0) hS (by omega) (by omega) (by omega)) ?_
        intro z387 ez387 f388
        refine n_iadd c_23_39 rfl ?_
        refine n_istore_n (L2 := [some (2, 44), some (2, 4), some (0, 21), some (0, ((z383 - z385) + z387))]) c_23_40 rfl rfl ?_
        refine n_aload_n c_23_41 rfl ?_
        refine n_getR c_23_42 sc_44.n rfl rfl rfl r_44_4 ?_
        refine n_iload_n c_23_45 rfl ?_
        refine n_iload_n c_23_46 rfl ?_
        refine n_aload_n c_23_47 rfl ?_
        refine n_getV (bi := 5) c_23_48 sc_44.n rfl rfl rfl (t_44_5 hS) ?_
        intro z389 ez389 f390
        obtain rfl : z389 = 3 := by omega
        refine n_iconst c_23_51 ?_
        refine n_if2_ne c_23_52 (by omega) (by omega) ?_ ?_
        · intro h391
          refine n_iconst c_23_59 ?_
          have hcst : (((z383 - z385) + z387) : Int) = 1 := by omega
          rw [hcst]
          refine n_s2I c_23_60 rfl rfl rfl rfl (fmod4_3  hS ) ?_
          intro z392 M393 hP394
          obtain ⟨eM, f394⟩ := hP394
          subst eM
          obtain rfl : z392 = 1 := by omega
          refine n_iastoreV hS c_23_63 sc_45.n rfl (by omega) (w_45 (by omega) (by omega)) ?_
          intro M395 eM395 hS395
          have g395_0 : M395 44 5 = M 44 5 := by rw [eM395]; exact nu_a (by omega)
          refine n_iinc (L2 := [some (2, 44), some (2, 4), some (0, (21 + 1)), some (0, 1)]) c_23_64 rfl rfl rfl ?_
          refine n_goto c_23_67 ?_
          refine n_fg (le_s (le_s (le_s (le_n le_0)))) ?_
          exact ih _ M395 hS395 (by omega) (by omega) (by omega)
        · intro h396
          exfalso; omega
    · skip
      refine n_iload_n c_23_12 rfl ?_
      refine n_aload_n c_23_13 rfl ?_
      refine n_getV (bi := 1) c_23_14 sc_4.n rfl rfl rfl (t_4_1 hS) ?_
      intro z397 ez397 f398
      obtain rfl : z397 = 27 := by omega
      refine n_if2_ge c_23_17 (by omega) (by omega) ?_ ?_
      · intro h399
        exfalso; omega
      · intro h400
        refine n_aload_n c_23_20 rfl ?_
        refine n_getR c_23_21 sc_4.n rfl rfl rfl r_4_2 ?_
        refine n_iload_n c_23_24 rfl ?_
        refine n_ialoadV c_23_25 sc_5.n rfl rfl rfl (by omega) (t_5k (z := 2) hS (by omega) (by omega) (by omega)) ?_
        intro z401 ez401 f402
        refine n_aload_n c_23_26 rfl ?_
        refine n_getR c_23_27 sc_4.n rfl rfl rfl r_4_3 ?_
        refine n_iload_n c_23_30 rfl ?_
        refine n_ialoadV c_23_31 sc_6.n rfl rfl rfl (by omega) (t_6k (z := 1) hS (by omega) (by omega) (by omega)) ?_
        intro z403 ez403 f404
        refine n_isub c_23_32 rfl ?_
        refine n_aload_n c_23_33 rfl ?_
        refine n_getR c_23_34 sc_4.n rfl rfl rfl r_4_4 ?_
        refine n_iload_n c_23_37 rfl ?_
        refine n_ialoadV c_23_38 sc_7.n rfl rfl rfl (by omega) (t_7k (z := 1) hS (by omega) (by omega) (by omega)) ?_
        intro z405 ez405 f406
        refine n_iadd c_23_39 rfl ?_
        refine n_istore_n (L2 := [some (2, 44), some (2, 4), some (0, 22), some (0, ((z401 - z403) + z405))]) c_23_40 rfl rfl ?_
        refine n_aload_n c_23_41 rfl ?_
        refine n_getR c_23_42 sc_44.n rfl rfl rfl r_44_4 ?_
        refine n_iload_n c_23_45 rfl ?_
        refine n_iload_n c_23_46 rfl ?_
        refine n_aload_n c_23_47 rfl ?_
        refine n_getV (bi := 5) c_23_48 sc_44.n rfl rfl rfl (t_44_5 hS) ?_
        intro z407 ez407 f408
        obtain rfl : z407 = 3 := by omega
        refine n_iconst c_23_51 ?_
        refine n_if2_ne c_23_52 (by omega) (by omega) ?_ ?_
        · intro h409
          refine n_iconst c_23_59 ?_
          have hcst : (((z401 - z403) + z405) : Int) = 2 := by omega
          rw [hcst]
          refine n_s2I c_23_60 rfl rfl rfl rfl (fmod5_3  hS ) ?_
          intro z410 M411 hP412
          obtain ⟨eM, f412⟩ := hP412
          subst eM
          obtain rfl : z410 = 2 := by omega
          refine n_iastoreV hS c_23_63 sc_45.n rfl (by omega) (w_45 (by omega) (by omega)) ?_
          intro M413 eM413 hS413
          have g413_0 : M413 44 5 = M 44 5 := by rw [eM413]; exact nu_a (by omega)
          refine n_iinc (L2 := [some (2, 44), some (2, 4), some (0, (22 + 1)), some (0, 2)]) c_23_64 rfl rfl rfl ?_
          refine n_goto c_23_67 ?_
          refine n_fg (le_s (le_s (le_s (le_n le_0)))) ?_
          exact ih _ M413 hS413 (by omega) (by omega) (by omega)
        · intro h414
          exfalso; omega
    · skip
      refine n_iload_n c_23_12 rfl ?_
      refine n_aload_n c_23_13 rfl ?_
      refine n_getV (bi := 1) c_23_14 sc_4.n rfl rfl rfl (t_4_1 hS) ?_
      intro z415 ez415 f416
      obtain rfl : z415 = 27 := by omega
      refine n_if2_ge c_23_17 (by omega) (by omega) ?_ ?_
      · intro h417
        exfalso; omega
      · intro h418
        refine n_aload_n c_23_20 rfl ?_
        refine n_getR c_23_21 sc_4.n rfl rfl rfl r_4_2 ?_
        refine n_iload_n c_23_24 rfl ?_
        refine n_ialoadV c_23_25 sc_5.n rfl rfl rfl (by omega) (t_5k (z := 2) hS (by omega) (by omega) (by omega)) ?_
        intro z419 ez419 f420
        refine n_aload_n c_23_26 rfl ?_
        refine n_getR c_23_27 sc_4.n rfl rfl rfl r_4_3 ?_
        refine n_iload_n c_23_30 rfl ?_
        refine n_ialoadV c_23_31 sc_6.n rfl rfl rfl (by omega) (t_6k (z := 1) hS (by omega) (by omega) (by omega)) ?_
        intro z421 ez421 f422
        refine n_isub c_23_32 rfl ?_
        refine n_aload_n c_23_33 rfl ?_
        refine n_getR c_23_34 sc_4.n rfl rfl rfl r_4_4 ?_
        refine n_iload_n c_23_37 rfl ?_
        refine n_ialoadV c_23_38 sc_7.n rfl rfl rfl (by omega) (t_7k (z := 2) hS (by omega) (by omega) (by omega)) ?_
        intro z423 ez423 f424
        refine n_iadd c_23_39 rfl ?_
        refine n_istore_n (L2 := [some (2, 44), some (2, 4), some (0, 23), some (0, ((z419 - z421) + z423))]) c_23_40 rfl rfl ?_
        refine n_aload_n c_23_41 rfl ?_
        refine n_getR c_23_42 sc_44.n rfl rfl rfl r_44_4 ?_
        refine n_iload_n c_23_45 rfl ?_
        refine n_iload_n c_23_46 rfl ?_
        refine n_aload_n c_23_47 rfl ?_
        refine n_getV (bi := 5) c_23_48 sc_44.n rfl rfl rfl (t_44_5 hS) ?_
        intro z425 ez425 f426
        obtain rfl : z425 = 3 := by omega
        refine n_iconst c_23_51 ?_
        refine n_if2_ne c_23_52 (by omega) (by omega) ?_ ?_
        · intro h427
          refine n_iconst c_23_59 ?_
          have hcst : (((z419 - z421) + z423) : Int) = 3 := by omega
          rw [hcst]
          refine n_s2I c_23_60 rfl rfl rfl rfl (fmod6_3  hS ) ?_
          intro z428 M429 hP430
          obtain ⟨eM, f430⟩ := hP430
          subst eM
          obtain rfl : z428 = 0 := by omega
          refine n_iastoreV hS c_23_63 sc_45.n rfl (by omega) (w_45 (by omega) (by omega)) ?_
          intro M431 eM431 hS431
          have g431_0 : M431 44 5 = M 44 5 := by rw [eM431]; exact nu_a (by omega)
          refine n_iinc (L2 := [some (2, 44), some (2, 4), some (0, (23 + 1)), some (0, 3)]) c_23_64 rfl rfl rfl ?_
          refine n_goto c_23_67 ?_
          refine n_fg (le_s (le_s (le_s (le_n le_0)))) ?_
          exact ih _ M431 hS431 (by omega) (by omega) (by omega)
        · intro h432
          exfalso; omega
    · skip
      refine n_iload_n c_23_12 rfl ?_
      refine n_aload_n c_23_13 rfl ?_
      refine n_getV (bi := 1) c_23_14 sc_4.n rfl rfl rfl (t_4_1 hS) ?_
      intro z433 ez433 f434
      obtain rfl : z433 = 27 := by omega
      refine n_if2_ge c_23_17 (by omega) (by omega) ?_ ?_
      · intro h435
        exfalso; omega
      · intro h436
        refine n_aload_n c_23_20 rfl ?_
        refine n_getR c_23_21 sc_4.n rfl rfl rfl r_4_2 ?_
        refine n_iload_n c_23_24 rfl ?_
        refine n_ialoadV c_23_25 sc_5.n rfl rfl rfl (by omega) (t_5k (z := 2) hS (by omega) (by omega) (by omega)) ?_
        intro z437 ez437 f438
        refine n_aload_n c_23_26 rfl ?_
        refine n_getR c_23_27 sc_4.n rfl rfl rfl r_4_3 ?_
        refine n_iload_n c_23_30 rfl ?_
        refine n_ialoadV c_23_31 sc_6.n rfl rfl rfl (by omega) (t_6k (z := 2) hS (by omega) (by omega) (by omega)) ?_
        intro z439 ez439 f440
        refine n_isub c_23_32 rfl ?_
        refine n_aload_n c_23_33 rfl ?_
        refine n_getR c_23_34 sc_4.n rfl rfl rfl r_4_4 ?_
        refine n_iload_n c_23_37 rfl ?_
        refine n_ialoadV c_23_38 sc_7.n rfl rfl rfl (by omega) (t_7k (z := 0) hS (by omega) (by omega) (by omega)) ?_
        intro z441 ez441 f442
        refine n_iadd c_23_39 rfl ?_
        refine n_istore_n (L2 := [some (2, 44), some (2, 4), some (0, 24), some (0, ((z437 - z439) + z441))]) c_23_40 rfl rfl ?_
        refine n_aload_n c_23_41 rfl ?_
        refine n_getR c_23_42 sc_44.n rfl rfl rfl r_44_4 ?_
        refine n_iload_n c_23_45 rfl ?_
        refine n_iload_n c_23_46 rfl ?_
        refine n_aload_n c_23_47 rfl ?_
        refine n_getV (bi := 5) c_23_48 sc_44.n rfl rfl rfl (t_44_5 hS) ?_
        intro z443 ez443 f444
        obtain rfl : z443 = 3 := by omega
        refine n_iconst c_23_51 ?_
        refine n_if2_ne c_23_52 (by omega) (by omega) ?_ ?_
        · intro h445
          refine n_iconst c_23_59 ?_
          have hcst : (((z437 - z439) + z441) : Int) = 0 := by omega
          rw [hcst]
          refine n_s2I c_23_60 rfl rfl rfl rfl (fmod3_3  hS ) ?_
          intro z446 M447 hP448
          obtain ⟨eM, f448⟩ := hP448
          subst eM
          obtain rfl : z446 = 0 := by omega
          refine n_iastoreV hS c_23_63 sc_45.n rfl (by omega) (w_45 (by omega) (by omega)) ?_
          intro M449 eM449 hS449
          have g449_0 : M449 44 5 = M 44 5 := by rw [eM449]; exact nu_a (by omega)
          refine n_iinc (L2 := [some (2, 44), some (2, 4), some (0, (24 + 1)), some (0, 0)]) c_23_64 rfl rfl rfl ?_
          refine n_goto c_23_67 ?_
          refine n_fg (le_s (le_s (le_s (le_n le_0)))) ?_
          exact ih _ M449 hS449 (by omega) (by omega) (by omega)
        · intro h450
          exfalso; omega
    · skip
      refine n_iload_n c_23_12 rfl ?_
      refine n_aload_n c_23_13 rfl ?_
      refine n_getV (bi := 1) c_23_14 sc_4.n rfl rfl rfl (t_4_1 hS) ?_
      intro z451 ez451 f452
      obtain rfl : z451 = 27 := by omega
      refine n_if2_ge c_23_17 (by omega) (by omega) ?_ ?_
      · intro h453
        exfalso; omega
      · intro h454
        refine n_aload_n c_23_20 rfl ?_
        refine n_getR c_23_21 sc_4.n rfl rfl rfl r_4_2 ?_
        refine n_iload_n c_23_24 rfl ?_
        refine n_ialoadV c_23_25 sc_5.n rfl rfl rfl (by omega) (t_5k (z := 2) hS (by omega) (by omega) (by omega)) ?_
        intro z455 ez455 f456
        refine n_aload_n c_23_26 rfl ?_
        refine n_getR c_23_27 sc_4.n rfl rfl rfl r_4_3 ?_
        refine n_iload_n c_23_30 rfl ?_
        refine n_ialoadV c_23_31 sc_6.n rfl rfl rfl (by omega) (t_6k (z := 2) hS (by omega) (by omega) (by omega)) ?_
        intro z457 ez457 f458
        refine n_isub c_23_32 rfl ?_
        refine n_aload_n c_23_33 rfl ?_
        refine n_getR c_23_34 sc_4.n rfl rfl rfl r_4_4 ?_
        refine n_iload_n c_23_37 rfl ?_
        refine n_ialoadV c_23_38 sc_7.n rfl rfl rfl (by omega) (t_7k (z := 1) hS (by omega) (by omega) (by omega)) ?_
        intro z459 ez459 f460
        refine n_iadd c_23_39 rfl ?_
        refine n_istore_n (L2 := [some (2, 44), some (2, 4), some (0, 25), some (0, ((z455 - z457) + z459))]) c_23_40 rfl rfl ?_
        refine n_aload_n c_23_41 rfl ?_
        refine n_getR c_23_42 sc_44.n rfl rfl rfl r_44_4 ?_
        refine n_iload_n c_23_45 rfl ?_
        refine n_iload_n c_23_46 rfl ?_
        refine n_aload_n c_23_47 rfl ?_
        refine n_getV (bi := 5) c_23_48 sc_44.n rfl rfl rfl (t_44_5 hS) ?_
        intro z461 ez461 f462
        obtain rfl : z461 = 3 := by omega
        refine n_iconst c_23_51 ?_
        refine n_if2_ne c_23_52 (by omega) (by omega) ?_ ?_
        · intro h463
          refine n_iconst c_23_59 ?_
          have hcst : (((z455 - z457) + z459) : Int) = 1 := by omega
          rw [hcst]
          refine n_s2I c_23_60 rfl rfl rfl rfl (fmod4_3  hS ) ?_
          intro z464 M465 hP466
          obtain ⟨eM, f466⟩ := hP466
          subst eM
          obtain rfl : z464 = 1 := by omega
          refine n_iastoreV hS c_23_63 sc_45.n rfl (by omega) (w_45 (by omega) (by omega)) ?_
          intro M467 eM467 hS467
          have g467_0 : M467 44 5 = M 44 5 := by rw [eM467]; exact nu_a (by omega)
          refine n_iinc (L2 := [some (2, 44), some (2, 4), some (0, (25 + 1)), some (0, 1)]) c_23_64 rfl rfl rfl ?_
          refine n_goto c_23_67 ?_
          refine n_fg (le_s (le_s (le_s (le_n le_0)))) ?_
          exact ih _ M467 hS467 (by omega) (by omega) (by omega)
        · intro h468
          exfalso; omega
    · skip
      refine n_iload_n c_23_12 rfl ?_
      refine n_aload_n c_23_13 rfl ?_
      refine n_getV (bi := 1) c_23_14 sc_4.n rfl rfl rfl (t_4_1 hS) ?_
      intro z469 ez469 f470
      obtain rfl : z469 = 27 := by omega
      refine n_if2_ge c_23_17 (by omega) (by omega) ?_ ?_
      · intro h471
        exfalso; omega
      · intro h472
        refine n_aload_n c_23_20 rfl ?_
        refine n_getR c_23_21 sc_4.n rfl rfl rfl r_4_2 ?_
        refine n_iload_n c_23_24 rfl ?_
        refine n_ialoadV c_23_25 sc_5.n rfl rfl rfl (by omega) (t_5k (z := 2) hS (by omega) (by omega) (by omega)) ?_
        intro z473 ez473 f474
        refine n_aload_n c_23_26 rfl ?_
        refine n_getR c_23_27 sc_4.n rfl rfl rfl r_4_3 ?_
        refine n_iload_n c_23_30 rfl ?_
        refine n_ialoadV c_23_31 sc_6.n rfl rfl rfl (by omega) (t_6k (z := 2) hS (by omega) (by omega) (by omega)) ?_
        intro z475 ez475 f476
        refine n_isub c_23_32 rfl ?_
        refine n_aload_n c_23_33 rfl ?_
        refine n_getR c_23_34 sc_4.n rfl rfl rfl r_4_4 ?_
        refine n_iload_n c_23_37 rfl ?_
        refine n_ialoadV c_23_38 sc_7.n rfl rfl rfl (by omega) (t_7k (z := 2) hS (by omega) (by omega) (by omega)) ?_
        intro z477 ez477 f478
        refine n_iadd c_23_39 rfl ?_
        refine n_istore_n (L2 := [some (2, 44), some (2, 4), some (0, 26), some (0, ((z473 - z475) + z477))]) c_23_40 rfl rfl ?_
        refine n_aload_n c_23_41 rfl ?_
        refine n_getR c_23_42 sc_44.n rfl rfl rfl r_44_4 ?_
        refine n_iload_n c_23_45 rfl ?_
        refine n_iload_n c_23_46 rfl ?_
        refine n_aload_n c_23_47 rfl ?_
        refine n_getV (bi := 5) c_23_48 sc_44.n rfl rfl rfl (t_44_5 hS) ?_
        intro z479 ez479 f480
        obtain rfl : z479 = 3 := by omega
        refine n_iconst c_23_51 ?_
        refine n_if2_ne c_23_52 (by omega) (by omega) ?_ ?_
        · intro h481
          refine n_iconst c_23_59 ?_
          have hcst : (((z473 - z475) + z477) : Int) = 2 := by omega
          rw [hcst]
          refine n_s2I c_23_60 rfl rfl rfl rfl (fmod5_3  hS ) ?_
          intro z482 M483 hP484
          obtain ⟨eM, f484⟩ := hP484
          subst eM
          obtain rfl : z482 = 2 := by omega
          refine n_iastoreV hS c_23_63 sc_45.n rfl (by omega) (w_45 (by omega) (by omega)) ?_
          intro M485 eM485 hS485
          have g485_0 : M485 44 5 = M 44 5 := by rw [eM485]; exact nu_a (by omega)
          refine n_iinc (L2 := [some (2, 44), some (2, 4), some (0, (26 + 1)), some (0, 2)]) c_23_64 rfl rfl rfl ?_
          refine n_goto c_23_67 ?_
          refine n_fg (le_s (le_s (le_s (le_n le_0)))) ?_
          exact ih _ M485 hS485 (by omega) (by omega) (by omega)
        · intro h486
          exfalso; omega
    · skip
      refine n_iload_n c_23_12 rfl ?_
      refine n_aload_n c_23_13 rfl ?_
      refine n_getV (bi := 1) c_23_14 sc_4.n rfl rfl rfl (t_4_1 hS) ?_
      intro z487 ez487 f488
      obtain rfl : z487 = 27 := by omega
      refine n_if2_ge c_23_17 (by omega) (by omega) ?_ ?_
      · intro h489
        exact n_rV c_23_70 rfl hS
      · intro h490
        exfalso; omega
set_option maxHeartbeats 4000000 in
theorem beSum_3 {xs : List Int32} {e : Nat} {ac : Int} {M0 M : nM} (hS : Sf 3 ac M0 M)  : nW xs (e + 1) 23 0 [some (2, 44), some (2, 4), none, none] [] M (nPV fun M1 => Sf 3 ac M0 M1) := by
  have hd : (3 : Int) = 2 ∨ (3 : Int) = 3 := by decide
  have hac := hS.2.2.2.2
  refine n_aload_n c_23_0 rfl ?_
  refine n_iconst c_23_1 ?_
  refine n_aload_n c_23_2 rfl ?_
  refine n_getV (bi := 0) c_23_3 sc_4.n rfl rfl rfl (t_4_0 hS) ?_
  intro z1 ez1 f2
  obtain rfl : z1 = 3 := by omega
  refine n_aload_n c_23_6 rfl ?_
  refine n_v3V c_23_7 rfl sc_44.n rfl rfl rfl rfl (begin_3 (n := 3) (c := 3) hS (by omega) (by omega)) ?_
  intro  M3 hP4
  obtain ⟨hS3, f4p0⟩ := hP4
  refine n_iconst c_23_10 ?_
  refine n_istore_n (L2 := [some (2, 44), some (2, 4), some (0, 0), none]) c_23_11 rfl rfl ?_
  refine n_fg (le_s (le_s (le_s (le_n le_0)))) ?_
  exact (beSum_3_c hS  68) _ M3 hS3 (by omega) (by omega) (by omega)
