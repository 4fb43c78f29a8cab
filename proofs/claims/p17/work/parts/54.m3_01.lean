/-! The methods, by program. -/
set_option maxHeartbeats 4000000 in
theorem mostMade_2_3_c {xs : List Int32} {e : Nat} {ac : Int} {M0 M : nM} (hS : Sf 3 ac M0 M)  : ∀ nn : Nat, (∀ (x2 x3 x4 : Int), (9 ≤ x2 ∧ x2 ≤ 9) → (-2147483648 ≤ x3 ∧ x3 ≤ 2147483647) → (0 ≤ x4 ∧ x4 ≤ 9) → (9 - x4) * 1 + 1 < (nn : Int) → nW xs (e + 4) 131 14 [some (2, 3), some (0, 2), some (0, x2), some (0, x3), some (0, x4)] [] M (nPI fun z M1 => M = M1 ∧ (-2147483648 ≤ z ∧ z ≤ 2147483647))) := by
  have hd : (3 : Int) = 2 ∨ (3 : Int) = 3 := by decide
  have hac := hS.2.2.2.2
  intro nn
  induction nn with
  | zero => intros; omega
  | succ nn ih =>
    intro x2 x3 x4 k2 k3 k4 hnn
    refine n_iload c_131_14 rfl (n_iload_n c_131_16 rfl ?_)
    refine n_if2_ge c_131_17 (by omega) (by omega) ?_ ?_
    · intro h1
      refine n_iload_n c_131_46 rfl ?_
      exact n_rI c_131_47 rfl ⟨rfl, by omega⟩
    · intro h2
      refine n_iload_n c_131_20 rfl (n_aload_n c_131_21 rfl (n_aload_n c_131_22 rfl (n_getR c_131_23 sc_3.n rfl rfl rfl r_3_0 (n_iload c_131_26 rfl (n_iload_n c_131_28 rfl (n_v2I c_131_29 rfl sc_4.n rfl rfl rfl rfl (thingsOf_3 (r := x4) (p := 2) hS (by omega) (by omega)) ?_))))))
      intro z3 M4 hP5
      obtain ⟨eM, f5⟩ := hP5
      subst eM
      refine n_v1I c_131_32 rfl sc_3.n rfl rfl rfl rfl (leastHeap_3 (m := z3) hS (by omega)) ?_
      intro z6 M7 hP8
      obtain ⟨eM, f8⟩ := hP8
      subst eM
      refine n_s1I c_131_35 rfl rfl rfl rfl (ibits_3 (x := z6) hS (by omega)) ?_
      intro z9 M10 hP11
      obtain ⟨eM, f11⟩ := hP11
      subst eM
      refine n_imul c_131_38 rfl (n_wrap ?_)
      have f12 := n_wr_r (x3 * z9)
      generalize n_wr (x3 * z9) = z13 at f12 ⊢
      refine n_istore_n (L2 := [some (2, 3), some (0, 2), some (0, x2), some (0, z13), some (0, x4)]) c_131_39 rfl rfl (n_iinc (L2 := [some (2, 3), some (0, 2), some (0, x2), some (0, z13), some (0, (x4 + 1))]) c_131_40 rfl rfl rfl (n_goto c_131_43 (n_fg (le_s (le_s (le_s (le_s (le_s le_0))))) ?_)))
      exact ih _ _ _ (by omega) (by omega) (by omega) (by omega)
set_option maxHeartbeats 4000000 in
theorem mostMade_2_3 {xs : List Int32} {e : Nat} {ac : Int} {M0 M : nM} (hS : Sf 3 ac M0 M)  : nW xs (e + 4) 131 0 [some (2, 3), some (0, 2), none, none, none] [] M (nPI fun z M1 => M = M1 ∧ (-2147483648 ≤ z ∧ z ≤ 2147483647)) := by
  have hd : (3 : Int) = 2 ∨ (3 : Int) = 3 := by decide
  have hac := hS.2.2.2.2
  refine n_aload_n c_131_0 rfl (n_getR c_131_1 sc_3.n rfl rfl rfl r_3_0 (n_iload_n c_131_4 rfl (n_v1I c_131_5 rfl sc_4.n rfl rfl rfl rfl (power2_3  hS ) ?_)))
  intro z1 M2 hP3
  obtain ⟨eM, f3⟩ := hP3
  subst eM
  obtain rfl : z1 = 9 := by omega
  refine n_istore_n (L2 := [some (2, 3), some (0, 2), some (0, 9), none, none]) c_131_8 rfl rfl (n_iconst c_131_9 (n_istore_n (L2 := [some (2, 3), some (0, 2), some (0, 9), some (0, 1), none]) c_131_10 rfl rfl (n_iconst c_131_11 (n_istore (L2 := [some (2, 3), some (0, 2), some (0, 9), some (0, 1), some (0, 0)]) c_131_12 rfl rfl (n_fg (le_s (le_s (le_s (le_s (le_s le_0))))) ?_)))))
  exact (mostMade_2_3_c hS  32) _ _ _ (by omega) (by omega) (by omega) (by omega)

set_option maxHeartbeats 4000000 in
theorem madeList_2_3_c {xs : List Int32} {e : Nat} {ac : Int} {M0 M : nM} (hS : Sf 3 ac M0 M)  : ∀ nn : Nat, (∀ (M : nM), Sf 3 ac M0 M → 1 < (nn : Int) → nW xs (e + 5) 130 42 [none, none, some (2, 106)] [] M (nPA fun z M1 => Sf 3 ac M0 M1 ∧ z = 106)) := by
  have hd : (3 : Int) = 2 ∨ (3 : Int) = 3 := by decide
  have hac := hS.2.2.2.2
  intro nn
  induction nn with
  | zero => intros; omega
  | succ nn ih =>
    intro M hS hnn
    refine n_aload_n c_130_42 rfl ?_
    exact n_rA c_130_43 rfl ⟨hS, rfl⟩
set_option maxHeartbeats 4000000 in
theorem madeList_2_3 {xs : List Int32} {e : Nat} {ac : Int} {M0 M : nM} (hS : Sf 3 ac M0 M)  : nW xs (e + 5) 130 0 [some (2, 3), some (0, 2), none] [] M (nPA fun z M1 => Sf 3 ac M0 M1 ∧ z = 106) := by
  have hd : (3 : Int) = 2 ∨ (3 : Int) = 3 := by decide
  have hac := hS.2.2.2.2
  refine n_aload_n c_130_0 rfl (n_getR c_130_1 sc_3.n rfl rfl rfl r_3_4 (n_iload_n c_130_4 rfl (n_iconst c_130_5 (n_isub c_130_6 rfl (n_aaload c_130_7 sc_14.n rfl rfl rfl (by omega) (r_made _) ?_)))))
  refine n_stk (show ((103 + 3 * (2 - 1)) : Int) = 106 from rfl) (n_astore_n (L2 := [some (2, 3), some (0, 2), some (2, 106)]) c_130_8 rfl rfl (n_aload_n c_130_9 rfl (n_getV (bi := 0) c_130_10 made106.c0.1.n rfl rfl rfl (t_made hS made106).1 ?_)))
  intro z1 ez1 f2
  refine n_if0_ne c_130_13 (by omega) ?_ ?_
  · intro h3
    refine n_fg (le_n (le_n (le_s le_0))) ?_
    exact (madeList_2_3_c hS  12)  M hS  (by omega)
  · intro h4
    refine n_aload_n c_130_16 rfl (n_getR c_130_17 sc_3.n rfl rfl rfl r_3_5 (n_iload_n c_130_20 rfl (n_aload_n c_130_21 rfl (n_getR c_130_22 sc_3.n rfl rfl rfl r_3_0 (n_aload_n c_130_25 rfl (n_getR c_130_26 sc_3.n rfl rfl rfl r_3_2 (n_aload_n c_130_29 rfl (n_getV (bi := 14) c_130_30 sc_3.n rfl rfl rfl (t_3_14x hS) ?_))))))))
    intro z5 ez5 f6
    have f6a := t_ac hS
    refine n_aload_n c_130_33 rfl (n_iload_n c_130_34 rfl (n_v1I c_130_35 rfl sc_3.n rfl rfl rfl rfl (mostMade_2_3  hS ) ?_))
    intro z7 M8 hP9
    obtain ⟨eM, f9⟩ := hP9
    subst eM
    refine n_aload_n c_130_38 rfl (n_v6V c_130_39 rfl sc_15.n rfl rfl rfl rfl (make_2_3 (c := z5) (m := z7) hS (by omega) (by omega) (by omega)) ?_)
    intro  M10 hP11
    obtain ⟨hS10, f11K⟩ := hP11
    refine n_fg (le_n (le_n (le_s le_0))) ?_
    exact (madeList_2_3_c hS  12)  M10 hS10  (by omega)

set_option maxHeartbeats 4000000 in
theorem sizeOf_2_3_c {xs : List Int32} {e : Nat} {ac : Int} {M0 M : nM} {c : Int} (hS : Sf 3 ac M0 M) (hc : -2147483648 ≤ c ∧ c ≤ 2147483647) : ∀ nn : Nat, (∀ (x2 : Int), (0 ≤ x2 ∧ x2 ≤ 256) → (256 - x2) * 1 + 1 < (nn : Int) → nW xs e 47 2 [some (2, 106), some (0, c), some (0, x2)] [] M (nPI fun z M1 => M = M1 ∧ (-2147483648 ≤ z ∧ z ≤ 2147483647))) := by
  have hd : (3 : Int) = 2 ∨ (3 : Int) = 3 := by decide
  have hac := hS.2.2.2.2
  intro nn
  induction nn with
  | zero => intros; omega
  | succ nn ih =>
    intro x2 k2 hnn
    refine n_iload_n c_47_2 rfl (n_aload_n c_47_3 rfl (n_getV (bi := 2) c_47_4 made106.c0.1.n rfl rfl rfl (t_made hS made106).2.2 ?_))
    intro z1 ez1 f2
    refine n_if2_ge c_47_7 (by omega) (by omega) ?_ ?_
    · intro h3
      refine n_bipush c_47_33 rfl ?_
      exact n_rI c_47_35 rfl ⟨rfl, by omega⟩
    · intro h4
      refine n_aload_n c_47_10 rfl (n_getR c_47_11 made106.c0.1.n rfl rfl rfl made106.r.1 (n_iload_n c_47_14 rfl (n_ialoadV c_47_15 made106.c0.2.1.n rfl rfl rfl (by omega) (t_mader hS made106 (Or.inl rfl) (by omega)) ?_)))
      intro z5 ez5 f6
      refine n_iload_n c_47_16 rfl ?_
      refine n_if2_ne c_47_17 (by omega) (by omega) ?_ ?_
      · intro h7
        refine n_iinc (L2 := [some (2, 106), some (0, c), some (0, (x2 + 1))]) c_47_27 rfl rfl rfl (n_goto c_47_30 (n_fg (le_s (le_s (le_s le_0))) ?_))
        exact ih _ (by omega) (by omega)
      · intro h8
        refine n_aload_n c_47_20 rfl (n_getR c_47_21 made106.c0.1.n rfl rfl rfl made106.r.2 (n_iload_n c_47_24 rfl (n_ialoadV c_47_25 made106.c0.2.2.n rfl rfl rfl (by omega) (t_mader hS made106 (Or.inr rfl) (by omega)) ?_)))
        intro z9 ez9 f10
        exact n_rI c_47_26 rfl ⟨rfl, by omega⟩
set_option maxHeartbeats 4000000 in
theorem sizeOf_2_3 {xs : List Int32} {e : Nat} {ac : Int} {M0 M : nM} {c : Int} (hS : Sf 3 ac M0 M) (hc : -2147483648 ≤ c ∧ c ≤ 2147483647) : nW xs e 47 0 [some (2, 106), some (0, c), none] [] M (nPI fun z M1 => M = M1 ∧ (-2147483648 ≤ z ∧ z ≤ 2147483647)) := by
  have hd : (3 : Int) = 2 ∨ (3 : Int) = 3 := by decide
  have hac := hS.2.2.2.2
  refine n_iconst c_47_0 (n_istore_n (L2 := [some (2, 106), some (0, c), some (0, 0)]) c_47_1 rfl rfl (n_fg (le_s (le_s (le_s le_0))) ?_))
  exact (sizeOf_2_3_c hS hc 526) _ (by omega) (by omega)

set_option maxHeartbeats 4000000 in
theorem madeL_3 {xs : List Int32} {e : Nat} {ac : Int} {M0 M : nM} {n : Int} (hS : Sf 3 ac M0 M) (hn : -2147483648 ≤ n ∧ n ≤ 0) : nW xs (e + 6) 104 0 [some (2, 3), some (0, n), none] [] M (nPI fun z M1 => Sf 3 ac M0 M1 ∧ (-2147483648 ≤ z ∧ z ≤ 2147483647)) := by
  have hd : (3 : Int) = 2 ∨ (3 : Int) = 3 := by decide
  have hac := hS.2.2.2.2
  refine n_aload_n c_104_0 rfl (n_getR c_104_1 sc_3.n rfl rfl rfl r_3_0 (n_iload_n c_104_4 rfl (n_v1I c_104_5 rfl sc_4.n rfl rfl rfl rfl (isMadeOf_3 (n := n) hS (by omega)) ?_)))
  intro z1 M2 hP3
  obtain ⟨eM, f3, f3p0⟩ := hP3
  subst eM
  refine n_if0_ne c_104_8 (by omega) ?_ ?_
  · intro h4
    exfalso; omega
  · intro h5
    refine n_iconst c_104_11 ?_
    exact n_rI c_104_12 rfl ⟨hS, by omega⟩

set_option maxHeartbeats 4000000 in
theorem made_1_3 {xs : List Int32} {e : Nat} {ac : Int} {M0 M : nM} (hS : Sf 3 ac M0 M)  : nW xs (e + 6) 104 0 [some (2, 3), some (0, 1), none] [] M (nPI fun z M1 => Sf 3 ac M0 M1 ∧ (-2147483648 ≤ z ∧ z ≤ 2147483647)) := by
  have hd : (3 : Int) = 2 ∨ (3 : Int) = 3 := by decide
  have hac := hS.2.2.2.2
  refine n_aload_n c_104_0 rfl (n_getR c_104_1 sc_3.n rfl rfl rfl r_3_0 (n_iload_n c_104_4 rfl (n_v1I c_104_5 rfl sc_4.n rfl rfl rfl rfl (isMadeOf_3 (n := 1) hS (by omega)) ?_)))
  intro z1 M2 hP3
  obtain ⟨eM, f3, f3p0⟩ := hP3
  subst eM
  refine n_if0_ne c_104_8 (by omega) ?_ ?_
  · intro h4
    refine n_aload_n c_104_13 rfl (n_iload_n c_104_14 rfl (n_v1A c_104_15 rfl sc_3.n rfl rfl rfl rfl (madeList_1_3  hS ) ?_))
    intro z5 M6 hP7
    obtain ⟨hS6, f7⟩ := hP7
    obtain rfl : z5 = 103 := f7
    refine n_astore_n (L2 := [some (2, 3), some (0, 1), some (2, 103)]) c_104_18 rfl rfl (n_aload_n c_104_19 rfl (n_getV (bi := 1) c_104_20 made103.c0.1.n rfl rfl rfl (t_made hS6 made103).2.1 ?_))
    intro z8 ez8 f9
    refine n_if0_eq c_104_23 (by omega) ?_ ?_
    · intro h10
      refine n_aload_n c_104_31 rfl (n_getV (bi := 2) c_104_32 made103.c0.1.n rfl rfl rfl (t_made hS6 made103).2.2 ?_)
      intro z11 ez11 f12
      exact n_rI c_104_35 rfl ⟨hS6, by omega⟩
    · intro h13
      refine n_bipush c_104_26 rfl (n_goto c_104_28 ?_)
      exact n_rI c_104_35 rfl ⟨hS6, by omega⟩
  · intro h14
    refine n_iconst c_104_11 ?_
    exact n_rI c_104_12 rfl ⟨hS, by omega⟩

set_option maxHeartbeats 4000000 in
theorem made_2_3 {xs : List Int32} {e : Nat} {ac : Int} {M0 M : nM} (hS : Sf 3 ac M0 M)  : nW xs (e + 6) 104 0 [some (2, 3), some (0, 2), none] [] M (nPI fun z M1 => Sf 3 ac M0 M1 ∧ (-2147483648 ≤ z ∧ z ≤ 2147483647)) := by
  have hd : (3 : Int) = 2 ∨ (3 : Int) = 3 := by decide
  have hac := hS.2.2.2.2
  refine n_aload_n c_104_0 rfl (n_getR c_104_1 sc_3.n rfl rfl rfl r_3_0 (n_iload_n c_104_4 rfl (n_v1I c_104_5 rfl sc_4.n rfl rfl rfl rfl (isMadeOf_3 (n := 2) hS (by omega)) ?_)))
  intro z1 M2 hP3
  obtain ⟨eM, f3, f3p0⟩ := hP3
  subst eM
  refine n_if0_ne c_104_8 (by omega) ?_ ?_
  · intro h4
    refine n_aload_n c_104_13 rfl (n_iload_n c_104_14 rfl (n_v1A c_104_15 rfl sc_3.n rfl rfl rfl rfl (madeList_2_3  hS ) ?_))
    intro z5 M6 hP7
    obtain ⟨hS6, f7⟩ := hP7
    obtain rfl : z5 = 106 := f7
    refine n_astore_n (L2 := [some (2, 3), some (0, 2), some (2, 106)]) c_104_18 rfl rfl (n_aload_n c_104_19 rfl (n_getV (bi := 1) c_104_20 made106.c0.1.n rfl rfl rfl (t_made hS6 made106).2.1 ?_))
    intro z8 ez8 f9
    refine n_if0_eq c_104_23 (by omega) ?_ ?_
    · intro h10
      refine n_aload_n c_104_31 rfl (n_getV (bi := 2) c_104_32 made106.c0.1.n rfl rfl rfl (t_made hS6 made106).2.2 ?_)
      intro z11 ez11 f12
      exact n_rI c_104_35 rfl ⟨hS6, by omega⟩
    · intro h13
      refine n_bipush c_104_26 rfl (n_goto c_104_28 ?_)
      exact n_rI c_104_35 rfl ⟨hS6, by omega⟩
  · intro h14
    refine n_iconst c_104_11 ?_
    exact n_rI c_104_12 rfl ⟨hS, by omega⟩

set_option maxHeartbeats 4000000 in
theorem madeH_3 {xs : List Int32} {e : Nat} {ac : Int} {M0 M : nM} {n : Int} (hS : Sf 3 ac M0 M) (hn : 3 ≤ n ∧ n ≤ 2147483647) : nW xs (e + 6) 104 0 [some (2, 3), some (0, n), none] [] M (nPI fun z M1 => Sf 3 ac M0 M1 ∧ (-2147483648 ≤ z ∧ z ≤ 2147483647)) := by
  have hd : (3 : Int) = 2 ∨ (3 : Int) = 3 := by decide
  have hac := hS.2.2.2.2
  refine n_aload_n c_104_0 rfl (n_getR c_104_1 sc_3.n rfl rfl rfl r_3_0 (n_iload_n c_104_4 rfl (n_v1I c_104_5 rfl sc_4.n rfl rfl rfl rfl (isMadeOf_3 (n := n) hS (by omega)) ?_)))
  intro z1 M2 hP3
  obtain ⟨eM, f3, f3p0⟩ := hP3
  subst eM
  refine n_if0_ne c_104_8 (by omega) ?_ ?_
  · intro h4
    exfalso; omega
  · intro h5
    refine n_iconst c_104_11 ?_
    exact n_rI c_104_12 rfl ⟨hS, by omega⟩

set_option maxHeartbeats 4000000 in
theorem made_3 {xs : List Int32} {e : Nat} {ac : Int} {M0 M : nM} {n : Int} (hS : Sf 3 ac M0 M) (hn : -2147483648 ≤ n ∧ n ≤ 2147483647) : nW xs (e + 6) 104 0 [some (2, 3), some (0, n), none] [] M (nPI fun z M1 => Sf 3 ac M0 M1 ∧ (-2147483648 ≤ z ∧ z ≤ 2147483647)) := by
  rcases (show (-2147483648 ≤ n ∧ n ≤ 0) ∨ n = 1 ∨ n = 2 ∨ (3 ≤ n ∧ n ≤ 2147483647) by omega) with hx | rfl | rfl | hx
  · exact madeL_3 hS (by omega)
  · exact made_1_3 hS 
  · exact made_2_3 hS 
  · exact madeH_3 hS (by omega)

set_option maxHeartbeats 4000000 in
theorem madeOfL_3_c {xs : List Int32} {e : Nat} {ac : Int} {M0 M : nM} {n i w : Int} (hS : Sf 3 ac M0 M) (hn : -2147483648 ≤ n ∧ n ≤ 0) (hi : -2147483648 ≤ i ∧ i ≤ 2147483647) (hw : -2147483648 ≤ w ∧ w ≤ 2147483647) : ∀ nn : Nat, (∀ (M : nM), Sf 3 ac M0 M → 1 < (nn : Int) → nW xs (e + 6) 105 20 [none, none, none, none, none] [] M (nPI fun z M1 => Sf 3 ac M0 M1 ∧ (-2147483648 ≤ z ∧ z ≤ 2147483647))) := by
  have hd : (3 : Int) = 2 ∨ (3 : Int) = 3 := by decide
  have hac := hS.2.2.2.2
  intro nn
  induction nn with
  | zero => intros; omega
  | succ nn ih =>
    intro M hS hnn
    refine n_iconst c_105_20 ?_
    exact n_rI c_105_21 rfl ⟨hS, by omega⟩
set_option maxHeartbeats 4000000 in
theorem madeOfL_3 {xs : List Int32} {e : Nat} {ac : Int} {M0 M : nM} {n i w : Int} (hS : Sf 3 ac M0 M) (hn : -2147483648 ≤ n ∧ n ≤ 0) (hi : -2147483648 ≤ i ∧ i ≤ 2147483647) (hw : -2147483648 ≤ w ∧ w ≤ 2147483647) : nW xs (e + 6) 105 0 [some (2, 3), some (0, n), some (0, i), some (0, w), none] [] M (nPI fun z M1 => Sf 3 ac M0 M1 ∧ (-2147483648 ≤ z ∧ z ≤ 2147483647)) := by
  have hd : (3 : Int) = 2 ∨ (3 : Int) = 3 := by decide
  have hac := hS.2.2.2.2
  refine n_aload_n c_105_0 rfl (n_getR c_105_1 sc_3.n rfl rfl rfl r_3_0 (n_iload_n c_105_4 rfl (n_v1I c_105_5 rfl sc_4.n rfl rfl rfl rfl (isMadeOf_3 (n := n) hS (by omega)) ?_)))
  intro z1 M2 hP3
  obtain ⟨eM, f3, f3p0⟩ := hP3
  subst eM
  refine n_if0_eq c_105_8 (by omega) ?_ ?_
  · intro h4
    refine n_fg (le_n (le_n (le_n (le_n (le_n le_0))))) ?_
    exact (madeOfL_3_c hS hn hi hw 12)  M hS  (by omega)
  · intro h5
    exfalso; omega

set_option maxHeartbeats 4000000 in
theorem madeOf_1_3_c {xs : List Int32} {e : Nat} {ac : Int} {M0 M : nM} {i w : Int} (hS : Sf 3 ac M0 M) (hi : -2147483648 ≤ i ∧ i ≤ 2147483647) (hw : -2147483648 ≤ w ∧ w ≤ 2147483647) : ∀ nn : Nat, (∀ (M : nM), Sf 3 ac M0 M → 3 < (nn : Int) → nW xs (e + 6) 105 20 [none, none, none, none, none] [] M (nPI fun z M1 => Sf 3 ac M0 M1 ∧ (-2147483648 ≤ z ∧ z ≤ 2147483647))) ∧ (∀ (M : nM), Sf 3 ac M0 M → (0 ≤ w ∧ w ≤ 1) → 2 < (nn : Int) → nW xs (e + 6) 105 22 [some (2, 3), some (0, 1), some (0, i), some (0, w), none] [] M (nPI fun z M1 => Sf 3 ac M0 M1 ∧ (-2147483648 ≤ z ∧ z ≤ 2147483647))) ∧ (∀ (M : nM), Sf 3 ac M0 M → 1 < (nn : Int) → nW xs (e + 6) 105 42 [none, none, none, none, none] [] M (nPI fun z M1 => Sf 3 ac M0 M1 ∧ (-2147483648 ≤ z ∧ z ≤ 2147483647))) := by
  have hd : (3 : Int) = 2 ∨ (3 : Int) = 3 := by decide
  have hac := hS.2.2.2.2
  intro nn
  induction nn with
  | zero => refine ⟨?_, ?_, ?_⟩ <;> (intros; omega)
  | succ nn ih =>
    refine ⟨?_, ?_, ?_⟩
    · intro M hS hnn
      refine n_iconst c_105_20 ?_
      exact n_rI c_105_21 rfl ⟨hS, by omega⟩
    · intro M hS k3 hnn
      refine n_aload_n c_105_22 rfl (n_iload_n c_105_23 rfl (n_v1A c_105_24 rfl sc_3.n rfl rfl rfl rfl (madeList_1_3  hS ) ?_))
      intro z1 M2 hP3
      obtain ⟨hS2, f3⟩ := hP3
      obtain rfl : z1 = 103 := f3
      refine n_astore (L2 := [some (2, 3), some (0, 1), some (0, i), some (0, w), some (2, 103)]) c_105_27 rfl rfl (n_iload_n c_105_29 rfl ?_)
      refine n_if0_lt c_105_30 (by omega) ?_ ?_
      · intro h4
        refine n_fg (le_n (le_n (le_n (le_n (le_n le_0))))) ?_
        exact ih.2.2  M2 hS2  (by omega)
      · intro h5
        refine n_iload_n c_105_33 rfl (n_aload c_105_34 rfl (n_getV (bi := 2) c_105_36 made103.c0.1.n rfl rfl rfl (t_made hS2 made103).2.2 ?_))
        intro z6 ez6 f7
        refine n_if2_lt c_105_39 (by omega) (by omega) ?_ ?_
        · intro h8
          refine n_iload_n c_105_44 rfl ?_
          refine n_if0_ne c_105_45 (by omega) ?_ ?_
          · intro h9
            refine n_aload c_105_58 rfl (n_getR c_105_60 made103.c0.1.n rfl rfl rfl made103.r.2 (n_iload_n c_105_63 rfl (n_ialoadV c_105_64 made103.c0.2.2.n rfl rfl rfl (by omega) (t_mader hS2 made103 (Or.inr rfl) (by omega)) ?_)))
            intro z10 ez10 f11
            exact n_rI c_105_65 rfl ⟨hS2, by omega⟩
          · intro h12
            refine n_aload c_105_48 rfl (n_getR c_105_50 made103.c0.1.n rfl rfl rfl made103.r.1 (n_iload_n c_105_53 rfl (n_ialoadV c_105_54 made103.c0.2.1.n rfl rfl rfl (by omega) (t_mader hS2 made103 (Or.inl rfl) (by omega)) ?_)))
            intro z13 ez13 f14
            refine n_goto c_105_55 ?_
            exact n_rI c_105_65 rfl ⟨hS2, by omega⟩
        · intro h15
          refine n_fg (le_n (le_n (le_n (le_n (le_n le_0))))) ?_
          exact ih.2.2  M2 hS2  (by omega)
    · intro M hS hnn
      refine n_iconst c_105_42 ?_
      exact n_rI c_105_43 rfl ⟨hS, by omega⟩
set_option maxHeartbeats 4000000 in
theorem madeOf_1_3 {xs : List Int32} {e : Nat} {ac : Int} {M0 M : nM} {i w : Int} (hS : Sf 3 ac M0 M) (hi : -2147483648 ≤ i ∧ i ≤ 2147483647) (hw : -2147483648 ≤ w ∧ w ≤ 2147483647) : nW xs (e + 6) 105 0 [some (2, 3), some (0, 1), some (0, i), some (0, w), none] [] M (nPI fun z M1 => Sf 3 ac M0 M1 ∧ (-2147483648 ≤ z ∧ z ≤ 2147483647)) := by
  have hd : (3 : Int) = 2 ∨ (3 : Int) = 3 := by decide
  have hac := hS.2.2.2.2
  refine n_aload_n c_105_0 rfl (n_getR c_105_1 sc_3.n rfl rfl rfl r_3_0 (n_iload_n c_105_4 rfl (n_v1I c_105_5 rfl sc_4.n rfl rfl rfl rfl (isMadeOf_3 (n := 1) hS (by omega)) ?_)))
  intro z1 M2 hP3
  obtain ⟨eM, f3, f3p0⟩ := hP3
  subst eM
  refine n_if0_eq c_105_8 (by omega) ?_ ?_
  · intro h4
    refine n_fg (le_n (le_n (le_n (le_n (le_n le_0))))) ?_
    exact (madeOf_1_3_c hS hi hw 16).1  M hS  (by omega)
  · intro h5
    refine n_iload_n c_105_11 rfl ?_
    refine n_if0_eq c_105_12 (by omega) ?_ ?_
    · intro h6
      refine n_fg (le_s (le_s (le_s (le_s (le_n le_0))))) ?_
      exact (madeOf_1_3_c hS hi hw 16).2.1  M hS (by omega) (by omega)
    · intro h7
      refine n_iload_n c_105_15 rfl (n_iconst c_105_16 ?_)
      refine n_if2_eq c_105_17 (by omega) (by omega) ?_ ?_
      · intro h8
        refine n_fg (le_s (le_s (le_s (le_s (le_n le_0))))) ?_
        exact (madeOf_1_3_c hS hi hw 16).2.1  M hS (by omega) (by omega)
      · intro h9
        refine n_fg (le_n (le_n (le_n (le_n (le_n le_0))))) ?_
        exact (madeOf_1_3_c hS hi hw 16).1  M hS  (by omega)

set_option maxHeartbeats 4000000 in
theorem madeOf_2_3_c {xs : List Int32} {e : Nat} {ac : Int} {M0 M : nM} {i w : Int} (hS : Sf 3 ac M0 M) (hi : -2147483648 ≤ i ∧ i ≤ 2147483647) (hw : -2147483648 ≤ w ∧ w ≤ 2147483647) : ∀ nn : Nat, (∀ (M : nM), Sf 3 ac M0 M → 3 < (nn : Int) → nW xs (e + 6) 105 20 [none, none, none, none, none] [] M (nPI fun z M1 => Sf 3 ac M0 M1 ∧ (-2147483648 ≤ z ∧ z ≤ 2147483647))) ∧ (∀ (M : nM), Sf 3 ac M0 M → (0 ≤ w ∧ w ≤ 1) → 2 < (nn : Int) → nW xs (e + 6) 105 22 [some (2, 3), some (0, 2), some (0, i), some (0, w), none] [] M (nPI fun z M1 => Sf 3 ac M0 M1 ∧ (-2147483648 ≤ z ∧ z ≤ 2147483647))) ∧ (∀ (M : nM), Sf 3 ac M0 M → 1 < (nn : Int) → nW xs (e + 6) 105 42 [none, none, none, none, none] [] M (nPI fun z M1 => Sf 3 ac M0 M1 ∧ (-2147483648 ≤ z ∧ z ≤ 2147483647))) := by
  have hd : (3 : Int) = 2 ∨ (3 : Int) = 3 := by decide
  have hac := hS.2.2.2.2
  intro nn
  induction nn with
  | zero => refine ⟨?_, ?_, ?_⟩ <;> (intros; omega)
  | succ nn ih =>
    refine ⟨?_, ?_, ?_⟩
    · intro M hS hnn
      refine n_iconst c_105_20 ?_
      exact n_rI c_105_21 rfl ⟨hS, by omega⟩
    · intro M hS k3 hnn
      refine n_aload_n c_105_22 rfl (n_iload_n c_105_23 rfl (n_v1A c_105_24 rfl sc_3.n rfl rfl rfl rfl (madeList_2_3  hS ) ?_))
      intro z1 M2 hP3
      obtain ⟨hS2, f3⟩ := hP3
      obtain rfl : z1 = 106 := f3
      refine n_astore (L2 := [some (2, 3), some (0, 2), some (0, i), some (0, w), some (2, 106)]) c_105_27 rfl rfl (n_iload_n c_105_29 rfl ?_)
      refine n_if0_lt c_105_30 (by omega) ?_ ?_
      · intro h4
        refine n_fg (le_n (le_n (le_n (le_n (le_n le_0))))) ?_
        exact ih.2.2  M2 hS2  (by omega)
      · intro h5
        refine n_iload_n c_105_33 rfl (n_aload c_105_34 rfl (n_getV (bi := 2) c_105_36 made106.c0.1.n rfl rfl rfl (t_made hS2 made106).2.2 ?_))
        intro z6 ez6 f7
        refine n_if2_lt c_105_39 (by omega) (by omega) ?_ ?_
        · intro h8
          refine n_iload_n c_105_44 rfl ?_
          refine n_if0_ne c_105_45 (by omega) ?_ ?_
          · intro h9
            refine n_aload c_105_58 rfl (n_getR c_105_60 made106.c0.1.n rfl rfl rfl made106.r.2 (n_iload_n c_105_63 rfl (n_ialoadV c_105_64 made106.c0.2.2.n rfl rfl rfl (by omega) (t_mader hS2 made106 (Or.inr rfl) (by omega)) ?_)))
            intro z10 ez10 f11
            exact n_rI c_105_65 rfl ⟨hS2, by omega⟩
          · intro h12
            refine n_aload c_105_48 rfl (n_getR c_105_50 made106.c0.1.n rfl rfl rfl made106.r.1 (n_iload_n c_105_53 rfl (n_ialoadV c_105_54 made106.c0.2.1.n rfl rfl rfl (by omega) (t_mader hS2 made106 (Or.inl rfl) (by omega)) ?_)))
            intro z13 ez13 f14
            refine n_goto c_105_55 ?_
            exact n_rI c_105_65 rfl ⟨hS2, by omega⟩
        · intro h15
          refine n_fg (le_n (le_n (le_n (le_n (le_n le_0))))) ?_
          exact ih.2.2  M2 hS2  (by omega)
    · intro M hS hnn
      refine n_iconst c_105_42 ?_
      exact n_rI c_105_43 rfl ⟨hS, by omega⟩
set_option maxHeartbeats 4000000 in
theorem madeOf_2_3 {xs : List Int32} {e : Nat} {ac : Int} {M0 M : nM} {i w : Int} (hS : Sf 3 ac M0 M) (hi : -2147483648 ≤ i ∧ i ≤ 2147483647) (hw : -2147483648 ≤ w ∧ w ≤ 2147483647) : nW xs (e + 6) 105 0 [some (2, 3), some (0, 2), some (0, i), some (0, w), none] [] M (nPI fun z M1 => Sf 3 ac M0 M1 ∧ (-2147483648 ≤ z ∧ z ≤ 2147483647)) := by
  have hd : (3 : Int) = 2 ∨ (3 : Int) = 3 := by decide
  have hac := hS.2.2.2.2
  refine n_aload_n c_105_0 rfl (n_getR c_105_1 sc_3.n rfl rfl rfl r_3_0 (n_iload_n c_105_4 rfl (n_v1I c_105_5 rfl sc_4.n rfl rfl rfl rfl (isMadeOf_3 (n := 2) hS (by omega)) ?_)))
  intro z1 M2 hP3
  obtain ⟨eM, f3, f3p0⟩ := hP3
  subst eM
  refine n_if0_eq c_105_8 (by omega) ?_ ?_
  · intro h4
    refine n_fg (le_n (le_n (le_n (le_n (le_n le_0))))) ?_
    exact (madeOf_2_3_c hS hi hw 16).1  M hS  (by omega)
  · intro h5
    refine n_iload_n c_105_11 rfl ?_
    refine n_if0_eq c_105_12 (by omega) ?_ ?_
    · intro h6
      refine n_fg (le_s (le_s (le_s (le_s (le_n le_0))))) ?_
      exact (madeOf_2_3_c hS hi hw 16).2.1  M hS (by omega) (by omega)
    · intro h7
      refine n_iload_n c_105_15 rfl (n_iconst c_105_16 ?_)
      refine n_if2_eq c_105_17 (by omega) (by omega) ?_ ?_
      · intro h8
        refine n_fg (le_s (le_s (le_s (le_s (le_n le_0))))) ?_
        exact (madeOf_2_3_c hS hi hw 16).2.1  M hS (by omega) (by omega)
      · intro h9
        refine n_fg (le_n (le_n (le_n (le_n (le_n le_0))))) ?_
        exact (madeOf_2_3_c hS hi hw 16).1  M hS  (by omega)

set_option maxHeartbeats 4000000 in
theorem madeOfH_3_c {xs : List Int32} {e : Nat} {ac : Int} {M0 M : nM} {n i w : Int} (hS : Sf 3 ac M0 M) (hn : 3 ≤ n ∧ n ≤ 2147483647) (hi : -2147483648 ≤ i ∧ i ≤ 2147483647) (hw : -2147483648 ≤ w ∧ w ≤ 2147483647) : ∀ nn : Nat, (∀ (M : nM), Sf 3 ac M0 M → 1 < (nn : Int) → nW xs (e + 6) 105 20 [none, none, none, none, none] [] M (nPI fun z M1 => Sf 3 ac M0 M1 ∧ (-2147483648 ≤ z ∧ z ≤ 2147483647))) := by
  have hd : (3 : Int) = 2 ∨ (3 : Int) = 3 := by decide
  have hac := hS.2.2.2.2
  intro nn
  induction nn with
  | zero => intros; omega
  | succ nn ih =>
    intro M hS hnn
    refine n_iconst c_105_20 ?_
    exact n_rI c_105_21 rfl ⟨hS, by omega⟩
set_option maxHeartbeats 4000000 in
theorem madeOfH_3 {xs : List Int32} {e : Nat} {ac : Int} {M0 M : nM} {n i w : Int} (hS : Sf 3 ac M0 M) (hn : 3 ≤ n ∧ n ≤ 2147483647) (hi : -2147483648 ≤ i ∧ i ≤ 2147483647) (hw : -2147483648 ≤ w ∧ w ≤ 2147483647) : nW xs (e + 6) 105 0 [some (2, 3), some (0, n), some (0, i), some (0, w), none] [] M (nPI fun z M1 => Sf 3 ac M0 M1 ∧ (-2147483648 ≤ z ∧ z ≤ 2147483647)) := by
  have hd : (3 : Int) = 2 ∨ (3 : Int) = 3 := by decide
  have hac := hS.2.2.2.2
  refine n_aload_n c_105_0 rfl (n_getR c_105_1 sc_3.n rfl rfl rfl r_3_0 (n_iload_n c_105_4 rfl (n_v1I c_105_5 rfl sc_4.n rfl rfl rfl rfl (isMadeOf_3 (n := n) hS (by omega)) ?_)))
  intro z1 M2 hP3
  obtain ⟨eM, f3, f3p0⟩ := hP3
  subst eM
  refine n_if0_eq c_105_8 (by omega) ?_ ?_
  · intro h4
    refine n_fg (le_n (le_n (le_n (le_n (le_n le_0))))) ?_
    exact (madeOfH_3_c hS hn hi hw 12)  M hS  (by omega)
  · intro h5
    exfalso; omega

set_option maxHeartbeats 4000000 in
theorem madeOf_3 {xs : List Int32} {e : Nat} {ac : Int} {M0 M : nM} {n i w : Int} (hS : Sf 3 ac M0 M) (hn : -2147483648 ≤ n ∧ n ≤ 2147483647) (hi : -2147483648 ≤ i ∧ i ≤ 2147483647) (hw : -2147483648 ≤ w ∧ w ≤ 2147483647) : nW xs (e + 6) 105 0 [some (2, 3), some (0, n), some (0, i), some (0, w), none] [] M (nPI fun z M1 => Sf 3 ac M0 M1 ∧ (-2147483648 ≤ z ∧ z ≤ 2147483647)) := by
  rcases (show (-2147483648 ≤ n ∧ n ≤ 0) ∨ n = 1 ∨ n = 2 ∨ (3 ≤ n ∧ n ≤ 2147483647) by omega) with hx | rfl | rfl | hx
  · exact madeOfL_3 hS (by omega) (by omega) (by omega)
  · exact madeOf_1_3 hS (by omega) (by omega)
  · exact madeOf_2_3 hS (by omega) (by omega)
  · exact madeOfH_3 hS (by omega) (by omega) (by omega)

set_option maxHeartbeats 4000000 in
theorem sizeL_3 {xs : List Int32} {e : Nat} {ac : Int} {M0 M : nM} {n c : Int} (hS : Sf 3 ac M0 M) (hn : -2147483648 ≤ n ∧ n ≤ 0) (hc : -2147483648 ≤ c ∧ c ≤ 2147483647) : nW xs (e + 6) 106 0 [some (2, 3), some (0, n), some (0, c), none] [] M (nPI fun z M1 => Sf 3 ac M0 M1 ∧ (-2147483648 ≤ z ∧ z ≤ 2147483647)) := by
  have hd : (3 : Int) = 2 ∨ (3 : Int) = 3 := by decide
  have hac := hS.2.2.2.2
  refine n_aload_n c_106_0 rfl (n_getR c_106_1 sc_3.n rfl rfl rfl r_3_0 (n_iload_n c_106_4 rfl (n_v1I c_106_5 rfl sc_4.n rfl rfl rfl rfl (isMadeOf_3 (n := n) hS (by omega)) ?_)))
  intro z1 M2 hP3
  obtain ⟨eM, f3, f3p0⟩ := hP3
  subst eM
  refine n_if0_ne c_106_8 (by omega) ?_ ?_
  · intro h4
    exfalso; omega
  · intro h5
    refine n_iconst c_106_11 ?_
    exact n_rI c_106_12 rfl ⟨hS, by omega⟩

set_option maxHeartbeats 4000000 in
theorem size_1_3_c {xs : List Int32} {e : Nat} {ac : Int} {M0 M : nM} {c : Int} (hS : Sf 3 ac M0 M) (hc : -2147483648 ≤ c ∧ c ≤ 2147483647) : ∀ nn : Nat, (∀ (M : nM), Sf 3 ac M0 M → 1 < (nn : Int) → nW xs (e + 6) 106 45 [none, none, none, none] [] M (nPI fun z M1 => Sf 3 ac M0 M1 ∧ (-2147483648 ≤ z ∧ z ≤ 2147483647))) := by
  have hd : (3 : Int) = 2 ∨ (3 : Int) = 3 := by decide
  have hac := hS.2.2.2.2
  intro nn
  induction nn with
  | zero => intros; omega
  | succ nn ih =>
    intro M hS hnn
    refine n_iconst c_106_45 ?_
    exact n_rI c_106_46 rfl ⟨hS, by omega⟩
set_option maxHeartbeats 4000000 in
theorem size_1_3 {xs : List Int32} {e : Nat} {ac : Int} {M0 M : nM} {c : Int} (hS : Sf 3 ac M0 M) (hc : -2147483648 ≤ c ∧ c ≤ 2147483647) : nW xs (e + 6) 106 0 [some (2, 3), some (0, 1), some (0, c), none] [] M (nPI fun z M1 => Sf 3 ac M0 M1 ∧ (-2147483648 ≤ z ∧ z ≤ 2147483647)) := by
  have hd : (3 : Int) = 2 ∨ (3 : Int) = 3 := by decide
  have hac := hS.2.2.2.2
  refine n_aload_n c_106_0 rfl (n_getR c_106_1 sc_3.n rfl rfl rfl r_3_0 (n_iload_n c_106_4 rfl (n_v1I c_106_5 rfl sc_4.n rfl rfl rfl rfl (isMadeOf_3 (n := 1) hS (by omega)) ?_)))
  intro z1 M2 hP3
  obtain ⟨eM, f3, f3p0⟩ := hP3
  subst eM
  refine n_if0_ne c_106_8 (by omega) ?_ ?_
  · intro h4
    refine n_aload_n c_106_13 rfl (n_iload_n c_106_14 rfl (n_v1A c_106_15 rfl sc_3.n rfl rfl rfl rfl (madeList_1_3  hS ) ?_))
    intro z5 M6 hP7
    obtain ⟨hS6, f7⟩ := hP7
    obtain rfl : z5 = 103 := f7
    refine n_astore_n (L2 := [some (2, 3), some (0, 1), some (0, c), some (2, 103)]) c_106_18 rfl rfl (n_aload_n c_106_19 rfl (n_getV (bi := 1) c_106_20 made103.c0.1.n rfl rfl rfl (t_made hS6 made103).2.1 ?_))
    intro z8 ez8 f9
    refine n_if0_eq c_106_23 (by omega) ?_ ?_
    · intro h10
      refine n_iload_n c_106_29 rfl ?_
      refine n_if0_lt c_106_30 (by omega) ?_ ?_
      · intro h11
        refine n_fg (le_n (le_n (le_n (le_n le_0)))) ?_
        exact (size_1_3_c hS hc 12)  M6 hS6  (by omega)
      · intro h12
        refine n_iload_n c_106_33 rfl (n_aload_n c_106_34 rfl (n_getR c_106_35 sc_3.n rfl rfl rfl r_3_0 (n_iload_n c_106_38 rfl (n_v1I c_106_39 rfl sc_4.n rfl rfl rfl rfl (codes1_3  hS6 ) ?_))))
        intro z13 M14 hP15
        obtain ⟨eM, f15⟩ := hP15
        subst eM
        obtain rfl : z13 = 27 := by omega
        refine n_if2_lt c_106_42 (by omega) (by omega) ?_ ?_
        · intro h16
          refine n_aload_n c_106_47 rfl (n_iload_n c_106_48 rfl (n_v1I c_106_49 rfl made103.c0.1.n rfl rfl rfl rfl (sizeOf_1_3 (c := c) hS6 (by omega)) ?_))
          intro z17 M18 hP19
          obtain ⟨eM, f19⟩ := hP19
          subst eM
          exact n_rI c_106_52 rfl ⟨hS6, by omega⟩
        · intro h20
          refine n_fg (le_n (le_n (le_n (le_n le_0)))) ?_
          exact (size_1_3_c hS hc 12)  M6 hS6  (by omega)
    · intro h21
      refine n_bipush c_106_26 rfl ?_
      exact n_rI c_106_28 rfl ⟨hS6, by omega⟩
  · intro h22
    refine n_iconst c_106_11 ?_
    exact n_rI c_106_12 rfl ⟨hS, by omega⟩

set_option maxHeartbeats 4000000 in
theorem size_2_3_c {xs : List Int32} {e : Nat} {ac : Int} {M0 M : nM} {c : Int} (hS : Sf 3 ac M0 M) (hc : -2147483648 ≤ c ∧ c ≤ 2147483647) : ∀ nn : Nat, (∀ (M : nM), Sf 3 ac M0 M → 1 < (nn : Int) → nW xs (e + 6) 106 45 [none, none, none, none] [] M (nPI fun z M1 => Sf 3 ac M0 M1 ∧ (-2147483648 ≤ z ∧ z ≤ 2147483647))) := by
  have hd : (3 : Int) = 2 ∨ (3 : Int) = 3 := by decide
  have hac := hS.2.2.2.2
  intro nn
  induction nn with
  | zero => intros; omega
  | succ nn ih =>
    intro M hS hnn
    refine n_iconst c_106_45 ?_
    exact n_rI c_106_46 rfl ⟨hS, by omega⟩
set_option maxHeartbeats 4000000 in
theorem size_2_3 {xs : List Int32} {e : Nat} {ac : Int} {M0 M : nM} {c : Int} (hS : Sf 3 ac M0 M) (hc : -2147483648 ≤ c ∧ c ≤ 2147483647) : nW xs (e + 6) 106 0 [some (2, 3), some (0, 2), some (0, c), none] [] M (nPI fun z M1 => Sf 3 ac M0 M1 ∧ (-2147483648 ≤ z ∧ z ≤ 2147483647)) := by
  have hd : (3 : Int) = 2 ∨ (3 : Int) = 3 := by decide
  have hac := hS.2.2.2.2
  refine n_aload_n c_106_0 rfl (n_getR c_106_1 sc_3.n rfl rfl rfl r_3_0 (n_iload_n c_106_4 rfl (n_v1I c_106_5 rfl sc_4.n rfl rfl rfl rfl (isMadeOf_3 (n := 2) hS (by omega)) ?_)))
  intro z1 M2 hP3
  obtain ⟨eM, f3, f3p0⟩ := hP3
  subst eM
  refine n_if0_ne c_106_8 (by omega) ?_ ?_
  · intro h4
    refine n_aload_n c_106_13 rfl (n_iload_n c_106_14 rfl (n_v1A c_106_15 rfl sc_3.n rfl rfl rfl rfl (madeList_2_3  hS ) ?_))
    intro z5 M6 hP7
    obtain ⟨hS6, f7⟩ := hP7
    obtain rfl : z5 = 106 := f7
    refine n_astore_n (L2 := [some (2, 3), some (0, 2), some (0, c), some (2, 106)]) c_106_18 rfl rfl (n_aload_n c_106_19 rfl (n_getV (bi := 1) c_106_20 made106.c0.1.n rfl rfl rfl (t_made hS6 made106).2.1 ?_))
    intro z8 ez8 f9
    refine n_if0_eq c_106_23 (by omega) ?_ ?_
    · intro h10
      refine n_iload_n c_106_29 rfl ?_
      refine n_if0_lt c_106_30 (by omega) ?_ ?_
      · intro h11
        refine n_fg (le_n (le_n (le_n (le_n le_0)))) ?_
        exact (size_2_3_c hS hc 12)  M6 hS6  (by omega)
      · intro h12
        refine n_iload_n c_106_33 rfl (n_aload_n c_106_34 rfl (n_getR c_106_35 sc_3.n rfl rfl rfl r_3_0 (n_iload_n c_106_38 rfl (n_v1I c_106_39 rfl sc_4.n rfl rfl rfl rfl (codes2_3  hS6 ) ?_))))
        intro z13 M14 hP15
        obtain ⟨eM, f15⟩ := hP15
        subst eM
        obtain rfl : z13 = 19683 := by omega
        refine n_if2_lt c_106_42 (by omega) (by omega) ?_ ?_
        · intro h16
          refine n_aload_n c_106_47 rfl (n_iload_n c_106_48 rfl (n_v1I c_106_49 rfl made106.c0.1.n rfl rfl rfl rfl (sizeOf_2_3 (c := c) hS6 (by omega)) ?_))
          intro z17 M18 hP19
          obtain ⟨eM, f19⟩ := hP19
          subst eM
          exact n_rI c_106_52 rfl ⟨hS6, by omega⟩
        · intro h20
          refine n_fg (le_n (le_n (le_n (le_n le_0)))) ?_
          exact (size_2_3_c hS hc 12)  M6 hS6  (by omega)
    · intro h21
      refine n_bipush c_106_26 rfl ?_
      exact n_rI c_106_28 rfl ⟨hS6, by omega⟩
  · intro h22
    refine n_iconst c_106_11 ?_
    exact n_rI c_106_12 rfl ⟨hS, by omega⟩

set_option maxHeartbeats 4000000 in
theorem sizeH_3 {xs : List Int32} {e : Nat} {ac : Int} {M0 M : nM} {n c : Int} (hS : Sf 3 ac M0 M) (hn : 3 ≤ n ∧ n ≤ 2147483647) (hc : -2147483648 ≤ c ∧ c ≤ 2147483647) : nW xs (e + 6) 106 0 [some (2, 3), some (0, n), some (0, c), none] [] M (nPI fun z M1 => Sf 3 ac M0 M1 ∧ (-2147483648 ≤ z ∧ z ≤ 2147483647)) := by
  have hd : (3 : Int) = 2 ∨ (3 : Int) = 3 := by decide
  have hac := hS.2.2.2.2
  refine n_aload_n c_106_0 rfl (n_getR c_106_1 sc_3.n rfl rfl rfl r_3_0 (n_iload_n c_106_4 rfl (n_v1I c_106_5 rfl sc_4.n rfl rfl rfl rfl (isMadeOf_3 (n := n) hS (by omega)) ?_)))
  intro z1 M2 hP3
  obtain ⟨eM, f3, f3p0⟩ := hP3
  subst eM
  refine n_if0_ne c_106_8 (by omega) ?_ ?_
  · intro h4
    exfalso; omega
  · intro h5
    refine n_iconst c_106_11 ?_
    exact n_rI c_106_12 rfl ⟨hS, by omega⟩

set_option maxHeartbeats 4000000 in
theorem size_3 {xs : List Int32} {e : Nat} {ac : Int} {M0 M : nM} {n c : Int} (hS : Sf 3 ac M0 M) (hn : -2147483648 ≤ n ∧ n ≤ 2147483647) (hc : -2147483648 ≤ c ∧ c ≤ 2147483647) : nW xs (e + 6) 106 0 [some (2, 3), some (0, n), some (0, c), none] [] M (nPI fun z M1 => Sf 3 ac M0 M1 ∧ (-2147483648 ≤ z ∧ z ≤ 2147483647)) := by
  rcases (show (-2147483648 ≤ n ∧ n ≤ 0) ∨ n = 1 ∨ n = 2 ∨ (3 ≤ n ∧ n ≤ 2147483647) by omega) with hx | rfl | rfl | hx
  · exact sizeL_3 hS (by omega) (by omega)
  · exact size_1_3 hS (by omega)
  · exact size_2_3 hS (by omega)
  · exact sizeH_3 hS (by omega) (by omega)
