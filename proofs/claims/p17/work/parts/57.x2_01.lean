/-! What the methods do to the core. -/
set_option maxHeartbeats 4000000 in
theorem lawXH_2 {xs : List Int32} {e : Nat} {ac : Int} {M0 M : nM} {k s : Int} (hS : Sf 2 ac M0 M) (hk : 4 ≤ k ∧ k ≤ 2147483647) (hs : -2147483648 ≤ s ∧ s ≤ 2147483647) : nW xs (e + 2) 98 0 [some (2, 3), some (0, k), some (0, s), none] [] M (nPI fun z M1 => M = M1 ∧ (-2 ≤ z ∧ z ≤ -2)) := by
  have hd : (2 : Int) = 2 ∨ (2 : Int) = 3 := by decide
  have hac := hS.2.2.2.2
  refine n_aload_n c_98_0 rfl (n_getR c_98_1 sc_3.n rfl rfl rfl r_3_1 (n_iload_n c_98_4 rfl (n_v1I c_98_5 rfl sc_8.n rfl rfl rfl rfl (isSlotF_2 (s := s) hS (by omega)) ?_)))
  intro z1 M2 hP3
  obtain ⟨eM, f3, f3p0⟩ := hP3
  subst eM
  refine n_if0_eq c_98_8 (by omega) ?_ ?_
  · intro h4
    refine n_bipush c_98_19 rfl ?_
    exact n_rI c_98_21 rfl ⟨rfl, by omega⟩
  · intro h5
    refine n_aload_n c_98_11 rfl (n_iload_n c_98_12 rfl (n_v1I c_98_13 rfl sc_3.n rfl rfl rfl rfl (isPlaceCountF_2 (k := k) hS (by omega)) ?_))
    intro z6 M7 hP8
    obtain ⟨eM, f8, f8p0⟩ := hP8
    subst eM
    refine n_if0_ne c_98_16 (by omega) ?_ ?_
    · intro h9
      exfalso; omega
    · intro h10
      refine n_bipush c_98_19 rfl ?_
      exact n_rI c_98_21 rfl ⟨rfl, by omega⟩

set_option maxHeartbeats 4000000 in
theorem mlawXL_2 {xs : List Int32} {e : Nat} {ac : Int} {M0 M : nM} {k s : Int} (hS : Sf 2 ac M0 M) (hdm : M0 112 0 = 2) (hk : -2147483648 ≤ k ∧ k ≤ 0) (hs : -2147483648 ≤ s ∧ s ≤ 2147483647) : nW xs (e + 1) 149 0 [some (2, 112), some (0, k), some (0, s), none, none, none, none, none, none, none, none, none] [] M (nPI fun z M1 => M = M1 ∧ (-2 ≤ z ∧ z ≤ -2)) := by
  have hd : (2 : Int) = 2 ∨ (2 : Int) = 3 := by decide
  have hac := hS.2.2.2.2
  refine n_iload_n c_149_0 rfl (n_s1I c_149_1 rfl rfl rfl rfl (misSlotF_2 (s := s) hS (by omega)) ?_)
  intro z1 M2 hP3
  obtain ⟨eM, f3, f3p0⟩ := hP3
  subst eM
  refine n_if0_eq c_149_4 (by omega) ?_ ?_
  · intro h4
    refine n_bipush c_149_17 rfl ?_
    exact n_rI c_149_19 rfl ⟨rfl, by omega⟩
  · intro h5
    refine n_iload_n c_149_7 rfl (n_iconst c_149_8 ?_)
    refine n_if2_lt c_149_9 (by omega) (by omega) ?_ ?_
    · intro h6
      refine n_bipush c_149_17 rfl ?_
      exact n_rI c_149_19 rfl ⟨rfl, by omega⟩
    · intro h7
      exfalso; omega

set_option maxHeartbeats 4000000 in
theorem mlawXH_2 {xs : List Int32} {e : Nat} {ac : Int} {M0 M : nM} {k s : Int} (hS : Sf 2 ac M0 M) (hdm : M0 112 0 = 2) (hk : 4 ≤ k ∧ k ≤ 2147483647) (hs : -2147483648 ≤ s ∧ s ≤ 2147483647) : nW xs (e + 1) 149 0 [some (2, 112), some (0, k), some (0, s), none, none, none, none, none, none, none, none, none] [] M (nPI fun z M1 => M = M1 ∧ (-2 ≤ z ∧ z ≤ -2)) := by
  have hd : (2 : Int) = 2 ∨ (2 : Int) = 3 := by decide
  have hac := hS.2.2.2.2
  refine n_iload_n c_149_0 rfl (n_s1I c_149_1 rfl rfl rfl rfl (misSlotF_2 (s := s) hS (by omega)) ?_)
  intro z1 M2 hP3
  obtain ⟨eM, f3, f3p0⟩ := hP3
  subst eM
  refine n_if0_eq c_149_4 (by omega) ?_ ?_
  · intro h4
    refine n_bipush c_149_17 rfl ?_
    exact n_rI c_149_19 rfl ⟨rfl, by omega⟩
  · intro h5
    refine n_iload_n c_149_7 rfl (n_iconst c_149_8 ?_)
    refine n_if2_lt c_149_9 (by omega) (by omega) ?_ ?_
    · intro h6
      exfalso; omega
    · intro h7
      refine n_iload_n c_149_12 rfl (n_iconst c_149_13 ?_)
      refine n_if2_le c_149_14 (by omega) (by omega) ?_ ?_
      · intro h8
        exfalso; omega
      · intro h9
        refine n_bipush c_149_17 rfl ?_
        exact n_rI c_149_19 rfl ⟨rfl, by omega⟩

set_option maxHeartbeats 4000000 in
theorem actXA_2 {xs : List Int32} {e : Nat} {ac : Int} {M : nM} {k s gd : Int} (hS : Sf 2 ac M M) (hk : -2147483648 ≤ k ∧ k ≤ 2147483647) (hs : -2147483648 ≤ s ∧ s ≤ 2147483647) (hgd : M 112 0 = gd) : nW xs (e + 2) 97 0 [some (2, 3), some (0, k), some (0, s), none, none, none] [] M (nPI fun z M1 => (∃ ac2, Sf 2 ac2 M1 M1) ∧ (-2147483648 ≤ z ∧ z ≤ 2147483647) ∧ (M1 112 0 = gd) ∧ (cAct 2 k (pw 2 k) s z M M1)) := by
  rcases (show (-2147483648 ≤ k ∧ k ≤ 0) ∨ k = 1 ∨ k = 2 ∨ k = 3 ∨ (4 ≤ k ∧ k ≤ 2147483647) by omega) with hx | rfl | rfl | rfl | hx
  · exact n_post (actXL_2 hS (by omega) (by omega)) (fun w M1 h => by obtain ⟨z, rfl, rfl, h2⟩ := h; exact ⟨z, rfl, ⟨_, hS⟩, by omega, hgd, Or.inl ⟨by omega, by omega, fun _ _ _ => rfl⟩⟩)
  · exact actX1_2 hS (by omega) hgd rfl
  · exact actX2_2 hS (by omega) hgd rfl
  · exact actX3_2 hS (by omega) hgd rfl
  · exact n_post (actXH_2 hS (by omega) (by omega)) (fun w M1 h => by obtain ⟨z, rfl, rfl, h2⟩ := h; exact ⟨z, rfl, ⟨_, hS⟩, by omega, hgd, Or.inl ⟨by omega, by omega, fun _ _ _ => rfl⟩⟩)

set_option maxHeartbeats 4000000 in
theorem mactXA_2 {xs : List Int32} {e : Nat} {ac : Int} {M : nM} {k s gd : Int} (hS : Sf 2 ac M M) (hdm : M 112 0 = 2) (hk : -2147483648 ≤ k ∧ k ≤ 2147483647) (hs : -2147483648 ≤ s ∧ s ≤ 2147483647) (hgd : M 112 0 = gd) : nW xs (e + 1) 148 0 [some (2, 112), some (0, k), some (0, s), none, none, none] [] M (nPI fun z M1 => Sf 2 ac M1 M1 ∧ (-2147483648 ≤ z ∧ z ≤ 2147483647) ∧ (M1 112 0 = gd) ∧ (mAct 2 k (pw 2 k) s z M M1)) := by
  rcases (show (-2147483648 ≤ k ∧ k ≤ 0) ∨ k = 1 ∨ k = 2 ∨ k = 3 ∨ (4 ≤ k ∧ k ≤ 2147483647) by omega) with hx | rfl | rfl | rfl | hx
  · exact n_post (mactXL_2 hS hdm (by omega) (by omega)) (fun w M1 h => by obtain ⟨z, rfl, rfl, h2⟩ := h; exact ⟨z, rfl, hS, by omega, hgd, Or.inl ⟨by omega, by omega, fun _ _ _ => rfl⟩⟩)
  · exact mactX1_2 hS hdm (by omega) hgd rfl
  · exact mactX2_2 hS hdm (by omega) hgd rfl
  · exact mactX3_2 hS hdm (by omega) hgd rfl
  · exact n_post (mactXH_2 hS hdm (by omega) (by omega)) (fun w M1 h => by obtain ⟨z, rfl, rfl, h2⟩ := h; exact ⟨z, rfl, hS, by omega, hgd, Or.inl ⟨by omega, by omega, fun _ _ _ => rfl⟩⟩)

set_option maxHeartbeats 4000000 in
theorem lawXA_2 {xs : List Int32} {e : Nat} {ac : Int} {M : nM} {k s gd : Int} (hS : Sf 2 ac M M) (hk : -2147483648 ≤ k ∧ k ≤ 2147483647) (hs : -2147483648 ≤ s ∧ s ≤ 2147483647) (hgd : M 112 0 = gd) : nW xs (e + 2) 98 0 [some (2, 3), some (0, k), some (0, s), none] [] M (nPI fun z M1 => Sf 2 ac M1 M1 ∧ (-2147483648 ≤ z ∧ z ≤ 2147483647) ∧ (M1 112 0 = gd) ∧ (cLaw 2 k s z M M1)) := by
  rcases (show (-2147483648 ≤ k ∧ k ≤ 0) ∨ k = 1 ∨ k = 2 ∨ k = 3 ∨ (4 ≤ k ∧ k ≤ 2147483647) by omega) with hx | rfl | rfl | rfl | hx
  · exact n_post (lawXL_2 hS (by omega) (by omega)) (fun w M1 h => by obtain ⟨z, rfl, rfl, h2⟩ := h; exact ⟨z, rfl, hS, by omega, hgd, Or.inl ⟨by omega, by omega, fun _ _ _ => rfl⟩⟩)
  · exact lawX1_2 hS (by omega) hgd
  · exact lawX2_2 hS (by omega) hgd
  · exact lawX3_2 hS (by omega) hgd
  · exact n_post (lawXH_2 hS (by omega) (by omega)) (fun w M1 h => by obtain ⟨z, rfl, rfl, h2⟩ := h; exact ⟨z, rfl, hS, by omega, hgd, Or.inl ⟨by omega, by omega, fun _ _ _ => rfl⟩⟩)

set_option maxHeartbeats 4000000 in
theorem mlawXA_2 {xs : List Int32} {e : Nat} {ac : Int} {M : nM} {k s gd : Int} (hS : Sf 2 ac M M) (hdm : M 112 0 = 2) (hk : -2147483648 ≤ k ∧ k ≤ 2147483647) (hs : -2147483648 ≤ s ∧ s ≤ 2147483647) (hgd : M 112 0 = gd) : nW xs (e + 1) 149 0 [some (2, 112), some (0, k), some (0, s), none, none, none, none, none, none, none, none, none] [] M (nPI fun z M1 => Sf 2 ac M1 M1 ∧ (-2147483648 ≤ z ∧ z ≤ 2147483647) ∧ (M1 112 0 = gd) ∧ (mLaw 2 k s z M M1)) := by
  rcases (show (-2147483648 ≤ k ∧ k ≤ 0) ∨ k = 1 ∨ k = 2 ∨ k = 3 ∨ (4 ≤ k ∧ k ≤ 2147483647) by omega) with hx | rfl | rfl | rfl | hx
  · exact n_post (mlawXL_2 hS hdm (by omega) (by omega)) (fun w M1 h => by obtain ⟨z, rfl, rfl, h2⟩ := h; exact ⟨z, rfl, hS, by omega, hgd, Or.inl ⟨by omega, by omega, fun _ _ _ => rfl⟩⟩)
  · exact mlawX1_2 hS hdm (by omega) hgd rfl
  · exact mlawX2_2 hS hdm (by omega) hgd rfl
  · exact mlawX3_2 hS hdm (by omega) hgd rfl
  · exact n_post (mlawXH_2 hS hdm (by omega) (by omega)) (fun w M1 h => by obtain ⟨z, rfl, rfl, h2⟩ := h; exact ⟨z, rfl, hS, by omega, hgd, Or.inl ⟨by omega, by omega, fun _ _ _ => rfl⟩⟩)
