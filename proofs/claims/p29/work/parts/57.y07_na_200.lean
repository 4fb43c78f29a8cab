/-! What the methods tell. -/
set_option maxHeartbeats 4000000 in
theorem mdigitX_2 {xs : List Int32} {e : Nat} {ac : Int} {M0 M : nM} {r k j : Int} (hS : Sf 2 ac M0 M) (hdm : M0 112 0 = 2) (hr : 0 ≤ r ∧ r ≤ 26) (hk : 1 ≤ k ∧ k ≤ 3) (hj : 0 ≤ j ∧ j ≤ 2) (hkj : j < k) : nW xs (e + 1) 152 0 [some (2, 112), some (0, r), some (0, k), some (0, j)] [] M (nPI fun z M1 => M = M1 ∧ (0 ≤ z ∧ z ≤ 1) ∧ (z = dgt 2 k r j)) := by
  have hd : (2 : Int) = 2 ∨ (2 : Int) = 3 := by decide
  have hac := hS.2.2.2.2
  refine n_iload_n c_152_0 rfl (n_aload_n c_152_1 rfl (n_getV (bi := 0) c_152_2 sc_112.n rfl rfl rfl (t_dm hS hdm) ?_))
  intro z1 ez1 f2
  obtain rfl : z1 = 2 := by omega
  refine n_iload_n c_152_5 rfl (n_iconst c_152_6 (n_isub c_152_7 rfl (n_iload_n c_152_8 rfl (n_isub c_152_9 rfl (n_s2I c_152_10 rfl rfl rfl rfl (mpowF_2 (n := ((k - 1) - j)) hS (by omega)) ?_)))))
  intro z3 M4 hP5
  obtain ⟨eM, f5, f5p0⟩ := hP5
  subst eM
  refine n_idivV c_152_13 (by omega) (by omega) ?_
  intro z6 ez6 f7
  refine n_aload_n c_152_14 rfl (n_getV (bi := 0) c_152_15 sc_112.n rfl rfl rfl (t_dm hS hdm) ?_)
  intro z8 ez8 f9
  obtain rfl : z8 = 2 := by omega
  refine n_iremV c_152_18 (by omega) (by omega) ?_
  intro z10 ez10 f11
  exact n_rI c_152_19 rfl ⟨rfl, by omega, by have q := f5p0; unfold dgt; rw [← q]; subst_vars; rfl⟩
