/-! What the methods tell. -/
set_option maxHeartbeats 4000000 in
theorem mwholeX_2_c {xs : List Int32} {e : Nat} {ac : Int} {M0 M : nM} (hS : Sf 2 ac M0 M) (hdm : M0 112 0 = 2) : ∀ nn : Nat, (∀ (x1 x2 : Int), (0 ≤ x1 ∧ x1 ≤ 31) → (0 ≤ x2 ∧ x2 ≤ 8) → (x1 = wh (fun a => sgm (fun i => M 117 (27 * a + i)) (n_shl 1 (M 116 a))) x2.toNat) → (x2 ≤ M 112 4) → (8 - x2) * 1 + 1 < (nn : Int) → nW xs (e + 2) 186 15 [some (2, 112), some (0, x1), some (0, x2)] [] M (nPI fun z M1 => M = M1 ∧ (-2147483648 ≤ z ∧ z ≤ 2147483647) ∧ (mWh 2 z M))) := by
  have hd : (2 : Int) = 2 ∨ (2 : Int) = 3 := by decide
  have hac := hS.2.2.2.2
  intro nn
  induction nn with
  | zero => intros; omega
  | succ nn ih =>
    intro x1 x2 k1 k2 v0 v1 hnn
    refine n_iload_n c_186_15 rfl (n_aload_n c_186_16 rfl (n_getV (bi := 4) c_186_17 sc_112.n rfl rfl rfl (t_112_4 hS) ?_))
    intro z1 ez1 f2
    refine n_if2_ge c_186_20 (by omega) (by omega) ?_ ?_
    · intro h3
      refine n_iload_n c_186_37 rfl ?_
      refine n_if0_ne c_186_38 (by omega) ?_ ?_
      · intro h4
        refine n_iconst c_186_45 ?_
        exact n_rI c_186_46 rfl ⟨rfl, by omega, by have q : x2 = M 112 4 := (by omega); rw [q] at v0; first | exact Or.inr ⟨rfl, Or.inl ⟨by omega, rfl⟩⟩ | exact Or.inr ⟨rfl, Or.inr ⟨by omega, rfl⟩⟩⟩
      · intro h5
        refine n_iconst c_186_41 (n_goto c_186_42 ?_)
        exact n_rI c_186_46 rfl ⟨rfl, by omega, by have q : x2 = M 112 4 := (by omega); rw [q] at v0; first | exact Or.inr ⟨rfl, Or.inl ⟨by omega, rfl⟩⟩ | exact Or.inr ⟨rfl, Or.inr ⟨by omega, rfl⟩⟩⟩
    · intro h6
      refine n_iload_n c_186_23 rfl (n_aload_n c_186_24 rfl (n_iload_n c_186_25 rfl (n_v1I c_186_26 rfl sc_112.n rfl rfl rfl rfl (msignsX_2 (a := x2) hS hdm (by omega)) ?_)))
      intro z7 M8 hP9
      obtain ⟨eM, f9, f9p0, f9p1⟩ := hP9
      subst eM
      refine n_i_iand c_186_29 rfl ?_
      have f10 := n_and_x (x := x1) (y := z7) (by omega)
      generalize gz11 : (n_and x1 z7) = z11 at f10 ⊢
      refine n_istore_n (L2 := [some (2, 112), some (0, z11), some (0, x2)]) c_186_30 rfl rfl (n_iinc (L2 := [some (2, 112), some (0, z11), some (0, (x2 + 1))]) c_186_31 rfl rfl rfl (n_goto c_186_34 (n_fg (le_s (le_s (le_s le_0))) ?_)))
      exact ih _ _ (by omega) (by omega) (by rw [wh_step (by omega), ← v0, ← gz11]; show _ = n_and x1 (sgm (fun i => M 117 (27 * x2 + i)) (n_shl 1 (M 116 x2))); exact congrArg (n_and x1) (Or.elim f9p0 (fun q => by exfalso; omega) (fun q => q.2.2.2))) (by have t4 := t_112_4 hS; omega) (by omega)
set_option maxHeartbeats 4000000 in
theorem mwholeX_2 {xs : List Int32} {e : Nat} {ac : Int} {M0 M : nM} (hS : Sf 2 ac M0 M) (hdm : M0 112 0 = 2) : nW xs (e + 2) 186 0 [some (2, 112), none, none] [] M (nPI fun z M1 => M = M1 ∧ (-2147483648 ≤ z ∧ z ≤ 2147483647) ∧ (mWh 2 z M)) := by
  have hd : (2 : Int) = 2 ∨ (2 : Int) = 3 := by decide
  have hac := hS.2.2.2.2
  refine n_aload_n c_186_0 rfl (n_getV (bi := 0) c_186_1 sc_112.n rfl rfl rfl (t_dm hS hdm) ?_)
  intro z1 ez1 f2
  obtain rfl : z1 = 2 := by omega
  refine n_iconst c_186_4 ?_
  refine n_if2_ne c_186_5 (by omega) (by omega) ?_ ?_
  · intro h3
    refine n_bipush c_186_10 rfl (n_istore_n (L2 := [some (2, 112), some (0, 31), none]) c_186_12 rfl rfl (n_iconst c_186_13 (n_istore_n (L2 := [some (2, 112), some (0, 31), some (0, 0)]) c_186_14 rfl rfl (n_fg (le_s (le_s (le_s le_0))) ?_))))
    exact (mwholeX_2_c hS hdm 30) _ _ (by omega) (by omega) (by rfl) (by have t4 := t_112_4 hS; omega) (by omega)
  · intro h4
    exfalso; omega
