/-! What the methods tell. -/
set_option maxHeartbeats 4000000 in
theorem mlayX_2_c {xs : List Int32} {e : Nat} {ac : Int} {M0 M : nM} {c r : Int} {Ms : nM} (hS : Sf 2 ac M0 M) (hdm : M0 112 0 = 2) (hc : 0 ≤ c ∧ c ≤ 20000) (hr : 0 ≤ r ∧ r ≤ 27) (hms : M = Ms) : ∀ nn : Nat, (∀ (x4 x6 : Int) (M : nM), Sf 2 ac M0 M → (0 ≤ x4 ∧ x4 ≤ 20000) → (0 ≤ x6 ∧ x6 ≤ 27) → (x4 = c / pn 2 x6.toNat) → (∀ q : Int, 0 ≤ q → q < x6 → M 127 q = cdg 2 c q) → (FC 127 Ms M) → (27 - x6) * 1 + 1 < (nn : Int) → nW xs e 171 6 [some (2, 112), none, none, some (0, r), some (1, x4), none, some (0, x6)] [] M (nPV fun M1 => Sf 2 ac M0 M1 ∧ (HD 2 c r M1) ∧ (FC 127 Ms M1))) := by
  have hd : (2 : Int) = 2 ∨ (2 : Int) = 3 := by decide
  have hac := hS.2.2.2.2
  intro nn
  induction nn with
  | zero => intros; omega
  | succ nn ih =>
    intro x4 x6 M hS k4 k6 v0 v1 v2 hnn
    refine n_iload c_171_6 rfl (n_iload_n c_171_8 rfl ?_)
    refine n_if2_ge c_171_9 (by omega) (by omega) ?_ ?_
    · intro h1
      exact n_rV c_171_44 rfl ⟨hS, by exact fun q q0 q1 => v1 q q0 (by omega), by exact v2⟩
    · intro h2
      refine n_aload_n c_171_12 rfl (n_getR c_171_13 sc_112.n rfl rfl rfl r_112_19 (n_iload c_171_16 rfl (n_lload c_171_18 rfl (n_aload_n c_171_20 rfl (n_getV (bi := 0) c_171_21 sc_112.n rfl rfl rfl (t_dm hS hdm) ?_)))))
      intro z3 ez3 f4
      obtain rfl : z3 = 2 := by omega
      refine n_i2l c_171_24 (by omega) ?_
      refine n_lremV c_171_25 (by omega) (by omega) ?_
      intro z5 ez5 f6
      refine n_l2i c_171_26 (n_iastoreV hS c_171_27 sc_127.n rfl (by omega) (w_127 (by omega) (by omega)) ?_)
      intro M7 eM7 hS7
      refine n_lload c_171_28 rfl (n_aload_n c_171_30 rfl (n_getV (bi := 0) c_171_31 sc_112.n rfl rfl rfl (t_dm hS7 hdm) ?_))
      intro z8 ez8 f9
      obtain rfl : z8 = 2 := by omega
      refine n_i2l c_171_34 (by omega) ?_
      refine n_ldivV c_171_35 (by omega) (by omega) ?_
      intro z10 ez10 f11
      refine n_lstore (L2 := [some (2, 112), none, none, some (0, r), some (1, z10), none, some (0, x6)]) c_171_36 rfl rfl (n_iinc (L2 := [some (2, 112), none, none, some (0, r), some (1, z10), none, some (0, (x6 + 1))]) c_171_38 rfl rfl rfl (n_goto c_171_41 (n_fg (le_s (le_n (le_n (le_s (le_s (le_n (le_s le_0))))))) ?_)))
      exact ih _ _ M7 hS7 (by omega) (by omega) (by rw [ez10, v0, Int.ediv_ediv_of_nonneg (by have := pn_pos (d := 2) (by decide) x6.toNat; omega), pn_t (by omega), Int.mul_comm]) (by exact fun q q0 q1 => by rw [eM7, nu_e]; by_cases y : q = x6; (rw [if_pos ⟨rfl, y⟩, y, ez5, v0]; rfl); (rw [if_neg (fun u => y u.2)]; exact v1 q q0 (by omega))) (by exact fun a i ha => by rw [eM7, nu_a ha]; exact v2 a i ha) (by omega)
set_option maxHeartbeats 4000000 in
theorem mlayX_2 {xs : List Int32} {e : Nat} {ac : Int} {M0 M : nM} {c r : Int} {Ms : nM} (hS : Sf 2 ac M0 M) (hdm : M0 112 0 = 2) (hc : 0 ≤ c ∧ c ≤ 20000) (hr : 0 ≤ r ∧ r ≤ 27) (hms : M = Ms) : nW xs e 171 0 [some (2, 112), some (1, c), none, some (0, r), none, none, none] [] M (nPV fun M1 => Sf 2 ac M0 M1 ∧ (HD 2 c r M1) ∧ (FC 127 Ms M1)) := by
  have hd : (2 : Int) = 2 ∨ (2 : Int) = 3 := by decide
  have hac := hS.2.2.2.2
  refine n_lload_n c_171_0 rfl (n_lstore (L2 := [some (2, 112), some (1, c), none, some (0, r), some (1, c), none, none]) c_171_1 rfl rfl (n_iconst c_171_3 (n_istore (L2 := [some (2, 112), some (1, c), none, some (0, r), some (1, c), none, some (0, 0)]) c_171_4 rfl rfl (n_fg (le_s (le_n (le_n (le_s (le_s (le_n (le_s le_0))))))) ?_))))
  exact (mlayX_2_c hS hdm hc hr hms 68) _ _ M hS (by omega) (by omega) (by show c = c / 1; omega) (by exact fun q q0 q1 => by omega) (by exact fun a i _ => by rw [hms]) (by omega)

set_option maxHeartbeats 4000000 in
theorem mhandKeepsX_2_c {xs : List Int32} {e : Nat} {ac : Int} {M0 M : nM} {m k : Int} (hS : Sf 2 ac M0 M) (hdm : M0 112 0 = 2) (hm : 1 ≤ m ∧ m ≤ 3) (hk : 0 ≤ k ∧ k ≤ 4095) (hlp : ∀ l : Int, 0 ≤ l → l < M 112 7 → 1 ≤ M 118 l) : ∀ nn : Nat, (∀ (x3 : Int), (0 ≤ x3 ∧ x3 ≤ 12) → (∀ l : Int, 0 ≤ l → l < x3 → bt k l → KP 2 m (fun i => M 127 i) (M 118 l) (M 119 l)) → (x3 ≤ M 112 7) → (12 - x3) * 1 + 1 < (nn : Int) → nW xs (e + 3) 172 2 [some (2, 112), some (0, m), some (0, k), some (0, x3)] [] M (nPI fun z M1 => M = M1 ∧ (0 ≤ z ∧ z ≤ 1) ∧ (z = bb (KMm 2 m (fun i => M 127 i) k M)))) := by
  have hd : (2 : Int) = 2 ∨ (2 : Int) = 3 := by decide
  have hac := hS.2.2.2.2
  intro nn
  induction nn with
  | zero => intros; omega
  | succ nn ih =>
    intro x3 k3 v0 v1 hnn
    refine n_iload_n c_172_2 rfl (n_aload_n c_172_3 rfl (n_getV (bi := 7) c_172_4 sc_112.n rfl rfl rfl (t_112_7 hS) ?_))
    intro z1 ez1 f2
    refine n_if2_ge c_172_7 (by omega) (by omega) ?_ ?_
    · intro h3
      refine n_iconst c_172_53 ?_
      exact n_rZ c_172_54 rfl (by omega) ⟨rfl, by omega, by exact (bb_t (fun l l0 l1 b => v0 l l0 (by omega) b)).symm⟩
    · intro h4
      refine n_iload_n c_172_10 rfl (n_iload_n c_172_11 rfl (n_i_ishr c_172_12 rfl ?_))
      have f5 := n_shr_r k x3
      generalize gz6 : (n_shr k x3) = z6 at f5 ⊢
      refine n_iconst c_172_13 (n_i_iand c_172_14 rfl ?_)
      have f7 := n_and_y (x := z6) (y := 1) (by omega)
      generalize gz8 : (n_and z6 1) = z8 at f7 ⊢
      have hb14 : z8 = k / 2 ^ (x3).toNat % 2 := by rw [← gz8, ← gz6]; exact ib_v (by omega) (by omega)
      refine n_iconst c_172_15 ?_
      refine n_if2_ne c_172_16 (by omega) (by omega) ?_ ?_
      · intro h9
        refine n_iinc (L2 := [some (2, 112), some (0, m), some (0, k), some (0, (x3 + 1))]) c_172_47 rfl rfl rfl (n_goto c_172_50 (n_fg (le_s (le_s (le_s (le_s le_0)))) ?_))
        exact ih _ (by omega) (by exact fun l l0 l1 b => by by_cases y : l = x3; (rw [y] at b; unfold bt at b; exfalso; omega); exact v0 l l0 (by omega) b) (by have t7 := t_112_7 hS; omega) (by omega)
      · intro h10
        refine n_aload_n c_172_19 rfl (n_iload_n c_172_20 rfl (n_aload_n c_172_21 rfl (n_getR c_172_22 sc_112.n rfl rfl rfl r_112_19 (n_iconst c_172_25 (n_aload_n c_172_26 rfl (n_getR c_172_27 sc_112.n rfl rfl rfl r_112_8 (n_iload_n c_172_30 rfl (n_ialoadV c_172_31 sc_118.n rfl rfl rfl (by omega) (t_118 hS (by omega)) ?_))))))))
        intro z11 ez11 f12
        have hl1 := hlp x3 (by omega) (by omega)
        refine n_aload_n c_172_32 rfl (n_getR c_172_33 sc_112.n rfl rfl rfl r_112_9 (n_iload_n c_172_36 rfl (n_laloadV c_172_37 sc_119.n rfl rfl rfl (by omega) (t_119 hS (by omega)) ?_)))
        intro z13 ez13 f14
        refine n_v5I c_172_38 rfl sc_112.n rfl rfl rfl rfl (escapesXH_2 (m := m) (f := 0) (k := z11) (s := z13) hS hdm (by omega) (by omega) (by omega) (by omega)) ?_
        intro z15 M16 hP17
        obtain ⟨eM, f17, f17p0⟩ := hP17
        subst eM
        have ez := ESC.n f17p0
        rw [show (fun i => M 127 (0 + i)) = fun i => M 127 i from funext fun i => by rw [Int.zero_add], ez11, ez13] at ez
        refine n_iconst c_172_41 ?_
        refine n_if2_eq c_172_42 (by omega) (by omega) ?_ ?_
        · intro h18
          refine n_iinc (L2 := [some (2, 112), some (0, m), some (0, k), some (0, (x3 + 1))]) c_172_47 rfl rfl rfl (n_goto c_172_50 (n_fg (le_s (le_s (le_s (le_s le_0)))) ?_))
          exact ih _ (by omega) (by exact fun l l0 l1 b => by by_cases y : l = x3; (rw [y]; exact bb_n (by split at ez <;> omega)); exact v0 l l0 (by omega) b) (by have t7 := t_112_7 hS; omega) (by omega)
        · intro h19
          refine n_iconst c_172_45 ?_
          exact n_rZ c_172_46 rfl (by omega) ⟨rfl, by omega, by exact (bb_f (fun q => by have y := bb_t (q x3 (by omega) (by omega) (by unfold bt; omega)); rw [y] at ez; split at ez <;> omega)).symm⟩
set_option maxHeartbeats 4000000 in
theorem mhandKeepsX_2 {xs : List Int32} {e : Nat} {ac : Int} {M0 M : nM} {m k : Int} (hS : Sf 2 ac M0 M) (hdm : M0 112 0 = 2) (hm : 1 ≤ m ∧ m ≤ 3) (hk : 0 ≤ k ∧ k ≤ 4095) (hlp : ∀ l : Int, 0 ≤ l → l < M 112 7 → 1 ≤ M 118 l) : nW xs (e + 3) 172 0 [some (2, 112), some (0, m), some (0, k), none] [] M (nPI fun z M1 => M = M1 ∧ (0 ≤ z ∧ z ≤ 1) ∧ (z = bb (KMm 2 m (fun i => M 127 i) k M))) := by
  have hd : (2 : Int) = 2 ∨ (2 : Int) = 3 := by decide
  have hac := hS.2.2.2.2
  refine n_iconst c_172_0 (n_istore_n (L2 := [some (2, 112), some (0, m), some (0, k), some (0, 0)]) c_172_1 rfl rfl (n_fg (le_s (le_s (le_s (le_s le_0)))) ?_))
  exact (mhandKeepsX_2_c hS hdm hm hk hlp 38) _ (by omega) (by exact fun l l0 l1 => by omega) (by have t7 := t_112_7 hS; omega) (by omega)
