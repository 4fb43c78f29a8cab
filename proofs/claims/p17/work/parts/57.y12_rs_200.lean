/-! What the methods tell. -/
set_option maxHeartbeats 4000000 in
theorem powX1_2 {xs : List Int32} {e : Nat} {ac : Int} {M0 M : nM} (hS : Sf 2 ac M0 M)  : nW xs e 12 0 [some (2, 4), some (0, 1), none, none] [] M (nPI fun z M1 => M = M1 ∧ (2 ≤ z ∧ z ≤ 2) ∧ (z = pw 2 1)) := by
  have hd : (2 : Int) = 2 ∨ (2 : Int) = 3 := by decide
  have hac := hS.2.2.2.2
  refine n_iconst c_12_0 (n_istore_n (L2 := [some (2, 4), some (0, 1), some (0, 1), none]) c_12_1 rfl rfl (n_iconst c_12_2 (n_istore_n (L2 := [some (2, 4), some (0, 1), some (0, 1), some (0, 0)]) c_12_3 rfl rfl (n_iload_n c_12_4 rfl (n_iload_n c_12_5 rfl ?_)))))
  refine n_if2_ge c_12_6 (by omega) (by omega) ?_ ?_
  · intro h1
    exfalso; omega
  · intro h2
    refine n_iload_n c_12_9 rfl (n_aload_n c_12_10 rfl (n_getV (bi := 0) c_12_11 sc_4.n rfl rfl rfl (t_4_0 hS) ?_))
    intro z3 ez3 f4
    obtain rfl : z3 = 2 := by omega
    refine n_imul c_12_14 rfl (n_istore_n (L2 := [some (2, 4), some (0, 1), some (0, (1 * 2)), some (0, 0)]) c_12_15 rfl rfl (n_iinc (L2 := [some (2, 4), some (0, 1), some (0, (1 * 2)), some (0, (0 + 1))]) c_12_16 rfl rfl rfl (n_goto c_12_19 (n_iload_n c_12_4 rfl (n_iload_n c_12_5 rfl ?_)))))
    refine n_if2_ge c_12_6 (by omega) (by omega) ?_ ?_
    · intro h5
      refine n_iload_n c_12_22 rfl ?_
      exact n_rI c_12_23 rfl ⟨rfl, by omega, by rfl⟩
    · intro h6
      exfalso; omega

set_option maxHeartbeats 4000000 in
theorem powX2_2 {xs : List Int32} {e : Nat} {ac : Int} {M0 M : nM} (hS : Sf 2 ac M0 M)  : nW xs e 12 0 [some (2, 4), some (0, 2), none, none] [] M (nPI fun z M1 => M = M1 ∧ (4 ≤ z ∧ z ≤ 4) ∧ (z = pw 2 2)) := by
  have hd : (2 : Int) = 2 ∨ (2 : Int) = 3 := by decide
  have hac := hS.2.2.2.2
  refine n_iconst c_12_0 (n_istore_n (L2 := [some (2, 4), some (0, 2), some (0, 1), none]) c_12_1 rfl rfl (n_iconst c_12_2 (n_istore_n (L2 := [some (2, 4), some (0, 2), some (0, 1), some (0, 0)]) c_12_3 rfl rfl (n_iload_n c_12_4 rfl (n_iload_n c_12_5 rfl ?_)))))
  refine n_if2_ge c_12_6 (by omega) (by omega) ?_ ?_
  · intro h1
    exfalso; omega
  · intro h2
    refine n_iload_n c_12_9 rfl (n_aload_n c_12_10 rfl (n_getV (bi := 0) c_12_11 sc_4.n rfl rfl rfl (t_4_0 hS) ?_))
    intro z3 ez3 f4
    obtain rfl : z3 = 2 := by omega
    refine n_imul c_12_14 rfl (n_istore_n (L2 := [some (2, 4), some (0, 2), some (0, (1 * 2)), some (0, 0)]) c_12_15 rfl rfl (n_iinc (L2 := [some (2, 4), some (0, 2), some (0, (1 * 2)), some (0, (0 + 1))]) c_12_16 rfl rfl rfl (n_goto c_12_19 (n_iload_n c_12_4 rfl (n_iload_n c_12_5 rfl ?_)))))
    refine n_if2_ge c_12_6 (by omega) (by omega) ?_ ?_
    · intro h5
      exfalso; omega
    · intro h6
      refine n_iload_n c_12_9 rfl (n_aload_n c_12_10 rfl (n_getV (bi := 0) c_12_11 sc_4.n rfl rfl rfl (t_4_0 hS) ?_))
      intro z7 ez7 f8
      obtain rfl : z7 = 2 := by omega
      refine n_imul c_12_14 rfl (n_istore_n (L2 := [some (2, 4), some (0, 2), some (0, ((1 * 2) * 2)), some (0, (0 + 1))]) c_12_15 rfl rfl (n_iinc (L2 := [some (2, 4), some (0, 2), some (0, ((1 * 2) * 2)), some (0, ((0 + 1) + 1))]) c_12_16 rfl rfl rfl (n_goto c_12_19 (n_iload_n c_12_4 rfl (n_iload_n c_12_5 rfl ?_)))))
      refine n_if2_ge c_12_6 (by omega) (by omega) ?_ ?_
      · intro h9
        refine n_iload_n c_12_22 rfl ?_
        exact n_rI c_12_23 rfl ⟨rfl, by omega, by rfl⟩
      · intro h10
        exfalso; omega

set_option maxHeartbeats 4000000 in
theorem powX3_2 {xs : List Int32} {e : Nat} {ac : Int} {M0 M : nM} (hS : Sf 2 ac M0 M)  : nW xs e 12 0 [some (2, 4), some (0, 3), none, none] [] M (nPI fun z M1 => M = M1 ∧ (8 ≤ z ∧ z ≤ 8) ∧ (z = pw 2 3)) := by
  have hd : (2 : Int) = 2 ∨ (2 : Int) = 3 := by decide
  have hac := hS.2.2.2.2
  refine n_iconst c_12_0 (n_istore_n (L2 := [some (2, 4), some (0, 3), some (0, 1), none]) c_12_1 rfl rfl (n_iconst c_12_2 (n_istore_n (L2 := [some (2, 4), some (0, 3), some (0, 1), some (0, 0)]) c_12_3 rfl rfl (n_iload_n c_12_4 rfl (n_iload_n c_12_5 rfl ?_)))))
  refine n_if2_ge c_12_6 (by omega) (by omega) ?_ ?_
  · intro h1
    exfalso; omega
  · intro h2
    refine n_iload_n c_12_9 rfl (n_aload_n c_12_10 rfl (n_getV (bi := 0) c_12_11 sc_4.n rfl rfl rfl (t_4_0 hS) ?_))
    intro z3 ez3 f4
    obtain rfl : z3 = 2 := by omega
    refine n_imul c_12_14 rfl (n_istore_n (L2 := [some (2, 4), some (0, 3), some (0, (1 * 2)), some (0, 0)]) c_12_15 rfl rfl (n_iinc (L2 := [some (2, 4), some (0, 3), some (0, (1 * 2)), some (0, (0 + 1))]) c_12_16 rfl rfl rfl (n_goto c_12_19 (n_iload_n c_12_4 rfl (n_iload_n c_12_5 rfl ?_)))))
    refine n_if2_ge c_12_6 (by omega) (by omega) ?_ ?_
    · intro h5
      exfalso; omega
    · intro h6
      refine n_iload_n c_12_9 rfl (n_aload_n c_12_10 rfl (n_getV (bi := 0) c_12_11 sc_4.n rfl rfl rfl (t_4_0 hS) ?_))
      intro z7 ez7 f8
      obtain rfl : z7 = 2 := by omega
      refine n_imul c_12_14 rfl (n_istore_n (L2 := [some (2, 4), some (0, 3), some (0, ((1 * 2) * 2)), some (0, (0 + 1))]) c_12_15 rfl rfl (n_iinc (L2 := [some (2, 4), some (0, 3), some (0, ((1 * 2) * 2)), some (0, ((0 + 1) + 1))]) c_12_16 rfl rfl rfl (n_goto c_12_19 (n_iload_n c_12_4 rfl (n_iload_n c_12_5 rfl ?_)))))
      refine n_if2_ge c_12_6 (by omega) (by omega) ?_ ?_
      · intro h9
        exfalso; omega
      · intro h10
        refine n_iload_n c_12_9 rfl (n_aload_n c_12_10 rfl (n_getV (bi := 0) c_12_11 sc_4.n rfl rfl rfl (t_4_0 hS) ?_))
        intro z11 ez11 f12
        obtain rfl : z11 = 2 := by omega
        refine n_imul c_12_14 rfl (n_istore_n (L2 := [some (2, 4), some (0, 3), some (0, (((1 * 2) * 2) * 2)), some (0, ((0 + 1) + 1))]) c_12_15 rfl rfl (n_iinc (L2 := [some (2, 4), some (0, 3), some (0, (((1 * 2) * 2) * 2)), some (0, (((0 + 1) + 1) + 1))]) c_12_16 rfl rfl rfl (n_goto c_12_19 (n_iload_n c_12_4 rfl (n_iload_n c_12_5 rfl ?_)))))
        refine n_if2_ge c_12_6 (by omega) (by omega) ?_ ?_
        · intro h13
          refine n_iload_n c_12_22 rfl ?_
          exact n_rI c_12_23 rfl ⟨rfl, by omega, by rfl⟩
        · intro h14
          exfalso; omega

set_option maxHeartbeats 4000000 in
theorem powX_2 {xs : List Int32} {e : Nat} {ac : Int} {M0 M : nM} {n : Int} (hS : Sf 2 ac M0 M) (hn : 1 ≤ n ∧ n ≤ 3) : nW xs e 12 0 [some (2, 4), some (0, n), none, none] [] M (nPI fun z M1 => M = M1 ∧ (2 ≤ z ∧ z ≤ 8) ∧ (z = pw 2 n)) := by
  rcases (show n = 1 ∨ n = 2 ∨ n = 3 by omega) with rfl | rfl | rfl
  · exact n_post (powX1_2 hS ) (fun w M1 h => by obtain ⟨z, rfl, h1, h2, h3⟩ := h; exact ⟨z, rfl, h1, by omega, h3⟩)
  · exact n_post (powX2_2 hS ) (fun w M1 h => by obtain ⟨z, rfl, h1, h2, h3⟩ := h; exact ⟨z, rfl, h1, by omega, h3⟩)
  · exact n_post (powX3_2 hS ) (fun w M1 h => by obtain ⟨z, rfl, h1, h2, h3⟩ := h; exact ⟨z, rfl, h1, by omega, h3⟩)

set_option maxHeartbeats 4000000 in
theorem variableAtX5_2 {xs : List Int32} {e : Nat} {ac : Int} {M0 M : nM} {i j k : Int} (hS : Sf 2 ac M0 M) (hi : 0 ≤ i ∧ i ≤ 7) (hj : 0 ≤ j ∧ j ≤ 7) (hk : 0 ≤ k ∧ k ≤ 7) (h5 : M 44 5 = 2) : nW xs e 24 0 [some (2, 44), some (2, 5), some (0, i), some (0, j), some (0, k)] [] M (nPI fun z M1 => M = M1 ∧ (0 ≤ z ∧ z ≤ 8) ∧ (z = M 45 ((i / (2 * 2) * 2 + j / (2 * 2)) * 2 + k / (2 * 2)))) := by
  have hd : (2 : Int) = 2 ∨ (2 : Int) = 3 := by decide
  have hac := hS.2.2.2.2
  refine n_aload_n c_24_0 rfl (n_getR c_24_1 sc_44.n rfl rfl rfl r_44_4 (n_aload_n c_24_4 rfl (n_iload_n c_24_5 rfl (n_ialoadV c_24_6 sc_5.n rfl rfl rfl (by omega) (t_5d hS hd (by omega) (by omega)) ?_))))
  intro z1 ez1 f2
  have w6 : z1 = i / (2 * 2) := by rw [ez1]; exact t_5e hS (by omega) (by omega)
  refine n_aload_n c_24_7 rfl (n_getV (bi := 5) c_24_8 sc_44.n rfl rfl rfl (t_44_5 hS) ?_)
  intro z3 ez3 f4
  obtain rfl : z3 = 2 := by omega
  refine n_imul c_24_11 rfl (n_aload_n c_24_12 rfl (n_iload_n c_24_13 rfl (n_ialoadV c_24_14 sc_5.n rfl rfl rfl (by omega) (t_5d hS hd (by omega) (by omega)) ?_)))
  intro z5 ez5 f6
  have w14 : z5 = j / (2 * 2) := by rw [ez5]; exact t_5e hS (by omega) (by omega)
  refine n_iadd c_24_15 rfl (n_aload_n c_24_16 rfl (n_getV (bi := 5) c_24_17 sc_44.n rfl rfl rfl (t_44_5 hS) ?_))
  intro z7 ez7 f8
  obtain rfl : z7 = 2 := by omega
  refine n_imul c_24_20 rfl (n_aload_n c_24_21 rfl (n_iload c_24_22 rfl (n_ialoadV c_24_24 sc_5.n rfl rfl rfl (by omega) (t_5d hS hd (by omega) (by omega)) ?_)))
  intro z9 ez9 f10
  have w24 : z9 = k / (2 * 2) := by rw [ez9]; exact t_5e hS (by omega) (by omega)
  refine n_iadd c_24_25 rfl (n_ialoadV c_24_26 sc_45.n rfl rfl rfl (by omega) (t_45 hS (by omega)) ?_)
  intro z11 ez11 f12
  exact n_rI c_24_27 rfl ⟨rfl, by omega, by rw [ez11, w6, w14, w24]⟩

set_option maxHeartbeats 4000000 in
theorem variableAtX6_2 {xs : List Int32} {e : Nat} {ac : Int} {M0 M : nM} {i j k : Int} (hS : Sf 2 ac M0 M) (hi : 0 ≤ i ∧ i ≤ 7) (hj : 0 ≤ j ∧ j ≤ 7) (hk : 0 ≤ k ∧ k ≤ 7) (h5 : M 44 5 = 2) : nW xs e 24 0 [some (2, 44), some (2, 6), some (0, i), some (0, j), some (0, k)] [] M (nPI fun z M1 => M = M1 ∧ (0 ≤ z ∧ z ≤ 8) ∧ (z = M 45 ((i / 2 % 2 * 2 + j / 2 % 2) * 2 + k / 2 % 2))) := by
  have hd : (2 : Int) = 2 ∨ (2 : Int) = 3 := by decide
  have hac := hS.2.2.2.2
  refine n_aload_n c_24_0 rfl (n_getR c_24_1 sc_44.n rfl rfl rfl r_44_4 (n_aload_n c_24_4 rfl (n_iload_n c_24_5 rfl (n_ialoadV c_24_6 sc_6.n rfl rfl rfl (by omega) (t_6d hS hd (by omega) (by omega)) ?_))))
  intro z1 ez1 f2
  have w6 : z1 = i / 2 % 2 := by rw [ez1]; exact t_6e hS (by omega) (by omega)
  refine n_aload_n c_24_7 rfl (n_getV (bi := 5) c_24_8 sc_44.n rfl rfl rfl (t_44_5 hS) ?_)
  intro z3 ez3 f4
  obtain rfl : z3 = 2 := by omega
  refine n_imul c_24_11 rfl (n_aload_n c_24_12 rfl (n_iload_n c_24_13 rfl (n_ialoadV c_24_14 sc_6.n rfl rfl rfl (by omega) (t_6d hS hd (by omega) (by omega)) ?_)))
  intro z5 ez5 f6
  have w14 : z5 = j / 2 % 2 := by rw [ez5]; exact t_6e hS (by omega) (by omega)
  refine n_iadd c_24_15 rfl (n_aload_n c_24_16 rfl (n_getV (bi := 5) c_24_17 sc_44.n rfl rfl rfl (t_44_5 hS) ?_))
  intro z7 ez7 f8
  obtain rfl : z7 = 2 := by omega
  refine n_imul c_24_20 rfl (n_aload_n c_24_21 rfl (n_iload c_24_22 rfl (n_ialoadV c_24_24 sc_6.n rfl rfl rfl (by omega) (t_6d hS hd (by omega) (by omega)) ?_)))
  intro z9 ez9 f10
  have w24 : z9 = k / 2 % 2 := by rw [ez9]; exact t_6e hS (by omega) (by omega)
  refine n_iadd c_24_25 rfl (n_ialoadV c_24_26 sc_45.n rfl rfl rfl (by omega) (t_45 hS (by omega)) ?_)
  intro z11 ez11 f12
  exact n_rI c_24_27 rfl ⟨rfl, by omega, by rw [ez11, w6, w14, w24]⟩

set_option maxHeartbeats 4000000 in
theorem variableAtX7_2 {xs : List Int32} {e : Nat} {ac : Int} {M0 M : nM} {i j k : Int} (hS : Sf 2 ac M0 M) (hi : 0 ≤ i ∧ i ≤ 7) (hj : 0 ≤ j ∧ j ≤ 7) (hk : 0 ≤ k ∧ k ≤ 7) (h5 : M 44 5 = 2) : nW xs e 24 0 [some (2, 44), some (2, 7), some (0, i), some (0, j), some (0, k)] [] M (nPI fun z M1 => M = M1 ∧ (0 ≤ z ∧ z ≤ 8) ∧ (z = M 45 ((i % 2 * 2 + j % 2) * 2 + k % 2))) := by
  have hd : (2 : Int) = 2 ∨ (2 : Int) = 3 := by decide
  have hac := hS.2.2.2.2
  refine n_aload_n c_24_0 rfl (n_getR c_24_1 sc_44.n rfl rfl rfl r_44_4 (n_aload_n c_24_4 rfl (n_iload_n c_24_5 rfl (n_ialoadV c_24_6 sc_7.n rfl rfl rfl (by omega) (t_7d hS hd (by omega) (by omega)) ?_))))
  intro z1 ez1 f2
  have w6 : z1 = i % 2 := by rw [ez1]; exact t_7e hS (by omega) (by omega)
  refine n_aload_n c_24_7 rfl (n_getV (bi := 5) c_24_8 sc_44.n rfl rfl rfl (t_44_5 hS) ?_)
  intro z3 ez3 f4
  obtain rfl : z3 = 2 := by omega
  refine n_imul c_24_11 rfl (n_aload_n c_24_12 rfl (n_iload_n c_24_13 rfl (n_ialoadV c_24_14 sc_7.n rfl rfl rfl (by omega) (t_7d hS hd (by omega) (by omega)) ?_)))
  intro z5 ez5 f6
  have w14 : z5 = j % 2 := by rw [ez5]; exact t_7e hS (by omega) (by omega)
  refine n_iadd c_24_15 rfl (n_aload_n c_24_16 rfl (n_getV (bi := 5) c_24_17 sc_44.n rfl rfl rfl (t_44_5 hS) ?_))
  intro z7 ez7 f8
  obtain rfl : z7 = 2 := by omega
  refine n_imul c_24_20 rfl (n_aload_n c_24_21 rfl (n_iload c_24_22 rfl (n_ialoadV c_24_24 sc_7.n rfl rfl rfl (by omega) (t_7d hS hd (by omega) (by omega)) ?_)))
  intro z9 ez9 f10
  have w24 : z9 = k % 2 := by rw [ez9]; exact t_7e hS (by omega) (by omega)
  refine n_iadd c_24_25 rfl (n_ialoadV c_24_26 sc_45.n rfl rfl rfl (by omega) (t_45 hS (by omega)) ?_)
  intro z11 ez11 f12
  exact n_rI c_24_27 rfl ⟨rfl, by omega, by rw [ez11, w6, w14, w24]⟩

set_option maxHeartbeats 4000000 in
theorem hasAllX_2 {xs : List Int32} {e : Nat} {ac : Int} {M0 M : nM} {w : Int} (hS : Sf 2 ac M0 M) (hw : LawAt w) (hk : 1 ≤ M w 0 ∧ M w 0 ≤ 3) : nW xs (e + 1) 37 0 [some (2, w), some (2, 4)] [] M (nPI fun z M1 => M = M1 ∧ (0 ≤ z ∧ z ≤ 1) ∧ (z = bb (M w 3 = pw 2 (M w 0)))) := by
  have hd : (2 : Int) = 2 ∨ (2 : Int) = 3 := by decide
  have hac := hS.2.2.2.2
  refine n_aload_n c_37_0 rfl (n_getV (bi := 3) c_37_1 hw.c0.1.n rfl rfl rfl (t_law hS hw).2.2.2 ?_)
  intro z1 ez1 f2
  refine n_aload_n c_37_4 rfl (n_aload_n c_37_5 rfl (n_getV (bi := 0) c_37_6 hw.c0.1.n rfl rfl rfl (t_law hS hw).1 ?_))
  intro z3 ez3 f4
  refine n_v1I c_37_9 rfl sc_4.n rfl rfl rfl rfl (powX_2 (n := z3) hS (by omega)) ?_
  intro z5 M6 hP7
  obtain ⟨eM, f7, f7p0⟩ := hP7
  subst eM
  have ep : z5 = pw 2 (M w 0) := by rw [f7p0, ez3]
  refine n_if2_ne c_37_12 (by omega) (by omega) ?_ ?_
  · intro h8
    refine n_iconst c_37_19 ?_
    exact n_rZ c_37_20 rfl (by omega) ⟨rfl, by omega, by exact (bb_f (by omega)).symm⟩
  · intro h9
    refine n_iconst c_37_15 (n_goto c_37_16 ?_)
    exact n_rZ c_37_20 rfl (by omega) ⟨rfl, by omega, by exact (bb_t (by omega)).symm⟩

set_option maxHeartbeats 4000000 in
theorem restrainX_2_c {xs : List Int32} {e : Nat} {ac : Int} {M0 M : nM} {w : Int} {Ms : nM} {V : Int} (hS : Sf 2 ac M0 M) (hw : LawAt w) (hms : M = Ms) (hL : LawOk 2 w Ms) (hF : FMk 2 (Ms 44 0) V (fun x => Ms 45 x)) (hV : V ≤ 9) (hA : Aok (fun i => Ms 40 i)) (h45 : Ms 44 5 = 2) : ∀ nn : Nat, (∀ (x4 x5 x6 : Int) (M : nM), Sf 2 ac M0 M → (0 ≤ x4 ∧ x4 ≤ 27) → (0 ≤ x5 ∧ x5 ≤ 27) → (0 ≤ x6 ∧ x6 ≤ 27) → (FC 40 Ms M) → (x4 = tf (Ms 44 0) 3 (Ms w 3)) → (x5 = tf (Ms 44 0) 2 (Ms w 3)) → (RP 2 (Ms 44 0) V (fun x => Ms 45 x) (Ms w 2) (Ms w 3) (fun i => Ms (w + 1) i) (fun i => Ms 40 i) (fun i => M 40 i) x6 0 0) → (x6 ≤ x4) → (27 - x6) * 871 + 871 < (nn : Int) → nW xs (e + 2) 66 34 [some (2, 38), some (2, 44), some (2, w), some (2, 4), some (0, x4), some (0, x5), some (0, x6), none, none, none, none, none] [] M (nPV fun M1 => Sf 2 ac M0 M1 ∧ (RSL 2 V w Ms M1))) ∧ (∀ (x4 x5 x6 x7 : Int) (M : nM), Sf 2 ac M0 M → (1 ≤ x4 ∧ x4 ≤ 27) → (0 ≤ x5 ∧ x5 ≤ 27) → (0 ≤ x6 ∧ x6 ≤ 26) → (0 ≤ x7 ∧ x7 ≤ 27) → (FC 40 Ms M) → (x4 = tf (Ms 44 0) 3 (Ms w 3)) → (x5 = tf (Ms 44 0) 2 (Ms w 3)) → (x6 < x4) → (RP 2 (Ms 44 0) V (fun x => Ms 45 x) (Ms w 2) (Ms w 3) (fun i => Ms (w + 1) i) (fun i => Ms 40 i) (fun i => M 40 i) x6 x7 0) → (x7 ≤ x5) → (27 - x6) * 871 + (27 - x7) * 30 + 30 < (nn : Int) → nW xs (e + 2) 66 44 [some (2, 38), some (2, 44), some (2, w), some (2, 4), some (0, x4), some (0, x5), some (0, x6), some (0, x7), none, none, none, none] [] M (nPV fun M1 => Sf 2 ac M0 M1 ∧ (RSL 2 V w Ms M1))) ∧ (∀ (x4 x5 x6 x7 x8 : Int) (M : nM), Sf 2 ac M0 M → (1 ≤ x4 ∧ x4 ≤ 27) → (1 ≤ x5 ∧ x5 ≤ 27) → (0 ≤ x6 ∧ x6 ≤ 26) → (0 ≤ x7 ∧ x7 ≤ 26) → (0 ≤ x8 ∧ x8 ≤ 27) → (FC 40 Ms M) → (x4 = tf (Ms 44 0) 3 (Ms w 3)) → (x5 = tf (Ms 44 0) 2 (Ms w 3)) → (x6 < x4) → (x7 < x5) → (x8 ≤ Ms w 3) → (RP 2 (Ms 44 0) V (fun x => Ms 45 x) (Ms w 2) (Ms w 3) (fun i => Ms (w + 1) i) (fun i => Ms 40 i) (fun i => M 40 i) x6 x7 x8) → (27 - x6) * 871 + (27 - x7) * 30 + (27 - x8) * 1 + 1 < (nn : Int) → nW xs (e + 2) 66 54 [some (2, 38), some (2, 44), some (2, w), some (2, 4), some (0, x4), some (0, x5), some (0, x6), some (0, x7), some (0, x8), none, none, none] [] M (nPV fun M1 => Sf 2 ac M0 M1 ∧ (RSL 2 V w Ms M1))) := by
  have hd : (2 : Int) = 2 ∨ (2 : Int) = 3 := by decide
  have hac := hS.2.2.2.2
  have hS0 := hS
  have hwb : w = 50 ∨ (79 ≤ w ∧ w ≤ 101) := by unfold LawAt at hw; omega
  have h45m : M 44 5 = 2 := by rw [hms]; exact h45
  have hkm : 1 ≤ M w 0 ∧ M w 0 ≤ 3 := by rw [hms]; exact hL.1
  have hr : ∀ j : Int, 0 ≤ j → j < Ms w 3 → Ms (w + 1) j < 8 := fun j h0 h1 => by obtain ⟨_, _, _, _, u⟩ := LRn.row (by decide) hL.1 hL.2 h0 h1; exact u
  intro nn
  induction nn with
  | zero => refine ⟨?_, ?_, ?_⟩ <;> (intros; omega)
  | succ nn ih =>
    refine ⟨?_, ?_, ?_⟩
    · intro x4 x5 x6 M hS k4 k5 k6 v0 v1 v2 v3 v4 hnn
      refine n_iload c_66_34 rfl (n_iload c_66_36 rfl ?_)
      refine n_if2_ge c_66_38 (by omega) (by omega) ?_ ?_
      · intro h1
        exact n_rV c_66_188 rfl ⟨hS, by exact RSL.mk (by decide) hF hL v3 (by omega) v0⟩
      · intro h2
        refine n_iconst c_66_41 (n_istore (L2 := [some (2, 38), some (2, 44), some (2, w), some (2, 4), some (0, x4), some (0, x5), some (0, x6), some (0, 0), none, none, none, none]) c_66_42 rfl rfl (n_fg (le_s (le_s (le_s (le_s (le_s (le_s (le_s (le_s (le_n (le_n (le_n (le_n le_0)))))))))))) ?_))
        exact ih.2.1 _ _ _ _ M hS (by omega) (by omega) (by omega) (by omega) (by exact v0) (by exact v1) (by exact v2) (by omega) (by exact v3) (by omega) (by omega)
    · intro x4 x5 x6 x7 M hS k4 k5 k6 k7 v0 v1 v2 v3 v4 v5 hnn
      refine n_iload c_66_44 rfl (n_iload c_66_46 rfl ?_)
      refine n_if2_ge c_66_48 (by omega) (by omega) ?_ ?_
      · intro h1
        refine n_iinc (L2 := [some (2, 38), some (2, 44), some (2, w), some (2, 4), some (0, x4), some (0, x5), some (0, (x6 + 1)), some (0, x7), none, none, none, none]) c_66_182 rfl rfl rfl (n_goto c_66_185 (n_fg (le_s (le_s (le_s (le_s (le_s (le_s (le_s (le_n (le_n (le_n (le_n (le_n le_0)))))))))))) ?_))
        exact ih.1 _ _ _ M hS (by omega) (by omega) (by omega) (by exact v0) (by exact v1) (by exact v2) (by exact RP.goi v4 (by omega) (by omega)) (by omega) (by omega)
      · intro h2
        refine n_iconst c_66_51 (n_istore (L2 := [some (2, 38), some (2, 44), some (2, w), some (2, 4), some (0, x4), some (0, x5), some (0, x6), some (0, x7), some (0, 0), none, none, none]) c_66_52 rfl rfl (n_fg (le_s (le_s (le_s (le_s (le_s (le_s (le_s (le_s (le_s (le_n (le_n (le_n le_0)))))))))))) ?_))
        exact ih.2.2 _ _ _ _ _ M hS (by omega) (by omega) (by omega) (by omega) (by omega) (by exact v0) (by exact v1) (by exact v2) (by omega) (by omega) (by have y := (t_law (hms ▸ hS0) hw); omega) (by exact v4) (by omega)
    · intro x4 x5 x6 x7 x8 M hS k4 k5 k6 k7 k8 v0 v1 v2 v3 v4 v5 v6 hnn
      have h45n : M 44 5 = 2 := by rw [v0 44 5 (by omega)]; exact h45
      refine n_iload c_66_54 rfl (n_aload_n c_66_56 rfl (n_getV (bi := 3) c_66_57 hw.c0.1.n rfl rfl rfl (t_law hS hw).2.2.2 ?_))
      intro z1 ez1 f2
      refine n_if2_ge c_66_60 (by omega) (by omega) ?_ ?_
      · intro h3
        refine n_iinc (L2 := [some (2, 38), some (2, 44), some (2, w), some (2, 4), some (0, x4), some (0, x5), some (0, x6), some (0, (x7 + 1)), some (0, x8), none, none, none]) c_66_176 rfl rfl rfl (n_goto c_66_179 (n_fg (le_s (le_s (le_s (le_s (le_s (le_s (le_s (le_s (le_n (le_n (le_n (le_n le_0)))))))))))) ?_))
        exact ih.2.1 _ _ _ _ M hS (by omega) (by omega) (by omega) (by omega) (by exact v0) (by exact v1) (by exact v2) (by omega) (by exact RP.goj v6 (by have y := v0 w 3 (by omega); omega) (by omega)) (by omega) (by omega)
      · intro h4
        refine n_aload_n c_66_63 rfl (n_aload_n c_66_64 rfl (n_getR c_66_65 sc_4.n rfl rfl rfl r_4_2 (n_aload_n c_66_68 rfl (n_getR c_66_69 hw.c0.1.n rfl rfl rfl hw.r (n_iload c_66_72 rfl (n_ialoadV c_66_74 hw.c0.2.n rfl rfl rfl (by omega) (t_lawr hS hw (by omega)) ?_))))))
        intro z5 ez5 f6
        have u74 : z5 = Ms (w + 1) x6 := by rw [ez5]; exact v0 (w + 1) x6 (by omega)
        have l74 := hr x6 (by omega) (tf_le (show x6 < tf (Ms 44 0) 3 (Ms w 3) by omega))
        refine n_aload_n c_66_75 rfl (n_getR c_66_76 hw.c0.1.n rfl rfl rfl hw.r (n_iload c_66_79 rfl (n_ialoadV c_66_81 hw.c0.2.n rfl rfl rfl (by omega) (t_lawr hS hw (by omega)) ?_)))
        intro z7 ez7 f8
        have u81 : z7 = Ms (w + 1) x7 := by rw [ez7]; exact v0 (w + 1) x7 (by omega)
        have l81 := hr x7 (by omega) (tf_le (show x7 < tf (Ms 44 0) 2 (Ms w 3) by omega))
        refine n_aload_n c_66_82 rfl (n_getR c_66_83 hw.c0.1.n rfl rfl rfl hw.r (n_iload c_66_86 rfl (n_ialoadV c_66_88 hw.c0.2.n rfl rfl rfl (by omega) (t_lawr hS hw (by omega)) ?_)))
        intro z9 ez9 f10
        have u88 : z9 = Ms (w + 1) x8 := by rw [ez9]; exact v0 (w + 1) x8 (by omega)
        have l88 := hr x8 (by omega) (by have y := v0 w 3 (by omega); omega)
        refine n_v4I c_66_89 rfl sc_44.n rfl rfl rfl rfl (variableAtX5_2 (i := z5) (j := z7) (k := z9) hS (by omega) (by omega) (by omega) (by omega)) ?_
        intro z11 M12 hP13
        obtain ⟨eM, f13, f13p0⟩ := hP13
        subst eM
        have k89 : z11 = Ms 45 ((Ms (w + 1) x6 / (2 * 2) * 2 + Ms (w + 1) x7 / (2 * 2)) * 2 + Ms (w + 1) x8 / (2 * 2)) := by rw [f13p0, u74, u81, u88]; exact v0 45 _ (by omega)
        have b89 : 0 ≤ z11 ∧ z11 < V := by rw [k89]; exact hF.r (by decide) (by omega)
        refine n_istore (L2 := [some (2, 38), some (2, 44), some (2, w), some (2, 4), some (0, x4), some (0, x5), some (0, x6), some (0, x7), some (0, x8), some (0, z11), none, none]) c_66_92 rfl rfl (n_aload_n c_66_94 rfl (n_aload_n c_66_95 rfl (n_getR c_66_96 sc_4.n rfl rfl rfl r_4_3 (n_aload_n c_66_99 rfl (n_getR c_66_100 hw.c0.1.n rfl rfl rfl hw.r (n_iload c_66_103 rfl (n_ialoadV c_66_105 hw.c0.2.n rfl rfl rfl (by omega) (t_lawr hS hw (by omega)) ?_)))))))
        intro z14 ez14 f15
        have u105 : z14 = Ms (w + 1) x6 := by rw [ez14]; exact v0 (w + 1) x6 (by omega)
        have l105 := hr x6 (by omega) (tf_le (show x6 < tf (Ms 44 0) 3 (Ms w 3) by omega))
        refine n_aload_n c_66_106 rfl (n_getR c_66_107 hw.c0.1.n rfl rfl rfl hw.r (n_iload c_66_110 rfl (n_ialoadV c_66_112 hw.c0.2.n rfl rfl rfl (by omega) (t_lawr hS hw (by omega)) ?_)))
        intro z16 ez16 f17
        have u112 : z16 = Ms (w + 1) x7 := by rw [ez16]; exact v0 (w + 1) x7 (by omega)
        have l112 := hr x7 (by omega) (tf_le (show x7 < tf (Ms 44 0) 2 (Ms w 3) by omega))
        refine n_aload_n c_66_113 rfl (n_getR c_66_114 hw.c0.1.n rfl rfl rfl hw.r (n_iload c_66_117 rfl (n_ialoadV c_66_119 hw.c0.2.n rfl rfl rfl (by omega) (t_lawr hS hw (by omega)) ?_)))
        intro z18 ez18 f19
        have u119 : z18 = Ms (w + 1) x8 := by rw [ez18]; exact v0 (w + 1) x8 (by omega)
        have l119 := hr x8 (by omega) (by have y := v0 w 3 (by omega); omega)
        refine n_v4I c_66_120 rfl sc_44.n rfl rfl rfl rfl (variableAtX6_2 (i := z14) (j := z16) (k := z18) hS (by omega) (by omega) (by omega) (by omega)) ?_
        intro z20 M21 hP22
        obtain ⟨eM, f22, f22p0⟩ := hP22
        subst eM
        have k120 : z20 = Ms 45 ((Ms (w + 1) x6 / 2 % 2 * 2 + Ms (w + 1) x7 / 2 % 2) * 2 + Ms (w + 1) x8 / 2 % 2) := by rw [f22p0, u105, u112, u119]; exact v0 45 _ (by omega)
        have b120 : 0 ≤ z20 ∧ z20 < V := by rw [k120]; exact hF.r (by decide) (by omega)
        refine n_istore (L2 := [some (2, 38), some (2, 44), some (2, w), some (2, 4), some (0, x4), some (0, x5), some (0, x6), some (0, x7), some (0, x8), some (0, z11), some (0, z20), none]) c_66_123 rfl rfl (n_aload_n c_66_125 rfl (n_aload_n c_66_126 rfl (n_getR c_66_127 sc_4.n rfl rfl rfl r_4_4 (n_aload_n c_66_130 rfl (n_getR c_66_131 hw.c0.1.n rfl rfl rfl hw.r (n_iload c_66_134 rfl (n_ialoadV c_66_136 hw.c0.2.n rfl rfl rfl (by omega) (t_lawr hS hw (by omega)) ?_)))))))
        intro z23 ez23 f24
        have u136 : z23 = Ms (w + 1) x6 := by rw [ez23]; exact v0 (w + 1) x6 (by omega)
        have l136 := hr x6 (by omega) (tf_le (show x6 < tf (Ms 44 0) 3 (Ms w 3) by omega))
        refine n_aload_n c_66_137 rfl (n_getR c_66_138 hw.c0.1.n rfl rfl rfl hw.r (n_iload c_66_141 rfl (n_ialoadV c_66_143 hw.c0.2.n rfl rfl rfl (by omega) (t_lawr hS hw (by omega)) ?_)))
        intro z25 ez25 f26
        have u143 : z25 = Ms (w + 1) x7 := by rw [ez25]; exact v0 (w + 1) x7 (by omega)
        have l143 := hr x7 (by omega) (tf_le (show x7 < tf (Ms 44 0) 2 (Ms w 3) by omega))
        refine n_aload_n c_66_144 rfl (n_getR c_66_145 hw.c0.1.n rfl rfl rfl hw.r (n_iload c_66_148 rfl (n_ialoadV c_66_150 hw.c0.2.n rfl rfl rfl (by omega) (t_lawr hS hw (by omega)) ?_)))
        intro z27 ez27 f28
        have u150 : z27 = Ms (w + 1) x8 := by rw [ez27]; exact v0 (w + 1) x8 (by omega)
        have l150 := hr x8 (by omega) (by have y := v0 w 3 (by omega); omega)
        refine n_v4I c_66_151 rfl sc_44.n rfl rfl rfl rfl (variableAtX7_2 (i := z23) (j := z25) (k := z27) hS (by omega) (by omega) (by omega) (by omega)) ?_
        intro z29 M30 hP31
        obtain ⟨eM, f31, f31p0⟩ := hP31
        subst eM
        have k151 : z29 = Ms 45 ((Ms (w + 1) x6 % 2 * 2 + Ms (w + 1) x7 % 2) * 2 + Ms (w + 1) x8 % 2) := by rw [f31p0, u136, u143, u150]; exact v0 45 _ (by omega)
        have b151 : 0 ≤ z29 ∧ z29 < V := by rw [k151]; exact hF.r (by decide) (by omega)
        refine n_istore (L2 := [some (2, 38), some (2, 44), some (2, w), some (2, 4), some (0, x4), some (0, x5), some (0, x6), some (0, x7), some (0, x8), some (0, z11), some (0, z20), some (0, z29)]) c_66_154 rfl rfl (n_aload_n c_66_156 rfl (n_iload c_66_157 rfl (n_iload c_66_159 rfl (n_iload c_66_161 rfl (n_aload_n c_66_163 rfl (n_getV (bi := 2) c_66_164 hw.c0.1.n rfl rfl rfl (t_law hS hw).2.2.1 ?_))))))
        intro z32 ez32 f33
        refine n_v4V c_66_167 rfl sc_38.n rfl rfl rfl rfl (limitX_2 (p := z11) (q := z20) (r := z29) (w := z32) hS (by omega) (by omega) (by omega) (by omega)) ?_
        intro  M34 hP35
        obtain ⟨hS34, f35p0⟩ := hP35
        have kw : z32 = Ms w 2 := by rw [ez32]; exact v0 w 2 (by omega)
        have li := f35p0
        rw [kw] at li
        have rp := RP.gok (by decide) hV v6 (by omega) hL.w k89 k120 k151 b89 b120 b151 (D := fun i => M34 40 i) (by show M34 40 _ = _; rw [li, nu_s]) (fun y hy => by show M34 40 y = _; rw [li, nu_i hy])
        refine n_iinc (L2 := [some (2, 38), some (2, 44), some (2, w), some (2, 4), some (0, x4), some (0, x5), some (0, x6), some (0, x7), some (0, (x8 + 1)), some (0, z11), some (0, z20), some (0, z29)]) c_66_170 rfl rfl rfl (n_goto c_66_173 (n_fg (le_s (le_s (le_s (le_s (le_s (le_s (le_s (le_s (le_s (le_n (le_n (le_n le_0)))))))))))) ?_))
        exact ih.2.2 _ _ _ _ _ M34 hS34 (by omega) (by omega) (by omega) (by omega) (by omega) (by exact fun a i ha => by rw [li, nu_a ha]; exact v0 a i ha) (by exact v1) (by exact v2) (by omega) (by omega) (by have y := v0 w 3 (by omega); omega) (by exact rp) (by omega)
set_option maxHeartbeats 4000000 in
theorem restrainX_2 {xs : List Int32} {e : Nat} {ac : Int} {M0 M : nM} {w : Int} {Ms : nM} {V : Int} (hS : Sf 2 ac M0 M) (hw : LawAt w) (hms : M = Ms) (hL : LawOk 2 w Ms) (hF : FMk 2 (Ms 44 0) V (fun x => Ms 45 x)) (hV : V ≤ 9) (hA : Aok (fun i => Ms 40 i)) (h45 : Ms 44 5 = 2) : nW xs (e + 2) 66 0 [some (2, 38), some (2, 44), some (2, w), some (2, 4), none, none, none, none, none, none, none, none] [] M (nPV fun M1 => Sf 2 ac M0 M1 ∧ (RSL 2 V w Ms M1)) := by
  have hd : (2 : Int) = 2 ∨ (2 : Int) = 3 := by decide
  have hac := hS.2.2.2.2
  have hS0 := hS
  have hwb : w = 50 ∨ (79 ≤ w ∧ w ≤ 101) := by unfold LawAt at hw; omega
  have h45m : M 44 5 = 2 := by rw [hms]; exact h45
  have hkm : 1 ≤ M w 0 ∧ M w 0 ≤ 3 := by rw [hms]; exact hL.1
  have hr : ∀ j : Int, 0 ≤ j → j < Ms w 3 → Ms (w + 1) j < 8 := fun j h0 h1 => by obtain ⟨_, _, _, _, u⟩ := LRn.row (by decide) hL.1 hL.2 h0 h1; exact u
  refine n_aload_n c_66_0 rfl (n_aload_n c_66_1 rfl (n_v1I c_66_2 rfl hw.c0.1.n rfl rfl rfl rfl (hasAllX_2 (w := w) hS hw (by omega)) ?_))
  intro z1 M2 hP3
  obtain ⟨eM, f3, f3p0⟩ := hP3
  subst eM
  refine n_if0_eq c_66_5 (by omega) ?_ ?_
  · intro h4
    refine n_aload_n c_66_9 rfl (n_aload_n c_66_10 rfl (n_getV (bi := 0) c_66_11 sc_44.n rfl rfl rfl (t_44_0 hS) ?_))
    intro z5 ez5 f6
    refine n_iconst c_66_14 (n_v2I c_66_15 rfl hw.c0.1.n rfl rfl rfl rfl (triedX_2 (q := w) (a := z5) (n := 3) hS hw (by omega) (by omega)) ?_)
    intro z7 M8 hP9
    obtain ⟨eM, f9, f9p0⟩ := hP9
    subst eM
    refine n_istore (L2 := [some (2, 38), some (2, 44), some (2, w), some (2, 4), some (0, z7), none, none, none, none, none, none, none]) c_66_18 rfl rfl (n_aload_n c_66_20 rfl (n_aload_n c_66_21 rfl (n_getV (bi := 0) c_66_22 sc_44.n rfl rfl rfl (t_44_0 hS) ?_)))
    intro z10 ez10 f11
    refine n_iconst c_66_25 (n_v2I c_66_26 rfl hw.c0.1.n rfl rfl rfl rfl (triedX_2 (q := w) (a := z10) (n := 2) hS hw (by omega) (by omega)) ?_)
    intro z12 M13 hP14
    obtain ⟨eM, f14, f14p0⟩ := hP14
    subst eM
    refine n_istore (L2 := [some (2, 38), some (2, 44), some (2, w), some (2, 4), some (0, z7), some (0, z12), none, none, none, none, none, none]) c_66_29 rfl rfl (n_iconst c_66_31 (n_istore (L2 := [some (2, 38), some (2, 44), some (2, w), some (2, 4), some (0, z7), some (0, z12), some (0, 0), none, none, none, none, none]) c_66_32 rfl rfl (n_fg (le_s (le_s (le_s (le_s (le_s (le_s (le_s (le_n (le_n (le_n (le_n (le_n le_0)))))))))))) ?_)))
    exact (restrainX_2_c hS hw hms hL hF hV hA h45 50528).1 _ _ _ M hS (by omega) (by omega) (by omega) (by exact fun a i _ => by rw [hms]) (by rw [f9p0, ez5, hms]) (by rw [f14p0, ez10, hms]) (by rw [hms]; exact RP.init (hms ▸ hA)) (by omega) (by omega)
  · intro h15
    exact n_rV c_66_8 rfl ⟨hS, by subst hms; exact RSL.skip (by decide) hF hL hA (bb_n (by omega))⟩

set_option maxHeartbeats 4000000 in
theorem restrainFormX_2_c {xs : List Int32} {e : Nat} {ac : Int} {M0 M : nM} {m : Int} {Ms : nM} {V : Int} (hS : Sf 2 ac M0 M) (hm : 0 ≤ m ∧ m ≤ 4095) (hms : M = Ms) (hxl : ∀ l : Int, 0 ≤ l → l < Ms 3 15 → LawOk 2 (79 + 2 * l) Ms) (hF : FMk 2 (Ms 44 0) V (fun x => Ms 45 x)) (hV : V ≤ 9) (hA : Aok (fun i => Ms 40 i)) (h45 : Ms 44 5 = 2) : ∀ nn : Nat, (∀ (x2 : Int) (M : nM), Sf 2 ac M0 M → (0 ≤ x2 ∧ x2 ≤ 12) → (RSM 2 V m x2 Ms M) → (x2 ≤ Ms 3 15) → (12 - x2) * 1 + 1 < (nn : Int) → nW xs (e + 3) 133 2 [some (2, 3), some (0, m), some (0, x2)] [] M (nPV fun M1 => Sf 2 ac M0 M1 ∧ (RSM 2 V m (Ms 3 15) Ms M1))) := by
  have hd : (2 : Int) = 2 ∨ (2 : Int) = 3 := by decide
  have hac := hS.2.2.2.2
  intro nn
  induction nn with
  | zero => intros; omega
  | succ nn ih =>
    intro x2 M hS k2 v0 v1 hnn
    refine n_iload_n c_133_2 rfl (n_aload_n c_133_3 rfl (n_getV (bi := 15) c_133_4 sc_3.n rfl rfl rfl (t_3_15 hS) ?_))
    intro z1 ez1 f2
    refine n_if2_ge c_133_7 (by omega) (by omega) ?_ ?_
    · intro h3
      exact n_rV c_133_45 rfl ⟨hS, by have y := v0.2 3 15 (by omega); have e : x2 = Ms 3 15 := (by omega); rw [← e]; exact v0⟩
    · intro h4
      refine n_iload_n c_133_10 rfl (n_iload_n c_133_11 rfl (n_i_ishr c_133_12 rfl ?_))
      have f5 := n_shr_r m x2
      generalize gz6 : (n_shr m x2) = z6 at f5 ⊢
      refine n_iconst c_133_13 (n_i_iand c_133_14 rfl ?_)
      have f7 := n_and_y (x := z6) (y := 1) (by omega)
      generalize gz8 : (n_and z6 1) = z8 at f7 ⊢
      have hb14 : z8 = m / 2 ^ (x2).toNat % 2 := by rw [← gz8, ← gz6]; exact ib_v (by omega) (by omega)
      refine n_if0_eq c_133_15 (by omega) ?_ ?_
      · intro h9
        refine n_iinc (L2 := [some (2, 3), some (0, m), some (0, (x2 + 1))]) c_133_39 rfl rfl rfl (n_goto c_133_42 (n_fg (le_s (le_s (le_s le_0))) ?_))
        exact ih _ M hS (by omega) (by exact RSM.skip v0 (by unfold bt; omega)) (by have y := v0.2 3 15 (by omega); omega) (by omega)
      · intro h10
        refine n_aload_n c_133_18 rfl (n_getR c_133_19 sc_3.n rfl rfl rfl r_3_7 (n_aload_n c_133_22 rfl (n_getR c_133_23 sc_3.n rfl rfl rfl r_3_8 (n_aload_n c_133_26 rfl (n_getR c_133_27 sc_3.n rfl rfl rfl r_3_3 (n_iload_n c_133_30 rfl (n_aaload c_133_31 sc_13.n rfl rfl rfl (by omega) (r_laws _) ?_)))))))
        have q11 : LawAt (79 + 2 * x2) := by unfold LawAt; omega
        refine n_aload_n c_133_32 rfl (n_getR c_133_33 sc_3.n rfl rfl rfl r_3_0 ?_)
        refine n_v3V c_133_36 rfl sc_38.n rfl rfl rfl rfl (restrainX_2 (w := (79 + 2 * x2)) (Ms := M) (V := V) hS q11 (by rfl) (by exact (hxl x2 (by omega) (by have y := v0.2 3 15 (by omega); omega)).of (fun a i u1 u2 => v0.2 a i (by omega))) (by rw [v0.2 44 0 (by omega), show (fun x => M 45 x) = fun x => Ms 45 x from funext fun x => v0.2 45 x (by omega)]; exact hF) (by omega) (by exact v0.1.1) (by rw [v0.2 44 5 (by omega)]; exact h45)) ?_
        intro  M12 hP13
        obtain ⟨hS12, f13p0⟩ := hP13
        refine n_iinc (L2 := [some (2, 3), some (0, m), some (0, (x2 + 1))]) c_133_39 rfl rfl rfl (n_goto c_133_42 (n_fg (le_s (le_s (le_s le_0))) ?_))
        exact ih _ M12 hS12 (by omega) (by exact RSM.add v0 (by omega) (by unfold bt; omega) f13p0) (by have y := v0.2 3 15 (by omega); omega) (by omega)
set_option maxHeartbeats 4000000 in
theorem restrainFormX_2 {xs : List Int32} {e : Nat} {ac : Int} {M0 M : nM} {m : Int} {Ms : nM} {V : Int} (hS : Sf 2 ac M0 M) (hm : 0 ≤ m ∧ m ≤ 4095) (hms : M = Ms) (hxl : ∀ l : Int, 0 ≤ l → l < Ms 3 15 → LawOk 2 (79 + 2 * l) Ms) (hF : FMk 2 (Ms 44 0) V (fun x => Ms 45 x)) (hV : V ≤ 9) (hA : Aok (fun i => Ms 40 i)) (h45 : Ms 44 5 = 2) : nW xs (e + 3) 133 0 [some (2, 3), some (0, m), none] [] M (nPV fun M1 => Sf 2 ac M0 M1 ∧ (RSM 2 V m (Ms 3 15) Ms M1)) := by
  have hd : (2 : Int) = 2 ∨ (2 : Int) = 3 := by decide
  have hac := hS.2.2.2.2
  refine n_iconst c_133_0 (n_istore_n (L2 := [some (2, 3), some (0, m), some (0, 0)]) c_133_1 rfl rfl (n_fg (le_s (le_s (le_s le_0))) ?_))
  exact (restrainFormX_2_c hS hm hms hxl hF hV hA h45 38) _ M hS (by omega) (by rw [← hms]; exact RSM.init (hms ▸ hA)) (by have y := t_3_15 hS; rw [← hms]; omega) (by omega)

set_option maxHeartbeats 4000000 in
theorem beginX_2 {xs : List Int32} {e : Nat} {ac : Int} {M0 M : nM} {n c : Int} (hS : Sf 2 ac M0 M) (hn : 1 ≤ n ∧ n ≤ 3) (hc : 0 ≤ c ∧ c ≤ 3) : nW xs e 27 0 [some (2, 44), some (0, n), some (0, c), some (2, 4)] [] M (nPV fun M1 => Sf 2 ac M0 M1 ∧ (M1 44 5 = 2 ∧ M1 44 0 = n ∧ M1 44 1 = c ∧ M1 44 2 = c ∧ M1 44 3 = 0) ∧ (FC 44 M M1)) := by
  have hd : (2 : Int) = 2 ∨ (2 : Int) = 3 := by decide
  have hac := hS.2.2.2.2
  refine n_aload_n c_27_0 rfl (n_aload_n c_27_1 rfl (n_getV (bi := 0) c_27_2 sc_4.n rfl rfl rfl (t_4_0 hS) ?_))
  intro z1 ez1 f2
  obtain rfl : z1 = 2 := by omega
  refine n_putV (bi := 5) hS c_27_5 sc_44.n rfl rfl rfl rfl (w_44_5 (by omega)) ?_
  intro M3 eM3 hS3
  have g3_0 : M3 44 5 = 2 := by rw [eM3]; exact nu_s _ _ _ _
  refine n_aload_n c_27_8 rfl (n_iload_n c_27_9 rfl (n_putV (bi := 0) hS3 c_27_10 sc_44.n rfl rfl rfl rfl (w_44_0 (by omega)) ?_))
  intro M4 eM4 hS4
  have g4_0 : M4 44 5 = M3 44 5 := by rw [eM4]; exact nu_i (by omega)
  have g4_1 : M4 44 0 = n := by rw [eM4]; exact nu_s _ _ _ _
  refine n_aload_n c_27_13 rfl (n_iload_n c_27_14 rfl (n_putV (bi := 1) hS4 c_27_15 sc_44.n rfl rfl rfl rfl (w_44_1 (by omega)) ?_))
  intro M5 eM5 hS5
  have g5_0 : M5 44 5 = M4 44 5 := by rw [eM5]; exact nu_i (by omega)
  have g5_1 : M5 44 0 = M4 44 0 := by rw [eM5]; exact nu_i (by omega)
  have g5_2 : M5 44 1 = c := by rw [eM5]; exact nu_s _ _ _ _
  refine n_aload_n c_27_18 rfl (n_iload_n c_27_19 rfl (n_putV (bi := 2) hS5 c_27_20 sc_44.n rfl rfl rfl rfl (w_44_2 (by omega)) ?_))
  intro M6 eM6 hS6
  have g6_0 : M6 44 5 = M5 44 5 := by rw [eM6]; exact nu_i (by omega)
  have g6_1 : M6 44 0 = M5 44 0 := by rw [eM6]; exact nu_i (by omega)
  have g6_2 : M6 44 1 = M5 44 1 := by rw [eM6]; exact nu_i (by omega)
  have g6_3 : M6 44 2 = c := by rw [eM6]; exact nu_s _ _ _ _
  refine n_aload_n c_27_23 rfl (n_iconst c_27_24 (n_putZV (bi := 3) hS6 c_27_25 sc_44.n rfl rfl rfl (by omega) rfl (w_44_3 (by omega)) ?_))
  intro M7 eM7 hS7
  have g7_0 : M7 44 5 = M6 44 5 := by rw [eM7]; exact nu_i (by omega)
  have g7_1 : M7 44 0 = M6 44 0 := by rw [eM7]; exact nu_i (by omega)
  have g7_2 : M7 44 1 = M6 44 1 := by rw [eM7]; exact nu_i (by omega)
  have g7_3 : M7 44 2 = M6 44 2 := by rw [eM7]; exact nu_i (by omega)
  have g7_4 : M7 44 3 = 0 := by rw [eM7]; exact nu_s _ _ _ _
  exact n_rV c_27_28 rfl ⟨hS7, by exact ⟨by rw [eM7, nu_i (by omega), eM6, nu_i (by omega), eM5, nu_i (by omega), eM4, nu_i (by omega), eM3, nu_s], by rw [eM7, nu_i (by omega), eM6, nu_i (by omega), eM5, nu_i (by omega), eM4, nu_s], by rw [eM7, nu_i (by omega), eM6, nu_i (by omega), eM5, nu_s], by rw [eM7, nu_i (by omega), eM6, nu_s], by rw [eM7, nu_s]⟩, by exact fun a i ha => by rw [eM7, nu_a ha, eM6, nu_a ha, eM5, nu_a ha, eM4, nu_a ha, eM3, nu_a ha]⟩

set_option maxHeartbeats 4000000 in
theorem repeatX1_2_c {xs : List Int32} {e : Nat} {ac : Int} {M0 M : nM} {Ms : nM} (hS : Sf 2 ac M0 M) (hms : M = Ms) (h0 : M 44 0 = 1) : ∀ nn : Nat, (∀ (x2 x3 : Int) (M : nM), Sf 2 ac M0 M → (2 ≤ x2 ∧ x2 ≤ 2) → (2 ≤ x3 ∧ x3 ≤ 8) → (FC 45 Ms M) → (∀ i : Int, 0 ≤ i → i < x3 → M 45 i = Ms 45 (i % 2)) → (8 - x3) * 1 + 1 < (nn : Int) → nW xs (e + 1) 28 11 [some (2, 44), some (2, 4), some (0, x2), some (0, x3)] [] M (nPV fun M1 => Sf 2 ac M0 M1 ∧ (∀ i : Int, 0 ≤ i → i < 8 → M1 45 i = Ms 45 (i % 2)) ∧ (FC 45 Ms M1))) := by
  have hd : (2 : Int) = 2 ∨ (2 : Int) = 3 := by decide
  have hac := hS.2.2.2.2
  intro nn
  induction nn with
  | zero => intros; omega
  | succ nn ih =>
    intro x2 x3 M hS k2 k3 v0 v1 hnn
    refine n_iload_n c_28_11 rfl (n_aload_n c_28_12 rfl (n_getV (bi := 1) c_28_13 sc_4.n rfl rfl rfl (t_4_1 hS) ?_))
    intro z1 ez1 f2
    obtain rfl : z1 = 8 := by omega
    refine n_if2_ge c_28_16 (by omega) (by omega) ?_ ?_
    · intro h3
      exact n_rV c_28_39 rfl ⟨hS, by exact fun i h0 h1 => v1 i h0 (by omega), by exact v0⟩
    · intro h4
      refine n_aload_n c_28_19 rfl (n_getR c_28_20 sc_44.n rfl rfl rfl r_44_4 (n_iload_n c_28_23 rfl (n_aload_n c_28_24 rfl (n_getR c_28_25 sc_44.n rfl rfl rfl r_44_4 (n_iload_n c_28_28 rfl (n_iload_n c_28_29 rfl (n_isub c_28_30 rfl (n_ialoadV c_28_31 sc_45.n rfl rfl rfl (by omega) (t_45 hS (by omega)) ?_))))))))
      intro z5 ez5 f6
      refine n_iastoreV hS c_28_32 sc_45.n rfl (by omega) (w_45 (by omega) (by omega)) ?_
      intro M7 eM7 hS7
      have g7_0 : M7 44 0 = M 44 0 := by rw [eM7]; exact nu_a (by omega)
      refine n_iinc (L2 := [some (2, 44), some (2, 4), some (0, x2), some (0, (x3 + 1))]) c_28_33 rfl rfl rfl (n_goto c_28_36 (n_fg (le_s (le_s (le_s (le_s le_0)))) ?_))
      exact ih _ _ M7 hS7 (by omega) (by omega) (by exact fun a i ha => by rw [eM7, nu_a ha]; exact v0 a i ha) (by exact fun i h0 h1 => by rw [eM7, nu_e]; by_cases y : i = x3; (rw [if_pos ⟨rfl, y⟩, ez5, v1 _ (by omega) (by omega)]; congr 1 <;> omega); (rw [if_neg (fun q => y q.2)]; exact v1 i h0 (by omega))) (by omega)
set_option maxHeartbeats 4000000 in
theorem repeatX1_2 {xs : List Int32} {e : Nat} {ac : Int} {M0 M : nM} {Ms : nM} (hS : Sf 2 ac M0 M) (hms : M = Ms) (h0 : M 44 0 = 1) : nW xs (e + 1) 28 0 [some (2, 44), some (2, 4), none, none] [] M (nPV fun M1 => Sf 2 ac M0 M1 ∧ (∀ i : Int, 0 ≤ i → i < 8 → M1 45 i = Ms 45 (i % 2)) ∧ (FC 45 Ms M1)) := by
  have hd : (2 : Int) = 2 ∨ (2 : Int) = 3 := by decide
  have hac := hS.2.2.2.2
  refine n_aload_n c_28_0 rfl (n_aload_n c_28_1 rfl (n_getV (bi := 0) c_28_2 sc_44.n rfl rfl rfl (t_44_0 hS) ?_))
  intro z1 ez1 f2
  obtain rfl : z1 = 1 := by omega
  refine n_v1I c_28_5 rfl sc_4.n rfl rfl rfl rfl (power1_2  hS ) ?_
  intro z3 M4 hP5
  obtain ⟨eM, f5⟩ := hP5
  subst eM
  obtain rfl : z3 = 2 := by omega
  refine n_istore_n (L2 := [some (2, 44), some (2, 4), some (0, 2), none]) c_28_8 rfl rfl (n_iload_n c_28_9 rfl (n_istore_n (L2 := [some (2, 44), some (2, 4), some (0, 2), some (0, 2)]) c_28_10 rfl rfl (n_fg (le_s (le_s (le_s (le_s le_0)))) ?_)))
  exact (repeatX1_2_c hS hms h0 26) _ _ M hS (by omega) (by omega) (by exact fun a i _ => by rw [hms]) (by exact fun i h0 h1 => by rw [hms, show i % 2 = i by omega]) (by omega)

set_option maxHeartbeats 4000000 in
theorem beFreeX1_2_c {xs : List Int32} {e : Nat} {ac : Int} {M0 M : nM} {Mz : nM} (hS : Sf 2 ac M0 M) (hmz : M = Mz) : ∀ nn : Nat, (∀ (x3 : Int) (M : nM), Sf 2 ac M0 M → (-1 ≤ x3 ∧ x3 ≤ 1) → (∀ a i : Int, a ≠ 44 → a ≠ 45 → M a i = Mz a i) → (M 44 5 = 2) → (M 44 0 = 1) → (M 44 1 = 0) → (M 44 2 = 1 - x3) → (M 44 3 = 0) → (∀ r : Int, x3 < r → r < 2 → M 45 r = 1 - r) → (x3 - (-1)) * 1 + 1 < (nn : Int) → nW xs (e + 2) 20 15 [some (2, 44), none, some (2, 4), some (0, x3)] [] M (nPV fun M1 => Sf 2 ac M0 M1 ∧ (M1 44 0 = 1 ∧ M1 44 1 = 0 ∧ M1 44 2 = 2 ∧ M1 44 3 = 0 ∧ M1 44 5 = 2) ∧ (∀ i : Int, 0 ≤ i → i < 8 → M1 45 i = 1 - i % 2) ∧ (∀ a i : Int, a ≠ 44 → a ≠ 45 → M1 a i = Mz a i))) := by
  have hd : (2 : Int) = 2 ∨ (2 : Int) = 3 := by decide
  have hac := hS.2.2.2.2
  intro nn
  induction nn with
  | zero => intros; omega
  | succ nn ih =>
    intro x3 M hS k3 v0 v1 v2 v3 v4 v5 v6 hnn
    refine n_iload_n c_20_15 rfl ?_
    refine n_if0_lt c_20_16 (by omega) ?_ ?_
    · intro h1
      refine n_aload_n c_20_42 rfl (n_aload_n c_20_43 rfl (n_v1V c_20_44 rfl sc_44.n rfl rfl rfl rfl (repeatX1_2 (Ms := M) hS (by rfl) (by omega)) ?_))
      intro  M2 hP3
      obtain ⟨hS2, f3p0, f3p1⟩ := hP3
      exact n_rV c_20_47 rfl ⟨hS2, by have y := fun i => f3p1 44 i (by omega); exact ⟨by rw [y]; exact v2, by rw [y]; exact v3, by rw [y]; omega, by rw [y]; exact v5, by rw [y]; exact v1⟩, by exact fun i h0 h1 => by rw [f3p0 i h0 h1, v6 _ (by omega) (by omega)], by exact fun a i h1 h2 => by rw [f3p1 a i h2]; exact v0 a i h1 h2⟩
    · intro h4
      refine n_aload_n c_20_19 rfl (n_getR c_20_20 sc_44.n rfl rfl rfl r_44_4 (n_iload_n c_20_23 rfl (n_aload_n c_20_24 rfl (n_dup2 c_20_25 (n_getV (bi := 2) c_20_26 sc_44.n rfl rfl rfl (t_44_2 hS) ?_)))))
      intro z5 ez5 f6
      refine n_dup_x102 c_20_29 (n_iconst c_20_30 (n_iadd c_20_31 rfl (n_putV (bi := 2) hS c_20_32 sc_44.n rfl rfl rfl rfl (w_44_2 (by omega)) ?_)))
      intro M7 eM7 hS7
      have g7_0 : M7 44 2 = (z5 + 1) := by rw [eM7]; exact nu_s _ _ _ _
      refine n_iastoreV hS7 c_20_35 sc_45.n rfl (by omega) (w_45 (by omega) (by omega)) ?_
      intro M8 eM8 hS8
      have g8_0 : M8 44 2 = M7 44 2 := by rw [eM8]; exact nu_a (by omega)
      refine n_iinc (L2 := [some (2, 44), none, some (2, 4), some (0, (x3 + (-1)))]) c_20_36 rfl rfl rfl (n_goto c_20_39 (n_fg (le_s (le_n (le_s (le_s le_0)))) ?_))
      exact ih _ M8 hS8 (by omega) (by exact fun a i h1 h2 => by rw [eM8, nu_a h2, eM7, nu_a h1]; exact v0 a i h1 h2) (by rw [eM8, nu_a (by omega), eM7, nu_i (by omega)]; exact v1) (by rw [eM8, nu_a (by omega), eM7, nu_i (by omega)]; exact v2) (by rw [eM8, nu_a (by omega), eM7, nu_i (by omega)]; exact v3) (by rw [eM8, nu_a (by omega), eM7, nu_s]; omega) (by rw [eM8, nu_a (by omega), eM7, nu_i (by omega)]; exact v5) (by exact fun r h0 h1 => by rw [eM8, nu_e]; by_cases y : r = x3; (rw [if_pos ⟨rfl, y⟩]; omega); (rw [if_neg (fun q => y q.2), eM7, nu_a (by omega)]; exact v6 r (by omega) h1)) (by omega)
set_option maxHeartbeats 4000000 in
theorem beFreeX1_2 {xs : List Int32} {e : Nat} {ac : Int} {M0 M : nM} {Mz : nM} (hS : Sf 2 ac M0 M) (hmz : M = Mz) : nW xs (e + 2) 20 0 [some (2, 44), some (0, 1), some (2, 4), none] [] M (nPV fun M1 => Sf 2 ac M0 M1 ∧ (M1 44 0 = 1 ∧ M1 44 1 = 0 ∧ M1 44 2 = 2 ∧ M1 44 3 = 0 ∧ M1 44 5 = 2) ∧ (∀ i : Int, 0 ≤ i → i < 8 → M1 45 i = 1 - i % 2) ∧ (∀ a i : Int, a ≠ 44 → a ≠ 45 → M1 a i = Mz a i)) := by
  have hd : (2 : Int) = 2 ∨ (2 : Int) = 3 := by decide
  have hac := hS.2.2.2.2
  refine n_aload_n c_20_0 rfl (n_iload_n c_20_1 rfl (n_iconst c_20_2 (n_aload_n c_20_3 rfl (n_v3V c_20_4 rfl sc_44.n rfl rfl rfl rfl (beginX_2 (n := 1) (c := 0) hS (by omega) (by omega)) ?_))))
  intro  M1 hP2
  obtain ⟨hS1, f2p0, f2p1⟩ := hP2
  refine n_aload_n c_20_7 rfl (n_iload_n c_20_8 rfl (n_v1I c_20_9 rfl sc_4.n rfl rfl rfl rfl (power1_2  hS1 ) ?_))
  intro z3 M4 hP5
  obtain ⟨eM, f5⟩ := hP5
  subst eM
  obtain rfl : z3 = 2 := by omega
  refine n_iconst c_20_12 (n_isub c_20_13 rfl (n_istore_n (L2 := [some (2, 44), some (0, 1), some (2, 4), some (0, (2 - 1))]) c_20_14 rfl rfl (n_fg (le_s (le_n (le_s (le_s le_0)))) ?_)))
  exact (beFreeX1_2_c hS hmz 18) _ M1 hS1 (by omega) (by exact fun a i h1 h2 => by rw [f2p1 a i h1, hmz]) (by exact f2p0.1) (by exact f2p0.2.1) (by exact f2p0.2.2.1) (by omega) (by exact f2p0.2.2.2.2) (by exact fun r h0 h1 => by omega) (by omega)

set_option maxHeartbeats 4000000 in
theorem repeatX2_2_c {xs : List Int32} {e : Nat} {ac : Int} {M0 M : nM} {Ms : nM} (hS : Sf 2 ac M0 M) (hms : M = Ms) (h0 : M 44 0 = 2) : ∀ nn : Nat, (∀ (x2 x3 : Int) (M : nM), Sf 2 ac M0 M → (4 ≤ x2 ∧ x2 ≤ 4) → (4 ≤ x3 ∧ x3 ≤ 8) → (FC 45 Ms M) → (∀ i : Int, 0 ≤ i → i < x3 → M 45 i = Ms 45 (i % 4)) → (8 - x3) * 1 + 1 < (nn : Int) → nW xs (e + 1) 28 11 [some (2, 44), some (2, 4), some (0, x2), some (0, x3)] [] M (nPV fun M1 => Sf 2 ac M0 M1 ∧ (∀ i : Int, 0 ≤ i → i < 8 → M1 45 i = Ms 45 (i % 4)) ∧ (FC 45 Ms M1))) := by
  have hd : (2 : Int) = 2 ∨ (2 : Int) = 3 := by decide
  have hac := hS.2.2.2.2
  intro nn
  induction nn with
  | zero => intros; omega
  | succ nn ih =>
    intro x2 x3 M hS k2 k3 v0 v1 hnn
    refine n_iload_n c_28_11 rfl (n_aload_n c_28_12 rfl (n_getV (bi := 1) c_28_13 sc_4.n rfl rfl rfl (t_4_1 hS) ?_))
    intro z1 ez1 f2
    obtain rfl : z1 = 8 := by omega
    refine n_if2_ge c_28_16 (by omega) (by omega) ?_ ?_
    · intro h3
      exact n_rV c_28_39 rfl ⟨hS, by exact fun i h0 h1 => v1 i h0 (by omega), by exact v0⟩
    · intro h4
      refine n_aload_n c_28_19 rfl (n_getR c_28_20 sc_44.n rfl rfl rfl r_44_4 (n_iload_n c_28_23 rfl (n_aload_n c_28_24 rfl (n_getR c_28_25 sc_44.n rfl rfl rfl r_44_4 (n_iload_n c_28_28 rfl (n_iload_n c_28_29 rfl (n_isub c_28_30 rfl (n_ialoadV c_28_31 sc_45.n rfl rfl rfl (by omega) (t_45 hS (by omega)) ?_))))))))
      intro z5 ez5 f6
      refine n_iastoreV hS c_28_32 sc_45.n rfl (by omega) (w_45 (by omega) (by omega)) ?_
      intro M7 eM7 hS7
      have g7_0 : M7 44 0 = M 44 0 := by rw [eM7]; exact nu_a (by omega)
      refine n_iinc (L2 := [some (2, 44), some (2, 4), some (0, x2), some (0, (x3 + 1))]) c_28_33 rfl rfl rfl (n_goto c_28_36 (n_fg (le_s (le_s (le_s (le_s le_0)))) ?_))
      exact ih _ _ M7 hS7 (by omega) (by omega) (by exact fun a i ha => by rw [eM7, nu_a ha]; exact v0 a i ha) (by exact fun i h0 h1 => by rw [eM7, nu_e]; by_cases y : i = x3; (rw [if_pos ⟨rfl, y⟩, ez5, v1 _ (by omega) (by omega)]; congr 1 <;> omega); (rw [if_neg (fun q => y q.2)]; exact v1 i h0 (by omega))) (by omega)
set_option maxHeartbeats 4000000 in
theorem repeatX2_2 {xs : List Int32} {e : Nat} {ac : Int} {M0 M : nM} {Ms : nM} (hS : Sf 2 ac M0 M) (hms : M = Ms) (h0 : M 44 0 = 2) : nW xs (e + 1) 28 0 [some (2, 44), some (2, 4), none, none] [] M (nPV fun M1 => Sf 2 ac M0 M1 ∧ (∀ i : Int, 0 ≤ i → i < 8 → M1 45 i = Ms 45 (i % 4)) ∧ (FC 45 Ms M1)) := by
  have hd : (2 : Int) = 2 ∨ (2 : Int) = 3 := by decide
  have hac := hS.2.2.2.2
  refine n_aload_n c_28_0 rfl (n_aload_n c_28_1 rfl (n_getV (bi := 0) c_28_2 sc_44.n rfl rfl rfl (t_44_0 hS) ?_))
  intro z1 ez1 f2
  obtain rfl : z1 = 2 := by omega
  refine n_v1I c_28_5 rfl sc_4.n rfl rfl rfl rfl (power2_2  hS ) ?_
  intro z3 M4 hP5
  obtain ⟨eM, f5⟩ := hP5
  subst eM
  obtain rfl : z3 = 4 := by omega
  refine n_istore_n (L2 := [some (2, 44), some (2, 4), some (0, 4), none]) c_28_8 rfl rfl (n_iload_n c_28_9 rfl (n_istore_n (L2 := [some (2, 44), some (2, 4), some (0, 4), some (0, 4)]) c_28_10 rfl rfl (n_fg (le_s (le_s (le_s (le_s le_0)))) ?_)))
  exact (repeatX2_2_c hS hms h0 22) _ _ M hS (by omega) (by omega) (by exact fun a i _ => by rw [hms]) (by exact fun i h0 h1 => by rw [hms, show i % 4 = i by omega]) (by omega)

set_option maxHeartbeats 4000000 in
theorem beFreeX2_2_c {xs : List Int32} {e : Nat} {ac : Int} {M0 M : nM} {Mz : nM} (hS : Sf 2 ac M0 M) (hmz : M = Mz) : ∀ nn : Nat, (∀ (x3 : Int) (M : nM), Sf 2 ac M0 M → (-1 ≤ x3 ∧ x3 ≤ 3) → (∀ a i : Int, a ≠ 44 → a ≠ 45 → M a i = Mz a i) → (M 44 5 = 2) → (M 44 0 = 2) → (M 44 1 = 0) → (M 44 2 = 3 - x3) → (M 44 3 = 0) → (∀ r : Int, x3 < r → r < 4 → M 45 r = 3 - r) → (x3 - (-1)) * 1 + 1 < (nn : Int) → nW xs (e + 2) 20 15 [some (2, 44), none, some (2, 4), some (0, x3)] [] M (nPV fun M1 => Sf 2 ac M0 M1 ∧ (M1 44 0 = 2 ∧ M1 44 1 = 0 ∧ M1 44 2 = 4 ∧ M1 44 3 = 0 ∧ M1 44 5 = 2) ∧ (∀ i : Int, 0 ≤ i → i < 8 → M1 45 i = 3 - i % 4) ∧ (∀ a i : Int, a ≠ 44 → a ≠ 45 → M1 a i = Mz a i))) := by
  have hd : (2 : Int) = 2 ∨ (2 : Int) = 3 := by decide
  have hac := hS.2.2.2.2
  intro nn
  induction nn with
  | zero => intros; omega
  | succ nn ih =>
    intro x3 M hS k3 v0 v1 v2 v3 v4 v5 v6 hnn
    refine n_iload_n c_20_15 rfl ?_
    refine n_if0_lt c_20_16 (by omega) ?_ ?_
    · intro h1
      refine n_aload_n c_20_42 rfl (n_aload_n c_20_43 rfl (n_v1V c_20_44 rfl sc_44.n rfl rfl rfl rfl (repeatX2_2 (Ms := M) hS (by rfl) (by omega)) ?_))
      intro  M2 hP3
      obtain ⟨hS2, f3p0, f3p1⟩ := hP3
      exact n_rV c_20_47 rfl ⟨hS2, by have y := fun i => f3p1 44 i (by omega); exact ⟨by rw [y]; exact v2, by rw [y]; exact v3, by rw [y]; omega, by rw [y]; exact v5, by rw [y]; exact v1⟩, by exact fun i h0 h1 => by rw [f3p0 i h0 h1, v6 _ (by omega) (by omega)], by exact fun a i h1 h2 => by rw [f3p1 a i h2]; exact v0 a i h1 h2⟩
    · intro h4
      refine n_aload_n c_20_19 rfl (n_getR c_20_20 sc_44.n rfl rfl rfl r_44_4 (n_iload_n c_20_23 rfl (n_aload_n c_20_24 rfl (n_dup2 c_20_25 (n_getV (bi := 2) c_20_26 sc_44.n rfl rfl rfl (t_44_2 hS) ?_)))))
      intro z5 ez5 f6
      refine n_dup_x102 c_20_29 (n_iconst c_20_30 (n_iadd c_20_31 rfl (n_putV (bi := 2) hS c_20_32 sc_44.n rfl rfl rfl rfl (w_44_2 (by omega)) ?_)))
      intro M7 eM7 hS7
      have g7_0 : M7 44 2 = (z5 + 1) := by rw [eM7]; exact nu_s _ _ _ _
      refine n_iastoreV hS7 c_20_35 sc_45.n rfl (by omega) (w_45 (by omega) (by omega)) ?_
      intro M8 eM8 hS8
      have g8_0 : M8 44 2 = M7 44 2 := by rw [eM8]; exact nu_a (by omega)
      refine n_iinc (L2 := [some (2, 44), none, some (2, 4), some (0, (x3 + (-1)))]) c_20_36 rfl rfl rfl (n_goto c_20_39 (n_fg (le_s (le_n (le_s (le_s le_0)))) ?_))
      exact ih _ M8 hS8 (by omega) (by exact fun a i h1 h2 => by rw [eM8, nu_a h2, eM7, nu_a h1]; exact v0 a i h1 h2) (by rw [eM8, nu_a (by omega), eM7, nu_i (by omega)]; exact v1) (by rw [eM8, nu_a (by omega), eM7, nu_i (by omega)]; exact v2) (by rw [eM8, nu_a (by omega), eM7, nu_i (by omega)]; exact v3) (by rw [eM8, nu_a (by omega), eM7, nu_s]; omega) (by rw [eM8, nu_a (by omega), eM7, nu_i (by omega)]; exact v5) (by exact fun r h0 h1 => by rw [eM8, nu_e]; by_cases y : r = x3; (rw [if_pos ⟨rfl, y⟩]; omega); (rw [if_neg (fun q => y q.2), eM7, nu_a (by omega)]; exact v6 r (by omega) h1)) (by omega)
set_option maxHeartbeats 4000000 in
theorem beFreeX2_2 {xs : List Int32} {e : Nat} {ac : Int} {M0 M : nM} {Mz : nM} (hS : Sf 2 ac M0 M) (hmz : M = Mz) : nW xs (e + 2) 20 0 [some (2, 44), some (0, 2), some (2, 4), none] [] M (nPV fun M1 => Sf 2 ac M0 M1 ∧ (M1 44 0 = 2 ∧ M1 44 1 = 0 ∧ M1 44 2 = 4 ∧ M1 44 3 = 0 ∧ M1 44 5 = 2) ∧ (∀ i : Int, 0 ≤ i → i < 8 → M1 45 i = 3 - i % 4) ∧ (∀ a i : Int, a ≠ 44 → a ≠ 45 → M1 a i = Mz a i)) := by
  have hd : (2 : Int) = 2 ∨ (2 : Int) = 3 := by decide
  have hac := hS.2.2.2.2
  refine n_aload_n c_20_0 rfl (n_iload_n c_20_1 rfl (n_iconst c_20_2 (n_aload_n c_20_3 rfl (n_v3V c_20_4 rfl sc_44.n rfl rfl rfl rfl (beginX_2 (n := 2) (c := 0) hS (by omega) (by omega)) ?_))))
  intro  M1 hP2
  obtain ⟨hS1, f2p0, f2p1⟩ := hP2
  refine n_aload_n c_20_7 rfl (n_iload_n c_20_8 rfl (n_v1I c_20_9 rfl sc_4.n rfl rfl rfl rfl (power2_2  hS1 ) ?_))
  intro z3 M4 hP5
  obtain ⟨eM, f5⟩ := hP5
  subst eM
  obtain rfl : z3 = 4 := by omega
  refine n_iconst c_20_12 (n_isub c_20_13 rfl (n_istore_n (L2 := [some (2, 44), some (0, 2), some (2, 4), some (0, (4 - 1))]) c_20_14 rfl rfl (n_fg (le_s (le_n (le_s (le_s le_0)))) ?_)))
  exact (beFreeX2_2_c hS hmz 22) _ M1 hS1 (by omega) (by exact fun a i h1 h2 => by rw [f2p1 a i h1, hmz]) (by exact f2p0.1) (by exact f2p0.2.1) (by exact f2p0.2.2.1) (by omega) (by exact f2p0.2.2.2.2) (by exact fun r h0 h1 => by omega) (by omega)

set_option maxHeartbeats 4000000 in
theorem repeatX3_2_c {xs : List Int32} {e : Nat} {ac : Int} {M0 M : nM} {Ms : nM} (hS : Sf 2 ac M0 M) (hms : M = Ms) (h0 : M 44 0 = 3) : ∀ nn : Nat, (∀ (x2 x3 : Int) (M : nM), Sf 2 ac M0 M → (8 ≤ x2 ∧ x2 ≤ 8) → (8 ≤ x3 ∧ x3 ≤ 8) → (FC 45 Ms M) → (∀ i : Int, 0 ≤ i → i < x3 → M 45 i = Ms 45 (i % 8)) → (8 - x3) * 1 + 1 < (nn : Int) → nW xs (e + 1) 28 11 [some (2, 44), some (2, 4), some (0, x2), some (0, x3)] [] M (nPV fun M1 => Sf 2 ac M0 M1 ∧ (∀ i : Int, 0 ≤ i → i < 8 → M1 45 i = Ms 45 (i % 8)) ∧ (FC 45 Ms M1))) := by
  have hd : (2 : Int) = 2 ∨ (2 : Int) = 3 := by decide
  have hac := hS.2.2.2.2
  intro nn
  induction nn with
  | zero => intros; omega
  | succ nn ih =>
    intro x2 x3 M hS k2 k3 v0 v1 hnn
    refine n_iload_n c_28_11 rfl (n_aload_n c_28_12 rfl (n_getV (bi := 1) c_28_13 sc_4.n rfl rfl rfl (t_4_1 hS) ?_))
    intro z1 ez1 f2
    obtain rfl : z1 = 8 := by omega
    refine n_if2_ge c_28_16 (by omega) (by omega) ?_ ?_
    · intro h3
      exact n_rV c_28_39 rfl ⟨hS, by exact fun i h0 h1 => v1 i h0 (by omega), by exact v0⟩
    · intro h4
      exfalso; omega
set_option maxHeartbeats 4000000 in
theorem repeatX3_2 {xs : List Int32} {e : Nat} {ac : Int} {M0 M : nM} {Ms : nM} (hS : Sf 2 ac M0 M) (hms : M = Ms) (h0 : M 44 0 = 3) : nW xs (e + 1) 28 0 [some (2, 44), some (2, 4), none, none] [] M (nPV fun M1 => Sf 2 ac M0 M1 ∧ (∀ i : Int, 0 ≤ i → i < 8 → M1 45 i = Ms 45 (i % 8)) ∧ (FC 45 Ms M1)) := by
  have hd : (2 : Int) = 2 ∨ (2 : Int) = 3 := by decide
  have hac := hS.2.2.2.2
  refine n_aload_n c_28_0 rfl (n_aload_n c_28_1 rfl (n_getV (bi := 0) c_28_2 sc_44.n rfl rfl rfl (t_44_0 hS) ?_))
  intro z1 ez1 f2
  obtain rfl : z1 = 3 := by omega
  refine n_v1I c_28_5 rfl sc_4.n rfl rfl rfl rfl (power3_2  hS ) ?_
  intro z3 M4 hP5
  obtain ⟨eM, f5⟩ := hP5
  subst eM
  obtain rfl : z3 = 8 := by omega
  refine n_istore_n (L2 := [some (2, 44), some (2, 4), some (0, 8), none]) c_28_8 rfl rfl (n_iload_n c_28_9 rfl (n_istore_n (L2 := [some (2, 44), some (2, 4), some (0, 8), some (0, 8)]) c_28_10 rfl rfl (n_fg (le_s (le_s (le_s (le_s le_0)))) ?_)))
  exact (repeatX3_2_c hS hms h0 14) _ _ M hS (by omega) (by omega) (by exact fun a i _ => by rw [hms]) (by exact fun i h0 h1 => by rw [hms, show i % 8 = i by omega]) (by omega)

set_option maxHeartbeats 4000000 in
theorem beFreeX3_2_c {xs : List Int32} {e : Nat} {ac : Int} {M0 M : nM} {Mz : nM} (hS : Sf 2 ac M0 M) (hmz : M = Mz) : ∀ nn : Nat, (∀ (x3 : Int) (M : nM), Sf 2 ac M0 M → (-1 ≤ x3 ∧ x3 ≤ 7) → (∀ a i : Int, a ≠ 44 → a ≠ 45 → M a i = Mz a i) → (M 44 5 = 2) → (M 44 0 = 3) → (M 44 1 = 0) → (M 44 2 = 7 - x3) → (M 44 3 = 0) → (∀ r : Int, x3 < r → r < 8 → M 45 r = 7 - r) → (x3 - (-1)) * 1 + 1 < (nn : Int) → nW xs (e + 2) 20 15 [some (2, 44), none, some (2, 4), some (0, x3)] [] M (nPV fun M1 => Sf 2 ac M0 M1 ∧ (M1 44 0 = 3 ∧ M1 44 1 = 0 ∧ M1 44 2 = 8 ∧ M1 44 3 = 0 ∧ M1 44 5 = 2) ∧ (∀ i : Int, 0 ≤ i → i < 8 → M1 45 i = 7 - i % 8) ∧ (∀ a i : Int, a ≠ 44 → a ≠ 45 → M1 a i = Mz a i))) := by
  have hd : (2 : Int) = 2 ∨ (2 : Int) = 3 := by decide
  have hac := hS.2.2.2.2
  intro nn
  induction nn with
  | zero => intros; omega
  | succ nn ih =>
    intro x3 M hS k3 v0 v1 v2 v3 v4 v5 v6 hnn
    refine n_iload_n c_20_15 rfl ?_
    refine n_if0_lt c_20_16 (by omega) ?_ ?_
    · intro h1
      refine n_aload_n c_20_42 rfl (n_aload_n c_20_43 rfl (n_v1V c_20_44 rfl sc_44.n rfl rfl rfl rfl (repeatX3_2 (Ms := M) hS (by rfl) (by omega)) ?_))
      intro  M2 hP3
      obtain ⟨hS2, f3p0, f3p1⟩ := hP3
      exact n_rV c_20_47 rfl ⟨hS2, by have y := fun i => f3p1 44 i (by omega); exact ⟨by rw [y]; exact v2, by rw [y]; exact v3, by rw [y]; omega, by rw [y]; exact v5, by rw [y]; exact v1⟩, by exact fun i h0 h1 => by rw [f3p0 i h0 h1, v6 _ (by omega) (by omega)], by exact fun a i h1 h2 => by rw [f3p1 a i h2]; exact v0 a i h1 h2⟩
    · intro h4
      refine n_aload_n c_20_19 rfl (n_getR c_20_20 sc_44.n rfl rfl rfl r_44_4 (n_iload_n c_20_23 rfl (n_aload_n c_20_24 rfl (n_dup2 c_20_25 (n_getV (bi := 2) c_20_26 sc_44.n rfl rfl rfl (t_44_2 hS) ?_)))))
      intro z5 ez5 f6
      refine n_dup_x102 c_20_29 (n_iconst c_20_30 (n_iadd c_20_31 rfl (n_putV (bi := 2) hS c_20_32 sc_44.n rfl rfl rfl rfl (w_44_2 (by omega)) ?_)))
      intro M7 eM7 hS7
      have g7_0 : M7 44 2 = (z5 + 1) := by rw [eM7]; exact nu_s _ _ _ _
      refine n_iastoreV hS7 c_20_35 sc_45.n rfl (by omega) (w_45 (by omega) (by omega)) ?_
      intro M8 eM8 hS8
      have g8_0 : M8 44 2 = M7 44 2 := by rw [eM8]; exact nu_a (by omega)
      refine n_iinc (L2 := [some (2, 44), none, some (2, 4), some (0, (x3 + (-1)))]) c_20_36 rfl rfl rfl (n_goto c_20_39 (n_fg (le_s (le_n (le_s (le_s le_0)))) ?_))
      exact ih _ M8 hS8 (by omega) (by exact fun a i h1 h2 => by rw [eM8, nu_a h2, eM7, nu_a h1]; exact v0 a i h1 h2) (by rw [eM8, nu_a (by omega), eM7, nu_i (by omega)]; exact v1) (by rw [eM8, nu_a (by omega), eM7, nu_i (by omega)]; exact v2) (by rw [eM8, nu_a (by omega), eM7, nu_i (by omega)]; exact v3) (by rw [eM8, nu_a (by omega), eM7, nu_s]; omega) (by rw [eM8, nu_a (by omega), eM7, nu_i (by omega)]; exact v5) (by exact fun r h0 h1 => by rw [eM8, nu_e]; by_cases y : r = x3; (rw [if_pos ⟨rfl, y⟩]; omega); (rw [if_neg (fun q => y q.2), eM7, nu_a (by omega)]; exact v6 r (by omega) h1)) (by omega)
set_option maxHeartbeats 4000000 in
theorem beFreeX3_2 {xs : List Int32} {e : Nat} {ac : Int} {M0 M : nM} {Mz : nM} (hS : Sf 2 ac M0 M) (hmz : M = Mz) : nW xs (e + 2) 20 0 [some (2, 44), some (0, 3), some (2, 4), none] [] M (nPV fun M1 => Sf 2 ac M0 M1 ∧ (M1 44 0 = 3 ∧ M1 44 1 = 0 ∧ M1 44 2 = 8 ∧ M1 44 3 = 0 ∧ M1 44 5 = 2) ∧ (∀ i : Int, 0 ≤ i → i < 8 → M1 45 i = 7 - i % 8) ∧ (∀ a i : Int, a ≠ 44 → a ≠ 45 → M1 a i = Mz a i)) := by
  have hd : (2 : Int) = 2 ∨ (2 : Int) = 3 := by decide
  have hac := hS.2.2.2.2
  refine n_aload_n c_20_0 rfl (n_iload_n c_20_1 rfl (n_iconst c_20_2 (n_aload_n c_20_3 rfl (n_v3V c_20_4 rfl sc_44.n rfl rfl rfl rfl (beginX_2 (n := 3) (c := 0) hS (by omega) (by omega)) ?_))))
  intro  M1 hP2
  obtain ⟨hS1, f2p0, f2p1⟩ := hP2
  refine n_aload_n c_20_7 rfl (n_iload_n c_20_8 rfl (n_v1I c_20_9 rfl sc_4.n rfl rfl rfl rfl (power3_2  hS1 ) ?_))
  intro z3 M4 hP5
  obtain ⟨eM, f5⟩ := hP5
  subst eM
  obtain rfl : z3 = 8 := by omega
  refine n_iconst c_20_12 (n_isub c_20_13 rfl (n_istore_n (L2 := [some (2, 44), some (0, 3), some (2, 4), some (0, (8 - 1))]) c_20_14 rfl rfl (n_fg (le_s (le_n (le_s (le_s le_0)))) ?_)))
  exact (beFreeX3_2_c hS hmz 30) _ M1 hS1 (by omega) (by exact fun a i h1 h2 => by rw [f2p1 a i h1, hmz]) (by exact f2p0.1) (by exact f2p0.2.1) (by exact f2p0.2.2.1) (by omega) (by exact f2p0.2.2.2.2) (by exact fun r h0 h1 => by omega) (by omega)
