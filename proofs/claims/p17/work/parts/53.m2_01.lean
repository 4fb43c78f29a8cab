/-! The methods, by program. -/
set_option maxHeartbeats 4000000 in
theorem changeIn20_3_2 {xs : List Int32} {e : Nat} {ac : Int} {M0 M : nM} {i j g g2 : Int} (hS : Sf 2 ac M0 M) (hi : 0 ≤ i ∧ i ≤ 256) (hj : 0 ≤ j ∧ j ≤ 256) (hK : MK 256 8 7 56 192 1 2 4 8 16 32 64 128 0 M) (hg : M 15 10 = g) (hg2 : M 109 2 = g2) (hig : i < g) (hjg : j < g) : nW xs e 61 0 [some (2, 15), some (2, 20), some (0, i), some (0, j), none] [] M (nPV fun M1 => Sf 2 ac M0 M1 ∧ (M1 15 10 = g) ∧ (M1 109 2 = g2) ∧ MK 256 8 7 56 192 1 2 4 8 16 32 64 128 0 M1) := by
  have hd : (2 : Int) = 2 ∨ (2 : Int) = 3 := by decide
  have hac := hS.2.2.2.2
  refine n_aload_n c_61_0 rfl (n_iload_n c_61_1 rfl (n_ialoadV c_61_2 sc_20.n rfl rfl rfl (by omega) (hK.r20 hS (by omega) (by omega)) ?_))
  intro z1 ez1 f2
  refine n_istore (L2 := [some (2, 15), some (2, 20), some (0, i), some (0, j), some (0, z1)]) c_61_3 rfl rfl (n_aload_n c_61_5 rfl (n_iload_n c_61_6 rfl (n_aload_n c_61_7 rfl (n_iload_n c_61_8 rfl (n_ialoadV c_61_9 sc_20.n rfl rfl rfl (by omega) (hK.r20 hS (by omega) (by omega)) ?_)))))
  intro z3 ez3 f4
  refine n_iastoreV hS c_61_10 sc_20.n rfl (by omega) (w_20 (by omega) (by omega)) ?_
  intro M5 eM5 hS5
  have hK5 := hK.u (by unfold Kok; omega) eM5
  have g5_0 : M5 15 10 = M 15 10 := by rw [eM5]; exact nu_a (by omega)
  have g5_1 : M5 109 2 = M 109 2 := by rw [eM5]; exact nu_a (by omega)
  refine n_aload_n c_61_11 rfl (n_iload_n c_61_12 rfl (n_iload c_61_13 rfl (n_iastoreV hS5 c_61_15 sc_20.n rfl (by omega) (w_20 (by omega) (by omega)) ?_)))
  intro M6 eM6 hS6
  have hK6 := hK5.u (by unfold Kok; omega) eM6
  have g6_0 : M6 15 10 = M5 15 10 := by rw [eM6]; exact nu_a (by omega)
  have g6_1 : M6 109 2 = M5 109 2 := by rw [eM6]; exact nu_a (by omega)
  exact n_rV c_61_16 rfl ⟨hS6, by omega, by omega, hK6⟩

set_option maxHeartbeats 4000000 in
theorem changeIn21_3_2 {xs : List Int32} {e : Nat} {ac : Int} {M0 M : nM} {i j g g2 : Int} (hS : Sf 2 ac M0 M) (hi : 0 ≤ i ∧ i ≤ 256) (hj : 0 ≤ j ∧ j ≤ 256) (hK : MK 256 8 7 56 192 1 2 4 8 16 32 64 128 0 M) (hg : M 15 10 = g) (hg2 : M 109 2 = g2) (hig : i < g) (hjg : j < g) : nW xs e 61 0 [some (2, 15), some (2, 21), some (0, i), some (0, j), none] [] M (nPV fun M1 => Sf 2 ac M0 M1 ∧ (M1 15 10 = g) ∧ (M1 109 2 = g2) ∧ MK 256 8 7 56 192 1 2 4 8 16 32 64 128 0 M1) := by
  have hd : (2 : Int) = 2 ∨ (2 : Int) = 3 := by decide
  have hac := hS.2.2.2.2
  refine n_aload_n c_61_0 rfl (n_iload_n c_61_1 rfl (n_ialoadV c_61_2 sc_21.n rfl rfl rfl (by omega) (t_21 hS (by omega)) ?_))
  intro z1 ez1 f2
  refine n_istore (L2 := [some (2, 15), some (2, 21), some (0, i), some (0, j), some (0, z1)]) c_61_3 rfl rfl (n_aload_n c_61_5 rfl (n_iload_n c_61_6 rfl (n_aload_n c_61_7 rfl (n_iload_n c_61_8 rfl (n_ialoadV c_61_9 sc_21.n rfl rfl rfl (by omega) (t_21 hS (by omega)) ?_)))))
  intro z3 ez3 f4
  refine n_iastoreV hS c_61_10 sc_21.n rfl (by omega) (w_21 (by omega) (by omega)) ?_
  intro M5 eM5 hS5
  have hK5 := hK.u (by unfold Kok; omega) eM5
  have g5_0 : M5 15 10 = M 15 10 := by rw [eM5]; exact nu_a (by omega)
  have g5_1 : M5 109 2 = M 109 2 := by rw [eM5]; exact nu_a (by omega)
  refine n_aload_n c_61_11 rfl (n_iload_n c_61_12 rfl (n_iload c_61_13 rfl (n_iastoreV hS5 c_61_15 sc_21.n rfl (by omega) (w_21 (by omega) (by omega)) ?_)))
  intro M6 eM6 hS6
  have hK6 := hK5.u (by unfold Kok; omega) eM6
  have g6_0 : M6 15 10 = M5 15 10 := by rw [eM6]; exact nu_a (by omega)
  have g6_1 : M6 109 2 = M5 109 2 := by rw [eM6]; exact nu_a (by omega)
  exact n_rV c_61_16 rfl ⟨hS6, by omega, by omega, hK6⟩

set_option maxHeartbeats 4000000 in
theorem changeIn22_3_2 {xs : List Int32} {e : Nat} {ac : Int} {M0 M : nM} {i j g g2 : Int} (hS : Sf 2 ac M0 M) (hi : 0 ≤ i ∧ i ≤ 256) (hj : 0 ≤ j ∧ j ≤ 256) (hK : MK 256 8 7 56 192 1 2 4 8 16 32 64 128 0 M) (hg : M 15 10 = g) (hg2 : M 109 2 = g2) (hig : i < g) (hjg : j < g) : nW xs e 61 0 [some (2, 15), some (2, 22), some (0, i), some (0, j), none] [] M (nPV fun M1 => Sf 2 ac M0 M1 ∧ (M1 15 10 = g) ∧ (M1 109 2 = g2) ∧ MK 256 8 7 56 192 1 2 4 8 16 32 64 128 0 M1) := by
  have hd : (2 : Int) = 2 ∨ (2 : Int) = 3 := by decide
  have hac := hS.2.2.2.2
  refine n_aload_n c_61_0 rfl (n_iload_n c_61_1 rfl (n_ialoadV c_61_2 sc_22.n rfl rfl rfl (by omega) (hK.r22 hS (by omega) (by omega)) ?_))
  intro z1 ez1 f2
  refine n_istore (L2 := [some (2, 15), some (2, 22), some (0, i), some (0, j), some (0, z1)]) c_61_3 rfl rfl (n_aload_n c_61_5 rfl (n_iload_n c_61_6 rfl (n_aload_n c_61_7 rfl (n_iload_n c_61_8 rfl (n_ialoadV c_61_9 sc_22.n rfl rfl rfl (by omega) (hK.r22 hS (by omega) (by omega)) ?_)))))
  intro z3 ez3 f4
  refine n_iastoreV hS c_61_10 sc_22.n rfl (by omega) (w_22 (by omega) (by omega)) ?_
  intro M5 eM5 hS5
  have hK5 := hK.u (by unfold Kok; omega) eM5
  have g5_0 : M5 15 10 = M 15 10 := by rw [eM5]; exact nu_a (by omega)
  have g5_1 : M5 109 2 = M 109 2 := by rw [eM5]; exact nu_a (by omega)
  refine n_aload_n c_61_11 rfl (n_iload_n c_61_12 rfl (n_iload c_61_13 rfl (n_iastoreV hS5 c_61_15 sc_22.n rfl (by omega) (w_22 (by omega) (by omega)) ?_)))
  intro M6 eM6 hS6
  have hK6 := hK5.u (by unfold Kok; omega) eM6
  have g6_0 : M6 15 10 = M5 15 10 := by rw [eM6]; exact nu_a (by omega)
  have g6_1 : M6 109 2 = M5 109 2 := by rw [eM6]; exact nu_a (by omega)
  exact n_rV c_61_16 rfl ⟨hS6, by omega, by omega, hK6⟩

set_option maxHeartbeats 4000000 in
theorem changeIn23_3_2 {xs : List Int32} {e : Nat} {ac : Int} {M0 M : nM} {i j g g2 : Int} (hS : Sf 2 ac M0 M) (hi : 0 ≤ i ∧ i ≤ 256) (hj : 0 ≤ j ∧ j ≤ 256) (hK : MK 256 8 7 56 192 1 2 4 8 16 32 64 128 0 M) (hg : M 15 10 = g) (hg2 : M 109 2 = g2) (hig : i < g) (hjg : j < g) : nW xs e 61 0 [some (2, 15), some (2, 23), some (0, i), some (0, j), none] [] M (nPV fun M1 => Sf 2 ac M0 M1 ∧ (M1 15 10 = g) ∧ (M1 109 2 = g2) ∧ MK 256 8 7 56 192 1 2 4 8 16 32 64 128 0 M1) := by
  have hd : (2 : Int) = 2 ∨ (2 : Int) = 3 := by decide
  have hac := hS.2.2.2.2
  refine n_aload_n c_61_0 rfl (n_iload_n c_61_1 rfl (n_ialoadV c_61_2 sc_23.n rfl rfl rfl (by omega) (hK.r23 hS (by omega) (by omega)) ?_))
  intro z1 ez1 f2
  refine n_istore (L2 := [some (2, 15), some (2, 23), some (0, i), some (0, j), some (0, z1)]) c_61_3 rfl rfl (n_aload_n c_61_5 rfl (n_iload_n c_61_6 rfl (n_aload_n c_61_7 rfl (n_iload_n c_61_8 rfl (n_ialoadV c_61_9 sc_23.n rfl rfl rfl (by omega) (hK.r23 hS (by omega) (by omega)) ?_)))))
  intro z3 ez3 f4
  refine n_iastoreV hS c_61_10 sc_23.n rfl (by omega) (w_23 (by omega) (by omega)) ?_
  intro M5 eM5 hS5
  have hK5 := hK.u (by unfold Kok; omega) eM5
  have g5_0 : M5 15 10 = M 15 10 := by rw [eM5]; exact nu_a (by omega)
  have g5_1 : M5 109 2 = M 109 2 := by rw [eM5]; exact nu_a (by omega)
  refine n_aload_n c_61_11 rfl (n_iload_n c_61_12 rfl (n_iload c_61_13 rfl (n_iastoreV hS5 c_61_15 sc_23.n rfl (by omega) (w_23 (by omega) (by omega)) ?_)))
  intro M6 eM6 hS6
  have hK6 := hK5.u (by unfold Kok; omega) eM6
  have g6_0 : M6 15 10 = M5 15 10 := by rw [eM6]; exact nu_a (by omega)
  have g6_1 : M6 109 2 = M5 109 2 := by rw [eM6]; exact nu_a (by omega)
  exact n_rV c_61_16 rfl ⟨hS6, by omega, by omega, hK6⟩

set_option maxHeartbeats 4000000 in
theorem changeIn24_3_2 {xs : List Int32} {e : Nat} {ac : Int} {M0 M : nM} {i j g g2 : Int} (hS : Sf 2 ac M0 M) (hi : 0 ≤ i ∧ i ≤ 256) (hj : 0 ≤ j ∧ j ≤ 256) (hK : MK 256 8 7 56 192 1 2 4 8 16 32 64 128 0 M) (hg : M 15 10 = g) (hg2 : M 109 2 = g2) (hig : i < g) (hjg : j < g) : nW xs e 61 0 [some (2, 15), some (2, 24), some (0, i), some (0, j), none] [] M (nPV fun M1 => Sf 2 ac M0 M1 ∧ (M1 15 10 = g) ∧ (M1 109 2 = g2) ∧ MK 256 8 7 56 192 1 2 4 8 16 32 64 128 0 M1) := by
  have hd : (2 : Int) = 2 ∨ (2 : Int) = 3 := by decide
  have hac := hS.2.2.2.2
  refine n_aload_n c_61_0 rfl (n_iload_n c_61_1 rfl (n_ialoadV c_61_2 sc_24.n rfl rfl rfl (by omega) (hK.r24 hS (by omega) (by omega)) ?_))
  intro z1 ez1 f2
  refine n_istore (L2 := [some (2, 15), some (2, 24), some (0, i), some (0, j), some (0, z1)]) c_61_3 rfl rfl (n_aload_n c_61_5 rfl (n_iload_n c_61_6 rfl (n_aload_n c_61_7 rfl (n_iload_n c_61_8 rfl (n_ialoadV c_61_9 sc_24.n rfl rfl rfl (by omega) (hK.r24 hS (by omega) (by omega)) ?_)))))
  intro z3 ez3 f4
  refine n_iastoreV hS c_61_10 sc_24.n rfl (by omega) (w_24 (by omega) (by omega)) ?_
  intro M5 eM5 hS5
  have hK5 := hK.u (by unfold Kok; omega) eM5
  have g5_0 : M5 15 10 = M 15 10 := by rw [eM5]; exact nu_a (by omega)
  have g5_1 : M5 109 2 = M 109 2 := by rw [eM5]; exact nu_a (by omega)
  refine n_aload_n c_61_11 rfl (n_iload_n c_61_12 rfl (n_iload c_61_13 rfl (n_iastoreV hS5 c_61_15 sc_24.n rfl (by omega) (w_24 (by omega) (by omega)) ?_)))
  intro M6 eM6 hS6
  have hK6 := hK5.u (by unfold Kok; omega) eM6
  have g6_0 : M6 15 10 = M5 15 10 := by rw [eM6]; exact nu_a (by omega)
  have g6_1 : M6 109 2 = M5 109 2 := by rw [eM6]; exact nu_a (by omega)
  exact n_rV c_61_16 rfl ⟨hS6, by omega, by omega, hK6⟩

set_option maxHeartbeats 4000000 in
theorem change_3_2 {xs : List Int32} {e : Nat} {ac : Int} {M0 M : nM} {i j g g2 : Int} (hS : Sf 2 ac M0 M) (hi : 0 ≤ i ∧ i ≤ 256) (hj : 0 ≤ j ∧ j ≤ 256) (hK : MK 256 8 7 56 192 1 2 4 8 16 32 64 128 0 M) (hg : M 15 10 = g) (hg2 : M 109 2 = g2) (hig : i < g) (hjg : j < g) : nW xs (e + 1) 60 0 [some (2, 15), some (0, i), some (0, j)] [] M (nPV fun M1 => Sf 2 ac M0 M1 ∧ (M1 15 10 = g) ∧ (M1 109 2 = g2) ∧ MK 256 8 7 56 192 1 2 4 8 16 32 64 128 0 M1) := by
  have hd : (2 : Int) = 2 ∨ (2 : Int) = 3 := by decide
  have hac := hS.2.2.2.2
  refine n_aload_n c_60_0 rfl (n_aload_n c_60_1 rfl (n_getR c_60_2 sc_15.n rfl rfl rfl r_15_1 (n_iload_n c_60_5 rfl (n_iload_n c_60_6 rfl (n_v3V c_60_7 rfl sc_15.n rfl rfl rfl rfl (changeIn20_3_2 (i := i) (j := j) (g := (M 15 10)) (g2 := (M 109 2)) hS (by omega) (by omega) hK rfl rfl (by omega) (by omega)) ?_)))))
  intro  M1 hP2
  obtain ⟨hS1, f2g0, f2g1, f2K⟩ := hP2
  refine n_aload_n c_60_10 rfl (n_aload_n c_60_11 rfl (n_getR c_60_12 sc_15.n rfl rfl rfl r_15_2 (n_iload_n c_60_15 rfl (n_iload_n c_60_16 rfl (n_v3V c_60_17 rfl sc_15.n rfl rfl rfl rfl (changeIn21_3_2 (i := i) (j := j) (g := (M1 15 10)) (g2 := (M1 109 2)) hS1 (by omega) (by omega) f2K rfl rfl (by omega) (by omega)) ?_)))))
  intro  M3 hP4
  obtain ⟨hS3, f4g0, f4g1, f4K⟩ := hP4
  refine n_aload_n c_60_20 rfl (n_aload_n c_60_21 rfl (n_getR c_60_22 sc_15.n rfl rfl rfl r_15_3 (n_iload_n c_60_25 rfl (n_iload_n c_60_26 rfl (n_v3V c_60_27 rfl sc_15.n rfl rfl rfl rfl (changeIn22_3_2 (i := i) (j := j) (g := (M3 15 10)) (g2 := (M3 109 2)) hS3 (by omega) (by omega) f4K rfl rfl (by omega) (by omega)) ?_)))))
  intro  M5 hP6
  obtain ⟨hS5, f6g0, f6g1, f6K⟩ := hP6
  refine n_aload_n c_60_30 rfl (n_aload_n c_60_31 rfl (n_getR c_60_32 sc_15.n rfl rfl rfl r_15_4 (n_iload_n c_60_35 rfl (n_iload_n c_60_36 rfl (n_v3V c_60_37 rfl sc_15.n rfl rfl rfl rfl (changeIn23_3_2 (i := i) (j := j) (g := (M5 15 10)) (g2 := (M5 109 2)) hS5 (by omega) (by omega) f6K rfl rfl (by omega) (by omega)) ?_)))))
  intro  M7 hP8
  obtain ⟨hS7, f8g0, f8g1, f8K⟩ := hP8
  refine n_aload_n c_60_40 rfl (n_aload_n c_60_41 rfl (n_getR c_60_42 sc_15.n rfl rfl rfl r_15_5 (n_iload_n c_60_45 rfl (n_iload_n c_60_46 rfl (n_v3V c_60_47 rfl sc_15.n rfl rfl rfl rfl (changeIn24_3_2 (i := i) (j := j) (g := (M7 15 10)) (g2 := (M7 109 2)) hS7 (by omega) (by omega) f8K rfl rfl (by omega) (by omega)) ?_)))))
  intro  M9 hP10
  obtain ⟨hS9, f10g0, f10g1, f10K⟩ := hP10
  refine n_aload_n c_60_50 rfl (n_getP c_60_51 ?_)
  intro p11 ep11
  refine n_aload_n c_60_54 rfl (n_getR c_60_55 sc_15.n rfl rfl rfl r_15_1 (n_iload_n c_60_58 rfl (n_ialoadV c_60_59 sc_20.n rfl rfl rfl (by omega) (f10K.r20 hS9 (by omega) (by omega)) ?_)))
  intro z12 ez12 f13
  refine n_iload_n c_60_60 rfl (n_iconst c_60_61 (n_iadd c_60_62 rfl (n_iastoreP hS9 f10K c_60_63 ep11 (by omega) (by omega) ?_)))
  intro M14 fM14 hS14 hK14
  have g14_0 := fM14 15 10 (by omega) (by omega)
  have g14_1 := fM14 109 2 (by omega) (by omega)
  refine n_aload_n c_60_64 rfl (n_getP c_60_65 ?_)
  intro p15 ep15
  refine n_aload_n c_60_68 rfl (n_getR c_60_69 sc_15.n rfl rfl rfl r_15_1 (n_iload_n c_60_72 rfl (n_ialoadV c_60_73 sc_20.n rfl rfl rfl (by omega) (hK14.r20 hS14 (by omega) (by omega)) ?_)))
  intro z16 ez16 f17
  refine n_iload_n c_60_74 rfl (n_iconst c_60_75 (n_iadd c_60_76 rfl (n_iastoreP hS14 hK14 c_60_77 ep15 (by omega) (by omega) ?_)))
  intro M18 fM18 hS18 hK18
  have g18_0 := fM18 15 10 (by omega) (by omega)
  have g18_1 := fM18 109 2 (by omega) (by omega)
  exact n_rV c_60_78 rfl ⟨hS18, by omega, by omega, hK18⟩

set_option maxHeartbeats 4000000 in
theorem bringLeast_3_2_c {xs : List Int32} {e : Nat} {ac : Int} {M0 M : nM} {e0 g g2 : Int} (hS : Sf 2 ac M0 M) (he0 : 0 ≤ e0 ∧ e0 ≤ 256) (hK : MK 256 8 7 56 192 1 2 4 8 16 32 64 128 0 M) (hg : M 15 10 = g) (hg2 : M 109 2 = g2) (heg : e0 < g) : ∀ nn : Nat, (∀ (x2 x3 : Int) (M : nM), Sf 2 ac M0 M → (0 ≤ x2 ∧ x2 ≤ 256) → (1 ≤ x3 ∧ x3 ≤ 257) → (MK 256 8 7 56 192 1 2 4 8 16 32 64 128 0 M) → (M 15 10 = g) → (M 109 2 = g2) → (x2 < g) → (257 - x3) * 1 + 1 < (nn : Int) → nW xs (e + 2) 57 6 [some (2, 15), some (0, e0), some (0, x2), some (0, x3)] [] M (nPV fun M1 => Sf 2 ac M0 M1 ∧ (M1 15 10 = g) ∧ (M1 109 2 = g2) ∧ MK 256 8 7 56 192 1 2 4 8 16 32 64 128 0 M1)) := by
  have hd : (2 : Int) = 2 ∨ (2 : Int) = 3 := by decide
  have hac := hS.2.2.2.2
  intro nn
  induction nn with
  | zero => intros; omega
  | succ nn ih =>
    intro x2 x3 M hS k2 k3 hK hgg hgg2 v0 hnn
    refine n_iload_n c_57_6 rfl (n_aload_n c_57_7 rfl (n_getV (bi := 10) c_57_8 sc_15.n rfl rfl rfl (t_15_10 hS) ?_))
    intro z1 ez1 f2
    refine n_if2_ge c_57_11 (by omega) (by omega) ?_ ?_
    · intro h3
      refine n_aload_n c_57_31 rfl (n_iload_n c_57_32 rfl (n_iload_n c_57_33 rfl (n_v2V c_57_34 rfl sc_15.n rfl rfl rfl rfl (change_3_2 (i := e0) (j := x2) (g := (M 15 10)) (g2 := (M 109 2)) hS (by omega) (by omega) hK rfl rfl (by omega) (by omega)) ?_)))
      intro  M4 hP5
      obtain ⟨hS4, f5g0, f5g1, f5K⟩ := hP5
      exact n_rV c_57_37 rfl ⟨hS4, by omega, by omega, f5K⟩
    · intro h6
      refine n_aload_n c_57_14 rfl (n_iload_n c_57_15 rfl (n_iload_n c_57_16 rfl (n_v2I c_57_17 rfl sc_15.n rfl rfl rfl rfl (isAhead_2 (i := x3) (j := x2) hS (by omega) (by omega)) ?_)))
      intro z7 M8 hP9
      obtain ⟨eM, f9⟩ := hP9
      subst eM
      refine n_if0_eq c_57_20 (by omega) ?_ ?_
      · intro h10
        refine n_iinc (L2 := [some (2, 15), some (0, e0), some (0, x2), some (0, (x3 + 1))]) c_57_25 rfl rfl rfl (n_goto c_57_28 (n_fg (le_s (le_s (le_s (le_s le_0)))) ?_))
        exact ih _ _ M hS (by omega) (by omega) hK (by omega) (by omega) (by omega) (by omega)
      · intro h11
        refine n_iload_n c_57_23 rfl (n_istore_n (L2 := [some (2, 15), some (0, e0), some (0, x3), some (0, x3)]) c_57_24 rfl rfl (n_iinc (L2 := [some (2, 15), some (0, e0), some (0, x3), some (0, (x3 + 1))]) c_57_25 rfl rfl rfl (n_goto c_57_28 (n_fg (le_s (le_s (le_s (le_s le_0)))) ?_))))
        exact ih _ _ M hS (by omega) (by omega) hK (by omega) (by omega) (by omega) (by omega)
set_option maxHeartbeats 4000000 in
theorem bringLeast_3_2 {xs : List Int32} {e : Nat} {ac : Int} {M0 M : nM} {e0 g g2 : Int} (hS : Sf 2 ac M0 M) (he0 : 0 ≤ e0 ∧ e0 ≤ 256) (hK : MK 256 8 7 56 192 1 2 4 8 16 32 64 128 0 M) (hg : M 15 10 = g) (hg2 : M 109 2 = g2) (heg : e0 < g) : nW xs (e + 2) 57 0 [some (2, 15), some (0, e0), none, none] [] M (nPV fun M1 => Sf 2 ac M0 M1 ∧ (M1 15 10 = g) ∧ (M1 109 2 = g2) ∧ MK 256 8 7 56 192 1 2 4 8 16 32 64 128 0 M1) := by
  have hd : (2 : Int) = 2 ∨ (2 : Int) = 3 := by decide
  have hac := hS.2.2.2.2
  refine n_iload_n c_57_0 rfl (n_istore_n (L2 := [some (2, 15), some (0, e0), some (0, e0), none]) c_57_1 rfl rfl (n_iload_n c_57_2 rfl (n_iconst c_57_3 (n_iadd c_57_4 rfl (n_istore_n (L2 := [some (2, 15), some (0, e0), some (0, e0), some (0, (e0 + 1))]) c_57_5 rfl rfl (n_fg (le_s (le_s (le_s (le_s le_0)))) ?_))))))
  exact (bringLeast_3_2_c hS he0 hK hg hg2 heg 526) _ _ M hS (by omega) (by omega) hK (by omega) (by omega) (by omega) (by omega)

set_option maxHeartbeats 4000000 in
theorem end_3_2_c {xs : List Int32} {e : Nat} {ac : Int} {M0 M : nM} (hS : Sf 2 ac M0 M) (hK : MK 256 8 7 56 192 1 2 4 8 16 32 64 128 0 M) : ∀ nn : Nat, (∀ (x2 : Int) (M : nM), Sf 2 ac M0 M → (0 ≤ x2 ∧ x2 ≤ 256) → (MK 256 8 7 56 192 1 2 4 8 16 32 64 128 0 M) → (M 109 2 ≤ M 15 10) → (256 - x2) * 1 + 260 < (nn : Int) → nW xs (e + 3) 62 45 [some (2, 15), some (2, 109), some (0, x2)] [] M (nPV fun M1 => Sf 2 ac M0 M1 ∧ MK 256 8 7 56 192 1 2 4 8 16 32 64 128 0 M1)) ∧ (∀ (x2 : Int) (M : nM), Sf 2 ac M0 M → (0 ≤ x2 ∧ x2 ≤ 257) → (MK 256 8 7 56 192 1 2 4 8 16 32 64 128 0 M) → (257 - x2) * 1 + 1 < (nn : Int) → nW xs (e + 3) 62 90 [some (2, 15), none, some (0, x2)] [] M (nPV fun M1 => Sf 2 ac M0 M1 ∧ MK 256 8 7 56 192 1 2 4 8 16 32 64 128 0 M1)) := by
  have hd : (2 : Int) = 2 ∨ (2 : Int) = 3 := by decide
  have hac := hS.2.2.2.2
  intro nn
  induction nn with
  | zero => refine ⟨?_, ?_⟩ <;> (intros; omega)
  | succ nn ih =>
    refine ⟨?_, ?_⟩
    · intro x2 M hS k2 hK v0 hnn
      refine n_iload_n c_62_45 rfl (n_aload_n c_62_46 rfl (n_getV (bi := 2) c_62_47 made109.c0.1.n rfl rfl rfl (t_made hS made109).2.2 ?_))
      intro z1 ez1 f2
      refine n_if2_ge c_62_50 (by omega) (by omega) ?_ ?_
      · intro h3
        refine n_iconst c_62_88 (n_istore_n (L2 := [some (2, 15), some (2, 109), some (0, 0)]) c_62_89 rfl rfl (n_fg (le_s (le_n (le_s le_0))) ?_))
        exact ih.2 _ M hS (by omega) hK (by omega)
      · intro h4
        refine n_aload_n c_62_53 rfl (n_iload_n c_62_54 rfl (n_v1V c_62_55 rfl sc_15.n rfl rfl rfl rfl (bringLeast_3_2 (e0 := x2) (g := (M 15 10)) (g2 := (M 109 2)) hS (by omega) hK rfl rfl (by omega)) ?_))
        intro  M5 hP6
        obtain ⟨hS5, f6g0, f6g1, f6K⟩ := hP6
        refine n_aload_n c_62_58 rfl (n_getR c_62_59 made109.c0.1.n rfl rfl rfl made109.r.1 (n_iload_n c_62_62 rfl (n_aload_n c_62_63 rfl (n_getR c_62_64 sc_15.n rfl rfl rfl r_15_1 (n_iload_n c_62_67 rfl (n_ialoadV c_62_68 sc_20.n rfl rfl rfl (by omega) (f6K.r20 hS5 (by omega) (by omega)) ?_))))))
        intro z7 ez7 f8
        refine n_iastoreV hS5 c_62_69 made109.c0.2.1.n rfl (by omega) (w_mader made109 (Or.inl rfl) (by omega) (by omega)) ?_
        intro M9 eM9 hS9
        have hK9 := f6K.u (by unfold Kok; omega) eM9
        have g9_0 : M9 15 10 = M5 15 10 := by rw [eM9]; exact nu_a (by omega)
        have g9_1 : M9 109 2 = M5 109 2 := by rw [eM9]; exact nu_a (by omega)
        refine n_aload_n c_62_70 rfl (n_getR c_62_71 made109.c0.1.n rfl rfl rfl made109.r.2 (n_iload_n c_62_74 rfl (n_aload_n c_62_75 rfl (n_getR c_62_76 sc_15.n rfl rfl rfl r_15_2 (n_iload_n c_62_79 rfl (n_ialoadV c_62_80 sc_21.n rfl rfl rfl (by omega) (t_21 hS9 (by omega)) ?_))))))
        intro z10 ez10 f11
        refine n_iastoreV hS9 c_62_81 made109.c0.2.2.n rfl (by omega) (w_mader made109 (Or.inr rfl) (by omega) (by omega)) ?_
        intro M12 eM12 hS12
        have hK12 := hK9.u (by unfold Kok; omega) eM12
        have g12_0 : M12 15 10 = M9 15 10 := by rw [eM12]; exact nu_a (by omega)
        have g12_1 : M12 109 2 = M9 109 2 := by rw [eM12]; exact nu_a (by omega)
        refine n_iinc (L2 := [some (2, 15), some (2, 109), some (0, (x2 + 1))]) c_62_82 rfl rfl rfl (n_goto c_62_85 (n_fg (le_s (le_s (le_s le_0))) ?_))
        exact ih.1 _ M12 hS12 (by omega) hK12 (by omega) (by omega)
    · intro x2 M hS k2 hK hnn
      refine n_iload_n c_62_90 rfl (n_aload_n c_62_91 rfl (n_getV (bi := 10) c_62_92 sc_15.n rfl rfl rfl (t_15_10 hS) ?_))
      intro z1 ez1 f2
      refine n_if2_ge c_62_95 (by omega) (by omega) ?_ ?_
      · intro h3
        exact n_rV c_62_116 rfl ⟨hS, hK⟩
      · intro h4
        refine n_aload_n c_62_98 rfl (n_getP c_62_99 ?_)
        intro p5 ep5
        refine n_aload_n c_62_102 rfl (n_getR c_62_103 sc_15.n rfl rfl rfl r_15_1 (n_iload_n c_62_106 rfl (n_ialoadV c_62_107 sc_20.n rfl rfl rfl (by omega) (hK.r20 hS (by omega) (by omega)) ?_)))
        intro z6 ez6 f7
        refine n_iconst c_62_108 (n_iastoreP hS hK c_62_109 ep5 (by omega) (by omega) ?_)
        intro M8 fM8 hS8 hK8
        have g8_0 := fM8 15 10 (by omega) (by omega)
        refine n_iinc (L2 := [some (2, 15), none, some (0, (x2 + 1))]) c_62_110 rfl rfl rfl (n_goto c_62_113 (n_fg (le_s (le_n (le_s le_0))) ?_))
        exact ih.2 _ M8 hS8 (by omega) hK8 (by omega)
set_option maxHeartbeats 4000000 in
theorem end_3_2 {xs : List Int32} {e : Nat} {ac : Int} {M0 M : nM} (hS : Sf 2 ac M0 M) (hK : MK 256 8 7 56 192 1 2 4 8 16 32 64 128 0 M) : nW xs (e + 3) 62 0 [some (2, 15), some (2, 109), none] [] M (nPV fun M1 => Sf 2 ac M0 M1 ∧ MK 256 8 7 56 192 1 2 4 8 16 32 64 128 0 M1) := by
  have hd : (2 : Int) = 2 ∨ (2 : Int) = 3 := by decide
  have hac := hS.2.2.2.2
  refine n_aload_n c_62_0 rfl (n_iconst c_62_1 (n_putZV (bi := 0) hS c_62_2 made109.c0.1.n rfl rfl rfl (by omega) rfl (w_made made109 (by omega) (by omega)) ?_))
  intro M1 eM1 hS1
  have hK1 := hK.u (by unfold Kok; omega) eM1
  have g1_0 : M1 15 10 = M 15 10 := by rw [eM1]; exact nu_a (by omega)
  have g1_1 : M1 109 0 = 1 := by rw [eM1]; exact nu_s _ _ _ _
  refine n_aload_n c_62_5 rfl (n_aload_n c_62_6 rfl (n_getV (bi := 10) c_62_7 sc_15.n rfl rfl rfl (t_15_10 hS1) ?_))
  intro z2 ez2 f3
  refine n_sipush c_62_10 rfl ?_
  refine n_if2_le c_62_13 (by omega) (by omega) ?_ ?_
  · intro h4
    refine n_iconst c_62_20 (n_putZV (bi := 1) hS1 c_62_21 made109.c0.1.n rfl rfl rfl (by omega) rfl (w_made made109 (by omega) (by omega)) ?_)
    intro M5 eM5 hS5
    have hK5 := hK1.u (by unfold Kok; omega) eM5
    have g5_0 : M5 15 10 = M1 15 10 := by rw [eM5]; exact nu_a (by omega)
    have g5_1 : M5 109 0 = M1 109 0 := by rw [eM5]; exact nu_i (by omega)
    have g5_2 : M5 109 1 = 0 := by rw [eM5]; exact nu_s _ _ _ _
    refine n_aload_n c_62_24 rfl (n_aload_n c_62_25 rfl (n_getV (bi := 1) c_62_26 made109.c0.1.n rfl rfl rfl (t_made hS5 made109).2.1 ?_))
    intro z6 ez6 f7
    obtain rfl : z6 = 0 := by omega
    refine n_if0_eq c_62_29 (by omega) ?_ ?_
    · intro h8
      refine n_aload_n c_62_36 rfl (n_getV (bi := 10) c_62_37 sc_15.n rfl rfl rfl (t_15_10 hS5) ?_)
      intro z9 ez9 f10
      refine n_putV (bi := 2) hS5 c_62_40 made109.c0.1.n rfl rfl rfl rfl (w_made made109 (by omega) (by omega)) ?_
      intro M11 eM11 hS11
      have hK11 := hK5.u (by unfold Kok; omega) eM11
      have g11_0 : M11 15 10 = M5 15 10 := by rw [eM11]; exact nu_a (by omega)
      have g11_1 : M11 109 0 = M5 109 0 := by rw [eM11]; exact nu_i (by omega)
      have g11_2 : M11 109 1 = M5 109 1 := by rw [eM11]; exact nu_i (by omega)
      have g11_3 : M11 109 2 = z9 := by rw [eM11]; exact nu_s _ _ _ _
      refine n_iconst c_62_43 (n_istore_n (L2 := [some (2, 15), some (2, 109), some (0, 0)]) c_62_44 rfl rfl (n_fg (le_s (le_s (le_s le_0))) ?_))
      exact (end_3_2_c hS hK 1044).1 _ M11 hS11 (by omega) hK11 (by omega) (by omega)
    · intro h12
      exfalso; omega
  · intro h13
    refine n_iconst c_62_16 (n_goto c_62_17 (n_putZV (bi := 1) hS1 c_62_21 made109.c0.1.n rfl rfl rfl (by omega) rfl (w_made made109 (by omega) (by omega)) ?_))
    intro M14 eM14 hS14
    have hK14 := hK1.u (by unfold Kok; omega) eM14
    have g14_0 : M14 15 10 = M1 15 10 := by rw [eM14]; exact nu_a (by omega)
    have g14_1 : M14 109 0 = M1 109 0 := by rw [eM14]; exact nu_i (by omega)
    have g14_2 : M14 109 1 = 1 := by rw [eM14]; exact nu_s _ _ _ _
    refine n_aload_n c_62_24 rfl (n_aload_n c_62_25 rfl (n_getV (bi := 1) c_62_26 made109.c0.1.n rfl rfl rfl (t_made hS14 made109).2.1 ?_))
    intro z15 ez15 f16
    obtain rfl : z15 = 1 := by omega
    refine n_if0_eq c_62_29 (by omega) ?_ ?_
    · intro h17
      exfalso; omega
    · intro h18
      refine n_iconst c_62_32 (n_goto c_62_33 (n_putV (bi := 2) hS14 c_62_40 made109.c0.1.n rfl rfl rfl rfl (w_made made109 (by omega) (by omega)) ?_))
      intro M19 eM19 hS19
      have hK19 := hK14.u (by unfold Kok; omega) eM19
      have g19_0 : M19 15 10 = M14 15 10 := by rw [eM19]; exact nu_a (by omega)
      have g19_1 : M19 109 0 = M14 109 0 := by rw [eM19]; exact nu_i (by omega)
      have g19_2 : M19 109 1 = M14 109 1 := by rw [eM19]; exact nu_i (by omega)
      have g19_3 : M19 109 2 = 0 := by rw [eM19]; exact nu_s _ _ _ _
      refine n_iconst c_62_43 (n_istore_n (L2 := [some (2, 15), some (2, 109), some (0, 0)]) c_62_44 rfl rfl (n_fg (le_s (le_s (le_s le_0))) ?_))
      exact (end_3_2_c hS hK 1044).1 _ M19 hS19 (by omega) hK19 (by omega) (by omega)

set_option maxHeartbeats 4000000 in
theorem begin_3_2 {xs : List Int32} {e : Nat} {ac : Int} {M0 M : nM} (hS : Sf 2 ac M0 M) (hB : M 15 0 = 4) : nW xs (e + 3) 50 0 [some (2, 15), some (0, 3), none] [] M (nPV fun M1 => Sf 2 ac M0 M1 ∧ MK 256 8 7 56 192 1 2 4 8 16 32 64 128 0 M1) := by
  have hd : (2 : Int) = 2 ∨ (2 : Int) = 3 := by decide
  have hac := hS.2.2.2.2
  refine n_aload_n c_50_0 rfl (n_getB c_50_1 hB (n_iload_n c_50_4 rfl (n_v1I c_50_5 rfl sc_4.n rfl rfl rfl rfl (power3_2  hS ) ?_)))
  intro z1 M2 hP3
  obtain ⟨eM, f3⟩ := hP3
  subst eM
  obtain rfl : z1 = 8 := by omega
  refine n_istore_n (L2 := [some (2, 15), some (0, 3), some (0, 8)]) c_50_8 rfl rfl (n_aload_n c_50_9 rfl (n_getP c_50_10 ?_))
  intro p4 ep4
  refine n_alenP hS c_50_13 ep4 ?_
  intro z5 hz5
  refine n_aload_n c_50_14 rfl (n_getB c_50_15 hB (n_iload_n c_50_18 rfl (n_v1I c_50_19 rfl sc_4.n rfl rfl rfl rfl (codes3_2  hS ) ?_)))
  intro z6 M7 hP8
  obtain ⟨eM, f8⟩ := hP8
  subst eM
  obtain rfl : z6 = 256 := by omega
  refine n_if2_ge c_50_22 (by omega) (by omega) ?_ ?_
  · intro h9
    refine n_aload_n c_50_34 rfl (n_aload_n c_50_35 rfl (n_getR c_50_36 sc_15.n rfl rfl rfl r_15_6 (n_iconst c_50_39 (n_iload_n c_50_40 rfl (n_v3V c_50_41 rfl sc_15.n rfl rfl rfl rfl (weighFrom25_3_2 (Ms := M) hS (by exact hB)) ?_)))))
    intro  M10 hP11
    obtain ⟨hS10, f11p0, f11p1⟩ := hP11
    have hBM10 := (f11p0 15 0 (by omega) (by omega)).trans hB
    have hPM10 := f11p0 15 9 (by omega) (by omega)
    refine n_aload_n c_50_44 rfl (n_aload_n c_50_45 rfl (n_getR c_50_46 sc_15.n rfl rfl rfl r_15_7 (n_iconst c_50_49 (n_iload_n c_50_50 rfl (n_v3V c_50_51 rfl sc_15.n rfl rfl rfl rfl (weighFrom27_3_2 (Ms := M10) hS10 (by exact hBM10)) ?_)))))
    intro  M12 hP13
    obtain ⟨hS12, f13p0, f13p1⟩ := hP13
    have hBM12 := (f13p0 15 0 (by omega) (by omega)).trans hBM10
    have hPM12 := f13p0 15 9 (by omega) (by omega)
    have f11p1M12 := f11p1.of (fun i => f13p0 25 i (by omega) (by omega)) (fun i => f13p0 26 i (by omega) (by omega))
    refine n_aload_n c_50_54 rfl (n_aload_n c_50_55 rfl (n_getR c_50_56 sc_15.n rfl rfl rfl r_15_8 (n_bipush c_50_59 rfl (n_iload_n c_50_61 rfl (n_v3V c_50_62 rfl sc_15.n rfl rfl rfl rfl (weighFrom29_3_2 (Ms := M12) hS12 (by exact hBM12)) ?_)))))
    intro  M14 hP15
    obtain ⟨hS14, f15p0, f15p1⟩ := hP15
    have hBM14 := (f15p0 15 0 (by omega) (by omega)).trans hBM12
    have hPM14 := f15p0 15 9 (by omega) (by omega)
    have f11p1M12M14 := f11p1M12.of (fun i => f15p0 25 i (by omega) (by omega)) (fun i => f15p0 26 i (by omega) (by omega))
    have f13p1M14 := f13p1.of (fun i => f15p0 27 i (by omega) (by omega)) (fun i => f15p0 28 i (by omega) (by omega))
    refine n_aload_n c_50_65 rfl (n_iconst c_50_66 (n_putV (bi := 10) hS14 c_50_67 sc_15.n rfl rfl rfl rfl (w_15_10 (by omega)) ?_))
    intro M16 eM16 hS16
    have g16_0 : M16 15 10 = 0 := by rw [eM16]; exact nu_s _ _ _ _
    have qa : M16 15 0 = M14 15 0 := by rw [eM16]; exact nu_i (by omega)
    have qb : M16 15 9 = M14 15 9 := by rw [eM16]; exact nu_i (by omega)
    have hKb : MK 256 8 7 56 192 1 2 4 8 16 32 64 128 0 M16 := MK.mk0 (qa.trans hBM14) (by omega) (by omega) (by omega) (by omega) (f11p1M12M14.of (fun i => by rw [eM16]; exact nu_a (by omega)) (fun i => by rw [eM16]; exact nu_a (by omega))) (f13p1M14.of (fun i => by rw [eM16]; exact nu_a (by omega)) (fun i => by rw [eM16]; exact nu_a (by omega))) (f15p1.of (fun i => by rw [eM16]; exact nu_a (by omega)) (fun i => by rw [eM16]; exact nu_a (by omega)))
    refine n_aload_n c_50_70 rfl (n_aload_n c_50_71 rfl (n_aload_n c_50_72 rfl (n_getB c_50_73 hKb.b (n_getR c_50_76 sc_4.n rfl rfl rfl r_4_4 (n_iload_n c_50_79 rfl (n_v2I c_50_80 rfl sc_15.n rfl rfl rfl rfl (codeOf7_3_2  hS16 (by exact hKb.b)) ?_))))))
    intro z17 M18 hP19
    obtain ⟨eM, f19⟩ := hP19
    subst eM
    refine n_iconst c_50_83 (n_v2V c_50_84 rfl sc_15.n rfl rfl rfl rfl (add_3_2 (c := z17) (s := 0) hS16 (by omega) (by omega) hKb) ?_)
    intro  M20 hP21
    obtain ⟨hS20, f21K, f21p0⟩ := hP21
    refine n_iload_n c_50_87 rfl (n_iconst c_50_88 ?_)
    refine n_if2_le c_50_89 (by omega) (by omega) ?_ ?_
    · intro h22
      exfalso; omega
    · intro h23
      refine n_aload_n c_50_92 rfl (n_aload_n c_50_93 rfl (n_aload_n c_50_94 rfl (n_getB c_50_95 f21K.b (n_getR c_50_98 sc_4.n rfl rfl rfl r_4_3 (n_iload_n c_50_101 rfl (n_v2I c_50_102 rfl sc_15.n rfl rfl rfl rfl (codeOf6_3_2  hS20 (by exact f21K.b)) ?_))))))
      intro z24 M25 hP26
      obtain ⟨eM, f26⟩ := hP26
      subst eM
      refine n_iconst c_50_105 (n_v2V c_50_106 rfl sc_15.n rfl rfl rfl rfl (add_3_2 (c := z24) (s := 0) hS20 (by omega) (by omega) f21K) ?_)
      intro  M27 hP28
      obtain ⟨hS27, f28K, f28p0⟩ := hP28
      refine n_iload_n c_50_109 rfl (n_iconst c_50_110 ?_)
      refine n_if2_le c_50_111 (by omega) (by omega) ?_ ?_
      · intro h29
        exfalso; omega
      · intro h30
        refine n_aload_n c_50_114 rfl (n_aload_n c_50_115 rfl (n_aload_n c_50_116 rfl (n_getB c_50_117 f28K.b (n_getR c_50_120 sc_4.n rfl rfl rfl r_4_2 (n_iload_n c_50_123 rfl (n_v2I c_50_124 rfl sc_15.n rfl rfl rfl rfl (codeOf5_3_2  hS27 (by exact f28K.b)) ?_))))))
        intro z31 M32 hP33
        obtain ⟨eM, f33⟩ := hP33
        subst eM
        refine n_iconst c_50_127 (n_v2V c_50_128 rfl sc_15.n rfl rfl rfl rfl (add_3_2 (c := z31) (s := 0) hS27 (by omega) (by omega) f28K) ?_)
        intro  M34 hP35
        obtain ⟨hS34, f35K, f35p0⟩ := hP35
        exact n_rV c_50_131 rfl ⟨hS34, f35K⟩
  · intro h36
    exfalso; omega

set_option maxHeartbeats 4000000 in
theorem make_3_2_c {xs : List Int32} {e : Nat} {ac : Int} {M0 M : nM} {c m : Int} (hS : Sf 2 ac M0 M) (hc : 0 ≤ c ∧ c ≤ 8) (hm : -2147483648 ≤ m ∧ m ≤ 2147483647) (hca : c = ac) : ∀ nn : Nat, (∀ (x7 : Int) (M : nM), Sf 2 ac M0 M → (0 ≤ x7 ∧ x7 ≤ 257) → (MK 256 8 7 56 192 1 2 4 8 16 32 64 128 0 M) → (257 - x7) * 12 + 13 < (nn : Int) → nW xs (e + 4) 49 13 [some (2, 15), none, none, some (2, 12), some (0, c), some (0, m), some (2, 109), some (0, x7), none] [] M (nPV fun M1 => Sf 2 ac M0 M1 ∧ MK 256 8 7 56 192 1 2 4 8 16 32 64 128 0 M1)) ∧ (∀ (x7 x8 : Int) (M : nM), Sf 2 ac M0 M → (0 ≤ x7 ∧ x7 ≤ 256) → (0 ≤ x8 ∧ x8 ≤ 8) → (MK 256 8 7 56 192 1 2 4 8 16 32 64 128 0 M) → (x7 < M 15 10) → (257 - x7) * 12 + (8 - x8) * 1 + 3 < (nn : Int) → nW xs (e + 4) 49 65 [some (2, 15), none, none, some (2, 12), some (0, c), some (0, m), some (2, 109), some (0, x7), some (0, x8)] [] M (nPV fun M1 => Sf 2 ac M0 M1 ∧ MK 256 8 7 56 192 1 2 4 8 16 32 64 128 0 M1)) ∧ (∀ (x7 : Int) (M : nM), Sf 2 ac M0 M → (0 ≤ x7 ∧ x7 ≤ 256) → (MK 256 8 7 56 192 1 2 4 8 16 32 64 128 0 M) → (257 - x7) * 12 + 2 < (nn : Int) → nW xs (e + 4) 49 104 [some (2, 15), none, none, some (2, 12), some (0, c), some (0, m), some (2, 109), some (0, x7), none] [] M (nPV fun M1 => Sf 2 ac M0 M1 ∧ MK 256 8 7 56 192 1 2 4 8 16 32 64 128 0 M1)) ∧ (∀ (M : nM), Sf 2 ac M0 M → (MK 256 8 7 56 192 1 2 4 8 16 32 64 128 0 M) → 1 < (nn : Int) → nW xs (e + 4) 49 110 [some (2, 15), none, none, none, none, none, some (2, 109), none, none] [] M (nPV fun M1 => Sf 2 ac M0 M1 ∧ MK 256 8 7 56 192 1 2 4 8 16 32 64 128 0 M1)) := by
  have hd : (2 : Int) = 2 ∨ (2 : Int) = 3 := by decide
  have hac := hS.2.2.2.2
  intro nn
  induction nn with
  | zero => refine ⟨?_, ?_, ?_, ?_⟩ <;> (intros; omega)
  | succ nn ih =>
    refine ⟨?_, ?_, ?_, ?_⟩
    · intro x7 M hS k7 hK hnn
      refine n_iload c_49_13 rfl (n_aload_n c_49_15 rfl (n_getV (bi := 10) c_49_16 sc_15.n rfl rfl rfl (t_15_10 hS) ?_))
      intro z1 ez1 f2
      refine n_if2_ge c_49_19 (by omega) (by omega) ?_ ?_
      · intro h3
        refine n_fg (le_s (le_n (le_n (le_n (le_n (le_n (le_s (le_n (le_n le_0))))))))) ?_
        exact ih.2.2.2  M hS hK (by omega)
      · intro h4
        refine n_aload_n c_49_22 rfl (n_getV (bi := 10) c_49_23 sc_15.n rfl rfl rfl (t_15_10 hS) ?_)
        intro z5 ez5 f6
        refine n_sipush c_49_26 rfl ?_
        refine n_if2_gt c_49_29 (by omega) (by omega) ?_ ?_
        · intro h7
          refine n_fg (le_s (le_n (le_n (le_n (le_n (le_n (le_s (le_n (le_n le_0))))))))) ?_
          exact ih.2.2.2  M hS hK (by omega)
        · intro h8
          refine n_aload_n c_49_32 rfl (n_iload c_49_33 rfl (n_v1V c_49_35 rfl sc_15.n rfl rfl rfl rfl (bringLeast_3_2 (e0 := x7) (g := (M 15 10)) (g2 := (M 109 2)) hS (by omega) hK rfl rfl (by omega)) ?_))
          intro  M9 hP10
          obtain ⟨hS9, f10g0, f10g1, f10K⟩ := hP10
          refine n_aload_n c_49_38 rfl (n_aload_n c_49_39 rfl (n_getV (bi := 10) c_49_40 sc_15.n rfl rfl rfl (t_15_10 hS9) ?_))
          intro z11 ez11 f12
          refine n_iload c_49_43 rfl ?_
          refine n_if2_ne c_49_45 (by omega) (by omega) ?_ ?_
          · intro h13
            refine n_ldc (n := 3000002) c_49_57 rfl (n_putV (bi := 11) hS9 c_49_59 sc_15.n rfl rfl rfl rfl (w_15_11 (by omega)) ?_)
            intro M14 eM14 hS14
            have hK14 := f10K.u (by unfold Kok; omega) eM14
            have g14_0 : M14 15 10 = M9 15 10 := by rw [eM14]; exact nu_i (by omega)
            have g14_1 : M14 15 11 = 3000002 := by rw [eM14]; exact nu_s _ _ _ _
            refine n_iconst c_49_62 (n_istore (L2 := [some (2, 15), none, none, some (2, 12), some (0, c), some (0, m), some (2, 109), some (0, x7), some (0, 0)]) c_49_63 rfl rfl (n_fg (le_s (le_n (le_n (le_s (le_s (le_s (le_s (le_s (le_s le_0))))))))) ?_))
            exact ih.2.1 _ _ M14 hS14 (by omega) (by omega) hK14 (by omega) (by omega)
          · intro h15
            refine n_aload_n c_49_48 rfl (n_iload c_49_49 rfl (n_v1I c_49_51 rfl sc_15.n rfl rfl rfl rfl (largestSize_2 (f := x7) hS9 (by omega)) ?_))
            intro z16 M17 hP18
            obtain ⟨eM, f18⟩ := hP18
            subst eM
            refine n_goto c_49_54 (n_putV (bi := 11) hS9 c_49_59 sc_15.n rfl rfl rfl rfl (w_15_11 (by omega)) ?_)
            intro M19 eM19 hS19
            have hK19 := f10K.u (by unfold Kok; omega) eM19
            have g19_0 : M19 15 10 = M9 15 10 := by rw [eM19]; exact nu_i (by omega)
            have g19_1 : M19 15 11 = z16 := by rw [eM19]; exact nu_s _ _ _ _
            refine n_iconst c_49_62 (n_istore (L2 := [some (2, 15), none, none, some (2, 12), some (0, c), some (0, m), some (2, 109), some (0, x7), some (0, 0)]) c_49_63 rfl rfl (n_fg (le_s (le_n (le_n (le_s (le_s (le_s (le_s (le_s (le_s le_0))))))))) ?_))
            exact ih.2.1 _ _ M19 hS19 (by omega) (by omega) hK19 (by omega) (by omega)
    · intro x7 x8 M hS k7 k8 hK v0 hnn
      refine n_iload c_49_65 rfl (n_iload c_49_67 rfl ?_)
      refine n_if2_ge c_49_69 (by omega) (by omega) ?_ ?_
      · intro h1
        refine n_fg (le_s (le_n (le_n (le_s (le_s (le_s (le_s (le_s (le_n le_0))))))))) ?_
        exact ih.2.2.1 _ M hS (by omega) hK (by omega)
      · intro h2
        refine n_aload_n c_49_72 rfl (n_getR c_49_73 sc_15.n rfl rfl rfl r_15_2 (n_iload c_49_76 rfl (n_ialoadV c_49_78 sc_21.n rfl rfl rfl (by omega) (t_21 hS (by omega)) ?_)))
        intro z3 ez3 f4
        refine n_iconst c_49_79 (n_iadd c_49_80 rfl (n_wrap ?_))
        have f5 := n_wr_r (z3 + 1)
        generalize n_wr (z3 + 1) = z6 at f5 ⊢
        refine n_aload_n c_49_81 rfl (n_getV (bi := 11) c_49_82 sc_15.n rfl rfl rfl (t_15_11 hS) ?_)
        intro z7 ez7 f8
        refine n_if2_ge c_49_85 (by omega) (by omega) ?_ ?_
        · intro h9
          refine n_fg (le_s (le_n (le_n (le_s (le_s (le_s (le_s (le_s (le_n le_0))))))))) ?_
          exact ih.2.2.1 _ M hS (by omega) hK (by omega)
        · intro h10
          refine n_aload_n c_49_88 rfl (n_aload_n c_49_89 rfl (n_iload c_49_90 rfl (n_aaload c_49_92 sc_12.n rfl rfl rfl (by omega) (r_acts _) ?_)))
          have q11 : ActAt (55 + 3 * x8) := by unfold ActAt; omega
          have q11l : (55 + 3 * x8) < 55 + 3 * ac := by omega
          refine n_iload c_49_93 rfl (n_v2V c_49_95 rfl sc_15.n rfl rfl rfl rfl (putOn_3_2 (p := (55 + 3 * x8)) (e0 := x7) (g := (M 15 10)) hS q11 q11l (by omega) hK (by omega) (by omega)) ?_)
          intro  M12 hP13
          obtain ⟨hS12, f13K, f13p0⟩ := hP13
          refine n_iinc (L2 := [some (2, 15), none, none, some (2, 12), some (0, c), some (0, m), some (2, 109), some (0, x7), some (0, (x8 + 1))]) c_49_98 rfl rfl rfl (n_goto c_49_101 (n_fg (le_s (le_n (le_n (le_s (le_s (le_s (le_s (le_s (le_s le_0))))))))) ?_))
          exact ih.2.1 _ _ M12 hS12 (by omega) (by omega) f13K (by omega) (by omega)
    · intro x7 M hS k7 hK hnn
      refine n_iinc (L2 := [some (2, 15), none, none, some (2, 12), some (0, c), some (0, m), some (2, 109), some (0, (x7 + 1)), none]) c_49_104 rfl rfl rfl (n_goto c_49_107 (n_fg (le_s (le_n (le_n (le_s (le_s (le_s (le_s (le_s (le_n le_0))))))))) ?_))
      exact ih.1 _ M hS (by omega) hK (by omega)
    · intro M hS hK hnn
      refine n_aload_n c_49_110 rfl (n_aload c_49_111 rfl (n_v1V c_49_113 rfl sc_15.n rfl rfl rfl rfl (end_3_2  hS hK) ?_))
      intro  M1 hP2
      obtain ⟨hS1, f2K⟩ := hP2
      exact n_rV c_49_116 rfl ⟨hS1, f2K⟩
set_option maxHeartbeats 4000000 in
theorem make_3_2 {xs : List Int32} {e : Nat} {ac : Int} {M0 M : nM} {c m : Int} (hS : Sf 2 ac M0 M) (hc : 0 ≤ c ∧ c ≤ 8) (hm : -2147483648 ≤ m ∧ m ≤ 2147483647) (hca : c = ac) : nW xs (e + 4) 49 0 [some (2, 15), some (0, 3), some (2, 4), some (2, 12), some (0, c), some (0, m), some (2, 109), none, none] [] M (nPV fun M1 => Sf 2 ac M0 M1 ∧ MK 256 8 7 56 192 1 2 4 8 16 32 64 128 0 M1) := by
  have hd : (2 : Int) = 2 ∨ (2 : Int) = 3 := by decide
  have hac := hS.2.2.2.2
  refine n_aload_n c_49_0 rfl (n_aload_n c_49_1 rfl (n_putB hS c_49_2 ?_))
  intro M1 eM1 hS1
  have hB1 : M1 15 0 = 4 := by rw [eM1]; exact nu_s _ _ _ _
  refine n_aload_n c_49_5 rfl (n_iload_n c_49_6 rfl (n_v1V c_49_7 rfl sc_15.n rfl rfl rfl rfl (begin_3_2  hS1 (by exact hB1)) ?_))
  intro  M2 hP3
  obtain ⟨hS2, f3K⟩ := hP3
  refine n_iconst c_49_10 (n_istore (L2 := [some (2, 15), some (0, 3), some (2, 4), some (2, 12), some (0, c), some (0, m), some (2, 109), some (0, 0), none]) c_49_11 rfl rfl (n_fg (le_s (le_n (le_n (le_s (le_s (le_s (le_s (le_s (le_n le_0))))))))) ?_))
  exact (make_3_2_c hS hc hm hca 6228).1 _ M2 hS2 (by omega) f3K (by omega)

set_option maxHeartbeats 4000000 in
theorem mostMade_3_2_c {xs : List Int32} {e : Nat} {ac : Int} {M0 M : nM} (hS : Sf 2 ac M0 M)  : ∀ nn : Nat, (∀ (x2 x3 x4 : Int), (8 ≤ x2 ∧ x2 ≤ 8) → (-2147483648 ≤ x3 ∧ x3 ≤ 2147483647) → (0 ≤ x4 ∧ x4 ≤ 8) → (8 - x4) * 1 + 1 < (nn : Int) → nW xs (e + 4) 131 14 [some (2, 3), some (0, 3), some (0, x2), some (0, x3), some (0, x4)] [] M (nPI fun z M1 => M = M1 ∧ (-2147483648 ≤ z ∧ z ≤ 2147483647))) := by
  have hd : (2 : Int) = 2 ∨ (2 : Int) = 3 := by decide
  have hac := hS.2.2.2.2
  intro nn
  induction nn with
  | zero => intros; omega
  | succ nn ih =>
    intro x2 x3 x4 k2 k3 k4 hnn
    refine n_iload c_131_14 rfl (n_iload_n c_131_16 rfl ?_)
    refine n_if2_ge c_131_17 (by omega) (by omega) ?_ ?_
    · intro h1
      refine n_iload_n c_131_46 rfl ?_
      exact n_rI c_131_47 rfl ⟨rfl, by omega⟩
    · intro h2
      refine n_iload_n c_131_20 rfl (n_aload_n c_131_21 rfl (n_aload_n c_131_22 rfl (n_getR c_131_23 sc_3.n rfl rfl rfl r_3_0 (n_iload c_131_26 rfl (n_iload_n c_131_28 rfl (n_v2I c_131_29 rfl sc_4.n rfl rfl rfl rfl (thingsOf_2 (r := x4) (p := 3) hS (by omega) (by omega)) ?_))))))
      intro z3 M4 hP5
      obtain ⟨eM, f5⟩ := hP5
      subst eM
      refine n_v1I c_131_32 rfl sc_3.n rfl rfl rfl rfl (leastHeap_2 (m := z3) hS (by omega)) ?_
      intro z6 M7 hP8
      obtain ⟨eM, f8⟩ := hP8
      subst eM
      refine n_s1I c_131_35 rfl rfl rfl rfl (ibits_2 (x := z6) hS (by omega)) ?_
      intro z9 M10 hP11
      obtain ⟨eM, f11⟩ := hP11
      subst eM
      refine n_imul c_131_38 rfl (n_wrap ?_)
      have f12 := n_wr_r (x3 * z9)
      generalize n_wr (x3 * z9) = z13 at f12 ⊢
      refine n_istore_n (L2 := [some (2, 3), some (0, 3), some (0, x2), some (0, z13), some (0, x4)]) c_131_39 rfl rfl (n_iinc (L2 := [some (2, 3), some (0, 3), some (0, x2), some (0, z13), some (0, (x4 + 1))]) c_131_40 rfl rfl rfl (n_goto c_131_43 (n_fg (le_s (le_s (le_s (le_s (le_s le_0))))) ?_)))
      exact ih _ _ _ (by omega) (by omega) (by omega) (by omega)
set_option maxHeartbeats 4000000 in
theorem mostMade_3_2 {xs : List Int32} {e : Nat} {ac : Int} {M0 M : nM} (hS : Sf 2 ac M0 M)  : nW xs (e + 4) 131 0 [some (2, 3), some (0, 3), none, none, none] [] M (nPI fun z M1 => M = M1 ∧ (-2147483648 ≤ z ∧ z ≤ 2147483647)) := by
  have hd : (2 : Int) = 2 ∨ (2 : Int) = 3 := by decide
  have hac := hS.2.2.2.2
  refine n_aload_n c_131_0 rfl (n_getR c_131_1 sc_3.n rfl rfl rfl r_3_0 (n_iload_n c_131_4 rfl (n_v1I c_131_5 rfl sc_4.n rfl rfl rfl rfl (power3_2  hS ) ?_)))
  intro z1 M2 hP3
  obtain ⟨eM, f3⟩ := hP3
  subst eM
  obtain rfl : z1 = 8 := by omega
  refine n_istore_n (L2 := [some (2, 3), some (0, 3), some (0, 8), none, none]) c_131_8 rfl rfl (n_iconst c_131_9 (n_istore_n (L2 := [some (2, 3), some (0, 3), some (0, 8), some (0, 1), none]) c_131_10 rfl rfl (n_iconst c_131_11 (n_istore (L2 := [some (2, 3), some (0, 3), some (0, 8), some (0, 1), some (0, 0)]) c_131_12 rfl rfl (n_fg (le_s (le_s (le_s (le_s (le_s le_0))))) ?_)))))
  exact (mostMade_3_2_c hS  30) _ _ _ (by omega) (by omega) (by omega) (by omega)

set_option maxHeartbeats 4000000 in
theorem madeList_3_2_c {xs : List Int32} {e : Nat} {ac : Int} {M0 M : nM} (hS : Sf 2 ac M0 M)  : ∀ nn : Nat, (∀ (M : nM), Sf 2 ac M0 M → 1 < (nn : Int) → nW xs (e + 5) 130 42 [none, none, some (2, 109)] [] M (nPA fun z M1 => Sf 2 ac M0 M1 ∧ z = 109)) := by
  have hd : (2 : Int) = 2 ∨ (2 : Int) = 3 := by decide
  have hac := hS.2.2.2.2
  intro nn
  induction nn with
  | zero => intros; omega
  | succ nn ih =>
    intro M hS hnn
    refine n_aload_n c_130_42 rfl ?_
    exact n_rA c_130_43 rfl ⟨hS, rfl⟩
set_option maxHeartbeats 4000000 in
theorem madeList_3_2 {xs : List Int32} {e : Nat} {ac : Int} {M0 M : nM} (hS : Sf 2 ac M0 M)  : nW xs (e + 5) 130 0 [some (2, 3), some (0, 3), none] [] M (nPA fun z M1 => Sf 2 ac M0 M1 ∧ z = 109) := by
  have hd : (2 : Int) = 2 ∨ (2 : Int) = 3 := by decide
  have hac := hS.2.2.2.2
  refine n_aload_n c_130_0 rfl (n_getR c_130_1 sc_3.n rfl rfl rfl r_3_4 (n_iload_n c_130_4 rfl (n_iconst c_130_5 (n_isub c_130_6 rfl (n_aaload c_130_7 sc_14.n rfl rfl rfl (by omega) (r_made _) ?_)))))
  refine n_stk (show ((103 + 3 * (3 - 1)) : Int) = 109 from rfl) (n_astore_n (L2 := [some (2, 3), some (0, 3), some (2, 109)]) c_130_8 rfl rfl (n_aload_n c_130_9 rfl (n_getV (bi := 0) c_130_10 made109.c0.1.n rfl rfl rfl (t_made hS made109).1 ?_)))
  intro z1 ez1 f2
  refine n_if0_ne c_130_13 (by omega) ?_ ?_
  · intro h3
    refine n_fg (le_n (le_n (le_s le_0))) ?_
    exact (madeList_3_2_c hS  12)  M hS  (by omega)
  · intro h4
    refine n_aload_n c_130_16 rfl (n_getR c_130_17 sc_3.n rfl rfl rfl r_3_5 (n_iload_n c_130_20 rfl (n_aload_n c_130_21 rfl (n_getR c_130_22 sc_3.n rfl rfl rfl r_3_0 (n_aload_n c_130_25 rfl (n_getR c_130_26 sc_3.n rfl rfl rfl r_3_2 (n_aload_n c_130_29 rfl (n_getV (bi := 14) c_130_30 sc_3.n rfl rfl rfl (t_3_14x hS) ?_))))))))
    intro z5 ez5 f6
    have f6a := t_ac hS
    refine n_aload_n c_130_33 rfl (n_iload_n c_130_34 rfl (n_v1I c_130_35 rfl sc_3.n rfl rfl rfl rfl (mostMade_3_2  hS ) ?_))
    intro z7 M8 hP9
    obtain ⟨eM, f9⟩ := hP9
    subst eM
    refine n_aload_n c_130_38 rfl (n_v6V c_130_39 rfl sc_15.n rfl rfl rfl rfl (make_3_2 (c := z5) (m := z7) hS (by omega) (by omega) (by omega)) ?_)
    intro  M10 hP11
    obtain ⟨hS10, f11K⟩ := hP11
    refine n_fg (le_n (le_n (le_s le_0))) ?_
    exact (madeList_3_2_c hS  12)  M10 hS10  (by omega)

set_option maxHeartbeats 4000000 in
theorem sizeOf_3_2_c {xs : List Int32} {e : Nat} {ac : Int} {M0 M : nM} {c : Int} (hS : Sf 2 ac M0 M) (hc : -2147483648 ≤ c ∧ c ≤ 2147483647) : ∀ nn : Nat, (∀ (x2 : Int), (0 ≤ x2 ∧ x2 ≤ 256) → (256 - x2) * 1 + 1 < (nn : Int) → nW xs e 47 2 [some (2, 109), some (0, c), some (0, x2)] [] M (nPI fun z M1 => M = M1 ∧ (-2147483648 ≤ z ∧ z ≤ 2147483647))) := by
  have hd : (2 : Int) = 2 ∨ (2 : Int) = 3 := by decide
  have hac := hS.2.2.2.2
  intro nn
  induction nn with
  | zero => intros; omega
  | succ nn ih =>
    intro x2 k2 hnn
    refine n_iload_n c_47_2 rfl (n_aload_n c_47_3 rfl (n_getV (bi := 2) c_47_4 made109.c0.1.n rfl rfl rfl (t_made hS made109).2.2 ?_))
    intro z1 ez1 f2
    refine n_if2_ge c_47_7 (by omega) (by omega) ?_ ?_
    · intro h3
      refine n_bipush c_47_33 rfl ?_
      exact n_rI c_47_35 rfl ⟨rfl, by omega⟩
    · intro h4
      refine n_aload_n c_47_10 rfl (n_getR c_47_11 made109.c0.1.n rfl rfl rfl made109.r.1 (n_iload_n c_47_14 rfl (n_ialoadV c_47_15 made109.c0.2.1.n rfl rfl rfl (by omega) (t_mader hS made109 (Or.inl rfl) (by omega)) ?_)))
      intro z5 ez5 f6
      refine n_iload_n c_47_16 rfl ?_
      refine n_if2_ne c_47_17 (by omega) (by omega) ?_ ?_
      · intro h7
        refine n_iinc (L2 := [some (2, 109), some (0, c), some (0, (x2 + 1))]) c_47_27 rfl rfl rfl (n_goto c_47_30 (n_fg (le_s (le_s (le_s le_0))) ?_))
        exact ih _ (by omega) (by omega)
      · intro h8
        refine n_aload_n c_47_20 rfl (n_getR c_47_21 made109.c0.1.n rfl rfl rfl made109.r.2 (n_iload_n c_47_24 rfl (n_ialoadV c_47_25 made109.c0.2.2.n rfl rfl rfl (by omega) (t_mader hS made109 (Or.inr rfl) (by omega)) ?_)))
        intro z9 ez9 f10
        exact n_rI c_47_26 rfl ⟨rfl, by omega⟩
set_option maxHeartbeats 4000000 in
theorem sizeOf_3_2 {xs : List Int32} {e : Nat} {ac : Int} {M0 M : nM} {c : Int} (hS : Sf 2 ac M0 M) (hc : -2147483648 ≤ c ∧ c ≤ 2147483647) : nW xs e 47 0 [some (2, 109), some (0, c), none] [] M (nPI fun z M1 => M = M1 ∧ (-2147483648 ≤ z ∧ z ≤ 2147483647)) := by
  have hd : (2 : Int) = 2 ∨ (2 : Int) = 3 := by decide
  have hac := hS.2.2.2.2
  refine n_iconst c_47_0 (n_istore_n (L2 := [some (2, 109), some (0, c), some (0, 0)]) c_47_1 rfl rfl (n_fg (le_s (le_s (le_s le_0))) ?_))
  exact (sizeOf_3_2_c hS hc 526) _ (by omega) (by omega)

set_option maxHeartbeats 4000000 in
theorem madeL_2 {xs : List Int32} {e : Nat} {ac : Int} {M0 M : nM} {n : Int} (hS : Sf 2 ac M0 M) (hn : -2147483648 ≤ n ∧ n ≤ 0) : nW xs (e + 6) 104 0 [some (2, 3), some (0, n), none] [] M (nPI fun z M1 => Sf 2 ac M0 M1 ∧ (-2147483648 ≤ z ∧ z ≤ 2147483647)) := by
  have hd : (2 : Int) = 2 ∨ (2 : Int) = 3 := by decide
  have hac := hS.2.2.2.2
  refine n_aload_n c_104_0 rfl (n_getR c_104_1 sc_3.n rfl rfl rfl r_3_0 (n_iload_n c_104_4 rfl (n_v1I c_104_5 rfl sc_4.n rfl rfl rfl rfl (isMadeOf_2 (n := n) hS (by omega)) ?_)))
  intro z1 M2 hP3
  obtain ⟨eM, f3, f3p0⟩ := hP3
  subst eM
  refine n_if0_ne c_104_8 (by omega) ?_ ?_
  · intro h4
    exfalso; omega
  · intro h5
    refine n_iconst c_104_11 ?_
    exact n_rI c_104_12 rfl ⟨hS, by omega⟩

set_option maxHeartbeats 4000000 in
theorem made_1_2 {xs : List Int32} {e : Nat} {ac : Int} {M0 M : nM} (hS : Sf 2 ac M0 M)  : nW xs (e + 6) 104 0 [some (2, 3), some (0, 1), none] [] M (nPI fun z M1 => Sf 2 ac M0 M1 ∧ (-2147483648 ≤ z ∧ z ≤ 2147483647)) := by
  have hd : (2 : Int) = 2 ∨ (2 : Int) = 3 := by decide
  have hac := hS.2.2.2.2
  refine n_aload_n c_104_0 rfl (n_getR c_104_1 sc_3.n rfl rfl rfl r_3_0 (n_iload_n c_104_4 rfl (n_v1I c_104_5 rfl sc_4.n rfl rfl rfl rfl (isMadeOf_2 (n := 1) hS (by omega)) ?_)))
  intro z1 M2 hP3
  obtain ⟨eM, f3, f3p0⟩ := hP3
  subst eM
  refine n_if0_ne c_104_8 (by omega) ?_ ?_
  · intro h4
    refine n_aload_n c_104_13 rfl (n_iload_n c_104_14 rfl (n_v1A c_104_15 rfl sc_3.n rfl rfl rfl rfl (madeList_1_2  hS ) ?_))
    intro z5 M6 hP7
    obtain ⟨hS6, f7⟩ := hP7
    obtain rfl : z5 = 103 := f7
    refine n_astore_n (L2 := [some (2, 3), some (0, 1), some (2, 103)]) c_104_18 rfl rfl (n_aload_n c_104_19 rfl (n_getV (bi := 1) c_104_20 made103.c0.1.n rfl rfl rfl (t_made hS6 made103).2.1 ?_))
    intro z8 ez8 f9
    refine n_if0_eq c_104_23 (by omega) ?_ ?_
    · intro h10
      refine n_aload_n c_104_31 rfl (n_getV (bi := 2) c_104_32 made103.c0.1.n rfl rfl rfl (t_made hS6 made103).2.2 ?_)
      intro z11 ez11 f12
      exact n_rI c_104_35 rfl ⟨hS6, by omega⟩
    · intro h13
      refine n_bipush c_104_26 rfl (n_goto c_104_28 ?_)
      exact n_rI c_104_35 rfl ⟨hS6, by omega⟩
  · intro h14
    refine n_iconst c_104_11 ?_
    exact n_rI c_104_12 rfl ⟨hS, by omega⟩

set_option maxHeartbeats 4000000 in
theorem made_2_2 {xs : List Int32} {e : Nat} {ac : Int} {M0 M : nM} (hS : Sf 2 ac M0 M)  : nW xs (e + 6) 104 0 [some (2, 3), some (0, 2), none] [] M (nPI fun z M1 => Sf 2 ac M0 M1 ∧ (-2147483648 ≤ z ∧ z ≤ 2147483647)) := by
  have hd : (2 : Int) = 2 ∨ (2 : Int) = 3 := by decide
  have hac := hS.2.2.2.2
  refine n_aload_n c_104_0 rfl (n_getR c_104_1 sc_3.n rfl rfl rfl r_3_0 (n_iload_n c_104_4 rfl (n_v1I c_104_5 rfl sc_4.n rfl rfl rfl rfl (isMadeOf_2 (n := 2) hS (by omega)) ?_)))
  intro z1 M2 hP3
  obtain ⟨eM, f3, f3p0⟩ := hP3
  subst eM
  refine n_if0_ne c_104_8 (by omega) ?_ ?_
  · intro h4
    refine n_aload_n c_104_13 rfl (n_iload_n c_104_14 rfl (n_v1A c_104_15 rfl sc_3.n rfl rfl rfl rfl (madeList_2_2  hS ) ?_))
    intro z5 M6 hP7
    obtain ⟨hS6, f7⟩ := hP7
    obtain rfl : z5 = 106 := f7
    refine n_astore_n (L2 := [some (2, 3), some (0, 2), some (2, 106)]) c_104_18 rfl rfl (n_aload_n c_104_19 rfl (n_getV (bi := 1) c_104_20 made106.c0.1.n rfl rfl rfl (t_made hS6 made106).2.1 ?_))
    intro z8 ez8 f9
    refine n_if0_eq c_104_23 (by omega) ?_ ?_
    · intro h10
      refine n_aload_n c_104_31 rfl (n_getV (bi := 2) c_104_32 made106.c0.1.n rfl rfl rfl (t_made hS6 made106).2.2 ?_)
      intro z11 ez11 f12
      exact n_rI c_104_35 rfl ⟨hS6, by omega⟩
    · intro h13
      refine n_bipush c_104_26 rfl (n_goto c_104_28 ?_)
      exact n_rI c_104_35 rfl ⟨hS6, by omega⟩
  · intro h14
    refine n_iconst c_104_11 ?_
    exact n_rI c_104_12 rfl ⟨hS, by omega⟩

set_option maxHeartbeats 4000000 in
theorem made_3_2 {xs : List Int32} {e : Nat} {ac : Int} {M0 M : nM} (hS : Sf 2 ac M0 M)  : nW xs (e + 6) 104 0 [some (2, 3), some (0, 3), none] [] M (nPI fun z M1 => Sf 2 ac M0 M1 ∧ (-2147483648 ≤ z ∧ z ≤ 2147483647)) := by
  have hd : (2 : Int) = 2 ∨ (2 : Int) = 3 := by decide
  have hac := hS.2.2.2.2
  refine n_aload_n c_104_0 rfl (n_getR c_104_1 sc_3.n rfl rfl rfl r_3_0 (n_iload_n c_104_4 rfl (n_v1I c_104_5 rfl sc_4.n rfl rfl rfl rfl (isMadeOf_2 (n := 3) hS (by omega)) ?_)))
  intro z1 M2 hP3
  obtain ⟨eM, f3, f3p0⟩ := hP3
  subst eM
  refine n_if0_ne c_104_8 (by omega) ?_ ?_
  · intro h4
    refine n_aload_n c_104_13 rfl (n_iload_n c_104_14 rfl (n_v1A c_104_15 rfl sc_3.n rfl rfl rfl rfl (madeList_3_2  hS ) ?_))
    intro z5 M6 hP7
    obtain ⟨hS6, f7⟩ := hP7
    obtain rfl : z5 = 109 := f7
    refine n_astore_n (L2 := [some (2, 3), some (0, 3), some (2, 109)]) c_104_18 rfl rfl (n_aload_n c_104_19 rfl (n_getV (bi := 1) c_104_20 made109.c0.1.n rfl rfl rfl (t_made hS6 made109).2.1 ?_))
    intro z8 ez8 f9
    refine n_if0_eq c_104_23 (by omega) ?_ ?_
    · intro h10
      refine n_aload_n c_104_31 rfl (n_getV (bi := 2) c_104_32 made109.c0.1.n rfl rfl rfl (t_made hS6 made109).2.2 ?_)
      intro z11 ez11 f12
      exact n_rI c_104_35 rfl ⟨hS6, by omega⟩
    · intro h13
      refine n_bipush c_104_26 rfl (n_goto c_104_28 ?_)
      exact n_rI c_104_35 rfl ⟨hS6, by omega⟩
  · intro h14
    refine n_iconst c_104_11 ?_
    exact n_rI c_104_12 rfl ⟨hS, by omega⟩

set_option maxHeartbeats 4000000 in
theorem madeH_2 {xs : List Int32} {e : Nat} {ac : Int} {M0 M : nM} {n : Int} (hS : Sf 2 ac M0 M) (hn : 4 ≤ n ∧ n ≤ 2147483647) : nW xs (e + 6) 104 0 [some (2, 3), some (0, n), none] [] M (nPI fun z M1 => Sf 2 ac M0 M1 ∧ (-2147483648 ≤ z ∧ z ≤ 2147483647)) := by
  have hd : (2 : Int) = 2 ∨ (2 : Int) = 3 := by decide
  have hac := hS.2.2.2.2
  refine n_aload_n c_104_0 rfl (n_getR c_104_1 sc_3.n rfl rfl rfl r_3_0 (n_iload_n c_104_4 rfl (n_v1I c_104_5 rfl sc_4.n rfl rfl rfl rfl (isMadeOf_2 (n := n) hS (by omega)) ?_)))
  intro z1 M2 hP3
  obtain ⟨eM, f3, f3p0⟩ := hP3
  subst eM
  refine n_if0_ne c_104_8 (by omega) ?_ ?_
  · intro h4
    exfalso; omega
  · intro h5
    refine n_iconst c_104_11 ?_
    exact n_rI c_104_12 rfl ⟨hS, by omega⟩

set_option maxHeartbeats 4000000 in
theorem made_2 {xs : List Int32} {e : Nat} {ac : Int} {M0 M : nM} {n : Int} (hS : Sf 2 ac M0 M) (hn : -2147483648 ≤ n ∧ n ≤ 2147483647) : nW xs (e + 6) 104 0 [some (2, 3), some (0, n), none] [] M (nPI fun z M1 => Sf 2 ac M0 M1 ∧ (-2147483648 ≤ z ∧ z ≤ 2147483647)) := by
  rcases (show (-2147483648 ≤ n ∧ n ≤ 0) ∨ n = 1 ∨ n = 2 ∨ n = 3 ∨ (4 ≤ n ∧ n ≤ 2147483647) by omega) with hx | rfl | rfl | rfl | hx
  · exact madeL_2 hS (by omega)
  · exact made_1_2 hS 
  · exact made_2_2 hS 
  · exact made_3_2 hS 
  · exact madeH_2 hS (by omega)

set_option maxHeartbeats 4000000 in
theorem madeOfL_2_c {xs : List Int32} {e : Nat} {ac : Int} {M0 M : nM} {n i w : Int} (hS : Sf 2 ac M0 M) (hn : -2147483648 ≤ n ∧ n ≤ 0) (hi : -2147483648 ≤ i ∧ i ≤ 2147483647) (hw : -2147483648 ≤ w ∧ w ≤ 2147483647) : ∀ nn : Nat, (∀ (M : nM), Sf 2 ac M0 M → 1 < (nn : Int) → nW xs (e + 6) 105 20 [none, none, none, none, none] [] M (nPI fun z M1 => Sf 2 ac M0 M1 ∧ (-2147483648 ≤ z ∧ z ≤ 2147483647))) := by
  have hd : (2 : Int) = 2 ∨ (2 : Int) = 3 := by decide
  have hac := hS.2.2.2.2
  intro nn
  induction nn with
  | zero => intros; omega
  | succ nn ih =>
    intro M hS hnn
    refine n_iconst c_105_20 ?_
    exact n_rI c_105_21 rfl ⟨hS, by omega⟩
set_option maxHeartbeats 4000000 in
theorem madeOfL_2 {xs : List Int32} {e : Nat} {ac : Int} {M0 M : nM} {n i w : Int} (hS : Sf 2 ac M0 M) (hn : -2147483648 ≤ n ∧ n ≤ 0) (hi : -2147483648 ≤ i ∧ i ≤ 2147483647) (hw : -2147483648 ≤ w ∧ w ≤ 2147483647) : nW xs (e + 6) 105 0 [some (2, 3), some (0, n), some (0, i), some (0, w), none] [] M (nPI fun z M1 => Sf 2 ac M0 M1 ∧ (-2147483648 ≤ z ∧ z ≤ 2147483647)) := by
  have hd : (2 : Int) = 2 ∨ (2 : Int) = 3 := by decide
  have hac := hS.2.2.2.2
  refine n_aload_n c_105_0 rfl (n_getR c_105_1 sc_3.n rfl rfl rfl r_3_0 (n_iload_n c_105_4 rfl (n_v1I c_105_5 rfl sc_4.n rfl rfl rfl rfl (isMadeOf_2 (n := n) hS (by omega)) ?_)))
  intro z1 M2 hP3
  obtain ⟨eM, f3, f3p0⟩ := hP3
  subst eM
  refine n_if0_eq c_105_8 (by omega) ?_ ?_
  · intro h4
    refine n_fg (le_n (le_n (le_n (le_n (le_n le_0))))) ?_
    exact (madeOfL_2_c hS hn hi hw 12)  M hS  (by omega)
  · intro h5
    exfalso; omega

set_option maxHeartbeats 4000000 in
theorem madeOf_1_2_c {xs : List Int32} {e : Nat} {ac : Int} {M0 M : nM} {i w : Int} (hS : Sf 2 ac M0 M) (hi : -2147483648 ≤ i ∧ i ≤ 2147483647) (hw : -2147483648 ≤ w ∧ w ≤ 2147483647) : ∀ nn : Nat, (∀ (M : nM), Sf 2 ac M0 M → 3 < (nn : Int) → nW xs (e + 6) 105 20 [none, none, none, none, none] [] M (nPI fun z M1 => Sf 2 ac M0 M1 ∧ (-2147483648 ≤ z ∧ z ≤ 2147483647))) ∧ (∀ (M : nM), Sf 2 ac M0 M → (0 ≤ w ∧ w ≤ 1) → 2 < (nn : Int) → nW xs (e + 6) 105 22 [some (2, 3), some (0, 1), some (0, i), some (0, w), none] [] M (nPI fun z M1 => Sf 2 ac M0 M1 ∧ (-2147483648 ≤ z ∧ z ≤ 2147483647))) ∧ (∀ (M : nM), Sf 2 ac M0 M → 1 < (nn : Int) → nW xs (e + 6) 105 42 [none, none, none, none, none] [] M (nPI fun z M1 => Sf 2 ac M0 M1 ∧ (-2147483648 ≤ z ∧ z ≤ 2147483647))) := by
  have hd : (2 : Int) = 2 ∨ (2 : Int) = 3 := by decide
  have hac := hS.2.2.2.2
  intro nn
  induction nn with
  | zero => refine ⟨?_, ?_, ?_⟩ <;> (intros; omega)
  | succ nn ih =>
    refine ⟨?_, ?_, ?_⟩
    · intro M hS hnn
      refine n_iconst c_105_20 ?_
      exact n_rI c_105_21 rfl ⟨hS, by omega⟩
    · intro M hS k3 hnn
      refine n_aload_n c_105_22 rfl (n_iload_n c_105_23 rfl (n_v1A c_105_24 rfl sc_3.n rfl rfl rfl rfl (madeList_1_2  hS ) ?_))
      intro z1 M2 hP3
      obtain ⟨hS2, f3⟩ := hP3
      obtain rfl : z1 = 103 := f3
      refine n_astore (L2 := [some (2, 3), some (0, 1), some (0, i), some (0, w), some (2, 103)]) c_105_27 rfl rfl (n_iload_n c_105_29 rfl ?_)
      refine n_if0_lt c_105_30 (by omega) ?_ ?_
      · intro h4
        refine n_fg (le_n (le_n (le_n (le_n (le_n le_0))))) ?_
        exact ih.2.2  M2 hS2  (by omega)
      · intro h5
        refine n_iload_n c_105_33 rfl (n_aload c_105_34 rfl (n_getV (bi := 2) c_105_36 made103.c0.1.n rfl rfl rfl (t_made hS2 made103).2.2 ?_))
        intro z6 ez6 f7
        refine n_if2_lt c_105_39 (by omega) (by omega) ?_ ?_
        · intro h8
          refine n_iload_n c_105_44 rfl ?_
          refine n_if0_ne c_105_45 (by omega) ?_ ?_
          · intro h9
            refine n_aload c_105_58 rfl (n_getR c_105_60 made103.c0.1.n rfl rfl rfl made103.r.2 (n_iload_n c_105_63 rfl (n_ialoadV c_105_64 made103.c0.2.2.n rfl rfl rfl (by omega) (t_mader hS2 made103 (Or.inr rfl) (by omega)) ?_)))
            intro z10 ez10 f11
            exact n_rI c_105_65 rfl ⟨hS2, by omega⟩
          · intro h12
            refine n_aload c_105_48 rfl (n_getR c_105_50 made103.c0.1.n rfl rfl rfl made103.r.1 (n_iload_n c_105_53 rfl (n_ialoadV c_105_54 made103.c0.2.1.n rfl rfl rfl (by omega) (t_mader hS2 made103 (Or.inl rfl) (by omega)) ?_)))
            intro z13 ez13 f14
            refine n_goto c_105_55 ?_
            exact n_rI c_105_65 rfl ⟨hS2, by omega⟩
        · intro h15
          refine n_fg (le_n (le_n (le_n (le_n (le_n le_0))))) ?_
          exact ih.2.2  M2 hS2  (by omega)
    · intro M hS hnn
      refine n_iconst c_105_42 ?_
      exact n_rI c_105_43 rfl ⟨hS, by omega⟩
set_option maxHeartbeats 4000000 in
theorem madeOf_1_2 {xs : List Int32} {e : Nat} {ac : Int} {M0 M : nM} {i w : Int} (hS : Sf 2 ac M0 M) (hi : -2147483648 ≤ i ∧ i ≤ 2147483647) (hw : -2147483648 ≤ w ∧ w ≤ 2147483647) : nW xs (e + 6) 105 0 [some (2, 3), some (0, 1), some (0, i), some (0, w), none] [] M (nPI fun z M1 => Sf 2 ac M0 M1 ∧ (-2147483648 ≤ z ∧ z ≤ 2147483647)) := by
  have hd : (2 : Int) = 2 ∨ (2 : Int) = 3 := by decide
  have hac := hS.2.2.2.2
  refine n_aload_n c_105_0 rfl (n_getR c_105_1 sc_3.n rfl rfl rfl r_3_0 (n_iload_n c_105_4 rfl (n_v1I c_105_5 rfl sc_4.n rfl rfl rfl rfl (isMadeOf_2 (n := 1) hS (by omega)) ?_)))
  intro z1 M2 hP3
  obtain ⟨eM, f3, f3p0⟩ := hP3
  subst eM
  refine n_if0_eq c_105_8 (by omega) ?_ ?_
  · intro h4
    refine n_fg (le_n (le_n (le_n (le_n (le_n le_0))))) ?_
    exact (madeOf_1_2_c hS hi hw 16).1  M hS  (by omega)
  · intro h5
    refine n_iload_n c_105_11 rfl ?_
    refine n_if0_eq c_105_12 (by omega) ?_ ?_
    · intro h6
      refine n_fg (le_s (le_s (le_s (le_s (le_n le_0))))) ?_
      exact (madeOf_1_2_c hS hi hw 16).2.1  M hS (by omega) (by omega)
    · intro h7
      refine n_iload_n c_105_15 rfl (n_iconst c_105_16 ?_)
      refine n_if2_eq c_105_17 (by omega) (by omega) ?_ ?_
      · intro h8
        refine n_fg (le_s (le_s (le_s (le_s (le_n le_0))))) ?_
        exact (madeOf_1_2_c hS hi hw 16).2.1  M hS (by omega) (by omega)
      · intro h9
        refine n_fg (le_n (le_n (le_n (le_n (le_n le_0))))) ?_
        exact (madeOf_1_2_c hS hi hw 16).1  M hS  (by omega)

set_option maxHeartbeats 4000000 in
theorem madeOf_2_2_c {xs : List Int32} {e : Nat} {ac : Int} {M0 M : nM} {i w : Int} (hS : Sf 2 ac M0 M) (hi : -2147483648 ≤ i ∧ i ≤ 2147483647) (hw : -2147483648 ≤ w ∧ w ≤ 2147483647) : ∀ nn : Nat, (∀ (M : nM), Sf 2 ac M0 M → 3 < (nn : Int) → nW xs (e + 6) 105 20 [none, none, none, none, none] [] M (nPI fun z M1 => Sf 2 ac M0 M1 ∧ (-2147483648 ≤ z ∧ z ≤ 2147483647))) ∧ (∀ (M : nM), Sf 2 ac M0 M → (0 ≤ w ∧ w ≤ 1) → 2 < (nn : Int) → nW xs (e + 6) 105 22 [some (2, 3), some (0, 2), some (0, i), some (0, w), none] [] M (nPI fun z M1 => Sf 2 ac M0 M1 ∧ (-2147483648 ≤ z ∧ z ≤ 2147483647))) ∧ (∀ (M : nM), Sf 2 ac M0 M → 1 < (nn : Int) → nW xs (e + 6) 105 42 [none, none, none, none, none] [] M (nPI fun z M1 => Sf 2 ac M0 M1 ∧ (-2147483648 ≤ z ∧ z ≤ 2147483647))) := by
  have hd : (2 : Int) = 2 ∨ (2 : Int) = 3 := by decide
  have hac := hS.2.2.2.2
  intro nn
  induction nn with
  | zero => refine ⟨?_, ?_, ?_⟩ <;> (intros; omega)
  | succ nn ih =>
    refine ⟨?_, ?_, ?_⟩
    · intro M hS hnn
      refine n_iconst c_105_20 ?_
      exact n_rI c_105_21 rfl ⟨hS, by omega⟩
    · intro M hS k3 hnn
      refine n_aload_n c_105_22 rfl (n_iload_n c_105_23 rfl (n_v1A c_105_24 rfl sc_3.n rfl rfl rfl rfl (madeList_2_2  hS ) ?_))
      intro z1 M2 hP3
      obtain ⟨hS2, f3⟩ := hP3
      obtain rfl : z1 = 106 := f3
      refine n_astore (L2 := [some (2, 3), some (0, 2), some (0, i), some (0, w), some (2, 106)]) c_105_27 rfl rfl (n_iload_n c_105_29 rfl ?_)
      refine n_if0_lt c_105_30 (by omega) ?_ ?_
      · intro h4
        refine n_fg (le_n (le_n (le_n (le_n (le_n le_0))))) ?_
        exact ih.2.2  M2 hS2  (by omega)
      · intro h5
        refine n_iload_n c_105_33 rfl (n_aload c_105_34 rfl (n_getV (bi := 2) c_105_36 made106.c0.1.n rfl rfl rfl (t_made hS2 made106).2.2 ?_))
        intro z6 ez6 f7
        refine n_if2_lt c_105_39 (by omega) (by omega) ?_ ?_
        · intro h8
          refine n_iload_n c_105_44 rfl ?_
          refine n_if0_ne c_105_45 (by omega) ?_ ?_
          · intro h9
            refine n_aload c_105_58 rfl (n_getR c_105_60 made106.c0.1.n rfl rfl rfl made106.r.2 (n_iload_n c_105_63 rfl (n_ialoadV c_105_64 made106.c0.2.2.n rfl rfl rfl (by omega) (t_mader hS2 made106 (Or.inr rfl) (by omega)) ?_)))
            intro z10 ez10 f11
            exact n_rI c_105_65 rfl ⟨hS2, by omega⟩
          · intro h12
            refine n_aload c_105_48 rfl (n_getR c_105_50 made106.c0.1.n rfl rfl rfl made106.r.1 (n_iload_n c_105_53 rfl (n_ialoadV c_105_54 made106.c0.2.1.n rfl rfl rfl (by omega) (t_mader hS2 made106 (Or.inl rfl) (by omega)) ?_)))
            intro z13 ez13 f14
            refine n_goto c_105_55 ?_
            exact n_rI c_105_65 rfl ⟨hS2, by omega⟩
        · intro h15
          refine n_fg (le_n (le_n (le_n (le_n (le_n le_0))))) ?_
          exact ih.2.2  M2 hS2  (by omega)
    · intro M hS hnn
      refine n_iconst c_105_42 ?_
      exact n_rI c_105_43 rfl ⟨hS, by omega⟩
set_option maxHeartbeats 4000000 in
theorem madeOf_2_2 {xs : List Int32} {e : Nat} {ac : Int} {M0 M : nM} {i w : Int} (hS : Sf 2 ac M0 M) (hi : -2147483648 ≤ i ∧ i ≤ 2147483647) (hw : -2147483648 ≤ w ∧ w ≤ 2147483647) : nW xs (e + 6) 105 0 [some (2, 3), some (0, 2), some (0, i), some (0, w), none] [] M (nPI fun z M1 => Sf 2 ac M0 M1 ∧ (-2147483648 ≤ z ∧ z ≤ 2147483647)) := by
  have hd : (2 : Int) = 2 ∨ (2 : Int) = 3 := by decide
  have hac := hS.2.2.2.2
  refine n_aload_n c_105_0 rfl (n_getR c_105_1 sc_3.n rfl rfl rfl r_3_0 (n_iload_n c_105_4 rfl (n_v1I c_105_5 rfl sc_4.n rfl rfl rfl rfl (isMadeOf_2 (n := 2) hS (by omega)) ?_)))
  intro z1 M2 hP3
  obtain ⟨eM, f3, f3p0⟩ := hP3
  subst eM
  refine n_if0_eq c_105_8 (by omega) ?_ ?_
  · intro h4
    refine n_fg (le_n (le_n (le_n (le_n (le_n le_0))))) ?_
    exact (madeOf_2_2_c hS hi hw 16).1  M hS  (by omega)
  · intro h5
    refine n_iload_n c_105_11 rfl ?_
    refine n_if0_eq c_105_12 (by omega) ?_ ?_
    · intro h6
      refine n_fg (le_s (le_s (le_s (le_s (le_n le_0))))) ?_
      exact (madeOf_2_2_c hS hi hw 16).2.1  M hS (by omega) (by omega)
    · intro h7
      refine n_iload_n c_105_15 rfl (n_iconst c_105_16 ?_)
      refine n_if2_eq c_105_17 (by omega) (by omega) ?_ ?_
      · intro h8
        refine n_fg (le_s (le_s (le_s (le_s (le_n le_0))))) ?_
        exact (madeOf_2_2_c hS hi hw 16).2.1  M hS (by omega) (by omega)
      · intro h9
        refine n_fg (le_n (le_n (le_n (le_n (le_n le_0))))) ?_
        exact (madeOf_2_2_c hS hi hw 16).1  M hS  (by omega)

set_option maxHeartbeats 4000000 in
theorem madeOf_3_2_c {xs : List Int32} {e : Nat} {ac : Int} {M0 M : nM} {i w : Int} (hS : Sf 2 ac M0 M) (hi : -2147483648 ≤ i ∧ i ≤ 2147483647) (hw : -2147483648 ≤ w ∧ w ≤ 2147483647) : ∀ nn : Nat, (∀ (M : nM), Sf 2 ac M0 M → 3 < (nn : Int) → nW xs (e + 6) 105 20 [none, none, none, none, none] [] M (nPI fun z M1 => Sf 2 ac M0 M1 ∧ (-2147483648 ≤ z ∧ z ≤ 2147483647))) ∧ (∀ (M : nM), Sf 2 ac M0 M → (0 ≤ w ∧ w ≤ 1) → 2 < (nn : Int) → nW xs (e + 6) 105 22 [some (2, 3), some (0, 3), some (0, i), some (0, w), none] [] M (nPI fun z M1 => Sf 2 ac M0 M1 ∧ (-2147483648 ≤ z ∧ z ≤ 2147483647))) ∧ (∀ (M : nM), Sf 2 ac M0 M → 1 < (nn : Int) → nW xs (e + 6) 105 42 [none, none, none, none, none] [] M (nPI fun z M1 => Sf 2 ac M0 M1 ∧ (-2147483648 ≤ z ∧ z ≤ 2147483647))) := by
  have hd : (2 : Int) = 2 ∨ (2 : Int) = 3 := by decide
  have hac := hS.2.2.2.2
  intro nn
  induction nn with
  | zero => refine ⟨?_, ?_, ?_⟩ <;> (intros; omega)
  | succ nn ih =>
    refine ⟨?_, ?_, ?_⟩
    · intro M hS hnn
      refine n_iconst c_105_20 ?_
      exact n_rI c_105_21 rfl ⟨hS, by omega⟩
    · intro M hS k3 hnn
      refine n_aload_n c_105_22 rfl (n_iload_n c_105_23 rfl (n_v1A c_105_24 rfl sc_3.n rfl rfl rfl rfl (madeList_3_2  hS ) ?_))
      intro z1 M2 hP3
      obtain ⟨hS2, f3⟩ := hP3
      obtain rfl : z1 = 109 := f3
      refine n_astore (L2 := [some (2, 3), some (0, 3), some (0, i), some (0, w), some (2, 109)]) c_105_27 rfl rfl (n_iload_n c_105_29 rfl ?_)
      refine n_if0_lt c_105_30 (by omega) ?_ ?_
      · intro h4
        refine n_fg (le_n (le_n (le_n (le_n (le_n le_0))))) ?_
        exact ih.2.2  M2 hS2  (by omega)
      · intro h5
        refine n_iload_n c_105_33 rfl (n_aload c_105_34 rfl (n_getV (bi := 2) c_105_36 made109.c0.1.n rfl rfl rfl (t_made hS2 made109).2.2 ?_))
        intro z6 ez6 f7
        refine n_if2_lt c_105_39 (by omega) (by omega) ?_ ?_
        · intro h8
          refine n_iload_n c_105_44 rfl ?_
          refine n_if0_ne c_105_45 (by omega) ?_ ?_
          · intro h9
            refine n_aload c_105_58 rfl (n_getR c_105_60 made109.c0.1.n rfl rfl rfl made109.r.2 (n_iload_n c_105_63 rfl (n_ialoadV c_105_64 made109.c0.2.2.n rfl rfl rfl (by omega) (t_mader hS2 made109 (Or.inr rfl) (by omega)) ?_)))
            intro z10 ez10 f11
            exact n_rI c_105_65 rfl ⟨hS2, by omega⟩
          · intro h12
            refine n_aload c_105_48 rfl (n_getR c_105_50 made109.c0.1.n rfl rfl rfl made109.r.1 (n_iload_n c_105_53 rfl (n_ialoadV c_105_54 made109.c0.2.1.n rfl rfl rfl (by omega) (t_mader hS2 made109 (Or.inl rfl) (by omega)) ?_)))
            intro z13 ez13 f14
            refine n_goto c_105_55 ?_
            exact n_rI c_105_65 rfl ⟨hS2, by omega⟩
        · intro h15
          refine n_fg (le_n (le_n (le_n (le_n (le_n le_0))))) ?_
          exact ih.2.2  M2 hS2  (by omega)
    · intro M hS hnn
      refine n_iconst c_105_42 ?_
      exact n_rI c_105_43 rfl ⟨hS, by omega⟩
set_option maxHeartbeats 4000000 in
theorem madeOf_3_2 {xs : List Int32} {e : Nat} {ac : Int} {M0 M : nM} {i w : Int} (hS : Sf 2 ac M0 M) (hi : -2147483648 ≤ i ∧ i ≤ 2147483647) (hw : -2147483648 ≤ w ∧ w ≤ 2147483647) : nW xs (e + 6) 105 0 [some (2, 3), some (0, 3), some (0, i), some (0, w), none] [] M (nPI fun z M1 => Sf 2 ac M0 M1 ∧ (-2147483648 ≤ z ∧ z ≤ 2147483647)) := by
  have hd : (2 : Int) = 2 ∨ (2 : Int) = 3 := by decide
  have hac := hS.2.2.2.2
  refine n_aload_n c_105_0 rfl (n_getR c_105_1 sc_3.n rfl rfl rfl r_3_0 (n_iload_n c_105_4 rfl (n_v1I c_105_5 rfl sc_4.n rfl rfl rfl rfl (isMadeOf_2 (n := 3) hS (by omega)) ?_)))
  intro z1 M2 hP3
  obtain ⟨eM, f3, f3p0⟩ := hP3
  subst eM
  refine n_if0_eq c_105_8 (by omega) ?_ ?_
  · intro h4
    refine n_fg (le_n (le_n (le_n (le_n (le_n le_0))))) ?_
    exact (madeOf_3_2_c hS hi hw 16).1  M hS  (by omega)
  · intro h5
    refine n_iload_n c_105_11 rfl ?_
    refine n_if0_eq c_105_12 (by omega) ?_ ?_
    · intro h6
      refine n_fg (le_s (le_s (le_s (le_s (le_n le_0))))) ?_
      exact (madeOf_3_2_c hS hi hw 16).2.1  M hS (by omega) (by omega)
    · intro h7
      refine n_iload_n c_105_15 rfl (n_iconst c_105_16 ?_)
      refine n_if2_eq c_105_17 (by omega) (by omega) ?_ ?_
      · intro h8
        refine n_fg (le_s (le_s (le_s (le_s (le_n le_0))))) ?_
        exact (madeOf_3_2_c hS hi hw 16).2.1  M hS (by omega) (by omega)
      · intro h9
        refine n_fg (le_n (le_n (le_n (le_n (le_n le_0))))) ?_
        exact (madeOf_3_2_c hS hi hw 16).1  M hS  (by omega)

set_option maxHeartbeats 4000000 in
theorem madeOfH_2_c {xs : List Int32} {e : Nat} {ac : Int} {M0 M : nM} {n i w : Int} (hS : Sf 2 ac M0 M) (hn : 4 ≤ n ∧ n ≤ 2147483647) (hi : -2147483648 ≤ i ∧ i ≤ 2147483647) (hw : -2147483648 ≤ w ∧ w ≤ 2147483647) : ∀ nn : Nat, (∀ (M : nM), Sf 2 ac M0 M → 1 < (nn : Int) → nW xs (e + 6) 105 20 [none, none, none, none, none] [] M (nPI fun z M1 => Sf 2 ac M0 M1 ∧ (-2147483648 ≤ z ∧ z ≤ 2147483647))) := by
  have hd : (2 : Int) = 2 ∨ (2 : Int) = 3 := by decide
  have hac := hS.2.2.2.2
  intro nn
  induction nn with
  | zero => intros; omega
  | succ nn ih =>
    intro M hS hnn
    refine n_iconst c_105_20 ?_
    exact n_rI c_105_21 rfl ⟨hS, by omega⟩
set_option maxHeartbeats 4000000 in
theorem madeOfH_2 {xs : List Int32} {e : Nat} {ac : Int} {M0 M : nM} {n i w : Int} (hS : Sf 2 ac M0 M) (hn : 4 ≤ n ∧ n ≤ 2147483647) (hi : -2147483648 ≤ i ∧ i ≤ 2147483647) (hw : -2147483648 ≤ w ∧ w ≤ 2147483647) : nW xs (e + 6) 105 0 [some (2, 3), some (0, n), some (0, i), some (0, w), none] [] M (nPI fun z M1 => Sf 2 ac M0 M1 ∧ (-2147483648 ≤ z ∧ z ≤ 2147483647)) := by
  have hd : (2 : Int) = 2 ∨ (2 : Int) = 3 := by decide
  have hac := hS.2.2.2.2
  refine n_aload_n c_105_0 rfl (n_getR c_105_1 sc_3.n rfl rfl rfl r_3_0 (n_iload_n c_105_4 rfl (n_v1I c_105_5 rfl sc_4.n rfl rfl rfl rfl (isMadeOf_2 (n := n) hS (by omega)) ?_)))
  intro z1 M2 hP3
  obtain ⟨eM, f3, f3p0⟩ := hP3
  subst eM
  refine n_if0_eq c_105_8 (by omega) ?_ ?_
  · intro h4
    refine n_fg (le_n (le_n (le_n (le_n (le_n le_0))))) ?_
    exact (madeOfH_2_c hS hn hi hw 12)  M hS  (by omega)
  · intro h5
    exfalso; omega

set_option maxHeartbeats 4000000 in
theorem madeOf_2 {xs : List Int32} {e : Nat} {ac : Int} {M0 M : nM} {n i w : Int} (hS : Sf 2 ac M0 M) (hn : -2147483648 ≤ n ∧ n ≤ 2147483647) (hi : -2147483648 ≤ i ∧ i ≤ 2147483647) (hw : -2147483648 ≤ w ∧ w ≤ 2147483647) : nW xs (e + 6) 105 0 [some (2, 3), some (0, n), some (0, i), some (0, w), none] [] M (nPI fun z M1 => Sf 2 ac M0 M1 ∧ (-2147483648 ≤ z ∧ z ≤ 2147483647)) := by
  rcases (show (-2147483648 ≤ n ∧ n ≤ 0) ∨ n = 1 ∨ n = 2 ∨ n = 3 ∨ (4 ≤ n ∧ n ≤ 2147483647) by omega) with hx | rfl | rfl | rfl | hx
  · exact madeOfL_2 hS (by omega) (by omega) (by omega)
  · exact madeOf_1_2 hS (by omega) (by omega)
  · exact madeOf_2_2 hS (by omega) (by omega)
  · exact madeOf_3_2 hS (by omega) (by omega)
  · exact madeOfH_2 hS (by omega) (by omega) (by omega)

set_option maxHeartbeats 4000000 in
theorem sizeL_2 {xs : List Int32} {e : Nat} {ac : Int} {M0 M : nM} {n c : Int} (hS : Sf 2 ac M0 M) (hn : -2147483648 ≤ n ∧ n ≤ 0) (hc : -2147483648 ≤ c ∧ c ≤ 2147483647) : nW xs (e + 6) 106 0 [some (2, 3), some (0, n), some (0, c), none] [] M (nPI fun z M1 => Sf 2 ac M0 M1 ∧ (-2147483648 ≤ z ∧ z ≤ 2147483647)) := by
  have hd : (2 : Int) = 2 ∨ (2 : Int) = 3 := by decide
  have hac := hS.2.2.2.2
  refine n_aload_n c_106_0 rfl (n_getR c_106_1 sc_3.n rfl rfl rfl r_3_0 (n_iload_n c_106_4 rfl (n_v1I c_106_5 rfl sc_4.n rfl rfl rfl rfl (isMadeOf_2 (n := n) hS (by omega)) ?_)))
  intro z1 M2 hP3
  obtain ⟨eM, f3, f3p0⟩ := hP3
  subst eM
  refine n_if0_ne c_106_8 (by omega) ?_ ?_
  · intro h4
    exfalso; omega
  · intro h5
    refine n_iconst c_106_11 ?_
    exact n_rI c_106_12 rfl ⟨hS, by omega⟩

set_option maxHeartbeats 4000000 in
theorem size_1_2_c {xs : List Int32} {e : Nat} {ac : Int} {M0 M : nM} {c : Int} (hS : Sf 2 ac M0 M) (hc : -2147483648 ≤ c ∧ c ≤ 2147483647) : ∀ nn : Nat, (∀ (M : nM), Sf 2 ac M0 M → 1 < (nn : Int) → nW xs (e + 6) 106 45 [none, none, none, none] [] M (nPI fun z M1 => Sf 2 ac M0 M1 ∧ (-2147483648 ≤ z ∧ z ≤ 2147483647))) := by
  have hd : (2 : Int) = 2 ∨ (2 : Int) = 3 := by decide
  have hac := hS.2.2.2.2
  intro nn
  induction nn with
  | zero => intros; omega
  | succ nn ih =>
    intro M hS hnn
    refine n_iconst c_106_45 ?_
    exact n_rI c_106_46 rfl ⟨hS, by omega⟩
set_option maxHeartbeats 4000000 in
theorem size_1_2 {xs : List Int32} {e : Nat} {ac : Int} {M0 M : nM} {c : Int} (hS : Sf 2 ac M0 M) (hc : -2147483648 ≤ c ∧ c ≤ 2147483647) : nW xs (e + 6) 106 0 [some (2, 3), some (0, 1), some (0, c), none] [] M (nPI fun z M1 => Sf 2 ac M0 M1 ∧ (-2147483648 ≤ z ∧ z ≤ 2147483647)) := by
  have hd : (2 : Int) = 2 ∨ (2 : Int) = 3 := by decide
  have hac := hS.2.2.2.2
  refine n_aload_n c_106_0 rfl (n_getR c_106_1 sc_3.n rfl rfl rfl r_3_0 (n_iload_n c_106_4 rfl (n_v1I c_106_5 rfl sc_4.n rfl rfl rfl rfl (isMadeOf_2 (n := 1) hS (by omega)) ?_)))
  intro z1 M2 hP3
  obtain ⟨eM, f3, f3p0⟩ := hP3
  subst eM
  refine n_if0_ne c_106_8 (by omega) ?_ ?_
  · intro h4
    refine n_aload_n c_106_13 rfl (n_iload_n c_106_14 rfl (n_v1A c_106_15 rfl sc_3.n rfl rfl rfl rfl (madeList_1_2  hS ) ?_))
    intro z5 M6 hP7
    obtain ⟨hS6, f7⟩ := hP7
    obtain rfl : z5 = 103 := f7
    refine n_astore_n (L2 := [some (2, 3), some (0, 1), some (0, c), some (2, 103)]) c_106_18 rfl rfl (n_aload_n c_106_19 rfl (n_getV (bi := 1) c_106_20 made103.c0.1.n rfl rfl rfl (t_made hS6 made103).2.1 ?_))
    intro z8 ez8 f9
    refine n_if0_eq c_106_23 (by omega) ?_ ?_
    · intro h10
      refine n_iload_n c_106_29 rfl ?_
      refine n_if0_lt c_106_30 (by omega) ?_ ?_
      · intro h11
        refine n_fg (le_n (le_n (le_n (le_n le_0)))) ?_
        exact (size_1_2_c hS hc 12)  M6 hS6  (by omega)
      · intro h12
        refine n_iload_n c_106_33 rfl (n_aload_n c_106_34 rfl (n_getR c_106_35 sc_3.n rfl rfl rfl r_3_0 (n_iload_n c_106_38 rfl (n_v1I c_106_39 rfl sc_4.n rfl rfl rfl rfl (codes1_2  hS6 ) ?_))))
        intro z13 M14 hP15
        obtain ⟨eM, f15⟩ := hP15
        subst eM
        obtain rfl : z13 = 4 := by omega
        refine n_if2_lt c_106_42 (by omega) (by omega) ?_ ?_
        · intro h16
          refine n_aload_n c_106_47 rfl (n_iload_n c_106_48 rfl (n_v1I c_106_49 rfl made103.c0.1.n rfl rfl rfl rfl (sizeOf_1_2 (c := c) hS6 (by omega)) ?_))
          intro z17 M18 hP19
          obtain ⟨eM, f19⟩ := hP19
          subst eM
          exact n_rI c_106_52 rfl ⟨hS6, by omega⟩
        · intro h20
          refine n_fg (le_n (le_n (le_n (le_n le_0)))) ?_
          exact (size_1_2_c hS hc 12)  M6 hS6  (by omega)
    · intro h21
      refine n_bipush c_106_26 rfl ?_
      exact n_rI c_106_28 rfl ⟨hS6, by omega⟩
  · intro h22
    refine n_iconst c_106_11 ?_
    exact n_rI c_106_12 rfl ⟨hS, by omega⟩

set_option maxHeartbeats 4000000 in
theorem size_2_2_c {xs : List Int32} {e : Nat} {ac : Int} {M0 M : nM} {c : Int} (hS : Sf 2 ac M0 M) (hc : -2147483648 ≤ c ∧ c ≤ 2147483647) : ∀ nn : Nat, (∀ (M : nM), Sf 2 ac M0 M → 1 < (nn : Int) → nW xs (e + 6) 106 45 [none, none, none, none] [] M (nPI fun z M1 => Sf 2 ac M0 M1 ∧ (-2147483648 ≤ z ∧ z ≤ 2147483647))) := by
  have hd : (2 : Int) = 2 ∨ (2 : Int) = 3 := by decide
  have hac := hS.2.2.2.2
  intro nn
  induction nn with
  | zero => intros; omega
  | succ nn ih =>
    intro M hS hnn
    refine n_iconst c_106_45 ?_
    exact n_rI c_106_46 rfl ⟨hS, by omega⟩
set_option maxHeartbeats 4000000 in
theorem size_2_2 {xs : List Int32} {e : Nat} {ac : Int} {M0 M : nM} {c : Int} (hS : Sf 2 ac M0 M) (hc : -2147483648 ≤ c ∧ c ≤ 2147483647) : nW xs (e + 6) 106 0 [some (2, 3), some (0, 2), some (0, c), none] [] M (nPI fun z M1 => Sf 2 ac M0 M1 ∧ (-2147483648 ≤ z ∧ z ≤ 2147483647)) := by
  have hd : (2 : Int) = 2 ∨ (2 : Int) = 3 := by decide
  have hac := hS.2.2.2.2
  refine n_aload_n c_106_0 rfl (n_getR c_106_1 sc_3.n rfl rfl rfl r_3_0 (n_iload_n c_106_4 rfl (n_v1I c_106_5 rfl sc_4.n rfl rfl rfl rfl (isMadeOf_2 (n := 2) hS (by omega)) ?_)))
  intro z1 M2 hP3
  obtain ⟨eM, f3, f3p0⟩ := hP3
  subst eM
  refine n_if0_ne c_106_8 (by omega) ?_ ?_
  · intro h4
    refine n_aload_n c_106_13 rfl (n_iload_n c_106_14 rfl (n_v1A c_106_15 rfl sc_3.n rfl rfl rfl rfl (madeList_2_2  hS ) ?_))
    intro z5 M6 hP7
    obtain ⟨hS6, f7⟩ := hP7
    obtain rfl : z5 = 106 := f7
    refine n_astore_n (L2 := [some (2, 3), some (0, 2), some (0, c), some (2, 106)]) c_106_18 rfl rfl (n_aload_n c_106_19 rfl (n_getV (bi := 1) c_106_20 made106.c0.1.n rfl rfl rfl (t_made hS6 made106).2.1 ?_))
    intro z8 ez8 f9
    refine n_if0_eq c_106_23 (by omega) ?_ ?_
    · intro h10
      refine n_iload_n c_106_29 rfl ?_
      refine n_if0_lt c_106_30 (by omega) ?_ ?_
      · intro h11
        refine n_fg (le_n (le_n (le_n (le_n le_0)))) ?_
        exact (size_2_2_c hS hc 12)  M6 hS6  (by omega)
      · intro h12
        refine n_iload_n c_106_33 rfl (n_aload_n c_106_34 rfl (n_getR c_106_35 sc_3.n rfl rfl rfl r_3_0 (n_iload_n c_106_38 rfl (n_v1I c_106_39 rfl sc_4.n rfl rfl rfl rfl (codes2_2  hS6 ) ?_))))
        intro z13 M14 hP15
        obtain ⟨eM, f15⟩ := hP15
        subst eM
        obtain rfl : z13 = 16 := by omega
        refine n_if2_lt c_106_42 (by omega) (by omega) ?_ ?_
        · intro h16
          refine n_aload_n c_106_47 rfl (n_iload_n c_106_48 rfl (n_v1I c_106_49 rfl made106.c0.1.n rfl rfl rfl rfl (sizeOf_2_2 (c := c) hS6 (by omega)) ?_))
          intro z17 M18 hP19
          obtain ⟨eM, f19⟩ := hP19
          subst eM
          exact n_rI c_106_52 rfl ⟨hS6, by omega⟩
        · intro h20
          refine n_fg (le_n (le_n (le_n (le_n le_0)))) ?_
          exact (size_2_2_c hS hc 12)  M6 hS6  (by omega)
    · intro h21
      refine n_bipush c_106_26 rfl ?_
      exact n_rI c_106_28 rfl ⟨hS6, by omega⟩
  · intro h22
    refine n_iconst c_106_11 ?_
    exact n_rI c_106_12 rfl ⟨hS, by omega⟩

set_option maxHeartbeats 4000000 in
theorem size_3_2_c {xs : List Int32} {e : Nat} {ac : Int} {M0 M : nM} {c : Int} (hS : Sf 2 ac M0 M) (hc : -2147483648 ≤ c ∧ c ≤ 2147483647) : ∀ nn : Nat, (∀ (M : nM), Sf 2 ac M0 M → 1 < (nn : Int) → nW xs (e + 6) 106 45 [none, none, none, none] [] M (nPI fun z M1 => Sf 2 ac M0 M1 ∧ (-2147483648 ≤ z ∧ z ≤ 2147483647))) := by
  have hd : (2 : Int) = 2 ∨ (2 : Int) = 3 := by decide
  have hac := hS.2.2.2.2
  intro nn
  induction nn with
  | zero => intros; omega
  | succ nn ih =>
    intro M hS hnn
    refine n_iconst c_106_45 ?_
    exact n_rI c_106_46 rfl ⟨hS, by omega⟩
set_option maxHeartbeats 4000000 in
theorem size_3_2 {xs : List Int32} {e : Nat} {ac : Int} {M0 M : nM} {c : Int} (hS : Sf 2 ac M0 M) (hc : -2147483648 ≤ c ∧ c ≤ 2147483647) : nW xs (e + 6) 106 0 [some (2, 3), some (0, 3), some (0, c), none] [] M (nPI fun z M1 => Sf 2 ac M0 M1 ∧ (-2147483648 ≤ z ∧ z ≤ 2147483647)) := by
  have hd : (2 : Int) = 2 ∨ (2 : Int) = 3 := by decide
  have hac := hS.2.2.2.2
  refine n_aload_n c_106_0 rfl (n_getR c_106_1 sc_3.n rfl rfl rfl r_3_0 (n_iload_n c_106_4 rfl (n_v1I c_106_5 rfl sc_4.n rfl rfl rfl rfl (isMadeOf_2 (n := 3) hS (by omega)) ?_)))
  intro z1 M2 hP3
  obtain ⟨eM, f3, f3p0⟩ := hP3
  subst eM
  refine n_if0_ne c_106_8 (by omega) ?_ ?_
  · intro h4
    refine n_aload_n c_106_13 rfl (n_iload_n c_106_14 rfl (n_v1A c_106_15 rfl sc_3.n rfl rfl rfl rfl (madeList_3_2  hS ) ?_))
    intro z5 M6 hP7
    obtain ⟨hS6, f7⟩ := hP7
    obtain rfl : z5 = 109 := f7
    refine n_astore_n (L2 := [some (2, 3), some (0, 3), some (0, c), some (2, 109)]) c_106_18 rfl rfl (n_aload_n c_106_19 rfl (n_getV (bi := 1) c_106_20 made109.c0.1.n rfl rfl rfl (t_made hS6 made109).2.1 ?_))
    intro z8 ez8 f9
    refine n_if0_eq c_106_23 (by omega) ?_ ?_
    · intro h10
      refine n_iload_n c_106_29 rfl ?_
      refine n_if0_lt c_106_30 (by omega) ?_ ?_
      · intro h11
        refine n_fg (le_n (le_n (le_n (le_n le_0)))) ?_
        exact (size_3_2_c hS hc 12)  M6 hS6  (by omega)
      · intro h12
        refine n_iload_n c_106_33 rfl (n_aload_n c_106_34 rfl (n_getR c_106_35 sc_3.n rfl rfl rfl r_3_0 (n_iload_n c_106_38 rfl (n_v1I c_106_39 rfl sc_4.n rfl rfl rfl rfl (codes3_2  hS6 ) ?_))))
        intro z13 M14 hP15
        obtain ⟨eM, f15⟩ := hP15
        subst eM
        obtain rfl : z13 = 256 := by omega
        refine n_if2_lt c_106_42 (by omega) (by omega) ?_ ?_
        · intro h16
          refine n_aload_n c_106_47 rfl (n_iload_n c_106_48 rfl (n_v1I c_106_49 rfl made109.c0.1.n rfl rfl rfl rfl (sizeOf_3_2 (c := c) hS6 (by omega)) ?_))
          intro z17 M18 hP19
          obtain ⟨eM, f19⟩ := hP19
          subst eM
          exact n_rI c_106_52 rfl ⟨hS6, by omega⟩
        · intro h20
          refine n_fg (le_n (le_n (le_n (le_n le_0)))) ?_
          exact (size_3_2_c hS hc 12)  M6 hS6  (by omega)
    · intro h21
      refine n_bipush c_106_26 rfl ?_
      exact n_rI c_106_28 rfl ⟨hS6, by omega⟩
  · intro h22
    refine n_iconst c_106_11 ?_
    exact n_rI c_106_12 rfl ⟨hS, by omega⟩

set_option maxHeartbeats 4000000 in
theorem sizeH_2 {xs : List Int32} {e : Nat} {ac : Int} {M0 M : nM} {n c : Int} (hS : Sf 2 ac M0 M) (hn : 4 ≤ n ∧ n ≤ 2147483647) (hc : -2147483648 ≤ c ∧ c ≤ 2147483647) : nW xs (e + 6) 106 0 [some (2, 3), some (0, n), some (0, c), none] [] M (nPI fun z M1 => Sf 2 ac M0 M1 ∧ (-2147483648 ≤ z ∧ z ≤ 2147483647)) := by
  have hd : (2 : Int) = 2 ∨ (2 : Int) = 3 := by decide
  have hac := hS.2.2.2.2
  refine n_aload_n c_106_0 rfl (n_getR c_106_1 sc_3.n rfl rfl rfl r_3_0 (n_iload_n c_106_4 rfl (n_v1I c_106_5 rfl sc_4.n rfl rfl rfl rfl (isMadeOf_2 (n := n) hS (by omega)) ?_)))
  intro z1 M2 hP3
  obtain ⟨eM, f3, f3p0⟩ := hP3
  subst eM
  refine n_if0_ne c_106_8 (by omega) ?_ ?_
  · intro h4
    exfalso; omega
  · intro h5
    refine n_iconst c_106_11 ?_
    exact n_rI c_106_12 rfl ⟨hS, by omega⟩

set_option maxHeartbeats 4000000 in
theorem size_2 {xs : List Int32} {e : Nat} {ac : Int} {M0 M : nM} {n c : Int} (hS : Sf 2 ac M0 M) (hn : -2147483648 ≤ n ∧ n ≤ 2147483647) (hc : -2147483648 ≤ c ∧ c ≤ 2147483647) : nW xs (e + 6) 106 0 [some (2, 3), some (0, n), some (0, c), none] [] M (nPI fun z M1 => Sf 2 ac M0 M1 ∧ (-2147483648 ≤ z ∧ z ≤ 2147483647)) := by
  rcases (show (-2147483648 ≤ n ∧ n ≤ 0) ∨ n = 1 ∨ n = 2 ∨ n = 3 ∨ (4 ≤ n ∧ n ≤ 2147483647) by omega) with hx | rfl | rfl | rfl | hx
  · exact sizeL_2 hS (by omega) (by omega)
  · exact size_1_2 hS (by omega)
  · exact size_2_2 hS (by omega)
  · exact size_3_2 hS (by omega)
  · exact sizeH_2 hS (by omega) (by omega)
