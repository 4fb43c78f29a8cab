/-! What the methods tell. -/
set_option maxHeartbeats 4000000 in
theorem partX0_0_3 {xs : List Int32} {e : Nat} {ac : Int} {M0 M : nM} (hS : Sf 3 ac M0 M)  : nW xs e 6 0 [some (0, 0), some (0, 0)] [] M (nPI fun z M1 => M = M1 ∧ (0 ≤ z ∧ z ≤ 0) ∧ (z = pt 0 0)) := by
  have hd : (3 : Int) = 2 ∨ (3 : Int) = 3 := by decide
  have hac := hS.2.2.2.2
  refine n_iload_n c_6_0 rfl (n_iconst c_6_1 (n_iload_n c_6_2 rfl (n_imul c_6_3 rfl (n_i_ishr (z := 0) c_6_4 (by decide) ?_))))
  refine n_iconst c_6_5 (n_i_iand (z := 0) c_6_6 (by decide) ?_)
  exact n_rI c_6_7 rfl ⟨rfl, by omega, by decide⟩

set_option maxHeartbeats 4000000 in
theorem partX0_1_3 {xs : List Int32} {e : Nat} {ac : Int} {M0 M : nM} (hS : Sf 3 ac M0 M)  : nW xs e 6 0 [some (0, 0), some (0, 1)] [] M (nPI fun z M1 => M = M1 ∧ (0 ≤ z ∧ z ≤ 0) ∧ (z = pt 0 1)) := by
  have hd : (3 : Int) = 2 ∨ (3 : Int) = 3 := by decide
  have hac := hS.2.2.2.2
  refine n_iload_n c_6_0 rfl (n_iconst c_6_1 (n_iload_n c_6_2 rfl (n_imul c_6_3 rfl (n_i_ishr (z := 0) c_6_4 (by decide) ?_))))
  refine n_iconst c_6_5 (n_i_iand (z := 0) c_6_6 (by decide) ?_)
  exact n_rI c_6_7 rfl ⟨rfl, by omega, by decide⟩

set_option maxHeartbeats 4000000 in
theorem partX0_2_3 {xs : List Int32} {e : Nat} {ac : Int} {M0 M : nM} (hS : Sf 3 ac M0 M)  : nW xs e 6 0 [some (0, 0), some (0, 2)] [] M (nPI fun z M1 => M = M1 ∧ (0 ≤ z ∧ z ≤ 0) ∧ (z = pt 0 2)) := by
  have hd : (3 : Int) = 2 ∨ (3 : Int) = 3 := by decide
  have hac := hS.2.2.2.2
  refine n_iload_n c_6_0 rfl (n_iconst c_6_1 (n_iload_n c_6_2 rfl (n_imul c_6_3 rfl (n_i_ishr (z := 0) c_6_4 (by decide) ?_))))
  refine n_iconst c_6_5 (n_i_iand (z := 0) c_6_6 (by decide) ?_)
  exact n_rI c_6_7 rfl ⟨rfl, by omega, by decide⟩

set_option maxHeartbeats 4000000 in
theorem partX0_3 {xs : List Int32} {e : Nat} {ac : Int} {M0 M : nM} {t : Int} (hS : Sf 3 ac M0 M) (ht : 0 ≤ t ∧ t ≤ 2) : nW xs e 6 0 [some (0, 0), some (0, t)] [] M (nPI fun z M1 => M = M1 ∧ (0 ≤ z ∧ z ≤ 2) ∧ (z = pt 0 t)) := by
  rcases (show t = 0 ∨ t = 1 ∨ t = 2 by omega) with rfl | rfl | rfl
  · exact n_post (partX0_0_3 hS ) (fun w M1 h => by obtain ⟨z, rfl, h1, h2, h3⟩ := h; exact ⟨z, rfl, h1, by omega, h3⟩)
  · exact n_post (partX0_1_3 hS ) (fun w M1 h => by obtain ⟨z, rfl, h1, h2, h3⟩ := h; exact ⟨z, rfl, h1, by omega, h3⟩)
  · exact n_post (partX0_2_3 hS ) (fun w M1 h => by obtain ⟨z, rfl, h1, h2, h3⟩ := h; exact ⟨z, rfl, h1, by omega, h3⟩)

set_option maxHeartbeats 4000000 in
theorem keepsPartsX0_3_c {xs : List Int32} {e : Nat} {ac : Int} {M0 M : nM} {p : Int} (hS : Sf 3 ac M0 M) (hp : ActAt p) (hpl : p < 55 + 3 * ac) : ∀ nn : Nat, (∀ (x3 : Int), (0 ≤ x3 ∧ x3 ≤ 27) → (PPx 3 (fun i => M (p + 1) i) 0 x3) → (27 - x3) * 1 + 1 < (nn : Int) → nW xs (e + 1) 4 2 [some (2, p), some (0, 0), some (2, 4), some (0, x3), none] [] M (nPI fun z M1 => M = M1 ∧ (0 ≤ z ∧ z ≤ 1) ∧ (z = bb (PPx 3 (fun i => M (p + 1) i) 0 (M p 1))))) := by
  have hd : (3 : Int) = 2 ∨ (3 : Int) = 3 := by decide
  have hac := hS.2.2.2.2
  intro nn
  induction nn with
  | zero => intros; omega
  | succ nn ih =>
    intro x3 k3 v0 hnn
    refine n_iload_n c_4_2 rfl (n_aload_n c_4_3 rfl (n_getV (bi := 1) c_4_4 hp.c0.1.n rfl rfl rfl (t_actl hS hp hpl).2 ?_))
    intro z1 ez1 f2
    refine n_if2_ge c_4_7 (by omega) (by omega) ?_ ?_
    · intro h3
      refine n_iconst c_4_90 ?_
      exact n_rZ c_4_91 rfl (by omega) ⟨rfl, by omega, by exact (bb_t (fun x h0 h1 => v0 x h0 (by omega))).symm⟩
    · intro h4
      refine n_iload_n c_4_10 rfl (n_aload_n c_4_11 rfl (n_getR c_4_12 sc_4.n rfl rfl rfl r_4_2 (n_iload_n c_4_15 rfl (n_ialoadV c_4_16 sc_5.n rfl rfl rfl (by omega) (t_5d hS hd (by omega) (by omega)) ?_))))
      intro z5 ez5 f6
      have q5 := t_5e hS (i := x3) (by omega) (by omega)
      refine n_s2I c_4_17 rfl rfl rfl rfl (partX0_3 (t := z5) hS (by omega)) ?_
      intro z7 M8 hP9
      obtain ⟨eM, f9, f9p0⟩ := hP9
      subst eM
      refine n_aload_n c_4_20 rfl (n_getV (bi := 0) c_4_21 sc_4.n rfl rfl rfl (t_4_0 hS) ?_)
      intro z10 ez10 f11
      obtain rfl : z10 = 3 := by omega
      refine n_imul c_4_24 rfl (n_iload_n c_4_25 rfl (n_aload_n c_4_26 rfl (n_getR c_4_27 sc_4.n rfl rfl rfl r_4_3 (n_iload_n c_4_30 rfl (n_ialoadV c_4_31 sc_6.n rfl rfl rfl (by omega) (t_6d hS hd (by omega) (by omega)) ?_)))))
      intro z12 ez12 f13
      have q6 := t_6e hS (i := x3) (by omega) (by omega)
      refine n_s2I c_4_32 rfl rfl rfl rfl (partX0_3 (t := z12) hS (by omega)) ?_
      intro z14 M15 hP16
      obtain ⟨eM, f16, f16p0⟩ := hP16
      subst eM
      refine n_iadd c_4_35 rfl (n_istore (L2 := [some (2, p), some (0, 0), some (2, 4), some (0, x3), some (0, ((z7 * 3) + z14))]) c_4_36 rfl rfl (n_iload c_4_38 rfl (n_aload_n c_4_40 rfl (n_getV (bi := 0) c_4_41 sc_4.n rfl rfl rfl (t_4_0 hS) ?_))))
      intro z17 ez17 f18
      obtain rfl : z17 = 3 := by omega
      refine n_imul c_4_44 rfl (n_iload_n c_4_45 rfl (n_aload_n c_4_46 rfl (n_getR c_4_47 sc_4.n rfl rfl rfl r_4_4 (n_iload_n c_4_50 rfl (n_ialoadV c_4_51 sc_7.n rfl rfl rfl (by omega) (t_7d hS hd (by omega) (by omega)) ?_)))))
      intro z19 ez19 f20
      have q7 := t_7e hS (i := x3) (by omega) (by omega)
      refine n_s2I c_4_52 rfl rfl rfl rfl (partX0_3 (t := z19) hS (by omega)) ?_
      intro z21 M22 hP23
      obtain ⟨eM, f23, f23p0⟩ := hP23
      subst eM
      refine n_iadd c_4_55 rfl (n_istore (L2 := [some (2, p), some (0, 0), some (2, 4), some (0, x3), some (0, ((((z7 * 3) + z14) * 3) + z21))]) c_4_56 rfl rfl (n_iload_n c_4_58 rfl (n_aload_n c_4_59 rfl (n_getR c_4_60 hp.c0.1.n rfl rfl rfl hp.r.1 (n_iload_n c_4_63 rfl (n_ialoadV c_4_64 hp.c0.2.1.n rfl rfl rfl (by omega) (t_actrl hS hp hpl (Or.inl rfl) (by omega) (by omega)) ?_))))))
      intro z24 ez24 f25
      refine n_s2I c_4_65 rfl rfl rfl rfl (partX0_3 (t := z24) hS (by omega)) ?_
      intro z26 M27 hP28
      obtain ⟨eM, f28, f28p0⟩ := hP28
      subst eM
      refine n_iload_n c_4_68 rfl (n_aload_n c_4_69 rfl (n_getR c_4_70 hp.c0.1.n rfl rfl rfl hp.r.1 (n_iload c_4_73 rfl (n_ialoadV c_4_75 hp.c0.2.1.n rfl rfl rfl (by omega) (t_actrl hS hp hpl (Or.inl rfl) (by omega) (by omega)) ?_))))
      intro z29 ez29 f30
      refine n_s2I c_4_76 rfl rfl rfl rfl (partX0_3 (t := z29) hS (by omega)) ?_
      intro z31 M32 hP33
      obtain ⟨eM, f33, f33p0⟩ := hP33
      subst eM
      refine n_if2_eq c_4_79 (by omega) (by omega) ?_ ?_
      · intro h34
        refine n_iinc (L2 := [some (2, p), some (0, 0), some (2, 4), some (0, (x3 + 1)), some (0, ((((z7 * 3) + z14) * 3) + z21))]) c_4_84 rfl rfl rfl (n_goto c_4_87 (n_fg (le_s (le_s (le_s (le_s (le_n le_0))))) ?_))
        exact ih _ (by omega) (by have w5 : z7 = pt 0 (x3 / (3 * 3)) := (by rw [f9p0, ez5, q5]); have w6 : z14 = pt 0 (x3 / 3 % 3) := (by rw [f16p0, ez12, q6]); have w7 : z21 = pt 0 (x3 % 3) := (by rw [f23p0, ez19, q7]); have wl : (z7 * 3 + z14) * 3 + z21 = lst 3 0 x3 := (by unfold lst; rw [w5, w6, w7]); have wa : z26 = pt 0 (M (p + 1) x3) := (by rw [f28p0, ez24]); have wb : z31 = pt 0 (M (p + 1) (lst 3 0 x3)) := (by rw [f33p0, ez29, wl]); exact PPx.step v0 (by show pt 0 (M (p + 1) x3) = pt 0 (M (p + 1) (lst 3 0 x3)); omega)) (by omega)
      · intro h35
        refine n_iconst c_4_82 ?_
        exact n_rZ c_4_83 rfl (by omega) ⟨rfl, by omega, by have w5 : z7 = pt 0 (x3 / (3 * 3)) := (by rw [f9p0, ez5, q5]); have w6 : z14 = pt 0 (x3 / 3 % 3) := (by rw [f16p0, ez12, q6]); have w7 : z21 = pt 0 (x3 % 3) := (by rw [f23p0, ez19, q7]); have wl : (z7 * 3 + z14) * 3 + z21 = lst 3 0 x3 := (by unfold lst; rw [w5, w6, w7]); have wa : z26 = pt 0 (M (p + 1) x3) := (by rw [f28p0, ez24]); have wb : z31 = pt 0 (M (p + 1) (lst 3 0 x3)) := (by rw [f33p0, ez29, wl]); exact (bb_f (fun q => by have q1 : pt 0 (M (p + 1) x3) = pt 0 (M (p + 1) (lst 3 0 x3)) := q x3 (by omega) (by omega); omega)).symm⟩
set_option maxHeartbeats 4000000 in
theorem keepsPartsX0_3 {xs : List Int32} {e : Nat} {ac : Int} {M0 M : nM} {p : Int} (hS : Sf 3 ac M0 M) (hp : ActAt p) (hpl : p < 55 + 3 * ac) : nW xs (e + 1) 4 0 [some (2, p), some (0, 0), some (2, 4), none, none] [] M (nPI fun z M1 => M = M1 ∧ (0 ≤ z ∧ z ≤ 1) ∧ (z = bb (PPx 3 (fun i => M (p + 1) i) 0 (M p 1)))) := by
  have hd : (3 : Int) = 2 ∨ (3 : Int) = 3 := by decide
  have hac := hS.2.2.2.2
  refine n_iconst c_4_0 (n_istore_n (L2 := [some (2, p), some (0, 0), some (2, 4), some (0, 0), none]) c_4_1 rfl rfl (n_fg (le_s (le_s (le_s (le_s (le_n le_0))))) ?_))
  exact (keepsPartsX0_3_c hS hp hpl 68) _ (by omega) (by exact fun x h0 h1 => by omega) (by omega)

set_option maxHeartbeats 4000000 in
theorem aakpX0_3_c {xs : List Int32} {e : Nat} {ac : Int} {M0 M : nM} (hS : Sf 3 ac M0 M)  : ∀ nn : Nat, (∀ (x2 : Int), (0 ≤ x2 ∧ x2 ≤ 8) → (∀ a : Int, 0 ≤ a → a < x2 → PPx 3 (fun i => M (55 + 3 * a + 1) i) 0 (M (55 + 3 * a) 1)) → (8 - x2) * 1 + 1 < (nn : Int) → nW xs (e + 2) 138 2 [some (2, 3), some (0, 0), some (0, x2)] [] M (nPI fun z M1 => M = M1 ∧ (0 ≤ z ∧ z ≤ 1) ∧ (z = bb (PPa 3 M 0)))) := by
  have hd : (3 : Int) = 2 ∨ (3 : Int) = 3 := by decide
  have hac := hS.2.2.2.2
  intro nn
  induction nn with
  | zero => intros; omega
  | succ nn ih =>
    intro x2 k2 v0 hnn
    refine n_iload_n c_138_2 rfl (n_aload_n c_138_3 rfl (n_getV (bi := 14) c_138_4 sc_3.n rfl rfl rfl (t_3_14x hS) ?_))
    intro z1 ez1 f2
    have f2a := t_ac hS
    refine n_if2_ge c_138_7 (by omega) (by omega) ?_ ?_
    · intro h3
      refine n_iconst c_138_35 ?_
      exact n_rZ c_138_36 rfl (by omega) ⟨rfl, by omega, by have t14 := t_ac hS; exact (bb_t (fun a h0 h1 => v0 a h0 (by omega))).symm⟩
    · intro h4
      refine n_aload_n c_138_10 rfl (n_getR c_138_11 sc_3.n rfl rfl rfl r_3_2 (n_iload_n c_138_14 rfl (n_aaload c_138_15 sc_12.n rfl rfl rfl (by omega) (r_acts _) ?_)))
      have q5 : ActAt (55 + 3 * x2) := by unfold ActAt; omega
      have q5l : (55 + 3 * x2) < 55 + 3 * ac := by omega
      refine n_iload_n c_138_16 rfl (n_aload_n c_138_17 rfl (n_getR c_138_18 sc_3.n rfl rfl rfl r_3_0 (n_v2I c_138_21 rfl q5.c0.1.n rfl rfl rfl rfl (keepsPartsX0_3 (p := (55 + 3 * x2)) hS q5 q5l) ?_)))
      intro z6 M7 hP8
      obtain ⟨eM, f8, f8p0⟩ := hP8
      subst eM
      refine n_if0_ne c_138_24 (by omega) ?_ ?_
      · intro h9
        refine n_iinc (L2 := [some (2, 3), some (0, 0), some (0, (x2 + 1))]) c_138_29 rfl rfl rfl (n_goto c_138_32 (n_fg (le_s (le_s (le_s le_0))) ?_))
        exact ih _ (by omega) (by exact fun a h0 h1 => by by_cases e : a = x2; (rw [e]; exact bb_n (by rw [← f8p0]; omega)); exact v0 a h0 (by omega)) (by omega)
      · intro h10
        refine n_iconst c_138_27 ?_
        exact n_rZ c_138_28 rfl (by omega) ⟨rfl, by omega, by have t14 := t_ac hS; exact (bb_f (fun q => bb_z (f8p0.symm.trans (by omega)) (q x2 (by omega) (by omega)))).symm⟩
set_option maxHeartbeats 4000000 in
theorem aakpX0_3 {xs : List Int32} {e : Nat} {ac : Int} {M0 M : nM} (hS : Sf 3 ac M0 M)  : nW xs (e + 2) 138 0 [some (2, 3), some (0, 0), none] [] M (nPI fun z M1 => M = M1 ∧ (0 ≤ z ∧ z ≤ 1) ∧ (z = bb (PPa 3 M 0))) := by
  have hd : (3 : Int) = 2 ∨ (3 : Int) = 3 := by decide
  have hac := hS.2.2.2.2
  refine n_iconst c_138_0 (n_istore_n (L2 := [some (2, 3), some (0, 0), some (0, 0)]) c_138_1 rfl rfl (n_fg (le_s (le_s (le_s le_0))) ?_))
  exact (aakpX0_3_c hS  30) _ (by omega) (by exact fun a h0 h1 => by omega) (by omega)

set_option maxHeartbeats 4000000 in
theorem partX4_0_3 {xs : List Int32} {e : Nat} {ac : Int} {M0 M : nM} (hS : Sf 3 ac M0 M)  : nW xs e 6 0 [some (0, 4), some (0, 0)] [] M (nPI fun z M1 => M = M1 ∧ (0 ≤ z ∧ z ≤ 0) ∧ (z = pt 4 0)) := by
  have hd : (3 : Int) = 2 ∨ (3 : Int) = 3 := by decide
  have hac := hS.2.2.2.2
  refine n_iload_n c_6_0 rfl (n_iconst c_6_1 (n_iload_n c_6_2 rfl (n_imul c_6_3 rfl (n_i_ishr (z := 4) c_6_4 (by decide) ?_))))
  refine n_iconst c_6_5 (n_i_iand (z := 0) c_6_6 (by decide) ?_)
  exact n_rI c_6_7 rfl ⟨rfl, by omega, by decide⟩

set_option maxHeartbeats 4000000 in
theorem partX4_1_3 {xs : List Int32} {e : Nat} {ac : Int} {M0 M : nM} (hS : Sf 3 ac M0 M)  : nW xs e 6 0 [some (0, 4), some (0, 1)] [] M (nPI fun z M1 => M = M1 ∧ (1 ≤ z ∧ z ≤ 1) ∧ (z = pt 4 1)) := by
  have hd : (3 : Int) = 2 ∨ (3 : Int) = 3 := by decide
  have hac := hS.2.2.2.2
  refine n_iload_n c_6_0 rfl (n_iconst c_6_1 (n_iload_n c_6_2 rfl (n_imul c_6_3 rfl (n_i_ishr (z := 1) c_6_4 (by decide) ?_))))
  refine n_iconst c_6_5 (n_i_iand (z := 1) c_6_6 (by decide) ?_)
  exact n_rI c_6_7 rfl ⟨rfl, by omega, by decide⟩

set_option maxHeartbeats 4000000 in
theorem partX4_2_3 {xs : List Int32} {e : Nat} {ac : Int} {M0 M : nM} (hS : Sf 3 ac M0 M)  : nW xs e 6 0 [some (0, 4), some (0, 2)] [] M (nPI fun z M1 => M = M1 ∧ (0 ≤ z ∧ z ≤ 0) ∧ (z = pt 4 2)) := by
  have hd : (3 : Int) = 2 ∨ (3 : Int) = 3 := by decide
  have hac := hS.2.2.2.2
  refine n_iload_n c_6_0 rfl (n_iconst c_6_1 (n_iload_n c_6_2 rfl (n_imul c_6_3 rfl (n_i_ishr (z := 0) c_6_4 (by decide) ?_))))
  refine n_iconst c_6_5 (n_i_iand (z := 0) c_6_6 (by decide) ?_)
  exact n_rI c_6_7 rfl ⟨rfl, by omega, by decide⟩

set_option maxHeartbeats 4000000 in
theorem partX4_3 {xs : List Int32} {e : Nat} {ac : Int} {M0 M : nM} {t : Int} (hS : Sf 3 ac M0 M) (ht : 0 ≤ t ∧ t ≤ 2) : nW xs e 6 0 [some (0, 4), some (0, t)] [] M (nPI fun z M1 => M = M1 ∧ (0 ≤ z ∧ z ≤ 2) ∧ (z = pt 4 t)) := by
  rcases (show t = 0 ∨ t = 1 ∨ t = 2 by omega) with rfl | rfl | rfl
  · exact n_post (partX4_0_3 hS ) (fun w M1 h => by obtain ⟨z, rfl, h1, h2, h3⟩ := h; exact ⟨z, rfl, h1, by omega, h3⟩)
  · exact n_post (partX4_1_3 hS ) (fun w M1 h => by obtain ⟨z, rfl, h1, h2, h3⟩ := h; exact ⟨z, rfl, h1, by omega, h3⟩)
  · exact n_post (partX4_2_3 hS ) (fun w M1 h => by obtain ⟨z, rfl, h1, h2, h3⟩ := h; exact ⟨z, rfl, h1, by omega, h3⟩)

set_option maxHeartbeats 4000000 in
theorem keepsPartsX4_3_c {xs : List Int32} {e : Nat} {ac : Int} {M0 M : nM} {p : Int} (hS : Sf 3 ac M0 M) (hp : ActAt p) (hpl : p < 55 + 3 * ac) : ∀ nn : Nat, (∀ (x3 : Int), (0 ≤ x3 ∧ x3 ≤ 27) → (PPx 3 (fun i => M (p + 1) i) 4 x3) → (27 - x3) * 1 + 1 < (nn : Int) → nW xs (e + 1) 4 2 [some (2, p), some (0, 4), some (2, 4), some (0, x3), none] [] M (nPI fun z M1 => M = M1 ∧ (0 ≤ z ∧ z ≤ 1) ∧ (z = bb (PPx 3 (fun i => M (p + 1) i) 4 (M p 1))))) := by
  have hd : (3 : Int) = 2 ∨ (3 : Int) = 3 := by decide
  have hac := hS.2.2.2.2
  intro nn
  induction nn with
  | zero => intros; omega
  | succ nn ih =>
    intro x3 k3 v0 hnn
    refine n_iload_n c_4_2 rfl (n_aload_n c_4_3 rfl (n_getV (bi := 1) c_4_4 hp.c0.1.n rfl rfl rfl (t_actl hS hp hpl).2 ?_))
    intro z1 ez1 f2
    refine n_if2_ge c_4_7 (by omega) (by omega) ?_ ?_
    · intro h3
      refine n_iconst c_4_90 ?_
      exact n_rZ c_4_91 rfl (by omega) ⟨rfl, by omega, by exact (bb_t (fun x h0 h1 => v0 x h0 (by omega))).symm⟩
    · intro h4
      refine n_iload_n c_4_10 rfl (n_aload_n c_4_11 rfl (n_getR c_4_12 sc_4.n rfl rfl rfl r_4_2 (n_iload_n c_4_15 rfl (n_ialoadV c_4_16 sc_5.n rfl rfl rfl (by omega) (t_5d hS hd (by omega) (by omega)) ?_))))
      intro z5 ez5 f6
      have q5 := t_5e hS (i := x3) (by omega) (by omega)
      refine n_s2I c_4_17 rfl rfl rfl rfl (partX4_3 (t := z5) hS (by omega)) ?_
      intro z7 M8 hP9
      obtain ⟨eM, f9, f9p0⟩ := hP9
      subst eM
      refine n_aload_n c_4_20 rfl (n_getV (bi := 0) c_4_21 sc_4.n rfl rfl rfl (t_4_0 hS) ?_)
      intro z10 ez10 f11
      obtain rfl : z10 = 3 := by omega
      refine n_imul c_4_24 rfl (n_iload_n c_4_25 rfl (n_aload_n c_4_26 rfl (n_getR c_4_27 sc_4.n rfl rfl rfl r_4_3 (n_iload_n c_4_30 rfl (n_ialoadV c_4_31 sc_6.n rfl rfl rfl (by omega) (t_6d hS hd (by omega) (by omega)) ?_)))))
      intro z12 ez12 f13
      have q6 := t_6e hS (i := x3) (by omega) (by omega)
      refine n_s2I c_4_32 rfl rfl rfl rfl (partX4_3 (t := z12) hS (by omega)) ?_
      intro z14 M15 hP16
      obtain ⟨eM, f16, f16p0⟩ := hP16
      subst eM
      refine n_iadd c_4_35 rfl (n_istore (L2 := [some (2, p), some (0, 4), some (2, 4), some (0, x3), some (0, ((z7 * 3) + z14))]) c_4_36 rfl rfl (n_iload c_4_38 rfl (n_aload_n c_4_40 rfl (n_getV (bi := 0) c_4_41 sc_4.n rfl rfl rfl (t_4_0 hS) ?_))))
      intro z17 ez17 f18
      obtain rfl : z17 = 3 := by omega
      refine n_imul c_4_44 rfl (n_iload_n c_4_45 rfl (n_aload_n c_4_46 rfl (n_getR c_4_47 sc_4.n rfl rfl rfl r_4_4 (n_iload_n c_4_50 rfl (n_ialoadV c_4_51 sc_7.n rfl rfl rfl (by omega) (t_7d hS hd (by omega) (by omega)) ?_)))))
      intro z19 ez19 f20
      have q7 := t_7e hS (i := x3) (by omega) (by omega)
      refine n_s2I c_4_52 rfl rfl rfl rfl (partX4_3 (t := z19) hS (by omega)) ?_
      intro z21 M22 hP23
      obtain ⟨eM, f23, f23p0⟩ := hP23
      subst eM
      refine n_iadd c_4_55 rfl (n_istore (L2 := [some (2, p), some (0, 4), some (2, 4), some (0, x3), some (0, ((((z7 * 3) + z14) * 3) + z21))]) c_4_56 rfl rfl (n_iload_n c_4_58 rfl (n_aload_n c_4_59 rfl (n_getR c_4_60 hp.c0.1.n rfl rfl rfl hp.r.1 (n_iload_n c_4_63 rfl (n_ialoadV c_4_64 hp.c0.2.1.n rfl rfl rfl (by omega) (t_actrl hS hp hpl (Or.inl rfl) (by omega) (by omega)) ?_))))))
      intro z24 ez24 f25
      refine n_s2I c_4_65 rfl rfl rfl rfl (partX4_3 (t := z24) hS (by omega)) ?_
      intro z26 M27 hP28
      obtain ⟨eM, f28, f28p0⟩ := hP28
      subst eM
      refine n_iload_n c_4_68 rfl (n_aload_n c_4_69 rfl (n_getR c_4_70 hp.c0.1.n rfl rfl rfl hp.r.1 (n_iload c_4_73 rfl (n_ialoadV c_4_75 hp.c0.2.1.n rfl rfl rfl (by omega) (t_actrl hS hp hpl (Or.inl rfl) (by omega) (by omega)) ?_))))
      intro z29 ez29 f30
      refine n_s2I c_4_76 rfl rfl rfl rfl (partX4_3 (t := z29) hS (by omega)) ?_
      intro z31 M32 hP33
      obtain ⟨eM, f33, f33p0⟩ := hP33
      subst eM
      refine n_if2_eq c_4_79 (by omega) (by omega) ?_ ?_
      · intro h34
        refine n_iinc (L2 := [some (2, p), some (0, 4), some (2, 4), some (0, (x3 + 1)), some (0, ((((z7 * 3) + z14) * 3) + z21))]) c_4_84 rfl rfl rfl (n_goto c_4_87 (n_fg (le_s (le_s (le_s (le_s (le_n le_0))))) ?_))
        exact ih _ (by omega) (by have w5 : z7 = pt 4 (x3 / (3 * 3)) := (by rw [f9p0, ez5, q5]); have w6 : z14 = pt 4 (x3 / 3 % 3) := (by rw [f16p0, ez12, q6]); have w7 : z21 = pt 4 (x3 % 3) := (by rw [f23p0, ez19, q7]); have wl : (z7 * 3 + z14) * 3 + z21 = lst 3 4 x3 := (by unfold lst; rw [w5, w6, w7]); have wa : z26 = pt 4 (M (p + 1) x3) := (by rw [f28p0, ez24]); have wb : z31 = pt 4 (M (p + 1) (lst 3 4 x3)) := (by rw [f33p0, ez29, wl]); exact PPx.step v0 (by show pt 4 (M (p + 1) x3) = pt 4 (M (p + 1) (lst 3 4 x3)); omega)) (by omega)
      · intro h35
        refine n_iconst c_4_82 ?_
        exact n_rZ c_4_83 rfl (by omega) ⟨rfl, by omega, by have w5 : z7 = pt 4 (x3 / (3 * 3)) := (by rw [f9p0, ez5, q5]); have w6 : z14 = pt 4 (x3 / 3 % 3) := (by rw [f16p0, ez12, q6]); have w7 : z21 = pt 4 (x3 % 3) := (by rw [f23p0, ez19, q7]); have wl : (z7 * 3 + z14) * 3 + z21 = lst 3 4 x3 := (by unfold lst; rw [w5, w6, w7]); have wa : z26 = pt 4 (M (p + 1) x3) := (by rw [f28p0, ez24]); have wb : z31 = pt 4 (M (p + 1) (lst 3 4 x3)) := (by rw [f33p0, ez29, wl]); exact (bb_f (fun q => by have q1 : pt 4 (M (p + 1) x3) = pt 4 (M (p + 1) (lst 3 4 x3)) := q x3 (by omega) (by omega); omega)).symm⟩
set_option maxHeartbeats 4000000 in
theorem keepsPartsX4_3 {xs : List Int32} {e : Nat} {ac : Int} {M0 M : nM} {p : Int} (hS : Sf 3 ac M0 M) (hp : ActAt p) (hpl : p < 55 + 3 * ac) : nW xs (e + 1) 4 0 [some (2, p), some (0, 4), some (2, 4), none, none] [] M (nPI fun z M1 => M = M1 ∧ (0 ≤ z ∧ z ≤ 1) ∧ (z = bb (PPx 3 (fun i => M (p + 1) i) 4 (M p 1)))) := by
  have hd : (3 : Int) = 2 ∨ (3 : Int) = 3 := by decide
  have hac := hS.2.2.2.2
  refine n_iconst c_4_0 (n_istore_n (L2 := [some (2, p), some (0, 4), some (2, 4), some (0, 0), none]) c_4_1 rfl rfl (n_fg (le_s (le_s (le_s (le_s (le_n le_0))))) ?_))
  exact (keepsPartsX4_3_c hS hp hpl 68) _ (by omega) (by exact fun x h0 h1 => by omega) (by omega)

set_option maxHeartbeats 4000000 in
theorem aakpX4_3_c {xs : List Int32} {e : Nat} {ac : Int} {M0 M : nM} (hS : Sf 3 ac M0 M)  : ∀ nn : Nat, (∀ (x2 : Int), (0 ≤ x2 ∧ x2 ≤ 8) → (∀ a : Int, 0 ≤ a → a < x2 → PPx 3 (fun i => M (55 + 3 * a + 1) i) 4 (M (55 + 3 * a) 1)) → (8 - x2) * 1 + 1 < (nn : Int) → nW xs (e + 2) 138 2 [some (2, 3), some (0, 4), some (0, x2)] [] M (nPI fun z M1 => M = M1 ∧ (0 ≤ z ∧ z ≤ 1) ∧ (z = bb (PPa 3 M 4)))) := by
  have hd : (3 : Int) = 2 ∨ (3 : Int) = 3 := by decide
  have hac := hS.2.2.2.2
  intro nn
  induction nn with
  | zero => intros; omega
  | succ nn ih =>
    intro x2 k2 v0 hnn
    refine n_iload_n c_138_2 rfl (n_aload_n c_138_3 rfl (n_getV (bi := 14) c_138_4 sc_3.n rfl rfl rfl (t_3_14x hS) ?_))
    intro z1 ez1 f2
    have f2a := t_ac hS
    refine n_if2_ge c_138_7 (by omega) (by omega) ?_ ?_
    · intro h3
      refine n_iconst c_138_35 ?_
      exact n_rZ c_138_36 rfl (by omega) ⟨rfl, by omega, by have t14 := t_ac hS; exact (bb_t (fun a h0 h1 => v0 a h0 (by omega))).symm⟩
    · intro h4
      refine n_aload_n c_138_10 rfl (n_getR c_138_11 sc_3.n rfl rfl rfl r_3_2 (n_iload_n c_138_14 rfl (n_aaload c_138_15 sc_12.n rfl rfl rfl (by omega) (r_acts _) ?_)))
      have q5 : ActAt (55 + 3 * x2) := by unfold ActAt; omega
      have q5l : (55 + 3 * x2) < 55 + 3 * ac := by omega
      refine n_iload_n c_138_16 rfl (n_aload_n c_138_17 rfl (n_getR c_138_18 sc_3.n rfl rfl rfl r_3_0 (n_v2I c_138_21 rfl q5.c0.1.n rfl rfl rfl rfl (keepsPartsX4_3 (p := (55 + 3 * x2)) hS q5 q5l) ?_)))
      intro z6 M7 hP8
      obtain ⟨eM, f8, f8p0⟩ := hP8
      subst eM
      refine n_if0_ne c_138_24 (by omega) ?_ ?_
      · intro h9
        refine n_iinc (L2 := [some (2, 3), some (0, 4), some (0, (x2 + 1))]) c_138_29 rfl rfl rfl (n_goto c_138_32 (n_fg (le_s (le_s (le_s le_0))) ?_))
        exact ih _ (by omega) (by exact fun a h0 h1 => by by_cases e : a = x2; (rw [e]; exact bb_n (by rw [← f8p0]; omega)); exact v0 a h0 (by omega)) (by omega)
      · intro h10
        refine n_iconst c_138_27 ?_
        exact n_rZ c_138_28 rfl (by omega) ⟨rfl, by omega, by have t14 := t_ac hS; exact (bb_f (fun q => bb_z (f8p0.symm.trans (by omega)) (q x2 (by omega) (by omega)))).symm⟩
set_option maxHeartbeats 4000000 in
theorem aakpX4_3 {xs : List Int32} {e : Nat} {ac : Int} {M0 M : nM} (hS : Sf 3 ac M0 M)  : nW xs (e + 2) 138 0 [some (2, 3), some (0, 4), none] [] M (nPI fun z M1 => M = M1 ∧ (0 ≤ z ∧ z ≤ 1) ∧ (z = bb (PPa 3 M 4))) := by
  have hd : (3 : Int) = 2 ∨ (3 : Int) = 3 := by decide
  have hac := hS.2.2.2.2
  refine n_iconst c_138_0 (n_istore_n (L2 := [some (2, 3), some (0, 4), some (0, 0)]) c_138_1 rfl rfl (n_fg (le_s (le_s (le_s le_0))) ?_))
  exact (aakpX4_3_c hS  30) _ (by omega) (by exact fun a h0 h1 => by omega) (by omega)

set_option maxHeartbeats 4000000 in
theorem partX20_0_3 {xs : List Int32} {e : Nat} {ac : Int} {M0 M : nM} (hS : Sf 3 ac M0 M)  : nW xs e 6 0 [some (0, 20), some (0, 0)] [] M (nPI fun z M1 => M = M1 ∧ (0 ≤ z ∧ z ≤ 0) ∧ (z = pt 20 0)) := by
  have hd : (3 : Int) = 2 ∨ (3 : Int) = 3 := by decide
  have hac := hS.2.2.2.2
  refine n_iload_n c_6_0 rfl (n_iconst c_6_1 (n_iload_n c_6_2 rfl (n_imul c_6_3 rfl (n_i_ishr (z := 20) c_6_4 (by decide) ?_))))
  refine n_iconst c_6_5 (n_i_iand (z := 0) c_6_6 (by decide) ?_)
  exact n_rI c_6_7 rfl ⟨rfl, by omega, by decide⟩

set_option maxHeartbeats 4000000 in
theorem partX20_1_3 {xs : List Int32} {e : Nat} {ac : Int} {M0 M : nM} (hS : Sf 3 ac M0 M)  : nW xs e 6 0 [some (0, 20), some (0, 1)] [] M (nPI fun z M1 => M = M1 ∧ (1 ≤ z ∧ z ≤ 1) ∧ (z = pt 20 1)) := by
  have hd : (3 : Int) = 2 ∨ (3 : Int) = 3 := by decide
  have hac := hS.2.2.2.2
  refine n_iload_n c_6_0 rfl (n_iconst c_6_1 (n_iload_n c_6_2 rfl (n_imul c_6_3 rfl (n_i_ishr (z := 5) c_6_4 (by decide) ?_))))
  refine n_iconst c_6_5 (n_i_iand (z := 1) c_6_6 (by decide) ?_)
  exact n_rI c_6_7 rfl ⟨rfl, by omega, by decide⟩

set_option maxHeartbeats 4000000 in
theorem partX20_2_3 {xs : List Int32} {e : Nat} {ac : Int} {M0 M : nM} (hS : Sf 3 ac M0 M)  : nW xs e 6 0 [some (0, 20), some (0, 2)] [] M (nPI fun z M1 => M = M1 ∧ (1 ≤ z ∧ z ≤ 1) ∧ (z = pt 20 2)) := by
  have hd : (3 : Int) = 2 ∨ (3 : Int) = 3 := by decide
  have hac := hS.2.2.2.2
  refine n_iload_n c_6_0 rfl (n_iconst c_6_1 (n_iload_n c_6_2 rfl (n_imul c_6_3 rfl (n_i_ishr (z := 1) c_6_4 (by decide) ?_))))
  refine n_iconst c_6_5 (n_i_iand (z := 1) c_6_6 (by decide) ?_)
  exact n_rI c_6_7 rfl ⟨rfl, by omega, by decide⟩

set_option maxHeartbeats 4000000 in
theorem partX20_3 {xs : List Int32} {e : Nat} {ac : Int} {M0 M : nM} {t : Int} (hS : Sf 3 ac M0 M) (ht : 0 ≤ t ∧ t ≤ 2) : nW xs e 6 0 [some (0, 20), some (0, t)] [] M (nPI fun z M1 => M = M1 ∧ (0 ≤ z ∧ z ≤ 2) ∧ (z = pt 20 t)) := by
  rcases (show t = 0 ∨ t = 1 ∨ t = 2 by omega) with rfl | rfl | rfl
  · exact n_post (partX20_0_3 hS ) (fun w M1 h => by obtain ⟨z, rfl, h1, h2, h3⟩ := h; exact ⟨z, rfl, h1, by omega, h3⟩)
  · exact n_post (partX20_1_3 hS ) (fun w M1 h => by obtain ⟨z, rfl, h1, h2, h3⟩ := h; exact ⟨z, rfl, h1, by omega, h3⟩)
  · exact n_post (partX20_2_3 hS ) (fun w M1 h => by obtain ⟨z, rfl, h1, h2, h3⟩ := h; exact ⟨z, rfl, h1, by omega, h3⟩)

set_option maxHeartbeats 4000000 in
theorem keepsPartsX20_3_c {xs : List Int32} {e : Nat} {ac : Int} {M0 M : nM} {p : Int} (hS : Sf 3 ac M0 M) (hp : ActAt p) (hpl : p < 55 + 3 * ac) : ∀ nn : Nat, (∀ (x3 : Int), (0 ≤ x3 ∧ x3 ≤ 27) → (PPx 3 (fun i => M (p + 1) i) 20 x3) → (27 - x3) * 1 + 1 < (nn : Int) → nW xs (e + 1) 4 2 [some (2, p), some (0, 20), some (2, 4), some (0, x3), none] [] M (nPI fun z M1 => M = M1 ∧ (0 ≤ z ∧ z ≤ 1) ∧ (z = bb (PPx 3 (fun i => M (p + 1) i) 20 (M p 1))))) := by
  have hd : (3 : Int) = 2 ∨ (3 : Int) = 3 := by decide
  have hac := hS.2.2.2.2
  intro nn
  induction nn with
  | zero => intros; omega
  | succ nn ih =>
    intro x3 k3 v0 hnn
    refine n_iload_n c_4_2 rfl (n_aload_n c_4_3 rfl (n_getV (bi := 1) c_4_4 hp.c0.1.n rfl rfl rfl (t_actl hS hp hpl).2 ?_))
    intro z1 ez1 f2
    refine n_if2_ge c_4_7 (by omega) (by omega) ?_ ?_
    · intro h3
      refine n_iconst c_4_90 ?_
      exact n_rZ c_4_91 rfl (by omega) ⟨rfl, by omega, by exact (bb_t (fun x h0 h1 => v0 x h0 (by omega))).symm⟩
    · intro h4
      refine n_iload_n c_4_10 rfl (n_aload_n c_4_11 rfl (n_getR c_4_12 sc_4.n rfl rfl rfl r_4_2 (n_iload_n c_4_15 rfl (n_ialoadV c_4_16 sc_5.n rfl rfl rfl (by omega) (t_5d hS hd (by omega) (by omega)) ?_))))
      intro z5 ez5 f6
      have q5 := t_5e hS (i := x3) (by omega) (by omega)
      refine n_s2I c_4_17 rfl rfl rfl rfl (partX20_3 (t := z5) hS (by omega)) ?_
      intro z7 M8 hP9
      obtain ⟨eM, f9, f9p0⟩ := hP9
      subst eM
      refine n_aload_n c_4_20 rfl (n_getV (bi := 0) c_4_21 sc_4.n rfl rfl rfl (t_4_0 hS) ?_)
      intro z10 ez10 f11
      obtain rfl : z10 = 3 := by omega
      refine n_imul c_4_24 rfl (n_iload_n c_4_25 rfl (n_aload_n c_4_26 rfl (n_getR c_4_27 sc_4.n rfl rfl rfl r_4_3 (n_iload_n c_4_30 rfl (n_ialoadV c_4_31 sc_6.n rfl rfl rfl (by omega) (t_6d hS hd (by omega) (by omega)) ?_)))))
      intro z12 ez12 f13
      have q6 := t_6e hS (i := x3) (by omega) (by omega)
      refine n_s2I c_4_32 rfl rfl rfl rfl (partX20_3 (t := z12) hS (by omega)) ?_
      intro z14 M15 hP16
      obtain ⟨eM, f16, f16p0⟩ := hP16
      subst eM
      refine n_iadd c_4_35 rfl (n_istore (L2 := [some (2, p), some (0, 20), some (2, 4), some (0, x3), some (0, ((z7 * 3) + z14))]) c_4_36 rfl rfl (n_iload c_4_38 rfl (n_aload_n c_4_40 rfl (n_getV (bi := 0) c_4_41 sc_4.n rfl rfl rfl (t_4_0 hS) ?_))))
      intro z17 ez17 f18
      obtain rfl : z17 = 3 := by omega
      refine n_imul c_4_44 rfl (n_iload_n c_4_45 rfl (n_aload_n c_4_46 rfl (n_getR c_4_47 sc_4.n rfl rfl rfl r_4_4 (n_iload_n c_4_50 rfl (n_ialoadV c_4_51 sc_7.n rfl rfl rfl (by omega) (t_7d hS hd (by omega) (by omega)) ?_)))))
      intro z19 ez19 f20
      have q7 := t_7e hS (i := x3) (by omega) (by omega)
      refine n_s2I c_4_52 rfl rfl rfl rfl (partX20_3 (t := z19) hS (by omega)) ?_
      intro z21 M22 hP23
      obtain ⟨eM, f23, f23p0⟩ := hP23
      subst eM
      refine n_iadd c_4_55 rfl (n_istore (L2 := [some (2, p), some (0, 20), some (2, 4), some (0, x3), some (0, ((((z7 * 3) + z14) * 3) + z21))]) c_4_56 rfl rfl (n_iload_n c_4_58 rfl (n_aload_n c_4_59 rfl (n_getR c_4_60 hp.c0.1.n rfl rfl rfl hp.r.1 (n_iload_n c_4_63 rfl (n_ialoadV c_4_64 hp.c0.2.1.n rfl rfl rfl (by omega) (t_actrl hS hp hpl (Or.inl rfl) (by omega) (by omega)) ?_))))))
      intro z24 ez24 f25
      refine n_s2I c_4_65 rfl rfl rfl rfl (partX20_3 (t := z24) hS (by omega)) ?_
      intro z26 M27 hP28
      obtain ⟨eM, f28, f28p0⟩ := hP28
      subst eM
      refine n_iload_n c_4_68 rfl (n_aload_n c_4_69 rfl (n_getR c_4_70 hp.c0.1.n rfl rfl rfl hp.r.1 (n_iload c_4_73 rfl (n_ialoadV c_4_75 hp.c0.2.1.n rfl rfl rfl (by omega) (t_actrl hS hp hpl (Or.inl rfl) (by omega) (by omega)) ?_))))
      intro z29 ez29 f30
      refine n_s2I c_4_76 rfl rfl rfl rfl (partX20_3 (t := z29) hS (by omega)) ?_
      intro z31 M32 hP33
      obtain ⟨eM, f33, f33p0⟩ := hP33
      subst eM
      refine n_if2_eq c_4_79 (by omega) (by omega) ?_ ?_
      · intro h34
        refine n_iinc (L2 := [some (2, p), some (0, 20), some (2, 4), some (0, (x3 + 1)), some (0, ((((z7 * 3) + z14) * 3) + z21))]) c_4_84 rfl rfl rfl (n_goto c_4_87 (n_fg (le_s (le_s (le_s (le_s (le_n le_0))))) ?_))
        exact ih _ (by omega) (by have w5 : z7 = pt 20 (x3 / (3 * 3)) := (by rw [f9p0, ez5, q5]); have w6 : z14 = pt 20 (x3 / 3 % 3) := (by rw [f16p0, ez12, q6]); have w7 : z21 = pt 20 (x3 % 3) := (by rw [f23p0, ez19, q7]); have wl : (z7 * 3 + z14) * 3 + z21 = lst 3 20 x3 := (by unfold lst; rw [w5, w6, w7]); have wa : z26 = pt 20 (M (p + 1) x3) := (by rw [f28p0, ez24]); have wb : z31 = pt 20 (M (p + 1) (lst 3 20 x3)) := (by rw [f33p0, ez29, wl]); exact PPx.step v0 (by show pt 20 (M (p + 1) x3) = pt 20 (M (p + 1) (lst 3 20 x3)); omega)) (by omega)
      · intro h35
        refine n_iconst c_4_82 ?_
        exact n_rZ c_4_83 rfl (by omega) ⟨rfl, by omega, by have w5 : z7 = pt 20 (x3 / (3 * 3)) := (by rw [f9p0, ez5, q5]); have w6 : z14 = pt 20 (x3 / 3 % 3) := (by rw [f16p0, ez12, q6]); have w7 : z21 = pt 20 (x3 % 3) := (by rw [f23p0, ez19, q7]); have wl : (z7 * 3 + z14) * 3 + z21 = lst 3 20 x3 := (by unfold lst; rw [w5, w6, w7]); have wa : z26 = pt 20 (M (p + 1) x3) := (by rw [f28p0, ez24]); have wb : z31 = pt 20 (M (p + 1) (lst 3 20 x3)) := (by rw [f33p0, ez29, wl]); exact (bb_f (fun q => by have q1 : pt 20 (M (p + 1) x3) = pt 20 (M (p + 1) (lst 3 20 x3)) := q x3 (by omega) (by omega); omega)).symm⟩
set_option maxHeartbeats 4000000 in
theorem keepsPartsX20_3 {xs : List Int32} {e : Nat} {ac : Int} {M0 M : nM} {p : Int} (hS : Sf 3 ac M0 M) (hp : ActAt p) (hpl : p < 55 + 3 * ac) : nW xs (e + 1) 4 0 [some (2, p), some (0, 20), some (2, 4), none, none] [] M (nPI fun z M1 => M = M1 ∧ (0 ≤ z ∧ z ≤ 1) ∧ (z = bb (PPx 3 (fun i => M (p + 1) i) 20 (M p 1)))) := by
  have hd : (3 : Int) = 2 ∨ (3 : Int) = 3 := by decide
  have hac := hS.2.2.2.2
  refine n_iconst c_4_0 (n_istore_n (L2 := [some (2, p), some (0, 20), some (2, 4), some (0, 0), none]) c_4_1 rfl rfl (n_fg (le_s (le_s (le_s (le_s (le_n le_0))))) ?_))
  exact (keepsPartsX20_3_c hS hp hpl 68) _ (by omega) (by exact fun x h0 h1 => by omega) (by omega)

set_option maxHeartbeats 4000000 in
theorem aakpX20_3_c {xs : List Int32} {e : Nat} {ac : Int} {M0 M : nM} (hS : Sf 3 ac M0 M)  : ∀ nn : Nat, (∀ (x2 : Int), (0 ≤ x2 ∧ x2 ≤ 8) → (∀ a : Int, 0 ≤ a → a < x2 → PPx 3 (fun i => M (55 + 3 * a + 1) i) 20 (M (55 + 3 * a) 1)) → (8 - x2) * 1 + 1 < (nn : Int) → nW xs (e + 2) 138 2 [some (2, 3), some (0, 20), some (0, x2)] [] M (nPI fun z M1 => M = M1 ∧ (0 ≤ z ∧ z ≤ 1) ∧ (z = bb (PPa 3 M 20)))) := by
  have hd : (3 : Int) = 2 ∨ (3 : Int) = 3 := by decide
  have hac := hS.2.2.2.2
  intro nn
  induction nn with
  | zero => intros; omega
  | succ nn ih =>
    intro x2 k2 v0 hnn
    refine n_iload_n c_138_2 rfl (n_aload_n c_138_3 rfl (n_getV (bi := 14) c_138_4 sc_3.n rfl rfl rfl (t_3_14x hS) ?_))
    intro z1 ez1 f2
    have f2a := t_ac hS
    refine n_if2_ge c_138_7 (by omega) (by omega) ?_ ?_
    · intro h3
      refine n_iconst c_138_35 ?_
      exact n_rZ c_138_36 rfl (by omega) ⟨rfl, by omega, by have t14 := t_ac hS; exact (bb_t (fun a h0 h1 => v0 a h0 (by omega))).symm⟩
    · intro h4
      refine n_aload_n c_138_10 rfl (n_getR c_138_11 sc_3.n rfl rfl rfl r_3_2 (n_iload_n c_138_14 rfl (n_aaload c_138_15 sc_12.n rfl rfl rfl (by omega) (r_acts _) ?_)))
      have q5 : ActAt (55 + 3 * x2) := by unfold ActAt; omega
      have q5l : (55 + 3 * x2) < 55 + 3 * ac := by omega
      refine n_iload_n c_138_16 rfl (n_aload_n c_138_17 rfl (n_getR c_138_18 sc_3.n rfl rfl rfl r_3_0 (n_v2I c_138_21 rfl q5.c0.1.n rfl rfl rfl rfl (keepsPartsX20_3 (p := (55 + 3 * x2)) hS q5 q5l) ?_)))
      intro z6 M7 hP8
      obtain ⟨eM, f8, f8p0⟩ := hP8
      subst eM
      refine n_if0_ne c_138_24 (by omega) ?_ ?_
      · intro h9
        refine n_iinc (L2 := [some (2, 3), some (0, 20), some (0, (x2 + 1))]) c_138_29 rfl rfl rfl (n_goto c_138_32 (n_fg (le_s (le_s (le_s le_0))) ?_))
        exact ih _ (by omega) (by exact fun a h0 h1 => by by_cases e : a = x2; (rw [e]; exact bb_n (by rw [← f8p0]; omega)); exact v0 a h0 (by omega)) (by omega)
      · intro h10
        refine n_iconst c_138_27 ?_
        exact n_rZ c_138_28 rfl (by omega) ⟨rfl, by omega, by have t14 := t_ac hS; exact (bb_f (fun q => bb_z (f8p0.symm.trans (by omega)) (q x2 (by omega) (by omega)))).symm⟩
set_option maxHeartbeats 4000000 in
theorem aakpX20_3 {xs : List Int32} {e : Nat} {ac : Int} {M0 M : nM} (hS : Sf 3 ac M0 M)  : nW xs (e + 2) 138 0 [some (2, 3), some (0, 20), none] [] M (nPI fun z M1 => M = M1 ∧ (0 ≤ z ∧ z ≤ 1) ∧ (z = bb (PPa 3 M 20))) := by
  have hd : (3 : Int) = 2 ∨ (3 : Int) = 3 := by decide
  have hac := hS.2.2.2.2
  refine n_iconst c_138_0 (n_istore_n (L2 := [some (2, 3), some (0, 20), some (0, 0)]) c_138_1 rfl rfl (n_fg (le_s (le_s (le_s le_0))) ?_))
  exact (aakpX20_3_c hS  30) _ (by omega) (by exact fun a h0 h1 => by omega) (by omega)

set_option maxHeartbeats 4000000 in
theorem partX32_0_3 {xs : List Int32} {e : Nat} {ac : Int} {M0 M : nM} (hS : Sf 3 ac M0 M)  : nW xs e 6 0 [some (0, 32), some (0, 0)] [] M (nPI fun z M1 => M = M1 ∧ (0 ≤ z ∧ z ≤ 0) ∧ (z = pt 32 0)) := by
  have hd : (3 : Int) = 2 ∨ (3 : Int) = 3 := by decide
  have hac := hS.2.2.2.2
  refine n_iload_n c_6_0 rfl (n_iconst c_6_1 (n_iload_n c_6_2 rfl (n_imul c_6_3 rfl (n_i_ishr (z := 32) c_6_4 (by decide) ?_))))
  refine n_iconst c_6_5 (n_i_iand (z := 0) c_6_6 (by decide) ?_)
  exact n_rI c_6_7 rfl ⟨rfl, by omega, by decide⟩

set_option maxHeartbeats 4000000 in
theorem partX32_1_3 {xs : List Int32} {e : Nat} {ac : Int} {M0 M : nM} (hS : Sf 3 ac M0 M)  : nW xs e 6 0 [some (0, 32), some (0, 1)] [] M (nPI fun z M1 => M = M1 ∧ (0 ≤ z ∧ z ≤ 0) ∧ (z = pt 32 1)) := by
  have hd : (3 : Int) = 2 ∨ (3 : Int) = 3 := by decide
  have hac := hS.2.2.2.2
  refine n_iload_n c_6_0 rfl (n_iconst c_6_1 (n_iload_n c_6_2 rfl (n_imul c_6_3 rfl (n_i_ishr (z := 8) c_6_4 (by decide) ?_))))
  refine n_iconst c_6_5 (n_i_iand (z := 0) c_6_6 (by decide) ?_)
  exact n_rI c_6_7 rfl ⟨rfl, by omega, by decide⟩

set_option maxHeartbeats 4000000 in
theorem partX32_2_3 {xs : List Int32} {e : Nat} {ac : Int} {M0 M : nM} (hS : Sf 3 ac M0 M)  : nW xs e 6 0 [some (0, 32), some (0, 2)] [] M (nPI fun z M1 => M = M1 ∧ (2 ≤ z ∧ z ≤ 2) ∧ (z = pt 32 2)) := by
  have hd : (3 : Int) = 2 ∨ (3 : Int) = 3 := by decide
  have hac := hS.2.2.2.2
  refine n_iload_n c_6_0 rfl (n_iconst c_6_1 (n_iload_n c_6_2 rfl (n_imul c_6_3 rfl (n_i_ishr (z := 2) c_6_4 (by decide) ?_))))
  refine n_iconst c_6_5 (n_i_iand (z := 2) c_6_6 (by decide) ?_)
  exact n_rI c_6_7 rfl ⟨rfl, by omega, by decide⟩

set_option maxHeartbeats 4000000 in
theorem partX32_3 {xs : List Int32} {e : Nat} {ac : Int} {M0 M : nM} {t : Int} (hS : Sf 3 ac M0 M) (ht : 0 ≤ t ∧ t ≤ 2) : nW xs e 6 0 [some (0, 32), some (0, t)] [] M (nPI fun z M1 => M = M1 ∧ (0 ≤ z ∧ z ≤ 2) ∧ (z = pt 32 t)) := by
  rcases (show t = 0 ∨ t = 1 ∨ t = 2 by omega) with rfl | rfl | rfl
  · exact n_post (partX32_0_3 hS ) (fun w M1 h => by obtain ⟨z, rfl, h1, h2, h3⟩ := h; exact ⟨z, rfl, h1, by omega, h3⟩)
  · exact n_post (partX32_1_3 hS ) (fun w M1 h => by obtain ⟨z, rfl, h1, h2, h3⟩ := h; exact ⟨z, rfl, h1, by omega, h3⟩)
  · exact n_post (partX32_2_3 hS ) (fun w M1 h => by obtain ⟨z, rfl, h1, h2, h3⟩ := h; exact ⟨z, rfl, h1, by omega, h3⟩)

set_option maxHeartbeats 4000000 in
theorem keepsPartsX32_3_c {xs : List Int32} {e : Nat} {ac : Int} {M0 M : nM} {p : Int} (hS : Sf 3 ac M0 M) (hp : ActAt p) (hpl : p < 55 + 3 * ac) : ∀ nn : Nat, (∀ (x3 : Int), (0 ≤ x3 ∧ x3 ≤ 27) → (PPx 3 (fun i => M (p + 1) i) 32 x3) → (27 - x3) * 1 + 1 < (nn : Int) → nW xs (e + 1) 4 2 [some (2, p), some (0, 32), some (2, 4), some (0, x3), none] [] M (nPI fun z M1 => M = M1 ∧ (0 ≤ z ∧ z ≤ 1) ∧ (z = bb (PPx 3 (fun i => M (p + 1) i) 32 (M p 1))))) := by
  have hd : (3 : Int) = 2 ∨ (3 : Int) = 3 := by decide
  have hac := hS.2.2.2.2
  intro nn
  induction nn with
  | zero => intros; omega
  | succ nn ih =>
    intro x3 k3 v0 hnn
    refine n_iload_n c_4_2 rfl (n_aload_n c_4_3 rfl (n_getV (bi := 1) c_4_4 hp.c0.1.n rfl rfl rfl (t_actl hS hp hpl).2 ?_))
    intro z1 ez1 f2
    refine n_if2_ge c_4_7 (by omega) (by omega) ?_ ?_
    · intro h3
      refine n_iconst c_4_90 ?_
      exact n_rZ c_4_91 rfl (by omega) ⟨rfl, by omega, by exact (bb_t (fun x h0 h1 => v0 x h0 (by omega))).symm⟩
    · intro h4
      refine n_iload_n c_4_10 rfl (n_aload_n c_4_11 rfl (n_getR c_4_12 sc_4.n rfl rfl rfl r_4_2 (n_iload_n c_4_15 rfl (n_ialoadV c_4_16 sc_5.n rfl rfl rfl (by omega) (t_5d hS hd (by omega) (by omega)) ?_))))
      intro z5 ez5 f6
      have q5 := t_5e hS (i := x3) (by omega) (by omega)
      refine n_s2I c_4_17 rfl rfl rfl rfl (partX32_3 (t := z5) hS (by omega)) ?_
      intro z7 M8 hP9
      obtain ⟨eM, f9, f9p0⟩ := hP9
      subst eM
      refine n_aload_n c_4_20 rfl (n_getV (bi := 0) c_4_21 sc_4.n rfl rfl rfl (t_4_0 hS) ?_)
      intro z10 ez10 f11
      obtain rfl : z10 = 3 := by omega
      refine n_imul c_4_24 rfl (n_iload_n c_4_25 rfl (n_aload_n c_4_26 rfl (n_getR c_4_27 sc_4.n rfl rfl rfl r_4_3 (n_iload_n c_4_30 rfl (n_ialoadV c_4_31 sc_6.n rfl rfl rfl (by omega) (t_6d hS hd (by omega) (by omega)) ?_)))))
      intro z12 ez12 f13
      have q6 := t_6e hS (i := x3) (by omega) (by omega)
      refine n_s2I c_4_32 rfl rfl rfl rfl (partX32_3 (t := z12) hS (by omega)) ?_
      intro z14 M15 hP16
      obtain ⟨eM, f16, f16p0⟩ := hP16
      subst eM
      refine n_iadd c_4_35 rfl (n_istore (L2 := [some (2, p), some (0, 32), some (2, 4), some (0, x3), some (0, ((z7 * 3) + z14))]) c_4_36 rfl rfl (n_iload c_4_38 rfl (n_aload_n c_4_40 rfl (n_getV (bi := 0) c_4_41 sc_4.n rfl rfl rfl (t_4_0 hS) ?_))))
      intro z17 ez17 f18
      obtain rfl : z17 = 3 := by omega
      refine n_imul c_4_44 rfl (n_iload_n c_4_45 rfl (n_aload_n c_4_46 rfl (n_getR c_4_47 sc_4.n rfl rfl rfl r_4_4 (n_iload_n c_4_50 rfl (n_ialoadV c_4_51 sc_7.n rfl rfl rfl (by omega) (t_7d hS hd (by omega) (by omega)) ?_)))))
      intro z19 ez19 f20
      have q7 := t_7e hS (i := x3) (by omega) (by omega)
      refine n_s2I c_4_52 rfl rfl rfl rfl (partX32_3 (t := z19) hS (by omega)) ?_
      intro z21 M22 hP23
      obtain ⟨eM, f23, f23p0⟩ := hP23
      subst eM
      refine n_iadd c_4_55 rfl (n_istore (L2 := [some (2, p), some (0, 32), some (2, 4), some (0, x3), some (0, ((((z7 * 3) + z14) * 3) + z21))]) c_4_56 rfl rfl (n_iload_n c_4_58 rfl (n_aload_n c_4_59 rfl (n_getR c_4_60 hp.c0.1.n rfl rfl rfl hp.r.1 (n_iload_n c_4_63 rfl (n_ialoadV c_4_64 hp.c0.2.1.n rfl rfl rfl (by omega) (t_actrl hS hp hpl (Or.inl rfl) (by omega) (by omega)) ?_))))))
      intro z24 ez24 f25
      refine n_s2I c_4_65 rfl rfl rfl rfl (partX32_3 (t := z24) hS (by omega)) ?_
      intro z26 M27 hP28
      obtain ⟨eM, f28, f28p0⟩ := hP28
      subst eM
      refine n_iload_n c_4_68 rfl (n_aload_n c_4_69 rfl (n_getR c_4_70 hp.c0.1.n rfl rfl rfl hp.r.1 (n_iload c_4_73 rfl (n_ialoadV c_4_75 hp.c0.2.1.n rfl rfl rfl (by omega) (t_actrl hS hp hpl (Or.inl rfl) (by omega) (by omega)) ?_))))
      intro z29 ez29 f30
      refine n_s2I c_4_76 rfl rfl rfl rfl (partX32_3 (t := z29) hS (by omega)) ?_
      intro z31 M32 hP33
      obtain ⟨eM, f33, f33p0⟩ := hP33
      subst eM
      refine n_if2_eq c_4_79 (by omega) (by omega) ?_ ?_
      · intro h34
        refine n_iinc (L2 := [some (2, p), some (0, 32), some (2, 4), some (0, (x3 + 1)), some (0, ((((z7 * 3) + z14) * 3) + z21))]) c_4_84 rfl rfl rfl (n_goto c_4_87 (n_fg (le_s (le_s (le_s (le_s (le_n le_0))))) ?_))
        exact ih _ (by omega) (by have w5 : z7 = pt 32 (x3 / (3 * 3)) := (by rw [f9p0, ez5, q5]); have w6 : z14 = pt 32 (x3 / 3 % 3) := (by rw [f16p0, ez12, q6]); have w7 : z21 = pt 32 (x3 % 3) := (by rw [f23p0, ez19, q7]); have wl : (z7 * 3 + z14) * 3 + z21 = lst 3 32 x3 := (by unfold lst; rw [w5, w6, w7]); have wa : z26 = pt 32 (M (p + 1) x3) := (by rw [f28p0, ez24]); have wb : z31 = pt 32 (M (p + 1) (lst 3 32 x3)) := (by rw [f33p0, ez29, wl]); exact PPx.step v0 (by show pt 32 (M (p + 1) x3) = pt 32 (M (p + 1) (lst 3 32 x3)); omega)) (by omega)
      · intro h35
        refine n_iconst c_4_82 ?_
        exact n_rZ c_4_83 rfl (by omega) ⟨rfl, by omega, by have w5 : z7 = pt 32 (x3 / (3 * 3)) := (by rw [f9p0, ez5, q5]); have w6 : z14 = pt 32 (x3 / 3 % 3) := (by rw [f16p0, ez12, q6]); have w7 : z21 = pt 32 (x3 % 3) := (by rw [f23p0, ez19, q7]); have wl : (z7 * 3 + z14) * 3 + z21 = lst 3 32 x3 := (by unfold lst; rw [w5, w6, w7]); have wa : z26 = pt 32 (M (p + 1) x3) := (by rw [f28p0, ez24]); have wb : z31 = pt 32 (M (p + 1) (lst 3 32 x3)) := (by rw [f33p0, ez29, wl]); exact (bb_f (fun q => by have q1 : pt 32 (M (p + 1) x3) = pt 32 (M (p + 1) (lst 3 32 x3)) := q x3 (by omega) (by omega); omega)).symm⟩
set_option maxHeartbeats 4000000 in
theorem keepsPartsX32_3 {xs : List Int32} {e : Nat} {ac : Int} {M0 M : nM} {p : Int} (hS : Sf 3 ac M0 M) (hp : ActAt p) (hpl : p < 55 + 3 * ac) : nW xs (e + 1) 4 0 [some (2, p), some (0, 32), some (2, 4), none, none] [] M (nPI fun z M1 => M = M1 ∧ (0 ≤ z ∧ z ≤ 1) ∧ (z = bb (PPx 3 (fun i => M (p + 1) i) 32 (M p 1)))) := by
  have hd : (3 : Int) = 2 ∨ (3 : Int) = 3 := by decide
  have hac := hS.2.2.2.2
  refine n_iconst c_4_0 (n_istore_n (L2 := [some (2, p), some (0, 32), some (2, 4), some (0, 0), none]) c_4_1 rfl rfl (n_fg (le_s (le_s (le_s (le_s (le_n le_0))))) ?_))
  exact (keepsPartsX32_3_c hS hp hpl 68) _ (by omega) (by exact fun x h0 h1 => by omega) (by omega)

set_option maxHeartbeats 4000000 in
theorem aakpX32_3_c {xs : List Int32} {e : Nat} {ac : Int} {M0 M : nM} (hS : Sf 3 ac M0 M)  : ∀ nn : Nat, (∀ (x2 : Int), (0 ≤ x2 ∧ x2 ≤ 8) → (∀ a : Int, 0 ≤ a → a < x2 → PPx 3 (fun i => M (55 + 3 * a + 1) i) 32 (M (55 + 3 * a) 1)) → (8 - x2) * 1 + 1 < (nn : Int) → nW xs (e + 2) 138 2 [some (2, 3), some (0, 32), some (0, x2)] [] M (nPI fun z M1 => M = M1 ∧ (0 ≤ z ∧ z ≤ 1) ∧ (z = bb (PPa 3 M 32)))) := by
  have hd : (3 : Int) = 2 ∨ (3 : Int) = 3 := by decide
  have hac := hS.2.2.2.2
  intro nn
  induction nn with
  | zero => intros; omega
  | succ nn ih =>
    intro x2 k2 v0 hnn
    refine n_iload_n c_138_2 rfl (n_aload_n c_138_3 rfl (n_getV (bi := 14) c_138_4 sc_3.n rfl rfl rfl (t_3_14x hS) ?_))
    intro z1 ez1 f2
    have f2a := t_ac hS
    refine n_if2_ge c_138_7 (by omega) (by omega) ?_ ?_
    · intro h3
      refine n_iconst c_138_35 ?_
      exact n_rZ c_138_36 rfl (by omega) ⟨rfl, by omega, by have t14 := t_ac hS; exact (bb_t (fun a h0 h1 => v0 a h0 (by omega))).symm⟩
    · intro h4
      refine n_aload_n c_138_10 rfl (n_getR c_138_11 sc_3.n rfl rfl rfl r_3_2 (n_iload_n c_138_14 rfl (n_aaload c_138_15 sc_12.n rfl rfl rfl (by omega) (r_acts _) ?_)))
      have q5 : ActAt (55 + 3 * x2) := by unfold ActAt; omega
      have q5l : (55 + 3 * x2) < 55 + 3 * ac := by omega
      refine n_iload_n c_138_16 rfl (n_aload_n c_138_17 rfl (n_getR c_138_18 sc_3.n rfl rfl rfl r_3_0 (n_v2I c_138_21 rfl q5.c0.1.n rfl rfl rfl rfl (keepsPartsX32_3 (p := (55 + 3 * x2)) hS q5 q5l) ?_)))
      intro z6 M7 hP8
      obtain ⟨eM, f8, f8p0⟩ := hP8
      subst eM
      refine n_if0_ne c_138_24 (by omega) ?_ ?_
      · intro h9
        refine n_iinc (L2 := [some (2, 3), some (0, 32), some (0, (x2 + 1))]) c_138_29 rfl rfl rfl (n_goto c_138_32 (n_fg (le_s (le_s (le_s le_0))) ?_))
        exact ih _ (by omega) (by exact fun a h0 h1 => by by_cases e : a = x2; (rw [e]; exact bb_n (by rw [← f8p0]; omega)); exact v0 a h0 (by omega)) (by omega)
      · intro h10
        refine n_iconst c_138_27 ?_
        exact n_rZ c_138_28 rfl (by omega) ⟨rfl, by omega, by have t14 := t_ac hS; exact (bb_f (fun q => bb_z (f8p0.symm.trans (by omega)) (q x2 (by omega) (by omega)))).symm⟩
set_option maxHeartbeats 4000000 in
theorem aakpX32_3 {xs : List Int32} {e : Nat} {ac : Int} {M0 M : nM} (hS : Sf 3 ac M0 M)  : nW xs (e + 2) 138 0 [some (2, 3), some (0, 32), none] [] M (nPI fun z M1 => M = M1 ∧ (0 ≤ z ∧ z ≤ 1) ∧ (z = bb (PPa 3 M 32))) := by
  have hd : (3 : Int) = 2 ∨ (3 : Int) = 3 := by decide
  have hac := hS.2.2.2.2
  refine n_iconst c_138_0 (n_istore_n (L2 := [some (2, 3), some (0, 32), some (0, 0)]) c_138_1 rfl rfl (n_fg (le_s (le_s (le_s le_0))) ?_))
  exact (aakpX32_3_c hS  30) _ (by omega) (by exact fun a h0 h1 => by omega) (by omega)

set_option maxHeartbeats 4000000 in
theorem partX36_0_3 {xs : List Int32} {e : Nat} {ac : Int} {M0 M : nM} (hS : Sf 3 ac M0 M)  : nW xs e 6 0 [some (0, 36), some (0, 0)] [] M (nPI fun z M1 => M = M1 ∧ (0 ≤ z ∧ z ≤ 0) ∧ (z = pt 36 0)) := by
  have hd : (3 : Int) = 2 ∨ (3 : Int) = 3 := by decide
  have hac := hS.2.2.2.2
  refine n_iload_n c_6_0 rfl (n_iconst c_6_1 (n_iload_n c_6_2 rfl (n_imul c_6_3 rfl (n_i_ishr (z := 36) c_6_4 (by decide) ?_))))
  refine n_iconst c_6_5 (n_i_iand (z := 0) c_6_6 (by decide) ?_)
  exact n_rI c_6_7 rfl ⟨rfl, by omega, by decide⟩

set_option maxHeartbeats 4000000 in
theorem partX36_1_3 {xs : List Int32} {e : Nat} {ac : Int} {M0 M : nM} (hS : Sf 3 ac M0 M)  : nW xs e 6 0 [some (0, 36), some (0, 1)] [] M (nPI fun z M1 => M = M1 ∧ (1 ≤ z ∧ z ≤ 1) ∧ (z = pt 36 1)) := by
  have hd : (3 : Int) = 2 ∨ (3 : Int) = 3 := by decide
  have hac := hS.2.2.2.2
  refine n_iload_n c_6_0 rfl (n_iconst c_6_1 (n_iload_n c_6_2 rfl (n_imul c_6_3 rfl (n_i_ishr (z := 9) c_6_4 (by decide) ?_))))
  refine n_iconst c_6_5 (n_i_iand (z := 1) c_6_6 (by decide) ?_)
  exact n_rI c_6_7 rfl ⟨rfl, by omega, by decide⟩

set_option maxHeartbeats 4000000 in
theorem partX36_2_3 {xs : List Int32} {e : Nat} {ac : Int} {M0 M : nM} (hS : Sf 3 ac M0 M)  : nW xs e 6 0 [some (0, 36), some (0, 2)] [] M (nPI fun z M1 => M = M1 ∧ (2 ≤ z ∧ z ≤ 2) ∧ (z = pt 36 2)) := by
  have hd : (3 : Int) = 2 ∨ (3 : Int) = 3 := by decide
  have hac := hS.2.2.2.2
  refine n_iload_n c_6_0 rfl (n_iconst c_6_1 (n_iload_n c_6_2 rfl (n_imul c_6_3 rfl (n_i_ishr (z := 2) c_6_4 (by decide) ?_))))
  refine n_iconst c_6_5 (n_i_iand (z := 2) c_6_6 (by decide) ?_)
  exact n_rI c_6_7 rfl ⟨rfl, by omega, by decide⟩

set_option maxHeartbeats 4000000 in
theorem partX36_3 {xs : List Int32} {e : Nat} {ac : Int} {M0 M : nM} {t : Int} (hS : Sf 3 ac M0 M) (ht : 0 ≤ t ∧ t ≤ 2) : nW xs e 6 0 [some (0, 36), some (0, t)] [] M (nPI fun z M1 => M = M1 ∧ (0 ≤ z ∧ z ≤ 2) ∧ (z = pt 36 t)) := by
  rcases (show t = 0 ∨ t = 1 ∨ t = 2 by omega) with rfl | rfl | rfl
  · exact n_post (partX36_0_3 hS ) (fun w M1 h => by obtain ⟨z, rfl, h1, h2, h3⟩ := h; exact ⟨z, rfl, h1, by omega, h3⟩)
  · exact n_post (partX36_1_3 hS ) (fun w M1 h => by obtain ⟨z, rfl, h1, h2, h3⟩ := h; exact ⟨z, rfl, h1, by omega, h3⟩)
  · exact n_post (partX36_2_3 hS ) (fun w M1 h => by obtain ⟨z, rfl, h1, h2, h3⟩ := h; exact ⟨z, rfl, h1, by omega, h3⟩)

set_option maxHeartbeats 4000000 in
theorem keepsPartsX36_3_c {xs : List Int32} {e : Nat} {ac : Int} {M0 M : nM} {p : Int} (hS : Sf 3 ac M0 M) (hp : ActAt p) (hpl : p < 55 + 3 * ac) : ∀ nn : Nat, (∀ (x3 : Int), (0 ≤ x3 ∧ x3 ≤ 27) → (PPx 3 (fun i => M (p + 1) i) 36 x3) → (27 - x3) * 1 + 1 < (nn : Int) → nW xs (e + 1) 4 2 [some (2, p), some (0, 36), some (2, 4), some (0, x3), none] [] M (nPI fun z M1 => M = M1 ∧ (0 ≤ z ∧ z ≤ 1) ∧ (z = bb (PPx 3 (fun i => M (p + 1) i) 36 (M p 1))))) := by
  have hd : (3 : Int) = 2 ∨ (3 : Int) = 3 := by decide
  have hac := hS.2.2.2.2
  intro nn
  induction nn with
  | zero => intros; omega
  | succ nn ih =>
    intro x3 k3 v0 hnn
    refine n_iload_n c_4_2 rfl (n_aload_n c_4_3 rfl (n_getV (bi := 1) c_4_4 hp.c0.1.n rfl rfl rfl (t_actl hS hp hpl).2 ?_))
    intro z1 ez1 f2
    refine n_if2_ge c_4_7 (by omega) (by omega) ?_ ?_
    · intro h3
      refine n_iconst c_4_90 ?_
      exact n_rZ c_4_91 rfl (by omega) ⟨rfl, by omega, by exact (bb_t (fun x h0 h1 => v0 x h0 (by omega))).symm⟩
    · intro h4
      refine n_iload_n c_4_10 rfl (n_aload_n c_4_11 rfl (n_getR c_4_12 sc_4.n rfl rfl rfl r_4_2 (n_iload_n c_4_15 rfl (n_ialoadV c_4_16 sc_5.n rfl rfl rfl (by omega) (t_5d hS hd (by omega) (by omega)) ?_))))
      intro z5 ez5 f6
      have q5 := t_5e hS (i := x3) (by omega) (by omega)
      refine n_s2I c_4_17 rfl rfl rfl rfl (partX36_3 (t := z5) hS (by omega)) ?_
      intro z7 M8 hP9
      obtain ⟨eM, f9, f9p0⟩ := hP9
      subst eM
      refine n_aload_n c_4_20 rfl (n_getV (bi := 0) c_4_21 sc_4.n rfl rfl rfl (t_4_0 hS) ?_)
      intro z10 ez10 f11
      obtain rfl : z10 = 3 := by omega
      refine n_imul c_4_24 rfl (n_iload_n c_4_25 rfl (n_aload_n c_4_26 rfl (n_getR c_4_27 sc_4.n rfl rfl rfl r_4_3 (n_iload_n c_4_30 rfl (n_ialoadV c_4_31 sc_6.n rfl rfl rfl (by omega) (t_6d hS hd (by omega) (by omega)) ?_)))))
      intro z12 ez12 f13
      have q6 := t_6e hS (i := x3) (by omega) (by omega)
      refine n_s2I c_4_32 rfl rfl rfl rfl (partX36_3 (t := z12) hS (by omega)) ?_
      intro z14 M15 hP16
      obtain ⟨eM, f16, f16p0⟩ := hP16
      subst eM
      refine n_iadd c_4_35 rfl (n_istore (L2 := [some (2, p), some (0, 36), some (2, 4), some (0, x3), some (0, ((z7 * 3) + z14))]) c_4_36 rfl rfl (n_iload c_4_38 rfl (n_aload_n c_4_40 rfl (n_getV (bi := 0) c_4_41 sc_4.n rfl rfl rfl (t_4_0 hS) ?_))))
      intro z17 ez17 f18
      obtain rfl : z17 = 3 := by omega
      refine n_imul c_4_44 rfl (n_iload_n c_4_45 rfl (n_aload_n c_4_46 rfl (n_getR c_4_47 sc_4.n rfl rfl rfl r_4_4 (n_iload_n c_4_50 rfl (n_ialoadV c_4_51 sc_7.n rfl rfl rfl (by omega) (t_7d hS hd (by omega) (by omega)) ?_)))))
      intro z19 ez19 f20
      have q7 := t_7e hS (i := x3) (by omega) (by omega)
      refine n_s2I c_4_52 rfl rfl rfl rfl (partX36_3 (t := z19) hS (by omega)) ?_
      intro z21 M22 hP23
      obtain ⟨eM, f23, f23p0⟩ := hP23
      subst eM
      refine n_iadd c_4_55 rfl (n_istore (L2 := [some (2, p), some (0, 36), some (2, 4), some (0, x3), some (0, ((((z7 * 3) + z14) * 3) + z21))]) c_4_56 rfl rfl (n_iload_n c_4_58 rfl (n_aload_n c_4_59 rfl (n_getR c_4_60 hp.c0.1.n rfl rfl rfl hp.r.1 (n_iload_n c_4_63 rfl (n_ialoadV c_4_64 hp.c0.2.1.n rfl rfl rfl (by omega) (t_actrl hS hp hpl (Or.inl rfl) (by omega) (by omega)) ?_))))))
      intro z24 ez24 f25
      refine n_s2I c_4_65 rfl rfl rfl rfl (partX36_3 (t := z24) hS (by omega)) ?_
      intro z26 M27 hP28
      obtain ⟨eM, f28, f28p0⟩ := hP28
      subst eM
      refine n_iload_n c_4_68 rfl (n_aload_n c_4_69 rfl (n_getR c_4_70 hp.c0.1.n rfl rfl rfl hp.r.1 (n_iload c_4_73 rfl (n_ialoadV c_4_75 hp.c0.2.1.n rfl rfl rfl (by omega) (t_actrl hS hp hpl (Or.inl rfl) (by omega) (by omega)) ?_))))
      intro z29 ez29 f30
      refine n_s2I c_4_76 rfl rfl rfl rfl (partX36_3 (t := z29) hS (by omega)) ?_
      intro z31 M32 hP33
      obtain ⟨eM, f33, f33p0⟩ := hP33
      subst eM
      refine n_if2_eq c_4_79 (by omega) (by omega) ?_ ?_
      · intro h34
        refine n_iinc (L2 := [some (2, p), some (0, 36), some (2, 4), some (0, (x3 + 1)), some (0, ((((z7 * 3) + z14) * 3) + z21))]) c_4_84 rfl rfl rfl (n_goto c_4_87 (n_fg (le_s (le_s (le_s (le_s (le_n le_0))))) ?_))
        exact ih _ (by omega) (by have w5 : z7 = pt 36 (x3 / (3 * 3)) := (by rw [f9p0, ez5, q5]); have w6 : z14 = pt 36 (x3 / 3 % 3) := (by rw [f16p0, ez12, q6]); have w7 : z21 = pt 36 (x3 % 3) := (by rw [f23p0, ez19, q7]); have wl : (z7 * 3 + z14) * 3 + z21 = lst 3 36 x3 := (by unfold lst; rw [w5, w6, w7]); have wa : z26 = pt 36 (M (p + 1) x3) := (by rw [f28p0, ez24]); have wb : z31 = pt 36 (M (p + 1) (lst 3 36 x3)) := (by rw [f33p0, ez29, wl]); exact PPx.step v0 (by show pt 36 (M (p + 1) x3) = pt 36 (M (p + 1) (lst 3 36 x3)); omega)) (by omega)
      · intro h35
        refine n_iconst c_4_82 ?_
        exact n_rZ c_4_83 rfl (by omega) ⟨rfl, by omega, by have w5 : z7 = pt 36 (x3 / (3 * 3)) := (by rw [f9p0, ez5, q5]); have w6 : z14 = pt 36 (x3 / 3 % 3) := (by rw [f16p0, ez12, q6]); have w7 : z21 = pt 36 (x3 % 3) := (by rw [f23p0, ez19, q7]); have wl : (z7 * 3 + z14) * 3 + z21 = lst 3 36 x3 := (by unfold lst; rw [w5, w6, w7]); have wa : z26 = pt 36 (M (p + 1) x3) := (by rw [f28p0, ez24]); have wb : z31 = pt 36 (M (p + 1) (lst 3 36 x3)) := (by rw [f33p0, ez29, wl]); exact (bb_f (fun q => by have q1 : pt 36 (M (p + 1) x3) = pt 36 (M (p + 1) (lst 3 36 x3)) := q x3 (by omega) (by omega); omega)).symm⟩
set_option maxHeartbeats 4000000 in
theorem keepsPartsX36_3 {xs : List Int32} {e : Nat} {ac : Int} {M0 M : nM} {p : Int} (hS : Sf 3 ac M0 M) (hp : ActAt p) (hpl : p < 55 + 3 * ac) : nW xs (e + 1) 4 0 [some (2, p), some (0, 36), some (2, 4), none, none] [] M (nPI fun z M1 => M = M1 ∧ (0 ≤ z ∧ z ≤ 1) ∧ (z = bb (PPx 3 (fun i => M (p + 1) i) 36 (M p 1)))) := by
  have hd : (3 : Int) = 2 ∨ (3 : Int) = 3 := by decide
  have hac := hS.2.2.2.2
  refine n_iconst c_4_0 (n_istore_n (L2 := [some (2, p), some (0, 36), some (2, 4), some (0, 0), none]) c_4_1 rfl rfl (n_fg (le_s (le_s (le_s (le_s (le_n le_0))))) ?_))
  exact (keepsPartsX36_3_c hS hp hpl 68) _ (by omega) (by exact fun x h0 h1 => by omega) (by omega)

set_option maxHeartbeats 4000000 in
theorem aakpX36_3_c {xs : List Int32} {e : Nat} {ac : Int} {M0 M : nM} (hS : Sf 3 ac M0 M)  : ∀ nn : Nat, (∀ (x2 : Int), (0 ≤ x2 ∧ x2 ≤ 8) → (∀ a : Int, 0 ≤ a → a < x2 → PPx 3 (fun i => M (55 + 3 * a + 1) i) 36 (M (55 + 3 * a) 1)) → (8 - x2) * 1 + 1 < (nn : Int) → nW xs (e + 2) 138 2 [some (2, 3), some (0, 36), some (0, x2)] [] M (nPI fun z M1 => M = M1 ∧ (0 ≤ z ∧ z ≤ 1) ∧ (z = bb (PPa 3 M 36)))) := by
  have hd : (3 : Int) = 2 ∨ (3 : Int) = 3 := by decide
  have hac := hS.2.2.2.2
  intro nn
  induction nn with
  | zero => intros; omega
  | succ nn ih =>
    intro x2 k2 v0 hnn
    refine n_iload_n c_138_2 rfl (n_aload_n c_138_3 rfl (n_getV (bi := 14) c_138_4 sc_3.n rfl rfl rfl (t_3_14x hS) ?_))
    intro z1 ez1 f2
    have f2a := t_ac hS
    refine n_if2_ge c_138_7 (by omega) (by omega) ?_ ?_
    · intro h3
      refine n_iconst c_138_35 ?_
      exact n_rZ c_138_36 rfl (by omega) ⟨rfl, by omega, by have t14 := t_ac hS; exact (bb_t (fun a h0 h1 => v0 a h0 (by omega))).symm⟩
    · intro h4
      refine n_aload_n c_138_10 rfl (n_getR c_138_11 sc_3.n rfl rfl rfl r_3_2 (n_iload_n c_138_14 rfl (n_aaload c_138_15 sc_12.n rfl rfl rfl (by omega) (r_acts _) ?_)))
      have q5 : ActAt (55 + 3 * x2) := by unfold ActAt; omega
      have q5l : (55 + 3 * x2) < 55 + 3 * ac := by omega
      refine n_iload_n c_138_16 rfl (n_aload_n c_138_17 rfl (n_getR c_138_18 sc_3.n rfl rfl rfl r_3_0 (n_v2I c_138_21 rfl q5.c0.1.n rfl rfl rfl rfl (keepsPartsX36_3 (p := (55 + 3 * x2)) hS q5 q5l) ?_)))
      intro z6 M7 hP8
      obtain ⟨eM, f8, f8p0⟩ := hP8
      subst eM
      refine n_if0_ne c_138_24 (by omega) ?_ ?_
      · intro h9
        refine n_iinc (L2 := [some (2, 3), some (0, 36), some (0, (x2 + 1))]) c_138_29 rfl rfl rfl (n_goto c_138_32 (n_fg (le_s (le_s (le_s le_0))) ?_))
        exact ih _ (by omega) (by exact fun a h0 h1 => by by_cases e : a = x2; (rw [e]; exact bb_n (by rw [← f8p0]; omega)); exact v0 a h0 (by omega)) (by omega)
      · intro h10
        refine n_iconst c_138_27 ?_
        exact n_rZ c_138_28 rfl (by omega) ⟨rfl, by omega, by have t14 := t_ac hS; exact (bb_f (fun q => bb_z (f8p0.symm.trans (by omega)) (q x2 (by omega) (by omega)))).symm⟩
set_option maxHeartbeats 4000000 in
theorem aakpX36_3 {xs : List Int32} {e : Nat} {ac : Int} {M0 M : nM} (hS : Sf 3 ac M0 M)  : nW xs (e + 2) 138 0 [some (2, 3), some (0, 36), none] [] M (nPI fun z M1 => M = M1 ∧ (0 ≤ z ∧ z ≤ 1) ∧ (z = bb (PPa 3 M 36))) := by
  have hd : (3 : Int) = 2 ∨ (3 : Int) = 3 := by decide
  have hac := hS.2.2.2.2
  refine n_iconst c_138_0 (n_istore_n (L2 := [some (2, 3), some (0, 36), some (0, 0)]) c_138_1 rfl rfl (n_fg (le_s (le_s (le_s le_0))) ?_))
  exact (aakpX36_3_c hS  30) _ (by omega) (by exact fun a h0 h1 => by omega) (by omega)

set_option maxHeartbeats 4000000 in
theorem pairingsX_3 {xs : List Int32} {e : Nat} {ac : Int} {M0 M : nM} (hS : Sf 3 ac M0 M)  : nW xs (e + 3) 111 0 [some (2, 3), none, none, none] [] M (nPI fun z M1 => M = M1 ∧ (-2147483648 ≤ z ∧ z ≤ 2147483647) ∧ (z = bb (PPa 3 M 0) + bb (PPa 3 M 4) + bb (PPa 3 M 20) + bb (PPa 3 M 32) + bb (PPa 3 M 36))) := by
  have hd : (3 : Int) = 2 ∨ (3 : Int) = 3 := by decide
  have hac := hS.2.2.2.2
  refine n_aload_n c_111_0 rfl (n_v0A c_111_1 rfl sc_3.n rfl rfl rfl rfl (partings_3  hS ) ?_)
  intro z1 M2 hP3
  obtain ⟨eM, f3⟩ := hP3
  subst eM
  obtain rfl : z1 = 1 := f3
  refine n_astore_n (L2 := [some (2, 3), some (2, 1), none, none]) c_111_4 rfl rfl (n_iconst c_111_5 (n_istore_n (L2 := [some (2, 3), some (2, 1), some (0, 0), none]) c_111_6 rfl rfl (n_iconst c_111_7 (n_istore_n (L2 := [some (2, 3), some (2, 1), some (0, 0), some (0, 0)]) c_111_8 rfl rfl (n_iload_n c_111_9 rfl (n_aload_n c_111_10 rfl (n_alen c_111_11 sc_1.n rfl ?_)))))))
  refine n_if2_ge c_111_12 (by omega) (by omega) ?_ ?_
  · intro h4
    exfalso; omega
  · intro h5
    refine n_aload_n c_111_15 rfl (n_aload_n c_111_16 rfl (n_iload_n c_111_17 rfl (n_ialoadV c_111_18 sc_1.n rfl rfl rfl (by omega) (t_1_0 hS) ?_)))
    intro z6 ez6 f7
    have hcst : (z6 : Int) = 0 := by omega
    rw [hcst]
    refine n_v1I c_111_19 rfl sc_3.n rfl rfl rfl rfl (aakpX0_3  hS ) ?_
    intro z8 M9 hP10
    obtain ⟨eM, f10, f10p0⟩ := hP10
    subst eM
    refine n_if0_eq c_111_22 (by omega) ?_ ?_
    · intro h11
      refine n_iinc (L2 := [some (2, 3), some (2, 1), some (0, 0), some (0, (0 + 1))]) c_111_28 rfl rfl rfl (n_goto c_111_31 (n_iload_n c_111_9 rfl (n_aload_n c_111_10 rfl (n_alen c_111_11 sc_1.n rfl ?_))))
      refine n_if2_ge c_111_12 (by omega) (by omega) ?_ ?_
      · intro h12
        exfalso; omega
      · intro h13
        refine n_aload_n c_111_15 rfl (n_aload_n c_111_16 rfl (n_iload_n c_111_17 rfl (n_ialoadV c_111_18 sc_1.n rfl rfl rfl (by omega) (t_1_1 hS) ?_)))
        intro z14 ez14 f15
        have hcst : (z14 : Int) = 4 := by omega
        rw [hcst]
        refine n_v1I c_111_19 rfl sc_3.n rfl rfl rfl rfl (aakpX4_3  hS ) ?_
        intro z16 M17 hP18
        obtain ⟨eM, f18, f18p0⟩ := hP18
        subst eM
        refine n_if0_eq c_111_22 (by omega) ?_ ?_
        · intro h19
          refine n_iinc (L2 := [some (2, 3), some (2, 1), some (0, 0), some (0, ((0 + 1) + 1))]) c_111_28 rfl rfl rfl (n_goto c_111_31 (n_iload_n c_111_9 rfl (n_aload_n c_111_10 rfl (n_alen c_111_11 sc_1.n rfl ?_))))
          refine n_if2_ge c_111_12 (by omega) (by omega) ?_ ?_
          · intro h20
            exfalso; omega
          · intro h21
            refine n_aload_n c_111_15 rfl (n_aload_n c_111_16 rfl (n_iload_n c_111_17 rfl (n_ialoadV c_111_18 sc_1.n rfl rfl rfl (by omega) (t_1_2 hS) ?_)))
            intro z22 ez22 f23
            have hcst : (z22 : Int) = 20 := by omega
            rw [hcst]
            refine n_v1I c_111_19 rfl sc_3.n rfl rfl rfl rfl (aakpX20_3  hS ) ?_
            intro z24 M25 hP26
            obtain ⟨eM, f26, f26p0⟩ := hP26
            subst eM
            refine n_if0_eq c_111_22 (by omega) ?_ ?_
            · intro h27
              refine n_iinc (L2 := [some (2, 3), some (2, 1), some (0, 0), some (0, (((0 + 1) + 1) + 1))]) c_111_28 rfl rfl rfl (n_goto c_111_31 (n_iload_n c_111_9 rfl (n_aload_n c_111_10 rfl (n_alen c_111_11 sc_1.n rfl ?_))))
              refine n_if2_ge c_111_12 (by omega) (by omega) ?_ ?_
              · intro h28
                exfalso; omega
              · intro h29
                refine n_aload_n c_111_15 rfl (n_aload_n c_111_16 rfl (n_iload_n c_111_17 rfl (n_ialoadV c_111_18 sc_1.n rfl rfl rfl (by omega) (t_1_3 hS) ?_)))
                intro z30 ez30 f31
                have hcst : (z30 : Int) = 32 := by omega
                rw [hcst]
                refine n_v1I c_111_19 rfl sc_3.n rfl rfl rfl rfl (aakpX32_3  hS ) ?_
                intro z32 M33 hP34
                obtain ⟨eM, f34, f34p0⟩ := hP34
                subst eM
                refine n_if0_eq c_111_22 (by omega) ?_ ?_
                · intro h35
                  refine n_iinc (L2 := [some (2, 3), some (2, 1), some (0, 0), some (0, ((((0 + 1) + 1) + 1) + 1))]) c_111_28 rfl rfl rfl (n_goto c_111_31 (n_iload_n c_111_9 rfl (n_aload_n c_111_10 rfl (n_alen c_111_11 sc_1.n rfl ?_))))
                  refine n_if2_ge c_111_12 (by omega) (by omega) ?_ ?_
                  · intro h36
                    exfalso; omega
                  · intro h37
                    refine n_aload_n c_111_15 rfl (n_aload_n c_111_16 rfl (n_iload_n c_111_17 rfl (n_ialoadV c_111_18 sc_1.n rfl rfl rfl (by omega) (t_1_4 hS) ?_)))
                    intro z38 ez38 f39
                    have hcst : (z38 : Int) = 36 := by omega
                    rw [hcst]
                    refine n_v1I c_111_19 rfl sc_3.n rfl rfl rfl rfl (aakpX36_3  hS ) ?_
                    intro z40 M41 hP42
                    obtain ⟨eM, f42, f42p0⟩ := hP42
                    subst eM
                    refine n_if0_eq c_111_22 (by omega) ?_ ?_
                    · intro h43
                      refine n_iinc (L2 := [some (2, 3), some (2, 1), some (0, 0), some (0, (((((0 + 1) + 1) + 1) + 1) + 1))]) c_111_28 rfl rfl rfl (n_goto c_111_31 (n_iload_n c_111_9 rfl (n_aload_n c_111_10 rfl (n_alen c_111_11 sc_1.n rfl ?_))))
                      refine n_if2_ge c_111_12 (by omega) (by omega) ?_ ?_
                      · intro h44
                        refine n_iload_n c_111_34 rfl ?_
                        exact n_rI c_111_35 rfl ⟨rfl, by omega, by omega⟩
                      · intro h45
                        exfalso; omega
                    · intro h46
                      refine n_iinc (L2 := [some (2, 3), some (2, 1), some (0, (0 + 1)), some (0, ((((0 + 1) + 1) + 1) + 1))]) c_111_25 rfl rfl rfl (n_iinc (L2 := [some (2, 3), some (2, 1), some (0, (0 + 1)), some (0, (((((0 + 1) + 1) + 1) + 1) + 1))]) c_111_28 rfl rfl rfl (n_goto c_111_31 (n_iload_n c_111_9 rfl (n_aload_n c_111_10 rfl (n_alen c_111_11 sc_1.n rfl ?_)))))
                      refine n_if2_ge c_111_12 (by omega) (by omega) ?_ ?_
                      · intro h47
                        refine n_iload_n c_111_34 rfl ?_
                        exact n_rI c_111_35 rfl ⟨rfl, by omega, by omega⟩
                      · intro h48
                        exfalso; omega
                · intro h49
                  refine n_iinc (L2 := [some (2, 3), some (2, 1), some (0, (0 + 1)), some (0, (((0 + 1) + 1) + 1))]) c_111_25 rfl rfl rfl (n_iinc (L2 := [some (2, 3), some (2, 1), some (0, (0 + 1)), some (0, ((((0 + 1) + 1) + 1) + 1))]) c_111_28 rfl rfl rfl (n_goto c_111_31 (n_iload_n c_111_9 rfl (n_aload_n c_111_10 rfl (n_alen c_111_11 sc_1.n rfl ?_)))))
                  refine n_if2_ge c_111_12 (by omega) (by omega) ?_ ?_
                  · intro h50
                    exfalso; omega
                  · intro h51
                    refine n_aload_n c_111_15 rfl (n_aload_n c_111_16 rfl (n_iload_n c_111_17 rfl (n_ialoadV c_111_18 sc_1.n rfl rfl rfl (by omega) (t_1_4 hS) ?_)))
                    intro z52 ez52 f53
                    have hcst : (z52 : Int) = 36 := by omega
                    rw [hcst]
                    refine n_v1I c_111_19 rfl sc_3.n rfl rfl rfl rfl (aakpX36_3  hS ) ?_
                    intro z54 M55 hP56
                    obtain ⟨eM, f56, f56p0⟩ := hP56
                    subst eM
                    refine n_if0_eq c_111_22 (by omega) ?_ ?_
                    · intro h57
                      refine n_iinc (L2 := [some (2, 3), some (2, 1), some (0, (0 + 1)), some (0, (((((0 + 1) + 1) + 1) + 1) + 1))]) c_111_28 rfl rfl rfl (n_goto c_111_31 (n_iload_n c_111_9 rfl (n_aload_n c_111_10 rfl (n_alen c_111_11 sc_1.n rfl ?_))))
                      refine n_if2_ge c_111_12 (by omega) (by omega) ?_ ?_
                      · intro h58
                        refine n_iload_n c_111_34 rfl ?_
                        exact n_rI c_111_35 rfl ⟨rfl, by omega, by omega⟩
                      · intro h59
                        exfalso; omega
                    · intro h60
                      refine n_iinc (L2 := [some (2, 3), some (2, 1), some (0, ((0 + 1) + 1)), some (0, ((((0 + 1) + 1) + 1) + 1))]) c_111_25 rfl rfl rfl (n_iinc (L2 := [some (2, 3), some (2, 1), some (0, ((0 + 1) + 1)), some (0, (((((0 + 1) + 1) + 1) + 1) + 1))]) c_111_28 rfl rfl rfl (n_goto c_111_31 (n_iload_n c_111_9 rfl (n_aload_n c_111_10 rfl (n_alen c_111_11 sc_1.n rfl ?_)))))
                      refine n_if2_ge c_111_12 (by omega) (by omega) ?_ ?_
                      · intro h61
                        refine n_iload_n c_111_34 rfl ?_
                        exact n_rI c_111_35 rfl ⟨rfl, by omega, by omega⟩
                      · intro h62
                        exfalso; omega
            · intro h63
              refine n_iinc (L2 := [some (2, 3), some (2, 1), some (0, (0 + 1)), some (0, ((0 + 1) + 1))]) c_111_25 rfl rfl rfl (n_iinc (L2 := [some (2, 3), some (2, 1), some (0, (0 + 1)), some (0, (((0 + 1) + 1) + 1))]) c_111_28 rfl rfl rfl (n_goto c_111_31 (n_iload_n c_111_9 rfl (n_aload_n c_111_10 rfl (n_alen c_111_11 sc_1.n rfl ?_)))))
              refine n_if2_ge c_111_12 (by omega) (by omega) ?_ ?_
              · intro h64
                exfalso; omega
              · intro h65
                refine n_aload_n c_111_15 rfl (n_aload_n c_111_16 rfl (n_iload_n c_111_17 rfl (n_ialoadV c_111_18 sc_1.n rfl rfl rfl (by omega) (t_1_3 hS) ?_)))
                intro z66 ez66 f67
                have hcst : (z66 : Int) = 32 := by omega
                rw [hcst]
                refine n_v1I c_111_19 rfl sc_3.n rfl rfl rfl rfl (aakpX32_3  hS ) ?_
                intro z68 M69 hP70
                obtain ⟨eM, f70, f70p0⟩ := hP70
                subst eM
                refine n_if0_eq c_111_22 (by omega) ?_ ?_
                · intro h71
                  refine n_iinc (L2 := [some (2, 3), some (2, 1), some (0, (0 + 1)), some (0, ((((0 + 1) + 1) + 1) + 1))]) c_111_28 rfl rfl rfl (n_goto c_111_31 (n_iload_n c_111_9 rfl (n_aload_n c_111_10 rfl (n_alen c_111_11 sc_1.n rfl ?_))))
                  refine n_if2_ge c_111_12 (by omega) (by omega) ?_ ?_
                  · intro h72
                    exfalso; omega
                  · intro h73
                    refine n_aload_n c_111_15 rfl (n_aload_n c_111_16 rfl (n_iload_n c_111_17 rfl (n_ialoadV c_111_18 sc_1.n rfl rfl rfl (by omega) (t_1_4 hS) ?_)))
                    intro z74 ez74 f75
                    have hcst : (z74 : Int) = 36 := by omega
                    rw [hcst]
                    refine n_v1I c_111_19 rfl sc_3.n rfl rfl rfl rfl (aakpX36_3  hS ) ?_
                    intro z76 M77 hP78
                    obtain ⟨eM, f78, f78p0⟩ := hP78
                    subst eM
                    refine n_if0_eq c_111_22 (by omega) ?_ ?_
                    · intro h79
                      refine n_iinc (L2 := [some (2, 3), some (2, 1), some (0, (0 + 1)), some (0, (((((0 + 1) + 1) + 1) + 1) + 1))]) c_111_28 rfl rfl rfl (n_goto c_111_31 (n_iload_n c_111_9 rfl (n_aload_n c_111_10 rfl (n_alen c_111_11 sc_1.n rfl ?_))))
                      refine n_if2_ge c_111_12 (by omega) (by omega) ?_ ?_
                      · intro h80
                        refine n_iload_n c_111_34 rfl ?_
                        exact n_rI c_111_35 rfl ⟨rfl, by omega, by omega⟩
                      · intro h81
                        exfalso; omega
                    · intro h82
                      refine n_iinc (L2 := [some (2, 3), some (2, 1), some (0, ((0 + 1) + 1)), some (0, ((((0 + 1) + 1) + 1) + 1))]) c_111_25 rfl rfl rfl (n_iinc (L2 := [some (2, 3), some (2, 1), some (0, ((0 + 1) + 1)), some (0, (((((0 + 1) + 1) + 1) + 1) + 1))]) c_111_28 rfl rfl rfl (n_goto c_111_31 (n_iload_n c_111_9 rfl (n_aload_n c_111_10 rfl (n_alen c_111_11 sc_1.n rfl ?_)))))
                      refine n_if2_ge c_111_12 (by omega) (by omega) ?_ ?_
                      · intro h83
                        refine n_iload_n c_111_34 rfl ?_
                        exact n_rI c_111_35 rfl ⟨rfl, by omega, by omega⟩
                      · intro h84
                        exfalso; omega
                · intro h85
                  refine n_iinc (L2 := [some (2, 3), some (2, 1), some (0, ((0 + 1) + 1)), some (0, (((0 + 1) + 1) + 1))]) c_111_25 rfl rfl rfl (n_iinc (L2 := [some (2, 3), some (2, 1), some (0, ((0 + 1) + 1)), some (0, ((((0 + 1) + 1) + 1) + 1))]) c_111_28 rfl rfl rfl (n_goto c_111_31 (n_iload_n c_111_9 rfl (n_aload_n c_111_10 rfl (n_alen c_111_11 sc_1.n rfl ?_)))))
                  refine n_if2_ge c_111_12 (by omega) (by omega) ?_ ?_
                  · intro h86
                    exfalso; omega
                  · intro h87
                    refine n_aload_n c_111_15 rfl (n_aload_n c_111_16 rfl (n_iload_n c_111_17 rfl (n_ialoadV c_111_18 sc_1.n rfl rfl rfl (by omega) (t_1_4 hS) ?_)))
                    intro z88 ez88 f89
                    have hcst : (z88 : Int) = 36 := by omega
                    rw [hcst]
                    refine n_v1I c_111_19 rfl sc_3.n rfl rfl rfl rfl (aakpX36_3  hS ) ?_
                    intro z90 M91 hP92
                    obtain ⟨eM, f92, f92p0⟩ := hP92
                    subst eM
                    refine n_if0_eq c_111_22 (by omega) ?_ ?_
                    · intro h93
                      refine n_iinc (L2 := [some (2, 3), some (2, 1), some (0, ((0 + 1) + 1)), some (0, (((((0 + 1) + 1) + 1) + 1) + 1))]) c_111_28 rfl rfl rfl (n_goto c_111_31 (n_iload_n c_111_9 rfl (n_aload_n c_111_10 rfl (n_alen c_111_11 sc_1.n rfl ?_))))
                      refine n_if2_ge c_111_12 (by omega) (by omega) ?_ ?_
                      · intro h94
                        refine n_iload_n c_111_34 rfl ?_
                        exact n_rI c_111_35 rfl ⟨rfl, by omega, by omega⟩
                      · intro h95
                        exfalso; omega
                    · intro h96
                      refine n_iinc (L2 := [some (2, 3), some (2, 1), some (0, (((0 + 1) + 1) + 1)), some (0, ((((0 + 1) + 1) + 1) + 1))]) c_111_25 rfl rfl rfl (n_iinc (L2 := [some (2, 3), some (2, 1), some (0, (((0 + 1) + 1) + 1)), some (0, (((((0 + 1) + 1) + 1) + 1) + 1))]) c_111_28 rfl rfl rfl (n_goto c_111_31 (n_iload_n c_111_9 rfl (n_aload_n c_111_10 rfl (n_alen c_111_11 sc_1.n rfl ?_)))))
                      refine n_if2_ge c_111_12 (by omega) (by omega) ?_ ?_
                      · intro h97
                        refine n_iload_n c_111_34 rfl ?_
                        exact n_rI c_111_35 rfl ⟨rfl, by omega, by omega⟩
                      · intro h98
                        exfalso; omega
        · intro h99
          refine n_iinc (L2 := [some (2, 3), some (2, 1), some (0, (0 + 1)), some (0, (0 + 1))]) c_111_25 rfl rfl rfl (n_iinc (L2 := [some (2, 3), some (2, 1), some (0, (0 + 1)), some (0, ((0 + 1) + 1))]) c_111_28 rfl rfl rfl (n_goto c_111_31 (n_iload_n c_111_9 rfl (n_aload_n c_111_10 rfl (n_alen c_111_11 sc_1.n rfl ?_)))))
          refine n_if2_ge c_111_12 (by omega) (by omega) ?_ ?_
          · intro h100
            exfalso; omega
          · intro h101
            refine n_aload_n c_111_15 rfl (n_aload_n c_111_16 rfl (n_iload_n c_111_17 rfl (n_ialoadV c_111_18 sc_1.n rfl rfl rfl (by omega) (t_1_2 hS) ?_)))
            intro z102 ez102 f103
            have hcst : (z102 : Int) = 20 := by omega
            rw [hcst]
            refine n_v1I c_111_19 rfl sc_3.n rfl rfl rfl rfl (aakpX20_3  hS ) ?_
            intro z104 M105 hP106
            obtain ⟨eM, f106, f106p0⟩ := hP106
            subst eM
            refine n_if0_eq c_111_22 (by omega) ?_ ?_
            · intro h107
              refine n_iinc (L2 := [some (2, 3), some (2, 1), some (0, (0 + 1)), some (0, (((0 + 1) + 1) + 1))]) c_111_28 rfl rfl rfl (n_goto c_111_31 (n_iload_n c_111_9 rfl (n_aload_n c_111_10 rfl (n_alen c_111_11 sc_1.n rfl ?_))))
              refine n_if2_ge c_111_12 (by omega) (by omega) ?_ ?_
              · intro h108
                exfalso; omega
              · intro h109
                refine n_aload_n c_111_15 rfl (n_aload_n c_111_16 rfl (n_iload_n c_111_17 rfl (n_ialoadV c_111_18 sc_1.n rfl rfl rfl (by omega) (t_1_3 hS) ?_)))
                intro z110 ez110 f111
                have hcst : (z110 : Int) = 32 := by omega
                rw [hcst]
                refine n_v1I c_111_19 rfl sc_3.n rfl rfl rfl rfl (aakpX32_3  hS ) ?_
                intro z112 M113 hP114
                obtain ⟨eM, f114, f114p0⟩ := hP114
                subst eM
                refine n_if0_eq c_111_22 (by omega) ?_ ?_
                · intro h115
                  refine n_iinc (L2 := [some (2, 3), some (2, 1), some (0, (0 + 1)), some (0, ((((0 + 1) + 1) + 1) + 1))]) c_111_28 rfl rfl rfl (n_goto c_111_31 (n_iload_n c_111_9 rfl (n_aload_n c_111_10 rfl (n_alen c_111_11 sc_1.n rfl ?_))))
                  refine n_if2_ge c_111_12 (by omega) (by omega) ?_ ?_
                  · intro h116
                    exfalso; omega
                  · intro h117
                    refine n_aload_n c_111_15 rfl (n_aload_n c_111_16 rfl (n_iload_n c_111_17 rfl (n_ialoadV c_111_18 sc_1.n rfl rfl rfl (by omega) (t_1_4 hS) ?_)))
                    intro z118 ez118 f119
                    have hcst : (z118 : Int) = 36 := by omega
                    rw [hcst]
                    refine n_v1I c_111_19 rfl sc_3.n rfl rfl rfl rfl (aakpX36_3  hS ) ?_
                    intro z120 M121 hP122
                    obtain ⟨eM, f122, f122p0⟩ := hP122
                    subst eM
                    refine n_if0_eq c_111_22 (by omega) ?_ ?_
                    · intro h123
                      refine n_iinc (L2 := [some (2, 3), some (2, 1), some (0, (0 + 1)), some (0, (((((0 + 1) + 1) + 1) + 1) + 1))]) c_111_28 rfl rfl rfl (n_goto c_111_31 (n_iload_n c_111_9 rfl (n_aload_n c_111_10 rfl (n_alen c_111_11 sc_1.n rfl ?_))))
                      refine n_if2_ge c_111_12 (by omega) (by omega) ?_ ?_
                      · intro h124
                        refine n_iload_n c_111_34 rfl ?_
                        exact n_rI c_111_35 rfl ⟨rfl, by omega, by omega⟩
                      · intro h125
                        exfalso; omega
                    · intro h126
                      refine n_iinc (L2 := [some (2, 3), some (2, 1), some (0, ((0 + 1) + 1)), some (0, ((((0 + 1) + 1) + 1) + 1))]) c_111_25 rfl rfl rfl (n_iinc (L2 := [some (2, 3), some (2, 1), some (0, ((0 + 1) + 1)), some (0, (((((0 + 1) + 1) + 1) + 1) + 1))]) c_111_28 rfl rfl rfl (n_goto c_111_31 (n_iload_n c_111_9 rfl (n_aload_n c_111_10 rfl (n_alen c_111_11 sc_1.n rfl ?_)))))
                      refine n_if2_ge c_111_12 (by omega) (by omega) ?_ ?_
                      · intro h127
                        refine n_iload_n c_111_34 rfl ?_
                        exact n_rI c_111_35 rfl ⟨rfl, by omega, by omega⟩
                      · intro h128
                        exfalso; omega
                · intro h129
                  refine n_iinc (L2 := [some (2, 3), some (2, 1), some (0, ((0 + 1) + 1)), some (0, (((0 + 1) + 1) + 1))]) c_111_25 rfl rfl rfl (n_iinc (L2 := [some (2, 3), some (2, 1), some (0, ((0 + 1) + 1)), some (0, ((((0 + 1) + 1) + 1) + 1))]) c_111_28 rfl rfl rfl (n_goto c_111_31 (n_iload_n c_111_9 rfl (n_aload_n c_111_10 rfl (n_alen c_111_11 sc_1.n rfl ?_)))))
                  refine n_if2_ge c_111_12 (by omega) (by omega) ?_ ?_
                  · intro h130
                    exfalso; omega
                  · intro h131
                    refine n_aload_n c_111_15 rfl (n_aload_n c_111_16 rfl (n_iload_n c_111_17 rfl (n_ialoadV c_111_18 sc_1.n rfl rfl rfl (by omega) (t_1_4 hS) ?_)))
                    intro z132 ez132 f133
                    have hcst : (z132 : Int) = 36 := by omega
                    rw [hcst]
                    refine n_v1I c_111_19 rfl sc_3.n rfl rfl rfl rfl (aakpX36_3  hS ) ?_
                    intro z134 M135 hP136
                    obtain ⟨eM, f136, f136p0⟩ := hP136
                    subst eM
                    refine n_if0_eq c_111_22 (by omega) ?_ ?_
                    · intro h137
                      refine n_iinc (L2 := [some (2, 3), some (2, 1), some (0, ((0 + 1) + 1)), some (0, (((((0 + 1) + 1) + 1) + 1) + 1))]) c_111_28 rfl rfl rfl (n_goto c_111_31 (n_iload_n c_111_9 rfl (n_aload_n c_111_10 rfl (n_alen c_111_11 sc_1.n rfl ?_))))
                      refine n_if2_ge c_111_12 (by omega) (by omega) ?_ ?_
                      · intro h138
                        refine n_iload_n c_111_34 rfl ?_
                        exact n_rI c_111_35 rfl ⟨rfl, by omega, by omega⟩
                      · intro h139
                        exfalso; omega
                    · intro h140
                      refine n_iinc (L2 := [some (2, 3), some (2, 1), some (0, (((0 + 1) + 1) + 1)), some (0, ((((0 + 1) + 1) + 1) + 1))]) c_111_25 rfl rfl rfl (n_iinc (L2 := [some (2, 3), some (2, 1), some (0, (((0 + 1) + 1) + 1)), some (0, (((((0 + 1) + 1) + 1) + 1) + 1))]) c_111_28 rfl rfl rfl (n_goto c_111_31 (n_iload_n c_111_9 rfl (n_aload_n c_111_10 rfl (n_alen c_111_11 sc_1.n rfl ?_)))))
                      refine n_if2_ge c_111_12 (by omega) (by omega) ?_ ?_
                      · intro h141
                        refine n_iload_n c_111_34 rfl ?_
                        exact n_rI c_111_35 rfl ⟨rfl, by omega, by omega⟩
                      · intro h142
                        exfalso; omega
            · intro h143
              refine n_iinc (L2 := [some (2, 3), some (2, 1), some (0, ((0 + 1) + 1)), some (0, ((0 + 1) + 1))]) c_111_25 rfl rfl rfl (n_iinc (L2 := [some (2, 3), some (2, 1), some (0, ((0 + 1) + 1)), some (0, (((0 + 1) + 1) + 1))]) c_111_28 rfl rfl rfl (n_goto c_111_31 (n_iload_n c_111_9 rfl (n_aload_n c_111_10 rfl (n_alen c_111_11 sc_1.n rfl ?_)))))
              refine n_if2_ge c_111_12 (by omega) (by omega) ?_ ?_
              · intro h144
                exfalso; omega
              · intro h145
                refine n_aload_n c_111_15 rfl (n_aload_n c_111_16 rfl (n_iload_n c_111_17 rfl (n_ialoadV c_111_18 sc_1.n rfl rfl rfl (by omega) (t_1_3 hS) ?_)))
                intro z146 ez146 f147
                have hcst : (z146 : Int) = 32 := by omega
                rw [hcst]
                refine n_v1I c_111_19 rfl sc_3.n rfl rfl rfl rfl (aakpX32_3  hS ) ?_
                intro z148 M149 hP150
                obtain ⟨eM, f150, f150p0⟩ := hP150
                subst eM
                refine n_if0_eq c_111_22 (by omega) ?_ ?_
                · intro h151
                  refine n_iinc (L2 := [some (2, 3), some (2, 1), some (0, ((0 + 1) + 1)), some (0, ((((0 + 1) + 1) + 1) + 1))]) c_111_28 rfl rfl rfl (n_goto c_111_31 (n_iload_n c_111_9 rfl (n_aload_n c_111_10 rfl (n_alen c_111_11 sc_1.n rfl ?_))))
                  refine n_if2_ge c_111_12 (by omega) (by omega) ?_ ?_
                  · intro h152
                    exfalso; omega
                  · intro h153
                    refine n_aload_n c_111_15 rfl (n_aload_n c_111_16 rfl (n_iload_n c_111_17 rfl (n_ialoadV c_111_18 sc_1.n rfl rfl rfl (by omega) (t_1_4 hS) ?_)))
                    intro z154 ez154 f155
                    have hcst : (z154 : Int) = 36 := by omega
                    rw [hcst]
                    refine n_v1I c_111_19 rfl sc_3.n rfl rfl rfl rfl (aakpX36_3  hS ) ?_
                    intro z156 M157 hP158
                    obtain ⟨eM, f158, f158p0⟩ := hP158
                    subst eM
                    refine n_if0_eq c_111_22 (by omega) ?_ ?_
                    · intro h159
                      refine n_iinc (L2 := [some (2, 3), some (2, 1), some (0, ((0 + 1) + 1)), some (0, (((((0 + 1) + 1) + 1) + 1) + 1))]) c_111_28 rfl rfl rfl (n_goto c_111_31 (n_iload_n c_111_9 rfl (n_aload_n c_111_10 rfl (n_alen c_111_11 sc_1.n rfl ?_))))
                      refine n_if2_ge c_111_12 (by omega) (by omega) ?_ ?_
                      · intro h160
                        refine n_iload_n c_111_34 rfl ?_
                        exact n_rI c_111_35 rfl ⟨rfl, by omega, by omega⟩
                      · intro h161
                        exfalso; omega
                    · intro h162
                      refine n_iinc (L2 := [some (2, 3), some (2, 1), some (0, (((0 + 1) + 1) + 1)), some (0, ((((0 + 1) + 1) + 1) + 1))]) c_111_25 rfl rfl rfl (n_iinc (L2 := [some (2, 3), some (2, 1), some (0, (((0 + 1) + 1) + 1)), some (0, (((((0 + 1) + 1) + 1) + 1) + 1))]) c_111_28 rfl rfl rfl (n_goto c_111_31 (n_iload_n c_111_9 rfl (n_aload_n c_111_10 rfl (n_alen c_111_11 sc_1.n rfl ?_)))))
                      refine n_if2_ge c_111_12 (by omega) (by omega) ?_ ?_
                      · intro h163
                        refine n_iload_n c_111_34 rfl ?_
                        exact n_rI c_111_35 rfl ⟨rfl, by omega, by omega⟩
                      · intro h164
                        exfalso; omega
                · intro h165
                  refine n_iinc (L2 := [some (2, 3), some (2, 1), some (0, (((0 + 1) + 1) + 1)), some (0, (((0 + 1) + 1) + 1))]) c_111_25 rfl rfl rfl (n_iinc (L2 := [some (2, 3), some (2, 1), some (0, (((0 + 1) + 1) + 1)), some (0, ((((0 + 1) + 1) + 1) + 1))]) c_111_28 rfl rfl rfl (n_goto c_111_31 (n_iload_n c_111_9 rfl (n_aload_n c_111_10 rfl (n_alen c_111_11 sc_1.n rfl ?_)))))
                  refine n_if2_ge c_111_12 (by omega) (by omega) ?_ ?_
                  · intro h166
                    exfalso; omega
                  · intro h167
                    refine n_aload_n c_111_15 rfl (n_aload_n c_111_16 rfl (n_iload_n c_111_17 rfl (n_ialoadV c_111_18 sc_1.n rfl rfl rfl (by omega) (t_1_4 hS) ?_)))
                    intro z168 ez168 f169
                    have hcst : (z168 : Int) = 36 := by omega
                    rw [hcst]
                    refine n_v1I c_111_19 rfl sc_3.n rfl rfl rfl rfl (aakpX36_3  hS ) ?_
                    intro z170 M171 hP172
                    obtain ⟨eM, f172, f172p0⟩ := hP172
                    subst eM
                    refine n_if0_eq c_111_22 (by omega) ?_ ?_
                    · intro h173
                      refine n_iinc (L2 := [some (2, 3), some (2, 1), some (0, (((0 + 1) + 1) + 1)), some (0, (((((0 + 1) + 1) + 1) + 1) + 1))]) c_111_28 rfl rfl rfl (n_goto c_111_31 (n_iload_n c_111_9 rfl (n_aload_n c_111_10 rfl (n_alen c_111_11 sc_1.n rfl ?_))))
                      refine n_if2_ge c_111_12 (by omega) (by omega) ?_ ?_
                      · intro h174
                        refine n_iload_n c_111_34 rfl ?_
                        exact n_rI c_111_35 rfl ⟨rfl, by omega, by omega⟩
                      · intro h175
                        exfalso; omega
                    · intro h176
                      refine n_iinc (L2 := [some (2, 3), some (2, 1), some (0, ((((0 + 1) + 1) + 1) + 1)), some (0, ((((0 + 1) + 1) + 1) + 1))]) c_111_25 rfl rfl rfl (n_iinc (L2 := [some (2, 3), some (2, 1), some (0, ((((0 + 1) + 1) + 1) + 1)), some (0, (((((0 + 1) + 1) + 1) + 1) + 1))]) c_111_28 rfl rfl rfl (n_goto c_111_31 (n_iload_n c_111_9 rfl (n_aload_n c_111_10 rfl (n_alen c_111_11 sc_1.n rfl ?_)))))
                      refine n_if2_ge c_111_12 (by omega) (by omega) ?_ ?_
                      · intro h177
                        refine n_iload_n c_111_34 rfl ?_
                        exact n_rI c_111_35 rfl ⟨rfl, by omega, by omega⟩
                      · intro h178
                        exfalso; omega
    · intro h179
      refine n_iinc (L2 := [some (2, 3), some (2, 1), some (0, (0 + 1)), some (0, 0)]) c_111_25 rfl rfl rfl (n_iinc (L2 := [some (2, 3), some (2, 1), some (0, (0 + 1)), some (0, (0 + 1))]) c_111_28 rfl rfl rfl (n_goto c_111_31 (n_iload_n c_111_9 rfl (n_aload_n c_111_10 rfl (n_alen c_111_11 sc_1.n rfl ?_)))))
      refine n_if2_ge c_111_12 (by omega) (by omega) ?_ ?_
      · intro h180
        exfalso; omega
      · intro h181
        refine n_aload_n c_111_15 rfl (n_aload_n c_111_16 rfl (n_iload_n c_111_17 rfl (n_ialoadV c_111_18 sc_1.n rfl rfl rfl (by omega) (t_1_1 hS) ?_)))
        intro z182 ez182 f183
        have hcst : (z182 : Int) = 4 := by omega
        rw [hcst]
        refine n_v1I c_111_19 rfl sc_3.n rfl rfl rfl rfl (aakpX4_3  hS ) ?_
        intro z184 M185 hP186
        obtain ⟨eM, f186, f186p0⟩ := hP186
        subst eM
        refine n_if0_eq c_111_22 (by omega) ?_ ?_
        · intro h187
          refine n_iinc (L2 := [some (2, 3), some (2, 1), some (0, (0 + 1)), some (0, ((0 + 1) + 1))]) c_111_28 rfl rfl rfl (n_goto c_111_31 (n_iload_n c_111_9 rfl (n_aload_n c_111_10 rfl (n_alen c_111_11 sc_1.n rfl ?_))))
          refine n_if2_ge c_111_12 (by omega) (by omega) ?_ ?_
          · intro h188
            exfalso; omega
          · intro h189
            refine n_aload_n c_111_15 rfl (n_aload_n c_111_16 rfl (n_iload_n c_111_17 rfl (n_ialoadV c_111_18 sc_1.n rfl rfl rfl (by omega) (t_1_2 hS) ?_)))
            intro z190 ez190 f191
            have hcst : (z190 : Int) = 20 := by omega
            rw [hcst]
            refine n_v1I c_111_19 rfl sc_3.n rfl rfl rfl rfl (aakpX20_3  hS ) ?_
            intro z192 M193 hP194
            obtain ⟨eM, f194, f194p0⟩ := hP194
            subst eM
            refine n_if0_eq c_111_22 (by omega) ?_ ?_
            · intro h195
              refine n_iinc (L2 := [some (2, 3), some (2, 1), some (0, (0 + 1)), some (0, (((0 + 1) + 1) + 1))]) c_111_28 rfl rfl rfl (n_goto c_111_31 (n_iload_n c_111_9 rfl (n_aload_n c_111_10 rfl (n_alen c_111_11 sc_1.n rfl ?_))))
              refine n_if2_ge c_111_12 (by omega) (by omega) ?_ ?_
              · intro h196
                exfalso; omega
              · intro h197
                refine n_aload_n c_111_15 rfl (n_aload_n c_111_16 rfl (n_iload_n c_111_17 rfl (n_ialoadV c_111_18 sc_1.n rfl rfl rfl (by omega) (t_1_3 hS) ?_)))
                intro z198 ez198 f199
                have hcst : (z198 : Int) = 32 := by omega
                rw [hcst]
                refine n_v1I c_111_19 rfl sc_3.n rfl rfl rfl rfl (aakpX32_3  hS ) ?_
                intro z200 M201 hP202
                obtain ⟨eM, f202, f202p0⟩ := hP202
                subst eM
                refine n_if0_eq c_111_22 (by omega) ?_ ?_
                · intro h203
                  refine n_iinc (L2 := [some (2, 3), some (2, 1), some (0, (0 + 1)), some (0, ((((0 + 1) + 1) + 1) + 1))]) c_111_28 rfl rfl rfl (n_goto c_111_31 (n_iload_n c_111_9 rfl (n_aload_n c_111_10 rfl (n_alen c_111_11 sc_1.n rfl ?_))))
                  refine n_if2_ge c_111_12 (by omega) (by omega) ?_ ?_
                  · intro h204
                    exfalso; omega
                  · intro h205
                    refine n_aload_n c_111_15 rfl (n_aload_n c_111_16 rfl (n_iload_n c_111_17 rfl (n_ialoadV c_111_18 sc_1.n rfl rfl rfl (by omega) (t_1_4 hS) ?_)))
                    intro z206 ez206 f207
                    have hcst : (z206 : Int) = 36 := by omega
                    rw [hcst]
                    refine n_v1I c_111_19 rfl sc_3.n rfl rfl rfl rfl (aakpX36_3  hS ) ?_
                    intro z208 M209 hP210
                    obtain ⟨eM, f210, f210p0⟩ := hP210
                    subst eM
                    refine n_if0_eq c_111_22 (by omega) ?_ ?_
                    · intro h211
                      refine n_iinc (L2 := [some (2, 3), some (2, 1), some (0, (0 + 1)), some (0, (((((0 + 1) + 1) + 1) + 1) + 1))]) c_111_28 rfl rfl rfl (n_goto c_111_31 (n_iload_n c_111_9 rfl (n_aload_n c_111_10 rfl (n_alen c_111_11 sc_1.n rfl ?_))))
                      refine n_if2_ge c_111_12 (by omega) (by omega) ?_ ?_
                      · intro h212
                        refine n_iload_n c_111_34 rfl ?_
                        exact n_rI c_111_35 rfl ⟨rfl, by omega, by omega⟩
                      · intro h213
                        exfalso; omega
                    · intro h214
                      refine n_iinc (L2 := [some (2, 3), some (2, 1), some (0, ((0 + 1) + 1)), some (0, ((((0 + 1) + 1) + 1) + 1))]) c_111_25 rfl rfl rfl (n_iinc (L2 := [some (2, 3), some (2, 1), some (0, ((0 + 1) + 1)), some (0, (((((0 + 1) + 1) + 1) + 1) + 1))]) c_111_28 rfl rfl rfl (n_goto c_111_31 (n_iload_n c_111_9 rfl (n_aload_n c_111_10 rfl (n_alen c_111_11 sc_1.n rfl ?_)))))
                      refine n_if2_ge c_111_12 (by omega) (by omega) ?_ ?_
                      · intro h215
                        refine n_iload_n c_111_34 rfl ?_
                        exact n_rI c_111_35 rfl ⟨rfl, by omega, by omega⟩
                      · intro h216
                        exfalso; omega
                · intro h217
                  refine n_iinc (L2 := [some (2, 3), some (2, 1), some (0, ((0 + 1) + 1)), some (0, (((0 + 1) + 1) + 1))]) c_111_25 rfl rfl rfl (n_iinc (L2 := [some (2, 3), some (2, 1), some (0, ((0 + 1) + 1)), some (0, ((((0 + 1) + 1) + 1) + 1))]) c_111_28 rfl rfl rfl (n_goto c_111_31 (n_iload_n c_111_9 rfl (n_aload_n c_111_10 rfl (n_alen c_111_11 sc_1.n rfl ?_)))))
                  refine n_if2_ge c_111_12 (by omega) (by omega) ?_ ?_
                  · intro h218
                    exfalso; omega
                  · intro h219
                    refine n_aload_n c_111_15 rfl (n_aload_n c_111_16 rfl (n_iload_n c_111_17 rfl (n_ialoadV c_111_18 sc_1.n rfl rfl rfl (by omega) (t_1_4 hS) ?_)))
                    intro z220 ez220 f221
                    have hcst : (z220 : Int) = 36 := by omega
                    rw [hcst]
                    refine n_v1I c_111_19 rfl sc_3.n rfl rfl rfl rfl (aakpX36_3  hS ) ?_
                    intro z222 M223 hP224
                    obtain ⟨eM, f224, f224p0⟩ := hP224
                    subst eM
                    refine n_if0_eq c_111_22 (by omega) ?_ ?_
                    · intro h225
                      refine n_iinc (L2 := [some (2, 3), some (2, 1), some (0, ((0 + 1) + 1)), some (0, (((((0 + 1) + 1) + 1) + 1) + 1))]) c_111_28 rfl rfl rfl (n_goto c_111_31 (n_iload_n c_111_9 rfl (n_aload_n c_111_10 rfl (n_alen c_111_11 sc_1.n rfl ?_))))
                      refine n_if2_ge c_111_12 (by omega) (by omega) ?_ ?_
                      · intro h226
                        refine n_iload_n c_111_34 rfl ?_
                        exact n_rI c_111_35 rfl ⟨rfl, by omega, by omega⟩
                      · intro h227
                        exfalso; omega
                    · intro h228
                      refine n_iinc (L2 := [some (2, 3), some (2, 1), some (0, (((0 + 1) + 1) + 1)), some (0, ((((0 + 1) + 1) + 1) + 1))]) c_111_25 rfl rfl rfl (n_iinc (L2 := [some (2, 3), some (2, 1), some (0, (((0 + 1) + 1) + 1)), some (0, (((((0 + 1) + 1) + 1) + 1) + 1))]) c_111_28 rfl rfl rfl (n_goto c_111_31 (n_iload_n c_111_9 rfl (n_aload_n c_111_10 rfl (n_alen c_111_11 sc_1.n rfl ?_)))))
                      refine n_if2_ge c_111_12 (by omega) (by omega) ?_ ?_
                      · intro h229
                        refine n_iload_n c_111_34 rfl ?_
                        exact n_rI c_111_35 rfl ⟨rfl, by omega, by omega⟩
                      · intro h230
                        exfalso; omega
            · intro h231
              refine n_iinc (L2 := [some (2, 3), some (2, 1), some (0, ((0 + 1) + 1)), some (0, ((0 + 1) + 1))]) c_111_25 rfl rfl rfl (n_iinc (L2 := [some (2, 3), some (2, 1), some (0, ((0 + 1) + 1)), some (0, (((0 + 1) + 1) + 1))]) c_111_28 rfl rfl rfl (n_goto c_111_31 (n_iload_n c_111_9 rfl (n_aload_n c_111_10 rfl (n_alen c_111_11 sc_1.n rfl ?_)))))
              refine n_if2_ge c_111_12 (by omega) (by omega) ?_ ?_
              · intro h232
                exfalso; omega
              · intro h233
                refine n_aload_n c_111_15 rfl (n_aload_n c_111_16 rfl (n_iload_n c_111_17 rfl (n_ialoadV c_111_18 sc_1.n rfl rfl rfl (by omega) (t_1_3 hS) ?_)))
                intro z234 ez234 f235
                have hcst : (z234 : Int) = 32 := by omega
                rw [hcst]
                refine n_v1I c_111_19 rfl sc_3.n rfl rfl rfl rfl (aakpX32_3  hS ) ?_
                intro z236 M237 hP238
                obtain ⟨eM, f238, f238p0⟩ := hP238
                subst eM
                refine n_if0_eq c_111_22 (by omega) ?_ ?_
                · intro h239
                  refine n_iinc (L2 := [some (2, 3), some (2, 1), some (0, ((0 + 1) + 1)), some (0, ((((0 + 1) + 1) + 1) + 1))]) c_111_28 rfl rfl rfl (n_goto c_111_31 (n_iload_n c_111_9 rfl (n_aload_n c_111_10 rfl (n_alen c_111_11 sc_1.n rfl ?_))))
                  refine n_if2_ge c_111_12 (by omega) (by omega) ?_ ?_
                  · intro h240
                    exfalso; omega
                  · intro h241
                    refine n_aload_n c_111_15 rfl (n_aload_n c_111_16 rfl (n_iload_n c_111_17 rfl (n_ialoadV c_111_18 sc_1.n rfl rfl rfl (by omega) (t_1_4 hS) ?_)))
                    intro z242 ez242 f243
                    have hcst : (z242 : Int) = 36 := by omega
                    rw [hcst]
                    refine n_v1I c_111_19 rfl sc_3.n rfl rfl rfl rfl (aakpX36_3  hS ) ?_
                    intro z244 M245 hP246
                    obtain ⟨eM, f246, f246p0⟩ := hP246
                    subst eM
                    refine n_if0_eq c_111_22 (by omega) ?_ ?_
                    · intro h247
                      refine n_iinc (L2 := [some (2, 3), some (2, 1), some (0, ((0 + 1) + 1)), some (0, (((((0 + 1) + 1) + 1) + 1) + 1))]) c_111_28 rfl rfl rfl (n_goto c_111_31 (n_iload_n c_111_9 rfl (n_aload_n c_111_10 rfl (n_alen c_111_11 sc_1.n rfl ?_))))
                      refine n_if2_ge c_111_12 (by omega) (by omega) ?_ ?_
                      · intro h248
                        refine n_iload_n c_111_34 rfl ?_
                        exact n_rI c_111_35 rfl ⟨rfl, by omega, by omega⟩
                      · intro h249
                        exfalso; omega
                    · intro h250
                      refine n_iinc (L2 := [some (2, 3), some (2, 1), some (0, (((0 + 1) + 1) + 1)), some (0, ((((0 + 1) + 1) + 1) + 1))]) c_111_25 rfl rfl rfl (n_iinc (L2 := [some (2, 3), some (2, 1), some (0, (((0 + 1) + 1) + 1)), some (0, (((((0 + 1) + 1) + 1) + 1) + 1))]) c_111_28 rfl rfl rfl (n_goto c_111_31 (n_iload_n c_111_9 rfl (n_aload_n c_111_10 rfl (n_alen c_111_11 sc_1.n rfl ?_)))))
                      refine n_if2_ge c_111_12 (by omega) (by omega) ?_ ?_
                      · intro h251
                        refine n_iload_n c_111_34 rfl ?_
                        exact n_rI c_111_35 rfl ⟨rfl, by omega, by omega⟩
                      · intro h252
                        exfalso; omega
                · intro h253
                  refine n_iinc (L2 := [some (2, 3), some (2, 1), some (0, (((0 + 1) + 1) + 1)), some (0, (((0 + 1) + 1) + 1))]) c_111_25 rfl rfl rfl (n_iinc (L2 := [some (2, 3), some (2, 1), some (0, (((0 + 1) + 1) + 1)), some (0, ((((0 + 1) + 1) + 1) + 1))]) c_111_28 rfl rfl rfl (n_goto c_111_31 (n_iload_n c_111_9 rfl (n_aload_n c_111_10 rfl (n_alen c_111_11 sc_1.n rfl ?_)))))
                  refine n_if2_ge c_111_12 (by omega) (by omega) ?_ ?_
                  · intro h254
                    exfalso; omega
                  · intro h255
                    refine n_aload_n c_111_15 rfl (n_aload_n c_111_16 rfl (n_iload_n c_111_17 rfl (n_ialoadV c_111_18 sc_1.n rfl rfl rfl (by omega) (t_1_4 hS) ?_)))
                    intro z256 ez256 f257
                    have hcst : (z256 : Int) = 36 := by omega
                    rw [hcst]
                    refine n_v1I c_111_19 rfl sc_3.n rfl rfl rfl rfl (aakpX36_3  hS ) ?_
                    intro z258 M259 hP260
                    obtain ⟨eM, f260, f260p0⟩ := hP260
                    subst eM
                    refine n_if0_eq c_111_22 (by omega) ?_ ?_
                    · intro h261
                      refine n_iinc (L2 := [some (2, 3), some (2, 1), some (0, (((0 + 1) + 1) + 1)), some (0, (((((0 + 1) + 1) + 1) + 1) + 1))]) c_111_28 rfl rfl rfl (n_goto c_111_31 (n_iload_n c_111_9 rfl (n_aload_n c_111_10 rfl (n_alen c_111_11 sc_1.n rfl ?_))))
                      refine n_if2_ge c_111_12 (by omega) (by omega) ?_ ?_
                      · intro h262
                        refine n_iload_n c_111_34 rfl ?_
                        exact n_rI c_111_35 rfl ⟨rfl, by omega, by omega⟩
                      · intro h263
                        exfalso; omega
                    · intro h264
                      refine n_iinc (L2 := [some (2, 3), some (2, 1), some (0, ((((0 + 1) + 1) + 1) + 1)), some (0, ((((0 + 1) + 1) + 1) + 1))]) c_111_25 rfl rfl rfl (n_iinc (L2 := [some (2, 3), some (2, 1), some (0, ((((0 + 1) + 1) + 1) + 1)), some (0, (((((0 + 1) + 1) + 1) + 1) + 1))]) c_111_28 rfl rfl rfl (n_goto c_111_31 (n_iload_n c_111_9 rfl (n_aload_n c_111_10 rfl (n_alen c_111_11 sc_1.n rfl ?_)))))
                      refine n_if2_ge c_111_12 (by omega) (by omega) ?_ ?_
                      · intro h265
                        refine n_iload_n c_111_34 rfl ?_
                        exact n_rI c_111_35 rfl ⟨rfl, by omega, by omega⟩
                      · intro h266
                        exfalso; omega
        · intro h267
          refine n_iinc (L2 := [some (2, 3), some (2, 1), some (0, ((0 + 1) + 1)), some (0, (0 + 1))]) c_111_25 rfl rfl rfl (n_iinc (L2 := [some (2, 3), some (2, 1), some (0, ((0 + 1) + 1)), some (0, ((0 + 1) + 1))]) c_111_28 rfl rfl rfl (n_goto c_111_31 (n_iload_n c_111_9 rfl (n_aload_n c_111_10 rfl (n_alen c_111_11 sc_1.n rfl ?_)))))
          refine n_if2_ge c_111_12 (by omega) (by omega) ?_ ?_
          · intro h268
            exfalso; omega
          · intro h269
            refine n_aload_n c_111_15 rfl (n_aload_n c_111_16 rfl (n_iload_n c_111_17 rfl (n_ialoadV c_111_18 sc_1.n rfl rfl rfl (by omega) (t_1_2 hS) ?_)))
            intro z270 ez270 f271
            have hcst : (z270 : Int) = 20 := by omega
            rw [hcst]
            refine n_v1I c_111_19 rfl sc_3.n rfl rfl rfl rfl (aakpX20_3  hS ) ?_
            intro z272 M273 hP274
            obtain ⟨eM, f274, f274p0⟩ := hP274
            subst eM
            refine n_if0_eq c_111_22 (by omega) ?_ ?_
            · intro h275
              refine n_iinc (L2 := [some (2, 3), some (2, 1), some (0, ((0 + 1) + 1)), some (0, (((0 + 1) + 1) + 1))]) c_111_28 rfl rfl rfl (n_goto c_111_31 (n_iload_n c_111_9 rfl (n_aload_n c_111_10 rfl (n_alen c_111_11 sc_1.n rfl ?_))))
              refine n_if2_ge c_111_12 (by omega) (by omega) ?_ ?_
              · intro h276
                exfalso; omega
              · intro h277
                refine n_aload_n c_111_15 rfl (n_aload_n c_111_16 rfl (n_iload_n c_111_17 rfl (n_ialoadV c_111_18 sc_1.n rfl rfl rfl (by omega) (t_1_3 hS) ?_)))
                intro z278 ez278 f279
                have hcst : (z278 : Int) = 32 := by omega
                rw [hcst]
                refine n_v1I c_111_19 rfl sc_3.n rfl rfl rfl rfl (aakpX32_3  hS ) ?_
                intro z280 M281 hP282
                obtain ⟨eM, f282, f282p0⟩ := hP282
                subst eM
                refine n_if0_eq c_111_22 (by omega) ?_ ?_
                · intro h283
                  refine n_iinc (L2 := [some (2, 3), some (2, 1), some (0, ((0 + 1) + 1)), some (0, ((((0 + 1) + 1) + 1) + 1))]) c_111_28 rfl rfl rfl (n_goto c_111_31 (n_iload_n c_111_9 rfl (n_aload_n c_111_10 rfl (n_alen c_111_11 sc_1.n rfl ?_))))
                  refine n_if2_ge c_111_12 (by omega) (by omega) ?_ ?_
                  · intro h284
                    exfalso; omega
                  · intro h285
                    refine n_aload_n c_111_15 rfl (n_aload_n c_111_16 rfl (n_iload_n c_111_17 rfl (n_ialoadV c_111_18 sc_1.n rfl rfl rfl (by omega) (t_1_4 hS) ?_)))
                    intro z286 ez286 f287
                    have hcst : (z286 : Int) = 36 := by omega
                    rw [hcst]
                    refine n_v1I c_111_19 rfl sc_3.n rfl rfl rfl rfl (aakpX36_3  hS ) ?_
                    intro z288 M289 hP290
                    obtain ⟨eM, f290, f290p0⟩ := hP290
                    subst eM
                    refine n_if0_eq c_111_22 (by omega) ?_ ?_
                    · intro h291
                      refine n_iinc (L2 := [some (2, 3), some (2, 1), some (0, ((0 + 1) + 1)), some (0, (((((0 + 1) + 1) + 1) + 1) + 1))]) c_111_28 rfl rfl rfl (n_goto c_111_31 (n_iload_n c_111_9 rfl (n_aload_n c_111_10 rfl (n_alen c_111_11 sc_1.n rfl ?_))))
                      refine n_if2_ge c_111_12 (by omega) (by omega) ?_ ?_
                      · intro h292
                        refine n_iload_n c_111_34 rfl ?_
                        exact n_rI c_111_35 rfl ⟨rfl, by omega, by omega⟩
                      · intro h293
                        exfalso; omega
                    · intro h294
                      refine n_iinc (L2 := [some (2, 3), some (2, 1), some (0, (((0 + 1) + 1) + 1)), some (0, ((((0 + 1) + 1) + 1) + 1))]) c_111_25 rfl rfl rfl (n_iinc (L2 := [some (2, 3), some (2, 1), some (0, (((0 + 1) + 1) + 1)), some (0, (((((0 + 1) + 1) + 1) + 1) + 1))]) c_111_28 rfl rfl rfl (n_goto c_111_31 (n_iload_n c_111_9 rfl (n_aload_n c_111_10 rfl (n_alen c_111_11 sc_1.n rfl ?_)))))
                      refine n_if2_ge c_111_12 (by omega) (by omega) ?_ ?_
                      · intro h295
                        refine n_iload_n c_111_34 rfl ?_
                        exact n_rI c_111_35 rfl ⟨rfl, by omega, by omega⟩
                      · intro h296
                        exfalso; omega
                · intro h297
                  refine n_iinc (L2 := [some (2, 3), some (2, 1), some (0, (((0 + 1) + 1) + 1)), some (0, (((0 + 1) + 1) + 1))]) c_111_25 rfl rfl rfl (n_iinc (L2 := [some (2, 3), some (2, 1), some (0, (((0 + 1) + 1) + 1)), some (0, ((((0 + 1) + 1) + 1) + 1))]) c_111_28 rfl rfl rfl (n_goto c_111_31 (n_iload_n c_111_9 rfl (n_aload_n c_111_10 rfl (n_alen c_111_11 sc_1.n rfl ?_)))))
                  refine n_if2_ge c_111_12 (by omega) (by omega) ?_ ?_
                  · intro h298
                    exfalso; omega
                  · intro h299
                    refine n_aload_n c_111_15 rfl (n_aload_n c_111_16 rfl (n_iload_n c_111_17 rfl (n_ialoadV c_111_18 sc_1.n rfl rfl rfl (by omega) (t_1_4 hS) ?_)))
                    intro z300 ez300 f301
                    have hcst : (z300 : Int) = 36 := by omega
                    rw [hcst]
                    refine n_v1I c_111_19 rfl sc_3.n rfl rfl rfl rfl (aakpX36_3  hS ) ?_
                    intro z302 M303 hP304
                    obtain ⟨eM, f304, f304p0⟩ := hP304
                    subst eM
                    refine n_if0_eq c_111_22 (by omega) ?_ ?_
                    · intro h305
                      refine n_iinc (L2 := [some (2, 3), some (2, 1), some (0, (((0 + 1) + 1) + 1)), some (0, (((((0 + 1) + 1) + 1) + 1) + 1))]) c_111_28 rfl rfl rfl (n_goto c_111_31 (n_iload_n c_111_9 rfl (n_aload_n c_111_10 rfl (n_alen c_111_11 sc_1.n rfl ?_))))
                      refine n_if2_ge c_111_12 (by omega) (by omega) ?_ ?_
                      · intro h306
                        refine n_iload_n c_111_34 rfl ?_
                        exact n_rI c_111_35 rfl ⟨rfl, by omega, by omega⟩
                      · intro h307
                        exfalso; omega
                    · intro h308
                      refine n_iinc (L2 := [some (2, 3), some (2, 1), some (0, ((((0 + 1) + 1) + 1) + 1)), some (0, ((((0 + 1) + 1) + 1) + 1))]) c_111_25 rfl rfl rfl (n_iinc (L2 := [some (2, 3), some (2, 1), some (0, ((((0 + 1) + 1) + 1) + 1)), some (0, (((((0 + 1) + 1) + 1) + 1) + 1))]) c_111_28 rfl rfl rfl (n_goto c_111_31 (n_iload_n c_111_9 rfl (n_aload_n c_111_10 rfl (n_alen c_111_11 sc_1.n rfl ?_)))))
                      refine n_if2_ge c_111_12 (by omega) (by omega) ?_ ?_
                      · intro h309
                        refine n_iload_n c_111_34 rfl ?_
                        exact n_rI c_111_35 rfl ⟨rfl, by omega, by omega⟩
                      · intro h310
                        exfalso; omega
            · intro h311
              refine n_iinc (L2 := [some (2, 3), some (2, 1), some (0, (((0 + 1) + 1) + 1)), some (0, ((0 + 1) + 1))]) c_111_25 rfl rfl rfl (n_iinc (L2 := [some (2, 3), some (2, 1), some (0, (((0 + 1) + 1) + 1)), some (0, (((0 + 1) + 1) + 1))]) c_111_28 rfl rfl rfl (n_goto c_111_31 (n_iload_n c_111_9 rfl (n_aload_n c_111_10 rfl (n_alen c_111_11 sc_1.n rfl ?_)))))
              refine n_if2_ge c_111_12 (by omega) (by omega) ?_ ?_
              · intro h312
                exfalso; omega
              · intro h313
                refine n_aload_n c_111_15 rfl (n_aload_n c_111_16 rfl (n_iload_n c_111_17 rfl (n_ialoadV c_111_18 sc_1.n rfl rfl rfl (by omega) (t_1_3 hS) ?_)))
                intro z314 ez314 f315
                have hcst : (z314 : Int) = 32 := by omega
                rw [hcst]
                refine n_v1I c_111_19 rfl sc_3.n rfl rfl rfl rfl (aakpX32_3  hS ) ?_
                intro z316 M317 hP318
                obtain ⟨eM, f318, f318p0⟩ := hP318
                subst eM
                refine n_if0_eq c_111_22 (by omega) ?_ ?_
                · intro h319
                  refine n_iinc (L2 := [some (2, 3), some (2, 1), some (0, (((0 + 1) + 1) + 1)), some (0, ((((0 + 1) + 1) + 1) + 1))]) c_111_28 rfl rfl rfl (n_goto c_111_31 (n_iload_n c_111_9 rfl (n_aload_n c_111_10 rfl (n_alen c_111_11 sc_1.n rfl ?_))))
                  refine n_if2_ge c_111_12 (by omega) (by omega) ?_ ?_
                  · intro h320
                    exfalso; omega
                  · intro h321
                    refine n_aload_n c_111_15 rfl (n_aload_n c_111_16 rfl (n_iload_n c_111_17 rfl (n_ialoadV c_111_18 sc_1.n rfl rfl rfl (by omega) (t_1_4 hS) ?_)))
                    intro z322 ez322 f323
                    have hcst : (z322 : Int) = 36 := by omega
                    rw [hcst]
                    refine n_v1I c_111_19 rfl sc_3.n rfl rfl rfl rfl (aakpX36_3  hS ) ?_
                    intro z324 M325 hP326
                    obtain ⟨eM, f326, f326p0⟩ := hP326
                    subst eM
                    refine n_if0_eq c_111_22 (by omega) ?_ ?_
                    · intro h327
                      refine n_iinc (L2 := [some (2, 3), some (2, 1), some (0, (((0 + 1) + 1) + 1)), some (0, (((((0 + 1) + 1) + 1) + 1) + 1))]) c_111_28 rfl rfl rfl (n_goto c_111_31 (n_iload_n c_111_9 rfl (n_aload_n c_111_10 rfl (n_alen c_111_11 sc_1.n rfl ?_))))
                      refine n_if2_ge c_111_12 (by omega) (by omega) ?_ ?_
                      · intro h328
                        refine n_iload_n c_111_34 rfl ?_
                        exact n_rI c_111_35 rfl ⟨rfl, by omega, by omega⟩
                      · intro h329
                        exfalso; omega
                    · intro h330
                      refine n_iinc (L2 := [some (2, 3), some (2, 1), some (0, ((((0 + 1) + 1) + 1) + 1)), some (0, ((((0 + 1) + 1) + 1) + 1))]) c_111_25 rfl rfl rfl (n_iinc (L2 := [some (2, 3), some (2, 1), some (0, ((((0 + 1) + 1) + 1) + 1)), some (0, (((((0 + 1) + 1) + 1) + 1) + 1))]) c_111_28 rfl rfl rfl (n_goto c_111_31 (n_iload_n c_111_9 rfl (n_aload_n c_111_10 rfl (n_alen c_111_11 sc_1.n rfl ?_)))))
                      refine n_if2_ge c_111_12 (by omega) (by omega) ?_ ?_
                      · intro h331
                        refine n_iload_n c_111_34 rfl ?_
                        exact n_rI c_111_35 rfl ⟨rfl, by omega, by omega⟩
                      · intro h332
                        exfalso; omega
                · intro h333
                  refine n_iinc (L2 := [some (2, 3), some (2, 1), some (0, ((((0 + 1) + 1) + 1) + 1)), some (0, (((0 + 1) + 1) + 1))]) c_111_25 rfl rfl rfl (n_iinc (L2 := [some (2, 3), some (2, 1), some (0, ((((0 + 1) + 1) + 1) + 1)), some (0, ((((0 + 1) + 1) + 1) + 1))]) c_111_28 rfl rfl rfl (n_goto c_111_31 (n_iload_n c_111_9 rfl (n_aload_n c_111_10 rfl (n_alen c_111_11 sc_1.n rfl ?_)))))
                  refine n_if2_ge c_111_12 (by omega) (by omega) ?_ ?_
                  · intro h334
                    exfalso; omega
                  · intro h335
                    refine n_aload_n c_111_15 rfl (n_aload_n c_111_16 rfl (n_iload_n c_111_17 rfl (n_ialoadV c_111_18 sc_1.n rfl rfl rfl (by omega) (t_1_4 hS) ?_)))
                    intro z336 ez336 f337
                    have hcst : (z336 : Int) = 36 := by omega
                    rw [hcst]
                    refine n_v1I c_111_19 rfl sc_3.n rfl rfl rfl rfl (aakpX36_3  hS ) ?_
                    intro z338 M339 hP340
                    obtain ⟨eM, f340, f340p0⟩ := hP340
                    subst eM
                    refine n_if0_eq c_111_22 (by omega) ?_ ?_
                    · intro h341
                      refine n_iinc (L2 := [some (2, 3), some (2, 1), some (0, ((((0 + 1) + 1) + 1) + 1)), some (0, (((((0 + 1) + 1) + 1) + 1) + 1))]) c_111_28 rfl rfl rfl (n_goto c_111_31 (n_iload_n c_111_9 rfl (n_aload_n c_111_10 rfl (n_alen c_111_11 sc_1.n rfl ?_))))
                      refine n_if2_ge c_111_12 (by omega) (by omega) ?_ ?_
                      · intro h342
                        refine n_iload_n c_111_34 rfl ?_
                        exact n_rI c_111_35 rfl ⟨rfl, by omega, by omega⟩
                      · intro h343
                        exfalso; omega
                    · intro h344
                      refine n_iinc (L2 := [some (2, 3), some (2, 1), some (0, (((((0 + 1) + 1) + 1) + 1) + 1)), some (0, ((((0 + 1) + 1) + 1) + 1))]) c_111_25 rfl rfl rfl (n_iinc (L2 := [some (2, 3), some (2, 1), some (0, (((((0 + 1) + 1) + 1) + 1) + 1)), some (0, (((((0 + 1) + 1) + 1) + 1) + 1))]) c_111_28 rfl rfl rfl (n_goto c_111_31 (n_iload_n c_111_9 rfl (n_aload_n c_111_10 rfl (n_alen c_111_11 sc_1.n rfl ?_)))))
                      refine n_if2_ge c_111_12 (by omega) (by omega) ?_ ?_
                      · intro h345
                        refine n_iload_n c_111_34 rfl ?_
                        exact n_rI c_111_35 rfl ⟨rfl, by omega, by omega⟩
                      · intro h346
                        exfalso; omega
