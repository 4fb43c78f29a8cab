/-! What the methods tell. -/
set_option maxHeartbeats 4000000 in
theorem partX0_0_2 {xs : List Int32} {e : Nat} {ac : Int} {M0 M : nM} (hS : Sf 2 ac M0 M)  : nW xs e 6 0 [some (0, 0), some (0, 0)] [] M (nPI fun z M1 => M = M1 ∧ (0 ≤ z ∧ z ≤ 0) ∧ (z = pt 0 0)) := by
  have hd : (2 : Int) = 2 ∨ (2 : Int) = 3 := by decide
  have hac := hS.2.2.2.2
  refine n_iload_n c_6_0 rfl (n_iconst c_6_1 (n_iload_n c_6_2 rfl (n_imul c_6_3 rfl (n_i_ishr (z := 0) c_6_4 (by decide) ?_))))
  refine n_iconst c_6_5 (n_i_iand (z := 0) c_6_6 (by decide) ?_)
  exact n_rI c_6_7 rfl ⟨rfl, by omega, by decide⟩

set_option maxHeartbeats 4000000 in
theorem partX0_1_2 {xs : List Int32} {e : Nat} {ac : Int} {M0 M : nM} (hS : Sf 2 ac M0 M)  : nW xs e 6 0 [some (0, 0), some (0, 1)] [] M (nPI fun z M1 => M = M1 ∧ (0 ≤ z ∧ z ≤ 0) ∧ (z = pt 0 1)) := by
  have hd : (2 : Int) = 2 ∨ (2 : Int) = 3 := by decide
  have hac := hS.2.2.2.2
  refine n_iload_n c_6_0 rfl (n_iconst c_6_1 (n_iload_n c_6_2 rfl (n_imul c_6_3 rfl (n_i_ishr (z := 0) c_6_4 (by decide) ?_))))
  refine n_iconst c_6_5 (n_i_iand (z := 0) c_6_6 (by decide) ?_)
  exact n_rI c_6_7 rfl ⟨rfl, by omega, by decide⟩

set_option maxHeartbeats 4000000 in
theorem partX0_2 {xs : List Int32} {e : Nat} {ac : Int} {M0 M : nM} {t : Int} (hS : Sf 2 ac M0 M) (ht : 0 ≤ t ∧ t ≤ 1) : nW xs e 6 0 [some (0, 0), some (0, t)] [] M (nPI fun z M1 => M = M1 ∧ (0 ≤ z ∧ z ≤ 1) ∧ (z = pt 0 t)) := by
  rcases (show t = 0 ∨ t = 1 by omega) with rfl | rfl
  · exact n_post (partX0_0_2 hS ) (fun w M1 h => by obtain ⟨z, rfl, h1, h2, h3⟩ := h; exact ⟨z, rfl, h1, by omega, h3⟩)
  · exact n_post (partX0_1_2 hS ) (fun w M1 h => by obtain ⟨z, rfl, h1, h2, h3⟩ := h; exact ⟨z, rfl, h1, by omega, h3⟩)

set_option maxHeartbeats 4000000 in
theorem keepsPartsX0_2_c {xs : List Int32} {e : Nat} {ac : Int} {M0 M : nM} {p : Int} (hS : Sf 2 ac M0 M) (hp : ActAt p) (hpl : p < 55 + 3 * ac) : ∀ nn : Nat, (∀ (x3 : Int), (0 ≤ x3 ∧ x3 ≤ 8) → (PPx 2 (fun i => M (p + 1) i) 0 x3) → (8 - x3) * 1 + 1 < (nn : Int) → nW xs (e + 1) 4 2 [some (2, p), some (0, 0), some (2, 4), some (0, x3), none] [] M (nPI fun z M1 => M = M1 ∧ (0 ≤ z ∧ z ≤ 1) ∧ (z = bb (PPx 2 (fun i => M (p + 1) i) 0 (M p 1))))) := by
  have hd : (2 : Int) = 2 ∨ (2 : Int) = 3 := by decide
  have hac := hS.2.2.2.2
  intro nn
  induction nn with
  | zero => intros; omega
  | succ nn ih =>
    intro x3 k3 v0 hnn
    refine n_iload_n c_4_2 rfl (n_aload_n c_4_3 rfl (n_getV (bi := 1) c_4_4 hp.c0.1.n rfl rfl rfl (t_actl hS hp hpl).2 ?_))
    intro z1 ez1 f2
    refine n_if2_ge c_4_7 (by omega) (by omega) ?_ ?_
    · intro h3
      refine n_iconst c_4_90 ?_
      exact n_rZ c_4_91 rfl (by omega) ⟨rfl, by omega, by exact (bb_t (fun x h0 h1 => v0 x h0 (by omega))).symm⟩
    · intro h4
      refine n_iload_n c_4_10 rfl (n_aload_n c_4_11 rfl (n_getR c_4_12 sc_4.n rfl rfl rfl r_4_2 (n_iload_n c_4_15 rfl (n_ialoadV c_4_16 sc_5.n rfl rfl rfl (by omega) (t_5d hS hd (by omega) (by omega)) ?_))))
      intro z5 ez5 f6
      have q5 := t_5e hS (i := x3) (by omega) (by omega)
      refine n_s2I c_4_17 rfl rfl rfl rfl (partX0_2 (t := z5) hS (by omega)) ?_
      intro z7 M8 hP9
      obtain ⟨eM, f9, f9p0⟩ := hP9
      subst eM
      refine n_aload_n c_4_20 rfl (n_getV (bi := 0) c_4_21 sc_4.n rfl rfl rfl (t_4_0 hS) ?_)
      intro z10 ez10 f11
      obtain rfl : z10 = 2 := by omega
      refine n_imul c_4_24 rfl (n_iload_n c_4_25 rfl (n_aload_n c_4_26 rfl (n_getR c_4_27 sc_4.n rfl rfl rfl r_4_3 (n_iload_n c_4_30 rfl (n_ialoadV c_4_31 sc_6.n rfl rfl rfl (by omega) (t_6d hS hd (by omega) (by omega)) ?_)))))
      intro z12 ez12 f13
      have q6 := t_6e hS (i := x3) (by omega) (by omega)
      refine n_s2I c_4_32 rfl rfl rfl rfl (partX0_2 (t := z12) hS (by omega)) ?_
      intro z14 M15 hP16
      obtain ⟨eM, f16, f16p0⟩ := hP16
      subst eM
      refine n_iadd c_4_35 rfl (n_istore (L2 := [some (2, p), some (0, 0), some (2, 4), some (0, x3), some (0, ((z7 * 2) + z14))]) c_4_36 rfl rfl (n_iload c_4_38 rfl (n_aload_n c_4_40 rfl (n_getV (bi := 0) c_4_41 sc_4.n rfl rfl rfl (t_4_0 hS) ?_))))
      intro z17 ez17 f18
      obtain rfl : z17 = 2 := by omega
      refine n_imul c_4_44 rfl (n_iload_n c_4_45 rfl (n_aload_n c_4_46 rfl (n_getR c_4_47 sc_4.n rfl rfl rfl r_4_4 (n_iload_n c_4_50 rfl (n_ialoadV c_4_51 sc_7.n rfl rfl rfl (by omega) (t_7d hS hd (by omega) (by omega)) ?_)))))
      intro z19 ez19 f20
      have q7 := t_7e hS (i := x3) (by omega) (by omega)
      refine n_s2I c_4_52 rfl rfl rfl rfl (partX0_2 (t := z19) hS (by omega)) ?_
      intro z21 M22 hP23
      obtain ⟨eM, f23, f23p0⟩ := hP23
      subst eM
      refine n_iadd c_4_55 rfl (n_istore (L2 := [some (2, p), some (0, 0), some (2, 4), some (0, x3), some (0, ((((z7 * 2) + z14) * 2) + z21))]) c_4_56 rfl rfl (n_iload_n c_4_58 rfl (n_aload_n c_4_59 rfl (n_getR c_4_60 hp.c0.1.n rfl rfl rfl hp.r.1 (n_iload_n c_4_63 rfl (n_ialoadV c_4_64 hp.c0.2.1.n rfl rfl rfl (by omega) (t_actrl hS hp hpl (Or.inl rfl) (by omega) (by omega)) ?_))))))
      intro z24 ez24 f25
      refine n_s2I c_4_65 rfl rfl rfl rfl (partX0_2 (t := z24) hS (by omega)) ?_
      intro z26 M27 hP28
      obtain ⟨eM, f28, f28p0⟩ := hP28
      subst eM
      refine n_iload_n c_4_68 rfl (n_aload_n c_4_69 rfl (n_getR c_4_70 hp.c0.1.n rfl rfl rfl hp.r.1 (n_iload c_4_73 rfl (n_ialoadV c_4_75 hp.c0.2.1.n rfl rfl rfl (by omega) (t_actrl hS hp hpl (Or.inl rfl) (by omega) (by omega)) ?_))))
      intro z29 ez29 f30
      refine n_s2I c_4_76 rfl rfl rfl rfl (partX0_2 (t := z29) hS (by omega)) ?_
      intro z31 M32 hP33
      obtain ⟨eM, f33, f33p0⟩ := hP33
      subst eM
      refine n_if2_eq c_4_79 (by omega) (by omega) ?_ ?_
      · intro h34
        refine n_iinc (L2 := [some (2, p), some (0, 0), some (2, 4), some (0, (x3 + 1)), some (0, ((((z7 * 2) + z14) * 2) + z21))]) c_4_84 rfl rfl rfl (n_goto c_4_87 (n_fg (le_s (le_s (le_s (le_s (le_n le_0))))) ?_))
        exact ih _ (by omega) (by have w5 : z7 = pt 0 (x3 / (2 * 2)) := (by rw [f9p0, ez5, q5]); have w6 : z14 = pt 0 (x3 / 2 % 2) := (by rw [f16p0, ez12, q6]); have w7 : z21 = pt 0 (x3 % 2) := (by rw [f23p0, ez19, q7]); have wl : (z7 * 2 + z14) * 2 + z21 = lst 2 0 x3 := (by unfold lst; rw [w5, w6, w7]); have wa : z26 = pt 0 (M (p + 1) x3) := (by rw [f28p0, ez24]); have wb : z31 = pt 0 (M (p + 1) (lst 2 0 x3)) := (by rw [f33p0, ez29, wl]); exact PPx.step v0 (by show pt 0 (M (p + 1) x3) = pt 0 (M (p + 1) (lst 2 0 x3)); omega)) (by omega)
      · intro h35
        refine n_iconst c_4_82 ?_
        exact n_rZ c_4_83 rfl (by omega) ⟨rfl, by omega, by have w5 : z7 = pt 0 (x3 / (2 * 2)) := (by rw [f9p0, ez5, q5]); have w6 : z14 = pt 0 (x3 / 2 % 2) := (by rw [f16p0, ez12, q6]); have w7 : z21 = pt 0 (x3 % 2) := (by rw [f23p0, ez19, q7]); have wl : (z7 * 2 + z14) * 2 + z21 = lst 2 0 x3 := (by unfold lst; rw [w5, w6, w7]); have wa : z26 = pt 0 (M (p + 1) x3) := (by rw [f28p0, ez24]); have wb : z31 = pt 0 (M (p + 1) (lst 2 0 x3)) := (by rw [f33p0, ez29, wl]); exact (bb_f (fun q => by have q1 : pt 0 (M (p + 1) x3) = pt 0 (M (p + 1) (lst 2 0 x3)) := q x3 (by omega) (by omega); omega)).symm⟩
set_option maxHeartbeats 4000000 in
theorem keepsPartsX0_2 {xs : List Int32} {e : Nat} {ac : Int} {M0 M : nM} {p : Int} (hS : Sf 2 ac M0 M) (hp : ActAt p) (hpl : p < 55 + 3 * ac) : nW xs (e + 1) 4 0 [some (2, p), some (0, 0), some (2, 4), none, none] [] M (nPI fun z M1 => M = M1 ∧ (0 ≤ z ∧ z ≤ 1) ∧ (z = bb (PPx 2 (fun i => M (p + 1) i) 0 (M p 1)))) := by
  have hd : (2 : Int) = 2 ∨ (2 : Int) = 3 := by decide
  have hac := hS.2.2.2.2
  refine n_iconst c_4_0 (n_istore_n (L2 := [some (2, p), some (0, 0), some (2, 4), some (0, 0), none]) c_4_1 rfl rfl (n_fg (le_s (le_s (le_s (le_s (le_n le_0))))) ?_))
  exact (keepsPartsX0_2_c hS hp hpl 30) _ (by omega) (by exact fun x h0 h1 => by omega) (by omega)

set_option maxHeartbeats 4000000 in
theorem aakpX0_2_c {xs : List Int32} {e : Nat} {ac : Int} {M0 M : nM} (hS : Sf 2 ac M0 M)  : ∀ nn : Nat, (∀ (x2 : Int), (0 ≤ x2 ∧ x2 ≤ 8) → (∀ a : Int, 0 ≤ a → a < x2 → PPx 2 (fun i => M (55 + 3 * a + 1) i) 0 (M (55 + 3 * a) 1)) → (8 - x2) * 1 + 1 < (nn : Int) → nW xs (e + 2) 138 2 [some (2, 3), some (0, 0), some (0, x2)] [] M (nPI fun z M1 => M = M1 ∧ (0 ≤ z ∧ z ≤ 1) ∧ (z = bb (PPa 2 M 0)))) := by
  have hd : (2 : Int) = 2 ∨ (2 : Int) = 3 := by decide
  have hac := hS.2.2.2.2
  intro nn
  induction nn with
  | zero => intros; omega
  | succ nn ih =>
    intro x2 k2 v0 hnn
    refine n_iload_n c_138_2 rfl (n_aload_n c_138_3 rfl (n_getV (bi := 14) c_138_4 sc_3.n rfl rfl rfl (t_3_14x hS) ?_))
    intro z1 ez1 f2
    have f2a := t_ac hS
    refine n_if2_ge c_138_7 (by omega) (by omega) ?_ ?_
    · intro h3
      refine n_iconst c_138_35 ?_
      exact n_rZ c_138_36 rfl (by omega) ⟨rfl, by omega, by have t14 := t_ac hS; exact (bb_t (fun a h0 h1 => v0 a h0 (by omega))).symm⟩
    · intro h4
      refine n_aload_n c_138_10 rfl (n_getR c_138_11 sc_3.n rfl rfl rfl r_3_2 (n_iload_n c_138_14 rfl (n_aaload c_138_15 sc_12.n rfl rfl rfl (by omega) (r_acts _) ?_)))
      have q5 : ActAt (55 + 3 * x2) := by unfold ActAt; omega
      have q5l : (55 + 3 * x2) < 55 + 3 * ac := by omega
      refine n_iload_n c_138_16 rfl (n_aload_n c_138_17 rfl (n_getR c_138_18 sc_3.n rfl rfl rfl r_3_0 (n_v2I c_138_21 rfl q5.c0.1.n rfl rfl rfl rfl (keepsPartsX0_2 (p := (55 + 3 * x2)) hS q5 q5l) ?_)))
      intro z6 M7 hP8
      obtain ⟨eM, f8, f8p0⟩ := hP8
      subst eM
      refine n_if0_ne c_138_24 (by omega) ?_ ?_
      · intro h9
        refine n_iinc (L2 := [some (2, 3), some (0, 0), some (0, (x2 + 1))]) c_138_29 rfl rfl rfl (n_goto c_138_32 (n_fg (le_s (le_s (le_s le_0))) ?_))
        exact ih _ (by omega) (by exact fun a h0 h1 => by by_cases e : a = x2; (rw [e]; exact bb_n (by rw [← f8p0]; omega)); exact v0 a h0 (by omega)) (by omega)
      · intro h10
        refine n_iconst c_138_27 ?_
        exact n_rZ c_138_28 rfl (by omega) ⟨rfl, by omega, by have t14 := t_ac hS; exact (bb_f (fun q => bb_z (f8p0.symm.trans (by omega)) (q x2 (by omega) (by omega)))).symm⟩
set_option maxHeartbeats 4000000 in
theorem aakpX0_2 {xs : List Int32} {e : Nat} {ac : Int} {M0 M : nM} (hS : Sf 2 ac M0 M)  : nW xs (e + 2) 138 0 [some (2, 3), some (0, 0), none] [] M (nPI fun z M1 => M = M1 ∧ (0 ≤ z ∧ z ≤ 1) ∧ (z = bb (PPa 2 M 0))) := by
  have hd : (2 : Int) = 2 ∨ (2 : Int) = 3 := by decide
  have hac := hS.2.2.2.2
  refine n_iconst c_138_0 (n_istore_n (L2 := [some (2, 3), some (0, 0), some (0, 0)]) c_138_1 rfl rfl (n_fg (le_s (le_s (le_s le_0))) ?_))
  exact (aakpX0_2_c hS  30) _ (by omega) (by exact fun a h0 h1 => by omega) (by omega)

set_option maxHeartbeats 4000000 in
theorem partX4_0_2 {xs : List Int32} {e : Nat} {ac : Int} {M0 M : nM} (hS : Sf 2 ac M0 M)  : nW xs e 6 0 [some (0, 4), some (0, 0)] [] M (nPI fun z M1 => M = M1 ∧ (0 ≤ z ∧ z ≤ 0) ∧ (z = pt 4 0)) := by
  have hd : (2 : Int) = 2 ∨ (2 : Int) = 3 := by decide
  have hac := hS.2.2.2.2
  refine n_iload_n c_6_0 rfl (n_iconst c_6_1 (n_iload_n c_6_2 rfl (n_imul c_6_3 rfl (n_i_ishr (z := 4) c_6_4 (by decide) ?_))))
  refine n_iconst c_6_5 (n_i_iand (z := 0) c_6_6 (by decide) ?_)
  exact n_rI c_6_7 rfl ⟨rfl, by omega, by decide⟩

set_option maxHeartbeats 4000000 in
theorem partX4_1_2 {xs : List Int32} {e : Nat} {ac : Int} {M0 M : nM} (hS : Sf 2 ac M0 M)  : nW xs e 6 0 [some (0, 4), some (0, 1)] [] M (nPI fun z M1 => M = M1 ∧ (1 ≤ z ∧ z ≤ 1) ∧ (z = pt 4 1)) := by
  have hd : (2 : Int) = 2 ∨ (2 : Int) = 3 := by decide
  have hac := hS.2.2.2.2
  refine n_iload_n c_6_0 rfl (n_iconst c_6_1 (n_iload_n c_6_2 rfl (n_imul c_6_3 rfl (n_i_ishr (z := 1) c_6_4 (by decide) ?_))))
  refine n_iconst c_6_5 (n_i_iand (z := 1) c_6_6 (by decide) ?_)
  exact n_rI c_6_7 rfl ⟨rfl, by omega, by decide⟩

set_option maxHeartbeats 4000000 in
theorem partX4_2 {xs : List Int32} {e : Nat} {ac : Int} {M0 M : nM} {t : Int} (hS : Sf 2 ac M0 M) (ht : 0 ≤ t ∧ t ≤ 1) : nW xs e 6 0 [some (0, 4), some (0, t)] [] M (nPI fun z M1 => M = M1 ∧ (0 ≤ z ∧ z ≤ 1) ∧ (z = pt 4 t)) := by
  rcases (show t = 0 ∨ t = 1 by omega) with rfl | rfl
  · exact n_post (partX4_0_2 hS ) (fun w M1 h => by obtain ⟨z, rfl, h1, h2, h3⟩ := h; exact ⟨z, rfl, h1, by omega, h3⟩)
  · exact n_post (partX4_1_2 hS ) (fun w M1 h => by obtain ⟨z, rfl, h1, h2, h3⟩ := h; exact ⟨z, rfl, h1, by omega, h3⟩)

set_option maxHeartbeats 4000000 in
theorem keepsPartsX4_2_c {xs : List Int32} {e : Nat} {ac : Int} {M0 M : nM} {p : Int} (hS : Sf 2 ac M0 M) (hp : ActAt p) (hpl : p < 55 + 3 * ac) : ∀ nn : Nat, (∀ (x3 : Int), (0 ≤ x3 ∧ x3 ≤ 8) → (PPx 2 (fun i => M (p + 1) i) 4 x3) → (8 - x3) * 1 + 1 < (nn : Int) → nW xs (e + 1) 4 2 [some (2, p), some (0, 4), some (2, 4), some (0, x3), none] [] M (nPI fun z M1 => M = M1 ∧ (0 ≤ z ∧ z ≤ 1) ∧ (z = bb (PPx 2 (fun i => M (p + 1) i) 4 (M p 1))))) := by
  have hd : (2 : Int) = 2 ∨ (2 : Int) = 3 := by decide
  have hac := hS.2.2.2.2
  intro nn
  induction nn with
  | zero => intros; omega
  | succ nn ih =>
    intro x3 k3 v0 hnn
    refine n_iload_n c_4_2 rfl (n_aload_n c_4_3 rfl (n_getV (bi := 1) c_4_4 hp.c0.1.n rfl rfl rfl (t_actl hS hp hpl).2 ?_))
    intro z1 ez1 f2
    refine n_if2_ge c_4_7 (by omega) (by omega) ?_ ?_
    · intro h3
      refine n_iconst c_4_90 ?_
      exact n_rZ c_4_91 rfl (by omega) ⟨rfl, by omega, by exact (bb_t (fun x h0 h1 => v0 x h0 (by omega))).symm⟩
    · intro h4
      refine n_iload_n c_4_10 rfl (n_aload_n c_4_11 rfl (n_getR c_4_12 sc_4.n rfl rfl rfl r_4_2 (n_iload_n c_4_15 rfl (n_ialoadV c_4_16 sc_5.n rfl rfl rfl (by omega) (t_5d hS hd (by omega) (by omega)) ?_))))
      intro z5 ez5 f6
      have q5 := t_5e hS (i := x3) (by omega) (by omega)
      refine n_s2I c_4_17 rfl rfl rfl rfl (partX4_2 (t := z5) hS (by omega)) ?_
      intro z7 M8 hP9
      obtain ⟨eM, f9, f9p0⟩ := hP9
      subst eM
      refine n_aload_n c_4_20 rfl (n_getV (bi := 0) c_4_21 sc_4.n rfl rfl rfl (t_4_0 hS) ?_)
      intro z10 ez10 f11
      obtain rfl : z10 = 2 := by omega
      refine n_imul c_4_24 rfl (n_iload_n c_4_25 rfl (n_aload_n c_4_26 rfl (n_getR c_4_27 sc_4.n rfl rfl rfl r_4_3 (n_iload_n c_4_30 rfl (n_ialoadV c_4_31 sc_6.n rfl rfl rfl (by omega) (t_6d hS hd (by omega) (by omega)) ?_)))))
      intro z12 ez12 f13
      have q6 := t_6e hS (i := x3) (by omega) (by omega)
      refine n_s2I c_4_32 rfl rfl rfl rfl (partX4_2 (t := z12) hS (by omega)) ?_
      intro z14 M15 hP16
      obtain ⟨eM, f16, f16p0⟩ := hP16
      subst eM
      refine n_iadd c_4_35 rfl (n_istore (L2 := [some (2, p), some (0, 4), some (2, 4), some (0, x3), some (0, ((z7 * 2) + z14))]) c_4_36 rfl rfl (n_iload c_4_38 rfl (n_aload_n c_4_40 rfl (n_getV (bi := 0) c_4_41 sc_4.n rfl rfl rfl (t_4_0 hS) ?_))))
      intro z17 ez17 f18
      obtain rfl : z17 = 2 := by omega
      refine n_imul c_4_44 rfl (n_iload_n c_4_45 rfl (n_aload_n c_4_46 rfl (n_getR c_4_47 sc_4.n rfl rfl rfl r_4_4 (n_iload_n c_4_50 rfl (n_ialoadV c_4_51 sc_7.n rfl rfl rfl (by omega) (t_7d hS hd (by omega) (by omega)) ?_)))))
      intro z19 ez19 f20
      have q7 := t_7e hS (i := x3) (by omega) (by omega)
      refine n_s2I c_4_52 rfl rfl rfl rfl (partX4_2 (t := z19) hS (by omega)) ?_
      intro z21 M22 hP23
      obtain ⟨eM, f23, f23p0⟩ := hP23
      subst eM
      refine n_iadd c_4_55 rfl (n_istore (L2 := [some (2, p), some (0, 4), some (2, 4), some (0, x3), some (0, ((((z7 * 2) + z14) * 2) + z21))]) c_4_56 rfl rfl (n_iload_n c_4_58 rfl (n_aload_n c_4_59 rfl (n_getR c_4_60 hp.c0.1.n rfl rfl rfl hp.r.1 (n_iload_n c_4_63 rfl (n_ialoadV c_4_64 hp.c0.2.1.n rfl rfl rfl (by omega) (t_actrl hS hp hpl (Or.inl rfl) (by omega) (by omega)) ?_))))))
      intro z24 ez24 f25
      refine n_s2I c_4_65 rfl rfl rfl rfl (partX4_2 (t := z24) hS (by omega)) ?_
      intro z26 M27 hP28
      obtain ⟨eM, f28, f28p0⟩ := hP28
      subst eM
      refine n_iload_n c_4_68 rfl (n_aload_n c_4_69 rfl (n_getR c_4_70 hp.c0.1.n rfl rfl rfl hp.r.1 (n_iload c_4_73 rfl (n_ialoadV c_4_75 hp.c0.2.1.n rfl rfl rfl (by omega) (t_actrl hS hp hpl (Or.inl rfl) (by omega) (by omega)) ?_))))
      intro z29 ez29 f30
      refine n_s2I c_4_76 rfl rfl rfl rfl (partX4_2 (t := z29) hS (by omega)) ?_
      intro z31 M32 hP33
      obtain ⟨eM, f33, f33p0⟩ := hP33
      subst eM
      refine n_if2_eq c_4_79 (by omega) (by omega) ?_ ?_
      · intro h34
        refine n_iinc (L2 := [some (2, p), some (0, 4), some (2, 4), some (0, (x3 + 1)), some (0, ((((z7 * 2) + z14) * 2) + z21))]) c_4_84 rfl rfl rfl (n_goto c_4_87 (n_fg (le_s (le_s (le_s (le_s (le_n le_0))))) ?_))
        exact ih _ (by omega) (by have w5 : z7 = pt 4 (x3 / (2 * 2)) := (by rw [f9p0, ez5, q5]); have w6 : z14 = pt 4 (x3 / 2 % 2) := (by rw [f16p0, ez12, q6]); have w7 : z21 = pt 4 (x3 % 2) := (by rw [f23p0, ez19, q7]); have wl : (z7 * 2 + z14) * 2 + z21 = lst 2 4 x3 := (by unfold lst; rw [w5, w6, w7]); have wa : z26 = pt 4 (M (p + 1) x3) := (by rw [f28p0, ez24]); have wb : z31 = pt 4 (M (p + 1) (lst 2 4 x3)) := (by rw [f33p0, ez29, wl]); exact PPx.step v0 (by show pt 4 (M (p + 1) x3) = pt 4 (M (p + 1) (lst 2 4 x3)); omega)) (by omega)
      · intro h35
        refine n_iconst c_4_82 ?_
        exact n_rZ c_4_83 rfl (by omega) ⟨rfl, by omega, by have w5 : z7 = pt 4 (x3 / (2 * 2)) := (by rw [f9p0, ez5, q5]); have w6 : z14 = pt 4 (x3 / 2 % 2) := (by rw [f16p0, ez12, q6]); have w7 : z21 = pt 4 (x3 % 2) := (by rw [f23p0, ez19, q7]); have wl : (z7 * 2 + z14) * 2 + z21 = lst 2 4 x3 := (by unfold lst; rw [w5, w6, w7]); have wa : z26 = pt 4 (M (p + 1) x3) := (by rw [f28p0, ez24]); have wb : z31 = pt 4 (M (p + 1) (lst 2 4 x3)) := (by rw [f33p0, ez29, wl]); exact (bb_f (fun q => by have q1 : pt 4 (M (p + 1) x3) = pt 4 (M (p + 1) (lst 2 4 x3)) := q x3 (by omega) (by omega); omega)).symm⟩
set_option maxHeartbeats 4000000 in
theorem keepsPartsX4_2 {xs : List Int32} {e : Nat} {ac : Int} {M0 M : nM} {p : Int} (hS : Sf 2 ac M0 M) (hp : ActAt p) (hpl : p < 55 + 3 * ac) : nW xs (e + 1) 4 0 [some (2, p), some (0, 4), some (2, 4), none, none] [] M (nPI fun z M1 => M = M1 ∧ (0 ≤ z ∧ z ≤ 1) ∧ (z = bb (PPx 2 (fun i => M (p + 1) i) 4 (M p 1)))) := by
  have hd : (2 : Int) = 2 ∨ (2 : Int) = 3 := by decide
  have hac := hS.2.2.2.2
  refine n_iconst c_4_0 (n_istore_n (L2 := [some (2, p), some (0, 4), some (2, 4), some (0, 0), none]) c_4_1 rfl rfl (n_fg (le_s (le_s (le_s (le_s (le_n le_0))))) ?_))
  exact (keepsPartsX4_2_c hS hp hpl 30) _ (by omega) (by exact fun x h0 h1 => by omega) (by omega)

set_option maxHeartbeats 4000000 in
theorem aakpX4_2_c {xs : List Int32} {e : Nat} {ac : Int} {M0 M : nM} (hS : Sf 2 ac M0 M)  : ∀ nn : Nat, (∀ (x2 : Int), (0 ≤ x2 ∧ x2 ≤ 8) → (∀ a : Int, 0 ≤ a → a < x2 → PPx 2 (fun i => M (55 + 3 * a + 1) i) 4 (M (55 + 3 * a) 1)) → (8 - x2) * 1 + 1 < (nn : Int) → nW xs (e + 2) 138 2 [some (2, 3), some (0, 4), some (0, x2)] [] M (nPI fun z M1 => M = M1 ∧ (0 ≤ z ∧ z ≤ 1) ∧ (z = bb (PPa 2 M 4)))) := by
  have hd : (2 : Int) = 2 ∨ (2 : Int) = 3 := by decide
  have hac := hS.2.2.2.2
  intro nn
  induction nn with
  | zero => intros; omega
  | succ nn ih =>
    intro x2 k2 v0 hnn
    refine n_iload_n c_138_2 rfl (n_aload_n c_138_3 rfl (n_getV (bi := 14) c_138_4 sc_3.n rfl rfl rfl (t_3_14x hS) ?_))
    intro z1 ez1 f2
    have f2a := t_ac hS
    refine n_if2_ge c_138_7 (by omega) (by omega) ?_ ?_
    · intro h3
      refine n_iconst c_138_35 ?_
      exact n_rZ c_138_36 rfl (by omega) ⟨rfl, by omega, by have t14 := t_ac hS; exact (bb_t (fun a h0 h1 => v0 a h0 (by omega))).symm⟩
    · intro h4
      refine n_aload_n c_138_10 rfl (n_getR c_138_11 sc_3.n rfl rfl rfl r_3_2 (n_iload_n c_138_14 rfl (n_aaload c_138_15 sc_12.n rfl rfl rfl (by omega) (r_acts _) ?_)))
      have q5 : ActAt (55 + 3 * x2) := by unfold ActAt; omega
      have q5l : (55 + 3 * x2) < 55 + 3 * ac := by omega
      refine n_iload_n c_138_16 rfl (n_aload_n c_138_17 rfl (n_getR c_138_18 sc_3.n rfl rfl rfl r_3_0 (n_v2I c_138_21 rfl q5.c0.1.n rfl rfl rfl rfl (keepsPartsX4_2 (p := (55 + 3 * x2)) hS q5 q5l) ?_)))
      intro z6 M7 hP8
      obtain ⟨eM, f8, f8p0⟩ := hP8
      subst eM
      refine n_if0_ne c_138_24 (by omega) ?_ ?_
      · intro h9
        refine n_iinc (L2 := [some (2, 3), some (0, 4), some (0, (x2 + 1))]) c_138_29 rfl rfl rfl (n_goto c_138_32 (n_fg (le_s (le_s (le_s le_0))) ?_))
        exact ih _ (by omega) (by exact fun a h0 h1 => by by_cases e : a = x2; (rw [e]; exact bb_n (by rw [← f8p0]; omega)); exact v0 a h0 (by omega)) (by omega)
      · intro h10
        refine n_iconst c_138_27 ?_
        exact n_rZ c_138_28 rfl (by omega) ⟨rfl, by omega, by have t14 := t_ac hS; exact (bb_f (fun q => bb_z (f8p0.symm.trans (by omega)) (q x2 (by omega) (by omega)))).symm⟩
set_option maxHeartbeats 4000000 in
theorem aakpX4_2 {xs : List Int32} {e : Nat} {ac : Int} {M0 M : nM} (hS : Sf 2 ac M0 M)  : nW xs (e + 2) 138 0 [some (2, 3), some (0, 4), none] [] M (nPI fun z M1 => M = M1 ∧ (0 ≤ z ∧ z ≤ 1) ∧ (z = bb (PPa 2 M 4))) := by
  have hd : (2 : Int) = 2 ∨ (2 : Int) = 3 := by decide
  have hac := hS.2.2.2.2
  refine n_iconst c_138_0 (n_istore_n (L2 := [some (2, 3), some (0, 4), some (0, 0)]) c_138_1 rfl rfl (n_fg (le_s (le_s (le_s le_0))) ?_))
  exact (aakpX4_2_c hS  30) _ (by omega) (by exact fun a h0 h1 => by omega) (by omega)

set_option maxHeartbeats 4000000 in
theorem pairingsX_2 {xs : List Int32} {e : Nat} {ac : Int} {M0 M : nM} (hS : Sf 2 ac M0 M)  : nW xs (e + 3) 111 0 [some (2, 3), none, none, none] [] M (nPI fun z M1 => M = M1 ∧ (-2147483648 ≤ z ∧ z ≤ 2147483647) ∧ (z = bb (PPa 2 M 0) + bb (PPa 2 M 4))) := by
  have hd : (2 : Int) = 2 ∨ (2 : Int) = 3 := by decide
  have hac := hS.2.2.2.2
  refine n_aload_n c_111_0 rfl (n_v0A c_111_1 rfl sc_3.n rfl rfl rfl rfl (partings_2  hS ) ?_)
  intro z1 M2 hP3
  obtain ⟨eM, f3⟩ := hP3
  subst eM
  obtain rfl : z1 = 0 := f3
  refine n_astore_n (L2 := [some (2, 3), some (2, 0), none, none]) c_111_4 rfl rfl (n_iconst c_111_5 (n_istore_n (L2 := [some (2, 3), some (2, 0), some (0, 0), none]) c_111_6 rfl rfl (n_iconst c_111_7 (n_istore_n (L2 := [some (2, 3), some (2, 0), some (0, 0), some (0, 0)]) c_111_8 rfl rfl (n_iload_n c_111_9 rfl (n_aload_n c_111_10 rfl (n_alen c_111_11 sc_0.n rfl ?_)))))))
  refine n_if2_ge c_111_12 (by omega) (by omega) ?_ ?_
  · intro h4
    exfalso; omega
  · intro h5
    refine n_aload_n c_111_15 rfl (n_aload_n c_111_16 rfl (n_iload_n c_111_17 rfl (n_ialoadV c_111_18 sc_0.n rfl rfl rfl (by omega) (t_0_0 hS) ?_)))
    intro z6 ez6 f7
    have hcst : (z6 : Int) = 0 := by omega
    rw [hcst]
    refine n_v1I c_111_19 rfl sc_3.n rfl rfl rfl rfl (aakpX0_2  hS ) ?_
    intro z8 M9 hP10
    obtain ⟨eM, f10, f10p0⟩ := hP10
    subst eM
    refine n_if0_eq c_111_22 (by omega) ?_ ?_
    · intro h11
      refine n_iinc (L2 := [some (2, 3), some (2, 0), some (0, 0), some (0, (0 + 1))]) c_111_28 rfl rfl rfl (n_goto c_111_31 (n_iload_n c_111_9 rfl (n_aload_n c_111_10 rfl (n_alen c_111_11 sc_0.n rfl ?_))))
      refine n_if2_ge c_111_12 (by omega) (by omega) ?_ ?_
      · intro h12
        exfalso; omega
      · intro h13
        refine n_aload_n c_111_15 rfl (n_aload_n c_111_16 rfl (n_iload_n c_111_17 rfl (n_ialoadV c_111_18 sc_0.n rfl rfl rfl (by omega) (t_0_1 hS) ?_)))
        intro z14 ez14 f15
        have hcst : (z14 : Int) = 4 := by omega
        rw [hcst]
        refine n_v1I c_111_19 rfl sc_3.n rfl rfl rfl rfl (aakpX4_2  hS ) ?_
        intro z16 M17 hP18
        obtain ⟨eM, f18, f18p0⟩ := hP18
        subst eM
        refine n_if0_eq c_111_22 (by omega) ?_ ?_
        · intro h19
          refine n_iinc (L2 := [some (2, 3), some (2, 0), some (0, 0), some (0, ((0 + 1) + 1))]) c_111_28 rfl rfl rfl (n_goto c_111_31 (n_iload_n c_111_9 rfl (n_aload_n c_111_10 rfl (n_alen c_111_11 sc_0.n rfl ?_))))
          refine n_if2_ge c_111_12 (by omega) (by omega) ?_ ?_
          · intro h20
            refine n_iload_n c_111_34 rfl ?_
            exact n_rI c_111_35 rfl ⟨rfl, by omega, by omega⟩
          · intro h21
            exfalso; omega
        · intro h22
          refine n_iinc (L2 := [some (2, 3), some (2, 0), some (0, (0 + 1)), some (0, (0 + 1))]) c_111_25 rfl rfl rfl (n_iinc (L2 := [some (2, 3), some (2, 0), some (0, (0 + 1)), some (0, ((0 + 1) + 1))]) c_111_28 rfl rfl rfl (n_goto c_111_31 (n_iload_n c_111_9 rfl (n_aload_n c_111_10 rfl (n_alen c_111_11 sc_0.n rfl ?_)))))
          refine n_if2_ge c_111_12 (by omega) (by omega) ?_ ?_
          · intro h23
            refine n_iload_n c_111_34 rfl ?_
            exact n_rI c_111_35 rfl ⟨rfl, by omega, by omega⟩
          · intro h24
            exfalso; omega
    · intro h25
      refine n_iinc (L2 := [some (2, 3), some (2, 0), some (0, (0 + 1)), some (0, 0)]) c_111_25 rfl rfl rfl (n_iinc (L2 := [some (2, 3), some (2, 0), some (0, (0 + 1)), some (0, (0 + 1))]) c_111_28 rfl rfl rfl (n_goto c_111_31 (n_iload_n c_111_9 rfl (n_aload_n c_111_10 rfl (n_alen c_111_11 sc_0.n rfl ?_)))))
      refine n_if2_ge c_111_12 (by omega) (by omega) ?_ ?_
      · intro h26
        exfalso; omega
      · intro h27
        refine n_aload_n c_111_15 rfl (n_aload_n c_111_16 rfl (n_iload_n c_111_17 rfl (n_ialoadV c_111_18 sc_0.n rfl rfl rfl (by omega) (t_0_1 hS) ?_)))
        intro z28 ez28 f29
        have hcst : (z28 : Int) = 4 := by omega
        rw [hcst]
        refine n_v1I c_111_19 rfl sc_3.n rfl rfl rfl rfl (aakpX4_2  hS ) ?_
        intro z30 M31 hP32
        obtain ⟨eM, f32, f32p0⟩ := hP32
        subst eM
        refine n_if0_eq c_111_22 (by omega) ?_ ?_
        · intro h33
          refine n_iinc (L2 := [some (2, 3), some (2, 0), some (0, (0 + 1)), some (0, ((0 + 1) + 1))]) c_111_28 rfl rfl rfl (n_goto c_111_31 (n_iload_n c_111_9 rfl (n_aload_n c_111_10 rfl (n_alen c_111_11 sc_0.n rfl ?_))))
          refine n_if2_ge c_111_12 (by omega) (by omega) ?_ ?_
          · intro h34
            refine n_iload_n c_111_34 rfl ?_
            exact n_rI c_111_35 rfl ⟨rfl, by omega, by omega⟩
          · intro h35
            exfalso; omega
        · intro h36
          refine n_iinc (L2 := [some (2, 3), some (2, 0), some (0, ((0 + 1) + 1)), some (0, (0 + 1))]) c_111_25 rfl rfl rfl (n_iinc (L2 := [some (2, 3), some (2, 0), some (0, ((0 + 1) + 1)), some (0, ((0 + 1) + 1))]) c_111_28 rfl rfl rfl (n_goto c_111_31 (n_iload_n c_111_9 rfl (n_aload_n c_111_10 rfl (n_alen c_111_11 sc_0.n rfl ?_)))))
          refine n_if2_ge c_111_12 (by omega) (by omega) ?_ ?_
          · intro h37
            refine n_iload_n c_111_34 rfl ?_
            exact n_rI c_111_35 rfl ⟨rfl, by omega, by omega⟩
          · intro h38
            exfalso; omega

set_option maxHeartbeats 4000000 in
theorem pairingX_2 {xs : List Int32} {e : Nat} {ac : Int} {M0 M : nM} {i : Int} (hS : Sf 2 ac M0 M) (hi : -2147483648 ≤ i ∧ i ≤ 2147483647) : nW xs (e + 3) 112 0 [some (2, 3), some (0, i), none, none, none] [] M (nPI fun z M1 => M = M1 ∧ (-2147483648 ≤ z ∧ z ≤ 2147483647) ∧ (cPr2 i z M)) := by
  have hd : (2 : Int) = 2 ∨ (2 : Int) = 3 := by decide
  have hac := hS.2.2.2.2
  refine n_aload_n c_112_0 rfl (n_v0A c_112_1 rfl sc_3.n rfl rfl rfl rfl (partings_2  hS ) ?_)
  intro z1 M2 hP3
  obtain ⟨eM, f3⟩ := hP3
  subst eM
  obtain rfl : z1 = 0 := f3
  refine n_astore_n (L2 := [some (2, 3), some (0, i), some (2, 0), none, none]) c_112_4 rfl rfl (n_iconst c_112_5 (n_istore_n (L2 := [some (2, 3), some (0, i), some (2, 0), some (0, 0), none]) c_112_6 rfl rfl (n_iconst c_112_7 (n_istore (L2 := [some (2, 3), some (0, i), some (2, 0), some (0, 0), some (0, 0)]) c_112_8 rfl rfl (n_iload c_112_10 rfl (n_aload_n c_112_12 rfl (n_alen c_112_13 sc_0.n rfl ?_)))))))
  refine n_if2_ge c_112_14 (by omega) (by omega) ?_ ?_
  · intro h4
    exfalso; omega
  · intro h5
    refine n_aload_n c_112_17 rfl (n_aload_n c_112_18 rfl (n_iload c_112_19 rfl (n_ialoadV c_112_21 sc_0.n rfl rfl rfl (by omega) (t_0_0 hS) ?_)))
    intro z6 ez6 f7
    have hcst : (z6 : Int) = 0 := by omega
    rw [hcst]
    refine n_v1I c_112_22 rfl sc_3.n rfl rfl rfl rfl (aakpX0_2  hS ) ?_
    intro z8 M9 hP10
    obtain ⟨eM, f10, f10p0⟩ := hP10
    subst eM
    refine n_if0_eq c_112_25 (by omega) ?_ ?_
    · intro h11
      refine n_iinc (L2 := [some (2, 3), some (0, i), some (2, 0), some (0, 0), some (0, (0 + 1))]) c_112_41 rfl rfl rfl (n_goto c_112_44 (n_iload c_112_10 rfl (n_aload_n c_112_12 rfl (n_alen c_112_13 sc_0.n rfl ?_))))
      refine n_if2_ge c_112_14 (by omega) (by omega) ?_ ?_
      · intro h12
        exfalso; omega
      · intro h13
        refine n_aload_n c_112_17 rfl (n_aload_n c_112_18 rfl (n_iload c_112_19 rfl (n_ialoadV c_112_21 sc_0.n rfl rfl rfl (by omega) (t_0_1 hS) ?_)))
        intro z14 ez14 f15
        have hcst : (z14 : Int) = 4 := by omega
        rw [hcst]
        refine n_v1I c_112_22 rfl sc_3.n rfl rfl rfl rfl (aakpX4_2  hS ) ?_
        intro z16 M17 hP18
        obtain ⟨eM, f18, f18p0⟩ := hP18
        subst eM
        refine n_if0_eq c_112_25 (by omega) ?_ ?_
        · intro h19
          refine n_iinc (L2 := [some (2, 3), some (0, i), some (2, 0), some (0, 0), some (0, ((0 + 1) + 1))]) c_112_41 rfl rfl rfl (n_goto c_112_44 (n_iload c_112_10 rfl (n_aload_n c_112_12 rfl (n_alen c_112_13 sc_0.n rfl ?_))))
          refine n_if2_ge c_112_14 (by omega) (by omega) ?_ ?_
          · intro h20
            refine n_iconst c_112_47 ?_
            exact n_rI c_112_48 rfl ⟨rfl, by omega, by unfold cPr2; omega⟩
          · intro h21
            exfalso; omega
        · intro h22
          refine n_iload_n c_112_28 rfl (n_iload_n c_112_29 rfl ?_)
          refine n_if2_ne c_112_30 (by omega) (by omega) ?_ ?_
          · intro h23
            refine n_iinc (L2 := [some (2, 3), some (0, i), some (2, 0), some (0, (0 + 1)), some (0, (0 + 1))]) c_112_38 rfl rfl rfl (n_iinc (L2 := [some (2, 3), some (0, i), some (2, 0), some (0, (0 + 1)), some (0, ((0 + 1) + 1))]) c_112_41 rfl rfl rfl (n_goto c_112_44 (n_iload c_112_10 rfl (n_aload_n c_112_12 rfl (n_alen c_112_13 sc_0.n rfl ?_)))))
            refine n_if2_ge c_112_14 (by omega) (by omega) ?_ ?_
            · intro h24
              refine n_iconst c_112_47 ?_
              exact n_rI c_112_48 rfl ⟨rfl, by omega, by unfold cPr2; omega⟩
            · intro h25
              exfalso; omega
          · intro h26
            refine n_aload_n c_112_33 rfl (n_iload c_112_34 rfl (n_ialoadV c_112_36 sc_0.n rfl rfl rfl (by omega) (t_0_1 hS) ?_))
            intro z27 ez27 f28
            exact n_rI c_112_37 rfl ⟨rfl, by omega, by unfold cPr2; omega⟩
    · intro h29
      refine n_iload_n c_112_28 rfl (n_iload_n c_112_29 rfl ?_)
      refine n_if2_ne c_112_30 (by omega) (by omega) ?_ ?_
      · intro h30
        refine n_iinc (L2 := [some (2, 3), some (0, i), some (2, 0), some (0, (0 + 1)), some (0, 0)]) c_112_38 rfl rfl rfl (n_iinc (L2 := [some (2, 3), some (0, i), some (2, 0), some (0, (0 + 1)), some (0, (0 + 1))]) c_112_41 rfl rfl rfl (n_goto c_112_44 (n_iload c_112_10 rfl (n_aload_n c_112_12 rfl (n_alen c_112_13 sc_0.n rfl ?_)))))
        refine n_if2_ge c_112_14 (by omega) (by omega) ?_ ?_
        · intro h31
          exfalso; omega
        · intro h32
          refine n_aload_n c_112_17 rfl (n_aload_n c_112_18 rfl (n_iload c_112_19 rfl (n_ialoadV c_112_21 sc_0.n rfl rfl rfl (by omega) (t_0_1 hS) ?_)))
          intro z33 ez33 f34
          have hcst : (z33 : Int) = 4 := by omega
          rw [hcst]
          refine n_v1I c_112_22 rfl sc_3.n rfl rfl rfl rfl (aakpX4_2  hS ) ?_
          intro z35 M36 hP37
          obtain ⟨eM, f37, f37p0⟩ := hP37
          subst eM
          refine n_if0_eq c_112_25 (by omega) ?_ ?_
          · intro h38
            refine n_iinc (L2 := [some (2, 3), some (0, i), some (2, 0), some (0, (0 + 1)), some (0, ((0 + 1) + 1))]) c_112_41 rfl rfl rfl (n_goto c_112_44 (n_iload c_112_10 rfl (n_aload_n c_112_12 rfl (n_alen c_112_13 sc_0.n rfl ?_))))
            refine n_if2_ge c_112_14 (by omega) (by omega) ?_ ?_
            · intro h39
              refine n_iconst c_112_47 ?_
              exact n_rI c_112_48 rfl ⟨rfl, by omega, by unfold cPr2; omega⟩
            · intro h40
              exfalso; omega
          · intro h41
            refine n_iload_n c_112_28 rfl (n_iload_n c_112_29 rfl ?_)
            refine n_if2_ne c_112_30 (by omega) (by omega) ?_ ?_
            · intro h42
              refine n_iinc (L2 := [some (2, 3), some (0, i), some (2, 0), some (0, ((0 + 1) + 1)), some (0, (0 + 1))]) c_112_38 rfl rfl rfl (n_iinc (L2 := [some (2, 3), some (0, i), some (2, 0), some (0, ((0 + 1) + 1)), some (0, ((0 + 1) + 1))]) c_112_41 rfl rfl rfl (n_goto c_112_44 (n_iload c_112_10 rfl (n_aload_n c_112_12 rfl (n_alen c_112_13 sc_0.n rfl ?_)))))
              refine n_if2_ge c_112_14 (by omega) (by omega) ?_ ?_
              · intro h43
                refine n_iconst c_112_47 ?_
                exact n_rI c_112_48 rfl ⟨rfl, by omega, by unfold cPr2; omega⟩
              · intro h44
                exfalso; omega
            · intro h45
              refine n_aload_n c_112_33 rfl (n_iload c_112_34 rfl (n_ialoadV c_112_36 sc_0.n rfl rfl rfl (by omega) (t_0_1 hS) ?_))
              intro z46 ez46 f47
              exact n_rI c_112_37 rfl ⟨rfl, by omega, by unfold cPr2; omega⟩
      · intro h48
        refine n_aload_n c_112_33 rfl (n_iload c_112_34 rfl (n_ialoadV c_112_36 sc_0.n rfl rfl rfl (by omega) (t_0_0 hS) ?_))
        intro z49 ez49 f50
        exact n_rI c_112_37 rfl ⟨rfl, by omega, by unfold cPr2; omega⟩

set_option maxHeartbeats 4000000 in
theorem misPartX0_2 {xs : List Int32} {e : Nat} {ac : Int} {M0 M : nM} (hS : Sf 2 ac M0 M) (hdm : M0 112 0 = 2) : nW xs e 178 0 [some (2, 112), some (0, 0), none, none] [] M (nPI fun z M1 => M = M1 ∧ (1 ≤ z ∧ z ≤ 1)) := by
  have hd : (2 : Int) = 2 ∨ (2 : Int) = 3 := by decide
  have hac := hS.2.2.2.2
  refine n_iconst c_178_0 (n_istore_n (L2 := [some (2, 112), some (0, 0), some (0, 0), none]) c_178_1 rfl rfl (n_iload_n c_178_2 rfl (n_aload_n c_178_3 rfl (n_getV (bi := 0) c_178_4 sc_112.n rfl rfl rfl (t_dm hS hdm) ?_))))
  intro z1 ez1 f2
  obtain rfl : z1 = 2 := by omega
  refine n_if2_ge c_178_7 (by omega) (by omega) ?_ ?_
  · intro h3
    exfalso; omega
  · intro h4
    refine n_iload_n c_178_10 rfl (n_iconst c_178_11 (n_iload_n c_178_12 rfl (n_imul c_178_13 rfl (n_i_ishr (z := 0) c_178_14 (by decide) ?_))))
    refine n_iconst c_178_15 (n_i_iand (z := 0) c_178_16 (by decide) ?_)
    refine n_istore_n (L2 := [some (2, 112), some (0, 0), some (0, 0), some (0, 0)]) c_178_17 rfl rfl (n_iload_n c_178_18 rfl (n_iload_n c_178_19 rfl ?_))
    refine n_if2_gt c_178_20 (by omega) (by omega) ?_ ?_
    · intro h5
      exfalso; omega
    · intro h6
      refine n_iload_n c_178_23 rfl (n_iconst c_178_24 (n_iload_n c_178_25 rfl (n_imul c_178_26 rfl (n_i_ishr (z := 0) c_178_27 (by decide) ?_))))
      refine n_iconst c_178_28 (n_i_iand (z := 0) c_178_29 (by decide) ?_)
      refine n_iload_n c_178_30 rfl ?_
      refine n_if2_eq c_178_31 (by omega) (by omega) ?_ ?_
      · intro h7
        refine n_iinc (L2 := [some (2, 112), some (0, 0), some (0, (0 + 1)), some (0, 0)]) c_178_36 rfl rfl rfl (n_goto c_178_39 (n_iload_n c_178_2 rfl (n_aload_n c_178_3 rfl (n_getV (bi := 0) c_178_4 sc_112.n rfl rfl rfl (t_dm hS hdm) ?_))))
        intro z8 ez8 f9
        obtain rfl : z8 = 2 := by omega
        refine n_if2_ge c_178_7 (by omega) (by omega) ?_ ?_
        · intro h10
          exfalso; omega
        · intro h11
          refine n_iload_n c_178_10 rfl (n_iconst c_178_11 (n_iload_n c_178_12 rfl (n_imul c_178_13 rfl (n_i_ishr (z := 0) c_178_14 (by decide) ?_))))
          refine n_iconst c_178_15 (n_i_iand (z := 0) c_178_16 (by decide) ?_)
          refine n_istore_n (L2 := [some (2, 112), some (0, 0), some (0, (0 + 1)), some (0, 0)]) c_178_17 rfl rfl (n_iload_n c_178_18 rfl (n_iload_n c_178_19 rfl ?_))
          refine n_if2_gt c_178_20 (by omega) (by omega) ?_ ?_
          · intro h12
            exfalso; omega
          · intro h13
            refine n_iload_n c_178_23 rfl (n_iconst c_178_24 (n_iload_n c_178_25 rfl (n_imul c_178_26 rfl (n_i_ishr (z := 0) c_178_27 (by decide) ?_))))
            refine n_iconst c_178_28 (n_i_iand (z := 0) c_178_29 (by decide) ?_)
            refine n_iload_n c_178_30 rfl ?_
            refine n_if2_eq c_178_31 (by omega) (by omega) ?_ ?_
            · intro h14
              refine n_iinc (L2 := [some (2, 112), some (0, 0), some (0, ((0 + 1) + 1)), some (0, 0)]) c_178_36 rfl rfl rfl (n_goto c_178_39 (n_iload_n c_178_2 rfl (n_aload_n c_178_3 rfl (n_getV (bi := 0) c_178_4 sc_112.n rfl rfl rfl (t_dm hS hdm) ?_))))
              intro z15 ez15 f16
              obtain rfl : z15 = 2 := by omega
              refine n_if2_ge c_178_7 (by omega) (by omega) ?_ ?_
              · intro h17
                refine n_iconst c_178_42 ?_
                exact n_rZ c_178_43 rfl (by omega) ⟨rfl, by omega⟩
              · intro h18
                exfalso; omega
            · intro h19
              exfalso; omega
      · intro h20
        exfalso; omega

set_option maxHeartbeats 4000000 in
theorem misPairX0_2 {xs : List Int32} {e : Nat} {ac : Int} {M0 M : nM} (hS : Sf 2 ac M0 M) (hdm : M0 112 0 = 2) (hp : ∀ a : Int, 0 ≤ a → a < M 112 4 → 1 ≤ M 116 a) : nW xs (e + 5) 179 0 [some (2, 112), some (0, 0), none, none, none, none] [] M (nPI fun z M1 => M = M1 ∧ (0 ≤ z ∧ z ≤ 1) ∧ (z = pg2 M 0)) := by
  have hd : (2 : Int) = 2 ∨ (2 : Int) = 3 := by decide
  have hac := hS.2.2.2.2
  refine n_aload_n c_179_0 rfl (n_iload_n c_179_1 rfl (n_v1I c_179_2 rfl sc_112.n rfl rfl rfl rfl (misPartX0_2  hS hdm) ?_))
  intro z1 M2 hP3
  obtain ⟨eM, f3⟩ := hP3
  subst eM
  obtain rfl : z1 = 1 := by omega
  refine n_if0_ne c_179_5 (by omega) ?_ ?_
  · intro h4
    refine n_lconst (n := 0) c_179_10 rfl (n_lstore_n (L2 := [some (2, 112), some (0, 0), some (1, 0), none, none, none]) c_179_11 rfl rfl (n_iconst c_179_12 (n_istore (L2 := [some (2, 112), some (0, 0), some (1, 0), none, some (0, 0), none]) c_179_13 rfl rfl (n_iload c_179_15 rfl (n_aload_n c_179_17 rfl (n_getV (bi := 0) c_179_18 sc_112.n rfl rfl rfl (t_dm hS hdm) ?_))))))
    intro z5 ez5 f6
    obtain rfl : z5 = 2 := by omega
    refine n_if2_ge c_179_21 (by omega) (by omega) ?_ ?_
    · intro h7
      exfalso; omega
    · intro h8
      refine n_iconst c_179_24 (n_istore (L2 := [some (2, 112), some (0, 0), some (1, 0), none, some (0, 0), some (0, 0)]) c_179_25 rfl rfl (n_iload c_179_27 rfl (n_aload_n c_179_29 rfl (n_getV (bi := 0) c_179_30 sc_112.n rfl rfl rfl (t_dm hS hdm) ?_))))
      intro z9 ez9 f10
      obtain rfl : z9 = 2 := by omega
      refine n_if2_ge c_179_33 (by omega) (by omega) ?_ ?_
      · intro h11
        exfalso; omega
      · intro h12
        refine n_lload_n c_179_36 rfl (n_iload_n c_179_37 rfl (n_iconst c_179_38 (n_iload c_179_39 rfl (n_imul c_179_41 rfl (n_i_ishr (z := 0) c_179_42 (by decide) ?_)))))
        refine n_iconst c_179_43 (n_i_iand (z := 0) c_179_44 (by decide) ?_)
        refine n_iload_n c_179_45 rfl (n_iconst c_179_46 (n_iload c_179_47 rfl (n_imul c_179_49 rfl (n_i_ishr (z := 0) c_179_50 (by decide) ?_))))
        refine n_iconst c_179_51 (n_i_iand (z := 0) c_179_52 (by decide) ?_)
        refine n_if2_ne c_179_53 (by omega) (by omega) ?_ ?_
        · intro h13
          exfalso; omega
        · intro h14
          refine n_lconst (n := 1) c_179_56 rfl (n_iload c_179_57 rfl (n_aload_n c_179_59 rfl (n_getV (bi := 0) c_179_60 sc_112.n rfl rfl rfl (t_dm hS hdm) ?_)))
          intro z15 ez15 f16
          obtain rfl : z15 = 2 := by omega
          refine n_imul c_179_63 rfl (n_iload c_179_64 rfl (n_iadd c_179_66 rfl (n_i_lshl (z := 1) c_179_67 (by decide) ?_)))
          refine n_goto c_179_68 (n_i_lor (z := 1) c_179_72 (by decide) ?_)
          refine n_lstore_n (L2 := [some (2, 112), some (0, 0), some (1, 1), none, some (0, 0), some (0, 0)]) c_179_73 rfl rfl (n_iinc (L2 := [some (2, 112), some (0, 0), some (1, 1), none, some (0, 0), some (0, (0 + 1))]) c_179_74 rfl rfl rfl (n_goto c_179_77 (n_iload c_179_27 rfl (n_aload_n c_179_29 rfl (n_getV (bi := 0) c_179_30 sc_112.n rfl rfl rfl (t_dm hS hdm) ?_)))))
          intro z17 ez17 f18
          obtain rfl : z17 = 2 := by omega
          refine n_if2_ge c_179_33 (by omega) (by omega) ?_ ?_
          · intro h19
            exfalso; omega
          · intro h20
            refine n_lload_n c_179_36 rfl (n_iload_n c_179_37 rfl (n_iconst c_179_38 (n_iload c_179_39 rfl (n_imul c_179_41 rfl (n_i_ishr (z := 0) c_179_42 (by decide) ?_)))))
            refine n_iconst c_179_43 (n_i_iand (z := 0) c_179_44 (by decide) ?_)
            refine n_iload_n c_179_45 rfl (n_iconst c_179_46 (n_iload c_179_47 rfl (n_imul c_179_49 rfl (n_i_ishr (z := 0) c_179_50 (by decide) ?_))))
            refine n_iconst c_179_51 (n_i_iand (z := 0) c_179_52 (by decide) ?_)
            refine n_if2_ne c_179_53 (by omega) (by omega) ?_ ?_
            · intro h21
              exfalso; omega
            · intro h22
              refine n_lconst (n := 1) c_179_56 rfl (n_iload c_179_57 rfl (n_aload_n c_179_59 rfl (n_getV (bi := 0) c_179_60 sc_112.n rfl rfl rfl (t_dm hS hdm) ?_)))
              intro z23 ez23 f24
              obtain rfl : z23 = 2 := by omega
              refine n_imul c_179_63 rfl (n_iload c_179_64 rfl (n_iadd c_179_66 rfl (n_i_lshl (z := 2) c_179_67 (by decide) ?_)))
              refine n_goto c_179_68 (n_i_lor (z := 3) c_179_72 (by decide) ?_)
              refine n_lstore_n (L2 := [some (2, 112), some (0, 0), some (1, 3), none, some (0, 0), some (0, (0 + 1))]) c_179_73 rfl rfl (n_iinc (L2 := [some (2, 112), some (0, 0), some (1, 3), none, some (0, 0), some (0, ((0 + 1) + 1))]) c_179_74 rfl rfl rfl (n_goto c_179_77 (n_iload c_179_27 rfl (n_aload_n c_179_29 rfl (n_getV (bi := 0) c_179_30 sc_112.n rfl rfl rfl (t_dm hS hdm) ?_)))))
              intro z25 ez25 f26
              obtain rfl : z25 = 2 := by omega
              refine n_if2_ge c_179_33 (by omega) (by omega) ?_ ?_
              · intro h27
                refine n_iinc (L2 := [some (2, 112), some (0, 0), some (1, 3), none, some (0, (0 + 1)), some (0, ((0 + 1) + 1))]) c_179_80 rfl rfl rfl (n_goto c_179_83 (n_iload c_179_15 rfl (n_aload_n c_179_17 rfl (n_getV (bi := 0) c_179_18 sc_112.n rfl rfl rfl (t_dm hS hdm) ?_))))
                intro z28 ez28 f29
                obtain rfl : z28 = 2 := by omega
                refine n_if2_ge c_179_21 (by omega) (by omega) ?_ ?_
                · intro h30
                  exfalso; omega
                · intro h31
                  refine n_iconst c_179_24 (n_istore (L2 := [some (2, 112), some (0, 0), some (1, 3), none, some (0, (0 + 1)), some (0, 0)]) c_179_25 rfl rfl (n_iload c_179_27 rfl (n_aload_n c_179_29 rfl (n_getV (bi := 0) c_179_30 sc_112.n rfl rfl rfl (t_dm hS hdm) ?_))))
                  intro z32 ez32 f33
                  obtain rfl : z32 = 2 := by omega
                  refine n_if2_ge c_179_33 (by omega) (by omega) ?_ ?_
                  · intro h34
                    exfalso; omega
                  · intro h35
                    refine n_lload_n c_179_36 rfl (n_iload_n c_179_37 rfl (n_iconst c_179_38 (n_iload c_179_39 rfl (n_imul c_179_41 rfl (n_i_ishr (z := 0) c_179_42 (by decide) ?_)))))
                    refine n_iconst c_179_43 (n_i_iand (z := 0) c_179_44 (by decide) ?_)
                    refine n_iload_n c_179_45 rfl (n_iconst c_179_46 (n_iload c_179_47 rfl (n_imul c_179_49 rfl (n_i_ishr (z := 0) c_179_50 (by decide) ?_))))
                    refine n_iconst c_179_51 (n_i_iand (z := 0) c_179_52 (by decide) ?_)
                    refine n_if2_ne c_179_53 (by omega) (by omega) ?_ ?_
                    · intro h36
                      exfalso; omega
                    · intro h37
                      refine n_lconst (n := 1) c_179_56 rfl (n_iload c_179_57 rfl (n_aload_n c_179_59 rfl (n_getV (bi := 0) c_179_60 sc_112.n rfl rfl rfl (t_dm hS hdm) ?_)))
                      intro z38 ez38 f39
                      obtain rfl : z38 = 2 := by omega
                      refine n_imul c_179_63 rfl (n_iload c_179_64 rfl (n_iadd c_179_66 rfl (n_i_lshl (z := 4) c_179_67 (by decide) ?_)))
                      refine n_goto c_179_68 (n_i_lor (z := 7) c_179_72 (by decide) ?_)
                      refine n_lstore_n (L2 := [some (2, 112), some (0, 0), some (1, 7), none, some (0, (0 + 1)), some (0, 0)]) c_179_73 rfl rfl (n_iinc (L2 := [some (2, 112), some (0, 0), some (1, 7), none, some (0, (0 + 1)), some (0, (0 + 1))]) c_179_74 rfl rfl rfl (n_goto c_179_77 (n_iload c_179_27 rfl (n_aload_n c_179_29 rfl (n_getV (bi := 0) c_179_30 sc_112.n rfl rfl rfl (t_dm hS hdm) ?_)))))
                      intro z40 ez40 f41
                      obtain rfl : z40 = 2 := by omega
                      refine n_if2_ge c_179_33 (by omega) (by omega) ?_ ?_
                      · intro h42
                        exfalso; omega
                      · intro h43
                        refine n_lload_n c_179_36 rfl (n_iload_n c_179_37 rfl (n_iconst c_179_38 (n_iload c_179_39 rfl (n_imul c_179_41 rfl (n_i_ishr (z := 0) c_179_42 (by decide) ?_)))))
                        refine n_iconst c_179_43 (n_i_iand (z := 0) c_179_44 (by decide) ?_)
                        refine n_iload_n c_179_45 rfl (n_iconst c_179_46 (n_iload c_179_47 rfl (n_imul c_179_49 rfl (n_i_ishr (z := 0) c_179_50 (by decide) ?_))))
                        refine n_iconst c_179_51 (n_i_iand (z := 0) c_179_52 (by decide) ?_)
                        refine n_if2_ne c_179_53 (by omega) (by omega) ?_ ?_
                        · intro h44
                          exfalso; omega
                        · intro h45
                          refine n_lconst (n := 1) c_179_56 rfl (n_iload c_179_57 rfl (n_aload_n c_179_59 rfl (n_getV (bi := 0) c_179_60 sc_112.n rfl rfl rfl (t_dm hS hdm) ?_)))
                          intro z46 ez46 f47
                          obtain rfl : z46 = 2 := by omega
                          refine n_imul c_179_63 rfl (n_iload c_179_64 rfl (n_iadd c_179_66 rfl (n_i_lshl (z := 8) c_179_67 (by decide) ?_)))
                          refine n_goto c_179_68 (n_i_lor (z := 15) c_179_72 (by decide) ?_)
                          refine n_lstore_n (L2 := [some (2, 112), some (0, 0), some (1, 15), none, some (0, (0 + 1)), some (0, (0 + 1))]) c_179_73 rfl rfl (n_iinc (L2 := [some (2, 112), some (0, 0), some (1, 15), none, some (0, (0 + 1)), some (0, ((0 + 1) + 1))]) c_179_74 rfl rfl rfl (n_goto c_179_77 (n_iload c_179_27 rfl (n_aload_n c_179_29 rfl (n_getV (bi := 0) c_179_30 sc_112.n rfl rfl rfl (t_dm hS hdm) ?_)))))
                          intro z48 ez48 f49
                          obtain rfl : z48 = 2 := by omega
                          refine n_if2_ge c_179_33 (by omega) (by omega) ?_ ?_
                          · intro h50
                            refine n_iinc (L2 := [some (2, 112), some (0, 0), some (1, 15), none, some (0, ((0 + 1) + 1)), some (0, ((0 + 1) + 1))]) c_179_80 rfl rfl rfl (n_goto c_179_83 (n_iload c_179_15 rfl (n_aload_n c_179_17 rfl (n_getV (bi := 0) c_179_18 sc_112.n rfl rfl rfl (t_dm hS hdm) ?_))))
                            intro z51 ez51 f52
                            obtain rfl : z51 = 2 := by omega
                            refine n_if2_ge c_179_21 (by omega) (by omega) ?_ ?_
                            · intro h53
                              refine n_aload_n c_179_86 rfl (n_iconst c_179_87 (n_lload_n c_179_88 rfl (n_v2I c_179_89 rfl sc_112.n rfl rfl rfl rfl (mallKeepX_2 (k := 2) (s := 15) hS hdm (by omega) (by omega) (by exact hp)) ?_)))
                              intro z54 M55 hP56
                              obtain ⟨eM, f56, f56p0⟩ := hP56
                              subst eM
                              exact n_rZ c_179_92 rfl (by omega) ⟨rfl, by omega, by exact f56p0⟩
                            · intro h57
                              exfalso; omega
                          · intro h58
                            exfalso; omega
              · intro h59
                exfalso; omega
  · intro h60
    exfalso; omega

set_option maxHeartbeats 4000000 in
theorem misPartX1_2 {xs : List Int32} {e : Nat} {ac : Int} {M0 M : nM} (hS : Sf 2 ac M0 M) (hdm : M0 112 0 = 2) : nW xs e 178 0 [some (2, 112), some (0, 1), none, none] [] M (nPI fun z M1 => M = M1 ∧ (0 ≤ z ∧ z ≤ 0)) := by
  have hd : (2 : Int) = 2 ∨ (2 : Int) = 3 := by decide
  have hac := hS.2.2.2.2
  refine n_iconst c_178_0 (n_istore_n (L2 := [some (2, 112), some (0, 1), some (0, 0), none]) c_178_1 rfl rfl (n_iload_n c_178_2 rfl (n_aload_n c_178_3 rfl (n_getV (bi := 0) c_178_4 sc_112.n rfl rfl rfl (t_dm hS hdm) ?_))))
  intro z1 ez1 f2
  obtain rfl : z1 = 2 := by omega
  refine n_if2_ge c_178_7 (by omega) (by omega) ?_ ?_
  · intro h3
    exfalso; omega
  · intro h4
    refine n_iload_n c_178_10 rfl (n_iconst c_178_11 (n_iload_n c_178_12 rfl (n_imul c_178_13 rfl (n_i_ishr (z := 1) c_178_14 (by decide) ?_))))
    refine n_iconst c_178_15 (n_i_iand (z := 1) c_178_16 (by decide) ?_)
    refine n_istore_n (L2 := [some (2, 112), some (0, 1), some (0, 0), some (0, 1)]) c_178_17 rfl rfl (n_iload_n c_178_18 rfl (n_iload_n c_178_19 rfl ?_))
    refine n_if2_gt c_178_20 (by omega) (by omega) ?_ ?_
    · intro h5
      refine n_iconst c_178_34 ?_
      exact n_rZ c_178_35 rfl (by omega) ⟨rfl, by omega⟩
    · intro h6
      exfalso; omega

set_option maxHeartbeats 4000000 in
theorem misPairX1_2 {xs : List Int32} {e : Nat} {ac : Int} {M0 M : nM} (hS : Sf 2 ac M0 M) (hdm : M0 112 0 = 2) (hp : ∀ a : Int, 0 ≤ a → a < M 112 4 → 1 ≤ M 116 a) : nW xs (e + 5) 179 0 [some (2, 112), some (0, 1), none, none, none, none] [] M (nPI fun z M1 => M = M1 ∧ (0 ≤ z ∧ z ≤ 1) ∧ (z = pg2 M 1)) := by
  have hd : (2 : Int) = 2 ∨ (2 : Int) = 3 := by decide
  have hac := hS.2.2.2.2
  refine n_aload_n c_179_0 rfl (n_iload_n c_179_1 rfl (n_v1I c_179_2 rfl sc_112.n rfl rfl rfl rfl (misPartX1_2  hS hdm) ?_))
  intro z1 M2 hP3
  obtain ⟨eM, f3⟩ := hP3
  subst eM
  obtain rfl : z1 = 0 := by omega
  refine n_if0_ne c_179_5 (by omega) ?_ ?_
  · intro h4
    exfalso; omega
  · intro h5
    refine n_iconst c_179_8 ?_
    exact n_rZ c_179_9 rfl (by omega) ⟨rfl, by omega, by rfl⟩

set_option maxHeartbeats 4000000 in
theorem misPartX2_2 {xs : List Int32} {e : Nat} {ac : Int} {M0 M : nM} (hS : Sf 2 ac M0 M) (hdm : M0 112 0 = 2) : nW xs e 178 0 [some (2, 112), some (0, 2), none, none] [] M (nPI fun z M1 => M = M1 ∧ (0 ≤ z ∧ z ≤ 0)) := by
  have hd : (2 : Int) = 2 ∨ (2 : Int) = 3 := by decide
  have hac := hS.2.2.2.2
  refine n_iconst c_178_0 (n_istore_n (L2 := [some (2, 112), some (0, 2), some (0, 0), none]) c_178_1 rfl rfl (n_iload_n c_178_2 rfl (n_aload_n c_178_3 rfl (n_getV (bi := 0) c_178_4 sc_112.n rfl rfl rfl (t_dm hS hdm) ?_))))
  intro z1 ez1 f2
  obtain rfl : z1 = 2 := by omega
  refine n_if2_ge c_178_7 (by omega) (by omega) ?_ ?_
  · intro h3
    exfalso; omega
  · intro h4
    refine n_iload_n c_178_10 rfl (n_iconst c_178_11 (n_iload_n c_178_12 rfl (n_imul c_178_13 rfl (n_i_ishr (z := 2) c_178_14 (by decide) ?_))))
    refine n_iconst c_178_15 (n_i_iand (z := 2) c_178_16 (by decide) ?_)
    refine n_istore_n (L2 := [some (2, 112), some (0, 2), some (0, 0), some (0, 2)]) c_178_17 rfl rfl (n_iload_n c_178_18 rfl (n_iload_n c_178_19 rfl ?_))
    refine n_if2_gt c_178_20 (by omega) (by omega) ?_ ?_
    · intro h5
      refine n_iconst c_178_34 ?_
      exact n_rZ c_178_35 rfl (by omega) ⟨rfl, by omega⟩
    · intro h6
      exfalso; omega

set_option maxHeartbeats 4000000 in
theorem misPairX2_2 {xs : List Int32} {e : Nat} {ac : Int} {M0 M : nM} (hS : Sf 2 ac M0 M) (hdm : M0 112 0 = 2) (hp : ∀ a : Int, 0 ≤ a → a < M 112 4 → 1 ≤ M 116 a) : nW xs (e + 5) 179 0 [some (2, 112), some (0, 2), none, none, none, none] [] M (nPI fun z M1 => M = M1 ∧ (0 ≤ z ∧ z ≤ 1) ∧ (z = pg2 M 2)) := by
  have hd : (2 : Int) = 2 ∨ (2 : Int) = 3 := by decide
  have hac := hS.2.2.2.2
  refine n_aload_n c_179_0 rfl (n_iload_n c_179_1 rfl (n_v1I c_179_2 rfl sc_112.n rfl rfl rfl rfl (misPartX2_2  hS hdm) ?_))
  intro z1 M2 hP3
  obtain ⟨eM, f3⟩ := hP3
  subst eM
  obtain rfl : z1 = 0 := by omega
  refine n_if0_ne c_179_5 (by omega) ?_ ?_
  · intro h4
    exfalso; omega
  · intro h5
    refine n_iconst c_179_8 ?_
    exact n_rZ c_179_9 rfl (by omega) ⟨rfl, by omega, by rfl⟩

set_option maxHeartbeats 4000000 in
theorem misPartX3_2 {xs : List Int32} {e : Nat} {ac : Int} {M0 M : nM} (hS : Sf 2 ac M0 M) (hdm : M0 112 0 = 2) : nW xs e 178 0 [some (2, 112), some (0, 3), none, none] [] M (nPI fun z M1 => M = M1 ∧ (0 ≤ z ∧ z ≤ 0)) := by
  have hd : (2 : Int) = 2 ∨ (2 : Int) = 3 := by decide
  have hac := hS.2.2.2.2
  refine n_iconst c_178_0 (n_istore_n (L2 := [some (2, 112), some (0, 3), some (0, 0), none]) c_178_1 rfl rfl (n_iload_n c_178_2 rfl (n_aload_n c_178_3 rfl (n_getV (bi := 0) c_178_4 sc_112.n rfl rfl rfl (t_dm hS hdm) ?_))))
  intro z1 ez1 f2
  obtain rfl : z1 = 2 := by omega
  refine n_if2_ge c_178_7 (by omega) (by omega) ?_ ?_
  · intro h3
    exfalso; omega
  · intro h4
    refine n_iload_n c_178_10 rfl (n_iconst c_178_11 (n_iload_n c_178_12 rfl (n_imul c_178_13 rfl (n_i_ishr (z := 3) c_178_14 (by decide) ?_))))
    refine n_iconst c_178_15 (n_i_iand (z := 3) c_178_16 (by decide) ?_)
    refine n_istore_n (L2 := [some (2, 112), some (0, 3), some (0, 0), some (0, 3)]) c_178_17 rfl rfl (n_iload_n c_178_18 rfl (n_iload_n c_178_19 rfl ?_))
    refine n_if2_gt c_178_20 (by omega) (by omega) ?_ ?_
    · intro h5
      refine n_iconst c_178_34 ?_
      exact n_rZ c_178_35 rfl (by omega) ⟨rfl, by omega⟩
    · intro h6
      exfalso; omega

set_option maxHeartbeats 4000000 in
theorem misPairX3_2 {xs : List Int32} {e : Nat} {ac : Int} {M0 M : nM} (hS : Sf 2 ac M0 M) (hdm : M0 112 0 = 2) (hp : ∀ a : Int, 0 ≤ a → a < M 112 4 → 1 ≤ M 116 a) : nW xs (e + 5) 179 0 [some (2, 112), some (0, 3), none, none, none, none] [] M (nPI fun z M1 => M = M1 ∧ (0 ≤ z ∧ z ≤ 1) ∧ (z = pg2 M 3)) := by
  have hd : (2 : Int) = 2 ∨ (2 : Int) = 3 := by decide
  have hac := hS.2.2.2.2
  refine n_aload_n c_179_0 rfl (n_iload_n c_179_1 rfl (n_v1I c_179_2 rfl sc_112.n rfl rfl rfl rfl (misPartX3_2  hS hdm) ?_))
  intro z1 M2 hP3
  obtain ⟨eM, f3⟩ := hP3
  subst eM
  obtain rfl : z1 = 0 := by omega
  refine n_if0_ne c_179_5 (by omega) ?_ ?_
  · intro h4
    exfalso; omega
  · intro h5
    refine n_iconst c_179_8 ?_
    exact n_rZ c_179_9 rfl (by omega) ⟨rfl, by omega, by rfl⟩

set_option maxHeartbeats 4000000 in
theorem misPartX4_2 {xs : List Int32} {e : Nat} {ac : Int} {M0 M : nM} (hS : Sf 2 ac M0 M) (hdm : M0 112 0 = 2) : nW xs e 178 0 [some (2, 112), some (0, 4), none, none] [] M (nPI fun z M1 => M = M1 ∧ (1 ≤ z ∧ z ≤ 1)) := by
  have hd : (2 : Int) = 2 ∨ (2 : Int) = 3 := by decide
  have hac := hS.2.2.2.2
  refine n_iconst c_178_0 (n_istore_n (L2 := [some (2, 112), some (0, 4), some (0, 0), none]) c_178_1 rfl rfl (n_iload_n c_178_2 rfl (n_aload_n c_178_3 rfl (n_getV (bi := 0) c_178_4 sc_112.n rfl rfl rfl (t_dm hS hdm) ?_))))
  intro z1 ez1 f2
  obtain rfl : z1 = 2 := by omega
  refine n_if2_ge c_178_7 (by omega) (by omega) ?_ ?_
  · intro h3
    exfalso; omega
  · intro h4
    refine n_iload_n c_178_10 rfl (n_iconst c_178_11 (n_iload_n c_178_12 rfl (n_imul c_178_13 rfl (n_i_ishr (z := 4) c_178_14 (by decide) ?_))))
    refine n_iconst c_178_15 (n_i_iand (z := 0) c_178_16 (by decide) ?_)
    refine n_istore_n (L2 := [some (2, 112), some (0, 4), some (0, 0), some (0, 0)]) c_178_17 rfl rfl (n_iload_n c_178_18 rfl (n_iload_n c_178_19 rfl ?_))
    refine n_if2_gt c_178_20 (by omega) (by omega) ?_ ?_
    · intro h5
      exfalso; omega
    · intro h6
      refine n_iload_n c_178_23 rfl (n_iconst c_178_24 (n_iload_n c_178_25 rfl (n_imul c_178_26 rfl (n_i_ishr (z := 4) c_178_27 (by decide) ?_))))
      refine n_iconst c_178_28 (n_i_iand (z := 0) c_178_29 (by decide) ?_)
      refine n_iload_n c_178_30 rfl ?_
      refine n_if2_eq c_178_31 (by omega) (by omega) ?_ ?_
      · intro h7
        refine n_iinc (L2 := [some (2, 112), some (0, 4), some (0, (0 + 1)), some (0, 0)]) c_178_36 rfl rfl rfl (n_goto c_178_39 (n_iload_n c_178_2 rfl (n_aload_n c_178_3 rfl (n_getV (bi := 0) c_178_4 sc_112.n rfl rfl rfl (t_dm hS hdm) ?_))))
        intro z8 ez8 f9
        obtain rfl : z8 = 2 := by omega
        refine n_if2_ge c_178_7 (by omega) (by omega) ?_ ?_
        · intro h10
          exfalso; omega
        · intro h11
          refine n_iload_n c_178_10 rfl (n_iconst c_178_11 (n_iload_n c_178_12 rfl (n_imul c_178_13 rfl (n_i_ishr (z := 1) c_178_14 (by decide) ?_))))
          refine n_iconst c_178_15 (n_i_iand (z := 1) c_178_16 (by decide) ?_)
          refine n_istore_n (L2 := [some (2, 112), some (0, 4), some (0, (0 + 1)), some (0, 1)]) c_178_17 rfl rfl (n_iload_n c_178_18 rfl (n_iload_n c_178_19 rfl ?_))
          refine n_if2_gt c_178_20 (by omega) (by omega) ?_ ?_
          · intro h12
            exfalso; omega
          · intro h13
            refine n_iload_n c_178_23 rfl (n_iconst c_178_24 (n_iload_n c_178_25 rfl (n_imul c_178_26 rfl (n_i_ishr (z := 1) c_178_27 (by decide) ?_))))
            refine n_iconst c_178_28 (n_i_iand (z := 1) c_178_29 (by decide) ?_)
            refine n_iload_n c_178_30 rfl ?_
            refine n_if2_eq c_178_31 (by omega) (by omega) ?_ ?_
            · intro h14
              refine n_iinc (L2 := [some (2, 112), some (0, 4), some (0, ((0 + 1) + 1)), some (0, 1)]) c_178_36 rfl rfl rfl (n_goto c_178_39 (n_iload_n c_178_2 rfl (n_aload_n c_178_3 rfl (n_getV (bi := 0) c_178_4 sc_112.n rfl rfl rfl (t_dm hS hdm) ?_))))
              intro z15 ez15 f16
              obtain rfl : z15 = 2 := by omega
              refine n_if2_ge c_178_7 (by omega) (by omega) ?_ ?_
              · intro h17
                refine n_iconst c_178_42 ?_
                exact n_rZ c_178_43 rfl (by omega) ⟨rfl, by omega⟩
              · intro h18
                exfalso; omega
            · intro h19
              exfalso; omega
      · intro h20
        exfalso; omega

set_option maxHeartbeats 4000000 in
theorem misPairX4_2 {xs : List Int32} {e : Nat} {ac : Int} {M0 M : nM} (hS : Sf 2 ac M0 M) (hdm : M0 112 0 = 2) (hp : ∀ a : Int, 0 ≤ a → a < M 112 4 → 1 ≤ M 116 a) : nW xs (e + 5) 179 0 [some (2, 112), some (0, 4), none, none, none, none] [] M (nPI fun z M1 => M = M1 ∧ (0 ≤ z ∧ z ≤ 1) ∧ (z = pg2 M 4)) := by
  have hd : (2 : Int) = 2 ∨ (2 : Int) = 3 := by decide
  have hac := hS.2.2.2.2
  refine n_aload_n c_179_0 rfl (n_iload_n c_179_1 rfl (n_v1I c_179_2 rfl sc_112.n rfl rfl rfl rfl (misPartX4_2  hS hdm) ?_))
  intro z1 M2 hP3
  obtain ⟨eM, f3⟩ := hP3
  subst eM
  obtain rfl : z1 = 1 := by omega
  refine n_if0_ne c_179_5 (by omega) ?_ ?_
  · intro h4
    refine n_lconst (n := 0) c_179_10 rfl (n_lstore_n (L2 := [some (2, 112), some (0, 4), some (1, 0), none, none, none]) c_179_11 rfl rfl (n_iconst c_179_12 (n_istore (L2 := [some (2, 112), some (0, 4), some (1, 0), none, some (0, 0), none]) c_179_13 rfl rfl (n_iload c_179_15 rfl (n_aload_n c_179_17 rfl (n_getV (bi := 0) c_179_18 sc_112.n rfl rfl rfl (t_dm hS hdm) ?_))))))
    intro z5 ez5 f6
    obtain rfl : z5 = 2 := by omega
    refine n_if2_ge c_179_21 (by omega) (by omega) ?_ ?_
    · intro h7
      exfalso; omega
    · intro h8
      refine n_iconst c_179_24 (n_istore (L2 := [some (2, 112), some (0, 4), some (1, 0), none, some (0, 0), some (0, 0)]) c_179_25 rfl rfl (n_iload c_179_27 rfl (n_aload_n c_179_29 rfl (n_getV (bi := 0) c_179_30 sc_112.n rfl rfl rfl (t_dm hS hdm) ?_))))
      intro z9 ez9 f10
      obtain rfl : z9 = 2 := by omega
      refine n_if2_ge c_179_33 (by omega) (by omega) ?_ ?_
      · intro h11
        exfalso; omega
      · intro h12
        refine n_lload_n c_179_36 rfl (n_iload_n c_179_37 rfl (n_iconst c_179_38 (n_iload c_179_39 rfl (n_imul c_179_41 rfl (n_i_ishr (z := 4) c_179_42 (by decide) ?_)))))
        refine n_iconst c_179_43 (n_i_iand (z := 0) c_179_44 (by decide) ?_)
        refine n_iload_n c_179_45 rfl (n_iconst c_179_46 (n_iload c_179_47 rfl (n_imul c_179_49 rfl (n_i_ishr (z := 4) c_179_50 (by decide) ?_))))
        refine n_iconst c_179_51 (n_i_iand (z := 0) c_179_52 (by decide) ?_)
        refine n_if2_ne c_179_53 (by omega) (by omega) ?_ ?_
        · intro h13
          exfalso; omega
        · intro h14
          refine n_lconst (n := 1) c_179_56 rfl (n_iload c_179_57 rfl (n_aload_n c_179_59 rfl (n_getV (bi := 0) c_179_60 sc_112.n rfl rfl rfl (t_dm hS hdm) ?_)))
          intro z15 ez15 f16
          obtain rfl : z15 = 2 := by omega
          refine n_imul c_179_63 rfl (n_iload c_179_64 rfl (n_iadd c_179_66 rfl (n_i_lshl (z := 1) c_179_67 (by decide) ?_)))
          refine n_goto c_179_68 (n_i_lor (z := 1) c_179_72 (by decide) ?_)
          refine n_lstore_n (L2 := [some (2, 112), some (0, 4), some (1, 1), none, some (0, 0), some (0, 0)]) c_179_73 rfl rfl (n_iinc (L2 := [some (2, 112), some (0, 4), some (1, 1), none, some (0, 0), some (0, (0 + 1))]) c_179_74 rfl rfl rfl (n_goto c_179_77 (n_iload c_179_27 rfl (n_aload_n c_179_29 rfl (n_getV (bi := 0) c_179_30 sc_112.n rfl rfl rfl (t_dm hS hdm) ?_)))))
          intro z17 ez17 f18
          obtain rfl : z17 = 2 := by omega
          refine n_if2_ge c_179_33 (by omega) (by omega) ?_ ?_
          · intro h19
            exfalso; omega
          · intro h20
            refine n_lload_n c_179_36 rfl (n_iload_n c_179_37 rfl (n_iconst c_179_38 (n_iload c_179_39 rfl (n_imul c_179_41 rfl (n_i_ishr (z := 4) c_179_42 (by decide) ?_)))))
            refine n_iconst c_179_43 (n_i_iand (z := 0) c_179_44 (by decide) ?_)
            refine n_iload_n c_179_45 rfl (n_iconst c_179_46 (n_iload c_179_47 rfl (n_imul c_179_49 rfl (n_i_ishr (z := 1) c_179_50 (by decide) ?_))))
            refine n_iconst c_179_51 (n_i_iand (z := 1) c_179_52 (by decide) ?_)
            refine n_if2_ne c_179_53 (by omega) (by omega) ?_ ?_
            · intro h21
              refine n_lconst (n := 0) c_179_71 rfl (n_i_lor (z := 1) c_179_72 (by decide) ?_)
              refine n_lstore_n (L2 := [some (2, 112), some (0, 4), some (1, 1), none, some (0, 0), some (0, (0 + 1))]) c_179_73 rfl rfl (n_iinc (L2 := [some (2, 112), some (0, 4), some (1, 1), none, some (0, 0), some (0, ((0 + 1) + 1))]) c_179_74 rfl rfl rfl (n_goto c_179_77 (n_iload c_179_27 rfl (n_aload_n c_179_29 rfl (n_getV (bi := 0) c_179_30 sc_112.n rfl rfl rfl (t_dm hS hdm) ?_)))))
              intro z22 ez22 f23
              obtain rfl : z22 = 2 := by omega
              refine n_if2_ge c_179_33 (by omega) (by omega) ?_ ?_
              · intro h24
                refine n_iinc (L2 := [some (2, 112), some (0, 4), some (1, 1), none, some (0, (0 + 1)), some (0, ((0 + 1) + 1))]) c_179_80 rfl rfl rfl (n_goto c_179_83 (n_iload c_179_15 rfl (n_aload_n c_179_17 rfl (n_getV (bi := 0) c_179_18 sc_112.n rfl rfl rfl (t_dm hS hdm) ?_))))
                intro z25 ez25 f26
                obtain rfl : z25 = 2 := by omega
                refine n_if2_ge c_179_21 (by omega) (by omega) ?_ ?_
                · intro h27
                  exfalso; omega
                · intro h28
                  refine n_iconst c_179_24 (n_istore (L2 := [some (2, 112), some (0, 4), some (1, 1), none, some (0, (0 + 1)), some (0, 0)]) c_179_25 rfl rfl (n_iload c_179_27 rfl (n_aload_n c_179_29 rfl (n_getV (bi := 0) c_179_30 sc_112.n rfl rfl rfl (t_dm hS hdm) ?_))))
                  intro z29 ez29 f30
                  obtain rfl : z29 = 2 := by omega
                  refine n_if2_ge c_179_33 (by omega) (by omega) ?_ ?_
                  · intro h31
                    exfalso; omega
                  · intro h32
                    refine n_lload_n c_179_36 rfl (n_iload_n c_179_37 rfl (n_iconst c_179_38 (n_iload c_179_39 rfl (n_imul c_179_41 rfl (n_i_ishr (z := 1) c_179_42 (by decide) ?_)))))
                    refine n_iconst c_179_43 (n_i_iand (z := 1) c_179_44 (by decide) ?_)
                    refine n_iload_n c_179_45 rfl (n_iconst c_179_46 (n_iload c_179_47 rfl (n_imul c_179_49 rfl (n_i_ishr (z := 4) c_179_50 (by decide) ?_))))
                    refine n_iconst c_179_51 (n_i_iand (z := 0) c_179_52 (by decide) ?_)
                    refine n_if2_ne c_179_53 (by omega) (by omega) ?_ ?_
                    · intro h33
                      refine n_lconst (n := 0) c_179_71 rfl (n_i_lor (z := 1) c_179_72 (by decide) ?_)
                      refine n_lstore_n (L2 := [some (2, 112), some (0, 4), some (1, 1), none, some (0, (0 + 1)), some (0, 0)]) c_179_73 rfl rfl (n_iinc (L2 := [some (2, 112), some (0, 4), some (1, 1), none, some (0, (0 + 1)), some (0, (0 + 1))]) c_179_74 rfl rfl rfl (n_goto c_179_77 (n_iload c_179_27 rfl (n_aload_n c_179_29 rfl (n_getV (bi := 0) c_179_30 sc_112.n rfl rfl rfl (t_dm hS hdm) ?_)))))
                      intro z34 ez34 f35
                      obtain rfl : z34 = 2 := by omega
                      refine n_if2_ge c_179_33 (by omega) (by omega) ?_ ?_
                      · intro h36
                        exfalso; omega
                      · intro h37
                        refine n_lload_n c_179_36 rfl (n_iload_n c_179_37 rfl (n_iconst c_179_38 (n_iload c_179_39 rfl (n_imul c_179_41 rfl (n_i_ishr (z := 1) c_179_42 (by decide) ?_)))))
                        refine n_iconst c_179_43 (n_i_iand (z := 1) c_179_44 (by decide) ?_)
                        refine n_iload_n c_179_45 rfl (n_iconst c_179_46 (n_iload c_179_47 rfl (n_imul c_179_49 rfl (n_i_ishr (z := 1) c_179_50 (by decide) ?_))))
                        refine n_iconst c_179_51 (n_i_iand (z := 1) c_179_52 (by decide) ?_)
                        refine n_if2_ne c_179_53 (by omega) (by omega) ?_ ?_
                        · intro h38
                          exfalso; omega
                        · intro h39
                          refine n_lconst (n := 1) c_179_56 rfl (n_iload c_179_57 rfl (n_aload_n c_179_59 rfl (n_getV (bi := 0) c_179_60 sc_112.n rfl rfl rfl (t_dm hS hdm) ?_)))
                          intro z40 ez40 f41
                          obtain rfl : z40 = 2 := by omega
                          refine n_imul c_179_63 rfl (n_iload c_179_64 rfl (n_iadd c_179_66 rfl (n_i_lshl (z := 8) c_179_67 (by decide) ?_)))
                          refine n_goto c_179_68 (n_i_lor (z := 9) c_179_72 (by decide) ?_)
                          refine n_lstore_n (L2 := [some (2, 112), some (0, 4), some (1, 9), none, some (0, (0 + 1)), some (0, (0 + 1))]) c_179_73 rfl rfl (n_iinc (L2 := [some (2, 112), some (0, 4), some (1, 9), none, some (0, (0 + 1)), some (0, ((0 + 1) + 1))]) c_179_74 rfl rfl rfl (n_goto c_179_77 (n_iload c_179_27 rfl (n_aload_n c_179_29 rfl (n_getV (bi := 0) c_179_30 sc_112.n rfl rfl rfl (t_dm hS hdm) ?_)))))
                          intro z42 ez42 f43
                          obtain rfl : z42 = 2 := by omega
                          refine n_if2_ge c_179_33 (by omega) (by omega) ?_ ?_
                          · intro h44
                            refine n_iinc (L2 := [some (2, 112), some (0, 4), some (1, 9), none, some (0, ((0 + 1) + 1)), some (0, ((0 + 1) + 1))]) c_179_80 rfl rfl rfl (n_goto c_179_83 (n_iload c_179_15 rfl (n_aload_n c_179_17 rfl (n_getV (bi := 0) c_179_18 sc_112.n rfl rfl rfl (t_dm hS hdm) ?_))))
                            intro z45 ez45 f46
                            obtain rfl : z45 = 2 := by omega
                            refine n_if2_ge c_179_21 (by omega) (by omega) ?_ ?_
                            · intro h47
                              refine n_aload_n c_179_86 rfl (n_iconst c_179_87 (n_lload_n c_179_88 rfl (n_v2I c_179_89 rfl sc_112.n rfl rfl rfl rfl (mallKeepX_2 (k := 2) (s := 9) hS hdm (by omega) (by omega) (by exact hp)) ?_)))
                              intro z48 M49 hP50
                              obtain ⟨eM, f50, f50p0⟩ := hP50
                              subst eM
                              exact n_rZ c_179_92 rfl (by omega) ⟨rfl, by omega, by exact f50p0⟩
                            · intro h51
                              exfalso; omega
                          · intro h52
                            exfalso; omega
                    · intro h53
                      exfalso; omega
              · intro h54
                exfalso; omega
            · intro h55
              exfalso; omega
  · intro h56
    exfalso; omega

set_option maxHeartbeats 4000000 in
theorem misPartX5_2 {xs : List Int32} {e : Nat} {ac : Int} {M0 M : nM} (hS : Sf 2 ac M0 M) (hdm : M0 112 0 = 2) : nW xs e 178 0 [some (2, 112), some (0, 5), none, none] [] M (nPI fun z M1 => M = M1 ∧ (0 ≤ z ∧ z ≤ 0)) := by
  have hd : (2 : Int) = 2 ∨ (2 : Int) = 3 := by decide
  have hac := hS.2.2.2.2
  refine n_iconst c_178_0 (n_istore_n (L2 := [some (2, 112), some (0, 5), some (0, 0), none]) c_178_1 rfl rfl (n_iload_n c_178_2 rfl (n_aload_n c_178_3 rfl (n_getV (bi := 0) c_178_4 sc_112.n rfl rfl rfl (t_dm hS hdm) ?_))))
  intro z1 ez1 f2
  obtain rfl : z1 = 2 := by omega
  refine n_if2_ge c_178_7 (by omega) (by omega) ?_ ?_
  · intro h3
    exfalso; omega
  · intro h4
    refine n_iload_n c_178_10 rfl (n_iconst c_178_11 (n_iload_n c_178_12 rfl (n_imul c_178_13 rfl (n_i_ishr (z := 5) c_178_14 (by decide) ?_))))
    refine n_iconst c_178_15 (n_i_iand (z := 1) c_178_16 (by decide) ?_)
    refine n_istore_n (L2 := [some (2, 112), some (0, 5), some (0, 0), some (0, 1)]) c_178_17 rfl rfl (n_iload_n c_178_18 rfl (n_iload_n c_178_19 rfl ?_))
    refine n_if2_gt c_178_20 (by omega) (by omega) ?_ ?_
    · intro h5
      refine n_iconst c_178_34 ?_
      exact n_rZ c_178_35 rfl (by omega) ⟨rfl, by omega⟩
    · intro h6
      exfalso; omega

set_option maxHeartbeats 4000000 in
theorem misPairX5_2 {xs : List Int32} {e : Nat} {ac : Int} {M0 M : nM} (hS : Sf 2 ac M0 M) (hdm : M0 112 0 = 2) (hp : ∀ a : Int, 0 ≤ a → a < M 112 4 → 1 ≤ M 116 a) : nW xs (e + 5) 179 0 [some (2, 112), some (0, 5), none, none, none, none] [] M (nPI fun z M1 => M = M1 ∧ (0 ≤ z ∧ z ≤ 1) ∧ (z = pg2 M 5)) := by
  have hd : (2 : Int) = 2 ∨ (2 : Int) = 3 := by decide
  have hac := hS.2.2.2.2
  refine n_aload_n c_179_0 rfl (n_iload_n c_179_1 rfl (n_v1I c_179_2 rfl sc_112.n rfl rfl rfl rfl (misPartX5_2  hS hdm) ?_))
  intro z1 M2 hP3
  obtain ⟨eM, f3⟩ := hP3
  subst eM
  obtain rfl : z1 = 0 := by omega
  refine n_if0_ne c_179_5 (by omega) ?_ ?_
  · intro h4
    exfalso; omega
  · intro h5
    refine n_iconst c_179_8 ?_
    exact n_rZ c_179_9 rfl (by omega) ⟨rfl, by omega, by rfl⟩
