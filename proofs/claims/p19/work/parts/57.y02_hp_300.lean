/-! What the methods tell. -/
set_option maxHeartbeats 4000000 in
theorem thingsOfX_3 {xs : List Int32} {e : Nat} {ac : Int} {M0 M : nM} {r p : Int} (hS : Sf 3 ac M0 M) (hr : 0 ≤ r ∧ r ≤ 26) (hp : 1 ≤ p ∧ p ≤ 3) : nW xs e 16 0 [some (2, 4), some (0, r), some (0, p), none] [] M (nPI fun z M1 => M = M1 ∧ (0 ≤ z ∧ z ≤ 7) ∧ (z = th 3 p r)) := by
  have hd : (3 : Int) = 2 ∨ (3 : Int) = 3 := by decide
  have hac := hS.2.2.2.2
  refine n_iconst c_16_0 ?_
  refine n_aload_n c_16_1 rfl ?_
  refine n_getR c_16_2 sc_4.n rfl rfl rfl r_4_4 ?_
  refine n_iload_n c_16_5 rfl ?_
  refine n_ialoadV c_16_6 sc_7.n rfl rfl rfl (by omega) (t_7d hS hd (by omega) (by omega)) ?_
  intro z1 ez1 f2
  have q7 := t_7e hS (i := r) (by omega) (by omega)
  refine n_i_ishl c_16_7 rfl ?_
  have f3 := n_shl_1 (y := z1) (a := 0) (b := 2) (by decide) (by omega)
  generalize gz4 : (n_shl 1 z1) = z4 at f3 ⊢
  refine n_istore_n (L2 := [some (2, 4), some (0, r), some (0, p), some (0, z4)]) c_16_8 rfl rfl ?_
  refine n_iload_n c_16_9 rfl ?_
  refine n_iconst c_16_10 ?_
  refine n_if2_le c_16_11 (by omega) (by omega) ?_ ?_
  · intro h5
    refine n_iload_n c_16_25 rfl ?_
    refine n_iconst c_16_26 ?_
    refine n_if2_le c_16_27 (by omega) (by omega) ?_ ?_
    · intro h6
      refine n_iload_n c_16_41 rfl ?_
      exact n_rI c_16_42 rfl ⟨rfl, by omega, by obtain rfl : p = 1 := (by omega); subst_vars; show _ = n_shl 1 (r % 3); rw [q7]⟩
    · intro h7
      exfalso; omega
  · intro h8
    refine n_iload_n c_16_14 rfl ?_
    refine n_iconst c_16_15 ?_
    refine n_aload_n c_16_16 rfl ?_
    refine n_getR c_16_17 sc_4.n rfl rfl rfl r_4_3 ?_
    refine n_iload_n c_16_20 rfl ?_
    refine n_ialoadV c_16_21 sc_6.n rfl rfl rfl (by omega) (t_6d hS hd (by omega) (by omega)) ?_
    intro z9 ez9 f10
    have q6 := t_6e hS (i := r) (by omega) (by omega)
    refine n_i_ishl c_16_22 rfl ?_
    have f11 := n_shl_1 (y := z9) (a := 0) (b := 2) (by decide) (by omega)
    generalize gz12 : (n_shl 1 z9) = z12 at f11 ⊢
    refine n_i_ior c_16_23 rfl ?_
    have f13 := n_or_k (x := z4) (y := z12) (n := 3) (by decide) (by omega) (by omega)
    generalize gz14 : (n_or z4 z12) = z14 at f13 ⊢
    refine n_istore_n (L2 := [some (2, 4), some (0, r), some (0, p), some (0, z14)]) c_16_24 rfl rfl ?_
    refine n_iload_n c_16_25 rfl ?_
    refine n_iconst c_16_26 ?_
    refine n_if2_le c_16_27 (by omega) (by omega) ?_ ?_
    · intro h15
      refine n_iload_n c_16_41 rfl ?_
      exact n_rI c_16_42 rfl ⟨rfl, by omega, by obtain rfl : p = 2 := (by omega); subst_vars; show _ = n_or (n_shl 1 (r % 3)) (n_shl 1 (r / 3 % 3)); rw [q7, q6]⟩
    · intro h16
      refine n_iload_n c_16_30 rfl ?_
      refine n_iconst c_16_31 ?_
      refine n_aload_n c_16_32 rfl ?_
      refine n_getR c_16_33 sc_4.n rfl rfl rfl r_4_2 ?_
      refine n_iload_n c_16_36 rfl ?_
      refine n_ialoadV c_16_37 sc_5.n rfl rfl rfl (by omega) (t_5d hS hd (by omega) (by omega)) ?_
      intro z17 ez17 f18
      have q5 := t_5e hS (i := r) (by omega) (by omega)
      refine n_i_ishl c_16_38 rfl ?_
      have f19 := n_shl_1 (y := z17) (a := 0) (b := 2) (by decide) (by omega)
      generalize gz20 : (n_shl 1 z17) = z20 at f19 ⊢
      refine n_i_ior c_16_39 rfl ?_
      have f21 := n_or_k (x := z14) (y := z20) (n := 3) (by decide) (by omega) (by omega)
      generalize gz22 : (n_or z14 z20) = z22 at f21 ⊢
      refine n_istore_n (L2 := [some (2, 4), some (0, r), some (0, p), some (0, z22)]) c_16_40 rfl rfl ?_
      refine n_iload_n c_16_41 rfl ?_
      exact n_rI c_16_42 rfl ⟨rfl, by omega, by obtain rfl : p = 3 := (by omega); subst_vars; show _ = n_or (n_or (n_shl 1 (r % 3)) (n_shl 1 (r / 3 % 3))) (n_shl 1 (r / (3 * 3))); rw [q7, q6, q5]⟩

set_option maxHeartbeats 4000000 in
theorem staysInX_3_c {xs : List Int32} {e : Nat} {ac : Int} {M0 M : nM} {p s : Int} (hS : Sf 3 ac M0 M) (hp : ActAt p) (hpl : p < 55 + 3 * ac) (hs : 0 ≤ s ∧ s ≤ 7) : ∀ nn : Nat, (∀ (x3 : Int), (0 ≤ x3 ∧ x3 ≤ 27) → (SIx 3 (M p 0) (fun i => M (p + 1) i) s x3) → (27 - x3) * 1 + 1 < (nn : Int) → nW xs (e + 1) 3 2 [some (2, p), some (0, s), some (2, 4), some (0, x3), none] [] M (nPI fun z M1 => M = M1 ∧ (0 ≤ z ∧ z ≤ 1) ∧ (z = bb (SIx 3 (M p 0) (fun i => M (p + 1) i) s (M p 1))))) := by
  have hd : (3 : Int) = 2 ∨ (3 : Int) = 3 := by decide
  have hac := hS.2.2.2.2
  intro nn
  induction nn with
  | zero => intros; omega
  | succ nn ih =>
    intro x3 k3 v0 hnn
    refine n_iload_n c_3_2 rfl ?_
    refine n_aload_n c_3_3 rfl ?_
    refine n_getV (bi := 1) c_3_4 hp.c0.1.n rfl rfl rfl (t_actl hS hp hpl).2 ?_
    intro z1 ez1 f2
    refine n_if2_ge c_3_7 (by omega) (by omega) ?_ ?_
    · intro h3
      refine n_iconst c_3_51 ?_
      exact n_rZ c_3_52 rfl (by omega) ⟨rfl, by omega, by exact (bb_t (fun x h0 h1 => v0 x h0 (by omega))).symm⟩
    · intro h4
      refine n_aload_n c_3_10 rfl ?_
      refine n_iload_n c_3_11 rfl ?_
      refine n_aload_n c_3_12 rfl ?_
      refine n_getV (bi := 0) c_3_13 hp.c0.1.n rfl rfl rfl (t_actl hS hp hpl).1 ?_
      intro z5 ez5 f6
      refine n_v2I c_3_16 rfl sc_4.n rfl rfl rfl rfl (thingsOfX_3 (r := x3) (p := z5) hS (by omega) (by omega)) ?_
      intro z7 M8 hP9
      obtain ⟨eM, f9, f9p0⟩ := hP9
      subst eM
      refine n_istore (L2 := [some (2, p), some (0, s), some (2, 4), some (0, x3), some (0, z7)]) c_3_19 rfl rfl ?_
      refine n_iload c_3_21 rfl ?_
      refine n_iload_n c_3_23 rfl ?_
      refine n_i_iand c_3_24 rfl ?_
      have f10 := n_and_y (x := z7) (y := s) (by omega)
      generalize gz11 : (n_and z7 s) = z11 at f10 ⊢
      refine n_iload c_3_25 rfl ?_
      refine n_if2_ne c_3_27 (by omega) (by omega) ?_ ?_
      · intro h12
        refine n_iinc (L2 := [some (2, p), some (0, s), some (2, 4), some (0, (x3 + 1)), some (0, z7)]) c_3_45 rfl rfl rfl ?_
        refine n_goto c_3_48 ?_
        refine n_fg (le_s (le_s (le_s (le_s (le_n le_0))))) ?_
        exact ih _ (by omega) (by have qi := th_in (d := 3) (m := M p 0) (s := s) (r := x3) (by decide) (by have := t_actl hS hp hpl; omega) (by omega) (by omega); have qt : z7 = th 3 (M p 0) x3 := (by have q := f9p0; subst_vars; exact q); rw [← qt, gz11] at qi; exact SIx.step v0 (fun q => by have q2 := qi.mpr q; omega)) (by omega)
      · intro h13
        refine n_iload_n c_3_30 rfl ?_
        refine n_aload_n c_3_31 rfl ?_
        refine n_getR c_3_32 hp.c0.1.n rfl rfl rfl hp.r.1 ?_
        refine n_iload_n c_3_35 rfl ?_
        refine n_ialoadV c_3_36 hp.c0.2.1.n rfl rfl rfl (by omega) (t_actrl hS hp hpl (Or.inl rfl) (by omega) (by omega)) ?_
        intro z14 ez14 f15
        refine n_i_ishr c_3_37 rfl ?_
        have f16 := n_shr_r s z14
        generalize gz17 : (n_shr s z14) = z17 at f16 ⊢
        refine n_iconst c_3_38 ?_
        refine n_i_iand c_3_39 rfl ?_
        have f18 := n_and_y (x := z17) (y := 1) (by omega)
        generalize gz19 : (n_and z17 1) = z19 at f18 ⊢
        have hb39 : z19 = s / 2 ^ (z14).toNat % 2 := by rw [← gz19, ← gz17]; exact ib_v (by omega) (by omega)
        refine n_if0_ne c_3_40 (by omega) ?_ ?_
        · intro h20
          refine n_iinc (L2 := [some (2, p), some (0, s), some (2, 4), some (0, (x3 + 1)), some (0, z7)]) c_3_45 rfl rfl rfl ?_
          refine n_goto c_3_48 ?_
          refine n_fg (le_s (le_s (le_s (le_s (le_n le_0))))) ?_
          exact ih _ (by omega) (by exact SIx.step v0 (fun _ => by show bt s (M (p + 1) x3); subst_vars; unfold bt; omega)) (by omega)
        · intro h21
          refine n_iconst c_3_43 ?_
          exact n_rZ c_3_44 rfl (by omega) ⟨rfl, by omega, by have qi := th_in (d := 3) (m := M p 0) (s := s) (r := x3) (by decide) (by have := t_actl hS hp hpl; omega) (by omega) (by omega); have qt : z7 = th 3 (M p 0) x3 := (by have q := f9p0; subst_vars; exact q); rw [← qt, gz11] at qi; exact (bb_f (fun q => by have q2 : bt s (M (p + 1) x3) := q x3 (by omega) (by omega) (qi.mp (by omega)); subst_vars; unfold bt at q2; omega)).symm⟩
set_option maxHeartbeats 4000000 in
theorem staysInX_3 {xs : List Int32} {e : Nat} {ac : Int} {M0 M : nM} {p s : Int} (hS : Sf 3 ac M0 M) (hp : ActAt p) (hpl : p < 55 + 3 * ac) (hs : 0 ≤ s ∧ s ≤ 7) : nW xs (e + 1) 3 0 [some (2, p), some (0, s), some (2, 4), none, none] [] M (nPI fun z M1 => M = M1 ∧ (0 ≤ z ∧ z ≤ 1) ∧ (z = bb (SIx 3 (M p 0) (fun i => M (p + 1) i) s (M p 1)))) := by
  have hd : (3 : Int) = 2 ∨ (3 : Int) = 3 := by decide
  have hac := hS.2.2.2.2
  refine n_iconst c_3_0 ?_
  refine n_istore_n (L2 := [some (2, p), some (0, s), some (2, 4), some (0, 0), none]) c_3_1 rfl rfl ?_
  refine n_fg (le_s (le_s (le_s (le_s (le_n le_0))))) ?_
  exact (staysInX_3_c hS hp hpl hs 68) _ (by omega) (by exact fun x h0 h1 => by omega) (by omega)

set_option maxHeartbeats 4000000 in
theorem isHeapX_3_c {xs : List Int32} {e : Nat} {ac : Int} {M0 M : nM} {s : Int} (hS : Sf 3 ac M0 M) (hs : 0 ≤ s ∧ s ≤ 7) : ∀ nn : Nat, (∀ (x2 : Int), (0 ≤ x2 ∧ x2 ≤ 8) → (∀ a : Int, 0 ≤ a → a < x2 → SIx 3 (M (55 + 3 * a) 0) (fun i => M (55 + 3 * a + 1) i) s (M (55 + 3 * a) 1)) → (8 - x2) * 1 + 1 < (nn : Int) → nW xs (e + 2) 135 2 [some (2, 3), some (0, s), some (0, x2)] [] M (nPI fun z M1 => M = M1 ∧ (0 ≤ z ∧ z ≤ 1) ∧ (z = bb (HPc 3 M s)))) := by
  have hd : (3 : Int) = 2 ∨ (3 : Int) = 3 := by decide
  have hac := hS.2.2.2.2
  intro nn
  induction nn with
  | zero => intros; omega
  | succ nn ih =>
    intro x2 k2 v0 hnn
    refine n_iload_n c_135_2 rfl ?_
    refine n_aload_n c_135_3 rfl ?_
    refine n_getV (bi := 14) c_135_4 sc_3.n rfl rfl rfl (t_3_14x hS) ?_
    intro z1 ez1 f2
    have f2a := t_ac hS
    refine n_if2_ge c_135_7 (by omega) (by omega) ?_ ?_
    · intro h3
      refine n_iconst c_135_35 ?_
      exact n_rZ c_135_36 rfl (by omega) ⟨rfl, by omega, by have t14 := t_ac hS; exact (bb_t (fun a h0 h1 => v0 a h0 (by omega))).symm⟩
    · intro h4
      refine n_aload_n c_135_10 rfl ?_
      refine n_getR c_135_11 sc_3.n rfl rfl rfl r_3_2 ?_
      refine n_iload_n c_135_14 rfl ?_
      refine n_aaload c_135_15 sc_12.n rfl rfl rfl (by omega) (r_acts _) ?_
      have q5 : ActAt (55 + 3 * x2) := by unfold ActAt; omega
      have q5l : (55 + 3 * x2) < 55 + 3 * ac := by omega
      refine n_iload_n c_135_16 rfl ?_
      refine n_aload_n c_135_17 rfl ?_
      refine n_getR c_135_18 sc_3.n rfl rfl rfl r_3_0 ?_
      refine n_v2I c_135_21 rfl q5.c0.1.n rfl rfl rfl rfl (staysInX_3 (p := (55 + 3 * x2)) (s := s) hS q5 q5l (by omega)) ?_
      intro z6 M7 hP8
      obtain ⟨eM, f8, f8p0⟩ := hP8
      subst eM
      refine n_if0_ne c_135_24 (by omega) ?_ ?_
      · intro h9
        refine n_iinc (L2 := [some (2, 3), some (0, s), some (0, (x2 + 1))]) c_135_29 rfl rfl rfl ?_
        refine n_goto c_135_32 ?_
        refine n_fg (le_s (le_s (le_s le_0))) ?_
        exact ih _ (by omega) (by exact fun a h0 h1 => by by_cases e : a = x2; (rw [e]; exact bb_n (by rw [← f8p0]; omega)); exact v0 a h0 (by omega)) (by omega)
      · intro h10
        refine n_iconst c_135_27 ?_
        exact n_rZ c_135_28 rfl (by omega) ⟨rfl, by omega, by have t14 := t_ac hS; exact (bb_f (fun q => bb_z (f8p0.symm.trans (by omega)) (q x2 (by omega) (by omega)))).symm⟩
set_option maxHeartbeats 4000000 in
theorem isHeapX_3 {xs : List Int32} {e : Nat} {ac : Int} {M0 M : nM} {s : Int} (hS : Sf 3 ac M0 M) (hs : 0 ≤ s ∧ s ≤ 7) : nW xs (e + 2) 135 0 [some (2, 3), some (0, s), none] [] M (nPI fun z M1 => M = M1 ∧ (0 ≤ z ∧ z ≤ 1) ∧ (z = bb (HPc 3 M s))) := by
  have hd : (3 : Int) = 2 ∨ (3 : Int) = 3 := by decide
  have hac := hS.2.2.2.2
  refine n_iconst c_135_0 ?_
  refine n_istore_n (L2 := [some (2, 3), some (0, s), some (0, 0)]) c_135_1 rfl rfl ?_
  refine n_fg (le_s (le_s (le_s le_0))) ?_
  exact (isHeapX_3_c hS hs 30) _ (by omega) (by exact fun a h0 h1 => by omega) (by omega)

set_option maxHeartbeats 4000000 in
theorem leastHeapX_3_c {xs : List Int32} {e : Nat} {ac : Int} {M0 M : nM} {m : Int} (hS : Sf 3 ac M0 M) (hm : 1 ≤ m ∧ m ≤ 7) : ∀ nn : Nat, (∀ (x2 x3 : Int), (7 ≤ x2 ∧ x2 ≤ 7) → (1 ≤ x3 ∧ x3 ≤ 7) → (∀ t : Int, m ≤ t → t < x3 → ¬ (n_and t m = m ∧ HPc 3 M t)) → (m ≤ x3) → (7 - x3) * 1 + 1 < (nn : Int) → nW xs (e + 3) 136 10 [some (2, 3), some (0, m), some (0, x2), some (0, x3)] [] M (nPI fun z M1 => M = M1 ∧ (1 ≤ z ∧ z ≤ 7) ∧ (m ≤ z) ∧ (∀ t : Int, m ≤ t → t < z → ¬ (n_and t m = m ∧ HPc 3 M t)) ∧ (z = 7 ∨ (n_and z m = m ∧ HPc 3 M z)))) := by
  have hd : (3 : Int) = 2 ∨ (3 : Int) = 3 := by decide
  have hac := hS.2.2.2.2
  intro nn
  induction nn with
  | zero => intros; omega
  | succ nn ih =>
    intro x2 x3 k2 k3 v0 v1 hnn
    refine n_iload_n c_136_10 rfl ?_
    refine n_iload_n c_136_11 rfl ?_
    refine n_if2_ge c_136_12 (by omega) (by omega) ?_ ?_
    · intro h1
      refine n_iload_n c_136_38 rfl ?_
      exact n_rI c_136_39 rfl ⟨rfl, by omega, by omega, by exact fun t h0 h1 => v0 t h0 (by omega), by omega⟩
    · intro h2
      refine n_iload_n c_136_15 rfl ?_
      refine n_iload_n c_136_16 rfl ?_
      refine n_i_iand c_136_17 rfl ?_
      have f3 := n_and_y (x := x3) (y := m) (by omega)
      generalize gz4 : (n_and x3 m) = z4 at f3 ⊢
      refine n_iload_n c_136_18 rfl ?_
      refine n_if2_ne c_136_19 (by omega) (by omega) ?_ ?_
      · intro h5
        refine n_iinc (L2 := [some (2, 3), some (0, m), some (0, x2), some (0, (x3 + 1))]) c_136_32 rfl rfl rfl ?_
        refine n_goto c_136_35 ?_
        refine n_fg (le_s (le_s (le_s (le_s le_0)))) ?_
        exact ih _ _ (by omega) (by omega) (by exact fun t h0 h1 q => by by_cases e : t = x3; (rw [e] at q; have q1 := q.1; omega); exact v0 t h0 (by omega) q) (by omega) (by omega)
      · intro h6
        refine n_aload_n c_136_22 rfl ?_
        refine n_iload_n c_136_23 rfl ?_
        refine n_v1I c_136_24 rfl sc_3.n rfl rfl rfl rfl (isHeapX_3 (s := x3) hS (by omega)) ?_
        intro z7 M8 hP9
        obtain ⟨eM, f9, f9p0⟩ := hP9
        subst eM
        refine n_if0_eq c_136_27 (by omega) ?_ ?_
        · intro h10
          refine n_iinc (L2 := [some (2, 3), some (0, m), some (0, x2), some (0, (x3 + 1))]) c_136_32 rfl rfl rfl ?_
          refine n_goto c_136_35 ?_
          refine n_fg (le_s (le_s (le_s (le_s le_0)))) ?_
          exact ih _ _ (by omega) (by omega) (by exact fun t h0 h1 q => by by_cases e : t = x3; (rw [e] at q; exact bb_z (f9p0.symm.trans (by omega)) q.2); exact v0 t h0 (by omega) q) (by omega) (by omega)
        · intro h11
          refine n_iload_n c_136_30 rfl ?_
          exact n_rI c_136_31 rfl ⟨rfl, by omega, by omega, by exact v0, by exact Or.inr ⟨by omega, bb_n (by rw [← f9p0]; omega)⟩⟩
set_option maxHeartbeats 4000000 in
theorem leastHeapX_3 {xs : List Int32} {e : Nat} {ac : Int} {M0 M : nM} {m : Int} (hS : Sf 3 ac M0 M) (hm : 1 ≤ m ∧ m ≤ 7) : nW xs (e + 3) 136 0 [some (2, 3), some (0, m), none, none] [] M (nPI fun z M1 => M = M1 ∧ (1 ≤ z ∧ z ≤ 7) ∧ (m ≤ z) ∧ (∀ t : Int, m ≤ t → t < z → ¬ (n_and t m = m ∧ HPc 3 M t)) ∧ (z = 7 ∨ (n_and z m = m ∧ HPc 3 M z))) := by
  have hd : (3 : Int) = 2 ∨ (3 : Int) = 3 := by decide
  have hac := hS.2.2.2.2
  refine n_aload_n c_136_0 rfl ?_
  refine n_getR c_136_1 sc_3.n rfl rfl rfl r_3_0 ?_
  refine n_v0I c_136_4 rfl sc_4.n rfl rfl rfl rfl (allThings_3  hS ) ?_
  intro z1 M2 hP3
  obtain ⟨eM, f3⟩ := hP3
  subst eM
  obtain rfl : z1 = 7 := by omega
  refine n_istore_n (L2 := [some (2, 3), some (0, m), some (0, 7), none]) c_136_7 rfl rfl ?_
  refine n_iload_n c_136_8 rfl ?_
  refine n_istore_n (L2 := [some (2, 3), some (0, m), some (0, 7), some (0, m)]) c_136_9 rfl rfl ?_
  refine n_fg (le_s (le_s (le_s (le_s le_0)))) ?_
  exact (leastHeapX_3_c hS hm 26) _ _ (by omega) (by omega) (by exact fun t h0 h1 => by omega) (by omega) (by omega)

set_option maxHeartbeats 4000000 in
theorem heapsX_3_c {xs : List Int32} {e : Nat} {ac : Int} {M0 M : nM} (hS : Sf 3 ac M0 M)  : ∀ nn : Nat, (∀ (x1 x2 : Int), (0 ≤ x1 ∧ x1 ≤ 8) → (1 ≤ x2 ∧ x2 ≤ 8) → (x1 ≤ x2) → (x1 + bb (HPc 3 M 0) = cf (fun s => bb (HPc 3 M s)) x2.toNat) → (8 - x2) * 1 + 1 < (nn : Int) → nW xs (e + 3) 109 4 [some (2, 3), some (0, x1), some (0, x2)] [] M (nPI fun z M1 => M = M1 ∧ (-2147483648 ≤ z ∧ z ≤ 2147483647) ∧ (∃ n : Nat, n = (if (3 : Int) = 2 then 4 else 8) ∧ z + bb (HPc 3 M 0) = cf (fun s => bb (HPc 3 M s)) n))) := by
  have hd : (3 : Int) = 2 ∨ (3 : Int) = 3 := by decide
  have hac := hS.2.2.2.2
  intro nn
  induction nn with
  | zero => intros; omega
  | succ nn ih =>
    intro x1 x2 k1 k2 v0 v1 hnn
    refine n_iload_n c_109_4 rfl ?_
    refine n_aload_n c_109_5 rfl ?_
    refine n_getR c_109_6 sc_3.n rfl rfl rfl r_3_0 ?_
    refine n_v0I c_109_9 rfl sc_4.n rfl rfl rfl rfl (allThings_3  hS ) ?_
    intro z1 M2 hP3
    obtain ⟨eM, f3⟩ := hP3
    subst eM
    obtain rfl : z1 = 7 := by omega
    refine n_if2_gt c_109_12 (by omega) (by omega) ?_ ?_
    · intro h4
      refine n_iload_n c_109_32 rfl ?_
      exact n_rI c_109_33 rfl ⟨rfl, by omega, by have q : x2 = 8 := (by omega); rw [q] at v1; exact ⟨8, by decide, v1⟩⟩
    · intro h5
      refine n_aload_n c_109_15 rfl ?_
      refine n_iload_n c_109_16 rfl ?_
      refine n_v1I c_109_17 rfl sc_3.n rfl rfl rfl rfl (isHeapX_3 (s := x2) hS (by omega)) ?_
      intro z6 M7 hP8
      obtain ⟨eM, f8, f8p0⟩ := hP8
      subst eM
      refine n_if0_eq c_109_20 (by omega) ?_ ?_
      · intro h9
        refine n_iinc (L2 := [some (2, 3), some (0, x1), some (0, (x2 + 1))]) c_109_26 rfl rfl rfl ?_
        refine n_goto c_109_29 ?_
        refine n_fg (le_s (le_s (le_s le_0))) ?_
        exact ih _ _ (by omega) (by omega) (by omega) (by rw [cf_step (by omega)]; have q := f8p0; show _ = _ + bb (HPc 3 M x2); omega) (by omega)
      · intro h10
        refine n_iinc (L2 := [some (2, 3), some (0, (x1 + 1)), some (0, x2)]) c_109_23 rfl rfl rfl ?_
        refine n_iinc (L2 := [some (2, 3), some (0, (x1 + 1)), some (0, (x2 + 1))]) c_109_26 rfl rfl rfl ?_
        refine n_goto c_109_29 ?_
        refine n_fg (le_s (le_s (le_s le_0))) ?_
        exact ih _ _ (by omega) (by omega) (by omega) (by rw [cf_step (by omega)]; have q := f8p0; show _ = _ + bb (HPc 3 M x2); omega) (by omega)
set_option maxHeartbeats 4000000 in
theorem heapsX_3 {xs : List Int32} {e : Nat} {ac : Int} {M0 M : nM} (hS : Sf 3 ac M0 M)  : nW xs (e + 3) 109 0 [some (2, 3), none, none] [] M (nPI fun z M1 => M = M1 ∧ (-2147483648 ≤ z ∧ z ≤ 2147483647) ∧ (∃ n : Nat, n = (if (3 : Int) = 2 then 4 else 8) ∧ z + bb (HPc 3 M 0) = cf (fun s => bb (HPc 3 M s)) n)) := by
  have hd : (3 : Int) = 2 ∨ (3 : Int) = 3 := by decide
  have hac := hS.2.2.2.2
  refine n_iconst c_109_0 ?_
  refine n_istore_n (L2 := [some (2, 3), some (0, 0), none]) c_109_1 rfl rfl ?_
  refine n_iconst c_109_2 ?_
  refine n_istore_n (L2 := [some (2, 3), some (0, 0), some (0, 1)]) c_109_3 rfl rfl ?_
  refine n_fg (le_s (le_s (le_s le_0))) ?_
  exact (heapsX_3_c hS  28) _ _ (by omega) (by omega) (by omega) (by show _ = cf _ 1; rw [cf_1]; omega) (by omega)

set_option maxHeartbeats 4000000 in
theorem heapX_3 {xs : List Int32} {e : Nat} {ac : Int} {M0 M : nM} {m : Int} (hS : Sf 3 ac M0 M) (hm : -2147483648 ≤ m ∧ m ≤ 2147483647) : nW xs (e + 4) 110 0 [some (2, 3), some (0, m)] [] M (nPI fun z M1 => M = M1 ∧ (-2147483648 ≤ z ∧ z ≤ 2147483647) ∧ (cHe 3 m z M)) := by
  have hd : (3 : Int) = 2 ∨ (3 : Int) = 3 := by decide
  have hac := hS.2.2.2.2
  refine n_iload_n c_110_0 rfl ?_
  refine n_iconst c_110_1 ?_
  refine n_if2_lt c_110_2 (by omega) (by omega) ?_ ?_
  · intro h1
    refine n_iconst c_110_16 ?_
    exact n_rI c_110_17 rfl ⟨rfl, by omega, by exact Or.inl ⟨by show m < 1 ∨ 7 < m; omega, rfl⟩⟩
  · intro h2
    refine n_iload_n c_110_5 rfl ?_
    refine n_aload_n c_110_6 rfl ?_
    refine n_getR c_110_7 sc_3.n rfl rfl rfl r_3_0 ?_
    refine n_v0I c_110_10 rfl sc_4.n rfl rfl rfl rfl (allThings_3  hS ) ?_
    intro z3 M4 hP5
    obtain ⟨eM, f5⟩ := hP5
    subst eM
    obtain rfl : z3 = 7 := by omega
    refine n_if2_le c_110_13 (by omega) (by omega) ?_ ?_
    · intro h6
      refine n_aload_n c_110_18 rfl ?_
      refine n_iload_n c_110_19 rfl ?_
      refine n_v1I c_110_20 rfl sc_3.n rfl rfl rfl rfl (leastHeapX_3 (m := m) hS (by omega)) ?_
      intro z7 M8 hP9
      obtain ⟨eM, f9, f9p0, f9p1, f9p2⟩ := hP9
      subst eM
      exact n_rI c_110_23 rfl ⟨rfl, by omega, by exact Or.inr ⟨by omega, f9p0, by show _ ≤ (7 : Int); omega, f9p1, f9p2⟩⟩
    · intro h10
      refine n_iconst c_110_16 ?_
      exact n_rI c_110_17 rfl ⟨rfl, by omega, by exact Or.inl ⟨by show m < 1 ∨ 7 < m; omega, rfl⟩⟩

set_option maxHeartbeats 4000000 in
theorem mheapsX_3_c {xs : List Int32} {e : Nat} {ac : Int} {M0 M : nM} (hS : Sf 3 ac M0 M) (hdm : M0 112 0 = 3) (hp : ∀ a : Int, 0 ≤ a → a < M 112 4 → 1 ≤ M 116 a) : ∀ nn : Nat, (∀ (x1 x2 : Int), (0 ≤ x1 ∧ x1 ≤ 8) → (1 ≤ x2 ∧ x2 ≤ 8) → (x1 ≤ x2) → (x1 + bb (AKP 3 M 1 0) = cf (fun s => bb (AKP 3 M 1 s)) x2.toNat) → (8 - x2) * 1 + 1 < (nn : Int) → nW xs (e + 5) 176 4 [some (2, 112), some (0, x1), some (0, x2)] [] M (nPI fun z M1 => M = M1 ∧ (-2147483648 ≤ z ∧ z ≤ 2147483647) ∧ (∃ n : Nat, n = (if (3 : Int) = 2 then 4 else 8) ∧ z + bb (AKP 3 M 1 0) = cf (fun s => bb (AKP 3 M 1 s)) n))) := by
  have hd : (3 : Int) = 2 ∨ (3 : Int) = 3 := by decide
  have hac := hS.2.2.2.2
  intro nn
  induction nn with
  | zero => intros; omega
  | succ nn ih =>
    intro x1 x2 k1 k2 v0 v1 hnn
    refine n_iload_n c_176_4 rfl ?_
    refine n_iconst c_176_5 ?_
    refine n_aload_n c_176_6 rfl ?_
    refine n_getV (bi := 0) c_176_7 sc_112.n rfl rfl rfl (t_dm hS hdm) ?_
    intro z1 ez1 f2
    obtain rfl : z1 = 3 := by omega
    refine n_i_ishl (z := 8) c_176_10 (by decide) ?_
    refine n_if2_ge c_176_11 (by omega) (by omega) ?_ ?_
    · intro h3
      refine n_iload_n c_176_38 rfl ?_
      exact n_rI c_176_39 rfl ⟨rfl, by omega, by have q : x2 = 8 := (by omega); rw [q] at v1; exact ⟨8, by decide, v1⟩⟩
    · intro h4
      refine n_iload_n c_176_14 rfl ?_
      refine n_aload_n c_176_15 rfl ?_
      refine n_iconst c_176_16 ?_
      refine n_iload_n c_176_17 rfl ?_
      refine n_i2l c_176_18 (by omega) ?_
      refine n_v2I c_176_19 rfl sc_112.n rfl rfl rfl rfl (mallKeepX_3 (k := 1) (s := x2) hS hdm (by omega) (by omega) (by exact hp)) ?_
      intro z5 M6 hP7
      obtain ⟨eM, f7, f7p0⟩ := hP7
      subst eM
      refine n_if0_eq c_176_22 (by omega) ?_ ?_
      · intro h8
        refine n_iconst c_176_29 ?_
        refine n_iadd c_176_30 rfl ?_
        refine n_istore_n (L2 := [some (2, 112), some (0, (x1 + 0)), some (0, x2)]) c_176_31 rfl rfl ?_
        refine n_iinc (L2 := [some (2, 112), some (0, (x1 + 0)), some (0, (x2 + 1))]) c_176_32 rfl rfl rfl ?_
        refine n_goto c_176_35 ?_
        refine n_fg (le_s (le_s (le_s le_0))) ?_
        exact ih _ _ (by omega) (by omega) (by omega) (by rw [cf_step (by omega)]; have q := f7p0; show _ = _ + bb (AKP 3 M 1 x2); omega) (by omega)
      · intro h9
        refine n_iconst c_176_25 ?_
        refine n_goto c_176_26 ?_
        refine n_iadd c_176_30 rfl ?_
        refine n_istore_n (L2 := [some (2, 112), some (0, (x1 + 1)), some (0, x2)]) c_176_31 rfl rfl ?_
        refine n_iinc (L2 := [some (2, 112), some (0, (x1 + 1)), some (0, (x2 + 1))]) c_176_32 rfl rfl rfl ?_
        refine n_goto c_176_35 ?_
        refine n_fg (le_s (le_s (le_s le_0))) ?_
        exact ih _ _ (by omega) (by omega) (by omega) (by rw [cf_step (by omega)]; have q := f7p0; show _ = _ + bb (AKP 3 M 1 x2); omega) (by omega)
set_option maxHeartbeats 4000000 in
theorem mheapsX_3 {xs : List Int32} {e : Nat} {ac : Int} {M0 M : nM} (hS : Sf 3 ac M0 M) (hdm : M0 112 0 = 3) (hp : ∀ a : Int, 0 ≤ a → a < M 112 4 → 1 ≤ M 116 a) : nW xs (e + 5) 176 0 [some (2, 112), none, none] [] M (nPI fun z M1 => M = M1 ∧ (-2147483648 ≤ z ∧ z ≤ 2147483647) ∧ (∃ n : Nat, n = (if (3 : Int) = 2 then 4 else 8) ∧ z + bb (AKP 3 M 1 0) = cf (fun s => bb (AKP 3 M 1 s)) n)) := by
  have hd : (3 : Int) = 2 ∨ (3 : Int) = 3 := by decide
  have hac := hS.2.2.2.2
  refine n_iconst c_176_0 ?_
  refine n_istore_n (L2 := [some (2, 112), some (0, 0), none]) c_176_1 rfl rfl ?_
  refine n_iconst c_176_2 ?_
  refine n_istore_n (L2 := [some (2, 112), some (0, 0), some (0, 1)]) c_176_3 rfl rfl ?_
  refine n_fg (le_s (le_s (le_s le_0))) ?_
  exact (mheapsX_3_c hS hdm hp 28) _ _ (by omega) (by omega) (by omega) (by show _ = cf _ 1; rw [cf_1]; omega) (by omega)

set_option maxHeartbeats 4000000 in
theorem mclosedSetX_3_c {xs : List Int32} {e : Nat} {ac : Int} {M0 M : nM} {k f : Int} (hS : Sf 3 ac M0 M) (hdm : M0 112 0 = 3) (hk : 1 ≤ k ∧ k ≤ 3) (hf : 0 ≤ f ∧ f ≤ 134217727) (hp : ∀ a : Int, 0 ≤ a → a < M 112 4 → 1 ≤ M 116 a) : ∀ nn : Nat, (∀ (x4 x6 : Int), (0 ≤ x4 ∧ x4 ≤ 134217727) → (0 ≤ x6 ∧ x6 ≤ 1) → (sub27 f x4) → (CMin 3 M k f x4) → (x6 = 0 → ∀ a : Int, 0 ≤ a → a < M 112 4 → KP 3 (M 116 a) (fun i => M 117 (27 * a + i)) k x4) → (2 * (134217727 - x4) + x6) * 100 < (nn : Int) → nW xs (e + 3) 157 6 [some (2, 112), some (0, k), none, none, some (1, x4), none, some (0, x6), none, none] [] M (nPJ fun z M1 => M = M1 ∧ (0 ≤ z ∧ z ≤ 134217727) ∧ (CLS 3 M k f z))) ∧ (∀ (x4 x6 x7 : Int), (0 ≤ x4 ∧ x4 ≤ 134217727) → (0 ≤ x6 ∧ x6 ≤ 1) → (0 ≤ x7 ∧ x7 ≤ 8) → (sub27 f x4) → (CMin 3 M k f x4) → (x6 = 0 → ∀ a : Int, 0 ≤ a → a < x7 → KP 3 (M 116 a) (fun i => M 117 (27 * a + i)) k x4) → (x7 ≤ M 112 4) → (2 * (134217727 - x4) + x6) * 100 + (8 - x7) * 3 + 2 < (nn : Int) → nW xs (e + 3) 157 17 [some (2, 112), some (0, k), none, none, some (1, x4), none, some (0, x6), some (0, x7), none] [] M (nPJ fun z M1 => M = M1 ∧ (0 ≤ z ∧ z ≤ 134217727) ∧ (CLS 3 M k f z))) ∧ (∀ (x4 x6 x7 x8 : Int), (0 ≤ x4 ∧ x4 ≤ 134217727) → (0 ≤ x6 ∧ x6 ≤ 1) → (0 ≤ x7 ∧ x7 ≤ 7) → (-1 ≤ x8 ∧ x8 ≤ 26) → (sub27 f x4) → (CMin 3 M k f x4) → (x6 = 0 → ∀ a : Int, 0 ≤ a → a < x7 → KP 3 (M 116 a) (fun i => M 117 (27 * a + i)) k x4) → (x7 < M 112 4) → (ESC 3 (M 116 x7) (fun i => M 117 (27 * x7 + i)) k x4 x8) → (2 * (134217727 - x4) + x6) * 100 + (8 - x7) * 3 + 1 < (nn : Int) → nW xs (e + 3) 157 51 [some (2, 112), some (0, k), none, none, some (1, x4), none, some (0, x6), some (0, x7), some (0, x8)] [] M (nPJ fun z M1 => M = M1 ∧ (0 ≤ z ∧ z ≤ 134217727) ∧ (CLS 3 M k f z))) := by
  have hd : (3 : Int) = 2 ∨ (3 : Int) = 3 := by decide
  have hac := hS.2.2.2.2
  have hpw : pw 3 k ≤ 27 := by have y := pw_r (d := 3) (k := k) (by decide) (by omega); omega
  intro nn
  induction nn with
  | zero => refine ⟨?_, ?_, ?_⟩ <;> (intros; omega)
  | succ nn ih =>
    refine ⟨?_, ?_, ?_⟩
    · intro x4 x6 k4 k6 v0 v1 v2 hnn
      refine n_iload c_157_6 rfl ?_
      refine n_if0_eq c_157_8 (by omega) ?_ ?_
      · intro h1
        refine n_lload c_157_106 rfl ?_
        exact n_rJ c_157_108 rfl ⟨rfl, by omega, by exact ⟨v0, fun a h0 h1 => v2 (by omega) a h0 h1, v1⟩⟩
      · intro h2
        refine n_iconst c_157_11 ?_
        refine n_istore (L2 := [some (2, 112), some (0, k), none, none, some (1, x4), none, some (0, 0), none, none]) c_157_12 rfl rfl ?_
        refine n_iconst c_157_14 ?_
        refine n_istore (L2 := [some (2, 112), some (0, k), none, none, some (1, x4), none, some (0, 0), some (0, 0), none]) c_157_15 rfl rfl ?_
        refine n_fg (le_s (le_s (le_n (le_n (le_s (le_n (le_s (le_s (le_n le_0))))))))) ?_
        exact ih.2.1 _ _ _ (by omega) (by omega) (by omega) (by exact v0) (by exact v1) (by exact fun q a h0 h1 => by omega) (by have t4 := t_112_4 hS; omega) (by omega)
    · intro x4 x6 x7 k4 k6 k7 v0 v1 v2 v3 hnn
      have hpx : x7 < M 112 4 → 1 ≤ M 116 x7 := fun q => hp x7 (by omega) q
      refine n_iload c_157_17 rfl ?_
      refine n_aload_n c_157_19 rfl ?_
      refine n_getV (bi := 4) c_157_20 sc_112.n rfl rfl rfl (t_112_4 hS) ?_
      intro z1 ez1 f2
      refine n_if2_ge c_157_23 (by omega) (by omega) ?_ ?_
      · intro h3
        refine n_goto c_157_103 ?_
        refine n_fg (le_s (le_s (le_n (le_n (le_s (le_n (le_s (le_n (le_n le_0))))))))) ?_
        exact ih.1 _ _ (by omega) (by omega) (by exact v0) (by exact v1) (by exact fun q a h0 h1 => v2 q a h0 (by omega)) (by omega)
      · intro h4
        refine n_aload_n c_157_26 rfl ?_
        refine n_aload_n c_157_27 rfl ?_
        refine n_getR c_157_28 sc_112.n rfl rfl rfl r_112_5 ?_
        refine n_iload c_157_31 rfl ?_
        refine n_ialoadV c_157_33 sc_116.n rfl rfl rfl (by omega) (t_116 hS (by omega)) ?_
        intro z5 ez5 f6
        refine n_aload_n c_157_34 rfl ?_
        refine n_getR c_157_35 sc_112.n rfl rfl rfl r_112_6 ?_
        refine n_bipush c_157_38 rfl ?_
        refine n_iload c_157_40 rfl ?_
        refine n_imul c_157_42 rfl ?_
        refine n_iload_n c_157_43 rfl ?_
        refine n_lload c_157_44 rfl ?_
        refine n_v5I c_157_46 rfl sc_112.n rfl rfl rfl rfl (escapesXT_3 (m := z5) (f := (27 * x7)) (k := k) (s := x4) hS hdm (by omega) (by omega) (by omega) (by omega)) ?_
        intro z7 M8 hP9
        obtain ⟨eM, f9, f9p0⟩ := hP9
        subst eM
        refine n_istore (L2 := [some (2, 112), some (0, k), none, none, some (1, x4), none, some (0, x6), some (0, x7), some (0, z7)]) c_157_49 rfl rfl ?_
        refine n_fg (le_s (le_s (le_n (le_n (le_s (le_n (le_s (le_s (le_s le_0))))))))) ?_
        exact ih.2.2 _ _ _ _ (by omega) (by omega) (by omega) (by omega) (by exact v0) (by exact v1) (by exact v2) (by omega) (by have q := f9p0; rw [ez5] at q; exact q) (by omega)
    · intro x4 x6 x7 x8 k4 k6 k7 k8 v0 v1 v2 v3 v4 hnn
      have hpx : 1 ≤ M 116 x7 := hp x7 (by omega) v3
      refine n_iload c_157_51 rfl ?_
      refine n_iconst c_157_53 ?_
      refine n_if2_eq c_157_54 (by omega) (by omega) ?_ ?_
      · intro h1
        refine n_iinc (L2 := [some (2, 112), some (0, k), none, none, some (1, x4), none, some (0, x6), some (0, (x7 + 1)), some (0, x8)]) c_157_97 rfl rfl rfl ?_
        refine n_goto c_157_100 ?_
        refine n_fg (le_s (le_s (le_n (le_n (le_s (le_n (le_s (le_s (le_n le_0))))))))) ?_
        exact ih.2.1 _ _ _ (by omega) (by omega) (by omega) (by exact v0) (by exact v1) (by exact fun q a h0 h1 => by by_cases e : a = x7; (rw [e]; exact ESC.k v4 (by omega)); exact v2 q a h0 (by omega)) (by have t4 := t_112_4 hS; omega) (by omega)
      · intro h2
        refine n_lload c_157_57 rfl ?_
        refine n_lconst (n := 1) c_157_59 rfl ?_
        refine n_iload c_157_60 rfl ?_
        refine n_i_lshl c_157_62 rfl ?_
        refine n_i_lor c_157_63 rfl ?_
        have f3 := n_lor_bit (s := x4) (r := x8) (by omega) (by omega) (ESC.nb v4 (by omega) (by omega) (by omega))
        refine n_lstore (L2 := [some (2, 112), some (0, k), none, none, some (1, (n_lor x4 (n_lshl 1 x8))), none, some (0, x6), some (0, x7), some (0, x8)]) c_157_64 rfl rfl ?_
        refine n_iconst c_157_66 ?_
        refine n_istore (L2 := [some (2, 112), some (0, k), none, none, some (1, (n_lor x4 (n_lshl 1 x8))), none, some (0, 1), some (0, x7), some (0, x8)]) c_157_67 rfl rfl ?_
        refine n_aload_n c_157_69 rfl ?_
        refine n_aload_n c_157_70 rfl ?_
        refine n_getR c_157_71 sc_112.n rfl rfl rfl r_112_5 ?_
        refine n_iload c_157_74 rfl ?_
        refine n_ialoadV c_157_76 sc_116.n rfl rfl rfl (by omega) (t_116 hS (by omega)) ?_
        intro z4 ez4 f5
        refine n_aload_n c_157_77 rfl ?_
        refine n_getR c_157_78 sc_112.n rfl rfl rfl r_112_6 ?_
        refine n_bipush c_157_81 rfl ?_
        refine n_iload c_157_83 rfl ?_
        refine n_imul c_157_85 rfl ?_
        refine n_iload_n c_157_86 rfl ?_
        refine n_lload c_157_87 rfl ?_
        refine n_v5I c_157_89 rfl sc_112.n rfl rfl rfl rfl (escapesXT_3 (m := z4) (f := (27 * x7)) (k := k) (s := (n_lor x4 (n_lshl 1 x8))) hS hdm (by omega) (by omega) (by omega) (by omega)) ?_
        intro z6 M7 hP8
        obtain ⟨eM, f8, f8p0⟩ := hP8
        subst eM
        refine n_istore (L2 := [some (2, 112), some (0, k), none, none, some (1, (n_lor x4 (n_lshl 1 x8))), none, some (0, 1), some (0, x7), some (0, z6)]) c_157_92 rfl rfl ?_
        refine n_goto c_157_94 ?_
        refine n_fg (le_s (le_s (le_n (le_n (le_s (le_n (le_s (le_s (le_s le_0))))))))) ?_
        exact ih.2.2 _ _ _ _ (by omega) (by omega) (by omega) (by omega) (by exact sub27.add v0 (by omega) (by omega)) (by exact CMin.add v1 hpw (by omega) (by omega) (by omega) v4) (by exact fun q => by omega) (by omega) (by have q := f8p0; rw [ez4] at q; exact q) (by omega)
set_option maxHeartbeats 4000000 in
theorem mclosedSetX_3 {xs : List Int32} {e : Nat} {ac : Int} {M0 M : nM} {k f : Int} (hS : Sf 3 ac M0 M) (hdm : M0 112 0 = 3) (hk : 1 ≤ k ∧ k ≤ 3) (hf : 0 ≤ f ∧ f ≤ 134217727) (hp : ∀ a : Int, 0 ≤ a → a < M 112 4 → 1 ≤ M 116 a) : nW xs (e + 3) 157 0 [some (2, 112), some (0, k), some (1, f), none, none, none, none, none, none] [] M (nPJ fun z M1 => M = M1 ∧ (0 ≤ z ∧ z ≤ 134217727) ∧ (CLS 3 M k f z)) := by
  have hd : (3 : Int) = 2 ∨ (3 : Int) = 3 := by decide
  have hac := hS.2.2.2.2
  have hpw : pw 3 k ≤ 27 := by have y := pw_r (d := 3) (k := k) (by decide) (by omega); omega
  refine n_lload_n c_157_0 rfl ?_
  refine n_lstore (L2 := [some (2, 112), some (0, k), some (1, f), none, some (1, f), none, none, none, none]) c_157_1 rfl rfl ?_
  refine n_iconst c_157_3 ?_
  refine n_istore (L2 := [some (2, 112), some (0, k), some (1, f), none, some (1, f), none, some (0, 1), none, none]) c_157_4 rfl rfl ?_
  refine n_fg (le_s (le_s (le_n (le_n (le_s (le_n (le_s (le_n (le_n le_0))))))))) ?_
  exact (mclosedSetX_3_c hS hdm hk hf hp 1000000000000000).1 _ _ (by omega) (by omega) (by exact fun y _ _ q => q) (by exact fun t _ _ q _ => q) (by exact fun q => by omega) (by omega)

set_option maxHeartbeats 4000000 in
theorem mheapX_3 {xs : List Int32} {e : Nat} {ac : Int} {M0 M : nM} {m : Int} (hS : Sf 3 ac M0 M) (hdm : M0 112 0 = 3) (hm : -2147483648 ≤ m ∧ m ≤ 2147483647) (hp : ∀ a : Int, 0 ≤ a → a < M 112 4 → 1 ≤ M 116 a) : nW xs (e + 4) 177 0 [some (2, 112), some (0, m)] [] M (nPI fun z M1 => M = M1 ∧ (-2147483648 ≤ z ∧ z ≤ 2147483647) ∧ (mHe 3 m z M)) := by
  have hd : (3 : Int) = 2 ∨ (3 : Int) = 3 := by decide
  have hac := hS.2.2.2.2
  refine n_iload_n c_177_0 rfl ?_
  refine n_iconst c_177_1 ?_
  refine n_if2_lt c_177_2 (by omega) (by omega) ?_ ?_
  · intro h1
    refine n_iconst c_177_15 ?_
    refine n_goto c_177_16 ?_
    exact n_rI c_177_27 rfl ⟨rfl, by omega, by exact Or.inl ⟨by show m < 1 ∨ 7 < m; omega, rfl⟩⟩
  · intro h2
    refine n_iload_n c_177_5 rfl ?_
    refine n_iconst c_177_6 ?_
    refine n_aload_n c_177_7 rfl ?_
    refine n_getV (bi := 0) c_177_8 sc_112.n rfl rfl rfl (t_dm hS hdm) ?_
    intro z3 ez3 f4
    obtain rfl : z3 = 3 := by omega
    refine n_i_ishl (z := 8) c_177_11 (by decide) ?_
    refine n_if2_lt c_177_12 (by omega) (by omega) ?_ ?_
    · intro h5
      refine n_aload_n c_177_19 rfl ?_
      refine n_iconst c_177_20 ?_
      refine n_iload_n c_177_21 rfl ?_
      refine n_i2l c_177_22 (by omega) ?_
      refine n_v2J c_177_23 rfl sc_112.n rfl rfl rfl rfl (mclosedSetX_3 (k := 1) (f := m) hS hdm (by omega) (by omega) (by exact hp)) ?_
      intro z6 M7 hP8
      obtain ⟨eM, f8, f8p0⟩ := hP8
      subst eM
      refine n_l2i c_177_26 ?_
      exact n_rI c_177_27 rfl ⟨rfl, by omega, by exact Or.inr ⟨by omega, by show m ≤ (7 : Int); omega, by omega, by omega, f8p0⟩⟩
    · intro h9
      refine n_iconst c_177_15 ?_
      refine n_goto c_177_16 ?_
      exact n_rI c_177_27 rfl ⟨rfl, by omega, by exact Or.inl ⟨by show m < 1 ∨ 7 < m; omega, rfl⟩⟩
