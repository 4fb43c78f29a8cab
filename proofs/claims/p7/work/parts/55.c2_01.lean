/-! The methods, by program. -/
set_option maxHeartbeats 4000000 in
theorem weighW3_2 {xs : List Int32} {e : Nat} {ac : Int} {M : nM} {Ms : nM} (hS : Sw 2 ac M) (hf : ∀ a i : Int, a ≠ 52 → a ≠ 53 → M a i = Ms a i) (hf5 : ∀ i : Int, M 52 i = Ms 52 i) : nW xs (e + 1) 44 0 [some (2, 52), some (0, 9), some (0, 3), some (0, 1)] [] M (nPV fun M1 => Sw 2 ac M1 ∧ (∀ a i : Int, a ≠ 52 → a ≠ 53 → M1 a i = Ms a i) ∧ (M1 52 1 = 9 ∧ M1 52 2 = 3 ∧ M1 52 3 = 1) ∧ (∀ i : Int, i ≠ 1 → i ≠ 2 → i ≠ 3 → M1 52 i = Ms 52 i)) := by
  have hd : (2 : Int) = 2 ∨ (2 : Int) = 3 := by decide
  have hac := hS.2.2.2.2
  refine n_aload_n c_44_0 rfl ?_
  refine n_iload_n c_44_1 rfl ?_
  refine n_putW (bi := 1) hS c_44_2 sc_52.n rfl rfl rfl rfl (fun h => h.s (by unfold sp; omega)) ?_
  intro M1 eM1 hS1
  have g1_0 : M1 52 1 = 9 := by rw [eM1]; exact nu_s _ _ _ _
  refine n_aload_n c_44_5 rfl ?_
  refine n_iload_n c_44_6 rfl ?_
  refine n_putW (bi := 2) hS1 c_44_7 sc_52.n rfl rfl rfl rfl (fun h => h.s (by unfold sp; omega)) ?_
  intro M2 eM2 hS2
  have g2_0 : M2 52 1 = M1 52 1 := by rw [eM2]; exact nu_i (by omega)
  have g2_1 : M2 52 2 = 3 := by rw [eM2]; exact nu_s _ _ _ _
  refine n_aload_n c_44_10 rfl ?_
  refine n_iload_n c_44_11 rfl ?_
  refine n_putW (bi := 3) hS2 c_44_12 sc_52.n rfl rfl rfl rfl (fun h => h.s (by unfold sp; omega)) ?_
  intro M3 eM3 hS3
  have g3_0 : M3 52 1 = M2 52 1 := by rw [eM3]; exact nu_i (by omega)
  have g3_1 : M3 52 2 = M2 52 2 := by rw [eM3]; exact nu_i (by omega)
  have g3_2 : M3 52 3 = 1 := by rw [eM3]; exact nu_s _ _ _ _
  refine n_aload_n c_44_15 rfl ?_
  refine n_getR c_44_16 sc_52.n rfl rfl rfl r_52_0 ?_
  refine n_iconst c_44_19 ?_
  refine n_s2V c_44_20 rfl rfl rfl rfl (fillW53_2 (Ms := M3) hS3 (by exact fun _ _ _ => rfl)) ?_
  intro  M4 hP5
  obtain ⟨hS4, f5p0⟩ := hP5
  exact n_rV c_44_23 rfl ⟨hS4, by exact fun a i h1 h2 => by rw [f5p0 a i h2]; simp only [eM3, eM2, eM1]; rw [nu_a h1, nu_a h1, nu_a h1]; exact hf a i h1 h2, by exact ⟨(by rw [f5p0 52 1 (by omega)]; simp only [eM3, eM2, eM1]; rw [nu_i (by omega), nu_i (by omega), nu_s]), (by rw [f5p0 52 2 (by omega)]; simp only [eM3, eM2, eM1]; rw [nu_i (by omega), nu_s]), (by rw [f5p0 52 3 (by omega)]; simp only [eM3, eM2, eM1]; rw [nu_s])⟩, by exact fun i h1 h2 h3 => by rw [f5p0 52 i (by omega)]; simp only [eM3, eM2, eM1]; rw [nu_i h3, nu_i h2, nu_i h1]; exact hf5 i⟩

set_option maxHeartbeats 4000000 in
theorem startOver3_2 {xs : List Int32} {e : Nat} {ac : Int} {M : nM} (hSf : Sf 2 ac M M)  : nW xs (e + 2) 122 0 [some (2, 3), some (0, 3)] [] M (nPV fun M1 => Sf 3 0 M1 M1 ∧ (M1 112 0 = M 112 0)) := by
  have hS := hSf.sw
  have hd : (2 : Int) = 2 ∨ (2 : Int) = 3 := by decide
  have hac := hS.2.2.2.2
  refine n_aload_n c_122_0 rfl ?_
  refine n_getR c_122_1 sc_3.n rfl rfl rfl r_3_0 ?_
  refine n_iload_n c_122_4 rfl ?_
  refine n_v1V c_122_5 rfl sc_4.n rfl rfl rfl rfl (baseSet3_2 (Ms := M) hS (by exact hSf.b3 hd) (by rfl)) ?_
  intro  M1 hP2
  obtain ⟨hS1, f2p0⟩ := hP2
  refine n_aload_n c_122_8 rfl ?_
  refine n_getR c_122_9 sc_3.n rfl rfl rfl r_3_12 ?_
  refine n_iload_n c_122_12 rfl ?_
  refine n_iload_n c_122_13 rfl ?_
  refine n_imul c_122_14 rfl ?_
  refine n_iload_n c_122_15 rfl ?_
  refine n_iconst c_122_16 ?_
  have hcst : ((3 * 3) : Int) = 9 := by omega
  rw [hcst]
  refine n_v3V c_122_17 rfl sc_52.n rfl rfl rfl rfl (weighW3_2 (Ms := M1) hS1 (by exact fun _ _ _ _ => rfl) (by exact fun _ => rfl)) ?_
  intro  M3 hP4
  obtain ⟨hS3, f4p0, f4p1, f4p2⟩ := hP4
  refine n_aload_n c_122_20 rfl ?_
  refine n_iconst c_122_21 ?_
  refine n_putW (bi := 14) hS3 c_122_22 sc_3.n rfl rfl rfl rfl (fun h => h.s (by unfold sp; omega)) ?_
  intro M5 eM5 hS5
  have g5_0 : M5 3 14 = 0 := by rw [eM5]; exact nu_s _ _ _ _
  refine n_aload_n c_122_25 rfl ?_
  refine n_iconst c_122_26 ?_
  refine n_putW (bi := 15) hS5 c_122_27 sc_3.n rfl rfl rfl rfl (fun h => h.m (m_3_15 (by omega))) ?_
  intro M6 eM6 hS6
  have g6_0 : M6 3 14 = M5 3 14 := by rw [eM6]; exact nu_i (by omega)
  have g6_1 : M6 3 15 = 0 := by rw [eM6]; exact nu_s _ _ _ _
  refine n_aload_n c_122_30 rfl ?_
  refine n_v0V c_122_31 rfl sc_3.n rfl rfl rfl rfl (forgetW_2 (Ms := M6) hS6 (by exact fun _ _ _ => rfl)) ?_
  intro  M7 hP8
  obtain ⟨hS7, f8p0⟩ := hP8
  refine n_aload_n c_122_34 rfl ?_
  refine n_iconst c_122_35 ?_
  refine n_putW (bi := 17) hS7 c_122_36 sc_3.n rfl rfl rfl rfl (fun h => h.m (m_3_17 (by omega))) ?_
  intro M9 eM9 hS9
  have g9_0 : M9 3 17 = 0 := by rw [eM9]; exact nu_s _ _ _ _
  refine n_aload_n c_122_39 rfl ?_
  refine n_getR c_122_40 sc_3.n rfl rfl rfl r_3_6 ?_
  refine n_iconst c_122_43 ?_
  refine n_v1V c_122_44 rfl sc_32.n rfl rfl rfl rfl (rstartW_2  hS9 ) ?_
  intro  M10 hP11
  obtain ⟨hS10, f11p0⟩ := hP11
  refine n_aload_n c_122_47 rfl ?_
  refine n_iconst c_122_48 ?_
  refine n_putZW (bi := 18) hS10 c_122_49 sc_3.n rfl rfl rfl (by omega) rfl (fun h => h.m (m_3_18 (by omega))) ?_
  intro M12 eM12 hS12
  have g12_0 : M12 3 18 = 0 := by rw [eM12]; exact nu_s _ _ _ _
  refine n_jk (v := 3 * 3 * 3) ?_
  intro My fy jy
  have A : ∀ a i : Int, a ≠ 3 → a ≠ 32 → (a < 103 ∨ 111 < a) → M12 a i = M3 a i := fun a i h1 h2 h3 => by rw [eM12, nu_a h1, f11p0 a i h2, eM9, nu_a h1, f8p0 a i h3, eM6, nu_a h1, eM5, nu_a h1]
  have B := f2p0.fr (M2 := My) (fun a i h1 h2 h3 => by rw [fy a i h3, A a i (by omega) (by omega) (by omega), f4p0 a i (by omega) (by omega)])
  have C52 : ∀ i : Int, My 52 i = M3 52 i := fun i => by rw [fy 52 i (by omega), A 52 i (by omega) (by omega) (by omega)]
  have C3 : My 3 14 = 0 := by rw [fy 3 14 (by omega), eM12, nu_i (by omega), f11p0 3 14 (by omega), eM9, nu_i (by omega), f8p0 3 14 (by omega), eM6, nu_i (by omega), eM5, nu_s]
  have C112 : My 112 0 = M 112 0 := by rw [fy 112 0 (by omega), A 112 0 (by omega) (by omega) (by omega), f4p0 112 0 (by omega) (by omega), f2p0.2.2.2.2 112 0 (by omega)]
  have C5 : ∀ i : Int, 0 ≤ i → i ≠ 1 → i ≠ 2 → My 52 i = 1 := fun i h0 h1 h2 => by
    rw [C52 i]
    by_cases h3 : i = 3
    · rw [h3]; exact f4p1.2.2
    · rw [f4p2 i h1 h2 h3, f2p0.2.2.2.2 52 i (by omega)]
      have t := hSf.1 52 i h0
      have u : tb 2 ac 52 i = if i = 1 then (2 * 2, 2 * 2) else if i = 2 then (2, 2) else (1, 1) := rfl
      rw [u, if_neg h1, if_neg h2] at t
      have t1 : (1 : Int) ≤ M 52 i := t.1
      have t2 : M 52 i ≤ (1 : Int) := t.2
      omega
  have D : Sf 3 0 My My := Sf.fromW (hS12.of (fun a i q => fy a i (fun w => q (by unfold sp; omega)))) hd B jy (by rw [C52]; have := f4p1.1; omega) (by rw [C52]; exact f4p1.2.1) C5 C3
  exact n_rV c_122_52 rfl ⟨D, C112⟩

set_option maxHeartbeats 4000000 in
theorem fresh3_2_c {xs : List Int32} {e : Nat} {ac : Int} {M : nM} (hS : Sf 2 ac M M)  : ∀ nn : Nat, (∀ (M : nM), Sf 2 ac M M → 1 < (nn : Int) → nW xs (e + 3) 93 12 [some (2, 3), some (0, 3)] [] M (nPI fun z M1 => Sf 3 0 M1 M1 ∧ (1 ≤ z ∧ z ≤ 1) ∧ (M1 112 0 = M 112 0))) := by
  have hd : (2 : Int) = 2 ∨ (2 : Int) = 3 := by decide
  have hac := hS.2.2.2.2
  intro nn
  induction nn with
  | zero => intros; omega
  | succ nn ih =>
    intro M hS hnn
    refine n_aload_n c_93_12 rfl ?_
    refine n_iload_n c_93_13 rfl ?_
    refine n_v1V c_93_14 rfl sc_3.n rfl rfl rfl rfl (startOver3_2  hS ) ?_
    intro  M1 hP2
    obtain ⟨hS1, f2p0⟩ := hP2
    refine n_iconst c_93_17 ?_
    exact n_rZ c_93_18 rfl (by omega) ⟨hS1, by omega, by omega⟩
set_option maxHeartbeats 4000000 in
theorem fresh3_2 {xs : List Int32} {e : Nat} {ac : Int} {M : nM} (hS : Sf 2 ac M M)  : nW xs (e + 3) 93 0 [some (2, 3), some (0, 3)] [] M (nPI fun z M1 => Sf 3 0 M1 M1 ∧ (1 ≤ z ∧ z ≤ 1) ∧ (M1 112 0 = M 112 0)) := by
  have hd : (2 : Int) = 2 ∨ (2 : Int) = 3 := by decide
  have hac := hS.2.2.2.2
  refine n_iload_n c_93_0 rfl ?_
  refine n_iconst c_93_1 ?_
  refine n_if2_eq c_93_2 (by omega) (by omega) ?_ ?_
  · intro h1
    exfalso; omega
  · intro h2
    refine n_iload_n c_93_5 rfl ?_
    refine n_iconst c_93_6 ?_
    refine n_if2_eq c_93_7 (by omega) (by omega) ?_ ?_
    · intro h3
      refine n_fg (le_s (le_s le_0)) ?_
      exact (fresh3_2_c hS  12)  M hS  (by omega)
    · intro h4
      exfalso; omega

set_option maxHeartbeats 4000000 in
theorem freshL_2 {xs : List Int32} {e : Nat} {ac : Int} {M0 M : nM} {a : Int} (hS : Sf 2 ac M0 M) (ha : -2147483648 ≤ a ∧ a ≤ 1) : nW xs (e + 3) 93 0 [some (2, 3), some (0, a)] [] M (nPI fun z M1 => M = M1 ∧ (0 ≤ z ∧ z ≤ 0)) := by
  have hd : (2 : Int) = 2 ∨ (2 : Int) = 3 := by decide
  have hac := hS.2.2.2.2
  refine n_iload_n c_93_0 rfl ?_
  refine n_iconst c_93_1 ?_
  refine n_if2_eq c_93_2 (by omega) (by omega) ?_ ?_
  · intro h1
    exfalso; omega
  · intro h2
    refine n_iload_n c_93_5 rfl ?_
    refine n_iconst c_93_6 ?_
    refine n_if2_eq c_93_7 (by omega) (by omega) ?_ ?_
    · intro h3
      exfalso; omega
    · intro h4
      refine n_iconst c_93_10 ?_
      exact n_rZ c_93_11 rfl (by omega) ⟨rfl, by omega⟩

set_option maxHeartbeats 4000000 in
theorem freshH_2 {xs : List Int32} {e : Nat} {ac : Int} {M0 M : nM} {a : Int} (hS : Sf 2 ac M0 M) (ha : 4 ≤ a ∧ a ≤ 2147483647) : nW xs (e + 3) 93 0 [some (2, 3), some (0, a)] [] M (nPI fun z M1 => M = M1 ∧ (0 ≤ z ∧ z ≤ 0)) := by
  have hd : (2 : Int) = 2 ∨ (2 : Int) = 3 := by decide
  have hac := hS.2.2.2.2
  refine n_iload_n c_93_0 rfl ?_
  refine n_iconst c_93_1 ?_
  refine n_if2_eq c_93_2 (by omega) (by omega) ?_ ?_
  · intro h1
    exfalso; omega
  · intro h2
    refine n_iload_n c_93_5 rfl ?_
    refine n_iconst c_93_6 ?_
    refine n_if2_eq c_93_7 (by omega) (by omega) ?_ ?_
    · intro h3
      exfalso; omega
    · intro h4
      refine n_iconst c_93_10 ?_
      exact n_rZ c_93_11 rfl (by omega) ⟨rfl, by omega⟩

set_option maxHeartbeats 4000000 in
theorem actTake1_2_c {xs : List Int32} {e : Nat} {ac : Int} {M : nM} {p gd : Int} (hS : Sf 2 ac M M) (hp : ActAt p) (hpl : p = 55 + 3 * ac) (hgd : M 112 0 = gd) (ht : ∀ i : Int, 0 ≤ i → i < 2 → M 54 i ≤ 1) : ∀ nn : Nat, (∀ (x4 x5 : Int) (M : nM), Sf 2 ac M M → (0 ≤ x4 ∧ x4 ≤ 1) → (0 ≤ x5 ∧ x5 ≤ 8) → (M 112 0 = gd) → (M p 0 = 1) → (M p 1 = 2) → (∀ i : Int, 0 ≤ i → i < 2 → M 54 i ≤ 1) → (∀ i : Int, 0 ≤ i → i < x5 → M (p + 1) i ≤ 1) → (8 - x5) * 1 + 11 < (nn : Int) → nW xs (e + 1) 2 20 [some (2, p), none, some (2, 54), some (2, 4), some (0, x4), some (0, x5), none] [] M (nPV fun M1 => Sf 2 ac M1 M1 ∧ (M1 112 0 = gd) ∧ (M1 p 0 = 1 ∧ M1 p 1 = 2 ∧ ∀ i : Int, 0 ≤ i → i < 8 → M1 (p + 1) i ≤ 1 ∧ M1 (p + 2) i ≤ 1))) ∧ (∀ (x5 : Int) (M : nM), Sf 2 ac M M → (0 ≤ x5 ∧ x5 ≤ 8) → (M 112 0 = gd) → (M p 0 = 1) → (M p 1 = 2) → (∀ i : Int, 0 ≤ i → i < 8 → M (p + 1) i ≤ 1) → (∀ i : Int, 0 ≤ i → i < x5 → M (p + 2) i ≤ 1) → (8 - x5) * 1 + 1 < (nn : Int) → nW xs (e + 1) 2 70 [some (2, p), none, none, some (2, 4), none, some (0, x5), none] [] M (nPV fun M1 => Sf 2 ac M1 M1 ∧ (M1 112 0 = gd) ∧ (M1 p 0 = 1 ∧ M1 p 1 = 2 ∧ ∀ i : Int, 0 ≤ i → i < 8 → M1 (p + 1) i ≤ 1 ∧ M1 (p + 2) i ≤ 1))) := by
  have hd : (2 : Int) = 2 ∨ (2 : Int) = 3 := by decide
  have hac := hS.2.2.2.2
  have hpb := hp.1
  intro nn
  induction nn with
  | zero => refine ⟨?_, ?_⟩ <;> (intros; omega)
  | succ nn ih =>
    refine ⟨?_, ?_⟩
    · intro x4 x5 M hS k4 k5 hggd v0 v1 v2 v3 hnn
      refine n_iload c_2_20 rfl ?_
      refine n_aload_n c_2_22 rfl ?_
      refine n_getV (bi := 1) c_2_23 sc_4.n rfl rfl rfl (t_4_1 hS) ?_
      intro z1 ez1 f2
      obtain rfl : z1 = 8 := by omega
      refine n_if2_ge c_2_26 (by omega) (by omega) ?_ ?_
      · intro h3
        refine n_iconst c_2_67 ?_
        refine n_istore (L2 := [some (2, p), none, some (2, 54), some (2, 4), some (0, x4), some (0, 0), none]) c_2_68 rfl rfl ?_
        refine n_fg (le_s (le_n (le_n (le_s (le_n (le_s (le_n le_0))))))) ?_
        exact ih.2 _ M hS (by omega) (by omega) (by exact v0) (by exact v1) (by exact fun i h0 h1 => v3 i h0 (by omega)) (by exact fun i h0 h1 => by omega) (by omega)
      · intro h4
        refine n_aload_n c_2_29 rfl ?_
        refine n_getR c_2_30 hp.c0.1.n rfl rfl rfl hp.r.1 ?_
        refine n_iload c_2_33 rfl ?_
        refine n_aload_n c_2_35 rfl ?_
        refine n_iload c_2_36 rfl ?_
        refine n_ialoadV c_2_38 sc_54.n rfl rfl rfl (by omega) (t_54 hS (by omega)) ?_
        intro z5 ez5 f6
        have t38 := v2 x4 (by omega) (by omega)
        refine n_iastoreM hS c_2_39 hp.c0.2.1.n rfl (by omega) (m_actnr hp hpl (Or.inl rfl) (by omega) (by omega)) ?_
        intro M7 eM7 hS7
        have g7_0 : M7 112 0 = M 112 0 := by rw [eM7]; exact nu_a (by omega)
        have g7_1 : M7 p 1 = M p 1 := by rw [eM7]; exact nu_a (by omega)
        refine n_iload c_2_40 rfl ?_
        refine n_iconst c_2_42 ?_
        refine n_iadd c_2_43 rfl ?_
        refine n_aload_n c_2_44 rfl ?_
        refine n_getV (bi := 1) c_2_45 hp.c0.1.n rfl rfl rfl (show 2 ≤ M7 p 1 ∧ M7 p 1 ≤ 2 by omega) ?_
        intro z8 ez8 f9
        obtain rfl : z8 = 2 := by omega
        refine n_if2_ge c_2_48 (by omega) (by omega) ?_ ?_
        · intro h10
          refine n_iconst c_2_58 ?_
          refine n_istore (L2 := [some (2, p), none, some (2, 54), some (2, 4), some (0, 0), some (0, x5), none]) c_2_59 rfl rfl ?_
          refine n_iinc (L2 := [some (2, p), none, some (2, 54), some (2, 4), some (0, 0), some (0, (x5 + 1)), none]) c_2_61 rfl rfl rfl ?_
          refine n_goto c_2_64 ?_
          refine n_fg (le_s (le_n (le_s (le_s (le_s (le_s (le_n le_0))))))) ?_
          exact ih.1 _ _ M7 hS7 (by omega) (by omega) (by omega) (by rw [eM7, nu_a (by omega)]; exact v0) (by rw [eM7, nu_a (by omega)]; exact v1) (by exact fun i h0 h1 => by rw [eM7, nu_a (by omega)]; exact v2 i h0 h1) (by exact fun i h0 h1 => by rw [eM7, nu_e]; split <;> first | omega | exact v3 i h0 (by omega)) (by omega)
        · intro h11
          refine n_iload c_2_51 rfl ?_
          refine n_iconst c_2_53 ?_
          refine n_iadd c_2_54 rfl ?_
          refine n_goto c_2_55 ?_
          refine n_istore (L2 := [some (2, p), none, some (2, 54), some (2, 4), some (0, (x4 + 1)), some (0, x5), none]) c_2_59 rfl rfl ?_
          refine n_iinc (L2 := [some (2, p), none, some (2, 54), some (2, 4), some (0, (x4 + 1)), some (0, (x5 + 1)), none]) c_2_61 rfl rfl rfl ?_
          refine n_goto c_2_64 ?_
          refine n_fg (le_s (le_n (le_s (le_s (le_s (le_s (le_n le_0))))))) ?_
          exact ih.1 _ _ M7 hS7 (by omega) (by omega) (by omega) (by rw [eM7, nu_a (by omega)]; exact v0) (by rw [eM7, nu_a (by omega)]; exact v1) (by exact fun i h0 h1 => by rw [eM7, nu_a (by omega)]; exact v2 i h0 h1) (by exact fun i h0 h1 => by rw [eM7, nu_e]; split <;> first | omega | exact v3 i h0 (by omega)) (by omega)
    · intro x5 M hS k5 hggd v0 v1 v2 v3 hnn
      refine n_iload c_2_70 rfl ?_
      refine n_aload_n c_2_72 rfl ?_
      refine n_getV (bi := 1) c_2_73 sc_4.n rfl rfl rfl (t_4_1 hS) ?_
      intro z1 ez1 f2
      obtain rfl : z1 = 8 := by omega
      refine n_if2_ge c_2_76 (by omega) (by omega) ?_ ?_
      · intro h3
        exact n_rV c_2_134 rfl ⟨hS, by omega, by exact ⟨v0, v1, fun i h0 h1 => ⟨v2 i h0 (by omega), v3 i h0 (by omega)⟩⟩⟩
      · intro h4
        refine n_aload_n c_2_79 rfl ?_
        refine n_getR c_2_80 sc_4.n rfl rfl rfl r_4_2 ?_
        refine n_iload c_2_83 rfl ?_
        refine n_ialoadV c_2_85 sc_5.n rfl rfl rfl (by omega) (t_5d hS hd (by omega) (by omega)) ?_
        intro z5 ez5 f6
        refine n_aload_n c_2_86 rfl ?_
        refine n_getV (bi := 0) c_2_87 sc_4.n rfl rfl rfl (t_4_0 hS) ?_
        intro z7 ez7 f8
        obtain rfl : z7 = 2 := by omega
        refine n_imul c_2_90 rfl ?_
        refine n_aload_n c_2_91 rfl ?_
        refine n_getR c_2_92 sc_4.n rfl rfl rfl r_4_4 ?_
        refine n_iload c_2_95 rfl ?_
        refine n_ialoadV c_2_97 sc_7.n rfl rfl rfl (by omega) (t_7d hS hd (by omega) (by omega)) ?_
        intro z9 ez9 f10
        refine n_iadd c_2_98 rfl ?_
        refine n_aload_n c_2_99 rfl ?_
        refine n_getV (bi := 0) c_2_100 sc_4.n rfl rfl rfl (t_4_0 hS) ?_
        intro z11 ez11 f12
        obtain rfl : z11 = 2 := by omega
        refine n_imul c_2_103 rfl ?_
        refine n_aload_n c_2_104 rfl ?_
        refine n_getR c_2_105 sc_4.n rfl rfl rfl r_4_3 ?_
        refine n_iload c_2_108 rfl ?_
        refine n_ialoadV c_2_110 sc_6.n rfl rfl rfl (by omega) (t_6d hS hd (by omega) (by omega)) ?_
        intro z13 ez13 f14
        refine n_iadd c_2_111 rfl ?_
        refine n_istore (L2 := [some (2, p), none, none, some (2, 4), none, some (0, x5), some (0, ((((z5 * 2) + z9) * 2) + z13))]) c_2_112 rfl rfl ?_
        refine n_aload_n c_2_114 rfl ?_
        refine n_getR c_2_115 hp.c0.1.n rfl rfl rfl hp.r.2 ?_
        refine n_iload c_2_118 rfl ?_
        refine n_aload_n c_2_120 rfl ?_
        refine n_getR c_2_121 hp.c0.1.n rfl rfl rfl hp.r.1 ?_
        refine n_iload c_2_124 rfl ?_
        refine n_ialoadV c_2_126 hp.c0.2.1.n rfl rfl rfl (by omega) (t_actr hS hd hp (Or.inl rfl) (by omega)) ?_
        intro z15 ez15 f16
        have t126 := v2 ((((z5 * 2) + z9) * 2) + z13) (by omega) (by omega)
        refine n_iastoreM hS c_2_127 hp.c0.2.2.n rfl (by omega) (m_actnr hp hpl (Or.inr rfl) (by omega) (by omega)) ?_
        intro M17 eM17 hS17
        have g17_0 : M17 112 0 = M 112 0 := by rw [eM17]; exact nu_a (by omega)
        have g17_1 : M17 p 1 = M p 1 := by rw [eM17]; exact nu_a (by omega)
        refine n_iinc (L2 := [some (2, p), none, none, some (2, 4), none, some (0, (x5 + 1)), some (0, ((((z5 * 2) + z9) * 2) + z13))]) c_2_128 rfl rfl rfl ?_
        refine n_goto c_2_131 ?_
        refine n_fg (le_s (le_n (le_n (le_s (le_n (le_s (le_n le_0))))))) ?_
        exact ih.2 _ M17 hS17 (by omega) (by omega) (by rw [eM17, nu_a (by omega)]; exact v0) (by rw [eM17, nu_a (by omega)]; exact v1) (by exact fun i h0 h1 => by rw [eM17, nu_a (by omega)]; exact v2 i h0 h1) (by exact fun i h0 h1 => by rw [eM17, nu_e]; split <;> first | omega | exact v3 i h0 (by omega)) (by omega)
set_option maxHeartbeats 4000000 in
theorem actTake1_2 {xs : List Int32} {e : Nat} {ac : Int} {M : nM} {p gd : Int} (hS : Sf 2 ac M M) (hp : ActAt p) (hpl : p = 55 + 3 * ac) (hgd : M 112 0 = gd) (ht : ∀ i : Int, 0 ≤ i → i < 2 → M 54 i ≤ 1) : nW xs (e + 1) 2 0 [some (2, p), some (0, 1), some (2, 54), some (2, 4), none, none, none] [] M (nPV fun M1 => Sf 2 ac M1 M1 ∧ (M1 112 0 = gd) ∧ (M1 p 0 = 1 ∧ M1 p 1 = 2 ∧ ∀ i : Int, 0 ≤ i → i < 8 → M1 (p + 1) i ≤ 1 ∧ M1 (p + 2) i ≤ 1)) := by
  have hd : (2 : Int) = 2 ∨ (2 : Int) = 3 := by decide
  have hac := hS.2.2.2.2
  have hpb := hp.1
  refine n_aload_n c_2_0 rfl ?_
  refine n_iload_n c_2_1 rfl ?_
  refine n_putM (bi := 0) hS c_2_2 hp.c0.1.n rfl rfl rfl rfl (m_actn hp hpl (by omega) (by omega)) ?_
  intro M1 eM1 hS1
  have g1_0 : M1 112 0 = M 112 0 := by rw [eM1]; exact nu_a (by omega)
  have g1_1 : M1 p 0 = 1 := by rw [eM1]; exact nu_s _ _ _ _
  refine n_aload_n c_2_5 rfl ?_
  refine n_aload_n c_2_6 rfl ?_
  refine n_iload_n c_2_7 rfl ?_
  refine n_v1I c_2_8 rfl sc_4.n rfl rfl rfl rfl (power1_2  hS1 ) ?_
  intro z2 M3 hP4
  obtain ⟨eM, f4⟩ := hP4
  subst eM
  obtain rfl : z2 = 2 := by omega
  refine n_putM (bi := 1) hS1 c_2_11 hp.c0.1.n rfl rfl rfl rfl (m_actn hp hpl (by omega) (by omega)) ?_
  intro M5 eM5 hS5
  have g5_0 : M5 112 0 = M1 112 0 := by rw [eM5]; exact nu_a (by omega)
  have g5_1 : M5 p 0 = M1 p 0 := by rw [eM5]; exact nu_i (by omega)
  have g5_2 : M5 p 1 = 2 := by rw [eM5]; exact nu_s _ _ _ _
  refine n_iconst c_2_14 ?_
  refine n_istore (L2 := [some (2, p), some (0, 1), some (2, 54), some (2, 4), some (0, 0), none, none]) c_2_15 rfl rfl ?_
  refine n_iconst c_2_17 ?_
  refine n_istore (L2 := [some (2, p), some (0, 1), some (2, 54), some (2, 4), some (0, 0), some (0, 0), none]) c_2_18 rfl rfl ?_
  refine n_fg (le_s (le_n (le_s (le_s (le_s (le_s (le_n le_0))))))) ?_
  exact (actTake1_2_c hS hp hpl hgd ht 50).1 _ _ M5 hS5 (by omega) (by omega) (by omega) (by omega) (by omega) (by exact fun i h0 h1 => by rw [eM5, nu_a (by omega), eM1, nu_a (by omega)]; exact ht i h0 h1) (by exact fun i h0 h1 => by omega) (by omega)

set_option maxHeartbeats 4000000 in
theorem act1_2_c {xs : List Int32} {e : Nat} {ac : Int} {M : nM} {s gd : Int} (hS : Sf 2 ac M M) (hs : -2147483648 ≤ s ∧ s ≤ 2147483647) (hgd : M 112 0 = gd) : ∀ nn : Nat, (∀ (M : nM), Sf 2 ac M M → (M 112 0 = gd) → 8 < (nn : Int) → nW xs (e + 2) 97 19 [none, none, none, none, none, none] [] M (nPI fun z M1 => (∃ ac2, Sf 2 ac2 M1 M1) ∧ (-2147483648 ≤ z ∧ z ≤ 2147483647) ∧ (M1 112 0 = gd))) ∧ (∀ (M : nM), Sf 2 ac M M → (M 112 0 = gd) → 7 < (nn : Int) → nW xs (e + 2) 97 44 [none, none, none, none, none, none] [] M (nPI fun z M1 => (∃ ac2, Sf 2 ac2 M1 M1) ∧ (-2147483648 ≤ z ∧ z ≤ 2147483647) ∧ (M1 112 0 = gd))) ∧ (∀ (M : nM), Sf 2 ac M M → (0 ≤ s ∧ s ≤ 7) → (M 112 0 = gd) → (M 3 14 ≤ 7) → 6 < (nn : Int) → nW xs (e + 2) 97 47 [some (2, 3), some (0, 1), some (0, s), none, none, none] [] M (nPI fun z M1 => (∃ ac2, Sf 2 ac2 M1 M1) ∧ (-2147483648 ≤ z ∧ z ≤ 2147483647) ∧ (M1 112 0 = gd))) ∧ (∀ (x3 x4 : Int) (M : nM), Sf 2 ac M M → (0 ≤ s ∧ s ≤ 7) → (2 ≤ x3 ∧ x3 ≤ 2) → (0 ≤ x4 ∧ x4 ≤ 2) → (M 112 0 = gd) → (∀ i : Int, 0 ≤ i → i < x4 → M 54 i ≤ 1) → (M 3 14 ≤ 7) → (2 - x4) * 1 + 2 < (nn : Int) → nW xs (e + 2) 97 73 [some (2, 3), some (0, 1), some (0, s), some (0, x3), some (0, x4), none] [] M (nPI fun z M1 => (∃ ac2, Sf 2 ac2 M1 M1) ∧ (-2147483648 ≤ z ∧ z ≤ 2147483647) ∧ (M1 112 0 = gd))) ∧ (∀ (M : nM), Sf 2 ac M M → (M 112 0 = gd) → (∀ i : Int, 0 ≤ i → i < 2 → M 54 i ≤ 1) → (M 3 14 ≤ 7) → 1 < (nn : Int) → nW xs (e + 2) 97 130 [some (2, 3), some (0, 1), none, none, none, none] [] M (nPI fun z M1 => (∃ ac2, Sf 2 ac2 M1 M1) ∧ (-2147483648 ≤ z ∧ z ≤ 2147483647) ∧ (M1 112 0 = gd))) := by
  have hd : (2 : Int) = 2 ∨ (2 : Int) = 3 := by decide
  have hac := hS.2.2.2.2
  intro nn
  induction nn with
  | zero => refine ⟨?_, ?_, ?_, ?_, ?_⟩ <;> (intros; omega)
  | succ nn ih =>
    refine ⟨?_, ?_, ?_, ?_, ?_⟩
    · intro M hS hggd hnn
      refine n_bipush c_97_19 rfl ?_
      exact n_rI c_97_21 rfl ⟨⟨_, hS⟩, by omega, by omega⟩
    · intro M hS hggd hnn
      refine n_bipush c_97_44 rfl ?_
      exact n_rI c_97_46 rfl ⟨⟨_, hS⟩, by omega, by omega⟩
    · intro M hS k2 hggd v0 hnn
      refine n_aload_n c_97_47 rfl ?_
      refine n_getR c_97_48 sc_3.n rfl rfl rfl r_3_1 ?_
      refine n_iload_n c_97_51 rfl ?_
      refine n_v1I c_97_52 rfl sc_8.n rfl rfl rfl rfl (hasRow_2 (s := s) hS (by omega)) ?_
      intro z1 M2 hP3
      obtain ⟨eM, f3, f3p0⟩ := hP3
      subst eM
      refine n_if0_ne c_97_55 (by omega) ?_ ?_
      · intro h4
        refine n_aload_n c_97_61 rfl ?_
        refine n_getR c_97_62 sc_3.n rfl rfl rfl r_3_0 ?_
        refine n_iload_n c_97_65 rfl ?_
        refine n_v1I c_97_66 rfl sc_4.n rfl rfl rfl rfl (power1_2  hS ) ?_
        intro z5 M6 hP7
        obtain ⟨eM, f7⟩ := hP7
        subst eM
        obtain rfl : z5 = 2 := by omega
        refine n_istore_n (L2 := [some (2, 3), some (0, 1), some (0, s), some (0, 2), none, none]) c_97_69 rfl rfl ?_
        refine n_iconst c_97_70 ?_
        refine n_istore (L2 := [some (2, 3), some (0, 1), some (0, s), some (0, 2), some (0, 0), none]) c_97_71 rfl rfl ?_
        refine n_fg (le_s (le_s (le_s (le_s (le_s (le_n le_0)))))) ?_
        exact ih.2.2.2.1 _ _ M hS (by omega) (by omega) (by omega) (by omega) (by exact fun i h0 h1 => by omega) (by omega) (by omega)
      · intro h8
        refine n_bipush c_97_58 rfl ?_
        exact n_rI c_97_60 rfl ⟨⟨_, hS⟩, by omega, by omega⟩
    · intro x3 x4 M hS k2 k3 k4 hggd v0 v1 hnn
      refine n_iload c_97_73 rfl ?_
      refine n_iload_n c_97_75 rfl ?_
      refine n_if2_ge c_97_76 (by omega) (by omega) ?_ ?_
      · intro h1
        refine n_fg (le_s (le_s (le_n (le_n (le_n (le_n le_0)))))) ?_
        exact ih.2.2.2.2  M hS (by omega) (by exact fun i h0 h1 => v0 i h0 (by omega)) (by omega) (by omega)
      · intro h2
        refine n_iload c_97_79 rfl ?_
        refine n_bipush c_97_81 rfl ?_
        refine n_if2_ge c_97_83 (by omega) (by omega) ?_ ?_
        · intro h3
          exfalso; omega
        · intro h4
          refine n_aload_n c_97_86 rfl ?_
          refine n_getR c_97_87 sc_3.n rfl rfl rfl r_3_1 ?_
          refine n_iload_n c_97_90 rfl ?_
          refine n_iload c_97_91 rfl ?_
          refine n_aload_n c_97_93 rfl ?_
          refine n_getR c_97_94 sc_3.n rfl rfl rfl r_3_0 ?_
          refine n_getV (bi := 0) c_97_97 sc_4.n rfl rfl rfl (t_4_0 hS) ?_
          intro z5 ez5 f6
          obtain rfl : z5 = 2 := by omega
          refine n_iconst c_97_100 ?_
          refine n_isub c_97_101 rfl ?_
          have hcst : ((2 - 1) : Int) = 1 := by omega
          rw [hcst]
          refine n_v3I c_97_102 rfl sc_8.n rfl rfl rfl rfl (read1_2 (s := s) (i := x4) hS (by omega) (by omega)) ?_
          intro z7 M8 hP9
          obtain ⟨eM, f9⟩ := hP9
          subst eM
          refine n_istore (L2 := [some (2, 3), some (0, 1), some (0, s), some (0, x3), some (0, x4), some (0, z7)]) c_97_105 rfl rfl ?_
          refine n_iload c_97_107 rfl ?_
          refine n_if0_ge c_97_109 (by omega) ?_ ?_
          · intro h10
            refine n_aload_n c_97_115 rfl ?_
            refine n_getR c_97_116 sc_3.n rfl rfl rfl r_3_13 ?_
            refine n_iload c_97_119 rfl ?_
            refine n_iload c_97_121 rfl ?_
            refine n_iastoreM hS c_97_123 sc_54.n rfl (by omega) (m_54 (by omega) (by omega)) ?_
            intro M11 eM11 hS11
            have g11_0 : M11 112 0 = M 112 0 := by rw [eM11]; exact nu_a (by omega)
            have g11_1 : M11 3 14 = M 3 14 := by rw [eM11]; exact nu_a (by omega)
            refine n_iinc (L2 := [some (2, 3), some (0, 1), some (0, s), some (0, x3), some (0, (x4 + 1)), some (0, z7)]) c_97_124 rfl rfl rfl ?_
            refine n_goto c_97_127 ?_
            refine n_fg (le_s (le_s (le_s (le_s (le_s (le_n le_0)))))) ?_
            exact ih.2.2.2.1 _ _ M11 hS11 (by omega) (by omega) (by omega) (by omega) (by exact fun i h0 h1 => by rw [eM11, nu_e]; split <;> first | omega | exact v0 i h0 (by omega)) (by omega) (by omega)
          · intro h12
            refine n_iload c_97_112 rfl ?_
            exact n_rI c_97_114 rfl ⟨⟨_, hS⟩, by omega, by omega⟩
    · intro M hS hggd v0 v1 hnn
      refine n_aload_n c_97_130 rfl ?_
      refine n_getR c_97_131 sc_3.n rfl rfl rfl r_3_2 ?_
      refine n_aload_n c_97_134 rfl ?_
      refine n_getV (bi := 14) c_97_135 sc_3.n rfl rfl rfl (t_3_14x hS) ?_
      intro z1 ez1 f2
      have f2a := t_ac hS
      refine n_aaload c_97_138 sc_12.n rfl rfl rfl (by omega) (r_acts _) ?_
      have q3 : ActAt (55 + 3 * z1) := by unfold ActAt; omega
      have q3l : (55 + 3 * z1) = 55 + 3 * ac := by omega
      refine n_iload_n c_97_139 rfl ?_
      refine n_aload_n c_97_140 rfl ?_
      refine n_getR c_97_141 sc_3.n rfl rfl rfl r_3_13 ?_
      refine n_aload_n c_97_144 rfl ?_
      refine n_getR c_97_145 sc_3.n rfl rfl rfl r_3_0 ?_
      refine n_v3V c_97_148 rfl q3.c0.1.n rfl rfl rfl rfl (actTake1_2 (p := (55 + 3 * z1)) (gd := (M 112 0)) hS q3 q3l rfl (by exact fun i h0 h1 => v0 i h0 (by omega))) ?_
      intro  M4 hP5
      obtain ⟨hS4, f5g0, f5p0⟩ := hP5
      refine n_aload_n c_97_151 rfl ?_
      refine n_v0V c_97_152 rfl sc_3.n rfl rfl rfl rfl (forgetMade_2  hS4 ) ?_
      intro  M6 hP7
      have hS6 := hP7
      have hS6c := hS6.2.2.2.1.1
      have hS6 := hS6.refl
      have hS6k0 := hS6c 112 0 (by unfold core; omega)
      have na0 : M6 (55 + 3 * z1) 0 = 1 := (hS6c (55 + 3 * z1) 0 (by unfold core; omega)).trans f5p0.1
      have na1 : M6 (55 + 3 * z1) 1 = 2 := (hS6c (55 + 3 * z1) 1 (by unfold core; omega)).trans f5p0.2.1
      have na2 : ∀ i : Int, 0 ≤ i → i < 8 → M6 ((55 + 3 * z1) + 1) i ≤ 1 ∧ M6 ((55 + 3 * z1) + 2) i ≤ 1 := fun i h0 h1 => by rw [hS6c ((55 + 3 * z1) + 1) i (by unfold core; omega), hS6c ((55 + 3 * z1) + 2) i (by unfold core; omega)]; exact f5p0.2.2 i h0 h1
      refine n_aload_n c_97_155 rfl ?_
      refine n_dup2 c_97_156 ?_
      refine n_getV (bi := 14) c_97_157 sc_3.n rfl rfl rfl (t_3_14x hS6) ?_
      intro z8 ez8 f9
      have f9a := t_ac hS6
      refine n_dup_x102 c_97_160 ?_
      refine n_iconst c_97_161 ?_
      refine n_iadd c_97_162 rfl ?_
      refine n_jka (p := (55 + 3 * z1)) (v := 2) q3 ?_
      intro My fy jy
      have hSy := Sf.jka hS6 q3 (by omega) fy jy (by omega)
      have hNA : NA 2 1 2 (55 + 3 * z1) My := ⟨(fy _ _ (by omega)).trans na0, na_mk fy jy na1, fun i h0 h1 => by rw [fy _ i (by omega), fy _ i (by omega)]; exact na2 i h0 (by omega)⟩
      have hey : My 112 0 = M6 112 0 := fy 112 0 (by omega)
      have hUp := Sf.actUp hSy (by omega) (by omega) (by omega) (by omega) (by omega) hNA
      have hUe : ((z8 + 1) : Int) = ac + 1 := by omega
      refine n_putG (P := fun M2 => Sf 2 (ac + 1) M2 M2) (bi := 14) c_97_163 sc_3.n rfl rfl rfl rfl (by rw [hUe]; exact hUp) ?_
      intro M10 eM10 hS10
      have hgz : M10 112 0 = My 112 0 := by rw [eM10]; exact nu_a (by omega)
      exact n_rI c_97_166 rfl ⟨⟨_, hS10⟩, by omega, by omega⟩
set_option maxHeartbeats 4000000 in
theorem act1_2 {xs : List Int32} {e : Nat} {ac : Int} {M : nM} {s gd : Int} (hS : Sf 2 ac M M) (hs : -2147483648 ≤ s ∧ s ≤ 2147483647) (hgd : M 112 0 = gd) : nW xs (e + 2) 97 0 [some (2, 3), some (0, 1), some (0, s), none, none, none] [] M (nPI fun z M1 => (∃ ac2, Sf 2 ac2 M1 M1) ∧ (-2147483648 ≤ z ∧ z ≤ 2147483647) ∧ (M1 112 0 = gd)) := by
  have hd : (2 : Int) = 2 ∨ (2 : Int) = 3 := by decide
  have hac := hS.2.2.2.2
  refine n_aload_n c_97_0 rfl ?_
  refine n_getR c_97_1 sc_3.n rfl rfl rfl r_3_1 ?_
  refine n_iload_n c_97_4 rfl ?_
  refine n_v1I c_97_5 rfl sc_8.n rfl rfl rfl rfl (isSlot_2 (s := s) hS (by omega)) ?_
  intro z1 M2 hP3
  obtain ⟨eM, f3, f3p0⟩ := hP3
  subst eM
  refine n_if0_eq c_97_8 (by omega) ?_ ?_
  · intro h4
    refine n_fg (le_n (le_n (le_n (le_n (le_n (le_n le_0)))))) ?_
    exact (act1_2_c hS hs hgd 26).1  M hS (by omega) (by omega)
  · intro h5
    refine n_aload_n c_97_11 rfl ?_
    refine n_iload_n c_97_12 rfl ?_
    refine n_v1I c_97_13 rfl sc_3.n rfl rfl rfl rfl (isPlaceCount_2 (k := 1) hS (by omega)) ?_
    intro z6 M7 hP8
    obtain ⟨eM, f8, f8p0⟩ := hP8
    subst eM
    refine n_if0_ne c_97_16 (by omega) ?_ ?_
    · intro h9
      refine n_aload_n c_97_22 rfl ?_
      refine n_getV (bi := 14) c_97_23 sc_3.n rfl rfl rfl (t_3_14x hS) ?_
      intro z10 ez10 f11
      have f11a := t_ac hS
      refine n_bipush c_97_26 rfl ?_
      refine n_if2_ge c_97_28 (by omega) (by omega) ?_ ?_
      · intro h12
        refine n_fg (le_n (le_n (le_n (le_n (le_n (le_n le_0)))))) ?_
        exact (act1_2_c hS hs hgd 26).2.1  M hS (by omega) (by omega)
      · intro h13
        refine n_iload_n c_97_31 rfl ?_
        refine n_iconst c_97_32 ?_
        refine n_if2_ne c_97_33 (by omega) (by omega) ?_ ?_
        · intro h14
          refine n_fg (le_s (le_s (le_s (le_n (le_n (le_n le_0)))))) ?_
          exact (act1_2_c hS hs hgd 26).2.2.1  M hS (by omega) (by omega) (by omega) (by omega)
        · intro h15
          exfalso; omega
    · intro h16
      refine n_fg (le_n (le_n (le_n (le_n (le_n (le_n le_0)))))) ?_
      exact (act1_2_c hS hs hgd 26).1  M hS (by omega) (by omega)

set_option maxHeartbeats 4000000 in
theorem actTake2_2_c {xs : List Int32} {e : Nat} {ac : Int} {M : nM} {p gd : Int} (hS : Sf 2 ac M M) (hp : ActAt p) (hpl : p = 55 + 3 * ac) (hgd : M 112 0 = gd) (ht : ∀ i : Int, 0 ≤ i → i < 4 → M 54 i ≤ 1) : ∀ nn : Nat, (∀ (x4 x5 : Int) (M : nM), Sf 2 ac M M → (0 ≤ x4 ∧ x4 ≤ 3) → (0 ≤ x5 ∧ x5 ≤ 8) → (M 112 0 = gd) → (M p 0 = 2) → (M p 1 = 4) → (∀ i : Int, 0 ≤ i → i < 4 → M 54 i ≤ 1) → (∀ i : Int, 0 ≤ i → i < x5 → M (p + 1) i ≤ 1) → (8 - x5) * 1 + 11 < (nn : Int) → nW xs (e + 1) 2 20 [some (2, p), none, some (2, 54), some (2, 4), some (0, x4), some (0, x5), none] [] M (nPV fun M1 => Sf 2 ac M1 M1 ∧ (M1 112 0 = gd) ∧ (M1 p 0 = 2 ∧ M1 p 1 = 4 ∧ ∀ i : Int, 0 ≤ i → i < 8 → M1 (p + 1) i ≤ 1 ∧ M1 (p + 2) i ≤ 1))) ∧ (∀ (x5 : Int) (M : nM), Sf 2 ac M M → (0 ≤ x5 ∧ x5 ≤ 8) → (M 112 0 = gd) → (M p 0 = 2) → (M p 1 = 4) → (∀ i : Int, 0 ≤ i → i < 8 → M (p + 1) i ≤ 1) → (∀ i : Int, 0 ≤ i → i < x5 → M (p + 2) i ≤ 1) → (8 - x5) * 1 + 1 < (nn : Int) → nW xs (e + 1) 2 70 [some (2, p), none, none, some (2, 4), none, some (0, x5), none] [] M (nPV fun M1 => Sf 2 ac M1 M1 ∧ (M1 112 0 = gd) ∧ (M1 p 0 = 2 ∧ M1 p 1 = 4 ∧ ∀ i : Int, 0 ≤ i → i < 8 → M1 (p + 1) i ≤ 1 ∧ M1 (p + 2) i ≤ 1))) := by
  have hd : (2 : Int) = 2 ∨ (2 : Int) = 3 := by decide
  have hac := hS.2.2.2.2
  have hpb := hp.1
  intro nn
  induction nn with
  | zero => refine ⟨?_, ?_⟩ <;> (intros; omega)
  | succ nn ih =>
    refine ⟨?_, ?_⟩
    · intro x4 x5 M hS k4 k5 hggd v0 v1 v2 v3 hnn
      refine n_iload c_2_20 rfl ?_
      refine n_aload_n c_2_22 rfl ?_
      refine n_getV (bi := 1) c_2_23 sc_4.n rfl rfl rfl (t_4_1 hS) ?_
      intro z1 ez1 f2
      obtain rfl : z1 = 8 := by omega
      refine n_if2_ge c_2_26 (by omega) (by omega) ?_ ?_
      · intro h3
        refine n_iconst c_2_67 ?_
        refine n_istore (L2 := [some (2, p), none, some (2, 54), some (2, 4), some (0, x4), some (0, 0), none]) c_2_68 rfl rfl ?_
        refine n_fg (le_s (le_n (le_n (le_s (le_n (le_s (le_n le_0))))))) ?_
        exact ih.2 _ M hS (by omega) (by omega) (by exact v0) (by exact v1) (by exact fun i h0 h1 => v3 i h0 (by omega)) (by exact fun i h0 h1 => by omega) (by omega)
      · intro h4
        refine n_aload_n c_2_29 rfl ?_
        refine n_getR c_2_30 hp.c0.1.n rfl rfl rfl hp.r.1 ?_
        refine n_iload c_2_33 rfl ?_
        refine n_aload_n c_2_35 rfl ?_
        refine n_iload c_2_36 rfl ?_
        refine n_ialoadV c_2_38 sc_54.n rfl rfl rfl (by omega) (t_54 hS (by omega)) ?_
        intro z5 ez5 f6
        have t38 := v2 x4 (by omega) (by omega)
        refine n_iastoreM hS c_2_39 hp.c0.2.1.n rfl (by omega) (m_actnr hp hpl (Or.inl rfl) (by omega) (by omega)) ?_
        intro M7 eM7 hS7
        have g7_0 : M7 112 0 = M 112 0 := by rw [eM7]; exact nu_a (by omega)
        have g7_1 : M7 p 1 = M p 1 := by rw [eM7]; exact nu_a (by omega)
        refine n_iload c_2_40 rfl ?_
        refine n_iconst c_2_42 ?_
        refine n_iadd c_2_43 rfl ?_
        refine n_aload_n c_2_44 rfl ?_
        refine n_getV (bi := 1) c_2_45 hp.c0.1.n rfl rfl rfl (show 4 ≤ M7 p 1 ∧ M7 p 1 ≤ 4 by omega) ?_
        intro z8 ez8 f9
        obtain rfl : z8 = 4 := by omega
        refine n_if2_ge c_2_48 (by omega) (by omega) ?_ ?_
        · intro h10
          refine n_iconst c_2_58 ?_
          refine n_istore (L2 := [some (2, p), none, some (2, 54), some (2, 4), some (0, 0), some (0, x5), none]) c_2_59 rfl rfl ?_
          refine n_iinc (L2 := [some (2, p), none, some (2, 54), some (2, 4), some (0, 0), some (0, (x5 + 1)), none]) c_2_61 rfl rfl rfl ?_
          refine n_goto c_2_64 ?_
          refine n_fg (le_s (le_n (le_s (le_s (le_s (le_s (le_n le_0))))))) ?_
          exact ih.1 _ _ M7 hS7 (by omega) (by omega) (by omega) (by rw [eM7, nu_a (by omega)]; exact v0) (by rw [eM7, nu_a (by omega)]; exact v1) (by exact fun i h0 h1 => by rw [eM7, nu_a (by omega)]; exact v2 i h0 h1) (by exact fun i h0 h1 => by rw [eM7, nu_e]; split <;> first | omega | exact v3 i h0 (by omega)) (by omega)
        · intro h11
          refine n_iload c_2_51 rfl ?_
          refine n_iconst c_2_53 ?_
          refine n_iadd c_2_54 rfl ?_
          refine n_goto c_2_55 ?_
          refine n_istore (L2 := [some (2, p), none, some (2, 54), some (2, 4), some (0, (x4 + 1)), some (0, x5), none]) c_2_59 rfl rfl ?_
          refine n_iinc (L2 := [some (2, p), none, some (2, 54), some (2, 4), some (0, (x4 + 1)), some (0, (x5 + 1)), none]) c_2_61 rfl rfl rfl ?_
          refine n_goto c_2_64 ?_
          refine n_fg (le_s (le_n (le_s (le_s (le_s (le_s (le_n le_0))))))) ?_
          exact ih.1 _ _ M7 hS7 (by omega) (by omega) (by omega) (by rw [eM7, nu_a (by omega)]; exact v0) (by rw [eM7, nu_a (by omega)]; exact v1) (by exact fun i h0 h1 => by rw [eM7, nu_a (by omega)]; exact v2 i h0 h1) (by exact fun i h0 h1 => by rw [eM7, nu_e]; split <;> first | omega | exact v3 i h0 (by omega)) (by omega)
    · intro x5 M hS k5 hggd v0 v1 v2 v3 hnn
      refine n_iload c_2_70 rfl ?_
      refine n_aload_n c_2_72 rfl ?_
      refine n_getV (bi := 1) c_2_73 sc_4.n rfl rfl rfl (t_4_1 hS) ?_
      intro z1 ez1 f2
      obtain rfl : z1 = 8 := by omega
      refine n_if2_ge c_2_76 (by omega) (by omega) ?_ ?_
      · intro h3
        exact n_rV c_2_134 rfl ⟨hS, by omega, by exact ⟨v0, v1, fun i h0 h1 => ⟨v2 i h0 (by omega), v3 i h0 (by omega)⟩⟩⟩
      · intro h4
        refine n_aload_n c_2_79 rfl ?_
        refine n_getR c_2_80 sc_4.n rfl rfl rfl r_4_2 ?_
        refine n_iload c_2_83 rfl ?_
        refine n_ialoadV c_2_85 sc_5.n rfl rfl rfl (by omega) (t_5d hS hd (by omega) (by omega)) ?_
        intro z5 ez5 f6
        refine n_aload_n c_2_86 rfl ?_
        refine n_getV (bi := 0) c_2_87 sc_4.n rfl rfl rfl (t_4_0 hS) ?_
        intro z7 ez7 f8
        obtain rfl : z7 = 2 := by omega
        refine n_imul c_2_90 rfl ?_
        refine n_aload_n c_2_91 rfl ?_
        refine n_getR c_2_92 sc_4.n rfl rfl rfl r_4_4 ?_
        refine n_iload c_2_95 rfl ?_
        refine n_ialoadV c_2_97 sc_7.n rfl rfl rfl (by omega) (t_7d hS hd (by omega) (by omega)) ?_
        intro z9 ez9 f10
        refine n_iadd c_2_98 rfl ?_
        refine n_aload_n c_2_99 rfl ?_
        refine n_getV (bi := 0) c_2_100 sc_4.n rfl rfl rfl (t_4_0 hS) ?_
        intro z11 ez11 f12
        obtain rfl : z11 = 2 := by omega
        refine n_imul c_2_103 rfl ?_
        refine n_aload_n c_2_104 rfl ?_
        refine n_getR c_2_105 sc_4.n rfl rfl rfl r_4_3 ?_
        refine n_iload c_2_108 rfl ?_
        refine n_ialoadV c_2_110 sc_6.n rfl rfl rfl (by omega) (t_6d hS hd (by omega) (by omega)) ?_
        intro z13 ez13 f14
        refine n_iadd c_2_111 rfl ?_
        refine n_istore (L2 := [some (2, p), none, none, some (2, 4), none, some (0, x5), some (0, ((((z5 * 2) + z9) * 2) + z13))]) c_2_112 rfl rfl ?_
        refine n_aload_n c_2_114 rfl ?_
        refine n_getR c_2_115 hp.c0.1.n rfl rfl rfl hp.r.2 ?_
        refine n_iload c_2_118 rfl ?_
        refine n_aload_n c_2_120 rfl ?_
        refine n_getR c_2_121 hp.c0.1.n rfl rfl rfl hp.r.1 ?_
        refine n_iload c_2_124 rfl ?_
        refine n_ialoadV c_2_126 hp.c0.2.1.n rfl rfl rfl (by omega) (t_actr hS hd hp (Or.inl rfl) (by omega)) ?_
        intro z15 ez15 f16
        have t126 := v2 ((((z5 * 2) + z9) * 2) + z13) (by omega) (by omega)
        refine n_iastoreM hS c_2_127 hp.c0.2.2.n rfl (by omega) (m_actnr hp hpl (Or.inr rfl) (by omega) (by omega)) ?_
        intro M17 eM17 hS17
        have g17_0 : M17 112 0 = M 112 0 := by rw [eM17]; exact nu_a (by omega)
        have g17_1 : M17 p 1 = M p 1 := by rw [eM17]; exact nu_a (by omega)
        refine n_iinc (L2 := [some (2, p), none, none, some (2, 4), none, some (0, (x5 + 1)), some (0, ((((z5 * 2) + z9) * 2) + z13))]) c_2_128 rfl rfl rfl ?_
        refine n_goto c_2_131 ?_
        refine n_fg (le_s (le_n (le_n (le_s (le_n (le_s (le_n le_0))))))) ?_
        exact ih.2 _ M17 hS17 (by omega) (by omega) (by rw [eM17, nu_a (by omega)]; exact v0) (by rw [eM17, nu_a (by omega)]; exact v1) (by exact fun i h0 h1 => by rw [eM17, nu_a (by omega)]; exact v2 i h0 h1) (by exact fun i h0 h1 => by rw [eM17, nu_e]; split <;> first | omega | exact v3 i h0 (by omega)) (by omega)
set_option maxHeartbeats 4000000 in
theorem actTake2_2 {xs : List Int32} {e : Nat} {ac : Int} {M : nM} {p gd : Int} (hS : Sf 2 ac M M) (hp : ActAt p) (hpl : p = 55 + 3 * ac) (hgd : M 112 0 = gd) (ht : ∀ i : Int, 0 ≤ i → i < 4 → M 54 i ≤ 1) : nW xs (e + 1) 2 0 [some (2, p), some (0, 2), some (2, 54), some (2, 4), none, none, none] [] M (nPV fun M1 => Sf 2 ac M1 M1 ∧ (M1 112 0 = gd) ∧ (M1 p 0 = 2 ∧ M1 p 1 = 4 ∧ ∀ i : Int, 0 ≤ i → i < 8 → M1 (p + 1) i ≤ 1 ∧ M1 (p + 2) i ≤ 1)) := by
  have hd : (2 : Int) = 2 ∨ (2 : Int) = 3 := by decide
  have hac := hS.2.2.2.2
  have hpb := hp.1
  refine n_aload_n c_2_0 rfl ?_
  refine n_iload_n c_2_1 rfl ?_
  refine n_putM (bi := 0) hS c_2_2 hp.c0.1.n rfl rfl rfl rfl (m_actn hp hpl (by omega) (by omega)) ?_
  intro M1 eM1 hS1
  have g1_0 : M1 112 0 = M 112 0 := by rw [eM1]; exact nu_a (by omega)
  have g1_1 : M1 p 0 = 2 := by rw [eM1]; exact nu_s _ _ _ _
  refine n_aload_n c_2_5 rfl ?_
  refine n_aload_n c_2_6 rfl ?_
  refine n_iload_n c_2_7 rfl ?_
  refine n_v1I c_2_8 rfl sc_4.n rfl rfl rfl rfl (power2_2  hS1 ) ?_
  intro z2 M3 hP4
  obtain ⟨eM, f4⟩ := hP4
  subst eM
  obtain rfl : z2 = 4 := by omega
  refine n_putM (bi := 1) hS1 c_2_11 hp.c0.1.n rfl rfl rfl rfl (m_actn hp hpl (by omega) (by omega)) ?_
  intro M5 eM5 hS5
  have g5_0 : M5 112 0 = M1 112 0 := by rw [eM5]; exact nu_a (by omega)
  have g5_1 : M5 p 0 = M1 p 0 := by rw [eM5]; exact nu_i (by omega)
  have g5_2 : M5 p 1 = 4 := by rw [eM5]; exact nu_s _ _ _ _
  refine n_iconst c_2_14 ?_
  refine n_istore (L2 := [some (2, p), some (0, 2), some (2, 54), some (2, 4), some (0, 0), none, none]) c_2_15 rfl rfl ?_
  refine n_iconst c_2_17 ?_
  refine n_istore (L2 := [some (2, p), some (0, 2), some (2, 54), some (2, 4), some (0, 0), some (0, 0), none]) c_2_18 rfl rfl ?_
  refine n_fg (le_s (le_n (le_s (le_s (le_s (le_s (le_n le_0))))))) ?_
  exact (actTake2_2_c hS hp hpl hgd ht 50).1 _ _ M5 hS5 (by omega) (by omega) (by omega) (by omega) (by omega) (by exact fun i h0 h1 => by rw [eM5, nu_a (by omega), eM1, nu_a (by omega)]; exact ht i h0 h1) (by exact fun i h0 h1 => by omega) (by omega)

set_option maxHeartbeats 4000000 in
theorem act2_2_c {xs : List Int32} {e : Nat} {ac : Int} {M : nM} {s gd : Int} (hS : Sf 2 ac M M) (hs : -2147483648 ≤ s ∧ s ≤ 2147483647) (hgd : M 112 0 = gd) : ∀ nn : Nat, (∀ (M : nM), Sf 2 ac M M → (M 112 0 = gd) → 10 < (nn : Int) → nW xs (e + 2) 97 19 [none, none, none, none, none, none] [] M (nPI fun z M1 => (∃ ac2, Sf 2 ac2 M1 M1) ∧ (-2147483648 ≤ z ∧ z ≤ 2147483647) ∧ (M1 112 0 = gd))) ∧ (∀ (M : nM), Sf 2 ac M M → (M 112 0 = gd) → 9 < (nn : Int) → nW xs (e + 2) 97 44 [none, none, none, none, none, none] [] M (nPI fun z M1 => (∃ ac2, Sf 2 ac2 M1 M1) ∧ (-2147483648 ≤ z ∧ z ≤ 2147483647) ∧ (M1 112 0 = gd))) ∧ (∀ (M : nM), Sf 2 ac M M → (0 ≤ s ∧ s ≤ 7) → (M 112 0 = gd) → (M 3 14 ≤ 7) → 8 < (nn : Int) → nW xs (e + 2) 97 47 [some (2, 3), some (0, 2), some (0, s), none, none, none] [] M (nPI fun z M1 => (∃ ac2, Sf 2 ac2 M1 M1) ∧ (-2147483648 ≤ z ∧ z ≤ 2147483647) ∧ (M1 112 0 = gd))) ∧ (∀ (x3 x4 : Int) (M : nM), Sf 2 ac M M → (0 ≤ s ∧ s ≤ 7) → (4 ≤ x3 ∧ x3 ≤ 4) → (0 ≤ x4 ∧ x4 ≤ 4) → (M 112 0 = gd) → (∀ i : Int, 0 ≤ i → i < x4 → M 54 i ≤ 1) → (M 3 14 ≤ 7) → (4 - x4) * 1 + 2 < (nn : Int) → nW xs (e + 2) 97 73 [some (2, 3), some (0, 2), some (0, s), some (0, x3), some (0, x4), none] [] M (nPI fun z M1 => (∃ ac2, Sf 2 ac2 M1 M1) ∧ (-2147483648 ≤ z ∧ z ≤ 2147483647) ∧ (M1 112 0 = gd))) ∧ (∀ (M : nM), Sf 2 ac M M → (M 112 0 = gd) → (∀ i : Int, 0 ≤ i → i < 4 → M 54 i ≤ 1) → (M 3 14 ≤ 7) → 1 < (nn : Int) → nW xs (e + 2) 97 130 [some (2, 3), some (0, 2), none, none, none, none] [] M (nPI fun z M1 => (∃ ac2, Sf 2 ac2 M1 M1) ∧ (-2147483648 ≤ z ∧ z ≤ 2147483647) ∧ (M1 112 0 = gd))) := by
  have hd : (2 : Int) = 2 ∨ (2 : Int) = 3 := by decide
  have hac := hS.2.2.2.2
  intro nn
  induction nn with
  | zero => refine ⟨?_, ?_, ?_, ?_, ?_⟩ <;> (intros; omega)
  | succ nn ih =>
    refine ⟨?_, ?_, ?_, ?_, ?_⟩
    · intro M hS hggd hnn
      refine n_bipush c_97_19 rfl ?_
      exact n_rI c_97_21 rfl ⟨⟨_, hS⟩, by omega, by omega⟩
    · intro M hS hggd hnn
      refine n_bipush c_97_44 rfl ?_
      exact n_rI c_97_46 rfl ⟨⟨_, hS⟩, by omega, by omega⟩
    · intro M hS k2 hggd v0 hnn
      refine n_aload_n c_97_47 rfl ?_
      refine n_getR c_97_48 sc_3.n rfl rfl rfl r_3_1 ?_
      refine n_iload_n c_97_51 rfl ?_
      refine n_v1I c_97_52 rfl sc_8.n rfl rfl rfl rfl (hasRow_2 (s := s) hS (by omega)) ?_
      intro z1 M2 hP3
      obtain ⟨eM, f3, f3p0⟩ := hP3
      subst eM
      refine n_if0_ne c_97_55 (by omega) ?_ ?_
      · intro h4
        refine n_aload_n c_97_61 rfl ?_
        refine n_getR c_97_62 sc_3.n rfl rfl rfl r_3_0 ?_
        refine n_iload_n c_97_65 rfl ?_
        refine n_v1I c_97_66 rfl sc_4.n rfl rfl rfl rfl (power2_2  hS ) ?_
        intro z5 M6 hP7
        obtain ⟨eM, f7⟩ := hP7
        subst eM
        obtain rfl : z5 = 4 := by omega
        refine n_istore_n (L2 := [some (2, 3), some (0, 2), some (0, s), some (0, 4), none, none]) c_97_69 rfl rfl ?_
        refine n_iconst c_97_70 ?_
        refine n_istore (L2 := [some (2, 3), some (0, 2), some (0, s), some (0, 4), some (0, 0), none]) c_97_71 rfl rfl ?_
        refine n_fg (le_s (le_s (le_s (le_s (le_s (le_n le_0)))))) ?_
        exact ih.2.2.2.1 _ _ M hS (by omega) (by omega) (by omega) (by omega) (by exact fun i h0 h1 => by omega) (by omega) (by omega)
      · intro h8
        refine n_bipush c_97_58 rfl ?_
        exact n_rI c_97_60 rfl ⟨⟨_, hS⟩, by omega, by omega⟩
    · intro x3 x4 M hS k2 k3 k4 hggd v0 v1 hnn
      refine n_iload c_97_73 rfl ?_
      refine n_iload_n c_97_75 rfl ?_
      refine n_if2_ge c_97_76 (by omega) (by omega) ?_ ?_
      · intro h1
        refine n_fg (le_s (le_s (le_n (le_n (le_n (le_n le_0)))))) ?_
        exact ih.2.2.2.2  M hS (by omega) (by exact fun i h0 h1 => v0 i h0 (by omega)) (by omega) (by omega)
      · intro h2
        refine n_iload c_97_79 rfl ?_
        refine n_bipush c_97_81 rfl ?_
        refine n_if2_ge c_97_83 (by omega) (by omega) ?_ ?_
        · intro h3
          exfalso; omega
        · intro h4
          refine n_aload_n c_97_86 rfl ?_
          refine n_getR c_97_87 sc_3.n rfl rfl rfl r_3_1 ?_
          refine n_iload_n c_97_90 rfl ?_
          refine n_iload c_97_91 rfl ?_
          refine n_aload_n c_97_93 rfl ?_
          refine n_getR c_97_94 sc_3.n rfl rfl rfl r_3_0 ?_
          refine n_getV (bi := 0) c_97_97 sc_4.n rfl rfl rfl (t_4_0 hS) ?_
          intro z5 ez5 f6
          obtain rfl : z5 = 2 := by omega
          refine n_iconst c_97_100 ?_
          refine n_isub c_97_101 rfl ?_
          have hcst : ((2 - 1) : Int) = 1 := by omega
          rw [hcst]
          refine n_v3I c_97_102 rfl sc_8.n rfl rfl rfl rfl (read1_2 (s := s) (i := x4) hS (by omega) (by omega)) ?_
          intro z7 M8 hP9
          obtain ⟨eM, f9⟩ := hP9
          subst eM
          refine n_istore (L2 := [some (2, 3), some (0, 2), some (0, s), some (0, x3), some (0, x4), some (0, z7)]) c_97_105 rfl rfl ?_
          refine n_iload c_97_107 rfl ?_
          refine n_if0_ge c_97_109 (by omega) ?_ ?_
          · intro h10
            refine n_aload_n c_97_115 rfl ?_
            refine n_getR c_97_116 sc_3.n rfl rfl rfl r_3_13 ?_
            refine n_iload c_97_119 rfl ?_
            refine n_iload c_97_121 rfl ?_
            refine n_iastoreM hS c_97_123 sc_54.n rfl (by omega) (m_54 (by omega) (by omega)) ?_
            intro M11 eM11 hS11
            have g11_0 : M11 112 0 = M 112 0 := by rw [eM11]; exact nu_a (by omega)
            have g11_1 : M11 3 14 = M 3 14 := by rw [eM11]; exact nu_a (by omega)
            refine n_iinc (L2 := [some (2, 3), some (0, 2), some (0, s), some (0, x3), some (0, (x4 + 1)), some (0, z7)]) c_97_124 rfl rfl rfl ?_
            refine n_goto c_97_127 ?_
            refine n_fg (le_s (le_s (le_s (le_s (le_s (le_n le_0)))))) ?_
            exact ih.2.2.2.1 _ _ M11 hS11 (by omega) (by omega) (by omega) (by omega) (by exact fun i h0 h1 => by rw [eM11, nu_e]; split <;> first | omega | exact v0 i h0 (by omega)) (by omega) (by omega)
          · intro h12
            refine n_iload c_97_112 rfl ?_
            exact n_rI c_97_114 rfl ⟨⟨_, hS⟩, by omega, by omega⟩
    · intro M hS hggd v0 v1 hnn
      refine n_aload_n c_97_130 rfl ?_
      refine n_getR c_97_131 sc_3.n rfl rfl rfl r_3_2 ?_
      refine n_aload_n c_97_134 rfl ?_
      refine n_getV (bi := 14) c_97_135 sc_3.n rfl rfl rfl (t_3_14x hS) ?_
      intro z1 ez1 f2
      have f2a := t_ac hS
      refine n_aaload c_97_138 sc_12.n rfl rfl rfl (by omega) (r_acts _) ?_
      have q3 : ActAt (55 + 3 * z1) := by unfold ActAt; omega
      have q3l : (55 + 3 * z1) = 55 + 3 * ac := by omega
      refine n_iload_n c_97_139 rfl ?_
      refine n_aload_n c_97_140 rfl ?_
      refine n_getR c_97_141 sc_3.n rfl rfl rfl r_3_13 ?_
      refine n_aload_n c_97_144 rfl ?_
      refine n_getR c_97_145 sc_3.n rfl rfl rfl r_3_0 ?_
      refine n_v3V c_97_148 rfl q3.c0.1.n rfl rfl rfl rfl (actTake2_2 (p := (55 + 3 * z1)) (gd := (M 112 0)) hS q3 q3l rfl (by exact fun i h0 h1 => v0 i h0 (by omega))) ?_
      intro  M4 hP5
      obtain ⟨hS4, f5g0, f5p0⟩ := hP5
      refine n_aload_n c_97_151 rfl ?_
      refine n_v0V c_97_152 rfl sc_3.n rfl rfl rfl rfl (forgetMade_2  hS4 ) ?_
      intro  M6 hP7
      have hS6 := hP7
      have hS6c := hS6.2.2.2.1.1
      have hS6 := hS6.refl
      have hS6k0 := hS6c 112 0 (by unfold core; omega)
      have na0 : M6 (55 + 3 * z1) 0 = 2 := (hS6c (55 + 3 * z1) 0 (by unfold core; omega)).trans f5p0.1
      have na1 : M6 (55 + 3 * z1) 1 = 4 := (hS6c (55 + 3 * z1) 1 (by unfold core; omega)).trans f5p0.2.1
      have na2 : ∀ i : Int, 0 ≤ i → i < 8 → M6 ((55 + 3 * z1) + 1) i ≤ 1 ∧ M6 ((55 + 3 * z1) + 2) i ≤ 1 := fun i h0 h1 => by rw [hS6c ((55 + 3 * z1) + 1) i (by unfold core; omega), hS6c ((55 + 3 * z1) + 2) i (by unfold core; omega)]; exact f5p0.2.2 i h0 h1
      refine n_aload_n c_97_155 rfl ?_
      refine n_dup2 c_97_156 ?_
      refine n_getV (bi := 14) c_97_157 sc_3.n rfl rfl rfl (t_3_14x hS6) ?_
      intro z8 ez8 f9
      have f9a := t_ac hS6
      refine n_dup_x102 c_97_160 ?_
      refine n_iconst c_97_161 ?_
      refine n_iadd c_97_162 rfl ?_
      refine n_jka (p := (55 + 3 * z1)) (v := 4) q3 ?_
      intro My fy jy
      have hSy := Sf.jka hS6 q3 (by omega) fy jy (by omega)
      have hNA : NA 2 2 4 (55 + 3 * z1) My := ⟨(fy _ _ (by omega)).trans na0, na_mk fy jy na1, fun i h0 h1 => by rw [fy _ i (by omega), fy _ i (by omega)]; exact na2 i h0 (by omega)⟩
      have hey : My 112 0 = M6 112 0 := fy 112 0 (by omega)
      have hUp := Sf.actUp hSy (by omega) (by omega) (by omega) (by omega) (by omega) hNA
      have hUe : ((z8 + 1) : Int) = ac + 1 := by omega
      refine n_putG (P := fun M2 => Sf 2 (ac + 1) M2 M2) (bi := 14) c_97_163 sc_3.n rfl rfl rfl rfl (by rw [hUe]; exact hUp) ?_
      intro M10 eM10 hS10
      have hgz : M10 112 0 = My 112 0 := by rw [eM10]; exact nu_a (by omega)
      exact n_rI c_97_166 rfl ⟨⟨_, hS10⟩, by omega, by omega⟩
set_option maxHeartbeats 4000000 in
theorem act2_2 {xs : List Int32} {e : Nat} {ac : Int} {M : nM} {s gd : Int} (hS : Sf 2 ac M M) (hs : -2147483648 ≤ s ∧ s ≤ 2147483647) (hgd : M 112 0 = gd) : nW xs (e + 2) 97 0 [some (2, 3), some (0, 2), some (0, s), none, none, none] [] M (nPI fun z M1 => (∃ ac2, Sf 2 ac2 M1 M1) ∧ (-2147483648 ≤ z ∧ z ≤ 2147483647) ∧ (M1 112 0 = gd)) := by
  have hd : (2 : Int) = 2 ∨ (2 : Int) = 3 := by decide
  have hac := hS.2.2.2.2
  refine n_aload_n c_97_0 rfl ?_
  refine n_getR c_97_1 sc_3.n rfl rfl rfl r_3_1 ?_
  refine n_iload_n c_97_4 rfl ?_
  refine n_v1I c_97_5 rfl sc_8.n rfl rfl rfl rfl (isSlot_2 (s := s) hS (by omega)) ?_
  intro z1 M2 hP3
  obtain ⟨eM, f3, f3p0⟩ := hP3
  subst eM
  refine n_if0_eq c_97_8 (by omega) ?_ ?_
  · intro h4
    refine n_fg (le_n (le_n (le_n (le_n (le_n (le_n le_0)))))) ?_
    exact (act2_2_c hS hs hgd 30).1  M hS (by omega) (by omega)
  · intro h5
    refine n_aload_n c_97_11 rfl ?_
    refine n_iload_n c_97_12 rfl ?_
    refine n_v1I c_97_13 rfl sc_3.n rfl rfl rfl rfl (isPlaceCount_2 (k := 2) hS (by omega)) ?_
    intro z6 M7 hP8
    obtain ⟨eM, f8, f8p0⟩ := hP8
    subst eM
    refine n_if0_ne c_97_16 (by omega) ?_ ?_
    · intro h9
      refine n_aload_n c_97_22 rfl ?_
      refine n_getV (bi := 14) c_97_23 sc_3.n rfl rfl rfl (t_3_14x hS) ?_
      intro z10 ez10 f11
      have f11a := t_ac hS
      refine n_bipush c_97_26 rfl ?_
      refine n_if2_ge c_97_28 (by omega) (by omega) ?_ ?_
      · intro h12
        refine n_fg (le_n (le_n (le_n (le_n (le_n (le_n le_0)))))) ?_
        exact (act2_2_c hS hs hgd 30).2.1  M hS (by omega) (by omega)
      · intro h13
        refine n_iload_n c_97_31 rfl ?_
        refine n_iconst c_97_32 ?_
        refine n_if2_ne c_97_33 (by omega) (by omega) ?_ ?_
        · intro h14
          refine n_fg (le_s (le_s (le_s (le_n (le_n (le_n le_0)))))) ?_
          exact (act2_2_c hS hs hgd 30).2.2.1  M hS (by omega) (by omega) (by omega) (by omega)
        · intro h15
          exfalso; omega
    · intro h16
      refine n_fg (le_n (le_n (le_n (le_n (le_n (le_n le_0)))))) ?_
      exact (act2_2_c hS hs hgd 30).1  M hS (by omega) (by omega)

set_option maxHeartbeats 4000000 in
theorem actTake3_2_c {xs : List Int32} {e : Nat} {ac : Int} {M : nM} {p gd : Int} (hS : Sf 2 ac M M) (hp : ActAt p) (hpl : p = 55 + 3 * ac) (hgd : M 112 0 = gd) (ht : ∀ i : Int, 0 ≤ i → i < 8 → M 54 i ≤ 1) : ∀ nn : Nat, (∀ (x4 x5 : Int) (M : nM), Sf 2 ac M M → (0 ≤ x4 ∧ x4 ≤ 7) → (0 ≤ x5 ∧ x5 ≤ 8) → (M 112 0 = gd) → (M p 0 = 3) → (M p 1 = 8) → (∀ i : Int, 0 ≤ i → i < 8 → M 54 i ≤ 1) → (∀ i : Int, 0 ≤ i → i < x5 → M (p + 1) i ≤ 1) → (8 - x5) * 1 + 11 < (nn : Int) → nW xs (e + 1) 2 20 [some (2, p), none, some (2, 54), some (2, 4), some (0, x4), some (0, x5), none] [] M (nPV fun M1 => Sf 2 ac M1 M1 ∧ (M1 112 0 = gd) ∧ (M1 p 0 = 3 ∧ M1 p 1 = 8 ∧ ∀ i : Int, 0 ≤ i → i < 8 → M1 (p + 1) i ≤ 1 ∧ M1 (p + 2) i ≤ 1))) ∧ (∀ (x5 : Int) (M : nM), Sf 2 ac M M → (0 ≤ x5 ∧ x5 ≤ 8) → (M 112 0 = gd) → (M p 0 = 3) → (M p 1 = 8) → (∀ i : Int, 0 ≤ i → i < 8 → M (p + 1) i ≤ 1) → (∀ i : Int, 0 ≤ i → i < x5 → M (p + 2) i ≤ 1) → (8 - x5) * 1 + 1 < (nn : Int) → nW xs (e + 1) 2 70 [some (2, p), none, none, some (2, 4), none, some (0, x5), none] [] M (nPV fun M1 => Sf 2 ac M1 M1 ∧ (M1 112 0 = gd) ∧ (M1 p 0 = 3 ∧ M1 p 1 = 8 ∧ ∀ i : Int, 0 ≤ i → i < 8 → M1 (p + 1) i ≤ 1 ∧ M1 (p + 2) i ≤ 1))) := by
  have hd : (2 : Int) = 2 ∨ (2 : Int) = 3 := by decide
  have hac := hS.2.2.2.2
  have hpb := hp.1
  intro nn
  induction nn with
  | zero => refine ⟨?_, ?_⟩ <;> (intros; omega)
  | succ nn ih =>
    refine ⟨?_, ?_⟩
    · intro x4 x5 M hS k4 k5 hggd v0 v1 v2 v3 hnn
      refine n_iload c_2_20 rfl ?_
      refine n_aload_n c_2_22 rfl ?_
      refine n_getV (bi := 1) c_2_23 sc_4.n rfl rfl rfl (t_4_1 hS) ?_
      intro z1 ez1 f2
      obtain rfl : z1 = 8 := by omega
      refine n_if2_ge c_2_26 (by omega) (by omega) ?_ ?_
      · intro h3
        refine n_iconst c_2_67 ?_
        refine n_istore (L2 := [some (2, p), none, some (2, 54), some (2, 4), some (0, x4), some (0, 0), none]) c_2_68 rfl rfl ?_
        refine n_fg (le_s (le_n (le_n (le_s (le_n (le_s (le_n le_0))))))) ?_
        exact ih.2 _ M hS (by omega) (by omega) (by exact v0) (by exact v1) (by exact fun i h0 h1 => v3 i h0 (by omega)) (by exact fun i h0 h1 => by omega) (by omega)
      · intro h4
        refine n_aload_n c_2_29 rfl ?_
        refine n_getR c_2_30 hp.c0.1.n rfl rfl rfl hp.r.1 ?_
        refine n_iload c_2_33 rfl ?_
        refine n_aload_n c_2_35 rfl ?_
        refine n_iload c_2_36 rfl ?_
        refine n_ialoadV c_2_38 sc_54.n rfl rfl rfl (by omega) (t_54 hS (by omega)) ?_
        intro z5 ez5 f6
        have t38 := v2 x4 (by omega) (by omega)
        refine n_iastoreM hS c_2_39 hp.c0.2.1.n rfl (by omega) (m_actnr hp hpl (Or.inl rfl) (by omega) (by omega)) ?_
        intro M7 eM7 hS7
        have g7_0 : M7 112 0 = M 112 0 := by rw [eM7]; exact nu_a (by omega)
        have g7_1 : M7 p 1 = M p 1 := by rw [eM7]; exact nu_a (by omega)
        refine n_iload c_2_40 rfl ?_
        refine n_iconst c_2_42 ?_
        refine n_iadd c_2_43 rfl ?_
        refine n_aload_n c_2_44 rfl ?_
        refine n_getV (bi := 1) c_2_45 hp.c0.1.n rfl rfl rfl (show 8 ≤ M7 p 1 ∧ M7 p 1 ≤ 8 by omega) ?_
        intro z8 ez8 f9
        obtain rfl : z8 = 8 := by omega
        refine n_if2_ge c_2_48 (by omega) (by omega) ?_ ?_
        · intro h10
          refine n_iconst c_2_58 ?_
          refine n_istore (L2 := [some (2, p), none, some (2, 54), some (2, 4), some (0, 0), some (0, x5), none]) c_2_59 rfl rfl ?_
          refine n_iinc (L2 := [some (2, p), none, some (2, 54), some (2, 4), some (0, 0), some (0, (x5 + 1)), none]) c_2_61 rfl rfl rfl ?_
          refine n_goto c_2_64 ?_
          refine n_fg (le_s (le_n (le_s (le_s (le_s (le_s (le_n le_0))))))) ?_
          exact ih.1 _ _ M7 hS7 (by omega) (by omega) (by omega) (by rw [eM7, nu_a (by omega)]; exact v0) (by rw [eM7, nu_a (by omega)]; exact v1) (by exact fun i h0 h1 => by rw [eM7, nu_a (by omega)]; exact v2 i h0 h1) (by exact fun i h0 h1 => by rw [eM7, nu_e]; split <;> first | omega | exact v3 i h0 (by omega)) (by omega)
        · intro h11
          refine n_iload c_2_51 rfl ?_
          refine n_iconst c_2_53 ?_
          refine n_iadd c_2_54 rfl ?_
          refine n_goto c_2_55 ?_
          refine n_istore (L2 := [some (2, p), none, some (2, 54), some (2, 4), some (0, (x4 + 1)), some (0, x5), none]) c_2_59 rfl rfl ?_
          refine n_iinc (L2 := [some (2, p), none, some (2, 54), some (2, 4), some (0, (x4 + 1)), some (0, (x5 + 1)), none]) c_2_61 rfl rfl rfl ?_
          refine n_goto c_2_64 ?_
          refine n_fg (le_s (le_n (le_s (le_s (le_s (le_s (le_n le_0))))))) ?_
          exact ih.1 _ _ M7 hS7 (by omega) (by omega) (by omega) (by rw [eM7, nu_a (by omega)]; exact v0) (by rw [eM7, nu_a (by omega)]; exact v1) (by exact fun i h0 h1 => by rw [eM7, nu_a (by omega)]; exact v2 i h0 h1) (by exact fun i h0 h1 => by rw [eM7, nu_e]; split <;> first | omega | exact v3 i h0 (by omega)) (by omega)
    · intro x5 M hS k5 hggd v0 v1 v2 v3 hnn
      refine n_iload c_2_70 rfl ?_
      refine n_aload_n c_2_72 rfl ?_
      refine n_getV (bi := 1) c_2_73 sc_4.n rfl rfl rfl (t_4_1 hS) ?_
      intro z1 ez1 f2
      obtain rfl : z1 = 8 := by omega
      refine n_if2_ge c_2_76 (by omega) (by omega) ?_ ?_
      · intro h3
        exact n_rV c_2_134 rfl ⟨hS, by omega, by exact ⟨v0, v1, fun i h0 h1 => ⟨v2 i h0 (by omega), v3 i h0 (by omega)⟩⟩⟩
      · intro h4
        refine n_aload_n c_2_79 rfl ?_
        refine n_getR c_2_80 sc_4.n rfl rfl rfl r_4_2 ?_
        refine n_iload c_2_83 rfl ?_
        refine n_ialoadV c_2_85 sc_5.n rfl rfl rfl (by omega) (t_5d hS hd (by omega) (by omega)) ?_
        intro z5 ez5 f6
        refine n_aload_n c_2_86 rfl ?_
        refine n_getV (bi := 0) c_2_87 sc_4.n rfl rfl rfl (t_4_0 hS) ?_
        intro z7 ez7 f8
        obtain rfl : z7 = 2 := by omega
        refine n_imul c_2_90 rfl ?_
        refine n_aload_n c_2_91 rfl ?_
        refine n_getR c_2_92 sc_4.n rfl rfl rfl r_4_4 ?_
        refine n_iload c_2_95 rfl ?_
        refine n_ialoadV c_2_97 sc_7.n rfl rfl rfl (by omega) (t_7d hS hd (by omega) (by omega)) ?_
        intro z9 ez9 f10
        refine n_iadd c_2_98 rfl ?_
        refine n_aload_n c_2_99 rfl ?_
        refine n_getV (bi := 0) c_2_100 sc_4.n rfl rfl rfl (t_4_0 hS) ?_
        intro z11 ez11 f12
        obtain rfl : z11 = 2 := by omega
        refine n_imul c_2_103 rfl ?_
        refine n_aload_n c_2_104 rfl ?_
        refine n_getR c_2_105 sc_4.n rfl rfl rfl r_4_3 ?_
        refine n_iload c_2_108 rfl ?_
        refine n_ialoadV c_2_110 sc_6.n rfl rfl rfl (by omega) (t_6d hS hd (by omega) (by omega)) ?_
        intro z13 ez13 f14
        refine n_iadd c_2_111 rfl ?_
        refine n_istore (L2 := [some (2, p), none, none, some (2, 4), none, some (0, x5), some (0, ((((z5 * 2) + z9) * 2) + z13))]) c_2_112 rfl rfl ?_
        refine n_aload_n c_2_114 rfl ?_
        refine n_getR c_2_115 hp.c0.1.n rfl rfl rfl hp.r.2 ?_
        refine n_iload c_2_118 rfl ?_
        refine n_aload_n c_2_120 rfl ?_
        refine n_getR c_2_121 hp.c0.1.n rfl rfl rfl hp.r.1 ?_
        refine n_iload c_2_124 rfl ?_
        refine n_ialoadV c_2_126 hp.c0.2.1.n rfl rfl rfl (by omega) (t_actr hS hd hp (Or.inl rfl) (by omega)) ?_
        intro z15 ez15 f16
        have t126 := v2 ((((z5 * 2) + z9) * 2) + z13) (by omega) (by omega)
        refine n_iastoreM hS c_2_127 hp.c0.2.2.n rfl (by omega) (m_actnr hp hpl (Or.inr rfl) (by omega) (by omega)) ?_
        intro M17 eM17 hS17
        have g17_0 : M17 112 0 = M 112 0 := by rw [eM17]; exact nu_a (by omega)
        have g17_1 : M17 p 1 = M p 1 := by rw [eM17]; exact nu_a (by omega)
        refine n_iinc (L2 := [some (2, p), none, none, some (2, 4), none, some (0, (x5 + 1)), some (0, ((((z5 * 2) + z9) * 2) + z13))]) c_2_128 rfl rfl rfl ?_
        refine n_goto c_2_131 ?_
        refine n_fg (le_s (le_n (le_n (le_s (le_n (le_s (le_n le_0))))))) ?_
        exact ih.2 _ M17 hS17 (by omega) (by omega) (by rw [eM17, nu_a (by omega)]; exact v0) (by rw [eM17, nu_a (by omega)]; exact v1) (by exact fun i h0 h1 => by rw [eM17, nu_a (by omega)]; exact v2 i h0 h1) (by exact fun i h0 h1 => by rw [eM17, nu_e]; split <;> first | omega | exact v3 i h0 (by omega)) (by omega)
set_option maxHeartbeats 4000000 in
theorem actTake3_2 {xs : List Int32} {e : Nat} {ac : Int} {M : nM} {p gd : Int} (hS : Sf 2 ac M M) (hp : ActAt p) (hpl : p = 55 + 3 * ac) (hgd : M 112 0 = gd) (ht : ∀ i : Int, 0 ≤ i → i < 8 → M 54 i ≤ 1) : nW xs (e + 1) 2 0 [some (2, p), some (0, 3), some (2, 54), some (2, 4), none, none, none] [] M (nPV fun M1 => Sf 2 ac M1 M1 ∧ (M1 112 0 = gd) ∧ (M1 p 0 = 3 ∧ M1 p 1 = 8 ∧ ∀ i : Int, 0 ≤ i → i < 8 → M1 (p + 1) i ≤ 1 ∧ M1 (p + 2) i ≤ 1)) := by
  have hd : (2 : Int) = 2 ∨ (2 : Int) = 3 := by decide
  have hac := hS.2.2.2.2
  have hpb := hp.1
  refine n_aload_n c_2_0 rfl ?_
  refine n_iload_n c_2_1 rfl ?_
  refine n_putM (bi := 0) hS c_2_2 hp.c0.1.n rfl rfl rfl rfl (m_actn hp hpl (by omega) (by omega)) ?_
  intro M1 eM1 hS1
  have g1_0 : M1 112 0 = M 112 0 := by rw [eM1]; exact nu_a (by omega)
  have g1_1 : M1 p 0 = 3 := by rw [eM1]; exact nu_s _ _ _ _
  refine n_aload_n c_2_5 rfl ?_
  refine n_aload_n c_2_6 rfl ?_
  refine n_iload_n c_2_7 rfl ?_
  refine n_v1I c_2_8 rfl sc_4.n rfl rfl rfl rfl (power3_2  hS1 ) ?_
  intro z2 M3 hP4
  obtain ⟨eM, f4⟩ := hP4
  subst eM
  obtain rfl : z2 = 8 := by omega
  refine n_putM (bi := 1) hS1 c_2_11 hp.c0.1.n rfl rfl rfl rfl (m_actn hp hpl (by omega) (by omega)) ?_
  intro M5 eM5 hS5
  have g5_0 : M5 112 0 = M1 112 0 := by rw [eM5]; exact nu_a (by omega)
  have g5_1 : M5 p 0 = M1 p 0 := by rw [eM5]; exact nu_i (by omega)
  have g5_2 : M5 p 1 = 8 := by rw [eM5]; exact nu_s _ _ _ _
  refine n_iconst c_2_14 ?_
  refine n_istore (L2 := [some (2, p), some (0, 3), some (2, 54), some (2, 4), some (0, 0), none, none]) c_2_15 rfl rfl ?_
  refine n_iconst c_2_17 ?_
  refine n_istore (L2 := [some (2, p), some (0, 3), some (2, 54), some (2, 4), some (0, 0), some (0, 0), none]) c_2_18 rfl rfl ?_
  refine n_fg (le_s (le_n (le_s (le_s (le_s (le_s (le_n le_0))))))) ?_
  exact (actTake3_2_c hS hp hpl hgd ht 50).1 _ _ M5 hS5 (by omega) (by omega) (by omega) (by omega) (by omega) (by exact fun i h0 h1 => by rw [eM5, nu_a (by omega), eM1, nu_a (by omega)]; exact ht i h0 h1) (by exact fun i h0 h1 => by omega) (by omega)

set_option maxHeartbeats 4000000 in
theorem act3_2_c {xs : List Int32} {e : Nat} {ac : Int} {M : nM} {s gd : Int} (hS : Sf 2 ac M M) (hs : -2147483648 ≤ s ∧ s ≤ 2147483647) (hgd : M 112 0 = gd) : ∀ nn : Nat, (∀ (M : nM), Sf 2 ac M M → (M 112 0 = gd) → 14 < (nn : Int) → nW xs (e + 2) 97 19 [none, none, none, none, none, none] [] M (nPI fun z M1 => (∃ ac2, Sf 2 ac2 M1 M1) ∧ (-2147483648 ≤ z ∧ z ≤ 2147483647) ∧ (M1 112 0 = gd))) ∧ (∀ (M : nM), Sf 2 ac M M → (M 112 0 = gd) → 13 < (nn : Int) → nW xs (e + 2) 97 44 [none, none, none, none, none, none] [] M (nPI fun z M1 => (∃ ac2, Sf 2 ac2 M1 M1) ∧ (-2147483648 ≤ z ∧ z ≤ 2147483647) ∧ (M1 112 0 = gd))) ∧ (∀ (M : nM), Sf 2 ac M M → (0 ≤ s ∧ s ≤ 7) → (M 112 0 = gd) → (M 3 14 ≤ 7) → 12 < (nn : Int) → nW xs (e + 2) 97 47 [some (2, 3), some (0, 3), some (0, s), none, none, none] [] M (nPI fun z M1 => (∃ ac2, Sf 2 ac2 M1 M1) ∧ (-2147483648 ≤ z ∧ z ≤ 2147483647) ∧ (M1 112 0 = gd))) ∧ (∀ (x3 x4 : Int) (M : nM), Sf 2 ac M M → (0 ≤ s ∧ s ≤ 7) → (8 ≤ x3 ∧ x3 ≤ 8) → (0 ≤ x4 ∧ x4 ≤ 8) → (M 112 0 = gd) → (∀ i : Int, 0 ≤ i → i < x4 → M 54 i ≤ 1) → (M 3 14 ≤ 7) → (8 - x4) * 1 + 2 < (nn : Int) → nW xs (e + 2) 97 73 [some (2, 3), some (0, 3), some (0, s), some (0, x3), some (0, x4), none] [] M (nPI fun z M1 => (∃ ac2, Sf 2 ac2 M1 M1) ∧ (-2147483648 ≤ z ∧ z ≤ 2147483647) ∧ (M1 112 0 = gd))) ∧ (∀ (M : nM), Sf 2 ac M M → (M 112 0 = gd) → (∀ i : Int, 0 ≤ i → i < 8 → M 54 i ≤ 1) → (M 3 14 ≤ 7) → 1 < (nn : Int) → nW xs (e + 2) 97 130 [some (2, 3), some (0, 3), none, none, none, none] [] M (nPI fun z M1 => (∃ ac2, Sf 2 ac2 M1 M1) ∧ (-2147483648 ≤ z ∧ z ≤ 2147483647) ∧ (M1 112 0 = gd))) := by
  have hd : (2 : Int) = 2 ∨ (2 : Int) = 3 := by decide
  have hac := hS.2.2.2.2
  intro nn
  induction nn with
  | zero => refine ⟨?_, ?_, ?_, ?_, ?_⟩ <;> (intros; omega)
  | succ nn ih =>
    refine ⟨?_, ?_, ?_, ?_, ?_⟩
    · intro M hS hggd hnn
      refine n_bipush c_97_19 rfl ?_
      exact n_rI c_97_21 rfl ⟨⟨_, hS⟩, by omega, by omega⟩
    · intro M hS hggd hnn
      refine n_bipush c_97_44 rfl ?_
      exact n_rI c_97_46 rfl ⟨⟨_, hS⟩, by omega, by omega⟩
    · intro M hS k2 hggd v0 hnn
      refine n_aload_n c_97_47 rfl ?_
      refine n_getR c_97_48 sc_3.n rfl rfl rfl r_3_1 ?_
      refine n_iload_n c_97_51 rfl ?_
      refine n_v1I c_97_52 rfl sc_8.n rfl rfl rfl rfl (hasRow_2 (s := s) hS (by omega)) ?_
      intro z1 M2 hP3
      obtain ⟨eM, f3, f3p0⟩ := hP3
      subst eM
      refine n_if0_ne c_97_55 (by omega) ?_ ?_
      · intro h4
        refine n_aload_n c_97_61 rfl ?_
        refine n_getR c_97_62 sc_3.n rfl rfl rfl r_3_0 ?_
        refine n_iload_n c_97_65 rfl ?_
        refine n_v1I c_97_66 rfl sc_4.n rfl rfl rfl rfl (power3_2  hS ) ?_
        intro z5 M6 hP7
        obtain ⟨eM, f7⟩ := hP7
        subst eM
        obtain rfl : z5 = 8 := by omega
        refine n_istore_n (L2 := [some (2, 3), some (0, 3), some (0, s), some (0, 8), none, none]) c_97_69 rfl rfl ?_
        refine n_iconst c_97_70 ?_
        refine n_istore (L2 := [some (2, 3), some (0, 3), some (0, s), some (0, 8), some (0, 0), none]) c_97_71 rfl rfl ?_
        refine n_fg (le_s (le_s (le_s (le_s (le_s (le_n le_0)))))) ?_
        exact ih.2.2.2.1 _ _ M hS (by omega) (by omega) (by omega) (by omega) (by exact fun i h0 h1 => by omega) (by omega) (by omega)
      · intro h8
        refine n_bipush c_97_58 rfl ?_
        exact n_rI c_97_60 rfl ⟨⟨_, hS⟩, by omega, by omega⟩
    · intro x3 x4 M hS k2 k3 k4 hggd v0 v1 hnn
      refine n_iload c_97_73 rfl ?_
      refine n_iload_n c_97_75 rfl ?_
      refine n_if2_ge c_97_76 (by omega) (by omega) ?_ ?_
      · intro h1
        refine n_fg (le_s (le_s (le_n (le_n (le_n (le_n le_0)))))) ?_
        exact ih.2.2.2.2  M hS (by omega) (by exact fun i h0 h1 => v0 i h0 (by omega)) (by omega) (by omega)
      · intro h2
        refine n_iload c_97_79 rfl ?_
        refine n_bipush c_97_81 rfl ?_
        refine n_if2_ge c_97_83 (by omega) (by omega) ?_ ?_
        · intro h3
          exfalso; omega
        · intro h4
          refine n_aload_n c_97_86 rfl ?_
          refine n_getR c_97_87 sc_3.n rfl rfl rfl r_3_1 ?_
          refine n_iload_n c_97_90 rfl ?_
          refine n_iload c_97_91 rfl ?_
          refine n_aload_n c_97_93 rfl ?_
          refine n_getR c_97_94 sc_3.n rfl rfl rfl r_3_0 ?_
          refine n_getV (bi := 0) c_97_97 sc_4.n rfl rfl rfl (t_4_0 hS) ?_
          intro z5 ez5 f6
          obtain rfl : z5 = 2 := by omega
          refine n_iconst c_97_100 ?_
          refine n_isub c_97_101 rfl ?_
          have hcst : ((2 - 1) : Int) = 1 := by omega
          rw [hcst]
          refine n_v3I c_97_102 rfl sc_8.n rfl rfl rfl rfl (read1_2 (s := s) (i := x4) hS (by omega) (by omega)) ?_
          intro z7 M8 hP9
          obtain ⟨eM, f9⟩ := hP9
          subst eM
          refine n_istore (L2 := [some (2, 3), some (0, 3), some (0, s), some (0, x3), some (0, x4), some (0, z7)]) c_97_105 rfl rfl ?_
          refine n_iload c_97_107 rfl ?_
          refine n_if0_ge c_97_109 (by omega) ?_ ?_
          · intro h10
            refine n_aload_n c_97_115 rfl ?_
            refine n_getR c_97_116 sc_3.n rfl rfl rfl r_3_13 ?_
            refine n_iload c_97_119 rfl ?_
            refine n_iload c_97_121 rfl ?_
            refine n_iastoreM hS c_97_123 sc_54.n rfl (by omega) (m_54 (by omega) (by omega)) ?_
            intro M11 eM11 hS11
            have g11_0 : M11 112 0 = M 112 0 := by rw [eM11]; exact nu_a (by omega)
            have g11_1 : M11 3 14 = M 3 14 := by rw [eM11]; exact nu_a (by omega)
            refine n_iinc (L2 := [some (2, 3), some (0, 3), some (0, s), some (0, x3), some (0, (x4 + 1)), some (0, z7)]) c_97_124 rfl rfl rfl ?_
            refine n_goto c_97_127 ?_
            refine n_fg (le_s (le_s (le_s (le_s (le_s (le_n le_0)))))) ?_
            exact ih.2.2.2.1 _ _ M11 hS11 (by omega) (by omega) (by omega) (by omega) (by exact fun i h0 h1 => by rw [eM11, nu_e]; split <;> first | omega | exact v0 i h0 (by omega)) (by omega) (by omega)
          · intro h12
            refine n_iload c_97_112 rfl ?_
            exact n_rI c_97_114 rfl ⟨⟨_, hS⟩, by omega, by omega⟩
    · intro M hS hggd v0 v1 hnn
      refine n_aload_n c_97_130 rfl ?_
      refine n_getR c_97_131 sc_3.n rfl rfl rfl r_3_2 ?_
      refine n_aload_n c_97_134 rfl ?_
      refine n_getV (bi := 14) c_97_135 sc_3.n rfl rfl rfl (t_3_14x hS) ?_
      intro z1 ez1 f2
      have f2a := t_ac hS
      refine n_aaload c_97_138 sc_12.n rfl rfl rfl (by omega) (r_acts _) ?_
      have q3 : ActAt (55 + 3 * z1) := by unfold ActAt; omega
      have q3l : (55 + 3 * z1) = 55 + 3 * ac := by omega
      refine n_iload_n c_97_139 rfl ?_
      refine n_aload_n c_97_140 rfl ?_
      refine n_getR c_97_141 sc_3.n rfl rfl rfl r_3_13 ?_
      refine n_aload_n c_97_144 rfl ?_
      refine n_getR c_97_145 sc_3.n rfl rfl rfl r_3_0 ?_
      refine n_v3V c_97_148 rfl q3.c0.1.n rfl rfl rfl rfl (actTake3_2 (p := (55 + 3 * z1)) (gd := (M 112 0)) hS q3 q3l rfl (by exact fun i h0 h1 => v0 i h0 (by omega))) ?_
      intro  M4 hP5
      obtain ⟨hS4, f5g0, f5p0⟩ := hP5
      refine n_aload_n c_97_151 rfl ?_
      refine n_v0V c_97_152 rfl sc_3.n rfl rfl rfl rfl (forgetMade_2  hS4 ) ?_
      intro  M6 hP7
      have hS6 := hP7
      have hS6c := hS6.2.2.2.1.1
      have hS6 := hS6.refl
      have hS6k0 := hS6c 112 0 (by unfold core; omega)
      have na0 : M6 (55 + 3 * z1) 0 = 3 := (hS6c (55 + 3 * z1) 0 (by unfold core; omega)).trans f5p0.1
      have na1 : M6 (55 + 3 * z1) 1 = 8 := (hS6c (55 + 3 * z1) 1 (by unfold core; omega)).trans f5p0.2.1
      have na2 : ∀ i : Int, 0 ≤ i → i < 8 → M6 ((55 + 3 * z1) + 1) i ≤ 1 ∧ M6 ((55 + 3 * z1) + 2) i ≤ 1 := fun i h0 h1 => by rw [hS6c ((55 + 3 * z1) + 1) i (by unfold core; omega), hS6c ((55 + 3 * z1) + 2) i (by unfold core; omega)]; exact f5p0.2.2 i h0 h1
      refine n_aload_n c_97_155 rfl ?_
      refine n_dup2 c_97_156 ?_
      refine n_getV (bi := 14) c_97_157 sc_3.n rfl rfl rfl (t_3_14x hS6) ?_
      intro z8 ez8 f9
      have f9a := t_ac hS6
      refine n_dup_x102 c_97_160 ?_
      refine n_iconst c_97_161 ?_
      refine n_iadd c_97_162 rfl ?_
      refine n_jka (p := (55 + 3 * z1)) (v := 8) q3 ?_
      intro My fy jy
      have hSy := Sf.jka hS6 q3 (by omega) fy jy (by omega)
      have hNA : NA 2 3 8 (55 + 3 * z1) My := ⟨(fy _ _ (by omega)).trans na0, na_mk fy jy na1, fun i h0 h1 => by rw [fy _ i (by omega), fy _ i (by omega)]; exact na2 i h0 (by omega)⟩
      have hey : My 112 0 = M6 112 0 := fy 112 0 (by omega)
      have hUp := Sf.actUp hSy (by omega) (by omega) (by omega) (by omega) (by omega) hNA
      have hUe : ((z8 + 1) : Int) = ac + 1 := by omega
      refine n_putG (P := fun M2 => Sf 2 (ac + 1) M2 M2) (bi := 14) c_97_163 sc_3.n rfl rfl rfl rfl (by rw [hUe]; exact hUp) ?_
      intro M10 eM10 hS10
      have hgz : M10 112 0 = My 112 0 := by rw [eM10]; exact nu_a (by omega)
      exact n_rI c_97_166 rfl ⟨⟨_, hS10⟩, by omega, by omega⟩
set_option maxHeartbeats 4000000 in
theorem act3_2 {xs : List Int32} {e : Nat} {ac : Int} {M : nM} {s gd : Int} (hS : Sf 2 ac M M) (hs : -2147483648 ≤ s ∧ s ≤ 2147483647) (hgd : M 112 0 = gd) : nW xs (e + 2) 97 0 [some (2, 3), some (0, 3), some (0, s), none, none, none] [] M (nPI fun z M1 => (∃ ac2, Sf 2 ac2 M1 M1) ∧ (-2147483648 ≤ z ∧ z ≤ 2147483647) ∧ (M1 112 0 = gd)) := by
  have hd : (2 : Int) = 2 ∨ (2 : Int) = 3 := by decide
  have hac := hS.2.2.2.2
  refine n_aload_n c_97_0 rfl ?_
  refine n_getR c_97_1 sc_3.n rfl rfl rfl r_3_1 ?_
  refine n_iload_n c_97_4 rfl ?_
  refine n_v1I c_97_5 rfl sc_8.n rfl rfl rfl rfl (isSlot_2 (s := s) hS (by omega)) ?_
  intro z1 M2 hP3
  obtain ⟨eM, f3, f3p0⟩ := hP3
  subst eM
  refine n_if0_eq c_97_8 (by omega) ?_ ?_
  · intro h4
    refine n_fg (le_n (le_n (le_n (le_n (le_n (le_n le_0)))))) ?_
    exact (act3_2_c hS hs hgd 38).1  M hS (by omega) (by omega)
  · intro h5
    refine n_aload_n c_97_11 rfl ?_
    refine n_iload_n c_97_12 rfl ?_
    refine n_v1I c_97_13 rfl sc_3.n rfl rfl rfl rfl (isPlaceCount_2 (k := 3) hS (by omega)) ?_
    intro z6 M7 hP8
    obtain ⟨eM, f8, f8p0⟩ := hP8
    subst eM
    refine n_if0_ne c_97_16 (by omega) ?_ ?_
    · intro h9
      refine n_aload_n c_97_22 rfl ?_
      refine n_getV (bi := 14) c_97_23 sc_3.n rfl rfl rfl (t_3_14x hS) ?_
      intro z10 ez10 f11
      have f11a := t_ac hS
      refine n_bipush c_97_26 rfl ?_
      refine n_if2_ge c_97_28 (by omega) (by omega) ?_ ?_
      · intro h12
        refine n_fg (le_n (le_n (le_n (le_n (le_n (le_n le_0)))))) ?_
        exact (act3_2_c hS hs hgd 38).2.1  M hS (by omega) (by omega)
      · intro h13
        refine n_iload_n c_97_31 rfl ?_
        refine n_iconst c_97_32 ?_
        refine n_if2_ne c_97_33 (by omega) (by omega) ?_ ?_
        · intro h14
          exfalso; omega
        · intro h15
          refine n_aload_n c_97_36 rfl ?_
          refine n_v0I c_97_37 rfl sc_3.n rfl rfl rfl rfl (actsOfThree_2  hS ) ?_
          intro z16 M17 hP18
          obtain ⟨eM, f18⟩ := hP18
          subst eM
          refine n_iconst c_97_40 ?_
          refine n_if2_lt c_97_41 (by omega) (by omega) ?_ ?_
          · intro h19
            refine n_fg (le_s (le_s (le_s (le_n (le_n (le_n le_0)))))) ?_
            exact (act3_2_c hS hs hgd 38).2.2.1  M hS (by omega) (by omega) (by omega) (by omega)
          · intro h20
            refine n_fg (le_n (le_n (le_n (le_n (le_n (le_n le_0)))))) ?_
            exact (act3_2_c hS hs hgd 38).2.1  M hS (by omega) (by omega)
    · intro h21
      refine n_fg (le_n (le_n (le_n (le_n (le_n (le_n le_0)))))) ?_
      exact (act3_2_c hS hs hgd 38).1  M hS (by omega) (by omega)

set_option maxHeartbeats 4000000 in
theorem actL_2_c {xs : List Int32} {e : Nat} {ac : Int} {M0 M : nM} {k s : Int} (hS : Sf 2 ac M0 M) (hk : -2147483648 ≤ k ∧ k ≤ 0) (hs : -2147483648 ≤ s ∧ s ≤ 2147483647) : ∀ nn : Nat, (1 < (nn : Int) → nW xs (e + 2) 97 19 [none, none, none, none, none, none] [] M (nPI fun z M1 => M = M1 ∧ (-2147483648 ≤ z ∧ z ≤ 2147483647))) := by
  have hd : (2 : Int) = 2 ∨ (2 : Int) = 3 := by decide
  have hac := hS.2.2.2.2
  intro nn
  induction nn with
  | zero => intros; omega
  | succ nn ih =>
    intro hnn
    refine n_bipush c_97_19 rfl ?_
    exact n_rI c_97_21 rfl ⟨rfl, by omega⟩
set_option maxHeartbeats 4000000 in
theorem actL_2 {xs : List Int32} {e : Nat} {ac : Int} {M0 M : nM} {k s : Int} (hS : Sf 2 ac M0 M) (hk : -2147483648 ≤ k ∧ k ≤ 0) (hs : -2147483648 ≤ s ∧ s ≤ 2147483647) : nW xs (e + 2) 97 0 [some (2, 3), some (0, k), some (0, s), none, none, none] [] M (nPI fun z M1 => M = M1 ∧ (-2147483648 ≤ z ∧ z ≤ 2147483647)) := by
  have hd : (2 : Int) = 2 ∨ (2 : Int) = 3 := by decide
  have hac := hS.2.2.2.2
  refine n_aload_n c_97_0 rfl ?_
  refine n_getR c_97_1 sc_3.n rfl rfl rfl r_3_1 ?_
  refine n_iload_n c_97_4 rfl ?_
  refine n_v1I c_97_5 rfl sc_8.n rfl rfl rfl rfl (isSlot_2 (s := s) hS (by omega)) ?_
  intro z1 M2 hP3
  obtain ⟨eM, f3, f3p0⟩ := hP3
  subst eM
  refine n_if0_eq c_97_8 (by omega) ?_ ?_
  · intro h4
    refine n_fg (le_n (le_n (le_n (le_n (le_n (le_n le_0)))))) ?_
    exact (actL_2_c hS hk hs 12)   (by omega)
  · intro h5
    refine n_aload_n c_97_11 rfl ?_
    refine n_iload_n c_97_12 rfl ?_
    refine n_v1I c_97_13 rfl sc_3.n rfl rfl rfl rfl (isPlaceCount_2 (k := k) hS (by omega)) ?_
    intro z6 M7 hP8
    obtain ⟨eM, f8, f8p0⟩ := hP8
    subst eM
    refine n_if0_ne c_97_16 (by omega) ?_ ?_
    · intro h9
      exfalso; omega
    · intro h10
      refine n_fg (le_n (le_n (le_n (le_n (le_n (le_n le_0)))))) ?_
      exact (actL_2_c hS hk hs 12)   (by omega)

set_option maxHeartbeats 4000000 in
theorem actH_2_c {xs : List Int32} {e : Nat} {ac : Int} {M0 M : nM} {k s : Int} (hS : Sf 2 ac M0 M) (hk : 4 ≤ k ∧ k ≤ 2147483647) (hs : -2147483648 ≤ s ∧ s ≤ 2147483647) : ∀ nn : Nat, (1 < (nn : Int) → nW xs (e + 2) 97 19 [none, none, none, none, none, none] [] M (nPI fun z M1 => M = M1 ∧ (-2147483648 ≤ z ∧ z ≤ 2147483647))) := by
  have hd : (2 : Int) = 2 ∨ (2 : Int) = 3 := by decide
  have hac := hS.2.2.2.2
  intro nn
  induction nn with
  | zero => intros; omega
  | succ nn ih =>
    intro hnn
    refine n_bipush c_97_19 rfl ?_
    exact n_rI c_97_21 rfl ⟨rfl, by omega⟩
set_option maxHeartbeats 4000000 in
theorem actH_2 {xs : List Int32} {e : Nat} {ac : Int} {M0 M : nM} {k s : Int} (hS : Sf 2 ac M0 M) (hk : 4 ≤ k ∧ k ≤ 2147483647) (hs : -2147483648 ≤ s ∧ s ≤ 2147483647) : nW xs (e + 2) 97 0 [some (2, 3), some (0, k), some (0, s), none, none, none] [] M (nPI fun z M1 => M = M1 ∧ (-2147483648 ≤ z ∧ z ≤ 2147483647)) := by
  have hd : (2 : Int) = 2 ∨ (2 : Int) = 3 := by decide
  have hac := hS.2.2.2.2
  refine n_aload_n c_97_0 rfl ?_
  refine n_getR c_97_1 sc_3.n rfl rfl rfl r_3_1 ?_
  refine n_iload_n c_97_4 rfl ?_
  refine n_v1I c_97_5 rfl sc_8.n rfl rfl rfl rfl (isSlot_2 (s := s) hS (by omega)) ?_
  intro z1 M2 hP3
  obtain ⟨eM, f3, f3p0⟩ := hP3
  subst eM
  refine n_if0_eq c_97_8 (by omega) ?_ ?_
  · intro h4
    refine n_fg (le_n (le_n (le_n (le_n (le_n (le_n le_0)))))) ?_
    exact (actH_2_c hS hk hs 12)   (by omega)
  · intro h5
    refine n_aload_n c_97_11 rfl ?_
    refine n_iload_n c_97_12 rfl ?_
    refine n_v1I c_97_13 rfl sc_3.n rfl rfl rfl rfl (isPlaceCount_2 (k := k) hS (by omega)) ?_
    intro z6 M7 hP8
    obtain ⟨eM, f8, f8p0⟩ := hP8
    subst eM
    refine n_if0_ne c_97_16 (by omega) ?_ ?_
    · intro h9
      exfalso; omega
    · intro h10
      refine n_fg (le_n (le_n (le_n (le_n (le_n (le_n le_0)))))) ?_
      exact (actH_2_c hS hk hs 12)   (by omega)

set_option maxHeartbeats 4000000 in
theorem mfresh_2 {xs : List Int32} {e : Nat} {ac : Int} {M : nM} (hS : Sf 2 ac M M)  : nW xs (e + 1) 142 0 [some (2, 112), some (0, 2)] [] M (nPI fun z M1 => Sf 2 ac M1 M1 ∧ (1 ≤ z ∧ z ≤ 1) ∧ (M1 112 0 = 2)) := by
  have hd : (2 : Int) = 2 ∨ (2 : Int) = 3 := by decide
  have hac := hS.2.2.2.2
  refine n_iload_n c_142_0 rfl ?_
  refine n_iconst c_142_1 ?_
  refine n_if2_lt c_142_2 (by omega) (by omega) ?_ ?_
  · intro h1
    exfalso; omega
  · intro h2
    refine n_iload_n c_142_5 rfl ?_
    refine n_iconst c_142_6 ?_
    refine n_if2_le c_142_7 (by omega) (by omega) ?_ ?_
    · intro h3
      refine n_aload_n c_142_12 rfl ?_
      refine n_iload_n c_142_13 rfl ?_
      refine n_putM (bi := 0) hS c_142_14 sc_112.n rfl rfl rfl rfl (m_112_0 (by omega)) ?_
      intro M4 eM4 hS4
      have g4_0 : M4 112 0 = 2 := by rw [eM4]; exact nu_s _ _ _ _
      refine n_aload_n c_142_17 rfl ?_
      refine n_iconst c_142_18 ?_
      refine n_putM (bi := 4) hS4 c_142_19 sc_112.n rfl rfl rfl rfl (m_112_4 (by omega)) ?_
      intro M5 eM5 hS5
      have g5_0 : M5 112 0 = M4 112 0 := by rw [eM5]; exact nu_i (by omega)
      have g5_1 : M5 112 4 = 0 := by rw [eM5]; exact nu_s _ _ _ _
      refine n_aload_n c_142_22 rfl ?_
      refine n_iconst c_142_23 ?_
      refine n_putG (P := Sq 2 ac) (bi := 7) c_142_24 sc_112.n rfl rfl rfl rfl (hS5.sq.u (by omega) (show (0 : Int) ≤ 0 ∧ 0 ≤ (12 : Int) by omega)) ?_
      intro M6 eM6 hQ6
      have g6_0 : M6 112 0 = M5 112 0 := by rw [eM6]; exact nu_i (by omega)
      have g6_1 : M6 112 4 = M5 112 4 := by rw [eM6]; exact nu_i (by omega)
      have g6_2 : M6 112 7 = 0 := by rw [eM6]; exact nu_s _ _ _ _
      refine n_aload_n c_142_27 rfl ?_
      refine n_iconst c_142_28 ?_
      refine n_putG (P := Sq 2 ac) (bi := 10) c_142_29 sc_112.n rfl rfl rfl rfl (hQ6.u (by omega) (show (1 : Int) ≤ 1 ∧ 1 ≤ (8 : Int) by omega)) ?_
      intro M7 eM7 hQ7
      have g7_0 : M7 112 0 = M6 112 0 := by rw [eM7]; exact nu_i (by omega)
      have g7_1 : M7 112 4 = M6 112 4 := by rw [eM7]; exact nu_i (by omega)
      have g7_2 : M7 112 7 = M6 112 7 := by rw [eM7]; exact nu_i (by omega)
      have g7_3 : M7 112 10 = 1 := by rw [eM7]; exact nu_s _ _ _ _
      refine n_aload_n c_142_32 rfl ?_
      refine n_iconst c_142_33 ?_
      refine n_putG (P := Sq 2 ac) (bi := 11) c_142_34 sc_112.n rfl rfl rfl rfl (hQ7.u (by omega) (show (0 : Int) ≤ 0 ∧ 0 ≤ (30 : Int) by omega)) ?_
      intro M8 eM8 hQ8
      have g8_0 : M8 112 0 = M7 112 0 := by rw [eM8]; exact nu_i (by omega)
      have g8_1 : M8 112 4 = M7 112 4 := by rw [eM8]; exact nu_i (by omega)
      have g8_2 : M8 112 7 = M7 112 7 := by rw [eM8]; exact nu_i (by omega)
      have g8_3 : M8 112 10 = M7 112 10 := by rw [eM8]; exact nu_i (by omega)
      have g8_4 : M8 112 11 = 0 := by rw [eM8]; exact nu_s _ _ _ _
      have hS8 := hQ8.sf (AK.none (by omega))
      refine n_aload_n c_142_37 rfl ?_
      refine n_v0V c_142_38 rfl sc_112.n rfl rfl rfl rfl (changed_2  hS8 (by omega)) ?_
      intro  M9 hP10
      have hS9 := hP10
      have hS9c := hS9.2.2.2.1.1
      have hS9 := hS9.refl
      have hS9k0 := hS9c 112 0 (by unfold core; omega)
      have hS9k1 := hS9c 112 4 (by unfold core; omega)
      have hS9k2 := hS9c 112 7 (by unfold core; omega)
      have hS9k3 := hS9c 112 10 (by unfold core; omega)
      have hS9k4 := hS9c 112 11 (by unfold core; omega)
      refine n_aload_n c_142_41 rfl ?_
      refine n_iconst c_142_42 ?_
      refine n_putM (bi := 20) hS9 c_142_43 sc_112.n rfl rfl rfl rfl (m_112_20 (by omega)) ?_
      intro M11 eM11 hS11
      have g11_0 : M11 112 0 = M9 112 0 := by rw [eM11]; exact nu_i (by omega)
      have g11_1 : M11 112 4 = M9 112 4 := by rw [eM11]; exact nu_i (by omega)
      have g11_2 : M11 112 7 = M9 112 7 := by rw [eM11]; exact nu_i (by omega)
      have g11_3 : M11 112 10 = M9 112 10 := by rw [eM11]; exact nu_i (by omega)
      have g11_4 : M11 112 11 = M9 112 11 := by rw [eM11]; exact nu_i (by omega)
      have g11_5 : M11 112 20 = (-1) := by rw [eM11]; exact nu_s _ _ _ _
      refine n_iconst c_142_46 ?_
      exact n_rZ c_142_47 rfl (by omega) ⟨hS11, by omega, by omega⟩
    · intro h12
      exfalso; omega

set_option maxHeartbeats 4000000 in
theorem mfreshL_2_c {xs : List Int32} {e : Nat} {ac : Int} {M0 M : nM} {a : Int} (hS : Sf 2 ac M0 M) (ha : -2147483648 ≤ a ∧ a ≤ 1) : ∀ nn : Nat, (1 < (nn : Int) → nW xs (e + 1) 142 10 [none, none] [] M (nPI fun z M1 => M = M1 ∧ (0 ≤ z ∧ z ≤ 0))) := by
  have hd : (2 : Int) = 2 ∨ (2 : Int) = 3 := by decide
  have hac := hS.2.2.2.2
  intro nn
  induction nn with
  | zero => intros; omega
  | succ nn ih =>
    intro hnn
    refine n_iconst c_142_10 ?_
    exact n_rZ c_142_11 rfl (by omega) ⟨rfl, by omega⟩
set_option maxHeartbeats 4000000 in
theorem mfreshL_2 {xs : List Int32} {e : Nat} {ac : Int} {M0 M : nM} {a : Int} (hS : Sf 2 ac M0 M) (ha : -2147483648 ≤ a ∧ a ≤ 1) : nW xs (e + 1) 142 0 [some (2, 112), some (0, a)] [] M (nPI fun z M1 => M = M1 ∧ (0 ≤ z ∧ z ≤ 0)) := by
  have hd : (2 : Int) = 2 ∨ (2 : Int) = 3 := by decide
  have hac := hS.2.2.2.2
  refine n_iload_n c_142_0 rfl ?_
  refine n_iconst c_142_1 ?_
  refine n_if2_lt c_142_2 (by omega) (by omega) ?_ ?_
  · intro h1
    refine n_fg (le_n (le_n le_0)) ?_
    exact (mfreshL_2_c hS ha 12)   (by omega)
  · intro h2
    exfalso; omega

set_option maxHeartbeats 4000000 in
theorem mfreshH_2_c {xs : List Int32} {e : Nat} {ac : Int} {M0 M : nM} {a : Int} (hS : Sf 2 ac M0 M) (ha : 4 ≤ a ∧ a ≤ 2147483647) : ∀ nn : Nat, (1 < (nn : Int) → nW xs (e + 1) 142 10 [none, none] [] M (nPI fun z M1 => M = M1 ∧ (0 ≤ z ∧ z ≤ 0))) := by
  have hd : (2 : Int) = 2 ∨ (2 : Int) = 3 := by decide
  have hac := hS.2.2.2.2
  intro nn
  induction nn with
  | zero => intros; omega
  | succ nn ih =>
    intro hnn
    refine n_iconst c_142_10 ?_
    exact n_rZ c_142_11 rfl (by omega) ⟨rfl, by omega⟩
set_option maxHeartbeats 4000000 in
theorem mfreshH_2 {xs : List Int32} {e : Nat} {ac : Int} {M0 M : nM} {a : Int} (hS : Sf 2 ac M0 M) (ha : 4 ≤ a ∧ a ≤ 2147483647) : nW xs (e + 1) 142 0 [some (2, 112), some (0, a)] [] M (nPI fun z M1 => M = M1 ∧ (0 ≤ z ∧ z ≤ 0)) := by
  have hd : (2 : Int) = 2 ∨ (2 : Int) = 3 := by decide
  have hac := hS.2.2.2.2
  refine n_iload_n c_142_0 rfl ?_
  refine n_iconst c_142_1 ?_
  refine n_if2_lt c_142_2 (by omega) (by omega) ?_ ?_
  · intro h1
    exfalso; omega
  · intro h2
    refine n_iload_n c_142_5 rfl ?_
    refine n_iconst c_142_6 ?_
    refine n_if2_le c_142_7 (by omega) (by omega) ?_ ?_
    · intro h3
      exfalso; omega
    · intro h4
      refine n_fg (le_n (le_n le_0)) ?_
      exact (mfreshH_2_c hS ha 12)   (by omega)

set_option maxHeartbeats 4000000 in
theorem mriddle_2_c {xs : List Int32} {e : Nat} {ac : Int} {M : nM} {u gd : Int} (hS : Sf 2 ac M M) (hdm : M 112 0 = 2) (hu : -2147483648 ≤ u ∧ u ≤ 2147483647) (hgd : M 112 0 = gd) : ∀ nn : Nat, (∀ (M : nM), Sf 2 ac M M → (M 112 0 = 2) → (M 112 0 = gd) → 1 < (nn : Int) → nW xs e 187 11 [none, none] [] M (nPI fun z M1 => Sf 2 ac M1 M1 ∧ (0 ≤ z ∧ z ≤ 1) ∧ (M1 112 0 = gd))) := by
  have hd : (2 : Int) = 2 ∨ (2 : Int) = 3 := by decide
  have hac := hS.2.2.2.2
  intro nn
  induction nn with
  | zero => intros; omega
  | succ nn ih =>
    intro M hS hdm hggd hnn
    refine n_iconst c_187_11 ?_
    exact n_rZ c_187_12 rfl (by omega) ⟨hS, by omega, by omega⟩
set_option maxHeartbeats 4000000 in
theorem mriddle_2 {xs : List Int32} {e : Nat} {ac : Int} {M : nM} {u gd : Int} (hS : Sf 2 ac M M) (hdm : M 112 0 = 2) (hu : -2147483648 ≤ u ∧ u ≤ 2147483647) (hgd : M 112 0 = gd) : nW xs e 187 0 [some (2, 112), some (0, u)] [] M (nPI fun z M1 => Sf 2 ac M1 M1 ∧ (0 ≤ z ∧ z ≤ 1) ∧ (M1 112 0 = gd)) := by
  have hd : (2 : Int) = 2 ∨ (2 : Int) = 3 := by decide
  have hac := hS.2.2.2.2
  refine n_iload_n c_187_0 rfl ?_
  refine n_iconst c_187_1 ?_
  refine n_if2_lt c_187_2 (by omega) (by omega) ?_ ?_
  · intro h1
    refine n_fg (le_n (le_n le_0)) ?_
    exact (mriddle_2_c hS hdm hu hgd 12)  M hS (by omega) (by omega) (by omega)
  · intro h2
    refine n_iload_n c_187_5 rfl ?_
    refine n_bipush c_187_6 rfl ?_
    refine n_if2_le c_187_8 (by omega) (by omega) ?_ ?_
    · intro h3
      refine n_aload_n c_187_13 rfl ?_
      refine n_iload_n c_187_14 rfl ?_
      refine n_putG (P := Sq 2 ac) (bi := 10) c_187_15 sc_112.n rfl rfl rfl rfl (hS.sq.u (by omega) (show (1 : Int) ≤ u ∧ u ≤ (8 : Int) by omega)) ?_
      intro M4 eM4 hQ4
      have g4_0 : M4 112 0 = M 112 0 := by rw [eM4]; exact nu_i (by omega)
      have g4_1 : M4 112 10 = u := by rw [eM4]; exact nu_s _ _ _ _
      refine n_aload_n c_187_18 rfl ?_
      refine n_iconst c_187_19 ?_
      refine n_putG (P := Sq 2 ac) (bi := 11) c_187_20 sc_112.n rfl rfl rfl rfl (hQ4.u (by omega) (show (0 : Int) ≤ 0 ∧ 0 ≤ (30 : Int) by omega)) ?_
      intro M5 eM5 hQ5
      have g5_0 : M5 112 0 = M4 112 0 := by rw [eM5]; exact nu_i (by omega)
      have g5_1 : M5 112 10 = M4 112 10 := by rw [eM5]; exact nu_i (by omega)
      have g5_2 : M5 112 11 = 0 := by rw [eM5]; exact nu_s _ _ _ _
      have hS5 := hQ5.sf (AK.none (by omega))
      refine n_iconst c_187_23 ?_
      exact n_rZ c_187_24 rfl (by omega) ⟨hS5, by omega, by omega⟩
    · intro h6
      refine n_fg (le_n (le_n le_0)) ?_
      exact (mriddle_2_c hS hdm hu hgd 12)  M hS (by omega) (by omega) (by omega)

set_option maxHeartbeats 4000000 in
theorem mlaw1_2_c {xs : List Int32} {e : Nat} {ac : Int} {M : nM} {s gd : Int} (hS : Sf 2 ac M M) (hdm : M 112 0 = 2) (hs : -2147483648 ≤ s ∧ s ≤ 2147483647) (hgd : M 112 0 = gd) : ∀ nn : Nat, (∀ (M : nM), Sf 2 ac M M → (M 112 0 = 2) → (M 112 0 = gd) → 31 < (nn : Int) → nW xs (e + 1) 149 17 [none, none, none, none, none, none, none, none, none, none, none, none] [] M (nPI fun z M1 => Sf 2 ac M1 M1 ∧ (-2147483648 ≤ z ∧ z ≤ 2147483647) ∧ (M1 112 0 = gd))) ∧ (∀ (M : nM), Sf 2 ac M M → (M 112 0 = 2) → (M 112 0 = gd) → 30 < (nn : Int) → nW xs (e + 1) 149 87 [none, none, none, none, none, none, none, none, none, none, none, none] [] M (nPI fun z M1 => Sf 2 ac M1 M1 ∧ (-2147483648 ≤ z ∧ z ≤ 2147483647) ∧ (M1 112 0 = gd))) ∧ (∀ (x3 x4 x6 x8 x9 : Int) (M : nM), Sf 2 ac M M → (0 ≤ s ∧ s ≤ 7) → (1 ≤ x3 ∧ x3 ≤ 40) → (0 ≤ x4 ∧ x4 ≤ 27) → (0 ≤ x6 ∧ x6 ≤ 134217727) → (1 ≤ x8 ∧ x8 ≤ 40) → (0 ≤ x9 ∧ x9 ≤ 27) → (M 112 0 = 2) → (M 112 0 = gd) → (M 112 7 ≤ 11) → (27 - x9) * 1 + 1 < (nn : Int) → nW xs (e + 1) 149 99 [some (2, 112), some (0, 1), some (0, s), some (0, x3), some (1, x4), none, some (1, x6), none, some (0, x8), some (0, x9), none, none] [] M (nPI fun z M1 => Sf 2 ac M1 M1 ∧ (-2147483648 ≤ z ∧ z ≤ 2147483647) ∧ (M1 112 0 = gd))) := by
  have hd : (2 : Int) = 2 ∨ (2 : Int) = 3 := by decide
  have hac := hS.2.2.2.2
  intro nn
  induction nn with
  | zero => refine ⟨?_, ?_, ?_⟩ <;> (intros; omega)
  | succ nn ih =>
    refine ⟨?_, ?_, ?_⟩
    · intro M hS hdm hggd hnn
      refine n_bipush c_149_17 rfl ?_
      exact n_rI c_149_19 rfl ⟨hS, by omega, by omega⟩
    · intro M hS hdm hggd hnn
      refine n_bipush c_149_87 rfl ?_
      exact n_rI c_149_89 rfl ⟨hS, by omega, by omega⟩
    · intro x3 x4 x6 x8 x9 M hS k2 k3 k4 k6 k8 k9 hdm hggd v0 hnn
      refine n_iload c_149_99 rfl ?_
      refine n_i2l c_149_101 (by omega) ?_
      refine n_lload c_149_102 rfl ?_
      refine n_lcmp c_149_104 ?_
      refine n_lif_ge c_149_105 (by omega) (by omega) ?_ ?_
      · intro h1
        refine n_aload_n c_149_198 rfl ?_
        refine n_getR c_149_199 sc_112.n rfl rfl rfl r_112_8 ?_
        refine n_aload_n c_149_202 rfl ?_
        refine n_getV (bi := 7) c_149_203 sc_112.n rfl rfl rfl (t_112_7 hS) ?_
        intro z2 ez2 f3
        refine n_iload_n c_149_206 rfl ?_
        refine n_iastoreG c_149_207 sc_118.n rfl (by omega) (hS.w118 (by omega) (by omega)) ?_
        intro M4 eM4 hS4
        have g4_0 : M4 112 0 = M 112 0 := by rw [eM4]; exact nu_a (by omega)
        have g4_1 : M4 112 7 = M 112 7 := by rw [eM4]; exact nu_a (by omega)
        have g4_2 : M4 118 z2 = 1 := by rw [eM4]; exact nu_s _ _ _ _
        refine n_aload_n c_149_208 rfl ?_
        refine n_getR c_149_209 sc_112.n rfl rfl rfl r_112_9 ?_
        refine n_aload_n c_149_212 rfl ?_
        refine n_getV (bi := 7) c_149_213 sc_112.n rfl rfl rfl (t_112_7 hS4) ?_
        intro z5 ez5 f6
        refine n_lload c_149_216 rfl ?_
        refine n_lastoreM hS4 c_149_218 sc_119.n rfl (by omega) (m_119 (by omega) (by omega)) ?_
        intro M7 eM7 hS7
        have g7_0 : M7 112 0 = M4 112 0 := by rw [eM7]; exact nu_a (by omega)
        have g7_1 : M7 112 7 = M4 112 7 := by rw [eM7]; exact nu_a (by omega)
        have g7_2 : M7 118 z2 = M4 118 z2 := by rw [eM7]; exact nu_a (by omega)
        refine n_aload_n c_149_219 rfl ?_
        refine n_dup2 c_149_220 ?_
        refine n_getV (bi := 7) c_149_221 sc_112.n rfl rfl rfl (t_112_7 hS7) ?_
        intro z8 ez8 f9
        refine n_iconst c_149_224 ?_
        refine n_iadd c_149_225 rfl ?_
        refine n_putG (P := fun M2 => Sf 2 ac M2 M2) (bi := 7) c_149_226 sc_112.n rfl rfl rfl rfl (hS7.w112_7 (by omega) (by omega)) ?_
        intro M10 eM10 hS10
        have g10_0 : M10 112 0 = M7 112 0 := by rw [eM10]; exact nu_i (by omega)
        have g10_1 : M10 118 z2 = M7 118 z2 := by rw [eM10]; exact nu_a (by omega)
        have g10_2 : M10 112 7 = (z8 + 1) := by rw [eM10]; exact nu_s _ _ _ _
        refine n_aload_n c_149_229 rfl ?_
        refine n_getV (bi := 7) c_149_230 sc_112.n rfl rfl rfl (t_112_7 hS10) ?_
        intro z11 ez11 f12
        refine n_iconst c_149_233 ?_
        refine n_isub c_149_234 rfl ?_
        exact n_rI c_149_235 rfl ⟨hS10, by omega, by omega⟩
      · intro h13
        refine n_iconst c_149_108 ?_
        refine n_istore (L2 := [some (2, 112), some (0, 1), some (0, s), some (0, x3), some (1, x4), none, some (1, x6), none, some (0, x8), some (0, x9), some (0, 0), none]) c_149_109 rfl rfl ?_
        refine n_iconst c_149_111 ?_
        refine n_istore (L2 := [some (2, 112), some (0, 1), some (0, s), some (0, x3), some (1, x4), none, some (1, x6), none, some (0, x8), some (0, x9), some (0, 0), some (0, 0)]) c_149_112 rfl rfl ?_
        refine n_iload c_149_114 rfl ?_
        refine n_iload_n c_149_116 rfl ?_
        refine n_if2_ge c_149_117 (by omega) (by omega) ?_ ?_
        · intro h14
          exfalso; omega
        · intro h15
          refine n_iload c_149_120 rfl ?_
          refine n_iload_n c_149_122 rfl ?_
          refine n_if2_lt c_149_123 (by omega) (by omega) ?_ ?_
          · intro h16
            refine n_aload_n c_149_129 rfl ?_
            refine n_aload_n c_149_130 rfl ?_
            refine n_getR c_149_131 sc_112.n rfl rfl rfl r_112_3 ?_
            refine n_bipush c_149_134 rfl ?_
            refine n_iload_n c_149_136 rfl ?_
            refine n_imul c_149_137 rfl ?_
            refine n_iload c_149_138 rfl ?_
            refine n_iadd c_149_140 rfl ?_
            refine n_laloadV c_149_141 sc_115.n rfl rfl rfl (by omega) (t_115 hS (by omega)) ?_
            intro z17 ez17 f18
            refine n_v1I c_149_142 rfl sc_112.n rfl rfl rfl rfl (misThing_2 (v := z17) hS (by omega) (by omega)) ?_
            intro z19 M20 hP21
            obtain ⟨eM, f21, f21p0⟩ := hP21
            subst eM
            refine n_if0_ne c_149_145 (by omega) ?_ ?_
            · intro h22
              refine n_iload c_149_151 rfl ?_
              refine n_aload_n c_149_153 rfl ?_
              refine n_getV (bi := 0) c_149_154 sc_112.n rfl rfl rfl (show 2 ≤ M 112 0 ∧ M 112 0 ≤ 2 by omega) ?_
              intro z23 ez23 f24
              obtain rfl : z23 = 2 := by omega
              refine n_imul c_149_157 rfl ?_
              refine n_aload_n c_149_158 rfl ?_
              refine n_getR c_149_159 sc_112.n rfl rfl rfl r_112_3 ?_
              refine n_bipush c_149_162 rfl ?_
              refine n_iload_n c_149_164 rfl ?_
              refine n_imul c_149_165 rfl ?_
              refine n_iload c_149_166 rfl ?_
              refine n_iadd c_149_168 rfl ?_
              refine n_laloadV c_149_169 sc_115.n rfl rfl rfl (by omega) (t_115 hS (by omega)) ?_
              intro z25 ez25 f26
              refine n_l2i c_149_170 ?_
              refine n_iadd c_149_171 rfl ?_
              refine n_istore (L2 := [some (2, 112), some (0, 1), some (0, s), some (0, x3), some (1, x4), none, some (1, x6), none, some (0, x8), some (0, x9), some (0, ((0 * 2) + z25)), some (0, 0)]) c_149_172 rfl rfl ?_
              refine n_iinc (L2 := [some (2, 112), some (0, 1), some (0, s), some (0, x3), some (1, x4), none, some (1, x6), none, some (0, (x8 + 1)), some (0, x9), some (0, ((0 * 2) + z25)), some (0, 0)]) c_149_174 rfl rfl rfl ?_
              refine n_iinc (L2 := [some (2, 112), some (0, 1), some (0, s), some (0, x3), some (1, x4), none, some (1, x6), none, some (0, (x8 + 1)), some (0, x9), some (0, ((0 * 2) + z25)), some (0, (0 + 1))]) c_149_177 rfl rfl rfl ?_
              refine n_goto c_149_180 ?_
              refine n_iload c_149_114 rfl ?_
              refine n_iload_n c_149_116 rfl ?_
              refine n_if2_ge c_149_117 (by omega) (by omega) ?_ ?_
              · intro h27
                refine n_lload c_149_183 rfl ?_
                refine n_lconst (n := 1) c_149_185 rfl ?_
                refine n_iload c_149_186 rfl ?_
                refine n_i_lshl c_149_188 rfl ?_
                refine n_i_lor c_149_189 rfl ?_
                have f28 := n_lor_bit27 (s := x6) (r := ((0 * 2) + z25)) (by omega) (by omega)
                refine n_lstore (L2 := [some (2, 112), some (0, 1), some (0, s), some (0, x3), some (1, x4), none, some (1, (n_lor x6 (n_lshl 1 ((0 * 2) + z25)))), none, some (0, (x8 + 1)), some (0, x9), some (0, ((0 * 2) + z25)), some (0, (0 + 1))]) c_149_190 rfl rfl ?_
                refine n_iinc (L2 := [some (2, 112), some (0, 1), some (0, s), some (0, x3), some (1, x4), none, some (1, (n_lor x6 (n_lshl 1 ((0 * 2) + z25)))), none, some (0, (x8 + 1)), some (0, (x9 + 1)), some (0, ((0 * 2) + z25)), some (0, (0 + 1))]) c_149_192 rfl rfl rfl ?_
                refine n_goto c_149_195 ?_
                refine n_fg (le_s (le_s (le_s (le_s (le_s (le_n (le_s (le_n (le_s (le_s (le_n (le_n le_0)))))))))))) ?_
                exact ih.2.2 _ _ _ _ _ M hS (by omega) (by omega) (by omega) (by omega) (by omega) (by omega) (by omega) (by omega) (by omega) (by omega)
              · intro h29
                exfalso; omega
            · intro h30
              refine n_bipush c_149_148 rfl ?_
              exact n_rI c_149_150 rfl ⟨hS, by omega, by omega⟩
          · intro h31
            refine n_bipush c_149_126 rfl ?_
            exact n_rI c_149_128 rfl ⟨hS, by omega, by omega⟩
set_option maxHeartbeats 4000000 in
theorem mlaw1_2 {xs : List Int32} {e : Nat} {ac : Int} {M : nM} {s gd : Int} (hS : Sf 2 ac M M) (hdm : M 112 0 = 2) (hs : -2147483648 ≤ s ∧ s ≤ 2147483647) (hgd : M 112 0 = gd) : nW xs (e + 1) 149 0 [some (2, 112), some (0, 1), some (0, s), none, none, none, none, none, none, none, none, none] [] M (nPI fun z M1 => Sf 2 ac M1 M1 ∧ (-2147483648 ≤ z ∧ z ≤ 2147483647) ∧ (M1 112 0 = gd)) := by
  have hd : (2 : Int) = 2 ∨ (2 : Int) = 3 := by decide
  have hac := hS.2.2.2.2
  refine n_iload_n c_149_0 rfl ?_
  refine n_s1I c_149_1 rfl rfl rfl rfl (misSlot_2 (s := s) hS (by omega)) ?_
  intro z1 M2 hP3
  obtain ⟨eM, f3, f3p0⟩ := hP3
  subst eM
  refine n_if0_eq c_149_4 (by omega) ?_ ?_
  · intro h4
    refine n_fg (le_n (le_n (le_n (le_n (le_n (le_n (le_n (le_n (le_n (le_n (le_n (le_n le_0)))))))))))) ?_
    exact (mlaw1_2_c hS hdm hs hgd 72).1  M hS (by omega) (by omega) (by omega)
  · intro h5
    refine n_iload_n c_149_7 rfl ?_
    refine n_iconst c_149_8 ?_
    refine n_if2_lt c_149_9 (by omega) (by omega) ?_ ?_
    · intro h6
      exfalso; omega
    · intro h7
      refine n_iload_n c_149_12 rfl ?_
      refine n_iconst c_149_13 ?_
      refine n_if2_le c_149_14 (by omega) (by omega) ?_ ?_
      · intro h8
        refine n_aload_n c_149_20 rfl ?_
        refine n_getV (bi := 7) c_149_21 sc_112.n rfl rfl rfl (t_112_7 hS) ?_
        intro z9 ez9 f10
        refine n_bipush c_149_24 rfl ?_
        refine n_if2_ne c_149_26 (by omega) (by omega) ?_ ?_
        · intro h11
          refine n_aload_n c_149_32 rfl ?_
          refine n_getR c_149_33 sc_112.n rfl rfl rfl r_112_1 ?_
          refine n_iload_n c_149_36 rfl ?_
          refine n_ialoadV c_149_37 sc_113.n rfl rfl rfl (by omega) (t_113 hS (by omega)) ?_
          intro z12 ez12 f13
          refine n_if0_ne c_149_38 (by omega) ?_ ?_
          · intro h14
            refine n_aload_n c_149_44 rfl ?_
            refine n_getR c_149_45 sc_112.n rfl rfl rfl r_112_1 ?_
            refine n_iload_n c_149_48 rfl ?_
            refine n_ialoadV c_149_49 sc_113.n rfl rfl rfl (by omega) (t_113 hS (by omega)) ?_
            intro z15 ez15 f16
            refine n_iconst c_149_50 ?_
            refine n_isub c_149_51 rfl ?_
            refine n_istore_n (L2 := [some (2, 112), some (0, 1), some (0, s), some (0, (z15 - 1)), none, none, none, none, none, none, none, none]) c_149_52 rfl rfl ?_
            refine n_iload_n c_149_53 rfl ?_
            refine n_if0_ne c_149_54 (by omega) ?_ ?_
            · intro h17
              refine n_aload_n c_149_60 rfl ?_
              refine n_getR c_149_61 sc_112.n rfl rfl rfl r_112_3 ?_
              refine n_bipush c_149_64 rfl ?_
              refine n_iload_n c_149_66 rfl ?_
              refine n_imul c_149_67 rfl ?_
              refine n_laloadV c_149_68 sc_115.n rfl rfl rfl (by omega) (t_115 hS (by omega)) ?_
              intro z18 ez18 f19
              refine n_lstore (L2 := [some (2, 112), some (0, 1), some (0, s), some (0, (z15 - 1)), some (1, z18), none, none, none, none, none, none, none]) c_149_69 rfl rfl ?_
              refine n_lload c_149_71 rfl ?_
              refine n_lconst (n := 0) c_149_73 rfl ?_
              refine n_lcmp c_149_74 ?_
              refine n_lif_lt c_149_75 (by omega) (by omega) ?_ ?_
              · intro h20
                refine n_fg (le_n (le_n (le_n (le_n (le_n (le_n (le_n (le_n (le_n (le_n (le_n (le_n le_0)))))))))))) ?_
                exact (mlaw1_2_c hS hdm hs hgd 72).2.1  M hS (by omega) (by omega) (by omega)
              · intro h21
                refine n_lload c_149_78 rfl ?_
                refine n_ldc2 (n := 27) c_149_80 rfl ?_
                refine n_lcmp c_149_83 ?_
                refine n_lif_le c_149_84 (by omega) (by omega) ?_ ?_
                · intro h22
                  refine n_lconst (n := 0) c_149_90 rfl ?_
                  refine n_lstore (L2 := [some (2, 112), some (0, 1), some (0, s), some (0, (z15 - 1)), some (1, z18), none, some (1, 0), none, none, none, none, none]) c_149_91 rfl rfl ?_
                  refine n_iconst c_149_93 ?_
                  refine n_istore (L2 := [some (2, 112), some (0, 1), some (0, s), some (0, (z15 - 1)), some (1, z18), none, some (1, 0), none, some (0, 1), none, none, none]) c_149_94 rfl rfl ?_
                  refine n_iconst c_149_96 ?_
                  refine n_istore (L2 := [some (2, 112), some (0, 1), some (0, s), some (0, (z15 - 1)), some (1, z18), none, some (1, 0), none, some (0, 1), some (0, 0), none, none]) c_149_97 rfl rfl ?_
                  refine n_fg (le_s (le_s (le_s (le_s (le_s (le_n (le_s (le_n (le_s (le_s (le_n (le_n le_0)))))))))))) ?_
                  exact (mlaw1_2_c hS hdm hs hgd 72).2.2 _ _ _ _ _ M hS (by omega) (by omega) (by omega) (by omega) (by omega) (by omega) (by omega) (by omega) (by omega) (by omega)
                · intro h23
                  refine n_fg (le_n (le_n (le_n (le_n (le_n (le_n (le_n (le_n (le_n (le_n (le_n (le_n le_0)))))))))))) ?_
                  exact (mlaw1_2_c hS hdm hs hgd 72).2.1  M hS (by omega) (by omega) (by omega)
            · intro h24
              refine n_bipush c_149_57 rfl ?_
              exact n_rI c_149_59 rfl ⟨hS, by omega, by omega⟩
          · intro h25
            refine n_bipush c_149_41 rfl ?_
            exact n_rI c_149_43 rfl ⟨hS, by omega, by omega⟩
        · intro h26
          refine n_bipush c_149_29 rfl ?_
          exact n_rI c_149_31 rfl ⟨hS, by omega, by omega⟩
      · intro h27
        exfalso; omega

set_option maxHeartbeats 4000000 in
theorem mlaw2_2_c {xs : List Int32} {e : Nat} {ac : Int} {M : nM} {s gd : Int} (hS : Sf 2 ac M M) (hdm : M 112 0 = 2) (hs : -2147483648 ≤ s ∧ s ≤ 2147483647) (hgd : M 112 0 = gd) : ∀ nn : Nat, (∀ (M : nM), Sf 2 ac M M → (M 112 0 = 2) → (M 112 0 = gd) → 31 < (nn : Int) → nW xs (e + 1) 149 17 [none, none, none, none, none, none, none, none, none, none, none, none] [] M (nPI fun z M1 => Sf 2 ac M1 M1 ∧ (-2147483648 ≤ z ∧ z ≤ 2147483647) ∧ (M1 112 0 = gd))) ∧ (∀ (M : nM), Sf 2 ac M M → (M 112 0 = 2) → (M 112 0 = gd) → 30 < (nn : Int) → nW xs (e + 1) 149 87 [none, none, none, none, none, none, none, none, none, none, none, none] [] M (nPI fun z M1 => Sf 2 ac M1 M1 ∧ (-2147483648 ≤ z ∧ z ≤ 2147483647) ∧ (M1 112 0 = gd))) ∧ (∀ (x3 x4 x6 x8 x9 : Int) (M : nM), Sf 2 ac M M → (0 ≤ s ∧ s ≤ 7) → (1 ≤ x3 ∧ x3 ≤ 40) → (0 ≤ x4 ∧ x4 ≤ 27) → (0 ≤ x6 ∧ x6 ≤ 134217727) → (1 ≤ x8 ∧ x8 ≤ 40) → (0 ≤ x9 ∧ x9 ≤ 27) → (M 112 0 = 2) → (M 112 0 = gd) → (M 112 7 ≤ 11) → (27 - x9) * 1 + 1 < (nn : Int) → nW xs (e + 1) 149 99 [some (2, 112), some (0, 2), some (0, s), some (0, x3), some (1, x4), none, some (1, x6), none, some (0, x8), some (0, x9), none, none] [] M (nPI fun z M1 => Sf 2 ac M1 M1 ∧ (-2147483648 ≤ z ∧ z ≤ 2147483647) ∧ (M1 112 0 = gd))) := by
  have hd : (2 : Int) = 2 ∨ (2 : Int) = 3 := by decide
  have hac := hS.2.2.2.2
  intro nn
  induction nn with
  | zero => refine ⟨?_, ?_, ?_⟩ <;> (intros; omega)
  | succ nn ih =>
    refine ⟨?_, ?_, ?_⟩
    · intro M hS hdm hggd hnn
      refine n_bipush c_149_17 rfl ?_
      exact n_rI c_149_19 rfl ⟨hS, by omega, by omega⟩
    · intro M hS hdm hggd hnn
      refine n_bipush c_149_87 rfl ?_
      exact n_rI c_149_89 rfl ⟨hS, by omega, by omega⟩
    · intro x3 x4 x6 x8 x9 M hS k2 k3 k4 k6 k8 k9 hdm hggd v0 hnn
      refine n_iload c_149_99 rfl ?_
      refine n_i2l c_149_101 (by omega) ?_
      refine n_lload c_149_102 rfl ?_
      refine n_lcmp c_149_104 ?_
      refine n_lif_ge c_149_105 (by omega) (by omega) ?_ ?_
      · intro h1
        refine n_aload_n c_149_198 rfl ?_
        refine n_getR c_149_199 sc_112.n rfl rfl rfl r_112_8 ?_
        refine n_aload_n c_149_202 rfl ?_
        refine n_getV (bi := 7) c_149_203 sc_112.n rfl rfl rfl (t_112_7 hS) ?_
        intro z2 ez2 f3
        refine n_iload_n c_149_206 rfl ?_
        refine n_iastoreG c_149_207 sc_118.n rfl (by omega) (hS.w118 (by omega) (by omega)) ?_
        intro M4 eM4 hS4
        have g4_0 : M4 112 0 = M 112 0 := by rw [eM4]; exact nu_a (by omega)
        have g4_1 : M4 112 7 = M 112 7 := by rw [eM4]; exact nu_a (by omega)
        have g4_2 : M4 118 z2 = 2 := by rw [eM4]; exact nu_s _ _ _ _
        refine n_aload_n c_149_208 rfl ?_
        refine n_getR c_149_209 sc_112.n rfl rfl rfl r_112_9 ?_
        refine n_aload_n c_149_212 rfl ?_
        refine n_getV (bi := 7) c_149_213 sc_112.n rfl rfl rfl (t_112_7 hS4) ?_
        intro z5 ez5 f6
        refine n_lload c_149_216 rfl ?_
        refine n_lastoreM hS4 c_149_218 sc_119.n rfl (by omega) (m_119 (by omega) (by omega)) ?_
        intro M7 eM7 hS7
        have g7_0 : M7 112 0 = M4 112 0 := by rw [eM7]; exact nu_a (by omega)
        have g7_1 : M7 112 7 = M4 112 7 := by rw [eM7]; exact nu_a (by omega)
        have g7_2 : M7 118 z2 = M4 118 z2 := by rw [eM7]; exact nu_a (by omega)
        refine n_aload_n c_149_219 rfl ?_
        refine n_dup2 c_149_220 ?_
        refine n_getV (bi := 7) c_149_221 sc_112.n rfl rfl rfl (t_112_7 hS7) ?_
        intro z8 ez8 f9
        refine n_iconst c_149_224 ?_
        refine n_iadd c_149_225 rfl ?_
        refine n_putG (P := fun M2 => Sf 2 ac M2 M2) (bi := 7) c_149_226 sc_112.n rfl rfl rfl rfl (hS7.w112_7 (by omega) (by omega)) ?_
        intro M10 eM10 hS10
        have g10_0 : M10 112 0 = M7 112 0 := by rw [eM10]; exact nu_i (by omega)
        have g10_1 : M10 118 z2 = M7 118 z2 := by rw [eM10]; exact nu_a (by omega)
        have g10_2 : M10 112 7 = (z8 + 1) := by rw [eM10]; exact nu_s _ _ _ _
        refine n_aload_n c_149_229 rfl ?_
        refine n_getV (bi := 7) c_149_230 sc_112.n rfl rfl rfl (t_112_7 hS10) ?_
        intro z11 ez11 f12
        refine n_iconst c_149_233 ?_
        refine n_isub c_149_234 rfl ?_
        exact n_rI c_149_235 rfl ⟨hS10, by omega, by omega⟩
      · intro h13
        refine n_iconst c_149_108 ?_
        refine n_istore (L2 := [some (2, 112), some (0, 2), some (0, s), some (0, x3), some (1, x4), none, some (1, x6), none, some (0, x8), some (0, x9), some (0, 0), none]) c_149_109 rfl rfl ?_
        refine n_iconst c_149_111 ?_
        refine n_istore (L2 := [some (2, 112), some (0, 2), some (0, s), some (0, x3), some (1, x4), none, some (1, x6), none, some (0, x8), some (0, x9), some (0, 0), some (0, 0)]) c_149_112 rfl rfl ?_
        refine n_iload c_149_114 rfl ?_
        refine n_iload_n c_149_116 rfl ?_
        refine n_if2_ge c_149_117 (by omega) (by omega) ?_ ?_
        · intro h14
          exfalso; omega
        · intro h15
          refine n_iload c_149_120 rfl ?_
          refine n_iload_n c_149_122 rfl ?_
          refine n_if2_lt c_149_123 (by omega) (by omega) ?_ ?_
          · intro h16
            refine n_aload_n c_149_129 rfl ?_
            refine n_aload_n c_149_130 rfl ?_
            refine n_getR c_149_131 sc_112.n rfl rfl rfl r_112_3 ?_
            refine n_bipush c_149_134 rfl ?_
            refine n_iload_n c_149_136 rfl ?_
            refine n_imul c_149_137 rfl ?_
            refine n_iload c_149_138 rfl ?_
            refine n_iadd c_149_140 rfl ?_
            refine n_laloadV c_149_141 sc_115.n rfl rfl rfl (by omega) (t_115 hS (by omega)) ?_
            intro z17 ez17 f18
            refine n_v1I c_149_142 rfl sc_112.n rfl rfl rfl rfl (misThing_2 (v := z17) hS (by omega) (by omega)) ?_
            intro z19 M20 hP21
            obtain ⟨eM, f21, f21p0⟩ := hP21
            subst eM
            refine n_if0_ne c_149_145 (by omega) ?_ ?_
            · intro h22
              refine n_iload c_149_151 rfl ?_
              refine n_aload_n c_149_153 rfl ?_
              refine n_getV (bi := 0) c_149_154 sc_112.n rfl rfl rfl (show 2 ≤ M 112 0 ∧ M 112 0 ≤ 2 by omega) ?_
              intro z23 ez23 f24
              obtain rfl : z23 = 2 := by omega
              refine n_imul c_149_157 rfl ?_
              refine n_aload_n c_149_158 rfl ?_
              refine n_getR c_149_159 sc_112.n rfl rfl rfl r_112_3 ?_
              refine n_bipush c_149_162 rfl ?_
              refine n_iload_n c_149_164 rfl ?_
              refine n_imul c_149_165 rfl ?_
              refine n_iload c_149_166 rfl ?_
              refine n_iadd c_149_168 rfl ?_
              refine n_laloadV c_149_169 sc_115.n rfl rfl rfl (by omega) (t_115 hS (by omega)) ?_
              intro z25 ez25 f26
              refine n_l2i c_149_170 ?_
              refine n_iadd c_149_171 rfl ?_
              refine n_istore (L2 := [some (2, 112), some (0, 2), some (0, s), some (0, x3), some (1, x4), none, some (1, x6), none, some (0, x8), some (0, x9), some (0, ((0 * 2) + z25)), some (0, 0)]) c_149_172 rfl rfl ?_
              refine n_iinc (L2 := [some (2, 112), some (0, 2), some (0, s), some (0, x3), some (1, x4), none, some (1, x6), none, some (0, (x8 + 1)), some (0, x9), some (0, ((0 * 2) + z25)), some (0, 0)]) c_149_174 rfl rfl rfl ?_
              refine n_iinc (L2 := [some (2, 112), some (0, 2), some (0, s), some (0, x3), some (1, x4), none, some (1, x6), none, some (0, (x8 + 1)), some (0, x9), some (0, ((0 * 2) + z25)), some (0, (0 + 1))]) c_149_177 rfl rfl rfl ?_
              refine n_goto c_149_180 ?_
              refine n_iload c_149_114 rfl ?_
              refine n_iload_n c_149_116 rfl ?_
              refine n_if2_ge c_149_117 (by omega) (by omega) ?_ ?_
              · intro h27
                exfalso; omega
              · intro h28
                refine n_iload c_149_120 rfl ?_
                refine n_iload_n c_149_122 rfl ?_
                refine n_if2_lt c_149_123 (by omega) (by omega) ?_ ?_
                · intro h29
                  refine n_aload_n c_149_129 rfl ?_
                  refine n_aload_n c_149_130 rfl ?_
                  refine n_getR c_149_131 sc_112.n rfl rfl rfl r_112_3 ?_
                  refine n_bipush c_149_134 rfl ?_
                  refine n_iload_n c_149_136 rfl ?_
                  refine n_imul c_149_137 rfl ?_
                  refine n_iload c_149_138 rfl ?_
                  refine n_iadd c_149_140 rfl ?_
                  refine n_laloadV c_149_141 sc_115.n rfl rfl rfl (by omega) (t_115 hS (by omega)) ?_
                  intro z30 ez30 f31
                  refine n_v1I c_149_142 rfl sc_112.n rfl rfl rfl rfl (misThing_2 (v := z30) hS (by omega) (by omega)) ?_
                  intro z32 M33 hP34
                  obtain ⟨eM, f34, f34p0⟩ := hP34
                  subst eM
                  refine n_if0_ne c_149_145 (by omega) ?_ ?_
                  · intro h35
                    refine n_iload c_149_151 rfl ?_
                    refine n_aload_n c_149_153 rfl ?_
                    refine n_getV (bi := 0) c_149_154 sc_112.n rfl rfl rfl (show 2 ≤ M 112 0 ∧ M 112 0 ≤ 2 by omega) ?_
                    intro z36 ez36 f37
                    obtain rfl : z36 = 2 := by omega
                    refine n_imul c_149_157 rfl ?_
                    refine n_aload_n c_149_158 rfl ?_
                    refine n_getR c_149_159 sc_112.n rfl rfl rfl r_112_3 ?_
                    refine n_bipush c_149_162 rfl ?_
                    refine n_iload_n c_149_164 rfl ?_
                    refine n_imul c_149_165 rfl ?_
                    refine n_iload c_149_166 rfl ?_
                    refine n_iadd c_149_168 rfl ?_
                    refine n_laloadV c_149_169 sc_115.n rfl rfl rfl (by omega) (t_115 hS (by omega)) ?_
                    intro z38 ez38 f39
                    refine n_l2i c_149_170 ?_
                    refine n_iadd c_149_171 rfl ?_
                    refine n_istore (L2 := [some (2, 112), some (0, 2), some (0, s), some (0, x3), some (1, x4), none, some (1, x6), none, some (0, (x8 + 1)), some (0, x9), some (0, ((((0 * 2) + z25) * 2) + z38)), some (0, (0 + 1))]) c_149_172 rfl rfl ?_
                    refine n_iinc (L2 := [some (2, 112), some (0, 2), some (0, s), some (0, x3), some (1, x4), none, some (1, x6), none, some (0, ((x8 + 1) + 1)), some (0, x9), some (0, ((((0 * 2) + z25) * 2) + z38)), some (0, (0 + 1))]) c_149_174 rfl rfl rfl ?_
                    refine n_iinc (L2 := [some (2, 112), some (0, 2), some (0, s), some (0, x3), some (1, x4), none, some (1, x6), none, some (0, ((x8 + 1) + 1)), some (0, x9), some (0, ((((0 * 2) + z25) * 2) + z38)), some (0, ((0 + 1) + 1))]) c_149_177 rfl rfl rfl ?_
                    refine n_goto c_149_180 ?_
                    refine n_iload c_149_114 rfl ?_
                    refine n_iload_n c_149_116 rfl ?_
                    refine n_if2_ge c_149_117 (by omega) (by omega) ?_ ?_
                    · intro h40
                      refine n_lload c_149_183 rfl ?_
                      refine n_lconst (n := 1) c_149_185 rfl ?_
                      refine n_iload c_149_186 rfl ?_
                      refine n_i_lshl c_149_188 rfl ?_
                      refine n_i_lor c_149_189 rfl ?_
                      have f41 := n_lor_bit27 (s := x6) (r := ((((0 * 2) + z25) * 2) + z38)) (by omega) (by omega)
                      refine n_lstore (L2 := [some (2, 112), some (0, 2), some (0, s), some (0, x3), some (1, x4), none, some (1, (n_lor x6 (n_lshl 1 ((((0 * 2) + z25) * 2) + z38)))), none, some (0, ((x8 + 1) + 1)), some (0, x9), some (0, ((((0 * 2) + z25) * 2) + z38)), some (0, ((0 + 1) + 1))]) c_149_190 rfl rfl ?_
                      refine n_iinc (L2 := [some (2, 112), some (0, 2), some (0, s), some (0, x3), some (1, x4), none, some (1, (n_lor x6 (n_lshl 1 ((((0 * 2) + z25) * 2) + z38)))), none, some (0, ((x8 + 1) + 1)), some (0, (x9 + 1)), some (0, ((((0 * 2) + z25) * 2) + z38)), some (0, ((0 + 1) + 1))]) c_149_192 rfl rfl rfl ?_
                      refine n_goto c_149_195 ?_
                      refine n_fg (le_s (le_s (le_s (le_s (le_s (le_n (le_s (le_n (le_s (le_s (le_n (le_n le_0)))))))))))) ?_
                      exact ih.2.2 _ _ _ _ _ M hS (by omega) (by omega) (by omega) (by omega) (by omega) (by omega) (by omega) (by omega) (by omega) (by omega)
                    · intro h42
                      exfalso; omega
                  · intro h43
                    refine n_bipush c_149_148 rfl ?_
                    exact n_rI c_149_150 rfl ⟨hS, by omega, by omega⟩
                · intro h44
                  refine n_bipush c_149_126 rfl ?_
                  exact n_rI c_149_128 rfl ⟨hS, by omega, by omega⟩
            · intro h45
              refine n_bipush c_149_148 rfl ?_
              exact n_rI c_149_150 rfl ⟨hS, by omega, by omega⟩
          · intro h46
            refine n_bipush c_149_126 rfl ?_
            exact n_rI c_149_128 rfl ⟨hS, by omega, by omega⟩
set_option maxHeartbeats 4000000 in
theorem mlaw2_2 {xs : List Int32} {e : Nat} {ac : Int} {M : nM} {s gd : Int} (hS : Sf 2 ac M M) (hdm : M 112 0 = 2) (hs : -2147483648 ≤ s ∧ s ≤ 2147483647) (hgd : M 112 0 = gd) : nW xs (e + 1) 149 0 [some (2, 112), some (0, 2), some (0, s), none, none, none, none, none, none, none, none, none] [] M (nPI fun z M1 => Sf 2 ac M1 M1 ∧ (-2147483648 ≤ z ∧ z ≤ 2147483647) ∧ (M1 112 0 = gd)) := by
  have hd : (2 : Int) = 2 ∨ (2 : Int) = 3 := by decide
  have hac := hS.2.2.2.2
  refine n_iload_n c_149_0 rfl ?_
  refine n_s1I c_149_1 rfl rfl rfl rfl (misSlot_2 (s := s) hS (by omega)) ?_
  intro z1 M2 hP3
  obtain ⟨eM, f3, f3p0⟩ := hP3
  subst eM
  refine n_if0_eq c_149_4 (by omega) ?_ ?_
  · intro h4
    refine n_fg (le_n (le_n (le_n (le_n (le_n (le_n (le_n (le_n (le_n (le_n (le_n (le_n le_0)))))))))))) ?_
    exact (mlaw2_2_c hS hdm hs hgd 72).1  M hS (by omega) (by omega) (by omega)
  · intro h5
    refine n_iload_n c_149_7 rfl ?_
    refine n_iconst c_149_8 ?_
    refine n_if2_lt c_149_9 (by omega) (by omega) ?_ ?_
    · intro h6
      exfalso; omega
    · intro h7
      refine n_iload_n c_149_12 rfl ?_
      refine n_iconst c_149_13 ?_
      refine n_if2_le c_149_14 (by omega) (by omega) ?_ ?_
      · intro h8
        refine n_aload_n c_149_20 rfl ?_
        refine n_getV (bi := 7) c_149_21 sc_112.n rfl rfl rfl (t_112_7 hS) ?_
        intro z9 ez9 f10
        refine n_bipush c_149_24 rfl ?_
        refine n_if2_ne c_149_26 (by omega) (by omega) ?_ ?_
        · intro h11
          refine n_aload_n c_149_32 rfl ?_
          refine n_getR c_149_33 sc_112.n rfl rfl rfl r_112_1 ?_
          refine n_iload_n c_149_36 rfl ?_
          refine n_ialoadV c_149_37 sc_113.n rfl rfl rfl (by omega) (t_113 hS (by omega)) ?_
          intro z12 ez12 f13
          refine n_if0_ne c_149_38 (by omega) ?_ ?_
          · intro h14
            refine n_aload_n c_149_44 rfl ?_
            refine n_getR c_149_45 sc_112.n rfl rfl rfl r_112_1 ?_
            refine n_iload_n c_149_48 rfl ?_
            refine n_ialoadV c_149_49 sc_113.n rfl rfl rfl (by omega) (t_113 hS (by omega)) ?_
            intro z15 ez15 f16
            refine n_iconst c_149_50 ?_
            refine n_isub c_149_51 rfl ?_
            refine n_istore_n (L2 := [some (2, 112), some (0, 2), some (0, s), some (0, (z15 - 1)), none, none, none, none, none, none, none, none]) c_149_52 rfl rfl ?_
            refine n_iload_n c_149_53 rfl ?_
            refine n_if0_ne c_149_54 (by omega) ?_ ?_
            · intro h17
              refine n_aload_n c_149_60 rfl ?_
              refine n_getR c_149_61 sc_112.n rfl rfl rfl r_112_3 ?_
              refine n_bipush c_149_64 rfl ?_
              refine n_iload_n c_149_66 rfl ?_
              refine n_imul c_149_67 rfl ?_
              refine n_laloadV c_149_68 sc_115.n rfl rfl rfl (by omega) (t_115 hS (by omega)) ?_
              intro z18 ez18 f19
              refine n_lstore (L2 := [some (2, 112), some (0, 2), some (0, s), some (0, (z15 - 1)), some (1, z18), none, none, none, none, none, none, none]) c_149_69 rfl rfl ?_
              refine n_lload c_149_71 rfl ?_
              refine n_lconst (n := 0) c_149_73 rfl ?_
              refine n_lcmp c_149_74 ?_
              refine n_lif_lt c_149_75 (by omega) (by omega) ?_ ?_
              · intro h20
                refine n_fg (le_n (le_n (le_n (le_n (le_n (le_n (le_n (le_n (le_n (le_n (le_n (le_n le_0)))))))))))) ?_
                exact (mlaw2_2_c hS hdm hs hgd 72).2.1  M hS (by omega) (by omega) (by omega)
              · intro h21
                refine n_lload c_149_78 rfl ?_
                refine n_ldc2 (n := 27) c_149_80 rfl ?_
                refine n_lcmp c_149_83 ?_
                refine n_lif_le c_149_84 (by omega) (by omega) ?_ ?_
                · intro h22
                  refine n_lconst (n := 0) c_149_90 rfl ?_
                  refine n_lstore (L2 := [some (2, 112), some (0, 2), some (0, s), some (0, (z15 - 1)), some (1, z18), none, some (1, 0), none, none, none, none, none]) c_149_91 rfl rfl ?_
                  refine n_iconst c_149_93 ?_
                  refine n_istore (L2 := [some (2, 112), some (0, 2), some (0, s), some (0, (z15 - 1)), some (1, z18), none, some (1, 0), none, some (0, 1), none, none, none]) c_149_94 rfl rfl ?_
                  refine n_iconst c_149_96 ?_
                  refine n_istore (L2 := [some (2, 112), some (0, 2), some (0, s), some (0, (z15 - 1)), some (1, z18), none, some (1, 0), none, some (0, 1), some (0, 0), none, none]) c_149_97 rfl rfl ?_
                  refine n_fg (le_s (le_s (le_s (le_s (le_s (le_n (le_s (le_n (le_s (le_s (le_n (le_n le_0)))))))))))) ?_
                  exact (mlaw2_2_c hS hdm hs hgd 72).2.2 _ _ _ _ _ M hS (by omega) (by omega) (by omega) (by omega) (by omega) (by omega) (by omega) (by omega) (by omega) (by omega)
                · intro h23
                  refine n_fg (le_n (le_n (le_n (le_n (le_n (le_n (le_n (le_n (le_n (le_n (le_n (le_n le_0)))))))))))) ?_
                  exact (mlaw2_2_c hS hdm hs hgd 72).2.1  M hS (by omega) (by omega) (by omega)
            · intro h24
              refine n_bipush c_149_57 rfl ?_
              exact n_rI c_149_59 rfl ⟨hS, by omega, by omega⟩
          · intro h25
            refine n_bipush c_149_41 rfl ?_
            exact n_rI c_149_43 rfl ⟨hS, by omega, by omega⟩
        · intro h26
          refine n_bipush c_149_29 rfl ?_
          exact n_rI c_149_31 rfl ⟨hS, by omega, by omega⟩
      · intro h27
        exfalso; omega

set_option maxHeartbeats 4000000 in
theorem mlaw3_2_c {xs : List Int32} {e : Nat} {ac : Int} {M : nM} {s gd : Int} (hS : Sf 2 ac M M) (hdm : M 112 0 = 2) (hs : -2147483648 ≤ s ∧ s ≤ 2147483647) (hgd : M 112 0 = gd) : ∀ nn : Nat, (∀ (M : nM), Sf 2 ac M M → (M 112 0 = 2) → (M 112 0 = gd) → 31 < (nn : Int) → nW xs (e + 1) 149 17 [none, none, none, none, none, none, none, none, none, none, none, none] [] M (nPI fun z M1 => Sf 2 ac M1 M1 ∧ (-2147483648 ≤ z ∧ z ≤ 2147483647) ∧ (M1 112 0 = gd))) ∧ (∀ (M : nM), Sf 2 ac M M → (M 112 0 = 2) → (M 112 0 = gd) → 30 < (nn : Int) → nW xs (e + 1) 149 87 [none, none, none, none, none, none, none, none, none, none, none, none] [] M (nPI fun z M1 => Sf 2 ac M1 M1 ∧ (-2147483648 ≤ z ∧ z ≤ 2147483647) ∧ (M1 112 0 = gd))) ∧ (∀ (x3 x4 x6 x8 x9 : Int) (M : nM), Sf 2 ac M M → (0 ≤ s ∧ s ≤ 7) → (1 ≤ x3 ∧ x3 ≤ 40) → (0 ≤ x4 ∧ x4 ≤ 27) → (0 ≤ x6 ∧ x6 ≤ 134217727) → (1 ≤ x8 ∧ x8 ≤ 40) → (0 ≤ x9 ∧ x9 ≤ 27) → (M 112 0 = 2) → (M 112 0 = gd) → (M 112 7 ≤ 11) → (27 - x9) * 1 + 1 < (nn : Int) → nW xs (e + 1) 149 99 [some (2, 112), some (0, 3), some (0, s), some (0, x3), some (1, x4), none, some (1, x6), none, some (0, x8), some (0, x9), none, none] [] M (nPI fun z M1 => Sf 2 ac M1 M1 ∧ (-2147483648 ≤ z ∧ z ≤ 2147483647) ∧ (M1 112 0 = gd))) := by
  have hd : (2 : Int) = 2 ∨ (2 : Int) = 3 := by decide
  have hac := hS.2.2.2.2
  intro nn
  induction nn with
  | zero => refine ⟨?_, ?_, ?_⟩ <;> (intros; omega)
  | succ nn ih =>
    refine ⟨?_, ?_, ?_⟩
    · intro M hS hdm hggd hnn
      refine n_bipush c_149_17 rfl ?_
      exact n_rI c_149_19 rfl ⟨hS, by omega, by omega⟩
    · intro M hS hdm hggd hnn
      refine n_bipush c_149_87 rfl ?_
      exact n_rI c_149_89 rfl ⟨hS, by omega, by omega⟩
    · intro x3 x4 x6 x8 x9 M hS k2 k3 k4 k6 k8 k9 hdm hggd v0 hnn
      refine n_iload c_149_99 rfl ?_
      refine n_i2l c_149_101 (by omega) ?_
      refine n_lload c_149_102 rfl ?_
      refine n_lcmp c_149_104 ?_
      refine n_lif_ge c_149_105 (by omega) (by omega) ?_ ?_
      · intro h1
        refine n_aload_n c_149_198 rfl ?_
        refine n_getR c_149_199 sc_112.n rfl rfl rfl r_112_8 ?_
        refine n_aload_n c_149_202 rfl ?_
        refine n_getV (bi := 7) c_149_203 sc_112.n rfl rfl rfl (t_112_7 hS) ?_
        intro z2 ez2 f3
        refine n_iload_n c_149_206 rfl ?_
        refine n_iastoreG c_149_207 sc_118.n rfl (by omega) (hS.w118 (by omega) (by omega)) ?_
        intro M4 eM4 hS4
        have g4_0 : M4 112 0 = M 112 0 := by rw [eM4]; exact nu_a (by omega)
        have g4_1 : M4 112 7 = M 112 7 := by rw [eM4]; exact nu_a (by omega)
        have g4_2 : M4 118 z2 = 3 := by rw [eM4]; exact nu_s _ _ _ _
        refine n_aload_n c_149_208 rfl ?_
        refine n_getR c_149_209 sc_112.n rfl rfl rfl r_112_9 ?_
        refine n_aload_n c_149_212 rfl ?_
        refine n_getV (bi := 7) c_149_213 sc_112.n rfl rfl rfl (t_112_7 hS4) ?_
        intro z5 ez5 f6
        refine n_lload c_149_216 rfl ?_
        refine n_lastoreM hS4 c_149_218 sc_119.n rfl (by omega) (m_119 (by omega) (by omega)) ?_
        intro M7 eM7 hS7
        have g7_0 : M7 112 0 = M4 112 0 := by rw [eM7]; exact nu_a (by omega)
        have g7_1 : M7 112 7 = M4 112 7 := by rw [eM7]; exact nu_a (by omega)
        have g7_2 : M7 118 z2 = M4 118 z2 := by rw [eM7]; exact nu_a (by omega)
        refine n_aload_n c_149_219 rfl ?_
        refine n_dup2 c_149_220 ?_
        refine n_getV (bi := 7) c_149_221 sc_112.n rfl rfl rfl (t_112_7 hS7) ?_
        intro z8 ez8 f9
        refine n_iconst c_149_224 ?_
        refine n_iadd c_149_225 rfl ?_
        refine n_putG (P := fun M2 => Sf 2 ac M2 M2) (bi := 7) c_149_226 sc_112.n rfl rfl rfl rfl (hS7.w112_7 (by omega) (by omega)) ?_
        intro M10 eM10 hS10
        have g10_0 : M10 112 0 = M7 112 0 := by rw [eM10]; exact nu_i (by omega)
        have g10_1 : M10 118 z2 = M7 118 z2 := by rw [eM10]; exact nu_a (by omega)
        have g10_2 : M10 112 7 = (z8 + 1) := by rw [eM10]; exact nu_s _ _ _ _
        refine n_aload_n c_149_229 rfl ?_
        refine n_getV (bi := 7) c_149_230 sc_112.n rfl rfl rfl (t_112_7 hS10) ?_
        intro z11 ez11 f12
        refine n_iconst c_149_233 ?_
        refine n_isub c_149_234 rfl ?_
        exact n_rI c_149_235 rfl ⟨hS10, by omega, by omega⟩
      · intro h13
        refine n_iconst c_149_108 ?_
        refine n_istore (L2 := [some (2, 112), some (0, 3), some (0, s), some (0, x3), some (1, x4), none, some (1, x6), none, some (0, x8), some (0, x9), some (0, 0), none]) c_149_109 rfl rfl ?_
        refine n_iconst c_149_111 ?_
        refine n_istore (L2 := [some (2, 112), some (0, 3), some (0, s), some (0, x3), some (1, x4), none, some (1, x6), none, some (0, x8), some (0, x9), some (0, 0), some (0, 0)]) c_149_112 rfl rfl ?_
        refine n_iload c_149_114 rfl ?_
        refine n_iload_n c_149_116 rfl ?_
        refine n_if2_ge c_149_117 (by omega) (by omega) ?_ ?_
        · intro h14
          exfalso; omega
        · intro h15
          refine n_iload c_149_120 rfl ?_
          refine n_iload_n c_149_122 rfl ?_
          refine n_if2_lt c_149_123 (by omega) (by omega) ?_ ?_
          · intro h16
            refine n_aload_n c_149_129 rfl ?_
            refine n_aload_n c_149_130 rfl ?_
            refine n_getR c_149_131 sc_112.n rfl rfl rfl r_112_3 ?_
            refine n_bipush c_149_134 rfl ?_
            refine n_iload_n c_149_136 rfl ?_
            refine n_imul c_149_137 rfl ?_
            refine n_iload c_149_138 rfl ?_
            refine n_iadd c_149_140 rfl ?_
            refine n_laloadV c_149_141 sc_115.n rfl rfl rfl (by omega) (t_115 hS (by omega)) ?_
            intro z17 ez17 f18
            refine n_v1I c_149_142 rfl sc_112.n rfl rfl rfl rfl (misThing_2 (v := z17) hS (by omega) (by omega)) ?_
            intro z19 M20 hP21
            obtain ⟨eM, f21, f21p0⟩ := hP21
            subst eM
            refine n_if0_ne c_149_145 (by omega) ?_ ?_
            · intro h22
              refine n_iload c_149_151 rfl ?_
              refine n_aload_n c_149_153 rfl ?_
              refine n_getV (bi := 0) c_149_154 sc_112.n rfl rfl rfl (show 2 ≤ M 112 0 ∧ M 112 0 ≤ 2 by omega) ?_
              intro z23 ez23 f24
              obtain rfl : z23 = 2 := by omega
              refine n_imul c_149_157 rfl ?_
              refine n_aload_n c_149_158 rfl ?_
              refine n_getR c_149_159 sc_112.n rfl rfl rfl r_112_3 ?_
              refine n_bipush c_149_162 rfl ?_
              refine n_iload_n c_149_164 rfl ?_
              refine n_imul c_149_165 rfl ?_
              refine n_iload c_149_166 rfl ?_
              refine n_iadd c_149_168 rfl ?_
              refine n_laloadV c_149_169 sc_115.n rfl rfl rfl (by omega) (t_115 hS (by omega)) ?_
              intro z25 ez25 f26
              refine n_l2i c_149_170 ?_
              refine n_iadd c_149_171 rfl ?_
              refine n_istore (L2 := [some (2, 112), some (0, 3), some (0, s), some (0, x3), some (1, x4), none, some (1, x6), none, some (0, x8), some (0, x9), some (0, ((0 * 2) + z25)), some (0, 0)]) c_149_172 rfl rfl ?_
              refine n_iinc (L2 := [some (2, 112), some (0, 3), some (0, s), some (0, x3), some (1, x4), none, some (1, x6), none, some (0, (x8 + 1)), some (0, x9), some (0, ((0 * 2) + z25)), some (0, 0)]) c_149_174 rfl rfl rfl ?_
              refine n_iinc (L2 := [some (2, 112), some (0, 3), some (0, s), some (0, x3), some (1, x4), none, some (1, x6), none, some (0, (x8 + 1)), some (0, x9), some (0, ((0 * 2) + z25)), some (0, (0 + 1))]) c_149_177 rfl rfl rfl ?_
              refine n_goto c_149_180 ?_
              refine n_iload c_149_114 rfl ?_
              refine n_iload_n c_149_116 rfl ?_
              refine n_if2_ge c_149_117 (by omega) (by omega) ?_ ?_
              · intro h27
                exfalso; omega
              · intro h28
                refine n_iload c_149_120 rfl ?_
                refine n_iload_n c_149_122 rfl ?_
                refine n_if2_lt c_149_123 (by omega) (by omega) ?_ ?_
                · intro h29
                  refine n_aload_n c_149_129 rfl ?_
                  refine n_aload_n c_149_130 rfl ?_
                  refine n_getR c_149_131 sc_112.n rfl rfl rfl r_112_3 ?_
                  refine n_bipush c_149_134 rfl ?_
                  refine n_iload_n c_149_136 rfl ?_
                  refine n_imul c_149_137 rfl ?_
                  refine n_iload c_149_138 rfl ?_
                  refine n_iadd c_149_140 rfl ?_
                  refine n_laloadV c_149_141 sc_115.n rfl rfl rfl (by omega) (t_115 hS (by omega)) ?_
                  intro z30 ez30 f31
                  refine n_v1I c_149_142 rfl sc_112.n rfl rfl rfl rfl (misThing_2 (v := z30) hS (by omega) (by omega)) ?_
                  intro z32 M33 hP34
                  obtain ⟨eM, f34, f34p0⟩ := hP34
                  subst eM
                  refine n_if0_ne c_149_145 (by omega) ?_ ?_
                  · intro h35
                    refine n_iload c_149_151 rfl ?_
                    refine n_aload_n c_149_153 rfl ?_
                    refine n_getV (bi := 0) c_149_154 sc_112.n rfl rfl rfl (show 2 ≤ M 112 0 ∧ M 112 0 ≤ 2 by omega) ?_
                    intro z36 ez36 f37
                    obtain rfl : z36 = 2 := by omega
                    refine n_imul c_149_157 rfl ?_
                    refine n_aload_n c_149_158 rfl ?_
                    refine n_getR c_149_159 sc_112.n rfl rfl rfl r_112_3 ?_
                    refine n_bipush c_149_162 rfl ?_
                    refine n_iload_n c_149_164 rfl ?_
                    refine n_imul c_149_165 rfl ?_
                    refine n_iload c_149_166 rfl ?_
                    refine n_iadd c_149_168 rfl ?_
                    refine n_laloadV c_149_169 sc_115.n rfl rfl rfl (by omega) (t_115 hS (by omega)) ?_
                    intro z38 ez38 f39
                    refine n_l2i c_149_170 ?_
                    refine n_iadd c_149_171 rfl ?_
                    refine n_istore (L2 := [some (2, 112), some (0, 3), some (0, s), some (0, x3), some (1, x4), none, some (1, x6), none, some (0, (x8 + 1)), some (0, x9), some (0, ((((0 * 2) + z25) * 2) + z38)), some (0, (0 + 1))]) c_149_172 rfl rfl ?_
                    refine n_iinc (L2 := [some (2, 112), some (0, 3), some (0, s), some (0, x3), some (1, x4), none, some (1, x6), none, some (0, ((x8 + 1) + 1)), some (0, x9), some (0, ((((0 * 2) + z25) * 2) + z38)), some (0, (0 + 1))]) c_149_174 rfl rfl rfl ?_
                    refine n_iinc (L2 := [some (2, 112), some (0, 3), some (0, s), some (0, x3), some (1, x4), none, some (1, x6), none, some (0, ((x8 + 1) + 1)), some (0, x9), some (0, ((((0 * 2) + z25) * 2) + z38)), some (0, ((0 + 1) + 1))]) c_149_177 rfl rfl rfl ?_
                    refine n_goto c_149_180 ?_
                    refine n_iload c_149_114 rfl ?_
                    refine n_iload_n c_149_116 rfl ?_
                    refine n_if2_ge c_149_117 (by omega) (by omega) ?_ ?_
                    · intro h40
                      exfalso; omega
                    · intro h41
                      refine n_iload c_149_120 rfl ?_
                      refine n_iload_n c_149_122 rfl ?_
                      refine n_if2_lt c_149_123 (by omega) (by omega) ?_ ?_
                      · intro h42
                        refine n_aload_n c_149_129 rfl ?_
                        refine n_aload_n c_149_130 rfl ?_
                        refine n_getR c_149_131 sc_112.n rfl rfl rfl r_112_3 ?_
                        refine n_bipush c_149_134 rfl ?_
                        refine n_iload_n c_149_136 rfl ?_
                        refine n_imul c_149_137 rfl ?_
                        refine n_iload c_149_138 rfl ?_
                        refine n_iadd c_149_140 rfl ?_
                        refine n_laloadV c_149_141 sc_115.n rfl rfl rfl (by omega) (t_115 hS (by omega)) ?_
                        intro z43 ez43 f44
                        refine n_v1I c_149_142 rfl sc_112.n rfl rfl rfl rfl (misThing_2 (v := z43) hS (by omega) (by omega)) ?_
                        intro z45 M46 hP47
                        obtain ⟨eM, f47, f47p0⟩ := hP47
                        subst eM
                        refine n_if0_ne c_149_145 (by omega) ?_ ?_
                        · intro h48
                          refine n_iload c_149_151 rfl ?_
                          refine n_aload_n c_149_153 rfl ?_
                          refine n_getV (bi := 0) c_149_154 sc_112.n rfl rfl rfl (show 2 ≤ M 112 0 ∧ M 112 0 ≤ 2 by omega) ?_
                          intro z49 ez49 f50
                          obtain rfl : z49 = 2 := by omega
                          refine n_imul c_149_157 rfl ?_
                          refine n_aload_n c_149_158 rfl ?_
                          refine n_getR c_149_159 sc_112.n rfl rfl rfl r_112_3 ?_
                          refine n_bipush c_149_162 rfl ?_
                          refine n_iload_n c_149_164 rfl ?_
                          refine n_imul c_149_165 rfl ?_
                          refine n_iload c_149_166 rfl ?_
                          refine n_iadd c_149_168 rfl ?_
                          refine n_laloadV c_149_169 sc_115.n rfl rfl rfl (by omega) (t_115 hS (by omega)) ?_
                          intro z51 ez51 f52
                          refine n_l2i c_149_170 ?_
                          refine n_iadd c_149_171 rfl ?_
                          refine n_istore (L2 := [some (2, 112), some (0, 3), some (0, s), some (0, x3), some (1, x4), none, some (1, x6), none, some (0, ((x8 + 1) + 1)), some (0, x9), some (0, ((((((0 * 2) + z25) * 2) + z38) * 2) + z51)), some (0, ((0 + 1) + 1))]) c_149_172 rfl rfl ?_
                          refine n_iinc (L2 := [some (2, 112), some (0, 3), some (0, s), some (0, x3), some (1, x4), none, some (1, x6), none, some (0, (((x8 + 1) + 1) + 1)), some (0, x9), some (0, ((((((0 * 2) + z25) * 2) + z38) * 2) + z51)), some (0, ((0 + 1) + 1))]) c_149_174 rfl rfl rfl ?_
                          refine n_iinc (L2 := [some (2, 112), some (0, 3), some (0, s), some (0, x3), some (1, x4), none, some (1, x6), none, some (0, (((x8 + 1) + 1) + 1)), some (0, x9), some (0, ((((((0 * 2) + z25) * 2) + z38) * 2) + z51)), some (0, (((0 + 1) + 1) + 1))]) c_149_177 rfl rfl rfl ?_
                          refine n_goto c_149_180 ?_
                          refine n_iload c_149_114 rfl ?_
                          refine n_iload_n c_149_116 rfl ?_
                          refine n_if2_ge c_149_117 (by omega) (by omega) ?_ ?_
                          · intro h53
                            refine n_lload c_149_183 rfl ?_
                            refine n_lconst (n := 1) c_149_185 rfl ?_
                            refine n_iload c_149_186 rfl ?_
                            refine n_i_lshl c_149_188 rfl ?_
                            refine n_i_lor c_149_189 rfl ?_
                            have f54 := n_lor_bit27 (s := x6) (r := ((((((0 * 2) + z25) * 2) + z38) * 2) + z51)) (by omega) (by omega)
                            refine n_lstore (L2 := [some (2, 112), some (0, 3), some (0, s), some (0, x3), some (1, x4), none, some (1, (n_lor x6 (n_lshl 1 ((((((0 * 2) + z25) * 2) + z38) * 2) + z51)))), none, some (0, (((x8 + 1) + 1) + 1)), some (0, x9), some (0, ((((((0 * 2) + z25) * 2) + z38) * 2) + z51)), some (0, (((0 + 1) + 1) + 1))]) c_149_190 rfl rfl ?_
                            refine n_iinc (L2 := [some (2, 112), some (0, 3), some (0, s), some (0, x3), some (1, x4), none, some (1, (n_lor x6 (n_lshl 1 ((((((0 * 2) + z25) * 2) + z38) * 2) + z51)))), none, some (0, (((x8 + 1) + 1) + 1)), some (0, (x9 + 1)), some (0, ((((((0 * 2) + z25) * 2) + z38) * 2) + z51)), some (0, (((0 + 1) + 1) + 1))]) c_149_192 rfl rfl rfl ?_
                            refine n_goto c_149_195 ?_
                            refine n_fg (le_s (le_s (le_s (le_s (le_s (le_n (le_s (le_n (le_s (le_s (le_n (le_n le_0)))))))))))) ?_
                            exact ih.2.2 _ _ _ _ _ M hS (by omega) (by omega) (by omega) (by omega) (by omega) (by omega) (by omega) (by omega) (by omega) (by omega)
                          · intro h55
                            exfalso; omega
                        · intro h56
                          refine n_bipush c_149_148 rfl ?_
                          exact n_rI c_149_150 rfl ⟨hS, by omega, by omega⟩
                      · intro h57
                        refine n_bipush c_149_126 rfl ?_
                        exact n_rI c_149_128 rfl ⟨hS, by omega, by omega⟩
                  · intro h58
                    refine n_bipush c_149_148 rfl ?_
                    exact n_rI c_149_150 rfl ⟨hS, by omega, by omega⟩
                · intro h59
                  refine n_bipush c_149_126 rfl ?_
                  exact n_rI c_149_128 rfl ⟨hS, by omega, by omega⟩
            · intro h60
              refine n_bipush c_149_148 rfl ?_
              exact n_rI c_149_150 rfl ⟨hS, by omega, by omega⟩
          · intro h61
            refine n_bipush c_149_126 rfl ?_
            exact n_rI c_149_128 rfl ⟨hS, by omega, by omega⟩
set_option maxHeartbeats 4000000 in
theorem mlaw3_2 {xs : List Int32} {e : Nat} {ac : Int} {M : nM} {s gd : Int} (hS : Sf 2 ac M M) (hdm : M 112 0 = 2) (hs : -2147483648 ≤ s ∧ s ≤ 2147483647) (hgd : M 112 0 = gd) : nW xs (e + 1) 149 0 [some (2, 112), some (0, 3), some (0, s), none, none, none, none, none, none, none, none, none] [] M (nPI fun z M1 => Sf 2 ac M1 M1 ∧ (-2147483648 ≤ z ∧ z ≤ 2147483647) ∧ (M1 112 0 = gd)) := by
  have hd : (2 : Int) = 2 ∨ (2 : Int) = 3 := by decide
  have hac := hS.2.2.2.2
  refine n_iload_n c_149_0 rfl ?_
  refine n_s1I c_149_1 rfl rfl rfl rfl (misSlot_2 (s := s) hS (by omega)) ?_
  intro z1 M2 hP3
  obtain ⟨eM, f3, f3p0⟩ := hP3
  subst eM
  refine n_if0_eq c_149_4 (by omega) ?_ ?_
  · intro h4
    refine n_fg (le_n (le_n (le_n (le_n (le_n (le_n (le_n (le_n (le_n (le_n (le_n (le_n le_0)))))))))))) ?_
    exact (mlaw3_2_c hS hdm hs hgd 72).1  M hS (by omega) (by omega) (by omega)
  · intro h5
    refine n_iload_n c_149_7 rfl ?_
    refine n_iconst c_149_8 ?_
    refine n_if2_lt c_149_9 (by omega) (by omega) ?_ ?_
    · intro h6
      exfalso; omega
    · intro h7
      refine n_iload_n c_149_12 rfl ?_
      refine n_iconst c_149_13 ?_
      refine n_if2_le c_149_14 (by omega) (by omega) ?_ ?_
      · intro h8
        refine n_aload_n c_149_20 rfl ?_
        refine n_getV (bi := 7) c_149_21 sc_112.n rfl rfl rfl (t_112_7 hS) ?_
        intro z9 ez9 f10
        refine n_bipush c_149_24 rfl ?_
        refine n_if2_ne c_149_26 (by omega) (by omega) ?_ ?_
        · intro h11
          refine n_aload_n c_149_32 rfl ?_
          refine n_getR c_149_33 sc_112.n rfl rfl rfl r_112_1 ?_
          refine n_iload_n c_149_36 rfl ?_
          refine n_ialoadV c_149_37 sc_113.n rfl rfl rfl (by omega) (t_113 hS (by omega)) ?_
          intro z12 ez12 f13
          refine n_if0_ne c_149_38 (by omega) ?_ ?_
          · intro h14
            refine n_aload_n c_149_44 rfl ?_
            refine n_getR c_149_45 sc_112.n rfl rfl rfl r_112_1 ?_
            refine n_iload_n c_149_48 rfl ?_
            refine n_ialoadV c_149_49 sc_113.n rfl rfl rfl (by omega) (t_113 hS (by omega)) ?_
            intro z15 ez15 f16
            refine n_iconst c_149_50 ?_
            refine n_isub c_149_51 rfl ?_
            refine n_istore_n (L2 := [some (2, 112), some (0, 3), some (0, s), some (0, (z15 - 1)), none, none, none, none, none, none, none, none]) c_149_52 rfl rfl ?_
            refine n_iload_n c_149_53 rfl ?_
            refine n_if0_ne c_149_54 (by omega) ?_ ?_
            · intro h17
              refine n_aload_n c_149_60 rfl ?_
              refine n_getR c_149_61 sc_112.n rfl rfl rfl r_112_3 ?_
              refine n_bipush c_149_64 rfl ?_
              refine n_iload_n c_149_66 rfl ?_
              refine n_imul c_149_67 rfl ?_
              refine n_laloadV c_149_68 sc_115.n rfl rfl rfl (by omega) (t_115 hS (by omega)) ?_
              intro z18 ez18 f19
              refine n_lstore (L2 := [some (2, 112), some (0, 3), some (0, s), some (0, (z15 - 1)), some (1, z18), none, none, none, none, none, none, none]) c_149_69 rfl rfl ?_
              refine n_lload c_149_71 rfl ?_
              refine n_lconst (n := 0) c_149_73 rfl ?_
              refine n_lcmp c_149_74 ?_
              refine n_lif_lt c_149_75 (by omega) (by omega) ?_ ?_
              · intro h20
                refine n_fg (le_n (le_n (le_n (le_n (le_n (le_n (le_n (le_n (le_n (le_n (le_n (le_n le_0)))))))))))) ?_
                exact (mlaw3_2_c hS hdm hs hgd 72).2.1  M hS (by omega) (by omega) (by omega)
              · intro h21
                refine n_lload c_149_78 rfl ?_
                refine n_ldc2 (n := 27) c_149_80 rfl ?_
                refine n_lcmp c_149_83 ?_
                refine n_lif_le c_149_84 (by omega) (by omega) ?_ ?_
                · intro h22
                  refine n_lconst (n := 0) c_149_90 rfl ?_
                  refine n_lstore (L2 := [some (2, 112), some (0, 3), some (0, s), some (0, (z15 - 1)), some (1, z18), none, some (1, 0), none, none, none, none, none]) c_149_91 rfl rfl ?_
                  refine n_iconst c_149_93 ?_
                  refine n_istore (L2 := [some (2, 112), some (0, 3), some (0, s), some (0, (z15 - 1)), some (1, z18), none, some (1, 0), none, some (0, 1), none, none, none]) c_149_94 rfl rfl ?_
                  refine n_iconst c_149_96 ?_
                  refine n_istore (L2 := [some (2, 112), some (0, 3), some (0, s), some (0, (z15 - 1)), some (1, z18), none, some (1, 0), none, some (0, 1), some (0, 0), none, none]) c_149_97 rfl rfl ?_
                  refine n_fg (le_s (le_s (le_s (le_s (le_s (le_n (le_s (le_n (le_s (le_s (le_n (le_n le_0)))))))))))) ?_
                  exact (mlaw3_2_c hS hdm hs hgd 72).2.2 _ _ _ _ _ M hS (by omega) (by omega) (by omega) (by omega) (by omega) (by omega) (by omega) (by omega) (by omega) (by omega)
                · intro h23
                  refine n_fg (le_n (le_n (le_n (le_n (le_n (le_n (le_n (le_n (le_n (le_n (le_n (le_n le_0)))))))))))) ?_
                  exact (mlaw3_2_c hS hdm hs hgd 72).2.1  M hS (by omega) (by omega) (by omega)
            · intro h24
              refine n_bipush c_149_57 rfl ?_
              exact n_rI c_149_59 rfl ⟨hS, by omega, by omega⟩
          · intro h25
            refine n_bipush c_149_41 rfl ?_
            exact n_rI c_149_43 rfl ⟨hS, by omega, by omega⟩
        · intro h26
          refine n_bipush c_149_29 rfl ?_
          exact n_rI c_149_31 rfl ⟨hS, by omega, by omega⟩
      · intro h27
        exfalso; omega
