/-! What the methods tell. -/
set_option maxHeartbeats 4000000 in
theorem fillX40_2_c {xs : List Int32} {e : Nat} {ac : Int} {M0 M : nM} {Ms : nM} (hS : Sf 2 ac M0 M) (hf : ∀ a i : Int, a ≠ 40 → M a i = Ms a i) : ∀ nn : Nat, (∀ (x2 x3 : Int) (M : nM), Sf 2 ac M0 M → (0 ≤ x2 ∧ x2 ≤ 729) → (729 ≤ x3 ∧ x3 ≤ 729) → (∀ a i : Int, a ≠ 40 → M a i = Ms a i) → (∀ i : Int, 0 ≤ i → i < x2 → M 40 i = 255) → (729 - x2) * 1 + 1 < (nn : Int) → nW xs e 208 5 [some (2, 40), some (0, 255), some (0, x2), some (0, x3)] [] M (nPV fun M1 => Sf 2 ac M0 M1 ∧ (∀ a i : Int, a ≠ 40 → M1 a i = Ms a i) ∧ (∀ i : Int, 0 ≤ i → i < 729 → M1 40 i = 255))) := by
  have hd : (2 : Int) = 2 ∨ (2 : Int) = 3 := by decide
  have hac := hS.2.2.2.2
  intro nn
  induction nn with
  | zero => intros; omega
  | succ nn ih =>
    intro x2 x3 M hS k2 k3 v0 v1 hnn
    refine n_iload_n c_208_5 rfl (n_iload_n c_208_6 rfl ?_)
    refine n_if2_ge c_208_7 (by omega) (by omega) ?_ ?_
    · intro h1
      exact n_rV c_208_20 rfl ⟨hS, by assumption, by exact fun i h0 h1 => v1 i h0 (by omega)⟩
    · intro h2
      refine n_aload_n c_208_10 rfl (n_iload_n c_208_11 rfl (n_iload_n c_208_12 rfl (n_iastoreV hS c_208_13 sc_40.n rfl (by omega) (w_40 (by omega) (by omega)) ?_)))
      intro M3 eM3 hS3
      refine n_iinc (L2 := [some (2, 40), some (0, 255), some (0, (x2 + 1)), some (0, x3)]) c_208_14 rfl rfl rfl (n_goto c_208_17 (n_fg (le_s (le_s (le_s (le_s le_0)))) ?_))
      exact ih _ _ M3 hS3 (by omega) (by omega) (by exact fun a i ha => by rw [eM3, nu_a ha]; exact v0 a i ha) (by exact fun i h0 h1 => by rw [eM3, nu_e]; split <;> first | exact v1 i h0 (by omega) | rfl) (by omega)
set_option maxHeartbeats 4000000 in
theorem fillX40_2 {xs : List Int32} {e : Nat} {ac : Int} {M0 M : nM} {Ms : nM} (hS : Sf 2 ac M0 M) (hf : ∀ a i : Int, a ≠ 40 → M a i = Ms a i) : nW xs e 208 0 [some (2, 40), some (0, 255), none, none] [] M (nPV fun M1 => Sf 2 ac M0 M1 ∧ (∀ a i : Int, a ≠ 40 → M1 a i = Ms a i) ∧ (∀ i : Int, 0 ≤ i → i < 729 → M1 40 i = 255)) := by
  have hd : (2 : Int) = 2 ∨ (2 : Int) = 3 := by decide
  have hac := hS.2.2.2.2
  refine n_iconst c_208_0 (n_istore_n (L2 := [some (2, 40), some (0, 255), some (0, 0), none]) c_208_1 rfl rfl (n_aload_n c_208_2 rfl (n_alen c_208_3 sc_40.n rfl (n_istore_n (L2 := [some (2, 40), some (0, 255), some (0, 0), some (0, ((729 : Nat) : Int))]) c_208_4 rfl rfl (n_fg (le_s (le_s (le_s (le_s le_0)))) ?_)))))
  exact (fillX40_2_c hS hf 1472) _ _ M hS (by omega) (by omega) (by exact hf) (by exact fun i h0 h1 => by omega) (by omega)

set_option maxHeartbeats 4000000 in
theorem fillX47_2_c {xs : List Int32} {e : Nat} {ac : Int} {M : nM} {v : Int} {Ms : nM} (hS : Sf 2 ac M M) (hv : -9223372036854775808 ≤ v ∧ v ≤ 9223372036854775807) (hf : ∀ a i : Int, a ≠ 47 → M a i = Ms a i) : ∀ nn : Nat, (∀ (x3 x4 : Int) (M : nM), Sf 2 ac M M → (0 ≤ x3 ∧ x3 ≤ 308) → (308 ≤ x4 ∧ x4 ≤ 308) → (∀ a i : Int, a ≠ 47 → M a i = Ms a i) → (∀ i : Int, 0 ≤ i → i < x3 → M 47 i = v) → (308 - x3) * 1 + 1 < (nn : Int) → nW xs e 207 6 [some (2, 47), some (1, v), none, some (0, x3), some (0, x4)] [] M (nPV fun M1 => Sf 2 ac M1 M1 ∧ (∀ a i : Int, a ≠ 47 → M1 a i = Ms a i) ∧ (∀ i : Int, 0 ≤ i → i < 308 → M1 47 i = v))) := by
  have hd : (2 : Int) = 2 ∨ (2 : Int) = 3 := by decide
  have hac := hS.2.2.2.2
  intro nn
  induction nn with
  | zero => intros; omega
  | succ nn ih =>
    intro x3 x4 M hS k3 k4 v0 v1 hnn
    refine n_iload_n c_207_6 rfl (n_iload c_207_7 rfl ?_)
    refine n_if2_ge c_207_9 (by omega) (by omega) ?_ ?_
    · intro h1
      exact n_rV c_207_22 rfl ⟨hS, by assumption, by exact fun i h0 h1 => v1 i h0 (by omega)⟩
    · intro h2
      refine n_aload_n c_207_12 rfl (n_iload_n c_207_13 rfl (n_lload_n c_207_14 rfl (n_lastoreM hS c_207_15 sc_47.n rfl (by omega) (m_47 (by omega) (by omega)) ?_)))
      intro M3 eM3 hS3
      refine n_iinc (L2 := [some (2, 47), some (1, v), none, some (0, (x3 + 1)), some (0, x4)]) c_207_16 rfl rfl rfl (n_goto c_207_19 (n_fg (le_s (le_s (le_n (le_s (le_s le_0))))) ?_))
      exact ih _ _ M3 hS3 (by omega) (by omega) (by exact fun a i ha => by rw [eM3, nu_a ha]; exact v0 a i ha) (by exact fun i h0 h1 => by rw [eM3, nu_e]; split <;> first | exact v1 i h0 (by omega) | rfl) (by omega)
set_option maxHeartbeats 4000000 in
theorem fillX47_2 {xs : List Int32} {e : Nat} {ac : Int} {M : nM} {v : Int} {Ms : nM} (hS : Sf 2 ac M M) (hv : -9223372036854775808 ≤ v ∧ v ≤ 9223372036854775807) (hf : ∀ a i : Int, a ≠ 47 → M a i = Ms a i) : nW xs e 207 0 [some (2, 47), some (1, v), none, none, none] [] M (nPV fun M1 => Sf 2 ac M1 M1 ∧ (∀ a i : Int, a ≠ 47 → M1 a i = Ms a i) ∧ (∀ i : Int, 0 ≤ i → i < 308 → M1 47 i = v)) := by
  have hd : (2 : Int) = 2 ∨ (2 : Int) = 3 := by decide
  have hac := hS.2.2.2.2
  refine n_iconst c_207_0 (n_istore_n (L2 := [some (2, 47), some (1, v), none, some (0, 0), none]) c_207_1 rfl rfl (n_aload_n c_207_2 rfl (n_alen c_207_3 sc_47.n rfl (n_istore (L2 := [some (2, 47), some (1, v), none, some (0, 0), some (0, ((308 : Nat) : Int))]) c_207_4 rfl rfl (n_fg (le_s (le_s (le_n (le_s (le_s le_0))))) ?_)))))
  exact (fillX47_2_c hS hv hf 630) _ _ M hS (by omega) (by omega) (by exact hf) (by exact fun i h0 h1 => by omega) (by omega)

set_option maxHeartbeats 4000000 in
theorem nstartX_2 {xs : List Int32} {e : Nat} {ac : Int} {M0 M : nM} {c : Int} (hS : Sf 2 ac M0 M) (hc : 1 ≤ c ∧ c ≤ 9) : nW xs (e + 1) 64 0 [some (2, 38), some (0, 2), some (0, c)] [] M (nPV fun M1 => Sf 2 ac M0 M1 ∧ (M1 38 5 = 2) ∧ (M1 38 6 = c) ∧ (M1 38 7 = 255) ∧ (∀ i : Int, 0 ≤ i → i < 729 → M1 40 i = 255) ∧ (∀ a i : Int, a ≠ 38 → a ≠ 40 → M1 a i = M a i)) := by
  have hd : (2 : Int) = 2 ∨ (2 : Int) = 3 := by decide
  have hac := hS.2.2.2.2
  refine n_aload_n c_64_0 rfl (n_iload_n c_64_1 rfl (n_putV (bi := 5) hS c_64_2 sc_38.n rfl rfl rfl rfl (w_38_5 (by omega)) ?_))
  intro M1 eM1 hS1
  have g1_0 : M1 38 5 = 2 := by rw [eM1]; exact nu_s _ _ _ _
  refine n_aload_n c_64_5 rfl (n_iload_n c_64_6 rfl (n_bipush c_64_7 rfl (n_s2I c_64_9 rfl rfl rfl rfl (imin_2 (x := c) (y := 9) hS1 (by omega) (by omega)) ?_)))
  intro z2 M3 hP4
  obtain ⟨eM, f4, f4p0⟩ := hP4
  subst eM
  refine n_putV (bi := 6) hS1 c_64_12 sc_38.n rfl rfl rfl rfl (w_38_6 (by omega)) ?_
  intro M5 eM5 hS5
  have g5_0 : M5 38 5 = M1 38 5 := by rw [eM5]; exact nu_i (by omega)
  have g5_1 : M5 38 6 = z2 := by rw [eM5]; exact nu_s _ _ _ _
  refine n_aload_n c_64_15 rfl (n_iconst c_64_16 (n_aload_n c_64_17 rfl (n_getV (bi := 5) c_64_18 sc_38.n rfl rfl rfl (t_38_5 hS5) ?_)))
  intro z6 ez6 f7
  obtain rfl : z6 = 2 := by omega
  refine n_aload_n c_64_21 rfl (n_getV (bi := 5) c_64_22 sc_38.n rfl rfl rfl (t_38_5 hS5) ?_)
  intro z8 ez8 f9
  obtain rfl : z8 = 2 := by omega
  refine n_imul c_64_25 rfl (n_aload_n c_64_26 rfl (n_getV (bi := 5) c_64_27 sc_38.n rfl rfl rfl (t_38_5 hS5) ?_))
  intro z10 ez10 f11
  obtain rfl : z10 = 2 := by omega
  refine n_imul c_64_30 rfl (n_i_ishl (z := 256) c_64_31 (by decide) ?_)
  refine n_iconst c_64_32 (n_isub c_64_33 rfl (n_putV (bi := 7) hS5 c_64_34 sc_38.n rfl rfl rfl rfl (w_38_7 (by omega)) ?_))
  intro M12 eM12 hS12
  have g12_0 : M12 38 5 = M5 38 5 := by rw [eM12]; exact nu_i (by omega)
  have g12_1 : M12 38 6 = M5 38 6 := by rw [eM12]; exact nu_i (by omega)
  have g12_2 : M12 38 7 = (256 - 1) := by rw [eM12]; exact nu_s _ _ _ _
  refine n_aload_n c_64_37 rfl (n_getR c_64_38 sc_38.n rfl rfl rfl r_38_1 (n_aload_n c_64_41 rfl (n_getV (bi := 7) c_64_42 sc_38.n rfl rfl rfl (t_38_7 hS12) ?_)))
  intro z13 ez13 f14
  obtain rfl : z13 = 255 := by omega
  refine n_s2V c_64_45 rfl rfl rfl rfl (fillX40_2 (Ms := M12) hS12 (by exact fun _ _ _ => rfl)) ?_
  intro  M15 hP16
  obtain ⟨hS15, f16p0, f16p1⟩ := hP16
  exact n_rV c_64_48 rfl ⟨hS15, by rw [f16p0 38 5 (by omega), eM12, nu_i (by omega), eM5, nu_i (by omega), eM1, nu_s], by rw [f16p0 38 6 (by omega), eM12, nu_i (by omega), eM5, nu_s]; omega, by rw [f16p0 38 7 (by omega), eM12, nu_s] <;> omega, by exact f16p1, by exact fun a i h1 h2 => by rw [f16p0 a i h2, eM12, nu_a h1, eM5, nu_a h1, eM1, nu_a h1]⟩

set_option maxHeartbeats 4000000 in
theorem limitX_2 {xs : List Int32} {e : Nat} {ac : Int} {M0 M : nM} {p q r w : Int} (hS : Sf 2 ac M0 M) (hp : 0 ≤ p ∧ p ≤ 8) (hq : 0 ≤ q ∧ q ≤ 8) (hr : 0 ≤ r ∧ r ≤ 8) (hw : -2147483648 ≤ w ∧ w ≤ 2147483647) : nW xs e 65 0 [some (2, 38), some (0, p), some (0, q), some (0, r), some (0, w)] [] M (nPV fun M1 => Sf 2 ac M0 M1 ∧ (M1 = nu M 40 (ai p q r) (n_and (M 40 (ai p q r)) w))) := by
  have hd : (2 : Int) = 2 ∨ (2 : Int) = 3 := by decide
  have hac := hS.2.2.2.2
  refine n_aload_n c_65_0 rfl (n_getR c_65_1 sc_38.n rfl rfl rfl r_38_1 (n_iload_n c_65_4 rfl (n_bipush c_65_5 rfl (n_imul c_65_7 rfl (n_iload_n c_65_8 rfl (n_iadd c_65_9 rfl (n_bipush c_65_10 rfl (n_imul c_65_12 rfl (n_iload_n c_65_13 rfl (n_iadd c_65_14 rfl (n_dup202 c_65_15 ?_)))))))))))
  refine n_ialoadV c_65_16 sc_40.n rfl rfl rfl (by omega) (t_40 hS (by omega)) ?_
  intro z1 ez1 f2
  refine n_iload c_65_17 rfl (n_i_iand c_65_19 rfl ?_)
  have f3 := n_and_r z1 w
  generalize gz4 : (n_and z1 w) = z4 at f3 ⊢
  refine n_iastoreV hS c_65_20 sc_40.n rfl (by omega) (w_40 (by omega) (by omega)) ?_
  intro M5 eM5 hS5
  exact n_rV c_65_21 rfl ⟨hS5, by unfold ai; rw [eM5, ← gz4, ez1]⟩

set_option maxHeartbeats 4000000 in
theorem orderX_2_c {xs : List Int32} {e : Nat} {ac : Int} {M0 M : nM} {Ms : nM} (hS : Sf 2 ac M0 M) (hms : M = Ms) (hAR : Ms 38 7 = 255) (hV0 : 0 ≤ Ms 38 6 ∧ Ms 38 6 ≤ 9) : ∀ nn : Nat, (∀ (x1 x2 : Int) (M : nM), Sf 2 ac M0 M → (0 ≤ x1 ∧ x1 ≤ 729) → (0 ≤ x2 ∧ x2 ≤ 9) → (x1 ≤ x2 * x2 * x2) → (FO Ms M) → (DNa (fun i => Ms 40 i) 255 x2 x1 M) → (x2 ≤ Ms 38 6) → (9 - x2) * 2795 + 2795 < (nn : Int) → nW xs e 67 4 [some (2, 38), some (0, x1), some (0, x2), none, none, none, none, none] [] M (nPV fun M1 => Sf 2 ac M0 M1 ∧ (ORD (fun i => Ms 40 i) (fun i => M1 41 i) (fun i => M1 42 i) (fun i => M1 43 i) 255 (Ms 38 6)) ∧ (FO Ms M1))) ∧ (∀ (x1 x2 x3 : Int) (M : nM), Sf 2 ac M0 M → (0 ≤ x1 ∧ x1 ≤ 729) → (0 ≤ x2 ∧ x2 ≤ 8) → (0 ≤ x3 ∧ x3 ≤ 9) → ((x3 ≤ x2 ∧ x1 ≤ x2 * x2 * x2 + x3 * (2 * x2 + 1)) ∨ (x3 = x2 + 1 ∧ x1 ≤ (x2 + 1) * (x2 + 1) * (x2 + 1))) → (FO Ms M) → (DNb (fun i => Ms 40 i) 255 x2 M) → (CUR (fun i => Ms 40 i) 255 x2 x1 x3 0 0 M) → (x2 < Ms 38 6) → (9 - x2) * 2795 + (9 - x3) * 254 + 254 < (nn : Int) → nW xs e 67 21 [some (2, 38), some (0, x1), some (0, x2), some (0, x3), none, none, none, none] [] M (nPV fun M1 => Sf 2 ac M0 M1 ∧ (ORD (fun i => Ms 40 i) (fun i => M1 41 i) (fun i => M1 42 i) (fun i => M1 43 i) 255 (Ms 38 6)) ∧ (FO Ms M1))) ∧ (∀ (x1 x2 x3 x4 : Int) (M : nM), Sf 2 ac M0 M → (0 ≤ x1 ∧ x1 ≤ 729) → (0 ≤ x2 ∧ x2 ≤ 8) → (0 ≤ x3 ∧ x3 ≤ 8) → (0 ≤ x4 ∧ x4 ≤ 9) → (x3 ≤ x2) → (x4 ≤ x2 + 1) → ((x3 < x2 ∧ x4 ≤ x2 ∧ x1 ≤ x2 * x2 * x2 + x3 * (2 * x2 + 1) + x4) ∨ (x3 < x2 ∧ x4 = x2 + 1 ∧ x1 ≤ x2 * x2 * x2 + x3 * (2 * x2 + 1) + 2 * x2 + 1) ∨ (x3 = x2 ∧ x1 ≤ x2 * x2 * x2 + x3 * (2 * x2 + 1) + x4 * (x2 + 1))) → (FO Ms M) → (DNb (fun i => Ms 40 i) 255 x2 M) → (CUR (fun i => Ms 40 i) 255 x2 x1 x3 x4 0 M) → (x2 < Ms 38 6) → (9 - x2) * 2795 + (9 - x3) * 254 + (9 - x4) * 23 + 23 < (nn : Int) → nW xs e 67 29 [some (2, 38), some (0, x1), some (0, x2), some (0, x3), some (0, x4), none, none, none] [] M (nPV fun M1 => Sf 2 ac M0 M1 ∧ (ORD (fun i => Ms 40 i) (fun i => M1 41 i) (fun i => M1 42 i) (fun i => M1 43 i) 255 (Ms 38 6)) ∧ (FO Ms M1))) ∧ (∀ (x1 x2 x3 x4 x6 : Int) (M : nM), Sf 2 ac M0 M → (0 ≤ x1 ∧ x1 ≤ 729) → (0 ≤ x2 ∧ x2 ≤ 8) → (0 ≤ x3 ∧ x3 ≤ 8) → (0 ≤ x4 ∧ x4 ≤ 8) → (0 ≤ x6 ∧ x6 ≤ 9) → (x3 ≤ x2) → (x4 ≤ x2) → (x6 ≤ x2 + 1) → ((x3 < x2 ∧ x4 < x2 ∧ x2 ≤ x6 ∧ x1 ≤ x2 * x2 * x2 + x3 * (2 * x2 + 1) + x4 + x6 - x2) ∨ (x3 < x2 ∧ x4 = x2 ∧ x1 ≤ x2 * x2 * x2 + x3 * (2 * x2 + 1) + x4 + x6) ∨ (x3 = x2 ∧ x1 ≤ x2 * x2 * x2 + x3 * (2 * x2 + 1) + x4 * (x2 + 1) + x6)) → (FO Ms M) → (DNb (fun i => Ms 40 i) 255 x2 M) → (CUR (fun i => Ms 40 i) 255 x2 x1 x3 x4 x6 M) → (x2 < Ms 38 6) → (9 - x2) * 2795 + (9 - x3) * 254 + (9 - x4) * 23 + (9 - x6) * 2 + 2 < (nn : Int) → nW xs e 67 65 [some (2, 38), some (0, x1), some (0, x2), some (0, x3), some (0, x4), none, some (0, x6), none] [] M (nPV fun M1 => Sf 2 ac M0 M1 ∧ (ORD (fun i => Ms 40 i) (fun i => M1 41 i) (fun i => M1 42 i) (fun i => M1 43 i) 255 (Ms 38 6)) ∧ (FO Ms M1))) ∧ (∀ (x1 x2 x3 x4 x6 : Int) (M : nM), Sf 2 ac M0 M → (0 ≤ x1 ∧ x1 ≤ 729) → (0 ≤ x2 ∧ x2 ≤ 8) → (0 ≤ x3 ∧ x3 ≤ 8) → (0 ≤ x4 ∧ x4 ≤ 8) → (0 ≤ x6 ∧ x6 ≤ 8) → (x3 ≤ x2) → (x4 ≤ x2) → ((x6 + 1) ≤ x2 + 1) → ((x3 < x2 ∧ x4 < x2 ∧ x2 ≤ (x6 + 1) ∧ x1 ≤ x2 * x2 * x2 + x3 * (2 * x2 + 1) + x4 + (x6 + 1) - x2) ∨ (x3 < x2 ∧ x4 = x2 ∧ x1 ≤ x2 * x2 * x2 + x3 * (2 * x2 + 1) + x4 + (x6 + 1)) ∨ (x3 = x2 ∧ x1 ≤ x2 * x2 * x2 + x3 * (2 * x2 + 1) + x4 * (x2 + 1) + (x6 + 1))) → (x6 ≤ x2) → (FO Ms M) → (DNb (fun i => Ms 40 i) 255 x2 M) → (CUR (fun i => Ms 40 i) 255 x2 x1 x3 x4 (x6 + 1) M) → (x2 < Ms 38 6) → (9 - x2) * 2795 + (9 - x3) * 254 + (9 - x4) * 23 + (9 - x6) * 2 + 1 < (nn : Int) → nW xs e 67 129 [some (2, 38), some (0, x1), some (0, x2), some (0, x3), some (0, x4), none, some (0, x6), none] [] M (nPV fun M1 => Sf 2 ac M0 M1 ∧ (ORD (fun i => Ms 40 i) (fun i => M1 41 i) (fun i => M1 42 i) (fun i => M1 43 i) 255 (Ms 38 6)) ∧ (FO Ms M1))) := by
  have hd : (2 : Int) = 2 ∨ (2 : Int) = 3 := by decide
  have hac := hS.2.2.2.2
  intro nn
  induction nn with
  | zero => refine ⟨?_, ?_, ?_, ?_, ?_⟩ <;> (intros; omega)
  | succ nn ih =>
    refine ⟨?_, ?_, ?_, ?_, ?_⟩
    · intro x1 x2 M hS k1 k2 v0 v1 v2 v3 hnn
      refine n_iload_n c_67_4 rfl (n_aload_n c_67_5 rfl (n_getV (bi := 6) c_67_6 sc_38.n rfl rfl rfl (t_38_6 hS) ?_))
      intro z1 ez1 f2
      refine n_if2_ge c_67_9 (by omega) (by omega) ?_ ?_
      · intro h3
        refine n_aload_n c_67_153 rfl (n_getR c_67_154 sc_38.n rfl rfl rfl r_38_4 (n_aload_n c_67_157 rfl (n_getV (bi := 6) c_67_158 sc_38.n rfl rfl rfl (t_38_6 hS) ?_)))
        intro z4 ez4 f5
        refine n_iload_n c_67_161 rfl (n_iastoreV hS c_67_162 sc_43.n rfl (by omega) (w_43 (by omega) (by omega)) ?_)
        intro M6 eM6 hS6
        have g6_0 : M6 38 6 = M 38 6 := by rw [eM6]; exact nu_a (by omega)
        exact n_rV c_67_163 rfl ⟨hS6, by have y6 := v1 38 6 (by omega) (by omega) (by omega); have x6 : x2 = Ms 38 6 := (by omega); rw [← x6]; exact DNa.ord v2 (by omega) (by rw [eM6]; congr 1 <;> omega), by exact v1.u eM6 (by omega)⟩
      · intro h7
        refine n_aload_n c_67_12 rfl (n_getR c_67_13 sc_38.n rfl rfl rfl r_38_4 (n_iload_n c_67_16 rfl (n_iload_n c_67_17 rfl (n_iastoreV hS c_67_18 sc_43.n rfl (by omega) (w_43 (by omega) (by omega)) ?_))))
        intro M8 eM8 hS8
        have g8_0 : M8 38 6 = M 38 6 := by rw [eM8]; exact nu_a (by omega)
        refine n_iconst c_67_19 (n_istore_n (L2 := [some (2, 38), some (0, x1), some (0, x2), some (0, 0), none, none, none, none]) c_67_20 rfl rfl (n_fg (le_s (le_s (le_s (le_s (le_n (le_n (le_n (le_n le_0)))))))) ?_))
        exact ih.2.1 _ _ _ M8 hS8 (by omega) (by omega) (by omega) (by omega) (by exact v1.u eM8 (by omega)) (by exact v2.go eM8) (by exact CUR.init eM8) (by have y6 := v1 38 6 (by omega) (by omega) (by omega); omega) (by omega)
    · intro x1 x2 x3 M hS k1 k2 k3 v0 v1 v2 v3 v4 hnn
      rcases (show x2 = 0 ∨ x2 = 1 ∨ x2 = 2 ∨ x2 = 3 ∨ x2 = 4 ∨ x2 = 5 ∨ x2 = 6 ∨ x2 = 7 ∨ x2 = 8 by omega) with rfl | rfl | rfl | rfl | rfl | rfl | rfl | rfl | rfl
      · skip
        refine n_iload_n c_67_21 rfl (n_iload_n c_67_22 rfl ?_)
        refine n_if2_gt c_67_23 (by omega) (by omega) ?_ ?_
        · intro h1
          refine n_iinc (L2 := [some (2, 38), some (0, x1), some (0, (0 + 1)), some (0, x3), none, none, none, none]) c_67_147 rfl rfl rfl (n_goto c_67_150 (n_fg (le_s (le_s (le_s (le_n (le_n (le_n (le_n (le_n le_0)))))))) ?_))
          exact ih.1 _ _ M hS (by omega) (by omega) (by omega) (by exact v1) (by exact DNa.of v2 (CUR.mv v3 (fun a b f _ _ _ _ _ => by omega))) (by omega) (by omega)
        · intro h2
          refine n_iconst c_67_26 (n_istore (L2 := [some (2, 38), some (0, x1), some (0, 0), some (0, x3), some (0, 0), none, none, none]) c_67_27 rfl rfl (n_fg (le_s (le_s (le_s (le_s (le_s (le_n (le_n (le_n le_0)))))))) ?_))
          exact ih.2.2.1 _ _ _ _ M hS (by omega) (by omega) (by omega) (by omega) (by omega) (by omega) (by omega) (by exact v1) (by exact v2) (by exact v3) (by omega) (by omega)
      · skip
        refine n_iload_n c_67_21 rfl (n_iload_n c_67_22 rfl ?_)
        refine n_if2_gt c_67_23 (by omega) (by omega) ?_ ?_
        · intro h3
          refine n_iinc (L2 := [some (2, 38), some (0, x1), some (0, (1 + 1)), some (0, x3), none, none, none, none]) c_67_147 rfl rfl rfl (n_goto c_67_150 (n_fg (le_s (le_s (le_s (le_n (le_n (le_n (le_n (le_n le_0)))))))) ?_))
          exact ih.1 _ _ M hS (by omega) (by omega) (by omega) (by exact v1) (by exact DNa.of v2 (CUR.mv v3 (fun a b f _ _ _ _ _ => by omega))) (by omega) (by omega)
        · intro h4
          refine n_iconst c_67_26 (n_istore (L2 := [some (2, 38), some (0, x1), some (0, 1), some (0, x3), some (0, 0), none, none, none]) c_67_27 rfl rfl (n_fg (le_s (le_s (le_s (le_s (le_s (le_n (le_n (le_n le_0)))))))) ?_))
          exact ih.2.2.1 _ _ _ _ M hS (by omega) (by omega) (by omega) (by omega) (by omega) (by omega) (by omega) (by exact v1) (by exact v2) (by exact v3) (by omega) (by omega)
      · skip
        refine n_iload_n c_67_21 rfl (n_iload_n c_67_22 rfl ?_)
        refine n_if2_gt c_67_23 (by omega) (by omega) ?_ ?_
        · intro h5
          refine n_iinc (L2 := [some (2, 38), some (0, x1), some (0, (2 + 1)), some (0, x3), none, none, none, none]) c_67_147 rfl rfl rfl (n_goto c_67_150 (n_fg (le_s (le_s (le_s (le_n (le_n (le_n (le_n (le_n le_0)))))))) ?_))
          exact ih.1 _ _ M hS (by omega) (by omega) (by omega) (by exact v1) (by exact DNa.of v2 (CUR.mv v3 (fun a b f _ _ _ _ _ => by omega))) (by omega) (by omega)
        · intro h6
          refine n_iconst c_67_26 (n_istore (L2 := [some (2, 38), some (0, x1), some (0, 2), some (0, x3), some (0, 0), none, none, none]) c_67_27 rfl rfl (n_fg (le_s (le_s (le_s (le_s (le_s (le_n (le_n (le_n le_0)))))))) ?_))
          exact ih.2.2.1 _ _ _ _ M hS (by omega) (by omega) (by omega) (by omega) (by omega) (by omega) (by omega) (by exact v1) (by exact v2) (by exact v3) (by omega) (by omega)
      · skip
        refine n_iload_n c_67_21 rfl (n_iload_n c_67_22 rfl ?_)
        refine n_if2_gt c_67_23 (by omega) (by omega) ?_ ?_
        · intro h7
          refine n_iinc (L2 := [some (2, 38), some (0, x1), some (0, (3 + 1)), some (0, x3), none, none, none, none]) c_67_147 rfl rfl rfl (n_goto c_67_150 (n_fg (le_s (le_s (le_s (le_n (le_n (le_n (le_n (le_n le_0)))))))) ?_))
          exact ih.1 _ _ M hS (by omega) (by omega) (by omega) (by exact v1) (by exact DNa.of v2 (CUR.mv v3 (fun a b f _ _ _ _ _ => by omega))) (by omega) (by omega)
        · intro h8
          refine n_iconst c_67_26 (n_istore (L2 := [some (2, 38), some (0, x1), some (0, 3), some (0, x3), some (0, 0), none, none, none]) c_67_27 rfl rfl (n_fg (le_s (le_s (le_s (le_s (le_s (le_n (le_n (le_n le_0)))))))) ?_))
          exact ih.2.2.1 _ _ _ _ M hS (by omega) (by omega) (by omega) (by omega) (by omega) (by omega) (by omega) (by exact v1) (by exact v2) (by exact v3) (by omega) (by omega)
      · skip
        refine n_iload_n c_67_21 rfl (n_iload_n c_67_22 rfl ?_)
        refine n_if2_gt c_67_23 (by omega) (by omega) ?_ ?_
        · intro h9
          refine n_iinc (L2 := [some (2, 38), some (0, x1), some (0, (4 + 1)), some (0, x3), none, none, none, none]) c_67_147 rfl rfl rfl (n_goto c_67_150 (n_fg (le_s (le_s (le_s (le_n (le_n (le_n (le_n (le_n le_0)))))))) ?_))
          exact ih.1 _ _ M hS (by omega) (by omega) (by omega) (by exact v1) (by exact DNa.of v2 (CUR.mv v3 (fun a b f _ _ _ _ _ => by omega))) (by omega) (by omega)
        · intro h10
          refine n_iconst c_67_26 (n_istore (L2 := [some (2, 38), some (0, x1), some (0, 4), some (0, x3), some (0, 0), none, none, none]) c_67_27 rfl rfl (n_fg (le_s (le_s (le_s (le_s (le_s (le_n (le_n (le_n le_0)))))))) ?_))
          exact ih.2.2.1 _ _ _ _ M hS (by omega) (by omega) (by omega) (by omega) (by omega) (by omega) (by omega) (by exact v1) (by exact v2) (by exact v3) (by omega) (by omega)
      · skip
        refine n_iload_n c_67_21 rfl (n_iload_n c_67_22 rfl ?_)
        refine n_if2_gt c_67_23 (by omega) (by omega) ?_ ?_
        · intro h11
          refine n_iinc (L2 := [some (2, 38), some (0, x1), some (0, (5 + 1)), some (0, x3), none, none, none, none]) c_67_147 rfl rfl rfl (n_goto c_67_150 (n_fg (le_s (le_s (le_s (le_n (le_n (le_n (le_n (le_n le_0)))))))) ?_))
          exact ih.1 _ _ M hS (by omega) (by omega) (by omega) (by exact v1) (by exact DNa.of v2 (CUR.mv v3 (fun a b f _ _ _ _ _ => by omega))) (by omega) (by omega)
        · intro h12
          refine n_iconst c_67_26 (n_istore (L2 := [some (2, 38), some (0, x1), some (0, 5), some (0, x3), some (0, 0), none, none, none]) c_67_27 rfl rfl (n_fg (le_s (le_s (le_s (le_s (le_s (le_n (le_n (le_n le_0)))))))) ?_))
          exact ih.2.2.1 _ _ _ _ M hS (by omega) (by omega) (by omega) (by omega) (by omega) (by omega) (by omega) (by exact v1) (by exact v2) (by exact v3) (by omega) (by omega)
      · skip
        refine n_iload_n c_67_21 rfl (n_iload_n c_67_22 rfl ?_)
        refine n_if2_gt c_67_23 (by omega) (by omega) ?_ ?_
        · intro h13
          refine n_iinc (L2 := [some (2, 38), some (0, x1), some (0, (6 + 1)), some (0, x3), none, none, none, none]) c_67_147 rfl rfl rfl (n_goto c_67_150 (n_fg (le_s (le_s (le_s (le_n (le_n (le_n (le_n (le_n le_0)))))))) ?_))
          exact ih.1 _ _ M hS (by omega) (by omega) (by omega) (by exact v1) (by exact DNa.of v2 (CUR.mv v3 (fun a b f _ _ _ _ _ => by omega))) (by omega) (by omega)
        · intro h14
          refine n_iconst c_67_26 (n_istore (L2 := [some (2, 38), some (0, x1), some (0, 6), some (0, x3), some (0, 0), none, none, none]) c_67_27 rfl rfl (n_fg (le_s (le_s (le_s (le_s (le_s (le_n (le_n (le_n le_0)))))))) ?_))
          exact ih.2.2.1 _ _ _ _ M hS (by omega) (by omega) (by omega) (by omega) (by omega) (by omega) (by omega) (by exact v1) (by exact v2) (by exact v3) (by omega) (by omega)
      · skip
        refine n_iload_n c_67_21 rfl (n_iload_n c_67_22 rfl ?_)
        refine n_if2_gt c_67_23 (by omega) (by omega) ?_ ?_
        · intro h15
          refine n_iinc (L2 := [some (2, 38), some (0, x1), some (0, (7 + 1)), some (0, x3), none, none, none, none]) c_67_147 rfl rfl rfl (n_goto c_67_150 (n_fg (le_s (le_s (le_s (le_n (le_n (le_n (le_n (le_n le_0)))))))) ?_))
          exact ih.1 _ _ M hS (by omega) (by omega) (by omega) (by exact v1) (by exact DNa.of v2 (CUR.mv v3 (fun a b f _ _ _ _ _ => by omega))) (by omega) (by omega)
        · intro h16
          refine n_iconst c_67_26 (n_istore (L2 := [some (2, 38), some (0, x1), some (0, 7), some (0, x3), some (0, 0), none, none, none]) c_67_27 rfl rfl (n_fg (le_s (le_s (le_s (le_s (le_s (le_n (le_n (le_n le_0)))))))) ?_))
          exact ih.2.2.1 _ _ _ _ M hS (by omega) (by omega) (by omega) (by omega) (by omega) (by omega) (by omega) (by exact v1) (by exact v2) (by exact v3) (by omega) (by omega)
      · skip
        refine n_iload_n c_67_21 rfl (n_iload_n c_67_22 rfl ?_)
        refine n_if2_gt c_67_23 (by omega) (by omega) ?_ ?_
        · intro h17
          refine n_iinc (L2 := [some (2, 38), some (0, x1), some (0, (8 + 1)), some (0, x3), none, none, none, none]) c_67_147 rfl rfl rfl (n_goto c_67_150 (n_fg (le_s (le_s (le_s (le_n (le_n (le_n (le_n (le_n le_0)))))))) ?_))
          exact ih.1 _ _ M hS (by omega) (by omega) (by omega) (by exact v1) (by exact DNa.of v2 (CUR.mv v3 (fun a b f _ _ _ _ _ => by omega))) (by omega) (by omega)
        · intro h18
          refine n_iconst c_67_26 (n_istore (L2 := [some (2, 38), some (0, x1), some (0, 8), some (0, x3), some (0, 0), none, none, none]) c_67_27 rfl rfl (n_fg (le_s (le_s (le_s (le_s (le_s (le_n (le_n (le_n le_0)))))))) ?_))
          exact ih.2.2.1 _ _ _ _ M hS (by omega) (by omega) (by omega) (by omega) (by omega) (by omega) (by omega) (by exact v1) (by exact v2) (by exact v3) (by omega) (by omega)
    · intro x1 x2 x3 x4 M hS k1 k2 k3 k4 v0 v1 v2 v3 v4 v5 v6 hnn
      rcases (show x2 = 0 ∨ x2 = 1 ∨ x2 = 2 ∨ x2 = 3 ∨ x2 = 4 ∨ x2 = 5 ∨ x2 = 6 ∨ x2 = 7 ∨ x2 = 8 by omega) with rfl | rfl | rfl | rfl | rfl | rfl | rfl | rfl | rfl
      · skip
        refine n_iload c_67_29 rfl (n_iload_n c_67_31 rfl ?_)
        refine n_if2_gt c_67_32 (by omega) (by omega) ?_ ?_
        · intro h1
          refine n_iinc (L2 := [some (2, 38), some (0, x1), some (0, 0), some (0, (x3 + 1)), some (0, x4), none, none, none]) c_67_141 rfl rfl rfl (n_goto c_67_144 (n_fg (le_s (le_s (le_s (le_s (le_n (le_n (le_n (le_n le_0)))))))) ?_))
          exact ih.2.1 _ _ _ M hS (by omega) (by omega) (by omega) (by omega) (by exact v3) (by exact v4) (by exact CUR.mv v5 (fun a b f _ _ _ _ _ => by omega)) (by omega) (by omega)
        · intro h2
          refine n_iload_n c_67_35 rfl (n_iload_n c_67_36 rfl ?_)
          refine n_if2_eq c_67_37 (by omega) (by omega) ?_ ?_
          · intro h3
            refine n_iconst c_67_46 (n_goto c_67_47 (n_istore (L2 := [some (2, 38), some (0, x1), some (0, 0), some (0, x3), some (0, x4), some (0, 1), none, none]) c_67_51 rfl rfl (n_iload c_67_53 rfl ?_)))
            refine n_if0_eq c_67_55 (by omega) ?_ ?_
            · intro h4
              exfalso; omega
            · intro h5
              refine n_iconst c_67_58 (n_goto c_67_59 (n_istore (L2 := [some (2, 38), some (0, x1), some (0, 0), some (0, x3), some (0, x4), some (0, 1), some (0, 0), none]) c_67_63 rfl rfl (n_fg (le_s (le_s (le_s (le_s (le_s (le_n (le_s (le_n le_0)))))))) ?_)))
              exact ih.2.2.2.1 _ _ _ _ _ M hS (by omega) (by omega) (by omega) (by omega) (by omega) (by omega) (by omega) (by omega) (by omega) (by exact v3) (by exact v4) (by exact CUR.mv v5 (fun a b f _ _ _ _ _ => by omega)) (by omega) (by omega)
          · intro h6
            refine n_iload c_67_40 rfl (n_iload_n c_67_42 rfl ?_)
            refine n_if2_ne c_67_43 (by omega) (by omega) ?_ ?_
            · intro h7
              exfalso; omega
            · intro h8
              refine n_iconst c_67_46 (n_goto c_67_47 (n_istore (L2 := [some (2, 38), some (0, x1), some (0, 0), some (0, x3), some (0, x4), some (0, 1), none, none]) c_67_51 rfl rfl (n_iload c_67_53 rfl ?_)))
              refine n_if0_eq c_67_55 (by omega) ?_ ?_
              · intro h9
                exfalso; omega
              · intro h10
                refine n_iconst c_67_58 (n_goto c_67_59 (n_istore (L2 := [some (2, 38), some (0, x1), some (0, 0), some (0, x3), some (0, x4), some (0, 1), some (0, 0), none]) c_67_63 rfl rfl (n_fg (le_s (le_s (le_s (le_s (le_s (le_n (le_s (le_n le_0)))))))) ?_)))
                exact ih.2.2.2.1 _ _ _ _ _ M hS (by omega) (by omega) (by omega) (by omega) (by omega) (by omega) (by omega) (by omega) (by omega) (by exact v3) (by exact v4) (by exact CUR.mv v5 (fun a b f _ _ _ _ _ => by omega)) (by omega) (by omega)
      · skip
        refine n_iload c_67_29 rfl (n_iload_n c_67_31 rfl ?_)
        refine n_if2_gt c_67_32 (by omega) (by omega) ?_ ?_
        · intro h11
          refine n_iinc (L2 := [some (2, 38), some (0, x1), some (0, 1), some (0, (x3 + 1)), some (0, x4), none, none, none]) c_67_141 rfl rfl rfl (n_goto c_67_144 (n_fg (le_s (le_s (le_s (le_s (le_n (le_n (le_n (le_n le_0)))))))) ?_))
          exact ih.2.1 _ _ _ M hS (by omega) (by omega) (by omega) (by omega) (by exact v3) (by exact v4) (by exact CUR.mv v5 (fun a b f _ _ _ _ _ => by omega)) (by omega) (by omega)
        · intro h12
          refine n_iload_n c_67_35 rfl (n_iload_n c_67_36 rfl ?_)
          refine n_if2_eq c_67_37 (by omega) (by omega) ?_ ?_
          · intro h13
            refine n_iconst c_67_46 (n_goto c_67_47 (n_istore (L2 := [some (2, 38), some (0, x1), some (0, 1), some (0, x3), some (0, x4), some (0, 1), none, none]) c_67_51 rfl rfl (n_iload c_67_53 rfl ?_)))
            refine n_if0_eq c_67_55 (by omega) ?_ ?_
            · intro h14
              exfalso; omega
            · intro h15
              refine n_iconst c_67_58 (n_goto c_67_59 (n_istore (L2 := [some (2, 38), some (0, x1), some (0, 1), some (0, x3), some (0, x4), some (0, 1), some (0, 0), none]) c_67_63 rfl rfl (n_fg (le_s (le_s (le_s (le_s (le_s (le_n (le_s (le_n le_0)))))))) ?_)))
              exact ih.2.2.2.1 _ _ _ _ _ M hS (by omega) (by omega) (by omega) (by omega) (by omega) (by omega) (by omega) (by omega) (by omega) (by exact v3) (by exact v4) (by exact CUR.mv v5 (fun a b f _ _ _ _ _ => by omega)) (by omega) (by omega)
          · intro h16
            refine n_iload c_67_40 rfl (n_iload_n c_67_42 rfl ?_)
            refine n_if2_ne c_67_43 (by omega) (by omega) ?_ ?_
            · intro h17
              refine n_iconst c_67_50 (n_istore (L2 := [some (2, 38), some (0, x1), some (0, 1), some (0, x3), some (0, x4), some (0, 0), none, none]) c_67_51 rfl rfl (n_iload c_67_53 rfl ?_))
              refine n_if0_eq c_67_55 (by omega) ?_ ?_
              · intro h18
                refine n_iload_n c_67_62 rfl (n_istore (L2 := [some (2, 38), some (0, x1), some (0, 1), some (0, x3), some (0, x4), some (0, 0), some (0, 1), none]) c_67_63 rfl rfl (n_fg (le_s (le_s (le_s (le_s (le_s (le_n (le_s (le_n le_0)))))))) ?_))
                exact ih.2.2.2.1 _ _ _ _ _ M hS (by omega) (by omega) (by omega) (by omega) (by omega) (by omega) (by omega) (by omega) (by omega) (by exact v3) (by exact v4) (by exact CUR.mv v5 (fun a b f _ _ _ _ _ => by omega)) (by omega) (by omega)
              · intro h19
                exfalso; omega
            · intro h20
              refine n_iconst c_67_46 (n_goto c_67_47 (n_istore (L2 := [some (2, 38), some (0, x1), some (0, 1), some (0, x3), some (0, x4), some (0, 1), none, none]) c_67_51 rfl rfl (n_iload c_67_53 rfl ?_)))
              refine n_if0_eq c_67_55 (by omega) ?_ ?_
              · intro h21
                exfalso; omega
              · intro h22
                refine n_iconst c_67_58 (n_goto c_67_59 (n_istore (L2 := [some (2, 38), some (0, x1), some (0, 1), some (0, x3), some (0, x4), some (0, 1), some (0, 0), none]) c_67_63 rfl rfl (n_fg (le_s (le_s (le_s (le_s (le_s (le_n (le_s (le_n le_0)))))))) ?_)))
                exact ih.2.2.2.1 _ _ _ _ _ M hS (by omega) (by omega) (by omega) (by omega) (by omega) (by omega) (by omega) (by omega) (by omega) (by exact v3) (by exact v4) (by exact CUR.mv v5 (fun a b f _ _ _ _ _ => by omega)) (by omega) (by omega)
      · skip
        refine n_iload c_67_29 rfl (n_iload_n c_67_31 rfl ?_)
        refine n_if2_gt c_67_32 (by omega) (by omega) ?_ ?_
        · intro h23
          refine n_iinc (L2 := [some (2, 38), some (0, x1), some (0, 2), some (0, (x3 + 1)), some (0, x4), none, none, none]) c_67_141 rfl rfl rfl (n_goto c_67_144 (n_fg (le_s (le_s (le_s (le_s (le_n (le_n (le_n (le_n le_0)))))))) ?_))
          exact ih.2.1 _ _ _ M hS (by omega) (by omega) (by omega) (by omega) (by exact v3) (by exact v4) (by exact CUR.mv v5 (fun a b f _ _ _ _ _ => by omega)) (by omega) (by omega)
        · intro h24
          refine n_iload_n c_67_35 rfl (n_iload_n c_67_36 rfl ?_)
          refine n_if2_eq c_67_37 (by omega) (by omega) ?_ ?_
          · intro h25
            refine n_iconst c_67_46 (n_goto c_67_47 (n_istore (L2 := [some (2, 38), some (0, x1), some (0, 2), some (0, x3), some (0, x4), some (0, 1), none, none]) c_67_51 rfl rfl (n_iload c_67_53 rfl ?_)))
            refine n_if0_eq c_67_55 (by omega) ?_ ?_
            · intro h26
              exfalso; omega
            · intro h27
              refine n_iconst c_67_58 (n_goto c_67_59 (n_istore (L2 := [some (2, 38), some (0, x1), some (0, 2), some (0, x3), some (0, x4), some (0, 1), some (0, 0), none]) c_67_63 rfl rfl (n_fg (le_s (le_s (le_s (le_s (le_s (le_n (le_s (le_n le_0)))))))) ?_)))
              exact ih.2.2.2.1 _ _ _ _ _ M hS (by omega) (by omega) (by omega) (by omega) (by omega) (by omega) (by omega) (by omega) (by omega) (by exact v3) (by exact v4) (by exact CUR.mv v5 (fun a b f _ _ _ _ _ => by omega)) (by omega) (by omega)
          · intro h28
            refine n_iload c_67_40 rfl (n_iload_n c_67_42 rfl ?_)
            refine n_if2_ne c_67_43 (by omega) (by omega) ?_ ?_
            · intro h29
              refine n_iconst c_67_50 (n_istore (L2 := [some (2, 38), some (0, x1), some (0, 2), some (0, x3), some (0, x4), some (0, 0), none, none]) c_67_51 rfl rfl (n_iload c_67_53 rfl ?_))
              refine n_if0_eq c_67_55 (by omega) ?_ ?_
              · intro h30
                refine n_iload_n c_67_62 rfl (n_istore (L2 := [some (2, 38), some (0, x1), some (0, 2), some (0, x3), some (0, x4), some (0, 0), some (0, 2), none]) c_67_63 rfl rfl (n_fg (le_s (le_s (le_s (le_s (le_s (le_n (le_s (le_n le_0)))))))) ?_))
                exact ih.2.2.2.1 _ _ _ _ _ M hS (by omega) (by omega) (by omega) (by omega) (by omega) (by omega) (by omega) (by omega) (by omega) (by exact v3) (by exact v4) (by exact CUR.mv v5 (fun a b f _ _ _ _ _ => by omega)) (by omega) (by omega)
              · intro h31
                exfalso; omega
            · intro h32
              refine n_iconst c_67_46 (n_goto c_67_47 (n_istore (L2 := [some (2, 38), some (0, x1), some (0, 2), some (0, x3), some (0, x4), some (0, 1), none, none]) c_67_51 rfl rfl (n_iload c_67_53 rfl ?_)))
              refine n_if0_eq c_67_55 (by omega) ?_ ?_
              · intro h33
                exfalso; omega
              · intro h34
                refine n_iconst c_67_58 (n_goto c_67_59 (n_istore (L2 := [some (2, 38), some (0, x1), some (0, 2), some (0, x3), some (0, x4), some (0, 1), some (0, 0), none]) c_67_63 rfl rfl (n_fg (le_s (le_s (le_s (le_s (le_s (le_n (le_s (le_n le_0)))))))) ?_)))
                exact ih.2.2.2.1 _ _ _ _ _ M hS (by omega) (by omega) (by omega) (by omega) (by omega) (by omega) (by omega) (by omega) (by omega) (by exact v3) (by exact v4) (by exact CUR.mv v5 (fun a b f _ _ _ _ _ => by omega)) (by omega) (by omega)
      · skip
        refine n_iload c_67_29 rfl (n_iload_n c_67_31 rfl ?_)
        refine n_if2_gt c_67_32 (by omega) (by omega) ?_ ?_
        · intro h35
          refine n_iinc (L2 := [some (2, 38), some (0, x1), some (0, 3), some (0, (x3 + 1)), some (0, x4), none, none, none]) c_67_141 rfl rfl rfl (n_goto c_67_144 (n_fg (le_s (le_s (le_s (le_s (le_n (le_n (le_n (le_n le_0)))))))) ?_))
          exact ih.2.1 _ _ _ M hS (by omega) (by omega) (by omega) (by omega) (by exact v3) (by exact v4) (by exact CUR.mv v5 (fun a b f _ _ _ _ _ => by omega)) (by omega) (by omega)
        · intro h36
          refine n_iload_n c_67_35 rfl (n_iload_n c_67_36 rfl ?_)
          refine n_if2_eq c_67_37 (by omega) (by omega) ?_ ?_
          · intro h37
            refine n_iconst c_67_46 (n_goto c_67_47 (n_istore (L2 := [some (2, 38), some (0, x1), some (0, 3), some (0, x3), some (0, x4), some (0, 1), none, none]) c_67_51 rfl rfl (n_iload c_67_53 rfl ?_)))
            refine n_if0_eq c_67_55 (by omega) ?_ ?_
            · intro h38
              exfalso; omega
            · intro h39
              refine n_iconst c_67_58 (n_goto c_67_59 (n_istore (L2 := [some (2, 38), some (0, x1), some (0, 3), some (0, x3), some (0, x4), some (0, 1), some (0, 0), none]) c_67_63 rfl rfl (n_fg (le_s (le_s (le_s (le_s (le_s (le_n (le_s (le_n le_0)))))))) ?_)))
              exact ih.2.2.2.1 _ _ _ _ _ M hS (by omega) (by omega) (by omega) (by omega) (by omega) (by omega) (by omega) (by omega) (by omega) (by exact v3) (by exact v4) (by exact CUR.mv v5 (fun a b f _ _ _ _ _ => by omega)) (by omega) (by omega)
          · intro h40
            refine n_iload c_67_40 rfl (n_iload_n c_67_42 rfl ?_)
            refine n_if2_ne c_67_43 (by omega) (by omega) ?_ ?_
            · intro h41
              refine n_iconst c_67_50 (n_istore (L2 := [some (2, 38), some (0, x1), some (0, 3), some (0, x3), some (0, x4), some (0, 0), none, none]) c_67_51 rfl rfl (n_iload c_67_53 rfl ?_))
              refine n_if0_eq c_67_55 (by omega) ?_ ?_
              · intro h42
                refine n_iload_n c_67_62 rfl (n_istore (L2 := [some (2, 38), some (0, x1), some (0, 3), some (0, x3), some (0, x4), some (0, 0), some (0, 3), none]) c_67_63 rfl rfl (n_fg (le_s (le_s (le_s (le_s (le_s (le_n (le_s (le_n le_0)))))))) ?_))
                exact ih.2.2.2.1 _ _ _ _ _ M hS (by omega) (by omega) (by omega) (by omega) (by omega) (by omega) (by omega) (by omega) (by omega) (by exact v3) (by exact v4) (by exact CUR.mv v5 (fun a b f _ _ _ _ _ => by omega)) (by omega) (by omega)
              · intro h43
                exfalso; omega
            · intro h44
              refine n_iconst c_67_46 (n_goto c_67_47 (n_istore (L2 := [some (2, 38), some (0, x1), some (0, 3), some (0, x3), some (0, x4), some (0, 1), none, none]) c_67_51 rfl rfl (n_iload c_67_53 rfl ?_)))
              refine n_if0_eq c_67_55 (by omega) ?_ ?_
              · intro h45
                exfalso; omega
              · intro h46
                refine n_iconst c_67_58 (n_goto c_67_59 (n_istore (L2 := [some (2, 38), some (0, x1), some (0, 3), some (0, x3), some (0, x4), some (0, 1), some (0, 0), none]) c_67_63 rfl rfl (n_fg (le_s (le_s (le_s (le_s (le_s (le_n (le_s (le_n le_0)))))))) ?_)))
                exact ih.2.2.2.1 _ _ _ _ _ M hS (by omega) (by omega) (by omega) (by omega) (by omega) (by omega) (by omega) (by omega) (by omega) (by exact v3) (by exact v4) (by exact CUR.mv v5 (fun a b f _ _ _ _ _ => by omega)) (by omega) (by omega)
      · skip
        refine n_iload c_67_29 rfl (n_iload_n c_67_31 rfl ?_)
        refine n_if2_gt c_67_32 (by omega) (by omega) ?_ ?_
        · intro h47
          refine n_iinc (L2 := [some (2, 38), some (0, x1), some (0, 4), some (0, (x3 + 1)), some (0, x4), none, none, none]) c_67_141 rfl rfl rfl (n_goto c_67_144 (n_fg (le_s (le_s (le_s (le_s (le_n (le_n (le_n (le_n le_0)))))))) ?_))
          exact ih.2.1 _ _ _ M hS (by omega) (by omega) (by omega) (by omega) (by exact v3) (by exact v4) (by exact CUR.mv v5 (fun a b f _ _ _ _ _ => by omega)) (by omega) (by omega)
        · intro h48
          refine n_iload_n c_67_35 rfl (n_iload_n c_67_36 rfl ?_)
          refine n_if2_eq c_67_37 (by omega) (by omega) ?_ ?_
          · intro h49
            refine n_iconst c_67_46 (n_goto c_67_47 (n_istore (L2 := [some (2, 38), some (0, x1), some (0, 4), some (0, x3), some (0, x4), some (0, 1), none, none]) c_67_51 rfl rfl (n_iload c_67_53 rfl ?_)))
            refine n_if0_eq c_67_55 (by omega) ?_ ?_
            · intro h50
              exfalso; omega
            · intro h51
              refine n_iconst c_67_58 (n_goto c_67_59 (n_istore (L2 := [some (2, 38), some (0, x1), some (0, 4), some (0, x3), some (0, x4), some (0, 1), some (0, 0), none]) c_67_63 rfl rfl (n_fg (le_s (le_s (le_s (le_s (le_s (le_n (le_s (le_n le_0)))))))) ?_)))
              exact ih.2.2.2.1 _ _ _ _ _ M hS (by omega) (by omega) (by omega) (by omega) (by omega) (by omega) (by omega) (by omega) (by omega) (by exact v3) (by exact v4) (by exact CUR.mv v5 (fun a b f _ _ _ _ _ => by omega)) (by omega) (by omega)
          · intro h52
            refine n_iload c_67_40 rfl (n_iload_n c_67_42 rfl ?_)
            refine n_if2_ne c_67_43 (by omega) (by omega) ?_ ?_
            · intro h53
              refine n_iconst c_67_50 (n_istore (L2 := [some (2, 38), some (0, x1), some (0, 4), some (0, x3), some (0, x4), some (0, 0), none, none]) c_67_51 rfl rfl (n_iload c_67_53 rfl ?_))
              refine n_if0_eq c_67_55 (by omega) ?_ ?_
              · intro h54
                refine n_iload_n c_67_62 rfl (n_istore (L2 := [some (2, 38), some (0, x1), some (0, 4), some (0, x3), some (0, x4), some (0, 0), some (0, 4), none]) c_67_63 rfl rfl (n_fg (le_s (le_s (le_s (le_s (le_s (le_n (le_s (le_n le_0)))))))) ?_))
                exact ih.2.2.2.1 _ _ _ _ _ M hS (by omega) (by omega) (by omega) (by omega) (by omega) (by omega) (by omega) (by omega) (by omega) (by exact v3) (by exact v4) (by exact CUR.mv v5 (fun a b f _ _ _ _ _ => by omega)) (by omega) (by omega)
              · intro h55
                exfalso; omega
            · intro h56
              refine n_iconst c_67_46 (n_goto c_67_47 (n_istore (L2 := [some (2, 38), some (0, x1), some (0, 4), some (0, x3), some (0, x4), some (0, 1), none, none]) c_67_51 rfl rfl (n_iload c_67_53 rfl ?_)))
              refine n_if0_eq c_67_55 (by omega) ?_ ?_
              · intro h57
                exfalso; omega
              · intro h58
                refine n_iconst c_67_58 (n_goto c_67_59 (n_istore (L2 := [some (2, 38), some (0, x1), some (0, 4), some (0, x3), some (0, x4), some (0, 1), some (0, 0), none]) c_67_63 rfl rfl (n_fg (le_s (le_s (le_s (le_s (le_s (le_n (le_s (le_n le_0)))))))) ?_)))
                exact ih.2.2.2.1 _ _ _ _ _ M hS (by omega) (by omega) (by omega) (by omega) (by omega) (by omega) (by omega) (by omega) (by omega) (by exact v3) (by exact v4) (by exact CUR.mv v5 (fun a b f _ _ _ _ _ => by omega)) (by omega) (by omega)
      · skip
        refine n_iload c_67_29 rfl (n_iload_n c_67_31 rfl ?_)
        refine n_if2_gt c_67_32 (by omega) (by omega) ?_ ?_
        · intro h59
          refine n_iinc (L2 := [some (2, 38), some (0, x1), some (0, 5), some (0, (x3 + 1)), some (0, x4), none, none, none]) c_67_141 rfl rfl rfl (n_goto c_67_144 (n_fg (le_s (le_s (le_s (le_s (le_n (le_n (le_n (le_n le_0)))))))) ?_))
          exact ih.2.1 _ _ _ M hS (by omega) (by omega) (by omega) (by omega) (by exact v3) (by exact v4) (by exact CUR.mv v5 (fun a b f _ _ _ _ _ => by omega)) (by omega) (by omega)
        · intro h60
          refine n_iload_n c_67_35 rfl (n_iload_n c_67_36 rfl ?_)
          refine n_if2_eq c_67_37 (by omega) (by omega) ?_ ?_
          · intro h61
            refine n_iconst c_67_46 (n_goto c_67_47 (n_istore (L2 := [some (2, 38), some (0, x1), some (0, 5), some (0, x3), some (0, x4), some (0, 1), none, none]) c_67_51 rfl rfl (n_iload c_67_53 rfl ?_)))
            refine n_if0_eq c_67_55 (by omega) ?_ ?_
            · intro h62
              exfalso; omega
            · intro h63
              refine n_iconst c_67_58 (n_goto c_67_59 (n_istore (L2 := [some (2, 38), some (0, x1), some (0, 5), some (0, x3), some (0, x4), some (0, 1), some (0, 0), none]) c_67_63 rfl rfl (n_fg (le_s (le_s (le_s (le_s (le_s (le_n (le_s (le_n le_0)))))))) ?_)))
              exact ih.2.2.2.1 _ _ _ _ _ M hS (by omega) (by omega) (by omega) (by omega) (by omega) (by omega) (by omega) (by omega) (by omega) (by exact v3) (by exact v4) (by exact CUR.mv v5 (fun a b f _ _ _ _ _ => by omega)) (by omega) (by omega)
          · intro h64
            refine n_iload c_67_40 rfl (n_iload_n c_67_42 rfl ?_)
            refine n_if2_ne c_67_43 (by omega) (by omega) ?_ ?_
            · intro h65
              refine n_iconst c_67_50 (n_istore (L2 := [some (2, 38), some (0, x1), some (0, 5), some (0, x3), some (0, x4), some (0, 0), none, none]) c_67_51 rfl rfl (n_iload c_67_53 rfl ?_))
              refine n_if0_eq c_67_55 (by omega) ?_ ?_
              · intro h66
                refine n_iload_n c_67_62 rfl (n_istore (L2 := [some (2, 38), some (0, x1), some (0, 5), some (0, x3), some (0, x4), some (0, 0), some (0, 5), none]) c_67_63 rfl rfl (n_fg (le_s (le_s (le_s (le_s (le_s (le_n (le_s (le_n le_0)))))))) ?_))
                exact ih.2.2.2.1 _ _ _ _ _ M hS (by omega) (by omega) (by omega) (by omega) (by omega) (by omega) (by omega) (by omega) (by omega) (by exact v3) (by exact v4) (by exact CUR.mv v5 (fun a b f _ _ _ _ _ => by omega)) (by omega) (by omega)
              · intro h67
                exfalso; omega
            · intro h68
              refine n_iconst c_67_46 (n_goto c_67_47 (n_istore (L2 := [some (2, 38), some (0, x1), some (0, 5), some (0, x3), some (0, x4), some (0, 1), none, none]) c_67_51 rfl rfl (n_iload c_67_53 rfl ?_)))
              refine n_if0_eq c_67_55 (by omega) ?_ ?_
              · intro h69
                exfalso; omega
              · intro h70
                refine n_iconst c_67_58 (n_goto c_67_59 (n_istore (L2 := [some (2, 38), some (0, x1), some (0, 5), some (0, x3), some (0, x4), some (0, 1), some (0, 0), none]) c_67_63 rfl rfl (n_fg (le_s (le_s (le_s (le_s (le_s (le_n (le_s (le_n le_0)))))))) ?_)))
                exact ih.2.2.2.1 _ _ _ _ _ M hS (by omega) (by omega) (by omega) (by omega) (by omega) (by omega) (by omega) (by omega) (by omega) (by exact v3) (by exact v4) (by exact CUR.mv v5 (fun a b f _ _ _ _ _ => by omega)) (by omega) (by omega)
      · skip
        refine n_iload c_67_29 rfl (n_iload_n c_67_31 rfl ?_)
        refine n_if2_gt c_67_32 (by omega) (by omega) ?_ ?_
        · intro h71
          refine n_iinc (L2 := [some (2, 38), some (0, x1), some (0, 6), some (0, (x3 + 1)), some (0, x4), none, none, none]) c_67_141 rfl rfl rfl (n_goto c_67_144 (n_fg (le_s (le_s (le_s (le_s (le_n (le_n (le_n (le_n le_0)))))))) ?_))
          exact ih.2.1 _ _ _ M hS (by omega) (by omega) (by omega) (by omega) (by exact v3) (by exact v4) (by exact CUR.mv v5 (fun a b f _ _ _ _ _ => by omega)) (by omega) (by omega)
        · intro h72
          refine n_iload_n c_67_35 rfl (n_iload_n c_67_36 rfl ?_)
          refine n_if2_eq c_67_37 (by omega) (by omega) ?_ ?_
          · intro h73
            refine n_iconst c_67_46 (n_goto c_67_47 (n_istore (L2 := [some (2, 38), some (0, x1), some (0, 6), some (0, x3), some (0, x4), some (0, 1), none, none]) c_67_51 rfl rfl (n_iload c_67_53 rfl ?_)))
            refine n_if0_eq c_67_55 (by omega) ?_ ?_
            · intro h74
              exfalso; omega
            · intro h75
              refine n_iconst c_67_58 (n_goto c_67_59 (n_istore (L2 := [some (2, 38), some (0, x1), some (0, 6), some (0, x3), some (0, x4), some (0, 1), some (0, 0), none]) c_67_63 rfl rfl (n_fg (le_s (le_s (le_s (le_s (le_s (le_n (le_s (le_n le_0)))))))) ?_)))
              exact ih.2.2.2.1 _ _ _ _ _ M hS (by omega) (by omega) (by omega) (by omega) (by omega) (by omega) (by omega) (by omega) (by omega) (by exact v3) (by exact v4) (by exact CUR.mv v5 (fun a b f _ _ _ _ _ => by omega)) (by omega) (by omega)
          · intro h76
            refine n_iload c_67_40 rfl (n_iload_n c_67_42 rfl ?_)
            refine n_if2_ne c_67_43 (by omega) (by omega) ?_ ?_
            · intro h77
              refine n_iconst c_67_50 (n_istore (L2 := [some (2, 38), some (0, x1), some (0, 6), some (0, x3), some (0, x4), some (0, 0), none, none]) c_67_51 rfl rfl (n_iload c_67_53 rfl ?_))
              refine n_if0_eq c_67_55 (by omega) ?_ ?_
              · intro h78
                refine n_iload_n c_67_62 rfl (n_istore (L2 := [some (2, 38), some (0, x1), some (0, 6), some (0, x3), some (0, x4), some (0, 0), some (0, 6), none]) c_67_63 rfl rfl (n_fg (le_s (le_s (le_s (le_s (le_s (le_n (le_s (le_n le_0)))))))) ?_))
                exact ih.2.2.2.1 _ _ _ _ _ M hS (by omega) (by omega) (by omega) (by omega) (by omega) (by omega) (by omega) (by omega) (by omega) (by exact v3) (by exact v4) (by exact CUR.mv v5 (fun a b f _ _ _ _ _ => by omega)) (by omega) (by omega)
              · intro h79
                exfalso; omega
            · intro h80
              refine n_iconst c_67_46 (n_goto c_67_47 (n_istore (L2 := [some (2, 38), some (0, x1), some (0, 6), some (0, x3), some (0, x4), some (0, 1), none, none]) c_67_51 rfl rfl (n_iload c_67_53 rfl ?_)))
              refine n_if0_eq c_67_55 (by omega) ?_ ?_
              · intro h81
                exfalso; omega
              · intro h82
                refine n_iconst c_67_58 (n_goto c_67_59 (n_istore (L2 := [some (2, 38), some (0, x1), some (0, 6), some (0, x3), some (0, x4), some (0, 1), some (0, 0), none]) c_67_63 rfl rfl (n_fg (le_s (le_s (le_s (le_s (le_s (le_n (le_s (le_n le_0)))))))) ?_)))
                exact ih.2.2.2.1 _ _ _ _ _ M hS (by omega) (by omega) (by omega) (by omega) (by omega) (by omega) (by omega) (by omega) (by omega) (by exact v3) (by exact v4) (by exact CUR.mv v5 (fun a b f _ _ _ _ _ => by omega)) (by omega) (by omega)
      · skip
        refine n_iload c_67_29 rfl (n_iload_n c_67_31 rfl ?_)
        refine n_if2_gt c_67_32 (by omega) (by omega) ?_ ?_
        · intro h83
          refine n_iinc (L2 := [some (2, 38), some (0, x1), some (0, 7), some (0, (x3 + 1)), some (0, x4), none, none, none]) c_67_141 rfl rfl rfl (n_goto c_67_144 (n_fg (le_s (le_s (le_s (le_s (le_n (le_n (le_n (le_n le_0)))))))) ?_))
          exact ih.2.1 _ _ _ M hS (by omega) (by omega) (by omega) (by omega) (by exact v3) (by exact v4) (by exact CUR.mv v5 (fun a b f _ _ _ _ _ => by omega)) (by omega) (by omega)
        · intro h84
          refine n_iload_n c_67_35 rfl (n_iload_n c_67_36 rfl ?_)
          refine n_if2_eq c_67_37 (by omega) (by omega) ?_ ?_
          · intro h85
            refine n_iconst c_67_46 (n_goto c_67_47 (n_istore (L2 := [some (2, 38), some (0, x1), some (0, 7), some (0, x3), some (0, x4), some (0, 1), none, none]) c_67_51 rfl rfl (n_iload c_67_53 rfl ?_)))
            refine n_if0_eq c_67_55 (by omega) ?_ ?_
            · intro h86
              exfalso; omega
            · intro h87
              refine n_iconst c_67_58 (n_goto c_67_59 (n_istore (L2 := [some (2, 38), some (0, x1), some (0, 7), some (0, x3), some (0, x4), some (0, 1), some (0, 0), none]) c_67_63 rfl rfl (n_fg (le_s (le_s (le_s (le_s (le_s (le_n (le_s (le_n le_0)))))))) ?_)))
              exact ih.2.2.2.1 _ _ _ _ _ M hS (by omega) (by omega) (by omega) (by omega) (by omega) (by omega) (by omega) (by omega) (by omega) (by exact v3) (by exact v4) (by exact CUR.mv v5 (fun a b f _ _ _ _ _ => by omega)) (by omega) (by omega)
          · intro h88
            refine n_iload c_67_40 rfl (n_iload_n c_67_42 rfl ?_)
            refine n_if2_ne c_67_43 (by omega) (by omega) ?_ ?_
            · intro h89
              refine n_iconst c_67_50 (n_istore (L2 := [some (2, 38), some (0, x1), some (0, 7), some (0, x3), some (0, x4), some (0, 0), none, none]) c_67_51 rfl rfl (n_iload c_67_53 rfl ?_))
              refine n_if0_eq c_67_55 (by omega) ?_ ?_
              · intro h90
                refine n_iload_n c_67_62 rfl (n_istore (L2 := [some (2, 38), some (0, x1), some (0, 7), some (0, x3), some (0, x4), some (0, 0), some (0, 7), none]) c_67_63 rfl rfl (n_fg (le_s (le_s (le_s (le_s (le_s (le_n (le_s (le_n le_0)))))))) ?_))
                exact ih.2.2.2.1 _ _ _ _ _ M hS (by omega) (by omega) (by omega) (by omega) (by omega) (by omega) (by omega) (by omega) (by omega) (by exact v3) (by exact v4) (by exact CUR.mv v5 (fun a b f _ _ _ _ _ => by omega)) (by omega) (by omega)
              · intro h91
                exfalso; omega
            · intro h92
              refine n_iconst c_67_46 (n_goto c_67_47 (n_istore (L2 := [some (2, 38), some (0, x1), some (0, 7), some (0, x3), some (0, x4), some (0, 1), none, none]) c_67_51 rfl rfl (n_iload c_67_53 rfl ?_)))
              refine n_if0_eq c_67_55 (by omega) ?_ ?_
              · intro h93
                exfalso; omega
              · intro h94
                refine n_iconst c_67_58 (n_goto c_67_59 (n_istore (L2 := [some (2, 38), some (0, x1), some (0, 7), some (0, x3), some (0, x4), some (0, 1), some (0, 0), none]) c_67_63 rfl rfl (n_fg (le_s (le_s (le_s (le_s (le_s (le_n (le_s (le_n le_0)))))))) ?_)))
                exact ih.2.2.2.1 _ _ _ _ _ M hS (by omega) (by omega) (by omega) (by omega) (by omega) (by omega) (by omega) (by omega) (by omega) (by exact v3) (by exact v4) (by exact CUR.mv v5 (fun a b f _ _ _ _ _ => by omega)) (by omega) (by omega)
      · skip
        refine n_iload c_67_29 rfl (n_iload_n c_67_31 rfl ?_)
        refine n_if2_gt c_67_32 (by omega) (by omega) ?_ ?_
        · intro h95
          refine n_iinc (L2 := [some (2, 38), some (0, x1), some (0, 8), some (0, (x3 + 1)), some (0, x4), none, none, none]) c_67_141 rfl rfl rfl (n_goto c_67_144 (n_fg (le_s (le_s (le_s (le_s (le_n (le_n (le_n (le_n le_0)))))))) ?_))
          exact ih.2.1 _ _ _ M hS (by omega) (by omega) (by omega) (by omega) (by exact v3) (by exact v4) (by exact CUR.mv v5 (fun a b f _ _ _ _ _ => by omega)) (by omega) (by omega)
        · intro h96
          refine n_iload_n c_67_35 rfl (n_iload_n c_67_36 rfl ?_)
          refine n_if2_eq c_67_37 (by omega) (by omega) ?_ ?_
          · intro h97
            refine n_iconst c_67_46 (n_goto c_67_47 (n_istore (L2 := [some (2, 38), some (0, x1), some (0, 8), some (0, x3), some (0, x4), some (0, 1), none, none]) c_67_51 rfl rfl (n_iload c_67_53 rfl ?_)))
            refine n_if0_eq c_67_55 (by omega) ?_ ?_
            · intro h98
              exfalso; omega
            · intro h99
              refine n_iconst c_67_58 (n_goto c_67_59 (n_istore (L2 := [some (2, 38), some (0, x1), some (0, 8), some (0, x3), some (0, x4), some (0, 1), some (0, 0), none]) c_67_63 rfl rfl (n_fg (le_s (le_s (le_s (le_s (le_s (le_n (le_s (le_n le_0)))))))) ?_)))
              exact ih.2.2.2.1 _ _ _ _ _ M hS (by omega) (by omega) (by omega) (by omega) (by omega) (by omega) (by omega) (by omega) (by omega) (by exact v3) (by exact v4) (by exact CUR.mv v5 (fun a b f _ _ _ _ _ => by omega)) (by omega) (by omega)
          · intro h100
            refine n_iload c_67_40 rfl (n_iload_n c_67_42 rfl ?_)
            refine n_if2_ne c_67_43 (by omega) (by omega) ?_ ?_
            · intro h101
              refine n_iconst c_67_50 (n_istore (L2 := [some (2, 38), some (0, x1), some (0, 8), some (0, x3), some (0, x4), some (0, 0), none, none]) c_67_51 rfl rfl (n_iload c_67_53 rfl ?_))
              refine n_if0_eq c_67_55 (by omega) ?_ ?_
              · intro h102
                refine n_iload_n c_67_62 rfl (n_istore (L2 := [some (2, 38), some (0, x1), some (0, 8), some (0, x3), some (0, x4), some (0, 0), some (0, 8), none]) c_67_63 rfl rfl (n_fg (le_s (le_s (le_s (le_s (le_s (le_n (le_s (le_n le_0)))))))) ?_))
                exact ih.2.2.2.1 _ _ _ _ _ M hS (by omega) (by omega) (by omega) (by omega) (by omega) (by omega) (by omega) (by omega) (by omega) (by exact v3) (by exact v4) (by exact CUR.mv v5 (fun a b f _ _ _ _ _ => by omega)) (by omega) (by omega)
              · intro h103
                exfalso; omega
            · intro h104
              refine n_iconst c_67_46 (n_goto c_67_47 (n_istore (L2 := [some (2, 38), some (0, x1), some (0, 8), some (0, x3), some (0, x4), some (0, 1), none, none]) c_67_51 rfl rfl (n_iload c_67_53 rfl ?_)))
              refine n_if0_eq c_67_55 (by omega) ?_ ?_
              · intro h105
                exfalso; omega
              · intro h106
                refine n_iconst c_67_58 (n_goto c_67_59 (n_istore (L2 := [some (2, 38), some (0, x1), some (0, 8), some (0, x3), some (0, x4), some (0, 1), some (0, 0), none]) c_67_63 rfl rfl (n_fg (le_s (le_s (le_s (le_s (le_s (le_n (le_s (le_n le_0)))))))) ?_)))
                exact ih.2.2.2.1 _ _ _ _ _ M hS (by omega) (by omega) (by omega) (by omega) (by omega) (by omega) (by omega) (by omega) (by omega) (by exact v3) (by exact v4) (by exact CUR.mv v5 (fun a b f _ _ _ _ _ => by omega)) (by omega) (by omega)
    · intro x1 x2 x3 x4 x6 M hS k1 k2 k3 k4 k6 v0 v1 v2 v3 v4 v5 v6 v7 hnn
      rcases (show x2 = 0 ∨ x2 = 1 ∨ x2 = 2 ∨ x2 = 3 ∨ x2 = 4 ∨ x2 = 5 ∨ x2 = 6 ∨ x2 = 7 ∨ x2 = 8 by omega) with rfl | rfl | rfl | rfl | rfl | rfl | rfl | rfl | rfl
      · skip
        refine n_iload c_67_65 rfl (n_iload_n c_67_67 rfl ?_)
        refine n_if2_gt c_67_68 (by omega) (by omega) ?_ ?_
        · intro h1
          refine n_iinc (L2 := [some (2, 38), some (0, x1), some (0, 0), some (0, x3), some (0, (x4 + 1)), none, some (0, x6), none]) c_67_135 rfl rfl rfl (n_goto c_67_138 (n_fg (le_s (le_s (le_s (le_s (le_s (le_n (le_n (le_n le_0)))))))) ?_))
          exact ih.2.2.1 _ _ _ _ M hS (by omega) (by omega) (by omega) (by omega) (by omega) (by omega) (by omega) (by exact v4) (by exact v5) (by exact CUR.mv v6 (fun a b f _ _ _ _ _ => by omega)) (by omega) (by omega)
        · intro h2
          refine n_aload_n c_67_71 rfl (n_getR c_67_72 sc_38.n rfl rfl rfl r_38_1 (n_iload_n c_67_75 rfl (n_bipush c_67_76 rfl (n_imul c_67_78 rfl (n_iload c_67_79 rfl (n_iadd c_67_81 rfl (n_bipush c_67_82 rfl (n_imul c_67_84 rfl (n_iload c_67_85 rfl (n_iadd c_67_87 rfl (n_ialoadV c_67_88 sc_40.n rfl rfl rfl (by omega) (t_40 hS (by omega)) ?_)))))))))))
          intro z3 ez3 f4
          refine n_istore (L2 := [some (2, 38), some (0, x1), some (0, 0), some (0, x3), some (0, x4), none, some (0, x6), some (0, z3)]) c_67_89 rfl rfl (n_iload c_67_91 rfl (n_aload_n c_67_93 rfl (n_getV (bi := 7) c_67_94 sc_38.n rfl rfl rfl (t_38_7 hS) ?_)))
          intro z5 ez5 f6
          refine n_if2_eq c_67_97 (by omega) (by omega) ?_ ?_
          · intro h7
            refine n_fg (le_s (le_s (le_s (le_s (le_s (le_n (le_s (le_n le_0)))))))) ?_
            exact ih.2.2.2.2 _ _ _ _ _ M hS (by omega) (by omega) (by omega) (by omega) (by omega) (by omega) (by omega) (by omega) (by omega) (by omega) (by exact v4) (by exact v5) (by exact CUR.skip v6 (by show Ms 40 (ai x3 x4 x6) = 255; have y := v4 40 (ai x3 x4 x6) (by omega) (by omega) (by omega); have y7 := v4 38 7 (by omega) (by omega) (by omega); rw [← y]; unfold ai; omega)) (by omega) (by omega)
          · intro h8
            refine n_aload_n c_67_100 rfl (n_getR c_67_101 sc_38.n rfl rfl rfl r_38_2 (n_iload_n c_67_104 rfl (n_iload_n c_67_105 rfl (n_iload c_67_106 rfl (n_iconst c_67_108 (n_i_ishl c_67_109 rfl (n_i_ior c_67_110 rfl (n_iload c_67_111 rfl (n_bipush c_67_113 rfl (n_i_ishl c_67_115 rfl (n_i_ior c_67_116 rfl ?_)))))))))))
            refine n_iastore41 hS c_67_117 (by omega) (ckey_mk (by omega) (by omega) (by omega)) ?_
            intro M9 eM9 hS9
            refine n_aload_n c_67_118 rfl (n_getR c_67_119 sc_38.n rfl rfl rfl r_38_3 (n_iload_n c_67_122 rfl (n_iload c_67_123 rfl (n_iastoreV hS9 c_67_125 sc_42.n rfl (by omega) (w_42 (by omega) (by omega)) ?_))))
            intro M10 eM10 hS10
            refine n_iinc (L2 := [some (2, 38), some (0, (x1 + 1)), some (0, 0), some (0, x3), some (0, x4), none, some (0, x6), some (0, z3)]) c_67_126 rfl rfl rfl (n_fg (le_s (le_s (le_s (le_s (le_s (le_n (le_s (le_n le_0)))))))) ?_)
            exact ih.2.2.2.2 _ _ _ _ _ M10 hS10 (by omega) (by omega) (by omega) (by omega) (by omega) (by omega) (by omega) (by omega) (by omega) (by omega) (by exact (v4.u eM9 (by omega)).u eM10 (by omega)) (by exact v5.u v6 eM9 eM10) (by exact CUR.add v6 ⟨by omega, by omega, by omega, by omega⟩ eM9 eM10 (kkm (by omega) (by omega) (by omega)) (by show _ = Ms 40 (ai x3 x4 x6); rw [← v4 40 _ (by omega) (by omega) (by omega)]; unfold ai; omega)) (by omega) (by omega)
      · skip
        refine n_iload c_67_65 rfl (n_iload_n c_67_67 rfl ?_)
        refine n_if2_gt c_67_68 (by omega) (by omega) ?_ ?_
        · intro h11
          refine n_iinc (L2 := [some (2, 38), some (0, x1), some (0, 1), some (0, x3), some (0, (x4 + 1)), none, some (0, x6), none]) c_67_135 rfl rfl rfl (n_goto c_67_138 (n_fg (le_s (le_s (le_s (le_s (le_s (le_n (le_n (le_n le_0)))))))) ?_))
          exact ih.2.2.1 _ _ _ _ M hS (by omega) (by omega) (by omega) (by omega) (by omega) (by omega) (by omega) (by exact v4) (by exact v5) (by exact CUR.mv v6 (fun a b f _ _ _ _ _ => by omega)) (by omega) (by omega)
        · intro h12
          refine n_aload_n c_67_71 rfl (n_getR c_67_72 sc_38.n rfl rfl rfl r_38_1 (n_iload_n c_67_75 rfl (n_bipush c_67_76 rfl (n_imul c_67_78 rfl (n_iload c_67_79 rfl (n_iadd c_67_81 rfl (n_bipush c_67_82 rfl (n_imul c_67_84 rfl (n_iload c_67_85 rfl (n_iadd c_67_87 rfl (n_ialoadV c_67_88 sc_40.n rfl rfl rfl (by omega) (t_40 hS (by omega)) ?_)))))))))))
          intro z13 ez13 f14
          refine n_istore (L2 := [some (2, 38), some (0, x1), some (0, 1), some (0, x3), some (0, x4), none, some (0, x6), some (0, z13)]) c_67_89 rfl rfl (n_iload c_67_91 rfl (n_aload_n c_67_93 rfl (n_getV (bi := 7) c_67_94 sc_38.n rfl rfl rfl (t_38_7 hS) ?_)))
          intro z15 ez15 f16
          refine n_if2_eq c_67_97 (by omega) (by omega) ?_ ?_
          · intro h17
            refine n_fg (le_s (le_s (le_s (le_s (le_s (le_n (le_s (le_n le_0)))))))) ?_
            exact ih.2.2.2.2 _ _ _ _ _ M hS (by omega) (by omega) (by omega) (by omega) (by omega) (by omega) (by omega) (by omega) (by omega) (by omega) (by exact v4) (by exact v5) (by exact CUR.skip v6 (by show Ms 40 (ai x3 x4 x6) = 255; have y := v4 40 (ai x3 x4 x6) (by omega) (by omega) (by omega); have y7 := v4 38 7 (by omega) (by omega) (by omega); rw [← y]; unfold ai; omega)) (by omega) (by omega)
          · intro h18
            refine n_aload_n c_67_100 rfl (n_getR c_67_101 sc_38.n rfl rfl rfl r_38_2 (n_iload_n c_67_104 rfl (n_iload_n c_67_105 rfl (n_iload c_67_106 rfl (n_iconst c_67_108 (n_i_ishl c_67_109 rfl (n_i_ior c_67_110 rfl (n_iload c_67_111 rfl (n_bipush c_67_113 rfl (n_i_ishl c_67_115 rfl (n_i_ior c_67_116 rfl ?_)))))))))))
            refine n_iastore41 hS c_67_117 (by omega) (ckey_mk (by omega) (by omega) (by omega)) ?_
            intro M19 eM19 hS19
            refine n_aload_n c_67_118 rfl (n_getR c_67_119 sc_38.n rfl rfl rfl r_38_3 (n_iload_n c_67_122 rfl (n_iload c_67_123 rfl (n_iastoreV hS19 c_67_125 sc_42.n rfl (by omega) (w_42 (by omega) (by omega)) ?_))))
            intro M20 eM20 hS20
            refine n_iinc (L2 := [some (2, 38), some (0, (x1 + 1)), some (0, 1), some (0, x3), some (0, x4), none, some (0, x6), some (0, z13)]) c_67_126 rfl rfl rfl (n_fg (le_s (le_s (le_s (le_s (le_s (le_n (le_s (le_n le_0)))))))) ?_)
            exact ih.2.2.2.2 _ _ _ _ _ M20 hS20 (by omega) (by omega) (by omega) (by omega) (by omega) (by omega) (by omega) (by omega) (by omega) (by omega) (by exact (v4.u eM19 (by omega)).u eM20 (by omega)) (by exact v5.u v6 eM19 eM20) (by exact CUR.add v6 ⟨by omega, by omega, by omega, by omega⟩ eM19 eM20 (kkm (by omega) (by omega) (by omega)) (by show _ = Ms 40 (ai x3 x4 x6); rw [← v4 40 _ (by omega) (by omega) (by omega)]; unfold ai; omega)) (by omega) (by omega)
      · skip
        refine n_iload c_67_65 rfl (n_iload_n c_67_67 rfl ?_)
        refine n_if2_gt c_67_68 (by omega) (by omega) ?_ ?_
        · intro h21
          refine n_iinc (L2 := [some (2, 38), some (0, x1), some (0, 2), some (0, x3), some (0, (x4 + 1)), none, some (0, x6), none]) c_67_135 rfl rfl rfl (n_goto c_67_138 (n_fg (le_s (le_s (le_s (le_s (le_s (le_n (le_n (le_n le_0)))))))) ?_))
          exact ih.2.2.1 _ _ _ _ M hS (by omega) (by omega) (by omega) (by omega) (by omega) (by omega) (by omega) (by exact v4) (by exact v5) (by exact CUR.mv v6 (fun a b f _ _ _ _ _ => by omega)) (by omega) (by omega)
        · intro h22
          refine n_aload_n c_67_71 rfl (n_getR c_67_72 sc_38.n rfl rfl rfl r_38_1 (n_iload_n c_67_75 rfl (n_bipush c_67_76 rfl (n_imul c_67_78 rfl (n_iload c_67_79 rfl (n_iadd c_67_81 rfl (n_bipush c_67_82 rfl (n_imul c_67_84 rfl (n_iload c_67_85 rfl (n_iadd c_67_87 rfl (n_ialoadV c_67_88 sc_40.n rfl rfl rfl (by omega) (t_40 hS (by omega)) ?_)))))))))))
          intro z23 ez23 f24
          refine n_istore (L2 := [some (2, 38), some (0, x1), some (0, 2), some (0, x3), some (0, x4), none, some (0, x6), some (0, z23)]) c_67_89 rfl rfl (n_iload c_67_91 rfl (n_aload_n c_67_93 rfl (n_getV (bi := 7) c_67_94 sc_38.n rfl rfl rfl (t_38_7 hS) ?_)))
          intro z25 ez25 f26
          refine n_if2_eq c_67_97 (by omega) (by omega) ?_ ?_
          · intro h27
            refine n_fg (le_s (le_s (le_s (le_s (le_s (le_n (le_s (le_n le_0)))))))) ?_
            exact ih.2.2.2.2 _ _ _ _ _ M hS (by omega) (by omega) (by omega) (by omega) (by omega) (by omega) (by omega) (by omega) (by omega) (by omega) (by exact v4) (by exact v5) (by exact CUR.skip v6 (by show Ms 40 (ai x3 x4 x6) = 255; have y := v4 40 (ai x3 x4 x6) (by omega) (by omega) (by omega); have y7 := v4 38 7 (by omega) (by omega) (by omega); rw [← y]; unfold ai; omega)) (by omega) (by omega)
          · intro h28
            refine n_aload_n c_67_100 rfl (n_getR c_67_101 sc_38.n rfl rfl rfl r_38_2 (n_iload_n c_67_104 rfl (n_iload_n c_67_105 rfl (n_iload c_67_106 rfl (n_iconst c_67_108 (n_i_ishl c_67_109 rfl (n_i_ior c_67_110 rfl (n_iload c_67_111 rfl (n_bipush c_67_113 rfl (n_i_ishl c_67_115 rfl (n_i_ior c_67_116 rfl ?_)))))))))))
            refine n_iastore41 hS c_67_117 (by omega) (ckey_mk (by omega) (by omega) (by omega)) ?_
            intro M29 eM29 hS29
            refine n_aload_n c_67_118 rfl (n_getR c_67_119 sc_38.n rfl rfl rfl r_38_3 (n_iload_n c_67_122 rfl (n_iload c_67_123 rfl (n_iastoreV hS29 c_67_125 sc_42.n rfl (by omega) (w_42 (by omega) (by omega)) ?_))))
            intro M30 eM30 hS30
            refine n_iinc (L2 := [some (2, 38), some (0, (x1 + 1)), some (0, 2), some (0, x3), some (0, x4), none, some (0, x6), some (0, z23)]) c_67_126 rfl rfl rfl (n_fg (le_s (le_s (le_s (le_s (le_s (le_n (le_s (le_n le_0)))))))) ?_)
            exact ih.2.2.2.2 _ _ _ _ _ M30 hS30 (by omega) (by omega) (by omega) (by omega) (by omega) (by omega) (by omega) (by omega) (by omega) (by omega) (by exact (v4.u eM29 (by omega)).u eM30 (by omega)) (by exact v5.u v6 eM29 eM30) (by exact CUR.add v6 ⟨by omega, by omega, by omega, by omega⟩ eM29 eM30 (kkm (by omega) (by omega) (by omega)) (by show _ = Ms 40 (ai x3 x4 x6); rw [← v4 40 _ (by omega) (by omega) (by omega)]; unfold ai; omega)) (by omega) (by omega)
      · skip
        refine n_iload c_67_65 rfl (n_iload_n c_67_67 rfl ?_)
        refine n_if2_gt c_67_68 (by omega) (by omega) ?_ ?_
        · intro h31
          refine n_iinc (L2 := [some (2, 38), some (0, x1), some (0, 3), some (0, x3), some (0, (x4 + 1)), none, some (0, x6), none]) c_67_135 rfl rfl rfl (n_goto c_67_138 (n_fg (le_s (le_s (le_s (le_s (le_s (le_n (le_n (le_n le_0)))))))) ?_))
          exact ih.2.2.1 _ _ _ _ M hS (by omega) (by omega) (by omega) (by omega) (by omega) (by omega) (by omega) (by exact v4) (by exact v5) (by exact CUR.mv v6 (fun a b f _ _ _ _ _ => by omega)) (by omega) (by omega)
        · intro h32
          refine n_aload_n c_67_71 rfl (n_getR c_67_72 sc_38.n rfl rfl rfl r_38_1 (n_iload_n c_67_75 rfl (n_bipush c_67_76 rfl (n_imul c_67_78 rfl (n_iload c_67_79 rfl (n_iadd c_67_81 rfl (n_bipush c_67_82 rfl (n_imul c_67_84 rfl (n_iload c_67_85 rfl (n_iadd c_67_87 rfl (n_ialoadV c_67_88 sc_40.n rfl rfl rfl (by omega) (t_40 hS (by omega)) ?_)))))))))))
          intro z33 ez33 f34
          refine n_istore (L2 := [some (2, 38), some (0, x1), some (0, 3), some (0, x3), some (0, x4), none, some (0, x6), some (0, z33)]) c_67_89 rfl rfl (n_iload c_67_91 rfl (n_aload_n c_67_93 rfl (n_getV (bi := 7) c_67_94 sc_38.n rfl rfl rfl (t_38_7 hS) ?_)))
          intro z35 ez35 f36
          refine n_if2_eq c_67_97 (by omega) (by omega) ?_ ?_
          · intro h37
            refine n_fg (le_s (le_s (le_s (le_s (le_s (le_n (le_s (le_n le_0)))))))) ?_
            exact ih.2.2.2.2 _ _ _ _ _ M hS (by omega) (by omega) (by omega) (by omega) (by omega) (by omega) (by omega) (by omega) (by omega) (by omega) (by exact v4) (by exact v5) (by exact CUR.skip v6 (by show Ms 40 (ai x3 x4 x6) = 255; have y := v4 40 (ai x3 x4 x6) (by omega) (by omega) (by omega); have y7 := v4 38 7 (by omega) (by omega) (by omega); rw [← y]; unfold ai; omega)) (by omega) (by omega)
          · intro h38
            refine n_aload_n c_67_100 rfl (n_getR c_67_101 sc_38.n rfl rfl rfl r_38_2 (n_iload_n c_67_104 rfl (n_iload_n c_67_105 rfl (n_iload c_67_106 rfl (n_iconst c_67_108 (n_i_ishl c_67_109 rfl (n_i_ior c_67_110 rfl (n_iload c_67_111 rfl (n_bipush c_67_113 rfl (n_i_ishl c_67_115 rfl (n_i_ior c_67_116 rfl ?_)))))))))))
            refine n_iastore41 hS c_67_117 (by omega) (ckey_mk (by omega) (by omega) (by omega)) ?_
            intro M39 eM39 hS39
            refine n_aload_n c_67_118 rfl (n_getR c_67_119 sc_38.n rfl rfl rfl r_38_3 (n_iload_n c_67_122 rfl (n_iload c_67_123 rfl (n_iastoreV hS39 c_67_125 sc_42.n rfl (by omega) (w_42 (by omega) (by omega)) ?_))))
            intro M40 eM40 hS40
            refine n_iinc (L2 := [some (2, 38), some (0, (x1 + 1)), some (0, 3), some (0, x3), some (0, x4), none, some (0, x6), some (0, z33)]) c_67_126 rfl rfl rfl (n_fg (le_s (le_s (le_s (le_s (le_s (le_n (le_s (le_n le_0)))))))) ?_)
            exact ih.2.2.2.2 _ _ _ _ _ M40 hS40 (by omega) (by omega) (by omega) (by omega) (by omega) (by omega) (by omega) (by omega) (by omega) (by omega) (by exact (v4.u eM39 (by omega)).u eM40 (by omega)) (by exact v5.u v6 eM39 eM40) (by exact CUR.add v6 ⟨by omega, by omega, by omega, by omega⟩ eM39 eM40 (kkm (by omega) (by omega) (by omega)) (by show _ = Ms 40 (ai x3 x4 x6); rw [← v4 40 _ (by omega) (by omega) (by omega)]; unfold ai; omega)) (by omega) (by omega)
      · skip
        refine n_iload c_67_65 rfl (n_iload_n c_67_67 rfl ?_)
        refine n_if2_gt c_67_68 (by omega) (by omega) ?_ ?_
        · intro h41
          refine n_iinc (L2 := [some (2, 38), some (0, x1), some (0, 4), some (0, x3), some (0, (x4 + 1)), none, some (0, x6), none]) c_67_135 rfl rfl rfl (n_goto c_67_138 (n_fg (le_s (le_s (le_s (le_s (le_s (le_n (le_n (le_n le_0)))))))) ?_))
          exact ih.2.2.1 _ _ _ _ M hS (by omega) (by omega) (by omega) (by omega) (by omega) (by omega) (by omega) (by exact v4) (by exact v5) (by exact CUR.mv v6 (fun a b f _ _ _ _ _ => by omega)) (by omega) (by omega)
        · intro h42
          refine n_aload_n c_67_71 rfl (n_getR c_67_72 sc_38.n rfl rfl rfl r_38_1 (n_iload_n c_67_75 rfl (n_bipush c_67_76 rfl (n_imul c_67_78 rfl (n_iload c_67_79 rfl (n_iadd c_67_81 rfl (n_bipush c_67_82 rfl (n_imul c_67_84 rfl (n_iload c_67_85 rfl (n_iadd c_67_87 rfl (n_ialoadV c_67_88 sc_40.n rfl rfl rfl (by omega) (t_40 hS (by omega)) ?_)))))))))))
          intro z43 ez43 f44
          refine n_istore (L2 := [some (2, 38), some (0, x1), some (0, 4), some (0, x3), some (0, x4), none, some (0, x6), some (0, z43)]) c_67_89 rfl rfl (n_iload c_67_91 rfl (n_aload_n c_67_93 rfl (n_getV (bi := 7) c_67_94 sc_38.n rfl rfl rfl (t_38_7 hS) ?_)))
          intro z45 ez45 f46
          refine n_if2_eq c_67_97 (by omega) (by omega) ?_ ?_
          · intro h47
            refine n_fg (le_s (le_s (le_s (le_s (le_s (le_n (le_s (le_n le_0)))))))) ?_
            exact ih.2.2.2.2 _ _ _ _ _ M hS (by omega) (by omega) (by omega) (by omega) (by omega) (by omega) (by omega) (by omega) (by omega) (by omega) (by exact v4) (by exact v5) (by exact CUR.skip v6 (by show Ms 40 (ai x3 x4 x6) = 255; have y := v4 40 (ai x3 x4 x6) (by omega) (by omega) (by omega); have y7 := v4 38 7 (by omega) (by omega) (by omega); rw [← y]; unfold ai; omega)) (by omega) (by omega)
          · intro h48
            refine n_aload_n c_67_100 rfl (n_getR c_67_101 sc_38.n rfl rfl rfl r_38_2 (n_iload_n c_67_104 rfl (n_iload_n c_67_105 rfl (n_iload c_67_106 rfl (n_iconst c_67_108 (n_i_ishl c_67_109 rfl (n_i_ior c_67_110 rfl (n_iload c_67_111 rfl (n_bipush c_67_113 rfl (n_i_ishl c_67_115 rfl (n_i_ior c_67_116 rfl ?_)))))))))))
            refine n_iastore41 hS c_67_117 (by omega) (ckey_mk (by omega) (by omega) (by omega)) ?_
            intro M49 eM49 hS49
            refine n_aload_n c_67_118 rfl (n_getR c_67_119 sc_38.n rfl rfl rfl r_38_3 (n_iload_n c_67_122 rfl (n_iload c_67_123 rfl (n_iastoreV hS49 c_67_125 sc_42.n rfl (by omega) (w_42 (by omega) (by omega)) ?_))))
            intro M50 eM50 hS50
            refine n_iinc (L2 := [some (2, 38), some (0, (x1 + 1)), some (0, 4), some (0, x3), some (0, x4), none, some (0, x6), some (0, z43)]) c_67_126 rfl rfl rfl (n_fg (le_s (le_s (le_s (le_s (le_s (le_n (le_s (le_n le_0)))))))) ?_)
            exact ih.2.2.2.2 _ _ _ _ _ M50 hS50 (by omega) (by omega) (by omega) (by omega) (by omega) (by omega) (by omega) (by omega) (by omega) (by omega) (by exact (v4.u eM49 (by omega)).u eM50 (by omega)) (by exact v5.u v6 eM49 eM50) (by exact CUR.add v6 ⟨by omega, by omega, by omega, by omega⟩ eM49 eM50 (kkm (by omega) (by omega) (by omega)) (by show _ = Ms 40 (ai x3 x4 x6); rw [← v4 40 _ (by omega) (by omega) (by omega)]; unfold ai; omega)) (by omega) (by omega)
      · skip
        refine n_iload c_67_65 rfl (n_iload_n c_67_67 rfl ?_)
        refine n_if2_gt c_67_68 (by omega) (by omega) ?_ ?_
        · intro h51
          refine n_iinc (L2 := [some (2, 38), some (0, x1), some (0, 5), some (0, x3), some (0, (x4 + 1)), none, some (0, x6), none]) c_67_135 rfl rfl rfl (n_goto c_67_138 (n_fg (le_s (le_s (le_s (le_s (le_s (le_n (le_n (le_n le_0)))))))) ?_))
          exact ih.2.2.1 _ _ _ _ M hS (by omega) (by omega) (by omega) (by omega) (by omega) (by omega) (by omega) (by exact v4) (by exact v5) (by exact CUR.mv v6 (fun a b f _ _ _ _ _ => by omega)) (by omega) (by omega)
        · intro h52
          refine n_aload_n c_67_71 rfl (n_getR c_67_72 sc_38.n rfl rfl rfl r_38_1 (n_iload_n c_67_75 rfl (n_bipush c_67_76 rfl (n_imul c_67_78 rfl (n_iload c_67_79 rfl (n_iadd c_67_81 rfl (n_bipush c_67_82 rfl (n_imul c_67_84 rfl (n_iload c_67_85 rfl (n_iadd c_67_87 rfl (n_ialoadV c_67_88 sc_40.n rfl rfl rfl (by omega) (t_40 hS (by omega)) ?_)))))))))))
          intro z53 ez53 f54
          refine n_istore (L2 := [some (2, 38), some (0, x1), some (0, 5), some (0, x3), some (0, x4), none, some (0, x6), some (0, z53)]) c_67_89 rfl rfl (n_iload c_67_91 rfl (n_aload_n c_67_93 rfl (n_getV (bi := 7) c_67_94 sc_38.n rfl rfl rfl (t_38_7 hS) ?_)))
          intro z55 ez55 f56
          refine n_if2_eq c_67_97 (by omega) (by omega) ?_ ?_
          · intro h57
            refine n_fg (le_s (le_s (le_s (le_s (le_s (le_n (le_s (le_n le_0)))))))) ?_
            exact ih.2.2.2.2 _ _ _ _ _ M hS (by omega) (by omega) (by omega) (by omega) (by omega) (by omega) (by omega) (by omega) (by omega) (by omega) (by exact v4) (by exact v5) (by exact CUR.skip v6 (by show Ms 40 (ai x3 x4 x6) = 255; have y := v4 40 (ai x3 x4 x6) (by omega) (by omega) (by omega); have y7 := v4 38 7 (by omega) (by omega) (by omega); rw [← y]; unfold ai; omega)) (by omega) (by omega)
          · intro h58
            refine n_aload_n c_67_100 rfl (n_getR c_67_101 sc_38.n rfl rfl rfl r_38_2 (n_iload_n c_67_104 rfl (n_iload_n c_67_105 rfl (n_iload c_67_106 rfl (n_iconst c_67_108 (n_i_ishl c_67_109 rfl (n_i_ior c_67_110 rfl (n_iload c_67_111 rfl (n_bipush c_67_113 rfl (n_i_ishl c_67_115 rfl (n_i_ior c_67_116 rfl ?_)))))))))))
            refine n_iastore41 hS c_67_117 (by omega) (ckey_mk (by omega) (by omega) (by omega)) ?_
            intro M59 eM59 hS59
            refine n_aload_n c_67_118 rfl (n_getR c_67_119 sc_38.n rfl rfl rfl r_38_3 (n_iload_n c_67_122 rfl (n_iload c_67_123 rfl (n_iastoreV hS59 c_67_125 sc_42.n rfl (by omega) (w_42 (by omega) (by omega)) ?_))))
            intro M60 eM60 hS60
            refine n_iinc (L2 := [some (2, 38), some (0, (x1 + 1)), some (0, 5), some (0, x3), some (0, x4), none, some (0, x6), some (0, z53)]) c_67_126 rfl rfl rfl (n_fg (le_s (le_s (le_s (le_s (le_s (le_n (le_s (le_n le_0)))))))) ?_)
            exact ih.2.2.2.2 _ _ _ _ _ M60 hS60 (by omega) (by omega) (by omega) (by omega) (by omega) (by omega) (by omega) (by omega) (by omega) (by omega) (by exact (v4.u eM59 (by omega)).u eM60 (by omega)) (by exact v5.u v6 eM59 eM60) (by exact CUR.add v6 ⟨by omega, by omega, by omega, by omega⟩ eM59 eM60 (kkm (by omega) (by omega) (by omega)) (by show _ = Ms 40 (ai x3 x4 x6); rw [← v4 40 _ (by omega) (by omega) (by omega)]; unfold ai; omega)) (by omega) (by omega)
      · skip
        refine n_iload c_67_65 rfl (n_iload_n c_67_67 rfl ?_)
        refine n_if2_gt c_67_68 (by omega) (by omega) ?_ ?_
        · intro h61
          refine n_iinc (L2 := [some (2, 38), some (0, x1), some (0, 6), some (0, x3), some (0, (x4 + 1)), none, some (0, x6), none]) c_67_135 rfl rfl rfl (n_goto c_67_138 (n_fg (le_s (le_s (le_s (le_s (le_s (le_n (le_n (le_n le_0)))))))) ?_))
          exact ih.2.2.1 _ _ _ _ M hS (by omega) (by omega) (by omega) (by omega) (by omega) (by omega) (by omega) (by exact v4) (by exact v5) (by exact CUR.mv v6 (fun a b f _ _ _ _ _ => by omega)) (by omega) (by omega)
        · intro h62
          refine n_aload_n c_67_71 rfl (n_getR c_67_72 sc_38.n rfl rfl rfl r_38_1 (n_iload_n c_67_75 rfl (n_bipush c_67_76 rfl (n_imul c_67_78 rfl (n_iload c_67_79 rfl (n_iadd c_67_81 rfl (n_bipush c_67_82 rfl (n_imul c_67_84 rfl (n_iload c_67_85 rfl (n_iadd c_67_87 rfl (n_ialoadV c_67_88 sc_40.n rfl rfl rfl (by omega) (t_40 hS (by omega)) ?_)))))))))))
          intro z63 ez63 f64
          refine n_istore (L2 := [some (2, 38), some (0, x1), some (0, 6), some (0, x3), some (0, x4), none, some (0, x6), some (0, z63)]) c_67_89 rfl rfl (n_iload c_67_91 rfl (n_aload_n c_67_93 rfl (n_getV (bi := 7) c_67_94 sc_38.n rfl rfl rfl (t_38_7 hS) ?_)))
          intro z65 ez65 f66
          refine n_if2_eq c_67_97 (by omega) (by omega) ?_ ?_
          · intro h67
            refine n_fg (le_s (le_s (le_s (le_s (le_s (le_n (le_s (le_n le_0)))))))) ?_
            exact ih.2.2.2.2 _ _ _ _ _ M hS (by omega) (by omega) (by omega) (by omega) (by omega) (by omega) (by omega) (by omega) (by omega) (by omega) (by exact v4) (by exact v5) (by exact CUR.skip v6 (by show Ms 40 (ai x3 x4 x6) = 255; have y := v4 40 (ai x3 x4 x6) (by omega) (by omega) (by omega); have y7 := v4 38 7 (by omega) (by omega) (by omega); rw [← y]; unfold ai; omega)) (by omega) (by omega)
          · intro h68
            refine n_aload_n c_67_100 rfl (n_getR c_67_101 sc_38.n rfl rfl rfl r_38_2 (n_iload_n c_67_104 rfl (n_iload_n c_67_105 rfl (n_iload c_67_106 rfl (n_iconst c_67_108 (n_i_ishl c_67_109 rfl (n_i_ior c_67_110 rfl (n_iload c_67_111 rfl (n_bipush c_67_113 rfl (n_i_ishl c_67_115 rfl (n_i_ior c_67_116 rfl ?_)))))))))))
            refine n_iastore41 hS c_67_117 (by omega) (ckey_mk (by omega) (by omega) (by omega)) ?_
            intro M69 eM69 hS69
            refine n_aload_n c_67_118 rfl (n_getR c_67_119 sc_38.n rfl rfl rfl r_38_3 (n_iload_n c_67_122 rfl (n_iload c_67_123 rfl (n_iastoreV hS69 c_67_125 sc_42.n rfl (by omega) (w_42 (by omega) (by omega)) ?_))))
            intro M70 eM70 hS70
            refine n_iinc (L2 := [some (2, 38), some (0, (x1 + 1)), some (0, 6), some (0, x3), some (0, x4), none, some (0, x6), some (0, z63)]) c_67_126 rfl rfl rfl (n_fg (le_s (le_s (le_s (le_s (le_s (le_n (le_s (le_n le_0)))))))) ?_)
            exact ih.2.2.2.2 _ _ _ _ _ M70 hS70 (by omega) (by omega) (by omega) (by omega) (by omega) (by omega) (by omega) (by omega) (by omega) (by omega) (by exact (v4.u eM69 (by omega)).u eM70 (by omega)) (by exact v5.u v6 eM69 eM70) (by exact CUR.add v6 ⟨by omega, by omega, by omega, by omega⟩ eM69 eM70 (kkm (by omega) (by omega) (by omega)) (by show _ = Ms 40 (ai x3 x4 x6); rw [← v4 40 _ (by omega) (by omega) (by omega)]; unfold ai; omega)) (by omega) (by omega)
      · skip
        refine n_iload c_67_65 rfl (n_iload_n c_67_67 rfl ?_)
        refine n_if2_gt c_67_68 (by omega) (by omega) ?_ ?_
        · intro h71
          refine n_iinc (L2 := [some (2, 38), some (0, x1), some (0, 7), some (0, x3), some (0, (x4 + 1)), none, some (0, x6), none]) c_67_135 rfl rfl rfl (n_goto c_67_138 (n_fg (le_s (le_s (le_s (le_s (le_s (le_n (le_n (le_n le_0)))))))) ?_))
          exact ih.2.2.1 _ _ _ _ M hS (by omega) (by omega) (by omega) (by omega) (by omega) (by omega) (by omega) (by exact v4) (by exact v5) (by exact CUR.mv v6 (fun a b f _ _ _ _ _ => by omega)) (by omega) (by omega)
        · intro h72
          refine n_aload_n c_67_71 rfl (n_getR c_67_72 sc_38.n rfl rfl rfl r_38_1 (n_iload_n c_67_75 rfl (n_bipush c_67_76 rfl (n_imul c_67_78 rfl (n_iload c_67_79 rfl (n_iadd c_67_81 rfl (n_bipush c_67_82 rfl (n_imul c_67_84 rfl (n_iload c_67_85 rfl (n_iadd c_67_87 rfl (n_ialoadV c_67_88 sc_40.n rfl rfl rfl (by omega) (t_40 hS (by omega)) ?_)))))))))))
          intro z73 ez73 f74
          refine n_istore (L2 := [some (2, 38), some (0, x1), some (0, 7), some (0, x3), some (0, x4), none, some (0, x6), some (0, z73)]) c_67_89 rfl rfl (n_iload c_67_91 rfl (n_aload_n c_67_93 rfl (n_getV (bi := 7) c_67_94 sc_38.n rfl rfl rfl (t_38_7 hS) ?_)))
          intro z75 ez75 f76
          refine n_if2_eq c_67_97 (by omega) (by omega) ?_ ?_
          · intro h77
            refine n_fg (le_s (le_s (le_s (le_s (le_s (le_n (le_s (le_n le_0)))))))) ?_
            exact ih.2.2.2.2 _ _ _ _ _ M hS (by omega) (by omega) (by omega) (by omega) (by omega) (by omega) (by omega) (by omega) (by omega) (by omega) (by exact v4) (by exact v5) (by exact CUR.skip v6 (by show Ms 40 (ai x3 x4 x6) = 255; have y := v4 40 (ai x3 x4 x6) (by omega) (by omega) (by omega); have y7 := v4 38 7 (by omega) (by omega) (by omega); rw [← y]; unfold ai; omega)) (by omega) (by omega)
          · intro h78
            refine n_aload_n c_67_100 rfl (n_getR c_67_101 sc_38.n rfl rfl rfl r_38_2 (n_iload_n c_67_104 rfl (n_iload_n c_67_105 rfl (n_iload c_67_106 rfl (n_iconst c_67_108 (n_i_ishl c_67_109 rfl (n_i_ior c_67_110 rfl (n_iload c_67_111 rfl (n_bipush c_67_113 rfl (n_i_ishl c_67_115 rfl (n_i_ior c_67_116 rfl ?_)))))))))))
            refine n_iastore41 hS c_67_117 (by omega) (ckey_mk (by omega) (by omega) (by omega)) ?_
            intro M79 eM79 hS79
            refine n_aload_n c_67_118 rfl (n_getR c_67_119 sc_38.n rfl rfl rfl r_38_3 (n_iload_n c_67_122 rfl (n_iload c_67_123 rfl (n_iastoreV hS79 c_67_125 sc_42.n rfl (by omega) (w_42 (by omega) (by omega)) ?_))))
            intro M80 eM80 hS80
            refine n_iinc (L2 := [some (2, 38), some (0, (x1 + 1)), some (0, 7), some (0, x3), some (0, x4), none, some (0, x6), some (0, z73)]) c_67_126 rfl rfl rfl (n_fg (le_s (le_s (le_s (le_s (le_s (le_n (le_s (le_n le_0)))))))) ?_)
            exact ih.2.2.2.2 _ _ _ _ _ M80 hS80 (by omega) (by omega) (by omega) (by omega) (by omega) (by omega) (by omega) (by omega) (by omega) (by omega) (by exact (v4.u eM79 (by omega)).u eM80 (by omega)) (by exact v5.u v6 eM79 eM80) (by exact CUR.add v6 ⟨by omega, by omega, by omega, by omega⟩ eM79 eM80 (kkm (by omega) (by omega) (by omega)) (by show _ = Ms 40 (ai x3 x4 x6); rw [← v4 40 _ (by omega) (by omega) (by omega)]; unfold ai; omega)) (by omega) (by omega)
      · skip
        refine n_iload c_67_65 rfl (n_iload_n c_67_67 rfl ?_)
        refine n_if2_gt c_67_68 (by omega) (by omega) ?_ ?_
        · intro h81
          refine n_iinc (L2 := [some (2, 38), some (0, x1), some (0, 8), some (0, x3), some (0, (x4 + 1)), none, some (0, x6), none]) c_67_135 rfl rfl rfl (n_goto c_67_138 (n_fg (le_s (le_s (le_s (le_s (le_s (le_n (le_n (le_n le_0)))))))) ?_))
          exact ih.2.2.1 _ _ _ _ M hS (by omega) (by omega) (by omega) (by omega) (by omega) (by omega) (by omega) (by exact v4) (by exact v5) (by exact CUR.mv v6 (fun a b f _ _ _ _ _ => by omega)) (by omega) (by omega)
        · intro h82
          refine n_aload_n c_67_71 rfl (n_getR c_67_72 sc_38.n rfl rfl rfl r_38_1 (n_iload_n c_67_75 rfl (n_bipush c_67_76 rfl (n_imul c_67_78 rfl (n_iload c_67_79 rfl (n_iadd c_67_81 rfl (n_bipush c_67_82 rfl (n_imul c_67_84 rfl (n_iload c_67_85 rfl (n_iadd c_67_87 rfl (n_ialoadV c_67_88 sc_40.n rfl rfl rfl (by omega) (t_40 hS (by omega)) ?_)))))))))))
          intro z83 ez83 f84
          refine n_istore (L2 := [some (2, 38), some (0, x1), some (0, 8), some (0, x3), some (0, x4), none, some (0, x6), some (0, z83)]) c_67_89 rfl rfl (n_iload c_67_91 rfl (n_aload_n c_67_93 rfl (n_getV (bi := 7) c_67_94 sc_38.n rfl rfl rfl (t_38_7 hS) ?_)))
          intro z85 ez85 f86
          refine n_if2_eq c_67_97 (by omega) (by omega) ?_ ?_
          · intro h87
            refine n_fg (le_s (le_s (le_s (le_s (le_s (le_n (le_s (le_n le_0)))))))) ?_
            exact ih.2.2.2.2 _ _ _ _ _ M hS (by omega) (by omega) (by omega) (by omega) (by omega) (by omega) (by omega) (by omega) (by omega) (by omega) (by exact v4) (by exact v5) (by exact CUR.skip v6 (by show Ms 40 (ai x3 x4 x6) = 255; have y := v4 40 (ai x3 x4 x6) (by omega) (by omega) (by omega); have y7 := v4 38 7 (by omega) (by omega) (by omega); rw [← y]; unfold ai; omega)) (by omega) (by omega)
          · intro h88
            refine n_aload_n c_67_100 rfl (n_getR c_67_101 sc_38.n rfl rfl rfl r_38_2 (n_iload_n c_67_104 rfl (n_iload_n c_67_105 rfl (n_iload c_67_106 rfl (n_iconst c_67_108 (n_i_ishl c_67_109 rfl (n_i_ior c_67_110 rfl (n_iload c_67_111 rfl (n_bipush c_67_113 rfl (n_i_ishl c_67_115 rfl (n_i_ior c_67_116 rfl ?_)))))))))))
            refine n_iastore41 hS c_67_117 (by omega) (ckey_mk (by omega) (by omega) (by omega)) ?_
            intro M89 eM89 hS89
            refine n_aload_n c_67_118 rfl (n_getR c_67_119 sc_38.n rfl rfl rfl r_38_3 (n_iload_n c_67_122 rfl (n_iload c_67_123 rfl (n_iastoreV hS89 c_67_125 sc_42.n rfl (by omega) (w_42 (by omega) (by omega)) ?_))))
            intro M90 eM90 hS90
            refine n_iinc (L2 := [some (2, 38), some (0, (x1 + 1)), some (0, 8), some (0, x3), some (0, x4), none, some (0, x6), some (0, z83)]) c_67_126 rfl rfl rfl (n_fg (le_s (le_s (le_s (le_s (le_s (le_n (le_s (le_n le_0)))))))) ?_)
            exact ih.2.2.2.2 _ _ _ _ _ M90 hS90 (by omega) (by omega) (by omega) (by omega) (by omega) (by omega) (by omega) (by omega) (by omega) (by omega) (by exact (v4.u eM89 (by omega)).u eM90 (by omega)) (by exact v5.u v6 eM89 eM90) (by exact CUR.add v6 ⟨by omega, by omega, by omega, by omega⟩ eM89 eM90 (kkm (by omega) (by omega) (by omega)) (by show _ = Ms 40 (ai x3 x4 x6); rw [← v4 40 _ (by omega) (by omega) (by omega)]; unfold ai; omega)) (by omega) (by omega)
    · intro x1 x2 x3 x4 x6 M hS k1 k2 k3 k4 k6 v0 v1 v2 v3 v4 v5 v6 v7 v8 hnn
      rcases (show x2 = 0 ∨ x2 = 1 ∨ x2 = 2 ∨ x2 = 3 ∨ x2 = 4 ∨ x2 = 5 ∨ x2 = 6 ∨ x2 = 7 ∨ x2 = 8 by omega) with rfl | rfl | rfl | rfl | rfl | rfl | rfl | rfl | rfl
      · skip
        refine n_iinc (L2 := [some (2, 38), some (0, x1), some (0, 0), some (0, x3), some (0, x4), none, some (0, (x6 + 1)), none]) c_67_129 rfl rfl rfl (n_goto c_67_132 (n_fg (le_s (le_s (le_s (le_s (le_s (le_n (le_s (le_n le_0)))))))) ?_))
        exact ih.2.2.2.1 _ _ _ _ _ M hS (by omega) (by omega) (by omega) (by omega) (by omega) (by omega) (by omega) (by omega) (by omega) (by exact v5) (by exact v6) (by exact v7) (by omega) (by omega)
      · skip
        refine n_iinc (L2 := [some (2, 38), some (0, x1), some (0, 1), some (0, x3), some (0, x4), none, some (0, (x6 + 1)), none]) c_67_129 rfl rfl rfl (n_goto c_67_132 (n_fg (le_s (le_s (le_s (le_s (le_s (le_n (le_s (le_n le_0)))))))) ?_))
        exact ih.2.2.2.1 _ _ _ _ _ M hS (by omega) (by omega) (by omega) (by omega) (by omega) (by omega) (by omega) (by omega) (by omega) (by exact v5) (by exact v6) (by exact v7) (by omega) (by omega)
      · skip
        refine n_iinc (L2 := [some (2, 38), some (0, x1), some (0, 2), some (0, x3), some (0, x4), none, some (0, (x6 + 1)), none]) c_67_129 rfl rfl rfl (n_goto c_67_132 (n_fg (le_s (le_s (le_s (le_s (le_s (le_n (le_s (le_n le_0)))))))) ?_))
        exact ih.2.2.2.1 _ _ _ _ _ M hS (by omega) (by omega) (by omega) (by omega) (by omega) (by omega) (by omega) (by omega) (by omega) (by exact v5) (by exact v6) (by exact v7) (by omega) (by omega)
      · skip
        refine n_iinc (L2 := [some (2, 38), some (0, x1), some (0, 3), some (0, x3), some (0, x4), none, some (0, (x6 + 1)), none]) c_67_129 rfl rfl rfl (n_goto c_67_132 (n_fg (le_s (le_s (le_s (le_s (le_s (le_n (le_s (le_n le_0)))))))) ?_))
        exact ih.2.2.2.1 _ _ _ _ _ M hS (by omega) (by omega) (by omega) (by omega) (by omega) (by omega) (by omega) (by omega) (by omega) (by exact v5) (by exact v6) (by exact v7) (by omega) (by omega)
      · skip
        refine n_iinc (L2 := [some (2, 38), some (0, x1), some (0, 4), some (0, x3), some (0, x4), none, some (0, (x6 + 1)), none]) c_67_129 rfl rfl rfl (n_goto c_67_132 (n_fg (le_s (le_s (le_s (le_s (le_s (le_n (le_s (le_n le_0)))))))) ?_))
        exact ih.2.2.2.1 _ _ _ _ _ M hS (by omega) (by omega) (by omega) (by omega) (by omega) (by omega) (by omega) (by omega) (by omega) (by exact v5) (by exact v6) (by exact v7) (by omega) (by omega)
      · skip
        refine n_iinc (L2 := [some (2, 38), some (0, x1), some (0, 5), some (0, x3), some (0, x4), none, some (0, (x6 + 1)), none]) c_67_129 rfl rfl rfl (n_goto c_67_132 (n_fg (le_s (le_s (le_s (le_s (le_s (le_n (le_s (le_n le_0)))))))) ?_))
        exact ih.2.2.2.1 _ _ _ _ _ M hS (by omega) (by omega) (by omega) (by omega) (by omega) (by omega) (by omega) (by omega) (by omega) (by exact v5) (by exact v6) (by exact v7) (by omega) (by omega)
      · skip
        refine n_iinc (L2 := [some (2, 38), some (0, x1), some (0, 6), some (0, x3), some (0, x4), none, some (0, (x6 + 1)), none]) c_67_129 rfl rfl rfl (n_goto c_67_132 (n_fg (le_s (le_s (le_s (le_s (le_s (le_n (le_s (le_n le_0)))))))) ?_))
        exact ih.2.2.2.1 _ _ _ _ _ M hS (by omega) (by omega) (by omega) (by omega) (by omega) (by omega) (by omega) (by omega) (by omega) (by exact v5) (by exact v6) (by exact v7) (by omega) (by omega)
      · skip
        refine n_iinc (L2 := [some (2, 38), some (0, x1), some (0, 7), some (0, x3), some (0, x4), none, some (0, (x6 + 1)), none]) c_67_129 rfl rfl rfl (n_goto c_67_132 (n_fg (le_s (le_s (le_s (le_s (le_s (le_n (le_s (le_n le_0)))))))) ?_))
        exact ih.2.2.2.1 _ _ _ _ _ M hS (by omega) (by omega) (by omega) (by omega) (by omega) (by omega) (by omega) (by omega) (by omega) (by exact v5) (by exact v6) (by exact v7) (by omega) (by omega)
      · skip
        refine n_iinc (L2 := [some (2, 38), some (0, x1), some (0, 8), some (0, x3), some (0, x4), none, some (0, (x6 + 1)), none]) c_67_129 rfl rfl rfl (n_goto c_67_132 (n_fg (le_s (le_s (le_s (le_s (le_s (le_n (le_s (le_n le_0)))))))) ?_))
        exact ih.2.2.2.1 _ _ _ _ _ M hS (by omega) (by omega) (by omega) (by omega) (by omega) (by omega) (by omega) (by omega) (by omega) (by exact v5) (by exact v6) (by exact v7) (by omega) (by omega)
set_option maxHeartbeats 4000000 in
theorem orderX_2 {xs : List Int32} {e : Nat} {ac : Int} {M0 M : nM} {Ms : nM} (hS : Sf 2 ac M0 M) (hms : M = Ms) (hAR : Ms 38 7 = 255) (hV0 : 0 ≤ Ms 38 6 ∧ Ms 38 6 ≤ 9) : nW xs e 67 0 [some (2, 38), none, none, none, none, none, none, none] [] M (nPV fun M1 => Sf 2 ac M0 M1 ∧ (ORD (fun i => Ms 40 i) (fun i => M1 41 i) (fun i => M1 42 i) (fun i => M1 43 i) 255 (Ms 38 6)) ∧ (FO Ms M1)) := by
  have hd : (2 : Int) = 2 ∨ (2 : Int) = 3 := by decide
  have hac := hS.2.2.2.2
  refine n_iconst c_67_0 (n_istore_n (L2 := [some (2, 38), some (0, 0), none, none, none, none, none, none]) c_67_1 rfl rfl (n_iconst c_67_2 (n_istore_n (L2 := [some (2, 38), some (0, 0), some (0, 0), none, none, none, none, none]) c_67_3 rfl rfl (n_fg (le_s (le_s (le_s (le_n (le_n (le_n (le_n (le_n le_0)))))))) ?_))))
  exact (orderX_2_c hS hms hAR hV0 61500).1 _ _ M hS (by omega) (by omega) (by omega) (by exact fun a i _ _ _ => by rw [hms]) (by exact DNa.init) (by omega) (by omega)

set_option maxHeartbeats 4000000 in
theorem fitsX_2_c {xs : List Int32} {e : Nat} {ac : Int} {M0 M : nM} {l : Int} (hS : Sf 2 ac M0 M) (hl : 0 ≤ l ∧ l ≤ 8) (h5 : M 38 5 = 2) (hlm : ∀ c : Int, M 43 l ≤ c → c < M 43 (l + 1) → 0 ≤ M 42 c ∧ M 42 c ≤ 134217727) : ∀ nn : Nat, (∀ (x2 : Int), (0 ≤ x2 ∧ x2 ≤ 729) → (M 43 l ≤ x2) → (∀ c : Int, M 43 l ≤ c → c < x2 → CHK 2 (fun i => M 41 i) (fun i => M 42 i) (fun i => M 39 i) c) → (729 - x2) * 1 + 1 < (nn : Int) → nW xs e 72 7 [some (2, 38), some (0, l), some (0, x2), none, none] [] M (nPI fun z M1 => M = M1 ∧ (0 ≤ z ∧ z ≤ 1) ∧ (z = bb (∀ c : Int, M 43 l ≤ c → c < M 43 (l + 1) → CHK 2 (fun i => M 41 i) (fun i => M 42 i) (fun i => M 39 i) c)))) := by
  have hd : (2 : Int) = 2 ∨ (2 : Int) = 3 := by decide
  have hac := hS.2.2.2.2
  intro nn
  induction nn with
  | zero => intros; omega
  | succ nn ih =>
    intro x2 k2 v0 v1 hnn
    refine n_iload_n c_72_7 rfl (n_aload_n c_72_8 rfl (n_getR c_72_9 sc_38.n rfl rfl rfl r_38_4 (n_iload_n c_72_12 rfl (n_iconst c_72_13 (n_iadd c_72_14 rfl (n_ialoadV c_72_15 sc_43.n rfl rfl rfl (by omega) (t_43 hS (by omega)) ?_))))))
    intro z1 ez1 f2
    refine n_if2_ge c_72_16 (by omega) (by omega) ?_ ?_
    · intro h3
      refine n_iconst c_72_95 ?_
      exact n_rZ c_72_96 rfl (by omega) ⟨rfl, by omega, by exact (bb_t (fun c c0 c1 => v1 c c0 (by omega))).symm⟩
    · intro h4
      refine n_aload_n c_72_19 rfl (n_getR c_72_20 sc_38.n rfl rfl rfl r_38_2 (n_iload_n c_72_23 rfl (n_ialoadV c_72_24 sc_41.n rfl rfl rfl (by omega) (t_41 hS (by omega)) ?_)))
      intro z5 ez5 f6
      have f6k : ckey z5 := by rw [ez5]; exact hS.2.1 _ (by omega)
      refine n_istore_n (L2 := [some (2, 38), some (0, l), some (0, x2), some (0, z5), none]) c_72_25 rfl rfl (n_aload_n c_72_26 rfl (n_getR c_72_27 sc_38.n rfl rfl rfl r_38_0 (n_iload_n c_72_30 rfl (n_bipush c_72_31 rfl (n_i_iand c_72_33 rfl ?_)))))
      have f7 := ckey_0 f6k
      generalize gz8 : (n_and z5 15) = z8 at f7 ⊢
      refine n_ialoadV c_72_34 sc_39.n rfl rfl rfl (by omega) (t_39 hS (by omega)) ?_
      intro z9 ez9 f10
      refine n_aload_n c_72_35 rfl (n_getV (bi := 5) c_72_36 sc_38.n rfl rfl rfl (t_38_5 hS) ?_)
      intro z11 ez11 f12
      obtain rfl : z11 = 2 := by omega
      refine n_imul c_72_39 rfl (n_aload_n c_72_40 rfl (n_getR c_72_41 sc_38.n rfl rfl rfl r_38_0 (n_iload_n c_72_44 rfl (n_iconst c_72_45 (n_i_ishr c_72_46 rfl (n_bipush c_72_47 rfl (n_i_iand c_72_49 rfl ?_)))))))
      have f13 := ckey_4 f6k
      generalize gz14 : (n_and (n_shr z5 4) 15) = z14 at f13 ⊢
      refine n_ialoadV c_72_50 sc_39.n rfl rfl rfl (by omega) (t_39 hS (by omega)) ?_
      intro z15 ez15 f16
      refine n_iadd c_72_51 rfl (n_istore (L2 := [some (2, 38), some (0, l), some (0, x2), some (0, z5), some (0, ((z9 * 2) + z15))]) c_72_52 rfl rfl (n_iload c_72_54 rfl (n_aload_n c_72_56 rfl (n_getV (bi := 5) c_72_57 sc_38.n rfl rfl rfl (t_38_5 hS) ?_))))
      intro z17 ez17 f18
      obtain rfl : z17 = 2 := by omega
      refine n_imul c_72_60 rfl (n_aload_n c_72_61 rfl (n_getR c_72_62 sc_38.n rfl rfl rfl r_38_0 (n_iload_n c_72_65 rfl (n_bipush c_72_66 rfl (n_i_ishr c_72_68 rfl ?_)))))
      have f19 := ckey_8 f6k
      generalize gz20 : (n_shr z5 8) = z20 at f19 ⊢
      refine n_ialoadV c_72_69 sc_39.n rfl rfl rfl (by omega) (t_39 hS (by omega)) ?_
      intro z21 ez21 f22
      refine n_iadd c_72_70 rfl (n_istore (L2 := [some (2, 38), some (0, l), some (0, x2), some (0, z5), some (0, ((((z9 * 2) + z15) * 2) + z21))]) c_72_71 rfl rfl (n_aload_n c_72_73 rfl (n_getR c_72_74 sc_38.n rfl rfl rfl r_38_3 (n_iload_n c_72_77 rfl (n_ialoadV c_72_78 sc_42.n rfl rfl rfl (by omega) (t_42 hS (by omega)) ?_)))))
      intro z23 ez23 f24
      have hzz23 : 0 ≤ z23 ∧ z23 ≤ 134217727 := by rw [ez23]; exact hlm x2 (by omega) (by omega)
      refine n_iload c_72_79 rfl (n_i_ishr c_72_81 rfl ?_)
      have f25 := n_shr_r z23 ((((z9 * 2) + z15) * 2) + z21)
      generalize gz26 : (n_shr z23 ((((z9 * 2) + z15) * 2) + z21)) = z26 at f25 ⊢
      refine n_iconst c_72_82 (n_i_iand c_72_83 rfl ?_)
      have f27 := n_and_y (x := z26) (y := 1) (by omega)
      generalize gz28 : (n_and z26 1) = z28 at f27 ⊢
      have hb83 : z28 = z23 / 2 ^ (((((z9 * 2) + z15) * 2) + z21)).toNat % 2 := by rw [← gz28, ← gz26]; exact ib_v (by omega) (by omega)
      have r1 : z9 = M 39 (M 41 x2 % 16) := by rw [ez9, ← gz8, kk0 f6k, ez5]
      have r2 : z15 = M 39 (M 41 x2 / 16 % 16) := by rw [ez15, ← gz14, kk4 f6k, ez5]
      have r3 : z21 = M 39 (M 41 x2 / 256) := by rw [ez21, ← gz20, kk8 f6k, ez5]
      have ek : CHK 2 (fun i => M 41 i) (fun i => M 42 i) (fun i => M 39 i) x2 ↔ z28 = 1 := by show M 42 x2 / 2 ^ ((M 39 (M 41 x2 % 16) * 2 + M 39 (M 41 x2 / 16 % 16)) * 2 + M 39 (M 41 x2 / 256)).toNat % 2 = 1 ↔ _; rw [← r1, ← r2, ← r3, ← ez23, hb83]
      refine n_if0_ne c_72_84 (by omega) ?_ ?_
      · intro h29
        refine n_iinc (L2 := [some (2, 38), some (0, l), some (0, (x2 + 1)), some (0, z5), some (0, ((((z9 * 2) + z15) * 2) + z21))]) c_72_89 rfl rfl rfl (n_goto c_72_92 (n_fg (le_s (le_s (le_s (le_n (le_n le_0))))) ?_))
        exact ih _ (by omega) (by omega) (by exact fun c c0 c1 => by by_cases y : c = x2; (rw [y]; exact ek.mpr (by omega)); exact v1 c c0 (by omega)) (by omega)
      · intro h30
        refine n_iconst c_72_87 ?_
        exact n_rZ c_72_88 rfl (by omega) ⟨rfl, by omega, by exact (bb_f (fun q => by have y := ek.mp (q x2 (by omega) (by omega)); omega)).symm⟩
set_option maxHeartbeats 4000000 in
theorem fitsX_2 {xs : List Int32} {e : Nat} {ac : Int} {M0 M : nM} {l : Int} (hS : Sf 2 ac M0 M) (hl : 0 ≤ l ∧ l ≤ 8) (h5 : M 38 5 = 2) (hlm : ∀ c : Int, M 43 l ≤ c → c < M 43 (l + 1) → 0 ≤ M 42 c ∧ M 42 c ≤ 134217727) : nW xs e 72 0 [some (2, 38), some (0, l), none, none, none] [] M (nPI fun z M1 => M = M1 ∧ (0 ≤ z ∧ z ≤ 1) ∧ (z = bb (∀ c : Int, M 43 l ≤ c → c < M 43 (l + 1) → CHK 2 (fun i => M 41 i) (fun i => M 42 i) (fun i => M 39 i) c))) := by
  have hd : (2 : Int) = 2 ∨ (2 : Int) = 3 := by decide
  have hac := hS.2.2.2.2
  refine n_aload_n c_72_0 rfl (n_getR c_72_1 sc_38.n rfl rfl rfl r_38_4 (n_iload_n c_72_4 rfl (n_ialoadV c_72_5 sc_43.n rfl rfl rfl (by omega) (t_43 hS (by omega)) ?_)))
  intro z1 ez1 f2
  refine n_istore_n (L2 := [some (2, 38), some (0, l), some (0, z1), none, none]) c_72_6 rfl rfl (n_fg (le_s (le_s (le_s (le_n (le_n le_0))))) ?_)
  exact (fitsX_2_c hS hl h5 hlm 1472) _ (by omega) (by omega) (by exact fun c c0 c1 => by omega) (by omega)

set_option maxHeartbeats 4000000 in
theorem addX46_2 {xs : List Int32} {e : Nat} {ac : Int} {M : nM} {n : Int} (hS : Sf 2 ac M M) (hn : 0 ≤ n ∧ n ≤ 511) (hc : 0 ≤ M 46 1 ∧ M 46 1 ≤ 20000) : nW xs e 32 0 [some (2, 46), some (0, n), none] [] M (nPV fun M1 => Sf 2 ac M1 M1 ∧ (M1 46 1 = M 46 1 + 1) ∧ (∀ a i : Int, a ≠ 46 → a ≠ 47 → M1 a i = M a i) ∧ (BSt 47 M M1 (fun m => m = n))) := by
  have hd : (2 : Int) = 2 ∨ (2 : Int) = 3 := by decide
  have hac := hS.2.2.2.2
  refine n_iload_n c_32_0 rfl (n_bipush c_32_1 rfl (n_i_ishr c_32_3 rfl ?_))
  have f1 := n_shr_r n 6
  generalize gz2 : (n_shr n 6) = z2 at f1 ⊢
  have hw : z2 = n / 64 := by rw [← gz2, show (64 : Int) = 2 ^ 6 by decide]; exact n_shr_n (n := 6) (by decide) (by omega)
  refine n_istore_n (L2 := [some (2, 46), some (0, n), some (0, z2)]) c_32_4 rfl rfl (n_iload_n c_32_5 rfl ?_)
  refine n_if0_lt c_32_6 (by omega) ?_ ?_
  · intro h3
    exfalso; omega
  · intro h4
    refine n_iload_n c_32_9 rfl (n_aload_n c_32_10 rfl (n_getR c_32_11 sc_46.n rfl rfl rfl r_46_0 (n_alen c_32_14 sc_47.n rfl ?_)))
    refine n_if2_ge c_32_15 (by omega) (by omega) ?_ ?_
    · intro h5
      exfalso; omega
    · intro h6
      refine n_aload_n c_32_18 rfl (n_getR c_32_19 sc_46.n rfl rfl rfl r_46_0 (n_iload_n c_32_22 rfl (n_dup202 c_32_23 (n_laloadV c_32_24 sc_47.n rfl rfl rfl (by omega) (t_47 hS (by omega)) ?_))))
      intro z7 ez7 f8
      refine n_lconst (n := 1) c_32_25 rfl (n_iload_n c_32_26 rfl (n_bipush c_32_27 rfl (n_i_iand c_32_29 rfl ?_)))
      have f9 := n_and_y (x := n) (y := 63) (by omega)
      generalize gz10 : (n_and n 63) = z10 at f9 ⊢
      refine n_i_lshl c_32_30 rfl ?_
      have f11 := n_lshl_r 1 z10
      generalize gz12 : (n_lshl 1 z10) = z12 at f11 ⊢
      refine n_i_lor c_32_31 rfl ?_
      have f13 := n_lor_r z7 z12
      generalize gz14 : (n_lor z7 z12) = z14 at f13 ⊢
      refine n_lastoreM hS c_32_32 sc_47.n rfl (by omega) (m_47 (by omega) (by omega)) ?_
      intro M15 eM15 hS15
      have g15_0 : M15 46 1 = M 46 1 := by rw [eM15]; exact nu_a (by omega)
      refine n_aload_n c_32_33 rfl (n_dup2 c_32_34 (n_getV (bi := 1) c_32_35 sc_46.n rfl rfl rfl (t_46_1 hS15) ?_))
      intro z16 ez16 f17
      refine n_iconst c_32_38 (n_iadd c_32_39 rfl (n_putM (bi := 1) hS15 c_32_40 sc_46.n rfl rfl rfl rfl (m_46_1 (by omega)) ?_))
      intro M18 eM18 hS18
      have g18_0 : M18 46 1 = (z16 + 1) := by rw [eM18]; exact nu_s _ _ _ _
      exact n_rV c_32_43 rfl ⟨hS18, by omega, by exact fun a i h1 h2 => by rw [eM18, nu_a h1, eM15, nu_a h2], by exact BSt.add1 (fun m m0 => wbt_add (by omega) m0 hw (by rw [eM18, nu_a (by omega), eM15, nu_s, ← gz14, ← gz12, ← gz10, and63 (by omega), ez7]) (fun i hi => by rw [eM18, nu_a (by omega), eM15, nu_i hi]))⟩
