/-! What the methods tell. -/
set_option maxHeartbeats 4000000 in
theorem mnarrowsX_3_c {xs : List Int32} {e : Nat} {ac : Int} {M0 M : nM} {Ms : nM} (hS : Sf 3 ac M0 M) (hdm : M0 112 0 = 3) (hms : M = Ms) (hq1 : ∀ q : Int, 0 ≤ q → q < Ms 112 11 → 1 ≤ Ms 118 (Ms 120 q)) : ∀ nn : Nat, (∀ (x1 : Int) (M : nM), Sf 3 ac M0 M → (0 ≤ x1 ∧ x1 ≤ 8) → (0 ≤ wcan M ∧ wcan M ≤ 56) → (∀ a i : Int, a ≠ 129 → M a i = Ms a i) → (∀ v : Int, 0 ≤ v → v < x1 → M 129 v = 7) → 100000000 + (8 - x1) < (nn : Int) → nW xs (e + 3) 191 2 [some (2, 112), some (0, x1), none, none, none, none, none, none] [] M (nPV fun M1 => Sf 3 ac M0 M1 ∧ (mGND 3 Ms (fun v => M1 129 v)) ∧ (∀ a i : Int, a ≠ 129 → M1 a i = Ms a i))) ∧ (∀ (x1 : Int) (M : nM), Sf 3 ac M0 M → (0 ≤ x1 ∧ x1 ≤ 1) → (0 ≤ wcan M) → (mNI 3 Ms M) → (x1 = 0 → ∀ q : Int, 0 ≤ q → q < (Ms 112 11) → mNC 3 Ms (fun v => M 129 v) q) → (2 * wcan M + x1) * 10000 < (nn : Int) → nW xs (e + 3) 191 32 [some (2, 112), some (0, x1), none, none, none, none, none, none] [] M (nPV fun M1 => Sf 3 ac M0 M1 ∧ (mGND 3 Ms (fun v => M1 129 v)) ∧ (∀ a i : Int, a ≠ 129 → M1 a i = Ms a i))) ∧ (∀ (x1 x2 : Int) (M : nM), Sf 3 ac M0 M → (0 ≤ x1 ∧ x1 ≤ 1) → (0 ≤ x2 ∧ x2 ≤ 30) → (0 ≤ wcan M) → (mNI 3 Ms M) → (x1 = 0 → ∀ q : Int, 0 ≤ q → q < x2 → mNC 3 Ms (fun v => M 129 v) q) → (x2 ≤ Ms 112 11) → (2 * wcan M + x1) * 10000 + (30 - x2) * 300 + 299 < (nn : Int) → nW xs (e + 3) 191 40 [some (2, 112), some (0, x1), some (0, x2), none, none, none, none, none] [] M (nPV fun M1 => Sf 3 ac M0 M1 ∧ (mGND 3 Ms (fun v => M1 129 v)) ∧ (∀ a i : Int, a ≠ 129 → M1 a i = Ms a i))) ∧ (∀ (x1 x2 x3 x4 x5 : Int) (M : nM), Sf 3 ac M0 M → (0 ≤ x1 ∧ x1 ≤ 1) → (0 ≤ x2 ∧ x2 ≤ 29) → (0 ≤ x3 ∧ x3 ≤ 11) → (1 ≤ x4 ∧ x4 ≤ 3) → (0 ≤ x5 ∧ x5 ≤ 3) → (x3 = Ms 120 x2) → (x4 = Ms 118 (Ms 120 x2)) → (x2 < Ms 112 11) → (0 ≤ wcan M) → (mNI 3 Ms M) → (x1 = 0 → ∀ q : Int, 0 ≤ q → q < x2 → mNC 3 Ms (fun v => M 129 v) q) → (x1 = 0 → ∀ j : Int, 0 ≤ j → j < x5 → mNCi 3 Ms (fun v => M 129 v) x2 j) → (x5 ≤ x4) → (2 * wcan M + x1) * 10000 + (30 - x2) * 300 + (3 - x5) * 60 + 59 < (nn : Int) → nW xs (e + 3) 191 66 [some (2, 112), some (0, x1), some (0, x2), some (0, x3), some (0, x4), some (0, x5), none, none] [] M (nPV fun M1 => Sf 3 ac M0 M1 ∧ (mGND 3 Ms (fun v => M1 129 v)) ∧ (∀ a i : Int, a ≠ 129 → M1 a i = Ms a i))) ∧ (∀ (x1 x2 x3 x4 x5 x6 x7 : Int) (M : nM), Sf 3 ac M0 M → (0 ≤ x1 ∧ x1 ≤ 1) → (0 ≤ x2 ∧ x2 ≤ 29) → (0 ≤ x3 ∧ x3 ≤ 11) → (1 ≤ x4 ∧ x4 ≤ 3) → (0 ≤ x5 ∧ x5 ≤ 2) → (0 ≤ x6 ∧ x6 ≤ 7) → (0 ≤ x7 ∧ x7 ≤ 27) → (x3 = Ms 120 x2) → (x4 = Ms 118 (Ms 120 x2)) → (x2 < Ms 112 11) → (x5 < x4) → (0 ≤ wcan M) → (mNI 3 Ms M) → (SJ 3 (fun v => M 129 v) (fun j => Ms 121 (3 * x2 + j)) (Ms 118 (Ms 120 x2)) (Ms 119 (Ms 120 x2)) x5 x6 x7) → (x7 ≤ pw 3 x4) → (x1 = 0 → ∀ q : Int, 0 ≤ q → q < x2 → mNC 3 Ms (fun v => M 129 v) q) → (x1 = 0 → ∀ j : Int, 0 ≤ j → j < x5 → mNCi 3 Ms (fun v => M 129 v) x2 j) → (2 * wcan M + x1) * 10000 + (30 - x2) * 300 + (3 - x5) * 60 + (27 - x7) * 2 + 2 < (nn : Int) → nW xs (e + 3) 191 79 [some (2, 112), some (0, x1), some (0, x2), some (0, x3), some (0, x4), some (0, x5), some (0, x6), some (0, x7)] [] M (nPV fun M1 => Sf 3 ac M0 M1 ∧ (mGND 3 Ms (fun v => M1 129 v)) ∧ (∀ a i : Int, a ≠ 129 → M1 a i = Ms a i))) := by
  have hd : (3 : Int) = 2 ∨ (3 : Int) = 3 := by decide
  have hac := hS.2.2.2.2
  have hS0 := hS
  have t11 := t_112_11 hS
  intro nn
  induction nn with
  | zero => refine ⟨?_, ?_, ?_, ?_, ?_⟩ <;> (intros; omega)
  | succ nn ih =>
    refine ⟨?_, ?_, ?_, ?_, ?_⟩
    · intro x1 M hS k1 v0 v1 v2 hnn
      refine n_iload_n c_191_2 rfl (n_aload_n c_191_3 rfl (n_getV (bi := 10) c_191_4 sc_112.n rfl rfl rfl (t_112_10 hS) ?_))
      intro z1 ez1 f2
      refine n_if2_ge c_191_7 (by omega) (by omega) ?_ ?_
      · intro h3
        refine n_iconst c_191_30 (n_istore_n (L2 := [some (2, 112), some (0, 1), none, none, none, none, none, none]) c_191_31 rfl rfl (n_fg (le_s (le_s (le_n (le_n (le_n (le_n (le_n (le_n le_0)))))))) ?_))
        exact ih.2.1 _ M hS (by omega) (by first | omega | exact (wcan_r (by assumption)).1) (by exact mNI.init (by decide) v1 (fun v v0 v1_ => by rw [v2 v v0 (by have y := v1 112 10 (by omega); omega)]; rfl)) (by exact fun u => by omega) (by omega)
      · intro h4
        refine n_aload_n c_191_10 rfl (n_getR c_191_11 sc_112.n rfl rfl rfl r_112_24 (n_iload_n c_191_14 rfl (n_iconst c_191_15 (n_aload_n c_191_16 rfl (n_getV (bi := 0) c_191_17 sc_112.n rfl rfl rfl (t_dm hS hdm) ?_)))))
        intro z5 ez5 f6
        obtain rfl : z5 = 3 := by omega
        refine n_i_ishl (z := 8) c_191_20 (by decide) ?_
        refine n_iconst c_191_21 (n_isub c_191_22 rfl (n_iastoreV hS c_191_23 sc_129.n rfl (by omega) (w_129 (by omega) (by omega)) ?_))
        intro M7 eM7 hS7
        have g7_0 : M7 112 10 = M 112 10 := by rw [eM7]; exact nu_a (by omega)
        refine n_iinc (L2 := [some (2, 112), some (0, (x1 + 1)), none, none, none, none, none, none]) c_191_24 rfl rfl rfl (n_goto c_191_27 (n_fg (le_s (le_s (le_n (le_n (le_n (le_n (le_n (le_n le_0)))))))) ?_))
        exact ih.1 _ M7 hS7 (by omega) (by first | omega | exact wcan_r (by assumption)) (by exact fun a i ha => by rw [eM7, nu_a ha]; exact v1 a i ha) (by exact fun v h0 h1 => by rw [eM7, nu_e]; split <;> first | exact v2 v h0 (by omega) | rfl | omega) (by omega)
    · intro x1 M hS k1 v0 v1 v2 hnn
      refine n_iload_n c_191_32 rfl ?_
      refine n_if0_eq c_191_33 (by omega) ?_ ?_
      · intro h1
        exact n_rV c_191_207 rfl ⟨hS, by exact mNI.gnd v1 (v2 (by omega)), by exact v1.1⟩
      · intro h2
        refine n_iconst c_191_36 (n_istore_n (L2 := [some (2, 112), some (0, 0), none, none, none, none, none, none]) c_191_37 rfl rfl (n_iconst c_191_38 (n_istore_n (L2 := [some (2, 112), some (0, 0), some (0, 0), none, none, none, none, none]) c_191_39 rfl rfl (n_fg (le_s (le_s (le_s (le_n (le_n (le_n (le_n (le_n le_0)))))))) ?_))))
        exact ih.2.2.1 _ _ M hS (by omega) (by omega) (by first | omega | exact (wcan_r (by assumption)).1) (by exact v1) (by exact fun _ q q0 q1 => by omega) (by have y := v1.1 112 11 (by omega); have := t_112_11 hS; omega) (by omega)
    · intro x1 x2 M hS k1 k2 v0 v1 v2 v3 hnn
      refine n_iload_n c_191_40 rfl (n_aload_n c_191_41 rfl (n_getV (bi := 11) c_191_42 sc_112.n rfl rfl rfl (t_112_11 hS) ?_))
      intro z1 ez1 f2
      refine n_if2_ge c_191_45 (by omega) (by omega) ?_ ?_
      · intro h3
        refine n_goto c_191_204 (n_fg (le_s (le_s (le_n (le_n (le_n (le_n (le_n (le_n le_0)))))))) ?_)
        exact ih.2.1 _ M hS (by omega) (by first | omega | exact (wcan_r (by assumption)).1) (by exact v1) (by exact fun u q q0 q1 => v2 u q q0 (by have y := v1.1 112 11 (by omega); omega)) (by omega)
      · intro h4
        refine n_aload_n c_191_48 rfl (n_getR c_191_49 sc_112.n rfl rfl rfl r_112_12 (n_iload_n c_191_52 rfl (n_ialoadV c_191_53 sc_120.n rfl rfl rfl (by omega) (t_120 hS (by omega)) ?_)))
        intro z5 ez5 f6
        have kl : z5 = Ms 120 x2 := by rw [ez5]; exact v1.1 120 x2 (by omega)
        refine n_istore_n (L2 := [some (2, 112), some (0, x1), some (0, x2), some (0, z5), none, none, none, none]) c_191_54 rfl rfl (n_aload_n c_191_55 rfl (n_getR c_191_56 sc_112.n rfl rfl rfl r_112_8 (n_iload_n c_191_59 rfl (n_ialoadV c_191_60 sc_118.n rfl rfl rfl (by omega) (t_118 hS (by omega)) ?_))))
        intro z7 ez7 f8
        have kk : z7 = Ms 118 (Ms 120 x2) := by rw [ez7, kl]; exact v1.1 118 _ (by omega)
        have k11 := v1.1 112 11 (by omega)
        have hq2 := hq1 x2 (by omega) (by omega)
        refine n_istore (L2 := [some (2, 112), some (0, x1), some (0, x2), some (0, z5), some (0, z7), none, none, none]) c_191_61 rfl rfl (n_iconst c_191_63 (n_istore (L2 := [some (2, 112), some (0, x1), some (0, x2), some (0, z5), some (0, z7), some (0, 0), none, none]) c_191_64 rfl rfl (n_fg (le_s (le_s (le_s (le_s (le_s (le_s (le_n (le_n le_0)))))))) ?_)))
        exact ih.2.2.2.1 _ _ _ _ _ M hS (by omega) (by omega) (by omega) (by omega) (by omega) (by exact kl) (by exact kk) (by omega) (by first | omega | exact (wcan_r (by assumption)).1) (by exact v1) (by exact v2) (by exact fun u j j0 j1 => by omega) (by omega) (by omega)
    · intro x1 x2 x3 x4 x5 M hS k1 k2 k3 k4 k5 v0 v1 v2 v3 v4 v5 v6 v7 hnn
      have hq2 := hq1 x2 (by omega) (by omega)
      have tk3 := t_118 hS (i := x3) (by omega)
      refine n_iload c_191_66 rfl (n_iload c_191_68 rfl ?_)
      refine n_if2_ge c_191_70 (by omega) (by omega) ?_ ?_
      · intro h1
        refine n_iinc (L2 := [some (2, 112), some (0, x1), some (0, (x2 + 1)), some (0, x3), some (0, x4), some (0, x5), none, none]) c_191_198 rfl rfl rfl (n_goto c_191_201 (n_fg (le_s (le_s (le_s (le_n (le_n (le_n (le_n (le_n le_0)))))))) ?_))
        exact ih.2.2.1 _ _ M hS (by omega) (by omega) (by first | omega | exact (wcan_r (by assumption)).1) (by exact v4) (by exact fun u q q0 q1 => by by_cases y : q = x2; (rw [y]; exact fun j j0 j1 => v6 u j j0 (by omega)); exact v5 u q q0 (by omega)) (by omega) (by omega)
      · intro h2
        refine n_iconst c_191_73 (n_istore (L2 := [some (2, 112), some (0, x1), some (0, x2), some (0, x3), some (0, x4), some (0, x5), some (0, 0), none]) c_191_74 rfl rfl (n_iconst c_191_76 (n_istore (L2 := [some (2, 112), some (0, x1), some (0, x2), some (0, x3), some (0, x4), some (0, x5), some (0, 0), some (0, 0)]) c_191_77 rfl rfl (n_fg (le_s (le_s (le_s (le_s (le_s (le_s (le_s (le_s le_0)))))))) ?_))))
        exact ih.2.2.2.2 _ _ _ _ _ _ _ M hS (by omega) (by omega) (by omega) (by omega) (by omega) (by omega) (by omega) (by exact v0) (by exact v1) (by omega) (by omega) (by first | omega | exact (wcan_r (by assumption)).1) (by exact v4) (by exact SJ.init) (by have y := pw_r (d := 3) (k := x4) (by decide) (by omega); omega) (by exact v5) (by exact v6) (by omega)
    · intro x1 x2 x3 x4 x5 x6 x7 M hS k1 k2 k3 k4 k5 k6 k7 v0 v1 v2 v3 v4 v5 v6 v7 v8 v9 hnn
      have hq2 := hq1 x2 (by omega) (by omega)
      have tk3 := t_118 hS (i := x3) (by omega)
      have hpw := pw_r (d := 3) (k := x4) (by decide) (by omega)
      refine n_iload c_191_79 rfl (n_aload_n c_191_81 rfl (n_getV (bi := 0) c_191_82 sc_112.n rfl rfl rfl (t_dm hS hdm) ?_))
      intro z1 ez1 f2
      obtain rfl : z1 = 3 := by omega
      refine n_iload c_191_85 rfl (n_s2I c_191_87 rfl rfl rfl rfl (mpowF_3 (n := x4) hS (by omega)) ?_)
      intro z3 M4 hP5
      obtain ⟨eM, f5, f5p0⟩ := hP5
      subst eM
      have hp : z3 = pw 3 x4 := by rw [f5p0]; unfold pwr; rw [if_neg (by omega)]
      refine n_if2_ge c_191_90 (by omega) (by omega) ?_ ?_
      · intro h6
        refine n_aload_n c_191_142 rfl (n_getR c_191_143 sc_112.n rfl rfl rfl r_112_13 (n_iconst c_191_146 (n_iload_n c_191_147 rfl (n_imul c_191_148 rfl (n_iload c_191_149 rfl (n_iadd c_191_151 rfl (n_ialoadV c_191_152 sc_121.n rfl rfl rfl (by omega) (t_121 hS (by omega)) ?_)))))))
        intro z7 ez7 f8
        have ku : z7 = Ms 121 (3 * x2 + x5) := by rw [ez7]; exact v5.1 121 _ (by omega)
        have hpl : ∀ i : Int, 0 ≤ i → i < (Ms 118 (Ms 120 x2)) → 0 ≤ Ms 121 (3 * x2 + i) ∧ Ms 121 (3 * x2 + i) < Ms 112 10 := fun i i0 i1 => by have y := t_ask (q := x2) (j := i) (hms ▸ hS0) (by omega) (by omega) i0 i1; exact y
        have tu := hpl x5 (by omega) (by omega)
        have t10 := t_112_10 (hms ▸ hS0)
        have sj : SJ 3 (fun v => M 129 v) (fun j => Ms 121 (3 * x2 + j)) (Ms 118 (Ms 120 x2)) (Ms 119 (Ms 120 x2)) x5 x6 (pw 3 (Ms 118 (Ms 120 x2))) := by rw [← v1, ← show x7 = pw 3 x4 by omega, v1]; exact v6
        refine n_istore (L2 := [some (2, 112), some (0, x1), some (0, x2), some (0, x3), some (0, x4), some (0, x5), some (0, x6), some (0, z7)]) c_191_153 rfl rfl (n_iload_n c_191_155 rfl ?_)
        refine n_if0_ne c_191_156 (by omega) ?_ ?_
        · intro h9
          refine n_iconst c_191_174 (n_goto c_191_175 (n_istore_n (L2 := [some (2, 112), some (0, 1), some (0, x2), some (0, x3), some (0, x4), some (0, x5), some (0, x6), some (0, z7)]) c_191_179 rfl rfl (n_aload_n c_191_180 rfl (n_getR c_191_181 sc_112.n rfl rfl rfl r_112_24 (n_iload c_191_184 rfl (n_dup202 c_191_186 (n_ialoadV c_191_187 sc_129.n rfl rfl rfl (by omega) (t_129 hS (by omega)) ?_)))))))
          intro z10 ez10 f11
          refine n_iload c_191_188 rfl (n_i_iand c_191_190 rfl ?_)
          have t190 := n_and_x (x := z10) (y := x6) (by omega)
          have t190b := n_cut (c := z10) (s := x6) (by omega)
          refine n_iastoreV hS c_191_191 sc_129.n rfl (by omega) (w_129 (by omega) (by omega)) ?_
          intro M12 eM12 hS12
          have t191 := wcan_u (M := M) (M2 := M12) (i := z7) (z := (n_and z10 x6)) (by omega) eM12
          have t191r := wcan_r hS12
          have eM : M12 = nu M 129 z7 (n_and (M 129 z7) x6) := by rw [eM12, ez10]
          have st := mNI.step (q := x2) (j := x5) (by decide) v5 (by omega) (by omega) hpl (by omega) sj ku eM
          refine n_iinc (L2 := [some (2, 112), some (0, 1), some (0, x2), some (0, x3), some (0, x4), some (0, (x5 + 1)), some (0, x6), some (0, z7)]) c_191_192 rfl rfl rfl (n_goto c_191_195 (n_fg (le_s (le_s (le_s (le_s (le_s (le_s (le_n (le_n le_0)))))))) ?_))
          exact ih.2.2.2.1 _ _ _ _ _ M12 hS12 (by omega) (by omega) (by omega) (by omega) (by omega) (by exact v0) (by exact v1) (by omega) (by first | omega | exact (wcan_r (by assumption)).1) (by exact st) (by exact fun u => by omega) (by exact fun u => by omega) (by omega) (by omega)
        · intro h13
          refine n_aload_n c_191_159 rfl (n_getR c_191_160 sc_112.n rfl rfl rfl r_112_24 (n_iload c_191_163 rfl (n_ialoadV c_191_165 sc_129.n rfl rfl rfl (by omega) (t_129 hS (by omega)) ?_)))
          intro z14 ez14 f15
          refine n_iload c_191_166 rfl (n_iconst c_191_168 (n_i_ixor c_191_169 rfl (n_i_iand c_191_170 rfl ?_)))
          have t170 := n_and_r z14 (n_xor x6 (-1))
          refine n_if0_eq c_191_171 (by omega) ?_ ?_
          · intro h16
            refine n_iconst c_191_178 (n_istore_n (L2 := [some (2, 112), some (0, 0), some (0, x2), some (0, x3), some (0, x4), some (0, x5), some (0, x6), some (0, z7)]) c_191_179 rfl rfl (n_aload_n c_191_180 rfl (n_getR c_191_181 sc_112.n rfl rfl rfl r_112_24 (n_iload c_191_184 rfl (n_dup202 c_191_186 (n_ialoadV c_191_187 sc_129.n rfl rfl rfl (by omega) (t_129 hS (by omega)) ?_))))))
            intro z17 ez17 f18
            refine n_iload c_191_188 rfl (n_i_iand c_191_190 rfl ?_)
            have t190 := n_and_x (x := z17) (y := x6) (by omega)
            have t190b := n_cut (c := z17) (s := x6) (by omega)
            have t190e : z17 = z14 := by omega
            have t190f : n_and z17 x6 = n_and z14 x6 := by rw [t190e]
            rw [t190e] at t190b
            refine n_iastoreV hS c_191_191 sc_129.n rfl (by omega) (w_129 (by omega) (by omega)) ?_
            intro M19 eM19 hS19
            have t191 := wcan_u (M := M) (M2 := M19) (i := z7) (z := (n_and z17 x6)) (by omega) eM19
            have t191r := wcan_r hS19
            have eM : M19 = nu M 129 z7 (n_and (M 129 z7) x6) := by rw [eM19, ez17]
            have st := mNI.step (q := x2) (j := x5) (by decide) v5 (by omega) (by omega) hpl (by omega) sj ku eM
            have cz : n_and (M 129 z7) x6 = M 129 z7 := by rw [← ez14]; exact cut0 (by omega) (by omega) (by omega)
            have sm := mNI.same eM cz
            have nc := mNI.nc (q := x2) (j := x5) (by decide) v5 (by omega) (by omega) sj ku cz
            refine n_iinc (L2 := [some (2, 112), some (0, 0), some (0, x2), some (0, x3), some (0, x4), some (0, (x5 + 1)), some (0, x6), some (0, z7)]) c_191_192 rfl rfl rfl (n_goto c_191_195 (n_fg (le_s (le_s (le_s (le_s (le_s (le_s (le_n (le_n le_0)))))))) ?_))
            exact ih.2.2.2.1 _ _ _ _ _ M19 hS19 (by omega) (by omega) (by omega) (by omega) (by omega) (by exact v0) (by exact v1) (by omega) (by first | omega | exact (wcan_r (by assumption)).1) (by exact st) (by exact fun u => by rw [sm]; exact v8 (by omega)) (by exact fun u j j0 j1 => by rw [sm]; by_cases y : j = x5; (rw [y]; exact nc); exact v9 (by omega) j j0 (by omega)) (by omega) (by omega)
          · intro h20
            refine n_iconst c_191_174 (n_goto c_191_175 (n_istore_n (L2 := [some (2, 112), some (0, 1), some (0, x2), some (0, x3), some (0, x4), some (0, x5), some (0, x6), some (0, z7)]) c_191_179 rfl rfl (n_aload_n c_191_180 rfl (n_getR c_191_181 sc_112.n rfl rfl rfl r_112_24 (n_iload c_191_184 rfl (n_dup202 c_191_186 (n_ialoadV c_191_187 sc_129.n rfl rfl rfl (by omega) (t_129 hS (by omega)) ?_)))))))
            intro z21 ez21 f22
            refine n_iload c_191_188 rfl (n_i_iand c_191_190 rfl ?_)
            have t190 := n_and_x (x := z21) (y := x6) (by omega)
            have t190b := n_cut (c := z21) (s := x6) (by omega)
            have t190e : z21 = z14 := by omega
            have t190f : n_and z21 x6 = n_and z14 x6 := by rw [t190e]
            rw [t190e] at t190b
            refine n_iastoreV hS c_191_191 sc_129.n rfl (by omega) (w_129 (by omega) (by omega)) ?_
            intro M23 eM23 hS23
            have t191 := wcan_u (M := M) (M2 := M23) (i := z7) (z := (n_and z21 x6)) (by omega) eM23
            have t191r := wcan_r hS23
            have eM : M23 = nu M 129 z7 (n_and (M 129 z7) x6) := by rw [eM23, ez21]
            have st := mNI.step (q := x2) (j := x5) (by decide) v5 (by omega) (by omega) hpl (by omega) sj ku eM
            refine n_iinc (L2 := [some (2, 112), some (0, 1), some (0, x2), some (0, x3), some (0, x4), some (0, (x5 + 1)), some (0, x6), some (0, z7)]) c_191_192 rfl rfl rfl (n_goto c_191_195 (n_fg (le_s (le_s (le_s (le_s (le_s (le_s (le_n (le_n le_0)))))))) ?_))
            exact ih.2.2.2.1 _ _ _ _ _ M23 hS23 (by omega) (by omega) (by omega) (by omega) (by omega) (by exact v0) (by exact v1) (by omega) (by first | omega | exact (wcan_r (by assumption)).1) (by exact st) (by exact fun u => by omega) (by exact fun u => by omega) (by omega) (by omega)
      · intro h24
        refine n_aload_n c_191_93 rfl (n_getR c_191_94 sc_112.n rfl rfl rfl r_112_9 (n_iload_n c_191_97 rfl (n_laloadV c_191_98 sc_119.n rfl rfl rfl (by omega) (t_119 hS (by omega)) ?_)))
        intro z25 ez25 f26
        refine n_iload c_191_99 rfl (n_i_lshr c_191_101 rfl ?_)
        have f27 := n_lshr_r z25 x7
        generalize gz28 : (n_lshr z25 x7) = z28 at f27 ⊢
        refine n_lconst (n := 1) c_191_102 rfl (n_i_land c_191_103 rfl ?_)
        have f29 := n_land_r z28 1
        generalize gz30 : (n_land z28 1) = z30 at f29 ⊢
        have hb103 : z30 = z25 / 2 ^ (x7).toNat % 2 := by rw [← gz30, ← gz28]; exact lb_v (by omega) (by omega)
        have eb : bt (Ms 119 (Ms 120 x2)) x7 ↔ z30 = 1 := by have y := v5.1 119 x3 (by omega); unfold bt; rw [← v0, ← y, ← ez25, hb103]
        refine n_lconst (n := 1) c_191_104 rfl (n_lcmp c_191_105 ?_)
        refine n_lif_ne c_191_106 (by omega) (by omega) ?_ ?_
        · intro h31
          refine n_iinc (L2 := [some (2, 112), some (0, x1), some (0, x2), some (0, x3), some (0, x4), some (0, x5), some (0, x6), some (0, (x7 + 1))]) c_191_136 rfl rfl rfl (n_goto c_191_139 (n_fg (le_s (le_s (le_s (le_s (le_s (le_s (le_s (le_s le_0)))))))) ?_))
          exact ih.2.2.2.2 _ _ _ _ _ _ _ M hS (by omega) (by omega) (by omega) (by omega) (by omega) (by omega) (by omega) (by exact v0) (by exact v1) (by omega) (by omega) (by first | omega | exact (wcan_r (by assumption)).1) (by exact v5) (by exact SJ.skip v6 (fun y => by have := eb.mp y.1; omega)) (by omega) (by exact v8) (by exact v9) (by omega)
        · intro h32
          refine n_aload_n c_191_109 rfl (n_iload_n c_191_110 rfl (n_iload c_191_111 rfl ?_))
          have k11 := v5.1 112 11 (by omega)
          have k120 := v5.1 120 x2 (by omega)
          have k118 : M 118 (M 120 x2) = Ms 118 (Ms 120 x2) := by rw [k120]; exact v5.1 118 _ (by omega)
          refine n_v2I c_191_113 rfl sc_112.n rfl rfl rfl rfl (mfitsX_3 (q := x2) (r := x7) hS hdm (by omega) (by omega) (by omega) (by omega)) ?_
          intro z33 M34 hP35
          obtain ⟨eM, f35, f35p0⟩ := hP35
          subst eM
          have ef : z33 = bb (FT 3 (fun v => M 129 v) (fun j => Ms 121 (3 * x2 + j)) (Ms 118 (Ms 120 x2)) x7 (Ms 118 (Ms 120 x2))) := by rw [f35p0]; exact bb_c (FT_fr v5.1)
          refine n_if0_eq c_191_116 (by omega) ?_ ?_
          · intro h36
            refine n_iinc (L2 := [some (2, 112), some (0, x1), some (0, x2), some (0, x3), some (0, x4), some (0, x5), some (0, x6), some (0, (x7 + 1))]) c_191_136 rfl rfl rfl (n_goto c_191_139 (n_fg (le_s (le_s (le_s (le_s (le_s (le_s (le_s (le_s le_0)))))))) ?_))
            exact ih.2.2.2.2 _ _ _ _ _ _ _ M hS (by omega) (by omega) (by omega) (by omega) (by omega) (by omega) (by omega) (by exact v0) (by exact v1) (by omega) (by omega) (by first | omega | exact (wcan_r (by assumption)).1) (by exact v5) (by exact SJ.skip v6 (fun y => (bb_z (by omega)) y.2)) (by omega) (by exact v8) (by exact v9) (by omega)
          · intro h37
            refine n_iload c_191_119 rfl (n_iconst c_191_121 (n_aload_n c_191_122 rfl (n_iload c_191_123 rfl (n_iload c_191_125 rfl (n_iload c_191_127 rfl (n_v3I c_191_129 rfl sc_112.n rfl rfl rfl rfl (mdigitX_3 (r := x7) (k := x4) (j := x5) hS hdm (by omega) (by omega) (by omega) (by omega)) ?_))))))
            intro z38 M39 hP40
            obtain ⟨eM, f40, f40p0⟩ := hP40
            subst eM
            have ed : z38 = dgt 3 (Ms 118 (Ms 120 x2)) x7 x5 := by rw [← v1]; exact f40p0
            refine n_i_ishl c_191_132 rfl ?_
            have f41 := n_shl_1 (y := z38) (a := 0) (b := 2) (by decide) (by omega)
            generalize gz42 : (n_shl 1 z38) = z42 at f41 ⊢
            refine n_i_ior c_191_133 rfl ?_
            have f43 := n_or_k (x := x6) (y := z42) (n := 3) (by decide) (by omega) (by omega)
            generalize gz44 : (n_or x6 z42) = z44 at f43 ⊢
            refine n_istore (L2 := [some (2, 112), some (0, x1), some (0, x2), some (0, x3), some (0, x4), some (0, x5), some (0, z44), some (0, x7)]) c_191_134 rfl rfl (n_iinc (L2 := [some (2, 112), some (0, x1), some (0, x2), some (0, x3), some (0, x4), some (0, x5), some (0, z44), some (0, (x7 + 1))]) c_191_136 rfl rfl rfl (n_goto c_191_139 (n_fg (le_s (le_s (le_s (le_s (le_s (le_s (le_s (le_s le_0)))))))) ?_)))
            exact ih.2.2.2.2 _ _ _ _ _ _ _ M hS (by omega) (by omega) (by omega) (by omega) (by omega) (by omega) (by omega) (by exact v0) (by exact v1) (by omega) (by omega) (by first | omega | exact (wcan_r (by assumption)).1) (by exact v5) (by rw [← gz44, ← gz42]; exact SJ.add v6 (by omega) (by omega) (by omega) ed (eb.mpr (by omega)) (bb_n (by omega))) (by omega) (by exact v8) (by exact v9) (by omega)
set_option maxHeartbeats 4000000 in
theorem mnarrowsX_3 {xs : List Int32} {e : Nat} {ac : Int} {M0 M : nM} {Ms : nM} (hS : Sf 3 ac M0 M) (hdm : M0 112 0 = 3) (hms : M = Ms) (hq1 : ∀ q : Int, 0 ≤ q → q < Ms 112 11 → 1 ≤ Ms 118 (Ms 120 q)) : nW xs (e + 3) 191 0 [some (2, 112), none, none, none, none, none, none, none] [] M (nPV fun M1 => Sf 3 ac M0 M1 ∧ (mGND 3 Ms (fun v => M1 129 v)) ∧ (∀ a i : Int, a ≠ 129 → M1 a i = Ms a i)) := by
  have hd : (3 : Int) = 2 ∨ (3 : Int) = 3 := by decide
  have hac := hS.2.2.2.2
  have hS0 := hS
  have t11 := t_112_11 hS
  refine n_iconst c_191_0 (n_istore_n (L2 := [some (2, 112), some (0, 0), none, none, none, none, none, none]) c_191_1 rfl rfl (n_fg (le_s (le_s (le_n (le_n (le_n (le_n (le_n (le_n le_0)))))))) ?_))
  exact (mnarrowsX_3_c hS hdm hms hq1 1000000000000000).1 _ M hS (by omega) (by first | omega | exact wcan_r (by assumption)) (by exact fun a i _ => by rw [hms]) (by exact fun v h0 h1 => by omega) (by omega)

set_option maxHeartbeats 4000000 in
theorem mnarrowedX_3 {xs : List Int32} {e : Nat} {ac : Int} {M0 M : nM} {u : Int} {Ms : nM} (hS : Sf 3 ac M0 M) (hdm : M0 112 0 = 3) (hu : -2147483648 ≤ u ∧ u ≤ 2147483647) (hms : M = Ms) (hq1 : ∀ q : Int, 0 ≤ q → q < Ms 112 11 → 1 ≤ Ms 118 (Ms 120 q)) : nW xs (e + 4) 192 0 [some (2, 112), some (0, u)] [] M (nPI fun z M1 => Sf 3 ac M0 M1 ∧ (-2147483648 ≤ z ∧ z ≤ 2147483647) ∧ (mNa 3 u z Ms)) := by
  have hd : (3 : Int) = 2 ∨ (3 : Int) = 3 := by decide
  have hac := hS.2.2.2.2
  have t10 := t_112_10 hS
  refine n_aload_n c_192_0 rfl (n_iload_n c_192_1 rfl (n_v1I c_192_2 rfl sc_112.n rfl rfl rfl rfl (misUnknownF_3 (u := u) hS hdm (by omega)) ?_))
  intro z1 M2 hP3
  obtain ⟨eM, f3, f3p0⟩ := hP3
  subst eM
  refine n_if0_ne c_192_5 (by omega) ?_ ?_
  · intro h4
    refine n_aload_n c_192_10 rfl ?_
    refine n_v0V c_192_11 rfl sc_112.n rfl rfl rfl rfl (mnarrowsX_3 (Ms := M) hS hdm (by rfl) (by rw [hms]; exact hq1)) ?_
    intro  M5 hP6
    obtain ⟨hS5, f6p0, f6p1⟩ := hP6
    refine n_aload_n c_192_14 rfl (n_getR c_192_15 sc_112.n rfl rfl rfl r_112_24 (n_iload_n c_192_18 rfl (n_ialoadV c_192_19 sc_129.n rfl rfl rfl (by omega) (t_129 hS5 (by omega)) ?_)))
    intro z7 ez7 f8
    exact n_rI c_192_20 rfl ⟨hS5, by omega, by have q := f6p0; rw [hms] at q; exact Or.inr ⟨by omega, by rw [← hms]; omega, _, q, by show _ = M5 129 u; omega⟩⟩
  · intro h9
    refine n_iconst c_192_8 ?_
    exact n_rI c_192_9 rfl ⟨hS, by omega, by exact Or.inl ⟨by rw [← hms]; omega, rfl⟩⟩
