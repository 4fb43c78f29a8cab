/-! What the methods tell. -/
set_option maxHeartbeats 4000000 in
theorem solveX_2_c {xs : List Int32} {e : Nat} {ac : Int} {M : nM} {Ms : nM} (hS : Sf 2 ac M M) (hms : M = Ms) (hxl : ∀ l : Int, 0 ≤ l → l < Ms 3 15 → LawOk 2 (79 + 2 * l) Ms) (hak : ∀ i : Int, 0 ≤ i → i < Ms 32 1 → (0 ≤ Ms 33 i ∧ Ms 33 i < Ms 3 15) ∧ (0 ≤ Ms 34 i ∧ Ms 34 i < Ms 32 0) ∧ (0 ≤ Ms 35 i ∧ Ms 35 i < Ms 32 0) ∧ (0 ≤ Ms 36 i ∧ Ms 36 i < Ms 32 0)) (hsv : Ms 3 18 = 1 → Ms 48 1 = NAn 2 Ms ∧ BA 2 Ms Ms) : ∀ nn : Nat, (∀ (x1 : Int) (M : nM), Sf 2 ac M M → (0 ≤ x1 ∧ x1 ≤ 30) → (FS Ms M) → (M 38 5 = 2) → (M 38 6 = Ms 32 0) → (M 38 7 = 255) → (ALn 2 x1 Ms M) → (x1 ≤ Ms 32 1) → (30 - x1) * 1 + 1 < (nn : Int) → nW xs (e + 30) 134 31 [some (2, 3), some (0, x1)] [] M (nPV fun M1 => Sf 2 ac M1 M1 ∧ (cSt 2 Ms M1))) := by
  have hd : (2 : Int) = 2 ∨ (2 : Int) = 3 := by decide
  have hac := hS.2.2.2.2
  have hU := t_32_0 (hms ▸ hS)
  have hQ := t_32_1 (hms ▸ hS)
  intro nn
  induction nn with
  | zero => intros; omega
  | succ nn ih =>
    intro x1 M hS k1 v0 v1 v2 v3 v4 v5 hnn
    have q321 := v0 32 1 (by omega)
    refine n_iload_n c_134_31 rfl (n_aload_n c_134_32 rfl (n_getR c_134_33 sc_3.n rfl rfl rfl r_3_6 (n_getV (bi := 1) c_134_36 sc_32.n rfl rfl rfl (t_32_1 hS) ?_)))
    intro z1 ez1 f2
    refine n_if2_ge c_134_39 (by omega) (by omega) ?_ ?_
    · intro h3
      refine n_aload_n c_134_99 rfl (n_getR c_134_100 sc_3.n rfl rfl rfl r_3_7 (n_v0V c_134_103 rfl sc_38.n rfl rfl rfl rfl (orderX_2 (Ms := M) hS (by rfl) (by assumption) (by omega)) ?_))
      intro  M4 hP5
      obtain ⟨hS4, f5p0, f5p1⟩ := hP5
      have hS4c := hS4.2.2.2.1.1
      have hS4 := hS4.refl
      have hS4k0 := hS4c 32 1 (by unfold core; omega)
      have x1e : x1 = Ms 32 1 := by have y := v0 32 1 (by omega); omega
      rw [x1e] at v4
      have nst : NST 2 (Ms 32 0) M4 := NST.mk2 (by omega) v1 v2 v4 f5p1 f5p0
      refine n_aload_n c_134_106 rfl (n_getR c_134_107 sc_3.n rfl rfl rfl r_3_7 (n_aload_n c_134_110 rfl (n_getR c_134_111 sc_3.n rfl rfl rfl r_3_10 (n_v1V c_134_114 rfl sc_38.n rfl rfl rfl rfl (findAllX48_2 (Ms := M4) (V := (Ms 32 0)) hS4 (by rfl) (by exact nst) (by omega)) ?_))))
      intro  M6 hP7
      obtain ⟨hS6, f7p0, f7p1, f7p2⟩ := hP7
      refine n_aload_n c_134_117 rfl (n_iconst c_134_118 (n_putZM (bi := 18) hS6 c_134_119 sc_3.n rfl rfl rfl (by omega) rfl (m_3_18 (by omega)) ?_))
      intro M8 eM8 hS8
      have g8_0 : M8 3 18 = 1 := by rw [eM8]; exact nu_s _ _ _ _
      exact n_rV c_134_122 rfl ⟨hS8, by exact ⟨by rw [eM8, nu_s], by rw [eM8, nu_a (by omega), f7p0, gall_of (fun i => f5p1 40 i (by omega) (by omega) (by omega))]; exact gall_ans (by decide) v4 (by omega) (fun i i0 i1 => (hak i i0 i1).2), fun a i hc => by unfold core0 at hc; rw [eM8, nu_e, if_neg (by omega), f7p1 a i (by omega) (by omega) (by omega), f5p1 a i (by omega) (by omega) (by omega)]; exact v0 a i (by omega), fun m m0 m1 => by unfold wbt; rw [eM8, nu_a (by omega)]; have y := f7p2 m m0 m1; rw [show (fun i => M4 40 i) = fun i => M 40 i from funext fun i => f5p1 40 i (by omega) (by omega) (by omega), v4.ans (by decide) (by omega) (fun i i0 i1 => (hak i i0 i1).2)] at y; exact y⟩⟩
    · intro h9
      refine n_aload_n c_134_42 rfl (n_getR c_134_43 sc_3.n rfl rfl rfl r_3_7 (n_aload_n c_134_46 rfl (n_getR c_134_47 sc_3.n rfl rfl rfl r_3_6 (n_getR c_134_50 sc_32.n rfl rfl rfl r_32_3 (n_iload_n c_134_53 rfl (n_ialoadV c_134_54 sc_34.n rfl rfl rfl (by omega) (t_34 hS (by omega)) ?_))))))
      intro z10 ez10 f11
      refine n_aload_n c_134_55 rfl (n_getR c_134_56 sc_3.n rfl rfl rfl r_3_6 (n_getR c_134_59 sc_32.n rfl rfl rfl r_32_4 (n_iload_n c_134_62 rfl (n_ialoadV c_134_63 sc_35.n rfl rfl rfl (by omega) (t_35 hS (by omega)) ?_))))
      intro z12 ez12 f13
      refine n_aload_n c_134_64 rfl (n_getR c_134_65 sc_3.n rfl rfl rfl r_3_6 (n_getR c_134_68 sc_32.n rfl rfl rfl r_32_5 (n_iload_n c_134_71 rfl (n_ialoadV c_134_72 sc_36.n rfl rfl rfl (by omega) (t_36 hS (by omega)) ?_))))
      intro z14 ez14 f15
      refine n_aload_n c_134_73 rfl (n_getR c_134_74 sc_3.n rfl rfl rfl r_3_3 (n_aload_n c_134_77 rfl (n_getR c_134_78 sc_3.n rfl rfl rfl r_3_6 (n_getR c_134_81 sc_32.n rfl rfl rfl r_32_2 (n_iload_n c_134_84 rfl (n_ialoadV c_134_85 sc_33.n rfl rfl rfl (by omega) (t_33 hS (by omega)) ?_))))))
      intro z16 ez16 f17
      refine n_aaload c_134_86 sc_13.n rfl rfl rfl (by omega) (r_laws _) ?_
      have q18 : LawAt (79 + 2 * z16) := by unfold LawAt; omega
      refine n_getV (bi := 2) c_134_87 q18.c0.1.n rfl rfl rfl (t_law hS q18).2.2.1 ?_
      intro z19 ez19 f20
      refine n_v4V c_134_90 rfl sc_38.n rfl rfl rfl rfl (limitX_2 (p := z10) (q := z12) (r := z14) (w := z19) hS (by omega) (by omega) (by omega) (by omega)) ?_
      intro  M21 hP22
      obtain ⟨hS21, f22p0⟩ := hP22
      have hS21c := hS21.2.2.2.1.1
      have hS21 := hS21.refl
      have hS21k0 := hS21c 32 1 (by unfold core; omega)
      have q5 := hak x1 (by omega) (by omega)
      have k34 : z10 = Ms 34 x1 := by rw [ez10]; exact v0 34 x1 (by omega)
      have k35 : z12 = Ms 35 x1 := by rw [ez12]; exact v0 35 x1 (by omega)
      have k36 : z14 = Ms 36 x1 := by rw [ez14]; exact v0 36 x1 (by omega)
      have kl : z16 = Ms 33 x1 := by rw [ez16]; exact v0 33 x1 (by omega)
      have kw : z19 = Ms (79 + 2 * Ms 33 x1) 2 := by rw [ez19, kl]; exact v0 _ _ (by omega)
      have li := f22p0
      rw [k34, k35, k36] at li
      refine n_iinc (L2 := [some (2, 3), some (0, (x1 + 1))]) c_134_93 rfl rfl rfl (n_goto c_134_96 (n_fg (le_s (le_s le_0)) ?_))
      exact ih _ M21 hS21 (by omega) (by exact fun a i ha => by rw [li, nu_a (by omega)]; exact v0 a i ha) (by rw [li, nu_a (by omega)]; exact v1) (by rw [li, nu_a (by omega)]; exact v2) (by rw [li, nu_a (by omega)]; exact v3) (by exact ALn.step (by decide) v4 (by omega) (by omega) (by omega) (by omega) kw (by rw [kw]; exact (hxl _ q5.1.1 q5.1.2).w) li) (by omega) (by omega)
set_option maxHeartbeats 4000000 in
theorem solveX_2 {xs : List Int32} {e : Nat} {ac : Int} {M : nM} {Ms : nM} (hS : Sf 2 ac M M) (hms : M = Ms) (hxl : ∀ l : Int, 0 ≤ l → l < Ms 3 15 → LawOk 2 (79 + 2 * l) Ms) (hak : ∀ i : Int, 0 ≤ i → i < Ms 32 1 → (0 ≤ Ms 33 i ∧ Ms 33 i < Ms 3 15) ∧ (0 ≤ Ms 34 i ∧ Ms 34 i < Ms 32 0) ∧ (0 ≤ Ms 35 i ∧ Ms 35 i < Ms 32 0) ∧ (0 ≤ Ms 36 i ∧ Ms 36 i < Ms 32 0)) (hsv : Ms 3 18 = 1 → Ms 48 1 = NAn 2 Ms ∧ BA 2 Ms Ms) : nW xs (e + 30) 134 0 [some (2, 3), none] [] M (nPV fun M1 => Sf 2 ac M1 M1 ∧ (cSt 2 Ms M1)) := by
  have hd : (2 : Int) = 2 ∨ (2 : Int) = 3 := by decide
  have hac := hS.2.2.2.2
  have hU := t_32_0 (hms ▸ hS)
  have hQ := t_32_1 (hms ▸ hS)
  refine n_aload_n c_134_0 rfl (n_getV (bi := 18) c_134_1 sc_3.n rfl rfl rfl (t_3_18 hS) ?_)
  intro z1 ez1 f2
  refine n_if0_eq c_134_4 (by omega) ?_ ?_
  · intro h3
    refine n_aload_n c_134_8 rfl (n_getR c_134_9 sc_3.n rfl rfl rfl r_3_7 (n_aload_n c_134_12 rfl (n_getR c_134_13 sc_3.n rfl rfl rfl r_3_0 (n_getV (bi := 0) c_134_16 sc_4.n rfl rfl rfl (t_4_0 hS) ?_))))
    intro z4 ez4 f5
    obtain rfl : z4 = 2 := by omega
    refine n_aload_n c_134_19 rfl (n_getR c_134_20 sc_3.n rfl rfl rfl r_3_6 (n_getV (bi := 0) c_134_23 sc_32.n rfl rfl rfl (t_32_0 hS) ?_))
    intro z6 ez6 f7
    refine n_v2V c_134_26 rfl sc_38.n rfl rfl rfl rfl (nstartX_2 (c := z6) hS (by omega)) ?_
    intro  M8 hP9
    obtain ⟨hS8, f9p0, f9p1, f9p2, f9p3, f9p4⟩ := hP9
    have hS8c := hS8.2.2.2.1.1
    have hS8 := hS8.refl
    have hS8k0 := hS8c 3 18 (by unfold core; omega)
    refine n_iconst c_134_29 (n_istore_n (L2 := [some (2, 3), some (0, 0)]) c_134_30 rfl rfl (n_fg (le_s (le_s le_0)) ?_))
    exact (solveX_2_c hS hms hxl hak hsv 74) _ M8 hS8 (by omega) (by exact fun a i ha => by rw [f9p4 a i (by omega) (by omega), hms]) (by exact f9p0) (by rw [f9p1, ez6, hms]) (by exact f9p2) (by exact ALn.init (by decide) (fun i h0 h1 => by rw [f9p3 i h0 h1]; rfl)) (by omega) (by omega)
  · intro h10
    exact n_rV c_134_7 rfl ⟨hS, by rw [hms] at *; exact ⟨by omega, (hsv (by omega)).1, fun _ _ _ => rfl, (hsv (by omega)).2⟩⟩

set_option maxHeartbeats 4000000 in
theorem answersX_2 {xs : List Int32} {e : Nat} {ac : Int} {M : nM} {gd : Int} {Ms : nM} (hS : Sf 2 ac M M) (hgd : M 112 0 = gd) (hms : M = Ms) (hxl : ∀ l : Int, 0 ≤ l → l < Ms 3 15 → LawOk 2 (79 + 2 * l) Ms) (hak : ∀ i : Int, 0 ≤ i → i < Ms 32 1 → (0 ≤ Ms 33 i ∧ Ms 33 i < Ms 3 15) ∧ (0 ≤ Ms 34 i ∧ Ms 34 i < Ms 32 0) ∧ (0 ≤ Ms 35 i ∧ Ms 35 i < Ms 32 0) ∧ (0 ≤ Ms 36 i ∧ Ms 36 i < Ms 32 0)) (hsv : Ms 3 18 = 1 → Ms 48 1 = NAn 2 Ms ∧ BA 2 Ms Ms) : nW xs (e + 31) 118 0 [some (2, 3)] [] M (nPI fun z M1 => Sf 2 ac M1 M1 ∧ (-2147483648 ≤ z ∧ z ≤ 2147483647) ∧ (M1 112 0 = gd) ∧ (cSt 2 Ms M1) ∧ (z = M1 48 1)) := by
  have hd : (2 : Int) = 2 ∨ (2 : Int) = 3 := by decide
  have hac := hS.2.2.2.2
  refine n_aload_n c_118_0 rfl ?_
  refine n_v0V c_118_1 rfl sc_3.n rfl rfl rfl rfl (solveX_2 (Ms := M) hS (by rfl) (by rw [hms]; exact hxl) (by rw [hms]; exact hak) (by rw [hms]; exact hsv)) ?_
  intro  M1 hP2
  obtain ⟨hS1, f2p0⟩ := hP2
  have g112 := f2p0.2.2.1 112 0 (by unfold core0; omega)
  refine n_aload_n c_118_4 rfl (n_getR c_118_5 sc_3.n rfl rfl rfl r_3_10 (n_getV (bi := 1) c_118_8 sc_48.n rfl rfl rfl (t_48_1 hS1) ?_))
  intro z3 ez3 f4
  exact n_rI c_118_11 rfl ⟨hS1, by omega, by omega, by have y := f2p0; rw [hms] at y; exact y, by exact ez3⟩

set_option maxHeartbeats 4000000 in
theorem answerX_2 {xs : List Int32} {e : Nat} {ac : Int} {M : nM} {i gd : Int} {Ms : nM} (hS : Sf 2 ac M M) (hi : -2147483648 ≤ i ∧ i ≤ 2147483647) (hgd : M 112 0 = gd) (hms : M = Ms) (hxl : ∀ l : Int, 0 ≤ l → l < Ms 3 15 → LawOk 2 (79 + 2 * l) Ms) (hak : ∀ i : Int, 0 ≤ i → i < Ms 32 1 → (0 ≤ Ms 33 i ∧ Ms 33 i < Ms 3 15) ∧ (0 ≤ Ms 34 i ∧ Ms 34 i < Ms 32 0) ∧ (0 ≤ Ms 35 i ∧ Ms 35 i < Ms 32 0) ∧ (0 ≤ Ms 36 i ∧ Ms 36 i < Ms 32 0)) (hsv : Ms 3 18 = 1 → Ms 48 1 = NAn 2 Ms ∧ BA 2 Ms Ms) : nW xs (e + 31) 119 0 [some (2, 3), some (0, i)] [] M (nPI fun z M1 => Sf 2 ac M1 M1 ∧ (-2147483648 ≤ z ∧ z ≤ 2147483647) ∧ (M1 112 0 = gd) ∧ (cSt 2 Ms M1) ∧ (Nth M1 48 i z 6592)) := by
  have hd : (2 : Int) = 2 ∨ (2 : Int) = 3 := by decide
  have hac := hS.2.2.2.2
  refine n_aload_n c_119_0 rfl ?_
  refine n_v0V c_119_1 rfl sc_3.n rfl rfl rfl rfl (solveX_2 (Ms := M) hS (by rfl) (by rw [hms]; exact hxl) (by rw [hms]; exact hak) (by rw [hms]; exact hsv)) ?_
  intro  M1 hP2
  obtain ⟨hS1, f2p0⟩ := hP2
  have g112 := f2p0.2.2.1 112 0 (by unfold core0; omega)
  refine n_aload_n c_119_4 rfl (n_getR c_119_5 sc_3.n rfl rfl rfl r_3_10 (n_iload_n c_119_8 rfl (n_v1I c_119_9 rfl sc_48.n rfl rfl rfl rfl (nthX48_2 (i := i) hS1 (by omega) (by exact cSt.hct (by decide) hS f2p0)) ?_)))
  intro z3 M4 hP5
  obtain ⟨eM, f5, f5p0⟩ := hP5
  subst eM
  exact n_rI c_119_12 rfl ⟨hS1, by omega, by omega, by have y := f2p0; rw [hms] at y; exact y, by exact f5p0⟩

set_option maxHeartbeats 4000000 in
theorem mpowG0_2 {xs : List Int32} {e : Nat} {ac : Int} {M0 M : nM} (hS : Sf 2 ac M0 M)  : nW xs e 140 0 [some (0, 2), some (0, 0), none, none] [] M (nPI fun z M1 => M = M1 ∧ (1 ≤ z ∧ z ≤ 1) ∧ (z = pn 2 (0 : Int).toNat)) := by
  have hd : (2 : Int) = 2 ∨ (2 : Int) = 3 := by decide
  have hac := hS.2.2.2.2
  refine n_iconst c_140_0 (n_istore_n (L2 := [some (0, 2), some (0, 0), some (0, 1), none]) c_140_1 rfl rfl (n_iconst c_140_2 (n_istore_n (L2 := [some (0, 2), some (0, 0), some (0, 1), some (0, 0)]) c_140_3 rfl rfl (n_iload_n c_140_4 rfl (n_iload_n c_140_5 rfl ?_)))))
  refine n_if2_ge c_140_6 (by omega) (by omega) ?_ ?_
  · intro h1
    refine n_iload_n c_140_19 rfl ?_
    exact n_rI c_140_20 rfl ⟨rfl, by omega, by decide⟩
  · intro h2
    exfalso; omega

set_option maxHeartbeats 4000000 in
theorem mpowG1_2 {xs : List Int32} {e : Nat} {ac : Int} {M0 M : nM} (hS : Sf 2 ac M0 M)  : nW xs e 140 0 [some (0, 2), some (0, 1), none, none] [] M (nPI fun z M1 => M = M1 ∧ (2 ≤ z ∧ z ≤ 2) ∧ (z = pn 2 (1 : Int).toNat)) := by
  have hd : (2 : Int) = 2 ∨ (2 : Int) = 3 := by decide
  have hac := hS.2.2.2.2
  refine n_iconst c_140_0 (n_istore_n (L2 := [some (0, 2), some (0, 1), some (0, 1), none]) c_140_1 rfl rfl (n_iconst c_140_2 (n_istore_n (L2 := [some (0, 2), some (0, 1), some (0, 1), some (0, 0)]) c_140_3 rfl rfl (n_iload_n c_140_4 rfl (n_iload_n c_140_5 rfl ?_)))))
  refine n_if2_ge c_140_6 (by omega) (by omega) ?_ ?_
  · intro h1
    exfalso; omega
  · intro h2
    refine n_iload_n c_140_9 rfl (n_iload_n c_140_10 rfl (n_imul c_140_11 rfl (n_istore_n (L2 := [some (0, 2), some (0, 1), some (0, (1 * 2)), some (0, 0)]) c_140_12 rfl rfl (n_iinc (L2 := [some (0, 2), some (0, 1), some (0, (1 * 2)), some (0, (0 + 1))]) c_140_13 rfl rfl rfl (n_goto c_140_16 (n_iload_n c_140_4 rfl (n_iload_n c_140_5 rfl ?_)))))))
    refine n_if2_ge c_140_6 (by omega) (by omega) ?_ ?_
    · intro h3
      refine n_iload_n c_140_19 rfl ?_
      exact n_rI c_140_20 rfl ⟨rfl, by omega, by decide⟩
    · intro h4
      exfalso; omega

set_option maxHeartbeats 4000000 in
theorem mpowG2_2 {xs : List Int32} {e : Nat} {ac : Int} {M0 M : nM} (hS : Sf 2 ac M0 M)  : nW xs e 140 0 [some (0, 2), some (0, 2), none, none] [] M (nPI fun z M1 => M = M1 ∧ (4 ≤ z ∧ z ≤ 4) ∧ (z = pn 2 (2 : Int).toNat)) := by
  have hd : (2 : Int) = 2 ∨ (2 : Int) = 3 := by decide
  have hac := hS.2.2.2.2
  refine n_iconst c_140_0 (n_istore_n (L2 := [some (0, 2), some (0, 2), some (0, 1), none]) c_140_1 rfl rfl (n_iconst c_140_2 (n_istore_n (L2 := [some (0, 2), some (0, 2), some (0, 1), some (0, 0)]) c_140_3 rfl rfl (n_iload_n c_140_4 rfl (n_iload_n c_140_5 rfl ?_)))))
  refine n_if2_ge c_140_6 (by omega) (by omega) ?_ ?_
  · intro h1
    exfalso; omega
  · intro h2
    refine n_iload_n c_140_9 rfl (n_iload_n c_140_10 rfl (n_imul c_140_11 rfl (n_istore_n (L2 := [some (0, 2), some (0, 2), some (0, (1 * 2)), some (0, 0)]) c_140_12 rfl rfl (n_iinc (L2 := [some (0, 2), some (0, 2), some (0, (1 * 2)), some (0, (0 + 1))]) c_140_13 rfl rfl rfl (n_goto c_140_16 (n_iload_n c_140_4 rfl (n_iload_n c_140_5 rfl ?_)))))))
    refine n_if2_ge c_140_6 (by omega) (by omega) ?_ ?_
    · intro h3
      exfalso; omega
    · intro h4
      refine n_iload_n c_140_9 rfl (n_iload_n c_140_10 rfl (n_imul c_140_11 rfl (n_istore_n (L2 := [some (0, 2), some (0, 2), some (0, ((1 * 2) * 2)), some (0, (0 + 1))]) c_140_12 rfl rfl (n_iinc (L2 := [some (0, 2), some (0, 2), some (0, ((1 * 2) * 2)), some (0, ((0 + 1) + 1))]) c_140_13 rfl rfl rfl (n_goto c_140_16 (n_iload_n c_140_4 rfl (n_iload_n c_140_5 rfl ?_)))))))
      refine n_if2_ge c_140_6 (by omega) (by omega) ?_ ?_
      · intro h5
        refine n_iload_n c_140_19 rfl ?_
        exact n_rI c_140_20 rfl ⟨rfl, by omega, by decide⟩
      · intro h6
        exfalso; omega

set_option maxHeartbeats 4000000 in
theorem mpowG3_2 {xs : List Int32} {e : Nat} {ac : Int} {M0 M : nM} (hS : Sf 2 ac M0 M)  : nW xs e 140 0 [some (0, 2), some (0, 3), none, none] [] M (nPI fun z M1 => M = M1 ∧ (8 ≤ z ∧ z ≤ 8) ∧ (z = pn 2 (3 : Int).toNat)) := by
  have hd : (2 : Int) = 2 ∨ (2 : Int) = 3 := by decide
  have hac := hS.2.2.2.2
  refine n_iconst c_140_0 (n_istore_n (L2 := [some (0, 2), some (0, 3), some (0, 1), none]) c_140_1 rfl rfl (n_iconst c_140_2 (n_istore_n (L2 := [some (0, 2), some (0, 3), some (0, 1), some (0, 0)]) c_140_3 rfl rfl (n_iload_n c_140_4 rfl (n_iload_n c_140_5 rfl ?_)))))
  refine n_if2_ge c_140_6 (by omega) (by omega) ?_ ?_
  · intro h1
    exfalso; omega
  · intro h2
    refine n_iload_n c_140_9 rfl (n_iload_n c_140_10 rfl (n_imul c_140_11 rfl (n_istore_n (L2 := [some (0, 2), some (0, 3), some (0, (1 * 2)), some (0, 0)]) c_140_12 rfl rfl (n_iinc (L2 := [some (0, 2), some (0, 3), some (0, (1 * 2)), some (0, (0 + 1))]) c_140_13 rfl rfl rfl (n_goto c_140_16 (n_iload_n c_140_4 rfl (n_iload_n c_140_5 rfl ?_)))))))
    refine n_if2_ge c_140_6 (by omega) (by omega) ?_ ?_
    · intro h3
      exfalso; omega
    · intro h4
      refine n_iload_n c_140_9 rfl (n_iload_n c_140_10 rfl (n_imul c_140_11 rfl (n_istore_n (L2 := [some (0, 2), some (0, 3), some (0, ((1 * 2) * 2)), some (0, (0 + 1))]) c_140_12 rfl rfl (n_iinc (L2 := [some (0, 2), some (0, 3), some (0, ((1 * 2) * 2)), some (0, ((0 + 1) + 1))]) c_140_13 rfl rfl rfl (n_goto c_140_16 (n_iload_n c_140_4 rfl (n_iload_n c_140_5 rfl ?_)))))))
      refine n_if2_ge c_140_6 (by omega) (by omega) ?_ ?_
      · intro h5
        exfalso; omega
      · intro h6
        refine n_iload_n c_140_9 rfl (n_iload_n c_140_10 rfl (n_imul c_140_11 rfl (n_istore_n (L2 := [some (0, 2), some (0, 3), some (0, (((1 * 2) * 2) * 2)), some (0, ((0 + 1) + 1))]) c_140_12 rfl rfl (n_iinc (L2 := [some (0, 2), some (0, 3), some (0, (((1 * 2) * 2) * 2)), some (0, (((0 + 1) + 1) + 1))]) c_140_13 rfl rfl rfl (n_goto c_140_16 (n_iload_n c_140_4 rfl (n_iload_n c_140_5 rfl ?_)))))))
        refine n_if2_ge c_140_6 (by omega) (by omega) ?_ ?_
        · intro h7
          refine n_iload_n c_140_19 rfl ?_
          exact n_rI c_140_20 rfl ⟨rfl, by omega, by decide⟩
        · intro h8
          exfalso; omega

set_option maxHeartbeats 4000000 in
theorem mpowG4_2 {xs : List Int32} {e : Nat} {ac : Int} {M0 M : nM} (hS : Sf 2 ac M0 M)  : nW xs e 140 0 [some (0, 2), some (0, 4), none, none] [] M (nPI fun z M1 => M = M1 ∧ (16 ≤ z ∧ z ≤ 16) ∧ (z = pn 2 (4 : Int).toNat)) := by
  have hd : (2 : Int) = 2 ∨ (2 : Int) = 3 := by decide
  have hac := hS.2.2.2.2
  refine n_iconst c_140_0 (n_istore_n (L2 := [some (0, 2), some (0, 4), some (0, 1), none]) c_140_1 rfl rfl (n_iconst c_140_2 (n_istore_n (L2 := [some (0, 2), some (0, 4), some (0, 1), some (0, 0)]) c_140_3 rfl rfl (n_iload_n c_140_4 rfl (n_iload_n c_140_5 rfl ?_)))))
  refine n_if2_ge c_140_6 (by omega) (by omega) ?_ ?_
  · intro h1
    exfalso; omega
  · intro h2
    refine n_iload_n c_140_9 rfl (n_iload_n c_140_10 rfl (n_imul c_140_11 rfl (n_istore_n (L2 := [some (0, 2), some (0, 4), some (0, (1 * 2)), some (0, 0)]) c_140_12 rfl rfl (n_iinc (L2 := [some (0, 2), some (0, 4), some (0, (1 * 2)), some (0, (0 + 1))]) c_140_13 rfl rfl rfl (n_goto c_140_16 (n_iload_n c_140_4 rfl (n_iload_n c_140_5 rfl ?_)))))))
    refine n_if2_ge c_140_6 (by omega) (by omega) ?_ ?_
    · intro h3
      exfalso; omega
    · intro h4
      refine n_iload_n c_140_9 rfl (n_iload_n c_140_10 rfl (n_imul c_140_11 rfl (n_istore_n (L2 := [some (0, 2), some (0, 4), some (0, ((1 * 2) * 2)), some (0, (0 + 1))]) c_140_12 rfl rfl (n_iinc (L2 := [some (0, 2), some (0, 4), some (0, ((1 * 2) * 2)), some (0, ((0 + 1) + 1))]) c_140_13 rfl rfl rfl (n_goto c_140_16 (n_iload_n c_140_4 rfl (n_iload_n c_140_5 rfl ?_)))))))
      refine n_if2_ge c_140_6 (by omega) (by omega) ?_ ?_
      · intro h5
        exfalso; omega
      · intro h6
        refine n_iload_n c_140_9 rfl (n_iload_n c_140_10 rfl (n_imul c_140_11 rfl (n_istore_n (L2 := [some (0, 2), some (0, 4), some (0, (((1 * 2) * 2) * 2)), some (0, ((0 + 1) + 1))]) c_140_12 rfl rfl (n_iinc (L2 := [some (0, 2), some (0, 4), some (0, (((1 * 2) * 2) * 2)), some (0, (((0 + 1) + 1) + 1))]) c_140_13 rfl rfl rfl (n_goto c_140_16 (n_iload_n c_140_4 rfl (n_iload_n c_140_5 rfl ?_)))))))
        refine n_if2_ge c_140_6 (by omega) (by omega) ?_ ?_
        · intro h7
          exfalso; omega
        · intro h8
          refine n_iload_n c_140_9 rfl (n_iload_n c_140_10 rfl (n_imul c_140_11 rfl (n_istore_n (L2 := [some (0, 2), some (0, 4), some (0, ((((1 * 2) * 2) * 2) * 2)), some (0, (((0 + 1) + 1) + 1))]) c_140_12 rfl rfl (n_iinc (L2 := [some (0, 2), some (0, 4), some (0, ((((1 * 2) * 2) * 2) * 2)), some (0, ((((0 + 1) + 1) + 1) + 1))]) c_140_13 rfl rfl rfl (n_goto c_140_16 (n_iload_n c_140_4 rfl (n_iload_n c_140_5 rfl ?_)))))))
          refine n_if2_ge c_140_6 (by omega) (by omega) ?_ ?_
          · intro h9
            refine n_iload_n c_140_19 rfl ?_
            exact n_rI c_140_20 rfl ⟨rfl, by omega, by decide⟩
          · intro h10
            exfalso; omega

set_option maxHeartbeats 4000000 in
theorem mpowG5_2 {xs : List Int32} {e : Nat} {ac : Int} {M0 M : nM} (hS : Sf 2 ac M0 M)  : nW xs e 140 0 [some (0, 2), some (0, 5), none, none] [] M (nPI fun z M1 => M = M1 ∧ (32 ≤ z ∧ z ≤ 32) ∧ (z = pn 2 (5 : Int).toNat)) := by
  have hd : (2 : Int) = 2 ∨ (2 : Int) = 3 := by decide
  have hac := hS.2.2.2.2
  refine n_iconst c_140_0 (n_istore_n (L2 := [some (0, 2), some (0, 5), some (0, 1), none]) c_140_1 rfl rfl (n_iconst c_140_2 (n_istore_n (L2 := [some (0, 2), some (0, 5), some (0, 1), some (0, 0)]) c_140_3 rfl rfl (n_iload_n c_140_4 rfl (n_iload_n c_140_5 rfl ?_)))))
  refine n_if2_ge c_140_6 (by omega) (by omega) ?_ ?_
  · intro h1
    exfalso; omega
  · intro h2
    refine n_iload_n c_140_9 rfl (n_iload_n c_140_10 rfl (n_imul c_140_11 rfl (n_istore_n (L2 := [some (0, 2), some (0, 5), some (0, (1 * 2)), some (0, 0)]) c_140_12 rfl rfl (n_iinc (L2 := [some (0, 2), some (0, 5), some (0, (1 * 2)), some (0, (0 + 1))]) c_140_13 rfl rfl rfl (n_goto c_140_16 (n_iload_n c_140_4 rfl (n_iload_n c_140_5 rfl ?_)))))))
    refine n_if2_ge c_140_6 (by omega) (by omega) ?_ ?_
    · intro h3
      exfalso; omega
    · intro h4
      refine n_iload_n c_140_9 rfl (n_iload_n c_140_10 rfl (n_imul c_140_11 rfl (n_istore_n (L2 := [some (0, 2), some (0, 5), some (0, ((1 * 2) * 2)), some (0, (0 + 1))]) c_140_12 rfl rfl (n_iinc (L2 := [some (0, 2), some (0, 5), some (0, ((1 * 2) * 2)), some (0, ((0 + 1) + 1))]) c_140_13 rfl rfl rfl (n_goto c_140_16 (n_iload_n c_140_4 rfl (n_iload_n c_140_5 rfl ?_)))))))
      refine n_if2_ge c_140_6 (by omega) (by omega) ?_ ?_
      · intro h5
        exfalso; omega
      · intro h6
        refine n_iload_n c_140_9 rfl (n_iload_n c_140_10 rfl (n_imul c_140_11 rfl (n_istore_n (L2 := [some (0, 2), some (0, 5), some (0, (((1 * 2) * 2) * 2)), some (0, ((0 + 1) + 1))]) c_140_12 rfl rfl (n_iinc (L2 := [some (0, 2), some (0, 5), some (0, (((1 * 2) * 2) * 2)), some (0, (((0 + 1) + 1) + 1))]) c_140_13 rfl rfl rfl (n_goto c_140_16 (n_iload_n c_140_4 rfl (n_iload_n c_140_5 rfl ?_)))))))
        refine n_if2_ge c_140_6 (by omega) (by omega) ?_ ?_
        · intro h7
          exfalso; omega
        · intro h8
          refine n_iload_n c_140_9 rfl (n_iload_n c_140_10 rfl (n_imul c_140_11 rfl (n_istore_n (L2 := [some (0, 2), some (0, 5), some (0, ((((1 * 2) * 2) * 2) * 2)), some (0, (((0 + 1) + 1) + 1))]) c_140_12 rfl rfl (n_iinc (L2 := [some (0, 2), some (0, 5), some (0, ((((1 * 2) * 2) * 2) * 2)), some (0, ((((0 + 1) + 1) + 1) + 1))]) c_140_13 rfl rfl rfl (n_goto c_140_16 (n_iload_n c_140_4 rfl (n_iload_n c_140_5 rfl ?_)))))))
          refine n_if2_ge c_140_6 (by omega) (by omega) ?_ ?_
          · intro h9
            exfalso; omega
          · intro h10
            refine n_iload_n c_140_9 rfl (n_iload_n c_140_10 rfl (n_imul c_140_11 rfl (n_istore_n (L2 := [some (0, 2), some (0, 5), some (0, (((((1 * 2) * 2) * 2) * 2) * 2)), some (0, ((((0 + 1) + 1) + 1) + 1))]) c_140_12 rfl rfl (n_iinc (L2 := [some (0, 2), some (0, 5), some (0, (((((1 * 2) * 2) * 2) * 2) * 2)), some (0, (((((0 + 1) + 1) + 1) + 1) + 1))]) c_140_13 rfl rfl rfl (n_goto c_140_16 (n_iload_n c_140_4 rfl (n_iload_n c_140_5 rfl ?_)))))))
            refine n_if2_ge c_140_6 (by omega) (by omega) ?_ ?_
            · intro h11
              refine n_iload_n c_140_19 rfl ?_
              exact n_rI c_140_20 rfl ⟨rfl, by omega, by decide⟩
            · intro h12
              exfalso; omega

set_option maxHeartbeats 4000000 in
theorem mpowG6_2 {xs : List Int32} {e : Nat} {ac : Int} {M0 M : nM} (hS : Sf 2 ac M0 M)  : nW xs e 140 0 [some (0, 2), some (0, 6), none, none] [] M (nPI fun z M1 => M = M1 ∧ (64 ≤ z ∧ z ≤ 64) ∧ (z = pn 2 (6 : Int).toNat)) := by
  have hd : (2 : Int) = 2 ∨ (2 : Int) = 3 := by decide
  have hac := hS.2.2.2.2
  refine n_iconst c_140_0 (n_istore_n (L2 := [some (0, 2), some (0, 6), some (0, 1), none]) c_140_1 rfl rfl (n_iconst c_140_2 (n_istore_n (L2 := [some (0, 2), some (0, 6), some (0, 1), some (0, 0)]) c_140_3 rfl rfl (n_iload_n c_140_4 rfl (n_iload_n c_140_5 rfl ?_)))))
  refine n_if2_ge c_140_6 (by omega) (by omega) ?_ ?_
  · intro h1
    exfalso; omega
  · intro h2
    refine n_iload_n c_140_9 rfl (n_iload_n c_140_10 rfl (n_imul c_140_11 rfl (n_istore_n (L2 := [some (0, 2), some (0, 6), some (0, (1 * 2)), some (0, 0)]) c_140_12 rfl rfl (n_iinc (L2 := [some (0, 2), some (0, 6), some (0, (1 * 2)), some (0, (0 + 1))]) c_140_13 rfl rfl rfl (n_goto c_140_16 (n_iload_n c_140_4 rfl (n_iload_n c_140_5 rfl ?_)))))))
    refine n_if2_ge c_140_6 (by omega) (by omega) ?_ ?_
    · intro h3
      exfalso; omega
    · intro h4
      refine n_iload_n c_140_9 rfl (n_iload_n c_140_10 rfl (n_imul c_140_11 rfl (n_istore_n (L2 := [some (0, 2), some (0, 6), some (0, ((1 * 2) * 2)), some (0, (0 + 1))]) c_140_12 rfl rfl (n_iinc (L2 := [some (0, 2), some (0, 6), some (0, ((1 * 2) * 2)), some (0, ((0 + 1) + 1))]) c_140_13 rfl rfl rfl (n_goto c_140_16 (n_iload_n c_140_4 rfl (n_iload_n c_140_5 rfl ?_)))))))
      refine n_if2_ge c_140_6 (by omega) (by omega) ?_ ?_
      · intro h5
        exfalso; omega
      · intro h6
        refine n_iload_n c_140_9 rfl (n_iload_n c_140_10 rfl (n_imul c_140_11 rfl (n_istore_n (L2 := [some (0, 2), some (0, 6), some (0, (((1 * 2) * 2) * 2)), some (0, ((0 + 1) + 1))]) c_140_12 rfl rfl (n_iinc (L2 := [some (0, 2), some (0, 6), some (0, (((1 * 2) * 2) * 2)), some (0, (((0 + 1) + 1) + 1))]) c_140_13 rfl rfl rfl (n_goto c_140_16 (n_iload_n c_140_4 rfl (n_iload_n c_140_5 rfl ?_)))))))
        refine n_if2_ge c_140_6 (by omega) (by omega) ?_ ?_
        · intro h7
          exfalso; omega
        · intro h8
          refine n_iload_n c_140_9 rfl (n_iload_n c_140_10 rfl (n_imul c_140_11 rfl (n_istore_n (L2 := [some (0, 2), some (0, 6), some (0, ((((1 * 2) * 2) * 2) * 2)), some (0, (((0 + 1) + 1) + 1))]) c_140_12 rfl rfl (n_iinc (L2 := [some (0, 2), some (0, 6), some (0, ((((1 * 2) * 2) * 2) * 2)), some (0, ((((0 + 1) + 1) + 1) + 1))]) c_140_13 rfl rfl rfl (n_goto c_140_16 (n_iload_n c_140_4 rfl (n_iload_n c_140_5 rfl ?_)))))))
          refine n_if2_ge c_140_6 (by omega) (by omega) ?_ ?_
          · intro h9
            exfalso; omega
          · intro h10
            refine n_iload_n c_140_9 rfl (n_iload_n c_140_10 rfl (n_imul c_140_11 rfl (n_istore_n (L2 := [some (0, 2), some (0, 6), some (0, (((((1 * 2) * 2) * 2) * 2) * 2)), some (0, ((((0 + 1) + 1) + 1) + 1))]) c_140_12 rfl rfl (n_iinc (L2 := [some (0, 2), some (0, 6), some (0, (((((1 * 2) * 2) * 2) * 2) * 2)), some (0, (((((0 + 1) + 1) + 1) + 1) + 1))]) c_140_13 rfl rfl rfl (n_goto c_140_16 (n_iload_n c_140_4 rfl (n_iload_n c_140_5 rfl ?_)))))))
            refine n_if2_ge c_140_6 (by omega) (by omega) ?_ ?_
            · intro h11
              exfalso; omega
            · intro h12
              refine n_iload_n c_140_9 rfl (n_iload_n c_140_10 rfl (n_imul c_140_11 rfl (n_istore_n (L2 := [some (0, 2), some (0, 6), some (0, ((((((1 * 2) * 2) * 2) * 2) * 2) * 2)), some (0, (((((0 + 1) + 1) + 1) + 1) + 1))]) c_140_12 rfl rfl (n_iinc (L2 := [some (0, 2), some (0, 6), some (0, ((((((1 * 2) * 2) * 2) * 2) * 2) * 2)), some (0, ((((((0 + 1) + 1) + 1) + 1) + 1) + 1))]) c_140_13 rfl rfl rfl (n_goto c_140_16 (n_iload_n c_140_4 rfl (n_iload_n c_140_5 rfl ?_)))))))
              refine n_if2_ge c_140_6 (by omega) (by omega) ?_ ?_
              · intro h13
                refine n_iload_n c_140_19 rfl ?_
                exact n_rI c_140_20 rfl ⟨rfl, by omega, by decide⟩
              · intro h14
                exfalso; omega

set_option maxHeartbeats 4000000 in
theorem mpowG7_2 {xs : List Int32} {e : Nat} {ac : Int} {M0 M : nM} (hS : Sf 2 ac M0 M)  : nW xs e 140 0 [some (0, 2), some (0, 7), none, none] [] M (nPI fun z M1 => M = M1 ∧ (128 ≤ z ∧ z ≤ 128) ∧ (z = pn 2 (7 : Int).toNat)) := by
  have hd : (2 : Int) = 2 ∨ (2 : Int) = 3 := by decide
  have hac := hS.2.2.2.2
  refine n_iconst c_140_0 (n_istore_n (L2 := [some (0, 2), some (0, 7), some (0, 1), none]) c_140_1 rfl rfl (n_iconst c_140_2 (n_istore_n (L2 := [some (0, 2), some (0, 7), some (0, 1), some (0, 0)]) c_140_3 rfl rfl (n_iload_n c_140_4 rfl (n_iload_n c_140_5 rfl ?_)))))
  refine n_if2_ge c_140_6 (by omega) (by omega) ?_ ?_
  · intro h1
    exfalso; omega
  · intro h2
    refine n_iload_n c_140_9 rfl (n_iload_n c_140_10 rfl (n_imul c_140_11 rfl (n_istore_n (L2 := [some (0, 2), some (0, 7), some (0, (1 * 2)), some (0, 0)]) c_140_12 rfl rfl (n_iinc (L2 := [some (0, 2), some (0, 7), some (0, (1 * 2)), some (0, (0 + 1))]) c_140_13 rfl rfl rfl (n_goto c_140_16 (n_iload_n c_140_4 rfl (n_iload_n c_140_5 rfl ?_)))))))
    refine n_if2_ge c_140_6 (by omega) (by omega) ?_ ?_
    · intro h3
      exfalso; omega
    · intro h4
      refine n_iload_n c_140_9 rfl (n_iload_n c_140_10 rfl (n_imul c_140_11 rfl (n_istore_n (L2 := [some (0, 2), some (0, 7), some (0, ((1 * 2) * 2)), some (0, (0 + 1))]) c_140_12 rfl rfl (n_iinc (L2 := [some (0, 2), some (0, 7), some (0, ((1 * 2) * 2)), some (0, ((0 + 1) + 1))]) c_140_13 rfl rfl rfl (n_goto c_140_16 (n_iload_n c_140_4 rfl (n_iload_n c_140_5 rfl ?_)))))))
      refine n_if2_ge c_140_6 (by omega) (by omega) ?_ ?_
      · intro h5
        exfalso; omega
      · intro h6
        refine n_iload_n c_140_9 rfl (n_iload_n c_140_10 rfl (n_imul c_140_11 rfl (n_istore_n (L2 := [some (0, 2), some (0, 7), some (0, (((1 * 2) * 2) * 2)), some (0, ((0 + 1) + 1))]) c_140_12 rfl rfl (n_iinc (L2 := [some (0, 2), some (0, 7), some (0, (((1 * 2) * 2) * 2)), some (0, (((0 + 1) + 1) + 1))]) c_140_13 rfl rfl rfl (n_goto c_140_16 (n_iload_n c_140_4 rfl (n_iload_n c_140_5 rfl ?_)))))))
        refine n_if2_ge c_140_6 (by omega) (by omega) ?_ ?_
        · intro h7
          exfalso; omega
        · intro h8
          refine n_iload_n c_140_9 rfl (n_iload_n c_140_10 rfl (n_imul c_140_11 rfl (n_istore_n (L2 := [some (0, 2), some (0, 7), some (0, ((((1 * 2) * 2) * 2) * 2)), some (0, (((0 + 1) + 1) + 1))]) c_140_12 rfl rfl (n_iinc (L2 := [some (0, 2), some (0, 7), some (0, ((((1 * 2) * 2) * 2) * 2)), some (0, ((((0 + 1) + 1) + 1) + 1))]) c_140_13 rfl rfl rfl (n_goto c_140_16 (n_iload_n c_140_4 rfl (n_iload_n c_140_5 rfl ?_)))))))
          refine n_if2_ge c_140_6 (by omega) (by omega) ?_ ?_
          · intro h9
            exfalso; omega
          · intro h10
            refine n_iload_n c_140_9 rfl (n_iload_n c_140_10 rfl (n_imul c_140_11 rfl (n_istore_n (L2 := [some (0, 2), some (0, 7), some (0, (((((1 * 2) * 2) * 2) * 2) * 2)), some (0, ((((0 + 1) + 1) + 1) + 1))]) c_140_12 rfl rfl (n_iinc (L2 := [some (0, 2), some (0, 7), some (0, (((((1 * 2) * 2) * 2) * 2) * 2)), some (0, (((((0 + 1) + 1) + 1) + 1) + 1))]) c_140_13 rfl rfl rfl (n_goto c_140_16 (n_iload_n c_140_4 rfl (n_iload_n c_140_5 rfl ?_)))))))
            refine n_if2_ge c_140_6 (by omega) (by omega) ?_ ?_
            · intro h11
              exfalso; omega
            · intro h12
              refine n_iload_n c_140_9 rfl (n_iload_n c_140_10 rfl (n_imul c_140_11 rfl (n_istore_n (L2 := [some (0, 2), some (0, 7), some (0, ((((((1 * 2) * 2) * 2) * 2) * 2) * 2)), some (0, (((((0 + 1) + 1) + 1) + 1) + 1))]) c_140_12 rfl rfl (n_iinc (L2 := [some (0, 2), some (0, 7), some (0, ((((((1 * 2) * 2) * 2) * 2) * 2) * 2)), some (0, ((((((0 + 1) + 1) + 1) + 1) + 1) + 1))]) c_140_13 rfl rfl rfl (n_goto c_140_16 (n_iload_n c_140_4 rfl (n_iload_n c_140_5 rfl ?_)))))))
              refine n_if2_ge c_140_6 (by omega) (by omega) ?_ ?_
              · intro h13
                exfalso; omega
              · intro h14
                refine n_iload_n c_140_9 rfl (n_iload_n c_140_10 rfl (n_imul c_140_11 rfl (n_istore_n (L2 := [some (0, 2), some (0, 7), some (0, (((((((1 * 2) * 2) * 2) * 2) * 2) * 2) * 2)), some (0, ((((((0 + 1) + 1) + 1) + 1) + 1) + 1))]) c_140_12 rfl rfl (n_iinc (L2 := [some (0, 2), some (0, 7), some (0, (((((((1 * 2) * 2) * 2) * 2) * 2) * 2) * 2)), some (0, (((((((0 + 1) + 1) + 1) + 1) + 1) + 1) + 1))]) c_140_13 rfl rfl rfl (n_goto c_140_16 (n_iload_n c_140_4 rfl (n_iload_n c_140_5 rfl ?_)))))))
                refine n_if2_ge c_140_6 (by omega) (by omega) ?_ ?_
                · intro h15
                  refine n_iload_n c_140_19 rfl ?_
                  exact n_rI c_140_20 rfl ⟨rfl, by omega, by decide⟩
                · intro h16
                  exfalso; omega

set_option maxHeartbeats 4000000 in
theorem mpowG8_2 {xs : List Int32} {e : Nat} {ac : Int} {M0 M : nM} (hS : Sf 2 ac M0 M)  : nW xs e 140 0 [some (0, 2), some (0, 8), none, none] [] M (nPI fun z M1 => M = M1 ∧ (256 ≤ z ∧ z ≤ 256) ∧ (z = pn 2 (8 : Int).toNat)) := by
  have hd : (2 : Int) = 2 ∨ (2 : Int) = 3 := by decide
  have hac := hS.2.2.2.2
  refine n_iconst c_140_0 (n_istore_n (L2 := [some (0, 2), some (0, 8), some (0, 1), none]) c_140_1 rfl rfl (n_iconst c_140_2 (n_istore_n (L2 := [some (0, 2), some (0, 8), some (0, 1), some (0, 0)]) c_140_3 rfl rfl (n_iload_n c_140_4 rfl (n_iload_n c_140_5 rfl ?_)))))
  refine n_if2_ge c_140_6 (by omega) (by omega) ?_ ?_
  · intro h1
    exfalso; omega
  · intro h2
    refine n_iload_n c_140_9 rfl (n_iload_n c_140_10 rfl (n_imul c_140_11 rfl (n_istore_n (L2 := [some (0, 2), some (0, 8), some (0, (1 * 2)), some (0, 0)]) c_140_12 rfl rfl (n_iinc (L2 := [some (0, 2), some (0, 8), some (0, (1 * 2)), some (0, (0 + 1))]) c_140_13 rfl rfl rfl (n_goto c_140_16 (n_iload_n c_140_4 rfl (n_iload_n c_140_5 rfl ?_)))))))
    refine n_if2_ge c_140_6 (by omega) (by omega) ?_ ?_
    · intro h3
      exfalso; omega
    · intro h4
      refine n_iload_n c_140_9 rfl (n_iload_n c_140_10 rfl (n_imul c_140_11 rfl (n_istore_n (L2 := [some (0, 2), some (0, 8), some (0, ((1 * 2) * 2)), some (0, (0 + 1))]) c_140_12 rfl rfl (n_iinc (L2 := [some (0, 2), some (0, 8), some (0, ((1 * 2) * 2)), some (0, ((0 + 1) + 1))]) c_140_13 rfl rfl rfl (n_goto c_140_16 (n_iload_n c_140_4 rfl (n_iload_n c_140_5 rfl ?_)))))))
      refine n_if2_ge c_140_6 (by omega) (by omega) ?_ ?_
      · intro h5
        exfalso; omega
      · intro h6
        refine n_iload_n c_140_9 rfl (n_iload_n c_140_10 rfl (n_imul c_140_11 rfl (n_istore_n (L2 := [some (0, 2), some (0, 8), some (0, (((1 * 2) * 2) * 2)), some (0, ((0 + 1) + 1))]) c_140_12 rfl rfl (n_iinc (L2 := [some (0, 2), some (0, 8), some (0, (((1 * 2) * 2) * 2)), some (0, (((0 + 1) + 1) + 1))]) c_140_13 rfl rfl rfl (n_goto c_140_16 (n_iload_n c_140_4 rfl (n_iload_n c_140_5 rfl ?_)))))))
        refine n_if2_ge c_140_6 (by omega) (by omega) ?_ ?_
        · intro h7
          exfalso; omega
        · intro h8
          refine n_iload_n c_140_9 rfl (n_iload_n c_140_10 rfl (n_imul c_140_11 rfl (n_istore_n (L2 := [some (0, 2), some (0, 8), some (0, ((((1 * 2) * 2) * 2) * 2)), some (0, (((0 + 1) + 1) + 1))]) c_140_12 rfl rfl (n_iinc (L2 := [some (0, 2), some (0, 8), some (0, ((((1 * 2) * 2) * 2) * 2)), some (0, ((((0 + 1) + 1) + 1) + 1))]) c_140_13 rfl rfl rfl (n_goto c_140_16 (n_iload_n c_140_4 rfl (n_iload_n c_140_5 rfl ?_)))))))
          refine n_if2_ge c_140_6 (by omega) (by omega) ?_ ?_
          · intro h9
            exfalso; omega
          · intro h10
            refine n_iload_n c_140_9 rfl (n_iload_n c_140_10 rfl (n_imul c_140_11 rfl (n_istore_n (L2 := [some (0, 2), some (0, 8), some (0, (((((1 * 2) * 2) * 2) * 2) * 2)), some (0, ((((0 + 1) + 1) + 1) + 1))]) c_140_12 rfl rfl (n_iinc (L2 := [some (0, 2), some (0, 8), some (0, (((((1 * 2) * 2) * 2) * 2) * 2)), some (0, (((((0 + 1) + 1) + 1) + 1) + 1))]) c_140_13 rfl rfl rfl (n_goto c_140_16 (n_iload_n c_140_4 rfl (n_iload_n c_140_5 rfl ?_)))))))
            refine n_if2_ge c_140_6 (by omega) (by omega) ?_ ?_
            · intro h11
              exfalso; omega
            · intro h12
              refine n_iload_n c_140_9 rfl (n_iload_n c_140_10 rfl (n_imul c_140_11 rfl (n_istore_n (L2 := [some (0, 2), some (0, 8), some (0, ((((((1 * 2) * 2) * 2) * 2) * 2) * 2)), some (0, (((((0 + 1) + 1) + 1) + 1) + 1))]) c_140_12 rfl rfl (n_iinc (L2 := [some (0, 2), some (0, 8), some (0, ((((((1 * 2) * 2) * 2) * 2) * 2) * 2)), some (0, ((((((0 + 1) + 1) + 1) + 1) + 1) + 1))]) c_140_13 rfl rfl rfl (n_goto c_140_16 (n_iload_n c_140_4 rfl (n_iload_n c_140_5 rfl ?_)))))))
              refine n_if2_ge c_140_6 (by omega) (by omega) ?_ ?_
              · intro h13
                exfalso; omega
              · intro h14
                refine n_iload_n c_140_9 rfl (n_iload_n c_140_10 rfl (n_imul c_140_11 rfl (n_istore_n (L2 := [some (0, 2), some (0, 8), some (0, (((((((1 * 2) * 2) * 2) * 2) * 2) * 2) * 2)), some (0, ((((((0 + 1) + 1) + 1) + 1) + 1) + 1))]) c_140_12 rfl rfl (n_iinc (L2 := [some (0, 2), some (0, 8), some (0, (((((((1 * 2) * 2) * 2) * 2) * 2) * 2) * 2)), some (0, (((((((0 + 1) + 1) + 1) + 1) + 1) + 1) + 1))]) c_140_13 rfl rfl rfl (n_goto c_140_16 (n_iload_n c_140_4 rfl (n_iload_n c_140_5 rfl ?_)))))))
                refine n_if2_ge c_140_6 (by omega) (by omega) ?_ ?_
                · intro h15
                  exfalso; omega
                · intro h16
                  refine n_iload_n c_140_9 rfl (n_iload_n c_140_10 rfl (n_imul c_140_11 rfl (n_istore_n (L2 := [some (0, 2), some (0, 8), some (0, ((((((((1 * 2) * 2) * 2) * 2) * 2) * 2) * 2) * 2)), some (0, (((((((0 + 1) + 1) + 1) + 1) + 1) + 1) + 1))]) c_140_12 rfl rfl (n_iinc (L2 := [some (0, 2), some (0, 8), some (0, ((((((((1 * 2) * 2) * 2) * 2) * 2) * 2) * 2) * 2)), some (0, ((((((((0 + 1) + 1) + 1) + 1) + 1) + 1) + 1) + 1))]) c_140_13 rfl rfl rfl (n_goto c_140_16 (n_iload_n c_140_4 rfl (n_iload_n c_140_5 rfl ?_)))))))
                  refine n_if2_ge c_140_6 (by omega) (by omega) ?_ ?_
                  · intro h17
                    refine n_iload_n c_140_19 rfl ?_
                    exact n_rI c_140_20 rfl ⟨rfl, by omega, by decide⟩
                  · intro h18
                    exfalso; omega

set_option maxHeartbeats 4000000 in
theorem mpowG_2 {xs : List Int32} {e : Nat} {ac : Int} {M0 M : nM} {n : Int} (hS : Sf 2 ac M0 M) (hn : 0 ≤ n ∧ n ≤ 8) : nW xs e 140 0 [some (0, 2), some (0, n), none, none] [] M (nPI fun z M1 => M = M1 ∧ (1 ≤ z ∧ z ≤ 256) ∧ (z = pn 2 n.toNat)) := by
  rcases (show n = 0 ∨ n = 1 ∨ n = 2 ∨ n = 3 ∨ n = 4 ∨ n = 5 ∨ n = 6 ∨ n = 7 ∨ n = 8 by omega) with rfl | rfl | rfl | rfl | rfl | rfl | rfl | rfl | rfl
  · exact n_post (mpowG0_2 hS ) (fun w M1 h => by obtain ⟨z, rfl, h1, h2, h3⟩ := h; exact ⟨z, rfl, h1, by omega, h3⟩)
  · exact n_post (mpowG1_2 hS ) (fun w M1 h => by obtain ⟨z, rfl, h1, h2, h3⟩ := h; exact ⟨z, rfl, h1, by omega, h3⟩)
  · exact n_post (mpowG2_2 hS ) (fun w M1 h => by obtain ⟨z, rfl, h1, h2, h3⟩ := h; exact ⟨z, rfl, h1, by omega, h3⟩)
  · exact n_post (mpowG3_2 hS ) (fun w M1 h => by obtain ⟨z, rfl, h1, h2, h3⟩ := h; exact ⟨z, rfl, h1, by omega, h3⟩)
  · exact n_post (mpowG4_2 hS ) (fun w M1 h => by obtain ⟨z, rfl, h1, h2, h3⟩ := h; exact ⟨z, rfl, h1, by omega, h3⟩)
  · exact n_post (mpowG5_2 hS ) (fun w M1 h => by obtain ⟨z, rfl, h1, h2, h3⟩ := h; exact ⟨z, rfl, h1, by omega, h3⟩)
  · exact n_post (mpowG6_2 hS ) (fun w M1 h => by obtain ⟨z, rfl, h1, h2, h3⟩ := h; exact ⟨z, rfl, h1, by omega, h3⟩)
  · exact n_post (mpowG7_2 hS ) (fun w M1 h => by obtain ⟨z, rfl, h1, h2, h3⟩ := h; exact ⟨z, rfl, h1, by omega, h3⟩)
  · exact n_post (mpowG8_2 hS ) (fun w M1 h => by obtain ⟨z, rfl, h1, h2, h3⟩ := h; exact ⟨z, rfl, h1, by omega, h3⟩)

set_option maxHeartbeats 4000000 in
theorem mdigitY_2 {xs : List Int32} {e : Nat} {ac : Int} {M0 M : nM} {r k j : Int} (hS : Sf 2 ac M0 M) (hdm : M0 112 0 = 2) (hr : 0 ≤ r ∧ r ≤ 255) (hk : 1 ≤ k ∧ k ≤ 8) (hj : 0 ≤ j ∧ j ≤ 7) (hkj : j < k) : nW xs (e + 1) 152 0 [some (2, 112), some (0, r), some (0, k), some (0, j)] [] M (nPI fun z M1 => M = M1 ∧ (0 ≤ z ∧ z ≤ 1) ∧ (z = dg 2 k r j)) := by
  have hd : (2 : Int) = 2 ∨ (2 : Int) = 3 := by decide
  have hac := hS.2.2.2.2
  refine n_iload_n c_152_0 rfl (n_aload_n c_152_1 rfl (n_getV (bi := 0) c_152_2 sc_112.n rfl rfl rfl (t_dm hS hdm) ?_))
  intro z1 ez1 f2
  obtain rfl : z1 = 2 := by omega
  refine n_iload_n c_152_5 rfl (n_iconst c_152_6 (n_isub c_152_7 rfl (n_iload_n c_152_8 rfl (n_isub c_152_9 rfl (n_s2I c_152_10 rfl rfl rfl rfl (mpowG_2 (n := ((k - 1) - j)) hS (by omega)) ?_)))))
  intro z3 M4 hP5
  obtain ⟨eM, f5, f5p0⟩ := hP5
  subst eM
  refine n_idivV c_152_13 (by omega) (by omega) ?_
  intro z6 ez6 f7
  refine n_aload_n c_152_14 rfl (n_getV (bi := 0) c_152_15 sc_112.n rfl rfl rfl (t_dm hS hdm) ?_)
  intro z8 ez8 f9
  obtain rfl : z8 = 2 := by omega
  refine n_iremV c_152_18 (by omega) (by omega) ?_
  intro z10 ez10 f11
  exact n_rI c_152_19 rfl ⟨rfl, by omega, by have q := f5p0; unfold dg; rw [← q]; subst_vars; rfl⟩

set_option maxHeartbeats 4000000 in
theorem misAnswerX_2_c {xs : List Int32} {e : Nat} {ac : Int} {M0 M : nM} {n : Int} (hS : Sf 2 ac M0 M) (hdm : M0 112 0 = 2) (hn : 0 ≤ n ∧ n ≤ 255) (hq1 : ∀ q : Int, 0 ≤ q → q < M 112 11 → 1 ≤ M 118 (M 120 q)) : ∀ nn : Nat, (∀ (x2 : Int), (0 ≤ x2 ∧ x2 ≤ 30) → (∀ q : Int, 0 ≤ q → q < x2 → mAq 2 M n q) → (x2 ≤ M 112 11) → (30 - x2) * 6 + 6 < (nn : Int) → nW xs (e + 2) 193 2 [some (2, 112), some (0, n), some (0, x2), none, none, none] [] M (nPI fun z M1 => M = M1 ∧ (0 ≤ z ∧ z ≤ 1) ∧ (z = bb (mANS 2 M n)))) ∧ (∀ (x2 x3 x4 x5 : Int), (0 ≤ x2 ∧ x2 ≤ 29) → (0 ≤ x3 ∧ x3 ≤ 11) → (0 ≤ x4 ∧ x4 ≤ 26) → (0 ≤ x5 ∧ x5 ≤ 3) → (∀ q : Int, 0 ≤ q → q < x2 → mAq 2 M n q) → (x3 = M 120 x2) → (x2 < M 112 11) → (PRW 2 (M 112 10) n (fun j => M 121 (3 * x2 + j)) x4 x5) → (x5 ≤ M 118 x3) → (30 - x2) * 6 + (3 - x5) * 1 + 1 < (nn : Int) → nW xs (e + 2) 193 23 [some (2, 112), some (0, n), some (0, x2), some (0, x3), some (0, x4), some (0, x5)] [] M (nPI fun z M1 => M = M1 ∧ (0 ≤ z ∧ z ≤ 1) ∧ (z = bb (mANS 2 M n)))) := by
  have hd : (2 : Int) = 2 ∨ (2 : Int) = 3 := by decide
  have hac := hS.2.2.2.2
  have t11 := t_112_11 hS
  intro nn
  induction nn with
  | zero => refine ⟨?_, ?_⟩ <;> (intros; omega)
  | succ nn ih =>
    refine ⟨?_, ?_⟩
    · intro x2 k2 v0 v1 hnn
      refine n_iload_n c_193_2 rfl (n_aload_n c_193_3 rfl (n_getV (bi := 11) c_193_4 sc_112.n rfl rfl rfl (t_112_11 hS) ?_))
      intro z1 ez1 f2
      refine n_if2_ge c_193_7 (by omega) (by omega) ?_ ?_
      · intro h3
        refine n_iconst c_193_94 ?_
        exact n_rZ c_193_95 rfl (by omega) ⟨rfl, by omega, by exact (bb_t (fun q q0 q1 => v0 q q0 (by omega))).symm⟩
      · intro h4
        refine n_aload_n c_193_10 rfl (n_getR c_193_11 sc_112.n rfl rfl rfl r_112_12 (n_iload_n c_193_14 rfl (n_ialoadV c_193_15 sc_120.n rfl rfl rfl (by omega) (t_120 hS (by omega)) ?_)))
        intro z5 ez5 f6
        have t118 := t_118 hS (i := z5) (by omega)
        refine n_istore_n (L2 := [some (2, 112), some (0, n), some (0, x2), some (0, z5), none, none]) c_193_16 rfl rfl (n_iconst c_193_17 (n_istore (L2 := [some (2, 112), some (0, n), some (0, x2), some (0, z5), some (0, 0), none]) c_193_18 rfl rfl (n_iconst c_193_20 (n_istore (L2 := [some (2, 112), some (0, n), some (0, x2), some (0, z5), some (0, 0), some (0, 0)]) c_193_21 rfl rfl (n_fg (le_s (le_s (le_s (le_s (le_s (le_s le_0)))))) ?_)))))
        exact ih.2 _ _ _ _ (by omega) (by omega) (by omega) (by omega) (by exact v0) (by first | omega | (subst_vars; rfl)) (by omega) (by exact Or.inl ⟨rfl, rfl⟩) (by omega) (by omega)
    · intro x2 x3 x4 x5 k2 k3 k4 k5 v0 v1 v2 v3 v4 hnn
      refine n_iload c_193_23 rfl (n_aload_n c_193_25 rfl (n_getR c_193_26 sc_112.n rfl rfl rfl r_112_8 (n_iload_n c_193_29 rfl (n_ialoadV c_193_30 sc_118.n rfl rfl rfl (by omega) (t_118 hS (by omega)) ?_))))
      intro z1 ez1 f2
      refine n_if2_ge c_193_31 (by omega) (by omega) ?_ ?_
      · intro h3
        refine n_aload_n c_193_70 rfl (n_getR c_193_71 sc_112.n rfl rfl rfl r_112_9 (n_iload_n c_193_74 rfl (n_laloadV c_193_75 sc_119.n rfl rfl rfl (by omega) (t_119 hS (by omega)) ?_)))
        intro z4 ez4 f5
        refine n_iload c_193_76 rfl (n_i_lshr c_193_78 rfl ?_)
        have f6 := n_lshr_r z4 x4
        generalize gz7 : (n_lshr z4 x4) = z7 at f6 ⊢
        refine n_lconst (n := 1) c_193_79 rfl (n_i_land c_193_80 rfl ?_)
        have f8 := n_land_r z7 1
        generalize gz9 : (n_land z7 1) = z9 at f8 ⊢
        have hb80 : z9 = z4 / 2 ^ (x4).toNat % 2 := by rw [← gz9, ← gz7]; exact lb_v (by omega) (by omega)
        have hk1 := hq1 x2 (by omega) (by omega)
        have tk := t_118 hS (i := M 120 x2) (by omega)
        have em : x4 = mrow 2 (M 112 10) n (M 118 (M 120 x2)) (fun j => M 121 (3 * x2 + j)) := PRW.mr v3 (by omega) (by rw [← v1]; omega)
        have ea : mAq 2 M n x2 ↔ z9 = 1 := by show bt (M 119 (M 120 x2)) _ ↔ _; rw [← em, ← v1, ← ez4]; unfold bt; rw [hb80]
        refine n_lconst (n := 0) c_193_81 rfl (n_lcmp c_193_82 ?_)
        refine n_lif_ne c_193_83 (by omega) (by omega) ?_ ?_
        · intro h10
          refine n_iinc (L2 := [some (2, 112), some (0, n), some (0, (x2 + 1)), some (0, x3), some (0, x4), some (0, x5)]) c_193_88 rfl rfl rfl (n_goto c_193_91 (n_fg (le_s (le_s (le_s (le_n (le_n (le_n le_0)))))) ?_))
          exact ih.1 _ (by omega) (by exact fun q q0 q1 => by by_cases y : q = x2; (rw [y]; exact ea.mpr (by omega)); exact v0 q q0 (by omega)) (by omega) (by omega)
        · intro h11
          refine n_iconst c_193_86 ?_
          exact n_rZ c_193_87 rfl (by omega) ⟨rfl, by omega, by exact (bb_f (fun u => by have y := ea.mp (u x2 (by omega) (by omega)); omega)).symm⟩
      · intro h12
        refine n_iload c_193_34 rfl (n_aload_n c_193_36 rfl (n_getV (bi := 0) c_193_37 sc_112.n rfl rfl rfl (t_dm hS hdm) ?_))
        intro z13 ez13 f14
        obtain rfl : z13 = 2 := by omega
        refine n_imul c_193_40 rfl (n_aload_n c_193_41 rfl (n_iload_n c_193_42 rfl (n_aload_n c_193_43 rfl (n_getV (bi := 10) c_193_44 sc_112.n rfl rfl rfl (t_112_10 hS) ?_))))
        intro z15 ez15 f16
        refine n_aload_n c_193_47 rfl (n_getR c_193_48 sc_112.n rfl rfl rfl r_112_13 (n_iconst c_193_51 (n_iload_n c_193_52 rfl (n_imul c_193_53 rfl (n_iload c_193_54 rfl (n_iadd c_193_56 rfl (n_ialoadV c_193_57 sc_121.n rfl rfl rfl (by omega) (t_121 hS (by omega)) ?_)))))))
        intro z17 ez17 f18
        have f19c := congrArg (M 118) v1
        have f19 := t_ask (q := x2) (j := x5) hS (by omega) (by omega) (by omega) (by omega)
        have f19u := t_112_10 hS
        refine n_v3I c_193_58 rfl sc_112.n rfl rfl rfl rfl (mdigitY_2 (r := n) (k := z15) (j := z17) hS hdm (by omega) (by omega) (by omega) (by omega)) ?_
        intro z20 M21 hP22
        obtain ⟨eM, f22, f22p0⟩ := hP22
        subst eM
        have pr := PRW.r (by decide) v3 (by have := t_118 hS (i := x3) (by omega); omega)
        refine n_iadd c_193_61 rfl (n_istore (L2 := [some (2, 112), some (0, n), some (0, x2), some (0, x3), some (0, ((x4 * 2) + z20)), some (0, x5)]) c_193_62 rfl rfl (n_iinc (L2 := [some (2, 112), some (0, n), some (0, x2), some (0, x3), some (0, ((x4 * 2) + z20)), some (0, (x5 + 1))]) c_193_64 rfl rfl rfl (n_goto c_193_67 (n_fg (le_s (le_s (le_s (le_s (le_s (le_s le_0)))))) ?_))))
        exact ih.2 _ _ _ _ (by omega) (by omega) (by omega) (by omega) (by exact v0) (by first | omega | (subst_vars; rfl)) (by omega) (by exact PRW.step v3 (by omega) (by have y := f22p0; rw [y, ez17, ez15])) (by omega) (by omega)
set_option maxHeartbeats 4000000 in
theorem misAnswerX_2 {xs : List Int32} {e : Nat} {ac : Int} {M0 M : nM} {n : Int} (hS : Sf 2 ac M0 M) (hdm : M0 112 0 = 2) (hn : 0 ≤ n ∧ n ≤ 255) (hq1 : ∀ q : Int, 0 ≤ q → q < M 112 11 → 1 ≤ M 118 (M 120 q)) : nW xs (e + 2) 193 0 [some (2, 112), some (0, n), none, none, none, none] [] M (nPI fun z M1 => M = M1 ∧ (0 ≤ z ∧ z ≤ 1) ∧ (z = bb (mANS 2 M n))) := by
  have hd : (2 : Int) = 2 ∨ (2 : Int) = 3 := by decide
  have hac := hS.2.2.2.2
  have t11 := t_112_11 hS
  refine n_iconst c_193_0 (n_istore_n (L2 := [some (2, 112), some (0, n), some (0, 0), none, none, none]) c_193_1 rfl rfl (n_fg (le_s (le_s (le_s (le_n (le_n (le_n le_0)))))) ?_))
  exact (misAnswerX_2_c hS hdm hn hq1 394).1 _ (by omega) (by exact fun q q0 q1 => by omega) (by omega) (by omega)

set_option maxHeartbeats 4000000 in
theorem manswersX_2_c {xs : List Int32} {e : Nat} {ac : Int} {M0 M : nM} (hS : Sf 2 ac M0 M) (hdm : M0 112 0 = 2) (hq1 : ∀ q : Int, 0 ≤ q → q < M 112 11 → 1 ≤ M 118 (M 120 q)) : ∀ nn : Nat, (∀ (x1 x2 : Int), (0 ≤ x1 ∧ x1 ≤ 256) → (0 ≤ x2 ∧ x2 ≤ 256) → (x1 = cf (fun m => bb (mANS 2 M m)) x2.toNat) → (x2 ≤ pn 2 (M 112 10).toNat) → (x1 ≤ x2) → (256 - x2) * 1 + 1 < (nn : Int) → nW xs (e + 3) 194 4 [some (2, 112), some (0, x1), some (0, x2)] [] M (nPI fun z M1 => M = M1 ∧ (-2147483648 ≤ z ∧ z ≤ 2147483647) ∧ (z = mNAn 2 M))) := by
  have hd : (2 : Int) = 2 ∨ (2 : Int) = 3 := by decide
  have hac := hS.2.2.2.2
  intro nn
  induction nn with
  | zero => intros; omega
  | succ nn ih =>
    intro x1 x2 k1 k2 v0 v1 v2 hnn
    refine n_iload_n c_194_4 rfl (n_aload_n c_194_5 rfl (n_getV (bi := 0) c_194_6 sc_112.n rfl rfl rfl (t_dm hS hdm) ?_))
    intro z1 ez1 f2
    obtain rfl : z1 = 2 := by omega
    refine n_aload_n c_194_9 rfl (n_getV (bi := 10) c_194_10 sc_112.n rfl rfl rfl (t_112_10 hS) ?_)
    intro z3 ez3 f4
    refine n_s2I c_194_13 rfl rfl rfl rfl (mpowG_2 (n := z3) hS (by omega)) ?_
    intro z5 M6 hP7
    obtain ⟨eM, f7, f7p0⟩ := hP7
    subst eM
    refine n_if2_ge c_194_16 (by omega) (by omega) ?_ ?_
    · intro h8
      refine n_iload_n c_194_41 rfl ?_
      exact n_rI c_194_42 rfl ⟨rfl, by omega, by have y := f7p0; rw [ez3] at y; have e2 : x2 = pn 2 (M 112 10).toNat := (by omega); unfold mNAn; rw [← e2]; exact v0⟩
    · intro h9
      refine n_iload_n c_194_19 rfl (n_aload_n c_194_20 rfl (n_iload_n c_194_21 rfl (n_v1I c_194_22 rfl sc_112.n rfl rfl rfl rfl (misAnswerX_2 (n := x2) hS hdm (by omega) (by exact hq1)) ?_)))
      intro z10 M11 hP12
      obtain ⟨eM, f12, f12p0⟩ := hP12
      subst eM
      refine n_if0_eq c_194_25 (by omega) ?_ ?_
      · intro h13
        refine n_iconst c_194_32 (n_iadd c_194_33 rfl (n_istore_n (L2 := [some (2, 112), some (0, (x1 + 0)), some (0, x2)]) c_194_34 rfl rfl (n_iinc (L2 := [some (2, 112), some (0, (x1 + 0)), some (0, (x2 + 1))]) c_194_35 rfl rfl rfl (n_goto c_194_38 (n_fg (le_s (le_s (le_s le_0))) ?_)))))
        exact ih _ _ (by omega) (by omega) (by rw [cf_step (by omega), ← v0]; have y := f12p0; show _ = x1 + bb (mANS 2 M x2); omega) (by have y := f7p0; rw [ez3] at y; omega) (by omega) (by omega)
      · intro h14
        refine n_iconst c_194_28 (n_goto c_194_29 (n_iadd c_194_33 rfl (n_istore_n (L2 := [some (2, 112), some (0, (x1 + 1)), some (0, x2)]) c_194_34 rfl rfl (n_iinc (L2 := [some (2, 112), some (0, (x1 + 1)), some (0, (x2 + 1))]) c_194_35 rfl rfl rfl (n_goto c_194_38 (n_fg (le_s (le_s (le_s le_0))) ?_))))))
        exact ih _ _ (by omega) (by omega) (by rw [cf_step (by omega), ← v0]; have y := f12p0; show _ = x1 + bb (mANS 2 M x2); omega) (by have y := f7p0; rw [ez3] at y; omega) (by omega) (by omega)
set_option maxHeartbeats 4000000 in
theorem manswersX_2 {xs : List Int32} {e : Nat} {ac : Int} {M0 M : nM} (hS : Sf 2 ac M0 M) (hdm : M0 112 0 = 2) (hq1 : ∀ q : Int, 0 ≤ q → q < M 112 11 → 1 ≤ M 118 (M 120 q)) : nW xs (e + 3) 194 0 [some (2, 112), none, none] [] M (nPI fun z M1 => M = M1 ∧ (-2147483648 ≤ z ∧ z ≤ 2147483647) ∧ (z = mNAn 2 M)) := by
  have hd : (2 : Int) = 2 ∨ (2 : Int) = 3 := by decide
  have hac := hS.2.2.2.2
  refine n_iconst c_194_0 (n_istore_n (L2 := [some (2, 112), some (0, 0), none]) c_194_1 rfl rfl (n_iconst c_194_2 (n_istore_n (L2 := [some (2, 112), some (0, 0), some (0, 0)]) c_194_3 rfl rfl (n_fg (le_s (le_s (le_s le_0))) ?_))))
  exact (manswersX_2_c hS hdm hq1 526) _ _ (by omega) (by omega) (by rfl) (by have y := pn_pos (d := 2) (by decide) (M 112 10).toNat; omega) (by omega) (by omega)

set_option maxHeartbeats 4000000 in
theorem manswerX_2_c {xs : List Int32} {e : Nat} {ac : Int} {M0 M : nM} {i : Int} (hS : Sf 2 ac M0 M) (hdm : M0 112 0 = 2) (hi : -2147483648 ≤ i ∧ i ≤ 2147483647) (hq1 : ∀ q : Int, 0 ≤ q → q < M 112 11 → 1 ≤ M 118 (M 120 q)) : ∀ nn : Nat, (∀ (x2 x3 : Int), (-2147483648 ≤ x2 ∧ x2 ≤ 2147483647) → (0 ≤ x3 ∧ x3 ≤ 256) → (x2 + cf (fun m => bb (mANS 2 M m)) x3.toNat = i) → (x3 ≤ pn 2 (M 112 10).toNat) → (0 ≤ i → 0 ≤ x2) → (i < 0 → x2 = i ∧ x3 = 0) → (256 - x3) * 1 + 1 < (nn : Int) → nW xs (e + 3) 195 4 [some (2, 112), none, some (0, x2), some (0, x3)] [] M (nPI fun z M1 => M = M1 ∧ (-2147483648 ≤ z ∧ z ≤ 2147483647) ∧ (mAth 2 i z M))) := by
  have hd : (2 : Int) = 2 ∨ (2 : Int) = 3 := by decide
  have hac := hS.2.2.2.2
  have pp := pn_pos (d := 2) (by decide) (M 112 10).toNat
  intro nn
  induction nn with
  | zero => intros; omega
  | succ nn ih =>
    intro x2 x3 k2 k3 v0 v1 v2 v3 hnn
    refine n_iload_n c_195_4 rfl (n_aload_n c_195_5 rfl (n_getV (bi := 0) c_195_6 sc_112.n rfl rfl rfl (t_dm hS hdm) ?_))
    intro z1 ez1 f2
    obtain rfl : z1 = 2 := by omega
    refine n_aload_n c_195_9 rfl (n_getV (bi := 10) c_195_10 sc_112.n rfl rfl rfl (t_112_10 hS) ?_)
    intro z3 ez3 f4
    refine n_s2I c_195_13 rfl rfl rfl rfl (mpowG_2 (n := z3) hS (by omega)) ?_
    intro z5 M6 hP7
    obtain ⟨eM, f7, f7p0⟩ := hP7
    subst eM
    refine n_if2_ge c_195_16 (by omega) (by omega) ?_ ?_
    · intro h8
      refine n_iconst c_195_46 ?_
      exact n_rI c_195_47 rfl ⟨rfl, by omega, by have y := f7p0; rw [ez3] at y; exact Or.inl ⟨rfl, by by_cases u : i < 0; exact Or.inl u; exact Or.inr (by unfold mNAn; rw [show (pn 2 (M 112 10).toNat).toNat = x3.toNat by omega]; omega)⟩⟩
    · intro h9
      refine n_iload_n c_195_19 rfl ?_
      refine n_if0_lt c_195_20 (by omega) ?_ ?_
      · intro h10
        refine n_iconst c_195_46 ?_
        exact n_rI c_195_47 rfl ⟨rfl, by omega, by have y := f7p0; rw [ez3] at y; exact Or.inl ⟨rfl, by by_cases u : i < 0; exact Or.inl u; exact Or.inr (by unfold mNAn; rw [show (pn 2 (M 112 10).toNat).toNat = x3.toNat by omega]; omega)⟩⟩
      · intro h11
        refine n_aload_n c_195_23 rfl (n_iload_n c_195_24 rfl (n_v1I c_195_25 rfl sc_112.n rfl rfl rfl rfl (misAnswerX_2 (n := x3) hS hdm (by omega) (by exact hq1)) ?_))
        intro z12 M13 hP14
        obtain ⟨eM, f14, f14p0⟩ := hP14
        subst eM
        refine n_if0_eq c_195_28 (by omega) ?_ ?_
        · intro h15
          refine n_iinc (L2 := [some (2, 112), none, some (0, x2), some (0, (x3 + 1))]) c_195_40 rfl rfl rfl (n_goto c_195_43 (n_fg (le_s (le_n (le_s (le_s le_0)))) ?_))
          exact ih _ _ (by omega) (by omega) (by have y2 := f14p0; rw [cf_step (by omega)]; show _ + (cf (fun m => bb (mANS 2 M m)) x3.toNat + bb (mANS 2 M x3)) = i; omega) (by have y := f7p0; rw [ez3] at y; omega) (by omega) (by omega) (by omega)
        · intro h16
          refine n_iload_n c_195_31 rfl ?_
          refine n_if0_ne c_195_32 (by omega) ?_ ?_
          · intro h17
            refine n_iinc (L2 := [some (2, 112), none, some (0, (x2 + (-1))), some (0, x3)]) c_195_37 rfl rfl rfl (n_iinc (L2 := [some (2, 112), none, some (0, (x2 + (-1))), some (0, (x3 + 1))]) c_195_40 rfl rfl rfl (n_goto c_195_43 (n_fg (le_s (le_n (le_s (le_s le_0)))) ?_)))
            exact ih _ _ (by omega) (by omega) (by have y2 := f14p0; rw [cf_step (by omega)]; show _ + (cf (fun m => bb (mANS 2 M m)) x3.toNat + bb (mANS 2 M x3)) = i; omega) (by have y := f7p0; rw [ez3] at y; omega) (by omega) (by omega) (by omega)
          · intro h18
            refine n_iload_n c_195_35 rfl ?_
            exact n_rI c_195_36 rfl ⟨rfl, by omega, by have y := f7p0; rw [ez3] at y; have y2 := f14p0; exact Or.inr ⟨by omega, by omega, bb_n (by omega), by show cf (fun m => bb (mANS 2 M m)) x3.toNat = i; omega⟩⟩
set_option maxHeartbeats 4000000 in
theorem manswerX_2 {xs : List Int32} {e : Nat} {ac : Int} {M0 M : nM} {i : Int} (hS : Sf 2 ac M0 M) (hdm : M0 112 0 = 2) (hi : -2147483648 ≤ i ∧ i ≤ 2147483647) (hq1 : ∀ q : Int, 0 ≤ q → q < M 112 11 → 1 ≤ M 118 (M 120 q)) : nW xs (e + 3) 195 0 [some (2, 112), some (0, i), none, none] [] M (nPI fun z M1 => M = M1 ∧ (-2147483648 ≤ z ∧ z ≤ 2147483647) ∧ (mAth 2 i z M)) := by
  have hd : (2 : Int) = 2 ∨ (2 : Int) = 3 := by decide
  have hac := hS.2.2.2.2
  have pp := pn_pos (d := 2) (by decide) (M 112 10).toNat
  refine n_iload_n c_195_0 rfl (n_istore_n (L2 := [some (2, 112), some (0, i), some (0, i), none]) c_195_1 rfl rfl (n_iconst c_195_2 (n_istore_n (L2 := [some (2, 112), some (0, i), some (0, i), some (0, 0)]) c_195_3 rfl rfl (n_fg (le_s (le_n (le_s (le_s le_0)))) ?_))))
  exact (manswerX_2_c hS hdm hi hq1 526) _ _ (by omega) (by omega) (by show i + 0 = i; omega) (by omega) (by omega) (by omega) (by omega)

set_option maxHeartbeats 4000000 in
theorem riddleY_2 {xs : List Int32} {e : Nat} {ac : Int} {M : nM} {u gd : Int} (hS : Sf 2 ac M M) (hu : -2147483648 ≤ u ∧ u ≤ 2147483647) (hgd : M 112 0 = gd) : nW xs (e + 1) 115 0 [some (2, 3), some (0, u)] [] M (nPI fun z M1 => Sf 2 ac M1 M1 ∧ (0 ≤ z ∧ z ≤ 1) ∧ (M1 112 0 = gd) ∧ (cRid u z M M1) ∧ (cS0 z M1)) := by
  have hd : (2 : Int) = 2 ∨ (2 : Int) = 3 := by decide
  have hac := hS.2.2.2.2
  refine n_iload_n c_115_0 rfl (n_iconst c_115_1 ?_)
  refine n_if2_lt c_115_2 (by omega) (by omega) ?_ ?_
  · intro h1
    refine n_iconst c_115_11 ?_
    exact n_rZ c_115_12 rfl (by omega) ⟨hS, by omega, by omega, by exact Or.inl ⟨by omega, rfl, fun _ _ _ => rfl⟩, by exact fun u => by omega⟩
  · intro h2
    refine n_iload_n c_115_5 rfl (n_bipush c_115_6 rfl ?_)
    refine n_if2_le c_115_8 (by omega) (by omega) ?_ ?_
    · intro h3
      refine n_aload_n c_115_13 rfl (n_getR c_115_14 sc_3.n rfl rfl rfl r_3_6 (n_iload_n c_115_17 rfl (n_v1V c_115_18 rfl sc_32.n rfl rfl rfl rfl (rstartX_2 (u := u) (gd := (M 112 0)) hS (by omega) rfl) ?_)))
      intro  M4 hP5
      obtain ⟨hS4, f5g0, f5p0⟩ := hP5
      refine n_aload_n c_115_21 rfl (n_iconst c_115_22 (n_putZM (bi := 18) hS4 c_115_23 sc_3.n rfl rfl rfl (by omega) rfl (m_3_18 (by omega)) ?_))
      intro M6 eM6 hS6
      have g6_0 : M6 112 0 = M4 112 0 := by rw [eM6]; exact nu_a (by omega)
      have g6_1 : M6 3 18 = 0 := by rw [eM6]; exact nu_s _ _ _ _
      refine n_iconst c_115_26 ?_
      exact n_rZ c_115_27 rfl (by omega) ⟨hS6, by omega, by omega, by exact Or.inr ⟨by omega, by omega, rfl, by rw [eM6, nu_a (by omega)]; exact f5p0.1, by rw [eM6, nu_a (by omega)]; exact f5p0.2.1, fun a i hc q => by rw [eM6, nu_e, if_neg (by unfold core at hc; omega)]; exact f5p0.2.2 a i q⟩, by exact fun _ => by rw [eM6, nu_s]⟩
    · intro h7
      refine n_iconst c_115_11 ?_
      exact n_rZ c_115_12 rfl (by omega) ⟨hS, by omega, by omega, by exact Or.inl ⟨by omega, rfl, fun _ _ _ => rfl⟩, by exact fun u => by omega⟩

set_option maxHeartbeats 4000000 in
theorem askZ_2 {xs : List Int32} {e : Nat} {ac : Int} {M : nM} {l x y w gd : Int} (hS : Sf 2 ac M M) (hl : -2147483648 ≤ l ∧ l ≤ 2147483647) (hx : -2147483648 ≤ x ∧ x ≤ 2147483647) (hy : -2147483648 ≤ y ∧ y ≤ 2147483647) (hw : -2147483648 ≤ w ∧ w ≤ 2147483647) (hgd : M 112 0 = gd) : nW xs (e + 1) 116 0 [some (2, 3), some (0, l), some (0, x), some (0, y), some (0, w), none, none, none] [] M (nPI fun z M1 => Sf 2 ac M1 M1 ∧ (-2147483648 ≤ z ∧ z ≤ 2147483647) ∧ (M1 112 0 = gd) ∧ (cAsk l x y w z M M1) ∧ (cAskR l x y w z M M1) ∧ (cS1 z M1)) := by
  have hd : (2 : Int) = 2 ∨ (2 : Int) = 3 := by decide
  have hac := hS.2.2.2.2
  refine n_aload_n c_116_0 rfl (n_iload_n c_116_1 rfl (n_v1I c_116_2 rfl sc_3.n rfl rfl rfl rfl (isLawF_2 (l := l) hS (by omega)) ?_))
  intro z1 M2 hP3
  obtain ⟨eM, f3, f3p0⟩ := hP3
  subst eM
  refine n_if0_ne c_116_5 (by omega) ?_ ?_
  · intro h4
    refine n_aload_n c_116_11 rfl (n_getR c_116_12 sc_3.n rfl rfl rfl r_3_3 (n_iload_n c_116_15 rfl (n_aaload c_116_16 sc_13.n rfl rfl rfl (by omega) (r_laws _) ?_)))
    have q5 : LawAt (79 + 2 * l) := by unfold LawAt; omega
    refine n_getV (bi := 0) c_116_17 q5.c0.1.n rfl rfl rfl (t_law hS q5).1 ?_
    intro z6 ez6 f7
    refine n_istore (L2 := [some (2, 3), some (0, l), some (0, x), some (0, y), some (0, w), some (0, z6), none, none]) c_116_20 rfl rfl (n_iload c_116_22 rfl (n_iconst c_116_24 ?_))
    refine n_if2_le c_116_25 (by omega) (by omega) ?_ ?_
    · intro h8
      refine n_iload_n c_116_32 rfl (n_istore (L2 := [some (2, 3), some (0, l), some (0, x), some (0, y), some (0, w), some (0, z6), some (0, x), none]) c_116_33 rfl rfl (n_iload c_116_35 rfl (n_iconst c_116_37 ?_)))
      refine n_if2_le c_116_38 (by omega) (by omega) ?_ ?_
      · intro h9
        refine n_iload c_116_46 rfl (n_istore (L2 := [some (2, 3), some (0, l), some (0, x), some (0, y), some (0, w), some (0, z6), some (0, x), some (0, x)]) c_116_48 rfl rfl (n_aload_n c_116_50 rfl (n_getR c_116_51 sc_3.n rfl rfl rfl r_3_6 (n_iload_n c_116_54 rfl (n_v1I c_116_55 rfl sc_32.n rfl rfl rfl rfl (isUnknownF_2 (u := x) hS (by omega)) ?_)))))
        intro z10 M11 hP12
        obtain ⟨eM, f12, f12p0⟩ := hP12
        subst eM
        refine n_if0_eq c_116_58 (by omega) ?_ ?_
        · intro h13
          refine n_bipush c_116_85 rfl ?_
          exact n_rI c_116_87 rfl ⟨hS, by omega, by omega, by exact Or.inl ⟨Or.inr (Or.inr (fun q => by obtain ⟨⟨q1, q2⟩, q3, q4⟩ := q; have q3 : 1 < M (79 + 2 * l) 0 → (0 ≤ y ∧ y < M 32 0) := q3; have q4 : 2 < M (79 + 2 * l) 0 → (0 ≤ w ∧ w < M 32 0) := q4; omega)), rfl, fun _ _ _ => rfl⟩, by exact fun u => by omega, by exact fun u => by omega⟩
        · intro h14
          refine n_aload_n c_116_61 rfl (n_getR c_116_62 sc_3.n rfl rfl rfl r_3_6 (n_iload c_116_65 rfl (n_v1I c_116_67 rfl sc_32.n rfl rfl rfl rfl (isUnknownF_2 (u := x) hS (by omega)) ?_)))
          intro z15 M16 hP17
          obtain ⟨eM, f17, f17p0⟩ := hP17
          subst eM
          refine n_if0_eq c_116_70 (by omega) ?_ ?_
          · intro h18
            refine n_bipush c_116_85 rfl ?_
            exact n_rI c_116_87 rfl ⟨hS, by omega, by omega, by exact Or.inl ⟨Or.inr (Or.inr (fun q => by obtain ⟨⟨q1, q2⟩, q3, q4⟩ := q; have q3 : 1 < M (79 + 2 * l) 0 → (0 ≤ y ∧ y < M 32 0) := q3; have q4 : 2 < M (79 + 2 * l) 0 → (0 ≤ w ∧ w < M 32 0) := q4; omega)), rfl, fun _ _ _ => rfl⟩, by exact fun u => by omega, by exact fun u => by omega⟩
          · intro h19
            refine n_aload_n c_116_73 rfl (n_getR c_116_74 sc_3.n rfl rfl rfl r_3_6 (n_iload c_116_77 rfl (n_v1I c_116_79 rfl sc_32.n rfl rfl rfl rfl (isUnknownF_2 (u := x) hS (by omega)) ?_)))
            intro z20 M21 hP22
            obtain ⟨eM, f22, f22p0⟩ := hP22
            subst eM
            refine n_if0_ne c_116_82 (by omega) ?_ ?_
            · intro h23
              refine n_aload_n c_116_88 rfl (n_getR c_116_89 sc_3.n rfl rfl rfl r_3_6 (n_getV (bi := 1) c_116_92 sc_32.n rfl rfl rfl (t_32_1 hS) ?_))
              intro z24 ez24 f25
              refine n_bipush c_116_95 rfl ?_
              refine n_if2_lt c_116_97 (by omega) (by omega) ?_ ?_
              · intro h26
                refine n_aload_n c_116_103 rfl (n_iconst c_116_104 (n_putZM (bi := 18) hS c_116_105 sc_3.n rfl rfl rfl (by omega) rfl (m_3_18 (by omega)) ?_))
                intro M27 eM27 hS27
                have g27_0 : M27 112 0 = M 112 0 := by rw [eM27]; exact nu_a (by omega)
                have g27_1 : M27 32 1 = M 32 1 := by rw [eM27]; exact nu_a (by omega)
                have g27_2 : M27 3 18 = 0 := by rw [eM27]; exact nu_s _ _ _ _
                refine n_aload_n c_116_108 rfl (n_getR c_116_109 sc_3.n rfl rfl rfl r_3_6 (n_iload_n c_116_112 rfl (n_iload_n c_116_113 rfl (n_iload c_116_114 rfl (n_iload c_116_116 rfl (n_v4I c_116_118 rfl sc_32.n rfl rfl rfl rfl (raddY_2 (l := l) (x := x) (y := x) (w := x) (gd := (M27 112 0)) hS27 (by omega) (by omega) (by omega) (by omega) rfl (by omega)) ?_))))))
                intro z28 M29 hP30
                obtain ⟨hS29, f30, f30g0, f30p0, f30p1, f30p2⟩ := hP30
                exact n_rI c_116_121 rfl ⟨hS29, by omega, by omega, by have ec : ∀ a i : Int, core a i → ¬ (a = 3 ∧ i = 18) → M27 a i = M a i := fun a i hc h18 => (by rw [eM27, nu_e, if_neg (by omega)]); have e1 := ec 32 1 (by unfold core; omega) (by omega); obtain ⟨u1, u2, u3⟩ := f30p0; exact Or.inr (Or.inr ⟨by omega, by omega, ⟨⟨by omega, by omega⟩, fun h => ⟨by omega, by omega⟩, fun h => ⟨by omega, by omega⟩⟩, by omega, by omega, by omega, fun a i hc w1 w2 => by rw [u3 a i hc w1 (by omega), ec a i hc (by unfold core at hc; omega)]⟩), by intro _; have e1 : M27 32 1 = M 32 1 := (by rw [eM27, nu_a (by omega)]); obtain ⟨k1, k2, k3⟩ := f30p0; obtain ⟨u1, u2, u3, u4⟩ := f30p1; rw [e1] at k1 u1 u2 u3 u4; subst k1; exact ⟨u1, u2, by rw [u3]; split <;> omega, by rw [u4]; repeat (first | omega | split)⟩, by exact fun _ => by have y := f30p2 3 18 (by omega); rw [y, eM27, nu_s]⟩
              · intro h31
                refine n_bipush c_116_100 rfl ?_
                exact n_rI c_116_102 rfl ⟨hS, by omega, by omega, by exact Or.inr (Or.inl ⟨by omega, by omega, ⟨⟨by omega, by omega⟩, fun h => ⟨by omega, by omega⟩, fun h => ⟨by omega, by omega⟩⟩, by omega, rfl, fun _ _ _ => rfl⟩), by exact fun u => by omega, by exact fun u => by omega⟩
            · intro h32
              refine n_bipush c_116_85 rfl ?_
              exact n_rI c_116_87 rfl ⟨hS, by omega, by omega, by exact Or.inl ⟨Or.inr (Or.inr (fun q => by obtain ⟨⟨q1, q2⟩, q3, q4⟩ := q; have q3 : 1 < M (79 + 2 * l) 0 → (0 ≤ y ∧ y < M 32 0) := q3; have q4 : 2 < M (79 + 2 * l) 0 → (0 ≤ w ∧ w < M 32 0) := q4; omega)), rfl, fun _ _ _ => rfl⟩, by exact fun u => by omega, by exact fun u => by omega⟩
      · intro h33
        exfalso; omega
    · intro h34
      refine n_iload_n c_116_28 rfl (n_goto c_116_29 (n_istore (L2 := [some (2, 3), some (0, l), some (0, x), some (0, y), some (0, w), some (0, z6), some (0, y), none]) c_116_33 rfl rfl (n_iload c_116_35 rfl (n_iconst c_116_37 ?_))))
      refine n_if2_le c_116_38 (by omega) (by omega) ?_ ?_
      · intro h35
        refine n_iload c_116_46 rfl (n_istore (L2 := [some (2, 3), some (0, l), some (0, x), some (0, y), some (0, w), some (0, z6), some (0, y), some (0, y)]) c_116_48 rfl rfl (n_aload_n c_116_50 rfl (n_getR c_116_51 sc_3.n rfl rfl rfl r_3_6 (n_iload_n c_116_54 rfl (n_v1I c_116_55 rfl sc_32.n rfl rfl rfl rfl (isUnknownF_2 (u := x) hS (by omega)) ?_)))))
        intro z36 M37 hP38
        obtain ⟨eM, f38, f38p0⟩ := hP38
        subst eM
        refine n_if0_eq c_116_58 (by omega) ?_ ?_
        · intro h39
          refine n_bipush c_116_85 rfl ?_
          exact n_rI c_116_87 rfl ⟨hS, by omega, by omega, by exact Or.inl ⟨Or.inr (Or.inr (fun q => by obtain ⟨⟨q1, q2⟩, q3, q4⟩ := q; have q3 : 1 < M (79 + 2 * l) 0 → (0 ≤ y ∧ y < M 32 0) := q3; have q4 : 2 < M (79 + 2 * l) 0 → (0 ≤ w ∧ w < M 32 0) := q4; omega)), rfl, fun _ _ _ => rfl⟩, by exact fun u => by omega, by exact fun u => by omega⟩
        · intro h40
          refine n_aload_n c_116_61 rfl (n_getR c_116_62 sc_3.n rfl rfl rfl r_3_6 (n_iload c_116_65 rfl (n_v1I c_116_67 rfl sc_32.n rfl rfl rfl rfl (isUnknownF_2 (u := y) hS (by omega)) ?_)))
          intro z41 M42 hP43
          obtain ⟨eM, f43, f43p0⟩ := hP43
          subst eM
          refine n_if0_eq c_116_70 (by omega) ?_ ?_
          · intro h44
            refine n_bipush c_116_85 rfl ?_
            exact n_rI c_116_87 rfl ⟨hS, by omega, by omega, by exact Or.inl ⟨Or.inr (Or.inr (fun q => by obtain ⟨⟨q1, q2⟩, q3, q4⟩ := q; have q3 : 1 < M (79 + 2 * l) 0 → (0 ≤ y ∧ y < M 32 0) := q3; have q4 : 2 < M (79 + 2 * l) 0 → (0 ≤ w ∧ w < M 32 0) := q4; omega)), rfl, fun _ _ _ => rfl⟩, by exact fun u => by omega, by exact fun u => by omega⟩
          · intro h45
            refine n_aload_n c_116_73 rfl (n_getR c_116_74 sc_3.n rfl rfl rfl r_3_6 (n_iload c_116_77 rfl (n_v1I c_116_79 rfl sc_32.n rfl rfl rfl rfl (isUnknownF_2 (u := y) hS (by omega)) ?_)))
            intro z46 M47 hP48
            obtain ⟨eM, f48, f48p0⟩ := hP48
            subst eM
            refine n_if0_ne c_116_82 (by omega) ?_ ?_
            · intro h49
              refine n_aload_n c_116_88 rfl (n_getR c_116_89 sc_3.n rfl rfl rfl r_3_6 (n_getV (bi := 1) c_116_92 sc_32.n rfl rfl rfl (t_32_1 hS) ?_))
              intro z50 ez50 f51
              refine n_bipush c_116_95 rfl ?_
              refine n_if2_lt c_116_97 (by omega) (by omega) ?_ ?_
              · intro h52
                refine n_aload_n c_116_103 rfl (n_iconst c_116_104 (n_putZM (bi := 18) hS c_116_105 sc_3.n rfl rfl rfl (by omega) rfl (m_3_18 (by omega)) ?_))
                intro M53 eM53 hS53
                have g53_0 : M53 112 0 = M 112 0 := by rw [eM53]; exact nu_a (by omega)
                have g53_1 : M53 32 1 = M 32 1 := by rw [eM53]; exact nu_a (by omega)
                have g53_2 : M53 3 18 = 0 := by rw [eM53]; exact nu_s _ _ _ _
                refine n_aload_n c_116_108 rfl (n_getR c_116_109 sc_3.n rfl rfl rfl r_3_6 (n_iload_n c_116_112 rfl (n_iload_n c_116_113 rfl (n_iload c_116_114 rfl (n_iload c_116_116 rfl (n_v4I c_116_118 rfl sc_32.n rfl rfl rfl rfl (raddY_2 (l := l) (x := x) (y := y) (w := y) (gd := (M53 112 0)) hS53 (by omega) (by omega) (by omega) (by omega) rfl (by omega)) ?_))))))
                intro z54 M55 hP56
                obtain ⟨hS55, f56, f56g0, f56p0, f56p1, f56p2⟩ := hP56
                exact n_rI c_116_121 rfl ⟨hS55, by omega, by omega, by have ec : ∀ a i : Int, core a i → ¬ (a = 3 ∧ i = 18) → M53 a i = M a i := fun a i hc h18 => (by rw [eM53, nu_e, if_neg (by omega)]); have e1 := ec 32 1 (by unfold core; omega) (by omega); obtain ⟨u1, u2, u3⟩ := f56p0; exact Or.inr (Or.inr ⟨by omega, by omega, ⟨⟨by omega, by omega⟩, fun h => ⟨by omega, by omega⟩, fun h => ⟨by omega, by omega⟩⟩, by omega, by omega, by omega, fun a i hc w1 w2 => by rw [u3 a i hc w1 (by omega), ec a i hc (by unfold core at hc; omega)]⟩), by intro _; have e1 : M53 32 1 = M 32 1 := (by rw [eM53, nu_a (by omega)]); obtain ⟨k1, k2, k3⟩ := f56p0; obtain ⟨u1, u2, u3, u4⟩ := f56p1; rw [e1] at k1 u1 u2 u3 u4; subst k1; exact ⟨u1, u2, by rw [u3]; split <;> omega, by rw [u4]; repeat (first | omega | split)⟩, by exact fun _ => by have y := f56p2 3 18 (by omega); rw [y, eM53, nu_s]⟩
              · intro h57
                refine n_bipush c_116_100 rfl ?_
                exact n_rI c_116_102 rfl ⟨hS, by omega, by omega, by exact Or.inr (Or.inl ⟨by omega, by omega, ⟨⟨by omega, by omega⟩, fun h => ⟨by omega, by omega⟩, fun h => ⟨by omega, by omega⟩⟩, by omega, rfl, fun _ _ _ => rfl⟩), by exact fun u => by omega, by exact fun u => by omega⟩
            · intro h58
              refine n_bipush c_116_85 rfl ?_
              exact n_rI c_116_87 rfl ⟨hS, by omega, by omega, by exact Or.inl ⟨Or.inr (Or.inr (fun q => by obtain ⟨⟨q1, q2⟩, q3, q4⟩ := q; have q3 : 1 < M (79 + 2 * l) 0 → (0 ≤ y ∧ y < M 32 0) := q3; have q4 : 2 < M (79 + 2 * l) 0 → (0 ≤ w ∧ w < M 32 0) := q4; omega)), rfl, fun _ _ _ => rfl⟩, by exact fun u => by omega, by exact fun u => by omega⟩
      · intro h59
        refine n_iload c_116_41 rfl (n_goto c_116_43 (n_istore (L2 := [some (2, 3), some (0, l), some (0, x), some (0, y), some (0, w), some (0, z6), some (0, y), some (0, w)]) c_116_48 rfl rfl (n_aload_n c_116_50 rfl (n_getR c_116_51 sc_3.n rfl rfl rfl r_3_6 (n_iload_n c_116_54 rfl (n_v1I c_116_55 rfl sc_32.n rfl rfl rfl rfl (isUnknownF_2 (u := x) hS (by omega)) ?_))))))
        intro z60 M61 hP62
        obtain ⟨eM, f62, f62p0⟩ := hP62
        subst eM
        refine n_if0_eq c_116_58 (by omega) ?_ ?_
        · intro h63
          refine n_bipush c_116_85 rfl ?_
          exact n_rI c_116_87 rfl ⟨hS, by omega, by omega, by exact Or.inl ⟨Or.inr (Or.inr (fun q => by obtain ⟨⟨q1, q2⟩, q3, q4⟩ := q; have q3 : 1 < M (79 + 2 * l) 0 → (0 ≤ y ∧ y < M 32 0) := q3; have q4 : 2 < M (79 + 2 * l) 0 → (0 ≤ w ∧ w < M 32 0) := q4; omega)), rfl, fun _ _ _ => rfl⟩, by exact fun u => by omega, by exact fun u => by omega⟩
        · intro h64
          refine n_aload_n c_116_61 rfl (n_getR c_116_62 sc_3.n rfl rfl rfl r_3_6 (n_iload c_116_65 rfl (n_v1I c_116_67 rfl sc_32.n rfl rfl rfl rfl (isUnknownF_2 (u := y) hS (by omega)) ?_)))
          intro z65 M66 hP67
          obtain ⟨eM, f67, f67p0⟩ := hP67
          subst eM
          refine n_if0_eq c_116_70 (by omega) ?_ ?_
          · intro h68
            refine n_bipush c_116_85 rfl ?_
            exact n_rI c_116_87 rfl ⟨hS, by omega, by omega, by exact Or.inl ⟨Or.inr (Or.inr (fun q => by obtain ⟨⟨q1, q2⟩, q3, q4⟩ := q; have q3 : 1 < M (79 + 2 * l) 0 → (0 ≤ y ∧ y < M 32 0) := q3; have q4 : 2 < M (79 + 2 * l) 0 → (0 ≤ w ∧ w < M 32 0) := q4; omega)), rfl, fun _ _ _ => rfl⟩, by exact fun u => by omega, by exact fun u => by omega⟩
          · intro h69
            refine n_aload_n c_116_73 rfl (n_getR c_116_74 sc_3.n rfl rfl rfl r_3_6 (n_iload c_116_77 rfl (n_v1I c_116_79 rfl sc_32.n rfl rfl rfl rfl (isUnknownF_2 (u := w) hS (by omega)) ?_)))
            intro z70 M71 hP72
            obtain ⟨eM, f72, f72p0⟩ := hP72
            subst eM
            refine n_if0_ne c_116_82 (by omega) ?_ ?_
            · intro h73
              refine n_aload_n c_116_88 rfl (n_getR c_116_89 sc_3.n rfl rfl rfl r_3_6 (n_getV (bi := 1) c_116_92 sc_32.n rfl rfl rfl (t_32_1 hS) ?_))
              intro z74 ez74 f75
              refine n_bipush c_116_95 rfl ?_
              refine n_if2_lt c_116_97 (by omega) (by omega) ?_ ?_
              · intro h76
                refine n_aload_n c_116_103 rfl (n_iconst c_116_104 (n_putZM (bi := 18) hS c_116_105 sc_3.n rfl rfl rfl (by omega) rfl (m_3_18 (by omega)) ?_))
                intro M77 eM77 hS77
                have g77_0 : M77 112 0 = M 112 0 := by rw [eM77]; exact nu_a (by omega)
                have g77_1 : M77 32 1 = M 32 1 := by rw [eM77]; exact nu_a (by omega)
                have g77_2 : M77 3 18 = 0 := by rw [eM77]; exact nu_s _ _ _ _
                refine n_aload_n c_116_108 rfl (n_getR c_116_109 sc_3.n rfl rfl rfl r_3_6 (n_iload_n c_116_112 rfl (n_iload_n c_116_113 rfl (n_iload c_116_114 rfl (n_iload c_116_116 rfl (n_v4I c_116_118 rfl sc_32.n rfl rfl rfl rfl (raddY_2 (l := l) (x := x) (y := y) (w := w) (gd := (M77 112 0)) hS77 (by omega) (by omega) (by omega) (by omega) rfl (by omega)) ?_))))))
                intro z78 M79 hP80
                obtain ⟨hS79, f80, f80g0, f80p0, f80p1, f80p2⟩ := hP80
                exact n_rI c_116_121 rfl ⟨hS79, by omega, by omega, by have ec : ∀ a i : Int, core a i → ¬ (a = 3 ∧ i = 18) → M77 a i = M a i := fun a i hc h18 => (by rw [eM77, nu_e, if_neg (by omega)]); have e1 := ec 32 1 (by unfold core; omega) (by omega); obtain ⟨u1, u2, u3⟩ := f80p0; exact Or.inr (Or.inr ⟨by omega, by omega, ⟨⟨by omega, by omega⟩, fun h => ⟨by omega, by omega⟩, fun h => ⟨by omega, by omega⟩⟩, by omega, by omega, by omega, fun a i hc w1 w2 => by rw [u3 a i hc w1 (by omega), ec a i hc (by unfold core at hc; omega)]⟩), by intro _; have e1 : M77 32 1 = M 32 1 := (by rw [eM77, nu_a (by omega)]); obtain ⟨k1, k2, k3⟩ := f80p0; obtain ⟨u1, u2, u3, u4⟩ := f80p1; rw [e1] at k1 u1 u2 u3 u4; subst k1; exact ⟨u1, u2, by rw [u3]; split <;> omega, by rw [u4]; repeat (first | omega | split)⟩, by exact fun _ => by have y := f80p2 3 18 (by omega); rw [y, eM77, nu_s]⟩
              · intro h81
                refine n_bipush c_116_100 rfl ?_
                exact n_rI c_116_102 rfl ⟨hS, by omega, by omega, by exact Or.inr (Or.inl ⟨by omega, by omega, ⟨⟨by omega, by omega⟩, fun h => ⟨by omega, by omega⟩, fun h => ⟨by omega, by omega⟩⟩, by omega, rfl, fun _ _ _ => rfl⟩), by exact fun u => by omega, by exact fun u => by omega⟩
            · intro h82
              refine n_bipush c_116_85 rfl ?_
              exact n_rI c_116_87 rfl ⟨hS, by omega, by omega, by exact Or.inl ⟨Or.inr (Or.inr (fun q => by obtain ⟨⟨q1, q2⟩, q3, q4⟩ := q; have q3 : 1 < M (79 + 2 * l) 0 → (0 ≤ y ∧ y < M 32 0) := q3; have q4 : 2 < M (79 + 2 * l) 0 → (0 ≤ w ∧ w < M 32 0) := q4; omega)), rfl, fun _ _ _ => rfl⟩, by exact fun u => by omega, by exact fun u => by omega⟩
  · intro h83
    refine n_bipush c_116_8 rfl ?_
    exact n_rI c_116_10 rfl ⟨hS, by omega, by omega, by exact Or.inl ⟨by omega, rfl, fun _ _ _ => rfl⟩, by exact fun u => by omega, by exact fun u => by omega⟩
