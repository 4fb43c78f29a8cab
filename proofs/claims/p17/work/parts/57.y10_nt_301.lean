/-! What the methods tell. -/
set_option maxHeartbeats 4000000 in
theorem clearX46_3 {xs : List Int32} {e : Nat} {ac : Int} {M : nM} (hS : Sf 3 ac M M)  : nW xs (e + 1) 31 0 [some (2, 46)] [] M (nPV fun M1 => Sf 3 ac M1 M1 ∧ (M1 46 1 = 0) ∧ (∀ i : Int, 0 ≤ i → i < 308 → M1 47 i = 0) ∧ (∀ a i : Int, a ≠ 46 → a ≠ 47 → M1 a i = M a i)) := by
  have hd : (3 : Int) = 2 ∨ (3 : Int) = 3 := by decide
  have hac := hS.2.2.2.2
  refine n_aload_n c_31_0 rfl (n_getR c_31_1 sc_46.n rfl rfl rfl r_46_0 (n_lconst (n := 0) c_31_4 rfl (n_s2V c_31_5 rfl rfl rfl rfl (fillX47_3 (v := 0) (Ms := M) hS (by omega) (by exact fun _ _ _ => rfl)) ?_)))
  intro  M1 hP2
  obtain ⟨hS1, f2p0, f2p1⟩ := hP2
  refine n_aload_n c_31_8 rfl (n_iconst c_31_9 (n_putM (bi := 1) hS1 c_31_10 sc_46.n rfl rfl rfl rfl (m_46_1 (by omega)) ?_))
  intro M3 eM3 hS3
  have g3_0 : M3 46 1 = 0 := by rw [eM3]; exact nu_s _ _ _ _
  exact n_rV c_31_13 rfl ⟨hS3, by rw [eM3, nu_s], by exact fun i h0 h1 => by rw [eM3, nu_a (by omega)]; exact f2p1 i h0 h1, by exact fun a i h1 h2 => by rw [eM3, nu_a h1]; exact f2p0 a i h2⟩

set_option maxHeartbeats 4000000 in
theorem gatherX46_9_3 {xs : List Int32} {e : Nat} {ac : Int} {M : nM} {n : Int} {Ms : nM} {V : Int} (hS : Sf 3 ac M M) (hn : 0 ≤ n ∧ n ≤ 19682) (hms : M = Ms) (hN : NST 3 V Ms) (hkV : 9 ≤ V ∧ V ≤ 9) (hP : PF 3 9 n (fun i => Ms 40 i) (fun i => Ms 39 i)) (hc : 0 ≤ Ms 46 1 ∧ Ms 46 1 ≤ n * pn 3 (V - 9).toNat) : nW xs (e + 2) 70 0 [some (2, 38), some (0, 9), some (0, n), some (2, 46), none] [] M (nPV fun M1 => Sf 3 ac M1 M1 ∧ (M1 46 1 = Ms 46 1 + gall 3 V 9 n (fun i => Ms 40 i)) ∧ (FG 46 Ms M1) ∧ (∀ u : Int, 0 ≤ u → u < 9 → M1 39 u = Ms 39 u) ∧ (BSt 47 Ms M1 (ga 3 V 9 n (fun i => Ms 40 i)))) := by
  have hd : (3 : Int) = 2 ∨ (3 : Int) = 3 := by decide
  have hac := hS.2.2.2.2
  have q50 : M 38 5 = 3 := by rw [hms]; exact hN.1
  have q60 : M 38 6 = V := by rw [hms]; exact hN.2.1
  have hcr : 0 ≤ M 46 1 ∧ M 46 1 ≤ 20000 := by rw [hms]; exact ⟨hc.1, gcb (k := 9) (by decide) (by omega) (by omega) (show pn 3 ((9 : Int)).toNat = 19683 by decide) (by omega) hc.2⟩
  refine n_iload_n c_70_0 rfl (n_aload_n c_70_1 rfl (n_getV (bi := 6) c_70_2 sc_38.n rfl rfl rfl (t_38_6 hS) ?_))
  intro z1 ez1 f2
  obtain rfl : z1 = 9 := by omega
  refine n_if2_lt c_70_5 (by omega) (by omega) ?_ ?_
  · intro h3
    exfalso; omega
  · intro h4
    refine n_aload_n c_70_8 rfl (n_iload_n c_70_9 rfl (n_v1V c_70_10 rfl sc_46.n rfl rfl rfl rfl (addX46_3 (n := n) hS (by omega) (by omega)) ?_))
    intro  M5 hP6
    obtain ⟨hS5, f6p0, f6p1, f6p2⟩ := hP6
    exact n_rV c_70_13 rfl ⟨hS5, by have hVk : V = 9 := (by omega); rw [hVk, gall_v hP]; have y := f6p0; rw [hms] at y; exact y, by exact fun a i h1 h2 h3 => by rw [f6p1 a i h2 h3, hms], by exact fun u _ _ => by rw [f6p1 39 u (by omega) (by omega), hms], by have hVk : V = 9 := (by omega); have y := f6p2; rw [hms] at y; exact y.congr (fun m _ => by rw [hVk]; exact (ga_v hP).symm)⟩

set_option maxHeartbeats 4000000 in
theorem gatherX46_8_3_c {xs : List Int32} {e : Nat} {ac : Int} {M : nM} {n : Int} {Ms : nM} {V : Int} (hS : Sf 3 ac M M) (hn : 0 ≤ n ∧ n ≤ 6560) (hms : M = Ms) (hN : NST 3 V Ms) (hkV : 8 ≤ V ∧ V ≤ 9) (hP : PF 3 8 n (fun i => Ms 40 i) (fun i => Ms 39 i)) (hc : 0 ≤ Ms 46 1 ∧ Ms 46 1 ≤ n * pn 3 (V - 8).toNat) : ∀ nn : Nat, (∀ (x4 : Int) (M : nM), Sf 3 ac M M → (0 ≤ x4 ∧ x4 ≤ 3) → (FG 46 Ms M) → (∀ u : Int, 0 ≤ u → u < 8 → M 39 u = Ms 39 u) → (M 46 1 = Ms 46 1 + gcn 3 V 8 n (fun i => Ms 40 i) x4) → (8 < V) → (BSt 47 Ms M (gs 3 V 8 n (fun i => Ms 40 i) x4)) → (3 - x4) * 1 + 1 < (nn : Int) → nW xs (e + 3) 70 17 [some (2, 38), some (0, 8), some (0, n), some (2, 46), some (0, x4)] [] M (nPV fun M1 => Sf 3 ac M1 M1 ∧ (M1 46 1 = Ms 46 1 + gall 3 V 8 n (fun i => Ms 40 i)) ∧ (FG 46 Ms M1) ∧ (∀ u : Int, 0 ≤ u → u < 8 → M1 39 u = Ms 39 u) ∧ (BSt 47 Ms M1 (ga 3 V 8 n (fun i => Ms 40 i))))) := by
  have hd : (3 : Int) = 2 ∨ (3 : Int) = 3 := by decide
  have hac := hS.2.2.2.2
  have q50 : M 38 5 = 3 := by rw [hms]; exact hN.1
  have q60 : M 38 6 = V := by rw [hms]; exact hN.2.1
  have hcr : 0 ≤ M 46 1 ∧ M 46 1 ≤ 20000 := by rw [hms]; exact ⟨hc.1, gcb (k := 8) (by decide) (by omega) (by omega) (show pn 3 ((8 : Int)).toNat = 6561 by decide) (by omega) hc.2⟩
  intro nn
  induction nn with
  | zero => intros; omega
  | succ nn ih =>
    intro x4 M hS k4 v0 v1 v2 v3 v4 hnn
    have q5 : M 38 5 = 3 := by rw [v0 38 5 (by omega) (by omega) (by omega)]; exact hN.1
    have hkV2 : 8 < V := by omega
    refine n_iload c_70_17 rfl (n_aload_n c_70_19 rfl (n_getV (bi := 5) c_70_20 sc_38.n rfl rfl rfl (t_38_5 hS) ?_))
    intro z1 ez1 f2
    obtain rfl : z1 = 3 := by omega
    refine n_if2_ge c_70_23 (by omega) (by omega) ?_ ?_
    · intro h3
      exact n_rV c_70_65 rfl ⟨hS, by have y := v2; rw [show x4 = 3 by omega, gcn_a (by omega)] at y; exact y, by exact v0, by exact v1, by exact v4.congr (fun m _ => by rw [show x4 = 3 by omega]; exact gs_a (by omega))⟩
    · intro h4
      refine n_aload_n c_70_26 rfl (n_getR c_70_27 sc_38.n rfl rfl rfl r_38_0 (n_iload_n c_70_30 rfl (n_iload c_70_31 rfl (n_iastoreM hS c_70_33 sc_39.n rfl (by omega) (m_39 (by omega) (by omega)) ?_))))
      intro M5 eM5 hS5
      have g5_0 : M5 38 5 = M 38 5 := by rw [eM5]; exact nu_a (by omega)
      have g5_1 : M5 38 6 = M 38 6 := by rw [eM5]; exact nu_a (by omega)
      have fg2 := v0.u eM5 (Or.inl rfl)
      have hn2 := fg2.nst (by omega) hN
      refine n_aload_n c_70_34 rfl (n_iload_n c_70_35 rfl (n_v1I c_70_36 rfl sc_38.n rfl rfl rfl rfl (fitsX_3 (l := 8) hS5 (by omega) (by omega) (by exact fun c c0 c1 => hn2.lim (l := 8) (by omega) (by omega) c0 c1)) ?_))
      intro z6 M7 hP8
      obtain ⟨eM, f8, f8p0⟩ := hP8
      subst eM
      refine n_if0_eq c_70_39 (by omega) ?_ ?_
      · intro h9
        refine n_iinc (L2 := [some (2, 38), some (0, 8), some (0, n), some (2, 46), some (0, (x4 + 1))]) c_70_59 rfl rfl rfl (n_goto c_70_62 (n_fg (le_s (le_s (le_s (le_s (le_s le_0))))) ?_))
        exact ih _ M5 hS5 (by omega) (by exact fg2) (by exact (GA.w hP v1 eM5).1) (by exact GA.no (k := 8) (by decide) hN (by omega) hP (by omega) (by omega) v0 v1 eM5 (bb_z (by omega)) v2) (by omega) (by exact GA.bno (c := 46) (k := 8) (by decide) hN (by omega) hP (by omega) (by omega) v0 v1 eM5 (bb_z (by omega)) v4) (by omega)
      · intro h10
        refine n_aload_n c_70_42 rfl (n_iload_n c_70_43 rfl (n_iconst c_70_44 (n_iadd c_70_45 rfl (n_iload_n c_70_46 rfl (n_aload_n c_70_47 rfl (n_getV (bi := 5) c_70_48 sc_38.n rfl rfl rfl (t_38_5 hS5) ?_))))))
        intro z11 ez11 f12
        obtain rfl : z11 = 3 := by omega
        refine n_imul c_70_51 rfl (n_iload c_70_52 rfl (n_iadd c_70_54 rfl (n_aload_n c_70_55 rfl ?_)))
        have hcst : ((8 + 1) : Int) = 9 := by omega
        rw [hcst]
        refine n_s4V c_70_56 rfl rfl rfl rfl (gatherX46_9_3 (n := ((n * 3) + x4)) (Ms := M5) (V := V) hS5 (by omega) (by rfl) (by exact hn2) (by omega) (by exact GA.pf (k := 8) (by decide) hN (by omega) hP (c := 46) (by omega) (by omega) v0 v1 eM5 (bb_n (by omega))) (by exact GA.cnt (k := 8) (by decide) (by omega) (by omega) (by omega) hc eM5 v2)) ?_
        intro  M13 hP14
        obtain ⟨hS13, f14p0, f14p1, f14p2, f14p3⟩ := hP14
        have gg := GA.go (c := 46) (k := 8) (by decide) (by omega) (by omega) (by omega) v0 v1 eM5 v2 f14p0 f14p1 f14p2
        have gb := GA.bgo (c := 46) (k := 8) (by decide) (by omega) (by omega) (by omega) v0 eM5 v4 f14p3
        refine n_iinc (L2 := [some (2, 38), some (0, 8), some (0, n), some (2, 46), some (0, (x4 + 1))]) c_70_59 rfl rfl rfl (n_goto c_70_62 (n_fg (le_s (le_s (le_s (le_s (le_s le_0))))) ?_))
        exact ih _ M13 hS13 (by omega) (by exact gg.1) (by exact gg.2.1) (by exact gg.2.2) (by omega) (by exact gb) (by omega)
set_option maxHeartbeats 4000000 in
theorem gatherX46_8_3 {xs : List Int32} {e : Nat} {ac : Int} {M : nM} {n : Int} {Ms : nM} {V : Int} (hS : Sf 3 ac M M) (hn : 0 ≤ n ∧ n ≤ 6560) (hms : M = Ms) (hN : NST 3 V Ms) (hkV : 8 ≤ V ∧ V ≤ 9) (hP : PF 3 8 n (fun i => Ms 40 i) (fun i => Ms 39 i)) (hc : 0 ≤ Ms 46 1 ∧ Ms 46 1 ≤ n * pn 3 (V - 8).toNat) : nW xs (e + 3) 70 0 [some (2, 38), some (0, 8), some (0, n), some (2, 46), none] [] M (nPV fun M1 => Sf 3 ac M1 M1 ∧ (M1 46 1 = Ms 46 1 + gall 3 V 8 n (fun i => Ms 40 i)) ∧ (FG 46 Ms M1) ∧ (∀ u : Int, 0 ≤ u → u < 8 → M1 39 u = Ms 39 u) ∧ (BSt 47 Ms M1 (ga 3 V 8 n (fun i => Ms 40 i)))) := by
  have hd : (3 : Int) = 2 ∨ (3 : Int) = 3 := by decide
  have hac := hS.2.2.2.2
  have q50 : M 38 5 = 3 := by rw [hms]; exact hN.1
  have q60 : M 38 6 = V := by rw [hms]; exact hN.2.1
  have hcr : 0 ≤ M 46 1 ∧ M 46 1 ≤ 20000 := by rw [hms]; exact ⟨hc.1, gcb (k := 8) (by decide) (by omega) (by omega) (show pn 3 ((8 : Int)).toNat = 6561 by decide) (by omega) hc.2⟩
  refine n_iload_n c_70_0 rfl (n_aload_n c_70_1 rfl (n_getV (bi := 6) c_70_2 sc_38.n rfl rfl rfl (t_38_6 hS) ?_))
  intro z1 ez1 f2
  refine n_if2_lt c_70_5 (by omega) (by omega) ?_ ?_
  · intro h3
    refine n_iconst c_70_14 (n_istore (L2 := [some (2, 38), some (0, 8), some (0, n), some (2, 46), some (0, 0)]) c_70_15 rfl rfl (n_fg (le_s (le_s (le_s (le_s (le_s le_0))))) ?_))
    exact (gatherX46_8_3_c hS hn hms hN hkV hP hc 20) _ M hS (by omega) (by exact fun a i _ _ _ => by rw [hms]) (by exact fun u _ _ => by rw [hms]) (by rw [gcn_0, hms, Int.add_zero]) (by omega) (by rw [hms]; exact BSt.refl (fun m _ => gs_0)) (by omega)
  · intro h4
    refine n_aload_n c_70_8 rfl (n_iload_n c_70_9 rfl (n_v1V c_70_10 rfl sc_46.n rfl rfl rfl rfl (addX46_3 (n := n) hS (by omega) (by omega)) ?_))
    intro  M5 hP6
    obtain ⟨hS5, f6p0, f6p1, f6p2⟩ := hP6
    exact n_rV c_70_13 rfl ⟨hS5, by have hVk : V = 8 := (by omega); rw [hVk, gall_v hP]; have y := f6p0; rw [hms] at y; exact y, by exact fun a i h1 h2 h3 => by rw [f6p1 a i h2 h3, hms], by exact fun u _ _ => by rw [f6p1 39 u (by omega) (by omega), hms], by have hVk : V = 8 := (by omega); have y := f6p2; rw [hms] at y; exact y.congr (fun m _ => by rw [hVk]; exact (ga_v hP).symm)⟩

set_option maxHeartbeats 4000000 in
theorem gatherX46_7_3_c {xs : List Int32} {e : Nat} {ac : Int} {M : nM} {n : Int} {Ms : nM} {V : Int} (hS : Sf 3 ac M M) (hn : 0 ≤ n ∧ n ≤ 2186) (hms : M = Ms) (hN : NST 3 V Ms) (hkV : 7 ≤ V ∧ V ≤ 9) (hP : PF 3 7 n (fun i => Ms 40 i) (fun i => Ms 39 i)) (hc : 0 ≤ Ms 46 1 ∧ Ms 46 1 ≤ n * pn 3 (V - 7).toNat) : ∀ nn : Nat, (∀ (x4 : Int) (M : nM), Sf 3 ac M M → (0 ≤ x4 ∧ x4 ≤ 3) → (FG 46 Ms M) → (∀ u : Int, 0 ≤ u → u < 7 → M 39 u = Ms 39 u) → (M 46 1 = Ms 46 1 + gcn 3 V 7 n (fun i => Ms 40 i) x4) → (7 < V) → (BSt 47 Ms M (gs 3 V 7 n (fun i => Ms 40 i) x4)) → (3 - x4) * 1 + 1 < (nn : Int) → nW xs (e + 4) 70 17 [some (2, 38), some (0, 7), some (0, n), some (2, 46), some (0, x4)] [] M (nPV fun M1 => Sf 3 ac M1 M1 ∧ (M1 46 1 = Ms 46 1 + gall 3 V 7 n (fun i => Ms 40 i)) ∧ (FG 46 Ms M1) ∧ (∀ u : Int, 0 ≤ u → u < 7 → M1 39 u = Ms 39 u) ∧ (BSt 47 Ms M1 (ga 3 V 7 n (fun i => Ms 40 i))))) := by
  have hd : (3 : Int) = 2 ∨ (3 : Int) = 3 := by decide
  have hac := hS.2.2.2.2
  have q50 : M 38 5 = 3 := by rw [hms]; exact hN.1
  have q60 : M 38 6 = V := by rw [hms]; exact hN.2.1
  have hcr : 0 ≤ M 46 1 ∧ M 46 1 ≤ 20000 := by rw [hms]; exact ⟨hc.1, gcb (k := 7) (by decide) (by omega) (by omega) (show pn 3 ((7 : Int)).toNat = 2187 by decide) (by omega) hc.2⟩
  intro nn
  induction nn with
  | zero => intros; omega
  | succ nn ih =>
    intro x4 M hS k4 v0 v1 v2 v3 v4 hnn
    have q5 : M 38 5 = 3 := by rw [v0 38 5 (by omega) (by omega) (by omega)]; exact hN.1
    have hkV2 : 7 < V := by omega
    refine n_iload c_70_17 rfl (n_aload_n c_70_19 rfl (n_getV (bi := 5) c_70_20 sc_38.n rfl rfl rfl (t_38_5 hS) ?_))
    intro z1 ez1 f2
    obtain rfl : z1 = 3 := by omega
    refine n_if2_ge c_70_23 (by omega) (by omega) ?_ ?_
    · intro h3
      exact n_rV c_70_65 rfl ⟨hS, by have y := v2; rw [show x4 = 3 by omega, gcn_a (by omega)] at y; exact y, by exact v0, by exact v1, by exact v4.congr (fun m _ => by rw [show x4 = 3 by omega]; exact gs_a (by omega))⟩
    · intro h4
      refine n_aload_n c_70_26 rfl (n_getR c_70_27 sc_38.n rfl rfl rfl r_38_0 (n_iload_n c_70_30 rfl (n_iload c_70_31 rfl (n_iastoreM hS c_70_33 sc_39.n rfl (by omega) (m_39 (by omega) (by omega)) ?_))))
      intro M5 eM5 hS5
      have g5_0 : M5 38 5 = M 38 5 := by rw [eM5]; exact nu_a (by omega)
      have g5_1 : M5 38 6 = M 38 6 := by rw [eM5]; exact nu_a (by omega)
      have fg2 := v0.u eM5 (Or.inl rfl)
      have hn2 := fg2.nst (by omega) hN
      refine n_aload_n c_70_34 rfl (n_iload_n c_70_35 rfl (n_v1I c_70_36 rfl sc_38.n rfl rfl rfl rfl (fitsX_3 (l := 7) hS5 (by omega) (by omega) (by exact fun c c0 c1 => hn2.lim (l := 7) (by omega) (by omega) c0 c1)) ?_))
      intro z6 M7 hP8
      obtain ⟨eM, f8, f8p0⟩ := hP8
      subst eM
      refine n_if0_eq c_70_39 (by omega) ?_ ?_
      · intro h9
        refine n_iinc (L2 := [some (2, 38), some (0, 7), some (0, n), some (2, 46), some (0, (x4 + 1))]) c_70_59 rfl rfl rfl (n_goto c_70_62 (n_fg (le_s (le_s (le_s (le_s (le_s le_0))))) ?_))
        exact ih _ M5 hS5 (by omega) (by exact fg2) (by exact (GA.w hP v1 eM5).1) (by exact GA.no (k := 7) (by decide) hN (by omega) hP (by omega) (by omega) v0 v1 eM5 (bb_z (by omega)) v2) (by omega) (by exact GA.bno (c := 46) (k := 7) (by decide) hN (by omega) hP (by omega) (by omega) v0 v1 eM5 (bb_z (by omega)) v4) (by omega)
      · intro h10
        refine n_aload_n c_70_42 rfl (n_iload_n c_70_43 rfl (n_iconst c_70_44 (n_iadd c_70_45 rfl (n_iload_n c_70_46 rfl (n_aload_n c_70_47 rfl (n_getV (bi := 5) c_70_48 sc_38.n rfl rfl rfl (t_38_5 hS5) ?_))))))
        intro z11 ez11 f12
        obtain rfl : z11 = 3 := by omega
        refine n_imul c_70_51 rfl (n_iload c_70_52 rfl (n_iadd c_70_54 rfl (n_aload_n c_70_55 rfl ?_)))
        have hcst : ((7 + 1) : Int) = 8 := by omega
        rw [hcst]
        refine n_s4V c_70_56 rfl rfl rfl rfl (gatherX46_8_3 (n := ((n * 3) + x4)) (Ms := M5) (V := V) hS5 (by omega) (by rfl) (by exact hn2) (by omega) (by exact GA.pf (k := 7) (by decide) hN (by omega) hP (c := 46) (by omega) (by omega) v0 v1 eM5 (bb_n (by omega))) (by exact GA.cnt (k := 7) (by decide) (by omega) (by omega) (by omega) hc eM5 v2)) ?_
        intro  M13 hP14
        obtain ⟨hS13, f14p0, f14p1, f14p2, f14p3⟩ := hP14
        have gg := GA.go (c := 46) (k := 7) (by decide) (by omega) (by omega) (by omega) v0 v1 eM5 v2 f14p0 f14p1 f14p2
        have gb := GA.bgo (c := 46) (k := 7) (by decide) (by omega) (by omega) (by omega) v0 eM5 v4 f14p3
        refine n_iinc (L2 := [some (2, 38), some (0, 7), some (0, n), some (2, 46), some (0, (x4 + 1))]) c_70_59 rfl rfl rfl (n_goto c_70_62 (n_fg (le_s (le_s (le_s (le_s (le_s le_0))))) ?_))
        exact ih _ M13 hS13 (by omega) (by exact gg.1) (by exact gg.2.1) (by exact gg.2.2) (by omega) (by exact gb) (by omega)
set_option maxHeartbeats 4000000 in
theorem gatherX46_7_3 {xs : List Int32} {e : Nat} {ac : Int} {M : nM} {n : Int} {Ms : nM} {V : Int} (hS : Sf 3 ac M M) (hn : 0 ≤ n ∧ n ≤ 2186) (hms : M = Ms) (hN : NST 3 V Ms) (hkV : 7 ≤ V ∧ V ≤ 9) (hP : PF 3 7 n (fun i => Ms 40 i) (fun i => Ms 39 i)) (hc : 0 ≤ Ms 46 1 ∧ Ms 46 1 ≤ n * pn 3 (V - 7).toNat) : nW xs (e + 4) 70 0 [some (2, 38), some (0, 7), some (0, n), some (2, 46), none] [] M (nPV fun M1 => Sf 3 ac M1 M1 ∧ (M1 46 1 = Ms 46 1 + gall 3 V 7 n (fun i => Ms 40 i)) ∧ (FG 46 Ms M1) ∧ (∀ u : Int, 0 ≤ u → u < 7 → M1 39 u = Ms 39 u) ∧ (BSt 47 Ms M1 (ga 3 V 7 n (fun i => Ms 40 i)))) := by
  have hd : (3 : Int) = 2 ∨ (3 : Int) = 3 := by decide
  have hac := hS.2.2.2.2
  have q50 : M 38 5 = 3 := by rw [hms]; exact hN.1
  have q60 : M 38 6 = V := by rw [hms]; exact hN.2.1
  have hcr : 0 ≤ M 46 1 ∧ M 46 1 ≤ 20000 := by rw [hms]; exact ⟨hc.1, gcb (k := 7) (by decide) (by omega) (by omega) (show pn 3 ((7 : Int)).toNat = 2187 by decide) (by omega) hc.2⟩
  refine n_iload_n c_70_0 rfl (n_aload_n c_70_1 rfl (n_getV (bi := 6) c_70_2 sc_38.n rfl rfl rfl (t_38_6 hS) ?_))
  intro z1 ez1 f2
  refine n_if2_lt c_70_5 (by omega) (by omega) ?_ ?_
  · intro h3
    refine n_iconst c_70_14 (n_istore (L2 := [some (2, 38), some (0, 7), some (0, n), some (2, 46), some (0, 0)]) c_70_15 rfl rfl (n_fg (le_s (le_s (le_s (le_s (le_s le_0))))) ?_))
    exact (gatherX46_7_3_c hS hn hms hN hkV hP hc 20) _ M hS (by omega) (by exact fun a i _ _ _ => by rw [hms]) (by exact fun u _ _ => by rw [hms]) (by rw [gcn_0, hms, Int.add_zero]) (by omega) (by rw [hms]; exact BSt.refl (fun m _ => gs_0)) (by omega)
  · intro h4
    refine n_aload_n c_70_8 rfl (n_iload_n c_70_9 rfl (n_v1V c_70_10 rfl sc_46.n rfl rfl rfl rfl (addX46_3 (n := n) hS (by omega) (by omega)) ?_))
    intro  M5 hP6
    obtain ⟨hS5, f6p0, f6p1, f6p2⟩ := hP6
    exact n_rV c_70_13 rfl ⟨hS5, by have hVk : V = 7 := (by omega); rw [hVk, gall_v hP]; have y := f6p0; rw [hms] at y; exact y, by exact fun a i h1 h2 h3 => by rw [f6p1 a i h2 h3, hms], by exact fun u _ _ => by rw [f6p1 39 u (by omega) (by omega), hms], by have hVk : V = 7 := (by omega); have y := f6p2; rw [hms] at y; exact y.congr (fun m _ => by rw [hVk]; exact (ga_v hP).symm)⟩

set_option maxHeartbeats 4000000 in
theorem gatherX46_6_3_c {xs : List Int32} {e : Nat} {ac : Int} {M : nM} {n : Int} {Ms : nM} {V : Int} (hS : Sf 3 ac M M) (hn : 0 ≤ n ∧ n ≤ 728) (hms : M = Ms) (hN : NST 3 V Ms) (hkV : 6 ≤ V ∧ V ≤ 9) (hP : PF 3 6 n (fun i => Ms 40 i) (fun i => Ms 39 i)) (hc : 0 ≤ Ms 46 1 ∧ Ms 46 1 ≤ n * pn 3 (V - 6).toNat) : ∀ nn : Nat, (∀ (x4 : Int) (M : nM), Sf 3 ac M M → (0 ≤ x4 ∧ x4 ≤ 3) → (FG 46 Ms M) → (∀ u : Int, 0 ≤ u → u < 6 → M 39 u = Ms 39 u) → (M 46 1 = Ms 46 1 + gcn 3 V 6 n (fun i => Ms 40 i) x4) → (6 < V) → (BSt 47 Ms M (gs 3 V 6 n (fun i => Ms 40 i) x4)) → (3 - x4) * 1 + 1 < (nn : Int) → nW xs (e + 5) 70 17 [some (2, 38), some (0, 6), some (0, n), some (2, 46), some (0, x4)] [] M (nPV fun M1 => Sf 3 ac M1 M1 ∧ (M1 46 1 = Ms 46 1 + gall 3 V 6 n (fun i => Ms 40 i)) ∧ (FG 46 Ms M1) ∧ (∀ u : Int, 0 ≤ u → u < 6 → M1 39 u = Ms 39 u) ∧ (BSt 47 Ms M1 (ga 3 V 6 n (fun i => Ms 40 i))))) := by
  have hd : (3 : Int) = 2 ∨ (3 : Int) = 3 := by decide
  have hac := hS.2.2.2.2
  have q50 : M 38 5 = 3 := by rw [hms]; exact hN.1
  have q60 : M 38 6 = V := by rw [hms]; exact hN.2.1
  have hcr : 0 ≤ M 46 1 ∧ M 46 1 ≤ 20000 := by rw [hms]; exact ⟨hc.1, gcb (k := 6) (by decide) (by omega) (by omega) (show pn 3 ((6 : Int)).toNat = 729 by decide) (by omega) hc.2⟩
  intro nn
  induction nn with
  | zero => intros; omega
  | succ nn ih =>
    intro x4 M hS k4 v0 v1 v2 v3 v4 hnn
    have q5 : M 38 5 = 3 := by rw [v0 38 5 (by omega) (by omega) (by omega)]; exact hN.1
    have hkV2 : 6 < V := by omega
    refine n_iload c_70_17 rfl (n_aload_n c_70_19 rfl (n_getV (bi := 5) c_70_20 sc_38.n rfl rfl rfl (t_38_5 hS) ?_))
    intro z1 ez1 f2
    obtain rfl : z1 = 3 := by omega
    refine n_if2_ge c_70_23 (by omega) (by omega) ?_ ?_
    · intro h3
      exact n_rV c_70_65 rfl ⟨hS, by have y := v2; rw [show x4 = 3 by omega, gcn_a (by omega)] at y; exact y, by exact v0, by exact v1, by exact v4.congr (fun m _ => by rw [show x4 = 3 by omega]; exact gs_a (by omega))⟩
    · intro h4
      refine n_aload_n c_70_26 rfl (n_getR c_70_27 sc_38.n rfl rfl rfl r_38_0 (n_iload_n c_70_30 rfl (n_iload c_70_31 rfl (n_iastoreM hS c_70_33 sc_39.n rfl (by omega) (m_39 (by omega) (by omega)) ?_))))
      intro M5 eM5 hS5
      have g5_0 : M5 38 5 = M 38 5 := by rw [eM5]; exact nu_a (by omega)
      have g5_1 : M5 38 6 = M 38 6 := by rw [eM5]; exact nu_a (by omega)
      have fg2 := v0.u eM5 (Or.inl rfl)
      have hn2 := fg2.nst (by omega) hN
      refine n_aload_n c_70_34 rfl (n_iload_n c_70_35 rfl (n_v1I c_70_36 rfl sc_38.n rfl rfl rfl rfl (fitsX_3 (l := 6) hS5 (by omega) (by omega) (by exact fun c c0 c1 => hn2.lim (l := 6) (by omega) (by omega) c0 c1)) ?_))
      intro z6 M7 hP8
      obtain ⟨eM, f8, f8p0⟩ := hP8
      subst eM
      refine n_if0_eq c_70_39 (by omega) ?_ ?_
      · intro h9
        refine n_iinc (L2 := [some (2, 38), some (0, 6), some (0, n), some (2, 46), some (0, (x4 + 1))]) c_70_59 rfl rfl rfl (n_goto c_70_62 (n_fg (le_s (le_s (le_s (le_s (le_s le_0))))) ?_))
        exact ih _ M5 hS5 (by omega) (by exact fg2) (by exact (GA.w hP v1 eM5).1) (by exact GA.no (k := 6) (by decide) hN (by omega) hP (by omega) (by omega) v0 v1 eM5 (bb_z (by omega)) v2) (by omega) (by exact GA.bno (c := 46) (k := 6) (by decide) hN (by omega) hP (by omega) (by omega) v0 v1 eM5 (bb_z (by omega)) v4) (by omega)
      · intro h10
        refine n_aload_n c_70_42 rfl (n_iload_n c_70_43 rfl (n_iconst c_70_44 (n_iadd c_70_45 rfl (n_iload_n c_70_46 rfl (n_aload_n c_70_47 rfl (n_getV (bi := 5) c_70_48 sc_38.n rfl rfl rfl (t_38_5 hS5) ?_))))))
        intro z11 ez11 f12
        obtain rfl : z11 = 3 := by omega
        refine n_imul c_70_51 rfl (n_iload c_70_52 rfl (n_iadd c_70_54 rfl (n_aload_n c_70_55 rfl ?_)))
        have hcst : ((6 + 1) : Int) = 7 := by omega
        rw [hcst]
        refine n_s4V c_70_56 rfl rfl rfl rfl (gatherX46_7_3 (n := ((n * 3) + x4)) (Ms := M5) (V := V) hS5 (by omega) (by rfl) (by exact hn2) (by omega) (by exact GA.pf (k := 6) (by decide) hN (by omega) hP (c := 46) (by omega) (by omega) v0 v1 eM5 (bb_n (by omega))) (by exact GA.cnt (k := 6) (by decide) (by omega) (by omega) (by omega) hc eM5 v2)) ?_
        intro  M13 hP14
        obtain ⟨hS13, f14p0, f14p1, f14p2, f14p3⟩ := hP14
        have gg := GA.go (c := 46) (k := 6) (by decide) (by omega) (by omega) (by omega) v0 v1 eM5 v2 f14p0 f14p1 f14p2
        have gb := GA.bgo (c := 46) (k := 6) (by decide) (by omega) (by omega) (by omega) v0 eM5 v4 f14p3
        refine n_iinc (L2 := [some (2, 38), some (0, 6), some (0, n), some (2, 46), some (0, (x4 + 1))]) c_70_59 rfl rfl rfl (n_goto c_70_62 (n_fg (le_s (le_s (le_s (le_s (le_s le_0))))) ?_))
        exact ih _ M13 hS13 (by omega) (by exact gg.1) (by exact gg.2.1) (by exact gg.2.2) (by omega) (by exact gb) (by omega)
set_option maxHeartbeats 4000000 in
theorem gatherX46_6_3 {xs : List Int32} {e : Nat} {ac : Int} {M : nM} {n : Int} {Ms : nM} {V : Int} (hS : Sf 3 ac M M) (hn : 0 ≤ n ∧ n ≤ 728) (hms : M = Ms) (hN : NST 3 V Ms) (hkV : 6 ≤ V ∧ V ≤ 9) (hP : PF 3 6 n (fun i => Ms 40 i) (fun i => Ms 39 i)) (hc : 0 ≤ Ms 46 1 ∧ Ms 46 1 ≤ n * pn 3 (V - 6).toNat) : nW xs (e + 5) 70 0 [some (2, 38), some (0, 6), some (0, n), some (2, 46), none] [] M (nPV fun M1 => Sf 3 ac M1 M1 ∧ (M1 46 1 = Ms 46 1 + gall 3 V 6 n (fun i => Ms 40 i)) ∧ (FG 46 Ms M1) ∧ (∀ u : Int, 0 ≤ u → u < 6 → M1 39 u = Ms 39 u) ∧ (BSt 47 Ms M1 (ga 3 V 6 n (fun i => Ms 40 i)))) := by
  have hd : (3 : Int) = 2 ∨ (3 : Int) = 3 := by decide
  have hac := hS.2.2.2.2
  have q50 : M 38 5 = 3 := by rw [hms]; exact hN.1
  have q60 : M 38 6 = V := by rw [hms]; exact hN.2.1
  have hcr : 0 ≤ M 46 1 ∧ M 46 1 ≤ 20000 := by rw [hms]; exact ⟨hc.1, gcb (k := 6) (by decide) (by omega) (by omega) (show pn 3 ((6 : Int)).toNat = 729 by decide) (by omega) hc.2⟩
  refine n_iload_n c_70_0 rfl (n_aload_n c_70_1 rfl (n_getV (bi := 6) c_70_2 sc_38.n rfl rfl rfl (t_38_6 hS) ?_))
  intro z1 ez1 f2
  refine n_if2_lt c_70_5 (by omega) (by omega) ?_ ?_
  · intro h3
    refine n_iconst c_70_14 (n_istore (L2 := [some (2, 38), some (0, 6), some (0, n), some (2, 46), some (0, 0)]) c_70_15 rfl rfl (n_fg (le_s (le_s (le_s (le_s (le_s le_0))))) ?_))
    exact (gatherX46_6_3_c hS hn hms hN hkV hP hc 20) _ M hS (by omega) (by exact fun a i _ _ _ => by rw [hms]) (by exact fun u _ _ => by rw [hms]) (by rw [gcn_0, hms, Int.add_zero]) (by omega) (by rw [hms]; exact BSt.refl (fun m _ => gs_0)) (by omega)
  · intro h4
    refine n_aload_n c_70_8 rfl (n_iload_n c_70_9 rfl (n_v1V c_70_10 rfl sc_46.n rfl rfl rfl rfl (addX46_3 (n := n) hS (by omega) (by omega)) ?_))
    intro  M5 hP6
    obtain ⟨hS5, f6p0, f6p1, f6p2⟩ := hP6
    exact n_rV c_70_13 rfl ⟨hS5, by have hVk : V = 6 := (by omega); rw [hVk, gall_v hP]; have y := f6p0; rw [hms] at y; exact y, by exact fun a i h1 h2 h3 => by rw [f6p1 a i h2 h3, hms], by exact fun u _ _ => by rw [f6p1 39 u (by omega) (by omega), hms], by have hVk : V = 6 := (by omega); have y := f6p2; rw [hms] at y; exact y.congr (fun m _ => by rw [hVk]; exact (ga_v hP).symm)⟩

set_option maxHeartbeats 4000000 in
theorem gatherX46_5_3_c {xs : List Int32} {e : Nat} {ac : Int} {M : nM} {n : Int} {Ms : nM} {V : Int} (hS : Sf 3 ac M M) (hn : 0 ≤ n ∧ n ≤ 242) (hms : M = Ms) (hN : NST 3 V Ms) (hkV : 5 ≤ V ∧ V ≤ 9) (hP : PF 3 5 n (fun i => Ms 40 i) (fun i => Ms 39 i)) (hc : 0 ≤ Ms 46 1 ∧ Ms 46 1 ≤ n * pn 3 (V - 5).toNat) : ∀ nn : Nat, (∀ (x4 : Int) (M : nM), Sf 3 ac M M → (0 ≤ x4 ∧ x4 ≤ 3) → (FG 46 Ms M) → (∀ u : Int, 0 ≤ u → u < 5 → M 39 u = Ms 39 u) → (M 46 1 = Ms 46 1 + gcn 3 V 5 n (fun i => Ms 40 i) x4) → (5 < V) → (BSt 47 Ms M (gs 3 V 5 n (fun i => Ms 40 i) x4)) → (3 - x4) * 1 + 1 < (nn : Int) → nW xs (e + 6) 70 17 [some (2, 38), some (0, 5), some (0, n), some (2, 46), some (0, x4)] [] M (nPV fun M1 => Sf 3 ac M1 M1 ∧ (M1 46 1 = Ms 46 1 + gall 3 V 5 n (fun i => Ms 40 i)) ∧ (FG 46 Ms M1) ∧ (∀ u : Int, 0 ≤ u → u < 5 → M1 39 u = Ms 39 u) ∧ (BSt 47 Ms M1 (ga 3 V 5 n (fun i => Ms 40 i))))) := by
  have hd : (3 : Int) = 2 ∨ (3 : Int) = 3 := by decide
  have hac := hS.2.2.2.2
  have q50 : M 38 5 = 3 := by rw [hms]; exact hN.1
  have q60 : M 38 6 = V := by rw [hms]; exact hN.2.1
  have hcr : 0 ≤ M 46 1 ∧ M 46 1 ≤ 20000 := by rw [hms]; exact ⟨hc.1, gcb (k := 5) (by decide) (by omega) (by omega) (show pn 3 ((5 : Int)).toNat = 243 by decide) (by omega) hc.2⟩
  intro nn
  induction nn with
  | zero => intros; omega
  | succ nn ih =>
    intro x4 M hS k4 v0 v1 v2 v3 v4 hnn
    have q5 : M 38 5 = 3 := by rw [v0 38 5 (by omega) (by omega) (by omega)]; exact hN.1
    have hkV2 : 5 < V := by omega
    refine n_iload c_70_17 rfl (n_aload_n c_70_19 rfl (n_getV (bi := 5) c_70_20 sc_38.n rfl rfl rfl (t_38_5 hS) ?_))
    intro z1 ez1 f2
    obtain rfl : z1 = 3 := by omega
    refine n_if2_ge c_70_23 (by omega) (by omega) ?_ ?_
    · intro h3
      exact n_rV c_70_65 rfl ⟨hS, by have y := v2; rw [show x4 = 3 by omega, gcn_a (by omega)] at y; exact y, by exact v0, by exact v1, by exact v4.congr (fun m _ => by rw [show x4 = 3 by omega]; exact gs_a (by omega))⟩
    · intro h4
      refine n_aload_n c_70_26 rfl (n_getR c_70_27 sc_38.n rfl rfl rfl r_38_0 (n_iload_n c_70_30 rfl (n_iload c_70_31 rfl (n_iastoreM hS c_70_33 sc_39.n rfl (by omega) (m_39 (by omega) (by omega)) ?_))))
      intro M5 eM5 hS5
      have g5_0 : M5 38 5 = M 38 5 := by rw [eM5]; exact nu_a (by omega)
      have g5_1 : M5 38 6 = M 38 6 := by rw [eM5]; exact nu_a (by omega)
      have fg2 := v0.u eM5 (Or.inl rfl)
      have hn2 := fg2.nst (by omega) hN
      refine n_aload_n c_70_34 rfl (n_iload_n c_70_35 rfl (n_v1I c_70_36 rfl sc_38.n rfl rfl rfl rfl (fitsX_3 (l := 5) hS5 (by omega) (by omega) (by exact fun c c0 c1 => hn2.lim (l := 5) (by omega) (by omega) c0 c1)) ?_))
      intro z6 M7 hP8
      obtain ⟨eM, f8, f8p0⟩ := hP8
      subst eM
      refine n_if0_eq c_70_39 (by omega) ?_ ?_
      · intro h9
        refine n_iinc (L2 := [some (2, 38), some (0, 5), some (0, n), some (2, 46), some (0, (x4 + 1))]) c_70_59 rfl rfl rfl (n_goto c_70_62 (n_fg (le_s (le_s (le_s (le_s (le_s le_0))))) ?_))
        exact ih _ M5 hS5 (by omega) (by exact fg2) (by exact (GA.w hP v1 eM5).1) (by exact GA.no (k := 5) (by decide) hN (by omega) hP (by omega) (by omega) v0 v1 eM5 (bb_z (by omega)) v2) (by omega) (by exact GA.bno (c := 46) (k := 5) (by decide) hN (by omega) hP (by omega) (by omega) v0 v1 eM5 (bb_z (by omega)) v4) (by omega)
      · intro h10
        refine n_aload_n c_70_42 rfl (n_iload_n c_70_43 rfl (n_iconst c_70_44 (n_iadd c_70_45 rfl (n_iload_n c_70_46 rfl (n_aload_n c_70_47 rfl (n_getV (bi := 5) c_70_48 sc_38.n rfl rfl rfl (t_38_5 hS5) ?_))))))
        intro z11 ez11 f12
        obtain rfl : z11 = 3 := by omega
        refine n_imul c_70_51 rfl (n_iload c_70_52 rfl (n_iadd c_70_54 rfl (n_aload_n c_70_55 rfl ?_)))
        have hcst : ((5 + 1) : Int) = 6 := by omega
        rw [hcst]
        refine n_s4V c_70_56 rfl rfl rfl rfl (gatherX46_6_3 (n := ((n * 3) + x4)) (Ms := M5) (V := V) hS5 (by omega) (by rfl) (by exact hn2) (by omega) (by exact GA.pf (k := 5) (by decide) hN (by omega) hP (c := 46) (by omega) (by omega) v0 v1 eM5 (bb_n (by omega))) (by exact GA.cnt (k := 5) (by decide) (by omega) (by omega) (by omega) hc eM5 v2)) ?_
        intro  M13 hP14
        obtain ⟨hS13, f14p0, f14p1, f14p2, f14p3⟩ := hP14
        have gg := GA.go (c := 46) (k := 5) (by decide) (by omega) (by omega) (by omega) v0 v1 eM5 v2 f14p0 f14p1 f14p2
        have gb := GA.bgo (c := 46) (k := 5) (by decide) (by omega) (by omega) (by omega) v0 eM5 v4 f14p3
        refine n_iinc (L2 := [some (2, 38), some (0, 5), some (0, n), some (2, 46), some (0, (x4 + 1))]) c_70_59 rfl rfl rfl (n_goto c_70_62 (n_fg (le_s (le_s (le_s (le_s (le_s le_0))))) ?_))
        exact ih _ M13 hS13 (by omega) (by exact gg.1) (by exact gg.2.1) (by exact gg.2.2) (by omega) (by exact gb) (by omega)
set_option maxHeartbeats 4000000 in
theorem gatherX46_5_3 {xs : List Int32} {e : Nat} {ac : Int} {M : nM} {n : Int} {Ms : nM} {V : Int} (hS : Sf 3 ac M M) (hn : 0 ≤ n ∧ n ≤ 242) (hms : M = Ms) (hN : NST 3 V Ms) (hkV : 5 ≤ V ∧ V ≤ 9) (hP : PF 3 5 n (fun i => Ms 40 i) (fun i => Ms 39 i)) (hc : 0 ≤ Ms 46 1 ∧ Ms 46 1 ≤ n * pn 3 (V - 5).toNat) : nW xs (e + 6) 70 0 [some (2, 38), some (0, 5), some (0, n), some (2, 46), none] [] M (nPV fun M1 => Sf 3 ac M1 M1 ∧ (M1 46 1 = Ms 46 1 + gall 3 V 5 n (fun i => Ms 40 i)) ∧ (FG 46 Ms M1) ∧ (∀ u : Int, 0 ≤ u → u < 5 → M1 39 u = Ms 39 u) ∧ (BSt 47 Ms M1 (ga 3 V 5 n (fun i => Ms 40 i)))) := by
  have hd : (3 : Int) = 2 ∨ (3 : Int) = 3 := by decide
  have hac := hS.2.2.2.2
  have q50 : M 38 5 = 3 := by rw [hms]; exact hN.1
  have q60 : M 38 6 = V := by rw [hms]; exact hN.2.1
  have hcr : 0 ≤ M 46 1 ∧ M 46 1 ≤ 20000 := by rw [hms]; exact ⟨hc.1, gcb (k := 5) (by decide) (by omega) (by omega) (show pn 3 ((5 : Int)).toNat = 243 by decide) (by omega) hc.2⟩
  refine n_iload_n c_70_0 rfl (n_aload_n c_70_1 rfl (n_getV (bi := 6) c_70_2 sc_38.n rfl rfl rfl (t_38_6 hS) ?_))
  intro z1 ez1 f2
  refine n_if2_lt c_70_5 (by omega) (by omega) ?_ ?_
  · intro h3
    refine n_iconst c_70_14 (n_istore (L2 := [some (2, 38), some (0, 5), some (0, n), some (2, 46), some (0, 0)]) c_70_15 rfl rfl (n_fg (le_s (le_s (le_s (le_s (le_s le_0))))) ?_))
    exact (gatherX46_5_3_c hS hn hms hN hkV hP hc 20) _ M hS (by omega) (by exact fun a i _ _ _ => by rw [hms]) (by exact fun u _ _ => by rw [hms]) (by rw [gcn_0, hms, Int.add_zero]) (by omega) (by rw [hms]; exact BSt.refl (fun m _ => gs_0)) (by omega)
  · intro h4
    refine n_aload_n c_70_8 rfl (n_iload_n c_70_9 rfl (n_v1V c_70_10 rfl sc_46.n rfl rfl rfl rfl (addX46_3 (n := n) hS (by omega) (by omega)) ?_))
    intro  M5 hP6
    obtain ⟨hS5, f6p0, f6p1, f6p2⟩ := hP6
    exact n_rV c_70_13 rfl ⟨hS5, by have hVk : V = 5 := (by omega); rw [hVk, gall_v hP]; have y := f6p0; rw [hms] at y; exact y, by exact fun a i h1 h2 h3 => by rw [f6p1 a i h2 h3, hms], by exact fun u _ _ => by rw [f6p1 39 u (by omega) (by omega), hms], by have hVk : V = 5 := (by omega); have y := f6p2; rw [hms] at y; exact y.congr (fun m _ => by rw [hVk]; exact (ga_v hP).symm)⟩

set_option maxHeartbeats 4000000 in
theorem gatherX46_4_3_c {xs : List Int32} {e : Nat} {ac : Int} {M : nM} {n : Int} {Ms : nM} {V : Int} (hS : Sf 3 ac M M) (hn : 0 ≤ n ∧ n ≤ 80) (hms : M = Ms) (hN : NST 3 V Ms) (hkV : 4 ≤ V ∧ V ≤ 9) (hP : PF 3 4 n (fun i => Ms 40 i) (fun i => Ms 39 i)) (hc : 0 ≤ Ms 46 1 ∧ Ms 46 1 ≤ n * pn 3 (V - 4).toNat) : ∀ nn : Nat, (∀ (x4 : Int) (M : nM), Sf 3 ac M M → (0 ≤ x4 ∧ x4 ≤ 3) → (FG 46 Ms M) → (∀ u : Int, 0 ≤ u → u < 4 → M 39 u = Ms 39 u) → (M 46 1 = Ms 46 1 + gcn 3 V 4 n (fun i => Ms 40 i) x4) → (4 < V) → (BSt 47 Ms M (gs 3 V 4 n (fun i => Ms 40 i) x4)) → (3 - x4) * 1 + 1 < (nn : Int) → nW xs (e + 7) 70 17 [some (2, 38), some (0, 4), some (0, n), some (2, 46), some (0, x4)] [] M (nPV fun M1 => Sf 3 ac M1 M1 ∧ (M1 46 1 = Ms 46 1 + gall 3 V 4 n (fun i => Ms 40 i)) ∧ (FG 46 Ms M1) ∧ (∀ u : Int, 0 ≤ u → u < 4 → M1 39 u = Ms 39 u) ∧ (BSt 47 Ms M1 (ga 3 V 4 n (fun i => Ms 40 i))))) := by
  have hd : (3 : Int) = 2 ∨ (3 : Int) = 3 := by decide
  have hac := hS.2.2.2.2
  have q50 : M 38 5 = 3 := by rw [hms]; exact hN.1
  have q60 : M 38 6 = V := by rw [hms]; exact hN.2.1
  have hcr : 0 ≤ M 46 1 ∧ M 46 1 ≤ 20000 := by rw [hms]; exact ⟨hc.1, gcb (k := 4) (by decide) (by omega) (by omega) (show pn 3 ((4 : Int)).toNat = 81 by decide) (by omega) hc.2⟩
  intro nn
  induction nn with
  | zero => intros; omega
  | succ nn ih =>
    intro x4 M hS k4 v0 v1 v2 v3 v4 hnn
    have q5 : M 38 5 = 3 := by rw [v0 38 5 (by omega) (by omega) (by omega)]; exact hN.1
    have hkV2 : 4 < V := by omega
    refine n_iload c_70_17 rfl (n_aload_n c_70_19 rfl (n_getV (bi := 5) c_70_20 sc_38.n rfl rfl rfl (t_38_5 hS) ?_))
    intro z1 ez1 f2
    obtain rfl : z1 = 3 := by omega
    refine n_if2_ge c_70_23 (by omega) (by omega) ?_ ?_
    · intro h3
      exact n_rV c_70_65 rfl ⟨hS, by have y := v2; rw [show x4 = 3 by omega, gcn_a (by omega)] at y; exact y, by exact v0, by exact v1, by exact v4.congr (fun m _ => by rw [show x4 = 3 by omega]; exact gs_a (by omega))⟩
    · intro h4
      refine n_aload_n c_70_26 rfl (n_getR c_70_27 sc_38.n rfl rfl rfl r_38_0 (n_iload_n c_70_30 rfl (n_iload c_70_31 rfl (n_iastoreM hS c_70_33 sc_39.n rfl (by omega) (m_39 (by omega) (by omega)) ?_))))
      intro M5 eM5 hS5
      have g5_0 : M5 38 5 = M 38 5 := by rw [eM5]; exact nu_a (by omega)
      have g5_1 : M5 38 6 = M 38 6 := by rw [eM5]; exact nu_a (by omega)
      have fg2 := v0.u eM5 (Or.inl rfl)
      have hn2 := fg2.nst (by omega) hN
      refine n_aload_n c_70_34 rfl (n_iload_n c_70_35 rfl (n_v1I c_70_36 rfl sc_38.n rfl rfl rfl rfl (fitsX_3 (l := 4) hS5 (by omega) (by omega) (by exact fun c c0 c1 => hn2.lim (l := 4) (by omega) (by omega) c0 c1)) ?_))
      intro z6 M7 hP8
      obtain ⟨eM, f8, f8p0⟩ := hP8
      subst eM
      refine n_if0_eq c_70_39 (by omega) ?_ ?_
      · intro h9
        refine n_iinc (L2 := [some (2, 38), some (0, 4), some (0, n), some (2, 46), some (0, (x4 + 1))]) c_70_59 rfl rfl rfl (n_goto c_70_62 (n_fg (le_s (le_s (le_s (le_s (le_s le_0))))) ?_))
        exact ih _ M5 hS5 (by omega) (by exact fg2) (by exact (GA.w hP v1 eM5).1) (by exact GA.no (k := 4) (by decide) hN (by omega) hP (by omega) (by omega) v0 v1 eM5 (bb_z (by omega)) v2) (by omega) (by exact GA.bno (c := 46) (k := 4) (by decide) hN (by omega) hP (by omega) (by omega) v0 v1 eM5 (bb_z (by omega)) v4) (by omega)
      · intro h10
        refine n_aload_n c_70_42 rfl (n_iload_n c_70_43 rfl (n_iconst c_70_44 (n_iadd c_70_45 rfl (n_iload_n c_70_46 rfl (n_aload_n c_70_47 rfl (n_getV (bi := 5) c_70_48 sc_38.n rfl rfl rfl (t_38_5 hS5) ?_))))))
        intro z11 ez11 f12
        obtain rfl : z11 = 3 := by omega
        refine n_imul c_70_51 rfl (n_iload c_70_52 rfl (n_iadd c_70_54 rfl (n_aload_n c_70_55 rfl ?_)))
        have hcst : ((4 + 1) : Int) = 5 := by omega
        rw [hcst]
        refine n_s4V c_70_56 rfl rfl rfl rfl (gatherX46_5_3 (n := ((n * 3) + x4)) (Ms := M5) (V := V) hS5 (by omega) (by rfl) (by exact hn2) (by omega) (by exact GA.pf (k := 4) (by decide) hN (by omega) hP (c := 46) (by omega) (by omega) v0 v1 eM5 (bb_n (by omega))) (by exact GA.cnt (k := 4) (by decide) (by omega) (by omega) (by omega) hc eM5 v2)) ?_
        intro  M13 hP14
        obtain ⟨hS13, f14p0, f14p1, f14p2, f14p3⟩ := hP14
        have gg := GA.go (c := 46) (k := 4) (by decide) (by omega) (by omega) (by omega) v0 v1 eM5 v2 f14p0 f14p1 f14p2
        have gb := GA.bgo (c := 46) (k := 4) (by decide) (by omega) (by omega) (by omega) v0 eM5 v4 f14p3
        refine n_iinc (L2 := [some (2, 38), some (0, 4), some (0, n), some (2, 46), some (0, (x4 + 1))]) c_70_59 rfl rfl rfl (n_goto c_70_62 (n_fg (le_s (le_s (le_s (le_s (le_s le_0))))) ?_))
        exact ih _ M13 hS13 (by omega) (by exact gg.1) (by exact gg.2.1) (by exact gg.2.2) (by omega) (by exact gb) (by omega)
set_option maxHeartbeats 4000000 in
theorem gatherX46_4_3 {xs : List Int32} {e : Nat} {ac : Int} {M : nM} {n : Int} {Ms : nM} {V : Int} (hS : Sf 3 ac M M) (hn : 0 ≤ n ∧ n ≤ 80) (hms : M = Ms) (hN : NST 3 V Ms) (hkV : 4 ≤ V ∧ V ≤ 9) (hP : PF 3 4 n (fun i => Ms 40 i) (fun i => Ms 39 i)) (hc : 0 ≤ Ms 46 1 ∧ Ms 46 1 ≤ n * pn 3 (V - 4).toNat) : nW xs (e + 7) 70 0 [some (2, 38), some (0, 4), some (0, n), some (2, 46), none] [] M (nPV fun M1 => Sf 3 ac M1 M1 ∧ (M1 46 1 = Ms 46 1 + gall 3 V 4 n (fun i => Ms 40 i)) ∧ (FG 46 Ms M1) ∧ (∀ u : Int, 0 ≤ u → u < 4 → M1 39 u = Ms 39 u) ∧ (BSt 47 Ms M1 (ga 3 V 4 n (fun i => Ms 40 i)))) := by
  have hd : (3 : Int) = 2 ∨ (3 : Int) = 3 := by decide
  have hac := hS.2.2.2.2
  have q50 : M 38 5 = 3 := by rw [hms]; exact hN.1
  have q60 : M 38 6 = V := by rw [hms]; exact hN.2.1
  have hcr : 0 ≤ M 46 1 ∧ M 46 1 ≤ 20000 := by rw [hms]; exact ⟨hc.1, gcb (k := 4) (by decide) (by omega) (by omega) (show pn 3 ((4 : Int)).toNat = 81 by decide) (by omega) hc.2⟩
  refine n_iload_n c_70_0 rfl (n_aload_n c_70_1 rfl (n_getV (bi := 6) c_70_2 sc_38.n rfl rfl rfl (t_38_6 hS) ?_))
  intro z1 ez1 f2
  refine n_if2_lt c_70_5 (by omega) (by omega) ?_ ?_
  · intro h3
    refine n_iconst c_70_14 (n_istore (L2 := [some (2, 38), some (0, 4), some (0, n), some (2, 46), some (0, 0)]) c_70_15 rfl rfl (n_fg (le_s (le_s (le_s (le_s (le_s le_0))))) ?_))
    exact (gatherX46_4_3_c hS hn hms hN hkV hP hc 20) _ M hS (by omega) (by exact fun a i _ _ _ => by rw [hms]) (by exact fun u _ _ => by rw [hms]) (by rw [gcn_0, hms, Int.add_zero]) (by omega) (by rw [hms]; exact BSt.refl (fun m _ => gs_0)) (by omega)
  · intro h4
    refine n_aload_n c_70_8 rfl (n_iload_n c_70_9 rfl (n_v1V c_70_10 rfl sc_46.n rfl rfl rfl rfl (addX46_3 (n := n) hS (by omega) (by omega)) ?_))
    intro  M5 hP6
    obtain ⟨hS5, f6p0, f6p1, f6p2⟩ := hP6
    exact n_rV c_70_13 rfl ⟨hS5, by have hVk : V = 4 := (by omega); rw [hVk, gall_v hP]; have y := f6p0; rw [hms] at y; exact y, by exact fun a i h1 h2 h3 => by rw [f6p1 a i h2 h3, hms], by exact fun u _ _ => by rw [f6p1 39 u (by omega) (by omega), hms], by have hVk : V = 4 := (by omega); have y := f6p2; rw [hms] at y; exact y.congr (fun m _ => by rw [hVk]; exact (ga_v hP).symm)⟩

set_option maxHeartbeats 4000000 in
theorem gatherX46_3_3_c {xs : List Int32} {e : Nat} {ac : Int} {M : nM} {n : Int} {Ms : nM} {V : Int} (hS : Sf 3 ac M M) (hn : 0 ≤ n ∧ n ≤ 26) (hms : M = Ms) (hN : NST 3 V Ms) (hkV : 3 ≤ V ∧ V ≤ 9) (hP : PF 3 3 n (fun i => Ms 40 i) (fun i => Ms 39 i)) (hc : 0 ≤ Ms 46 1 ∧ Ms 46 1 ≤ n * pn 3 (V - 3).toNat) : ∀ nn : Nat, (∀ (x4 : Int) (M : nM), Sf 3 ac M M → (0 ≤ x4 ∧ x4 ≤ 3) → (FG 46 Ms M) → (∀ u : Int, 0 ≤ u → u < 3 → M 39 u = Ms 39 u) → (M 46 1 = Ms 46 1 + gcn 3 V 3 n (fun i => Ms 40 i) x4) → (3 < V) → (BSt 47 Ms M (gs 3 V 3 n (fun i => Ms 40 i) x4)) → (3 - x4) * 1 + 1 < (nn : Int) → nW xs (e + 8) 70 17 [some (2, 38), some (0, 3), some (0, n), some (2, 46), some (0, x4)] [] M (nPV fun M1 => Sf 3 ac M1 M1 ∧ (M1 46 1 = Ms 46 1 + gall 3 V 3 n (fun i => Ms 40 i)) ∧ (FG 46 Ms M1) ∧ (∀ u : Int, 0 ≤ u → u < 3 → M1 39 u = Ms 39 u) ∧ (BSt 47 Ms M1 (ga 3 V 3 n (fun i => Ms 40 i))))) := by
  have hd : (3 : Int) = 2 ∨ (3 : Int) = 3 := by decide
  have hac := hS.2.2.2.2
  have q50 : M 38 5 = 3 := by rw [hms]; exact hN.1
  have q60 : M 38 6 = V := by rw [hms]; exact hN.2.1
  have hcr : 0 ≤ M 46 1 ∧ M 46 1 ≤ 20000 := by rw [hms]; exact ⟨hc.1, gcb (k := 3) (by decide) (by omega) (by omega) (show pn 3 ((3 : Int)).toNat = 27 by decide) (by omega) hc.2⟩
  intro nn
  induction nn with
  | zero => intros; omega
  | succ nn ih =>
    intro x4 M hS k4 v0 v1 v2 v3 v4 hnn
    have q5 : M 38 5 = 3 := by rw [v0 38 5 (by omega) (by omega) (by omega)]; exact hN.1
    have hkV2 : 3 < V := by omega
    refine n_iload c_70_17 rfl (n_aload_n c_70_19 rfl (n_getV (bi := 5) c_70_20 sc_38.n rfl rfl rfl (t_38_5 hS) ?_))
    intro z1 ez1 f2
    obtain rfl : z1 = 3 := by omega
    refine n_if2_ge c_70_23 (by omega) (by omega) ?_ ?_
    · intro h3
      exact n_rV c_70_65 rfl ⟨hS, by have y := v2; rw [show x4 = 3 by omega, gcn_a (by omega)] at y; exact y, by exact v0, by exact v1, by exact v4.congr (fun m _ => by rw [show x4 = 3 by omega]; exact gs_a (by omega))⟩
    · intro h4
      refine n_aload_n c_70_26 rfl (n_getR c_70_27 sc_38.n rfl rfl rfl r_38_0 (n_iload_n c_70_30 rfl (n_iload c_70_31 rfl (n_iastoreM hS c_70_33 sc_39.n rfl (by omega) (m_39 (by omega) (by omega)) ?_))))
      intro M5 eM5 hS5
      have g5_0 : M5 38 5 = M 38 5 := by rw [eM5]; exact nu_a (by omega)
      have g5_1 : M5 38 6 = M 38 6 := by rw [eM5]; exact nu_a (by omega)
      have fg2 := v0.u eM5 (Or.inl rfl)
      have hn2 := fg2.nst (by omega) hN
      refine n_aload_n c_70_34 rfl (n_iload_n c_70_35 rfl (n_v1I c_70_36 rfl sc_38.n rfl rfl rfl rfl (fitsX_3 (l := 3) hS5 (by omega) (by omega) (by exact fun c c0 c1 => hn2.lim (l := 3) (by omega) (by omega) c0 c1)) ?_))
      intro z6 M7 hP8
      obtain ⟨eM, f8, f8p0⟩ := hP8
      subst eM
      refine n_if0_eq c_70_39 (by omega) ?_ ?_
      · intro h9
        refine n_iinc (L2 := [some (2, 38), some (0, 3), some (0, n), some (2, 46), some (0, (x4 + 1))]) c_70_59 rfl rfl rfl (n_goto c_70_62 (n_fg (le_s (le_s (le_s (le_s (le_s le_0))))) ?_))
        exact ih _ M5 hS5 (by omega) (by exact fg2) (by exact (GA.w hP v1 eM5).1) (by exact GA.no (k := 3) (by decide) hN (by omega) hP (by omega) (by omega) v0 v1 eM5 (bb_z (by omega)) v2) (by omega) (by exact GA.bno (c := 46) (k := 3) (by decide) hN (by omega) hP (by omega) (by omega) v0 v1 eM5 (bb_z (by omega)) v4) (by omega)
      · intro h10
        refine n_aload_n c_70_42 rfl (n_iload_n c_70_43 rfl (n_iconst c_70_44 (n_iadd c_70_45 rfl (n_iload_n c_70_46 rfl (n_aload_n c_70_47 rfl (n_getV (bi := 5) c_70_48 sc_38.n rfl rfl rfl (t_38_5 hS5) ?_))))))
        intro z11 ez11 f12
        obtain rfl : z11 = 3 := by omega
        refine n_imul c_70_51 rfl (n_iload c_70_52 rfl (n_iadd c_70_54 rfl (n_aload_n c_70_55 rfl ?_)))
        have hcst : ((3 + 1) : Int) = 4 := by omega
        rw [hcst]
        refine n_s4V c_70_56 rfl rfl rfl rfl (gatherX46_4_3 (n := ((n * 3) + x4)) (Ms := M5) (V := V) hS5 (by omega) (by rfl) (by exact hn2) (by omega) (by exact GA.pf (k := 3) (by decide) hN (by omega) hP (c := 46) (by omega) (by omega) v0 v1 eM5 (bb_n (by omega))) (by exact GA.cnt (k := 3) (by decide) (by omega) (by omega) (by omega) hc eM5 v2)) ?_
        intro  M13 hP14
        obtain ⟨hS13, f14p0, f14p1, f14p2, f14p3⟩ := hP14
        have gg := GA.go (c := 46) (k := 3) (by decide) (by omega) (by omega) (by omega) v0 v1 eM5 v2 f14p0 f14p1 f14p2
        have gb := GA.bgo (c := 46) (k := 3) (by decide) (by omega) (by omega) (by omega) v0 eM5 v4 f14p3
        refine n_iinc (L2 := [some (2, 38), some (0, 3), some (0, n), some (2, 46), some (0, (x4 + 1))]) c_70_59 rfl rfl rfl (n_goto c_70_62 (n_fg (le_s (le_s (le_s (le_s (le_s le_0))))) ?_))
        exact ih _ M13 hS13 (by omega) (by exact gg.1) (by exact gg.2.1) (by exact gg.2.2) (by omega) (by exact gb) (by omega)
set_option maxHeartbeats 4000000 in
theorem gatherX46_3_3 {xs : List Int32} {e : Nat} {ac : Int} {M : nM} {n : Int} {Ms : nM} {V : Int} (hS : Sf 3 ac M M) (hn : 0 ≤ n ∧ n ≤ 26) (hms : M = Ms) (hN : NST 3 V Ms) (hkV : 3 ≤ V ∧ V ≤ 9) (hP : PF 3 3 n (fun i => Ms 40 i) (fun i => Ms 39 i)) (hc : 0 ≤ Ms 46 1 ∧ Ms 46 1 ≤ n * pn 3 (V - 3).toNat) : nW xs (e + 8) 70 0 [some (2, 38), some (0, 3), some (0, n), some (2, 46), none] [] M (nPV fun M1 => Sf 3 ac M1 M1 ∧ (M1 46 1 = Ms 46 1 + gall 3 V 3 n (fun i => Ms 40 i)) ∧ (FG 46 Ms M1) ∧ (∀ u : Int, 0 ≤ u → u < 3 → M1 39 u = Ms 39 u) ∧ (BSt 47 Ms M1 (ga 3 V 3 n (fun i => Ms 40 i)))) := by
  have hd : (3 : Int) = 2 ∨ (3 : Int) = 3 := by decide
  have hac := hS.2.2.2.2
  have q50 : M 38 5 = 3 := by rw [hms]; exact hN.1
  have q60 : M 38 6 = V := by rw [hms]; exact hN.2.1
  have hcr : 0 ≤ M 46 1 ∧ M 46 1 ≤ 20000 := by rw [hms]; exact ⟨hc.1, gcb (k := 3) (by decide) (by omega) (by omega) (show pn 3 ((3 : Int)).toNat = 27 by decide) (by omega) hc.2⟩
  refine n_iload_n c_70_0 rfl (n_aload_n c_70_1 rfl (n_getV (bi := 6) c_70_2 sc_38.n rfl rfl rfl (t_38_6 hS) ?_))
  intro z1 ez1 f2
  refine n_if2_lt c_70_5 (by omega) (by omega) ?_ ?_
  · intro h3
    refine n_iconst c_70_14 (n_istore (L2 := [some (2, 38), some (0, 3), some (0, n), some (2, 46), some (0, 0)]) c_70_15 rfl rfl (n_fg (le_s (le_s (le_s (le_s (le_s le_0))))) ?_))
    exact (gatherX46_3_3_c hS hn hms hN hkV hP hc 20) _ M hS (by omega) (by exact fun a i _ _ _ => by rw [hms]) (by exact fun u _ _ => by rw [hms]) (by rw [gcn_0, hms, Int.add_zero]) (by omega) (by rw [hms]; exact BSt.refl (fun m _ => gs_0)) (by omega)
  · intro h4
    refine n_aload_n c_70_8 rfl (n_iload_n c_70_9 rfl (n_v1V c_70_10 rfl sc_46.n rfl rfl rfl rfl (addX46_3 (n := n) hS (by omega) (by omega)) ?_))
    intro  M5 hP6
    obtain ⟨hS5, f6p0, f6p1, f6p2⟩ := hP6
    exact n_rV c_70_13 rfl ⟨hS5, by have hVk : V = 3 := (by omega); rw [hVk, gall_v hP]; have y := f6p0; rw [hms] at y; exact y, by exact fun a i h1 h2 h3 => by rw [f6p1 a i h2 h3, hms], by exact fun u _ _ => by rw [f6p1 39 u (by omega) (by omega), hms], by have hVk : V = 3 := (by omega); have y := f6p2; rw [hms] at y; exact y.congr (fun m _ => by rw [hVk]; exact (ga_v hP).symm)⟩

set_option maxHeartbeats 4000000 in
theorem gatherX46_2_3_c {xs : List Int32} {e : Nat} {ac : Int} {M : nM} {n : Int} {Ms : nM} {V : Int} (hS : Sf 3 ac M M) (hn : 0 ≤ n ∧ n ≤ 8) (hms : M = Ms) (hN : NST 3 V Ms) (hkV : 2 ≤ V ∧ V ≤ 9) (hP : PF 3 2 n (fun i => Ms 40 i) (fun i => Ms 39 i)) (hc : 0 ≤ Ms 46 1 ∧ Ms 46 1 ≤ n * pn 3 (V - 2).toNat) : ∀ nn : Nat, (∀ (x4 : Int) (M : nM), Sf 3 ac M M → (0 ≤ x4 ∧ x4 ≤ 3) → (FG 46 Ms M) → (∀ u : Int, 0 ≤ u → u < 2 → M 39 u = Ms 39 u) → (M 46 1 = Ms 46 1 + gcn 3 V 2 n (fun i => Ms 40 i) x4) → (2 < V) → (BSt 47 Ms M (gs 3 V 2 n (fun i => Ms 40 i) x4)) → (3 - x4) * 1 + 1 < (nn : Int) → nW xs (e + 9) 70 17 [some (2, 38), some (0, 2), some (0, n), some (2, 46), some (0, x4)] [] M (nPV fun M1 => Sf 3 ac M1 M1 ∧ (M1 46 1 = Ms 46 1 + gall 3 V 2 n (fun i => Ms 40 i)) ∧ (FG 46 Ms M1) ∧ (∀ u : Int, 0 ≤ u → u < 2 → M1 39 u = Ms 39 u) ∧ (BSt 47 Ms M1 (ga 3 V 2 n (fun i => Ms 40 i))))) := by
  have hd : (3 : Int) = 2 ∨ (3 : Int) = 3 := by decide
  have hac := hS.2.2.2.2
  have q50 : M 38 5 = 3 := by rw [hms]; exact hN.1
  have q60 : M 38 6 = V := by rw [hms]; exact hN.2.1
  have hcr : 0 ≤ M 46 1 ∧ M 46 1 ≤ 20000 := by rw [hms]; exact ⟨hc.1, gcb (k := 2) (by decide) (by omega) (by omega) (show pn 3 ((2 : Int)).toNat = 9 by decide) (by omega) hc.2⟩
  intro nn
  induction nn with
  | zero => intros; omega
  | succ nn ih =>
    intro x4 M hS k4 v0 v1 v2 v3 v4 hnn
    have q5 : M 38 5 = 3 := by rw [v0 38 5 (by omega) (by omega) (by omega)]; exact hN.1
    have hkV2 : 2 < V := by omega
    refine n_iload c_70_17 rfl (n_aload_n c_70_19 rfl (n_getV (bi := 5) c_70_20 sc_38.n rfl rfl rfl (t_38_5 hS) ?_))
    intro z1 ez1 f2
    obtain rfl : z1 = 3 := by omega
    refine n_if2_ge c_70_23 (by omega) (by omega) ?_ ?_
    · intro h3
      exact n_rV c_70_65 rfl ⟨hS, by have y := v2; rw [show x4 = 3 by omega, gcn_a (by omega)] at y; exact y, by exact v0, by exact v1, by exact v4.congr (fun m _ => by rw [show x4 = 3 by omega]; exact gs_a (by omega))⟩
    · intro h4
      refine n_aload_n c_70_26 rfl (n_getR c_70_27 sc_38.n rfl rfl rfl r_38_0 (n_iload_n c_70_30 rfl (n_iload c_70_31 rfl (n_iastoreM hS c_70_33 sc_39.n rfl (by omega) (m_39 (by omega) (by omega)) ?_))))
      intro M5 eM5 hS5
      have g5_0 : M5 38 5 = M 38 5 := by rw [eM5]; exact nu_a (by omega)
      have g5_1 : M5 38 6 = M 38 6 := by rw [eM5]; exact nu_a (by omega)
      have fg2 := v0.u eM5 (Or.inl rfl)
      have hn2 := fg2.nst (by omega) hN
      refine n_aload_n c_70_34 rfl (n_iload_n c_70_35 rfl (n_v1I c_70_36 rfl sc_38.n rfl rfl rfl rfl (fitsX_3 (l := 2) hS5 (by omega) (by omega) (by exact fun c c0 c1 => hn2.lim (l := 2) (by omega) (by omega) c0 c1)) ?_))
      intro z6 M7 hP8
      obtain ⟨eM, f8, f8p0⟩ := hP8
      subst eM
      refine n_if0_eq c_70_39 (by omega) ?_ ?_
      · intro h9
        refine n_iinc (L2 := [some (2, 38), some (0, 2), some (0, n), some (2, 46), some (0, (x4 + 1))]) c_70_59 rfl rfl rfl (n_goto c_70_62 (n_fg (le_s (le_s (le_s (le_s (le_s le_0))))) ?_))
        exact ih _ M5 hS5 (by omega) (by exact fg2) (by exact (GA.w hP v1 eM5).1) (by exact GA.no (k := 2) (by decide) hN (by omega) hP (by omega) (by omega) v0 v1 eM5 (bb_z (by omega)) v2) (by omega) (by exact GA.bno (c := 46) (k := 2) (by decide) hN (by omega) hP (by omega) (by omega) v0 v1 eM5 (bb_z (by omega)) v4) (by omega)
      · intro h10
        refine n_aload_n c_70_42 rfl (n_iload_n c_70_43 rfl (n_iconst c_70_44 (n_iadd c_70_45 rfl (n_iload_n c_70_46 rfl (n_aload_n c_70_47 rfl (n_getV (bi := 5) c_70_48 sc_38.n rfl rfl rfl (t_38_5 hS5) ?_))))))
        intro z11 ez11 f12
        obtain rfl : z11 = 3 := by omega
        refine n_imul c_70_51 rfl (n_iload c_70_52 rfl (n_iadd c_70_54 rfl (n_aload_n c_70_55 rfl ?_)))
        have hcst : ((2 + 1) : Int) = 3 := by omega
        rw [hcst]
        refine n_s4V c_70_56 rfl rfl rfl rfl (gatherX46_3_3 (n := ((n * 3) + x4)) (Ms := M5) (V := V) hS5 (by omega) (by rfl) (by exact hn2) (by omega) (by exact GA.pf (k := 2) (by decide) hN (by omega) hP (c := 46) (by omega) (by omega) v0 v1 eM5 (bb_n (by omega))) (by exact GA.cnt (k := 2) (by decide) (by omega) (by omega) (by omega) hc eM5 v2)) ?_
        intro  M13 hP14
        obtain ⟨hS13, f14p0, f14p1, f14p2, f14p3⟩ := hP14
        have gg := GA.go (c := 46) (k := 2) (by decide) (by omega) (by omega) (by omega) v0 v1 eM5 v2 f14p0 f14p1 f14p2
        have gb := GA.bgo (c := 46) (k := 2) (by decide) (by omega) (by omega) (by omega) v0 eM5 v4 f14p3
        refine n_iinc (L2 := [some (2, 38), some (0, 2), some (0, n), some (2, 46), some (0, (x4 + 1))]) c_70_59 rfl rfl rfl (n_goto c_70_62 (n_fg (le_s (le_s (le_s (le_s (le_s le_0))))) ?_))
        exact ih _ M13 hS13 (by omega) (by exact gg.1) (by exact gg.2.1) (by exact gg.2.2) (by omega) (by exact gb) (by omega)
set_option maxHeartbeats 4000000 in
theorem gatherX46_2_3 {xs : List Int32} {e : Nat} {ac : Int} {M : nM} {n : Int} {Ms : nM} {V : Int} (hS : Sf 3 ac M M) (hn : 0 ≤ n ∧ n ≤ 8) (hms : M = Ms) (hN : NST 3 V Ms) (hkV : 2 ≤ V ∧ V ≤ 9) (hP : PF 3 2 n (fun i => Ms 40 i) (fun i => Ms 39 i)) (hc : 0 ≤ Ms 46 1 ∧ Ms 46 1 ≤ n * pn 3 (V - 2).toNat) : nW xs (e + 9) 70 0 [some (2, 38), some (0, 2), some (0, n), some (2, 46), none] [] M (nPV fun M1 => Sf 3 ac M1 M1 ∧ (M1 46 1 = Ms 46 1 + gall 3 V 2 n (fun i => Ms 40 i)) ∧ (FG 46 Ms M1) ∧ (∀ u : Int, 0 ≤ u → u < 2 → M1 39 u = Ms 39 u) ∧ (BSt 47 Ms M1 (ga 3 V 2 n (fun i => Ms 40 i)))) := by
  have hd : (3 : Int) = 2 ∨ (3 : Int) = 3 := by decide
  have hac := hS.2.2.2.2
  have q50 : M 38 5 = 3 := by rw [hms]; exact hN.1
  have q60 : M 38 6 = V := by rw [hms]; exact hN.2.1
  have hcr : 0 ≤ M 46 1 ∧ M 46 1 ≤ 20000 := by rw [hms]; exact ⟨hc.1, gcb (k := 2) (by decide) (by omega) (by omega) (show pn 3 ((2 : Int)).toNat = 9 by decide) (by omega) hc.2⟩
  refine n_iload_n c_70_0 rfl (n_aload_n c_70_1 rfl (n_getV (bi := 6) c_70_2 sc_38.n rfl rfl rfl (t_38_6 hS) ?_))
  intro z1 ez1 f2
  refine n_if2_lt c_70_5 (by omega) (by omega) ?_ ?_
  · intro h3
    refine n_iconst c_70_14 (n_istore (L2 := [some (2, 38), some (0, 2), some (0, n), some (2, 46), some (0, 0)]) c_70_15 rfl rfl (n_fg (le_s (le_s (le_s (le_s (le_s le_0))))) ?_))
    exact (gatherX46_2_3_c hS hn hms hN hkV hP hc 20) _ M hS (by omega) (by exact fun a i _ _ _ => by rw [hms]) (by exact fun u _ _ => by rw [hms]) (by rw [gcn_0, hms, Int.add_zero]) (by omega) (by rw [hms]; exact BSt.refl (fun m _ => gs_0)) (by omega)
  · intro h4
    refine n_aload_n c_70_8 rfl (n_iload_n c_70_9 rfl (n_v1V c_70_10 rfl sc_46.n rfl rfl rfl rfl (addX46_3 (n := n) hS (by omega) (by omega)) ?_))
    intro  M5 hP6
    obtain ⟨hS5, f6p0, f6p1, f6p2⟩ := hP6
    exact n_rV c_70_13 rfl ⟨hS5, by have hVk : V = 2 := (by omega); rw [hVk, gall_v hP]; have y := f6p0; rw [hms] at y; exact y, by exact fun a i h1 h2 h3 => by rw [f6p1 a i h2 h3, hms], by exact fun u _ _ => by rw [f6p1 39 u (by omega) (by omega), hms], by have hVk : V = 2 := (by omega); have y := f6p2; rw [hms] at y; exact y.congr (fun m _ => by rw [hVk]; exact (ga_v hP).symm)⟩

set_option maxHeartbeats 4000000 in
theorem gatherX46_1_3_c {xs : List Int32} {e : Nat} {ac : Int} {M : nM} {n : Int} {Ms : nM} {V : Int} (hS : Sf 3 ac M M) (hn : 0 ≤ n ∧ n ≤ 2) (hms : M = Ms) (hN : NST 3 V Ms) (hkV : 1 ≤ V ∧ V ≤ 9) (hP : PF 3 1 n (fun i => Ms 40 i) (fun i => Ms 39 i)) (hc : 0 ≤ Ms 46 1 ∧ Ms 46 1 ≤ n * pn 3 (V - 1).toNat) : ∀ nn : Nat, (∀ (x4 : Int) (M : nM), Sf 3 ac M M → (0 ≤ x4 ∧ x4 ≤ 3) → (FG 46 Ms M) → (∀ u : Int, 0 ≤ u → u < 1 → M 39 u = Ms 39 u) → (M 46 1 = Ms 46 1 + gcn 3 V 1 n (fun i => Ms 40 i) x4) → (1 < V) → (BSt 47 Ms M (gs 3 V 1 n (fun i => Ms 40 i) x4)) → (3 - x4) * 1 + 1 < (nn : Int) → nW xs (e + 10) 70 17 [some (2, 38), some (0, 1), some (0, n), some (2, 46), some (0, x4)] [] M (nPV fun M1 => Sf 3 ac M1 M1 ∧ (M1 46 1 = Ms 46 1 + gall 3 V 1 n (fun i => Ms 40 i)) ∧ (FG 46 Ms M1) ∧ (∀ u : Int, 0 ≤ u → u < 1 → M1 39 u = Ms 39 u) ∧ (BSt 47 Ms M1 (ga 3 V 1 n (fun i => Ms 40 i))))) := by
  have hd : (3 : Int) = 2 ∨ (3 : Int) = 3 := by decide
  have hac := hS.2.2.2.2
  have q50 : M 38 5 = 3 := by rw [hms]; exact hN.1
  have q60 : M 38 6 = V := by rw [hms]; exact hN.2.1
  have hcr : 0 ≤ M 46 1 ∧ M 46 1 ≤ 20000 := by rw [hms]; exact ⟨hc.1, gcb (k := 1) (by decide) (by omega) (by omega) (show pn 3 ((1 : Int)).toNat = 3 by decide) (by omega) hc.2⟩
  intro nn
  induction nn with
  | zero => intros; omega
  | succ nn ih =>
    intro x4 M hS k4 v0 v1 v2 v3 v4 hnn
    have q5 : M 38 5 = 3 := by rw [v0 38 5 (by omega) (by omega) (by omega)]; exact hN.1
    have hkV2 : 1 < V := by omega
    refine n_iload c_70_17 rfl (n_aload_n c_70_19 rfl (n_getV (bi := 5) c_70_20 sc_38.n rfl rfl rfl (t_38_5 hS) ?_))
    intro z1 ez1 f2
    obtain rfl : z1 = 3 := by omega
    refine n_if2_ge c_70_23 (by omega) (by omega) ?_ ?_
    · intro h3
      exact n_rV c_70_65 rfl ⟨hS, by have y := v2; rw [show x4 = 3 by omega, gcn_a (by omega)] at y; exact y, by exact v0, by exact v1, by exact v4.congr (fun m _ => by rw [show x4 = 3 by omega]; exact gs_a (by omega))⟩
    · intro h4
      refine n_aload_n c_70_26 rfl (n_getR c_70_27 sc_38.n rfl rfl rfl r_38_0 (n_iload_n c_70_30 rfl (n_iload c_70_31 rfl (n_iastoreM hS c_70_33 sc_39.n rfl (by omega) (m_39 (by omega) (by omega)) ?_))))
      intro M5 eM5 hS5
      have g5_0 : M5 38 5 = M 38 5 := by rw [eM5]; exact nu_a (by omega)
      have g5_1 : M5 38 6 = M 38 6 := by rw [eM5]; exact nu_a (by omega)
      have fg2 := v0.u eM5 (Or.inl rfl)
      have hn2 := fg2.nst (by omega) hN
      refine n_aload_n c_70_34 rfl (n_iload_n c_70_35 rfl (n_v1I c_70_36 rfl sc_38.n rfl rfl rfl rfl (fitsX_3 (l := 1) hS5 (by omega) (by omega) (by exact fun c c0 c1 => hn2.lim (l := 1) (by omega) (by omega) c0 c1)) ?_))
      intro z6 M7 hP8
      obtain ⟨eM, f8, f8p0⟩ := hP8
      subst eM
      refine n_if0_eq c_70_39 (by omega) ?_ ?_
      · intro h9
        refine n_iinc (L2 := [some (2, 38), some (0, 1), some (0, n), some (2, 46), some (0, (x4 + 1))]) c_70_59 rfl rfl rfl (n_goto c_70_62 (n_fg (le_s (le_s (le_s (le_s (le_s le_0))))) ?_))
        exact ih _ M5 hS5 (by omega) (by exact fg2) (by exact (GA.w hP v1 eM5).1) (by exact GA.no (k := 1) (by decide) hN (by omega) hP (by omega) (by omega) v0 v1 eM5 (bb_z (by omega)) v2) (by omega) (by exact GA.bno (c := 46) (k := 1) (by decide) hN (by omega) hP (by omega) (by omega) v0 v1 eM5 (bb_z (by omega)) v4) (by omega)
      · intro h10
        refine n_aload_n c_70_42 rfl (n_iload_n c_70_43 rfl (n_iconst c_70_44 (n_iadd c_70_45 rfl (n_iload_n c_70_46 rfl (n_aload_n c_70_47 rfl (n_getV (bi := 5) c_70_48 sc_38.n rfl rfl rfl (t_38_5 hS5) ?_))))))
        intro z11 ez11 f12
        obtain rfl : z11 = 3 := by omega
        refine n_imul c_70_51 rfl (n_iload c_70_52 rfl (n_iadd c_70_54 rfl (n_aload_n c_70_55 rfl ?_)))
        have hcst : ((1 + 1) : Int) = 2 := by omega
        rw [hcst]
        refine n_s4V c_70_56 rfl rfl rfl rfl (gatherX46_2_3 (n := ((n * 3) + x4)) (Ms := M5) (V := V) hS5 (by omega) (by rfl) (by exact hn2) (by omega) (by exact GA.pf (k := 1) (by decide) hN (by omega) hP (c := 46) (by omega) (by omega) v0 v1 eM5 (bb_n (by omega))) (by exact GA.cnt (k := 1) (by decide) (by omega) (by omega) (by omega) hc eM5 v2)) ?_
        intro  M13 hP14
        obtain ⟨hS13, f14p0, f14p1, f14p2, f14p3⟩ := hP14
        have gg := GA.go (c := 46) (k := 1) (by decide) (by omega) (by omega) (by omega) v0 v1 eM5 v2 f14p0 f14p1 f14p2
        have gb := GA.bgo (c := 46) (k := 1) (by decide) (by omega) (by omega) (by omega) v0 eM5 v4 f14p3
        refine n_iinc (L2 := [some (2, 38), some (0, 1), some (0, n), some (2, 46), some (0, (x4 + 1))]) c_70_59 rfl rfl rfl (n_goto c_70_62 (n_fg (le_s (le_s (le_s (le_s (le_s le_0))))) ?_))
        exact ih _ M13 hS13 (by omega) (by exact gg.1) (by exact gg.2.1) (by exact gg.2.2) (by omega) (by exact gb) (by omega)
set_option maxHeartbeats 4000000 in
theorem gatherX46_1_3 {xs : List Int32} {e : Nat} {ac : Int} {M : nM} {n : Int} {Ms : nM} {V : Int} (hS : Sf 3 ac M M) (hn : 0 ≤ n ∧ n ≤ 2) (hms : M = Ms) (hN : NST 3 V Ms) (hkV : 1 ≤ V ∧ V ≤ 9) (hP : PF 3 1 n (fun i => Ms 40 i) (fun i => Ms 39 i)) (hc : 0 ≤ Ms 46 1 ∧ Ms 46 1 ≤ n * pn 3 (V - 1).toNat) : nW xs (e + 10) 70 0 [some (2, 38), some (0, 1), some (0, n), some (2, 46), none] [] M (nPV fun M1 => Sf 3 ac M1 M1 ∧ (M1 46 1 = Ms 46 1 + gall 3 V 1 n (fun i => Ms 40 i)) ∧ (FG 46 Ms M1) ∧ (∀ u : Int, 0 ≤ u → u < 1 → M1 39 u = Ms 39 u) ∧ (BSt 47 Ms M1 (ga 3 V 1 n (fun i => Ms 40 i)))) := by
  have hd : (3 : Int) = 2 ∨ (3 : Int) = 3 := by decide
  have hac := hS.2.2.2.2
  have q50 : M 38 5 = 3 := by rw [hms]; exact hN.1
  have q60 : M 38 6 = V := by rw [hms]; exact hN.2.1
  have hcr : 0 ≤ M 46 1 ∧ M 46 1 ≤ 20000 := by rw [hms]; exact ⟨hc.1, gcb (k := 1) (by decide) (by omega) (by omega) (show pn 3 ((1 : Int)).toNat = 3 by decide) (by omega) hc.2⟩
  refine n_iload_n c_70_0 rfl (n_aload_n c_70_1 rfl (n_getV (bi := 6) c_70_2 sc_38.n rfl rfl rfl (t_38_6 hS) ?_))
  intro z1 ez1 f2
  refine n_if2_lt c_70_5 (by omega) (by omega) ?_ ?_
  · intro h3
    refine n_iconst c_70_14 (n_istore (L2 := [some (2, 38), some (0, 1), some (0, n), some (2, 46), some (0, 0)]) c_70_15 rfl rfl (n_fg (le_s (le_s (le_s (le_s (le_s le_0))))) ?_))
    exact (gatherX46_1_3_c hS hn hms hN hkV hP hc 20) _ M hS (by omega) (by exact fun a i _ _ _ => by rw [hms]) (by exact fun u _ _ => by rw [hms]) (by rw [gcn_0, hms, Int.add_zero]) (by omega) (by rw [hms]; exact BSt.refl (fun m _ => gs_0)) (by omega)
  · intro h4
    refine n_aload_n c_70_8 rfl (n_iload_n c_70_9 rfl (n_v1V c_70_10 rfl sc_46.n rfl rfl rfl rfl (addX46_3 (n := n) hS (by omega) (by omega)) ?_))
    intro  M5 hP6
    obtain ⟨hS5, f6p0, f6p1, f6p2⟩ := hP6
    exact n_rV c_70_13 rfl ⟨hS5, by have hVk : V = 1 := (by omega); rw [hVk, gall_v hP]; have y := f6p0; rw [hms] at y; exact y, by exact fun a i h1 h2 h3 => by rw [f6p1 a i h2 h3, hms], by exact fun u _ _ => by rw [f6p1 39 u (by omega) (by omega), hms], by have hVk : V = 1 := (by omega); have y := f6p2; rw [hms] at y; exact y.congr (fun m _ => by rw [hVk]; exact (ga_v hP).symm)⟩

set_option maxHeartbeats 4000000 in
theorem gatherX46_0_3_c {xs : List Int32} {e : Nat} {ac : Int} {M : nM} {n : Int} {Ms : nM} {V : Int} (hS : Sf 3 ac M M) (hn : 0 ≤ n ∧ n ≤ 0) (hms : M = Ms) (hN : NST 3 V Ms) (hkV : 0 ≤ V ∧ V ≤ 9) (hP : PF 3 0 n (fun i => Ms 40 i) (fun i => Ms 39 i)) (hc : 0 ≤ Ms 46 1 ∧ Ms 46 1 ≤ n * pn 3 (V - 0).toNat) : ∀ nn : Nat, (∀ (x4 : Int) (M : nM), Sf 3 ac M M → (0 ≤ x4 ∧ x4 ≤ 3) → (FG 46 Ms M) → (∀ u : Int, 0 ≤ u → u < 0 → M 39 u = Ms 39 u) → (M 46 1 = Ms 46 1 + gcn 3 V 0 n (fun i => Ms 40 i) x4) → (0 < V) → (BSt 47 Ms M (gs 3 V 0 n (fun i => Ms 40 i) x4)) → (3 - x4) * 1 + 1 < (nn : Int) → nW xs (e + 11) 70 17 [some (2, 38), some (0, 0), some (0, n), some (2, 46), some (0, x4)] [] M (nPV fun M1 => Sf 3 ac M1 M1 ∧ (M1 46 1 = Ms 46 1 + gall 3 V 0 n (fun i => Ms 40 i)) ∧ (FG 46 Ms M1) ∧ (∀ u : Int, 0 ≤ u → u < 0 → M1 39 u = Ms 39 u) ∧ (BSt 47 Ms M1 (ga 3 V 0 n (fun i => Ms 40 i))))) := by
  have hd : (3 : Int) = 2 ∨ (3 : Int) = 3 := by decide
  have hac := hS.2.2.2.2
  have q50 : M 38 5 = 3 := by rw [hms]; exact hN.1
  have q60 : M 38 6 = V := by rw [hms]; exact hN.2.1
  have hcr : 0 ≤ M 46 1 ∧ M 46 1 ≤ 20000 := by rw [hms]; exact ⟨hc.1, gcb (k := 0) (by decide) (by omega) (by omega) (show pn 3 ((0 : Int)).toNat = 1 by decide) (by omega) hc.2⟩
  intro nn
  induction nn with
  | zero => intros; omega
  | succ nn ih =>
    intro x4 M hS k4 v0 v1 v2 v3 v4 hnn
    have q5 : M 38 5 = 3 := by rw [v0 38 5 (by omega) (by omega) (by omega)]; exact hN.1
    have hkV2 : 0 < V := by omega
    refine n_iload c_70_17 rfl (n_aload_n c_70_19 rfl (n_getV (bi := 5) c_70_20 sc_38.n rfl rfl rfl (t_38_5 hS) ?_))
    intro z1 ez1 f2
    obtain rfl : z1 = 3 := by omega
    refine n_if2_ge c_70_23 (by omega) (by omega) ?_ ?_
    · intro h3
      exact n_rV c_70_65 rfl ⟨hS, by have y := v2; rw [show x4 = 3 by omega, gcn_a (by omega)] at y; exact y, by exact v0, by exact v1, by exact v4.congr (fun m _ => by rw [show x4 = 3 by omega]; exact gs_a (by omega))⟩
    · intro h4
      refine n_aload_n c_70_26 rfl (n_getR c_70_27 sc_38.n rfl rfl rfl r_38_0 (n_iload_n c_70_30 rfl (n_iload c_70_31 rfl (n_iastoreM hS c_70_33 sc_39.n rfl (by omega) (m_39 (by omega) (by omega)) ?_))))
      intro M5 eM5 hS5
      have g5_0 : M5 38 5 = M 38 5 := by rw [eM5]; exact nu_a (by omega)
      have g5_1 : M5 38 6 = M 38 6 := by rw [eM5]; exact nu_a (by omega)
      have fg2 := v0.u eM5 (Or.inl rfl)
      have hn2 := fg2.nst (by omega) hN
      refine n_aload_n c_70_34 rfl (n_iload_n c_70_35 rfl (n_v1I c_70_36 rfl sc_38.n rfl rfl rfl rfl (fitsX_3 (l := 0) hS5 (by omega) (by omega) (by exact fun c c0 c1 => hn2.lim (l := 0) (by omega) (by omega) c0 c1)) ?_))
      intro z6 M7 hP8
      obtain ⟨eM, f8, f8p0⟩ := hP8
      subst eM
      refine n_if0_eq c_70_39 (by omega) ?_ ?_
      · intro h9
        refine n_iinc (L2 := [some (2, 38), some (0, 0), some (0, n), some (2, 46), some (0, (x4 + 1))]) c_70_59 rfl rfl rfl (n_goto c_70_62 (n_fg (le_s (le_s (le_s (le_s (le_s le_0))))) ?_))
        exact ih _ M5 hS5 (by omega) (by exact fg2) (by exact (GA.w hP v1 eM5).1) (by exact GA.no (k := 0) (by decide) hN (by omega) hP (by omega) (by omega) v0 v1 eM5 (bb_z (by omega)) v2) (by omega) (by exact GA.bno (c := 46) (k := 0) (by decide) hN (by omega) hP (by omega) (by omega) v0 v1 eM5 (bb_z (by omega)) v4) (by omega)
      · intro h10
        refine n_aload_n c_70_42 rfl (n_iload_n c_70_43 rfl (n_iconst c_70_44 (n_iadd c_70_45 rfl (n_iload_n c_70_46 rfl (n_aload_n c_70_47 rfl (n_getV (bi := 5) c_70_48 sc_38.n rfl rfl rfl (t_38_5 hS5) ?_))))))
        intro z11 ez11 f12
        obtain rfl : z11 = 3 := by omega
        refine n_imul c_70_51 rfl (n_iload c_70_52 rfl (n_iadd c_70_54 rfl (n_aload_n c_70_55 rfl ?_)))
        have hcst : ((0 + 1) : Int) = 1 := by omega
        rw [hcst]
        refine n_s4V c_70_56 rfl rfl rfl rfl (gatherX46_1_3 (n := ((n * 3) + x4)) (Ms := M5) (V := V) hS5 (by omega) (by rfl) (by exact hn2) (by omega) (by exact GA.pf (k := 0) (by decide) hN (by omega) hP (c := 46) (by omega) (by omega) v0 v1 eM5 (bb_n (by omega))) (by exact GA.cnt (k := 0) (by decide) (by omega) (by omega) (by omega) hc eM5 v2)) ?_
        intro  M13 hP14
        obtain ⟨hS13, f14p0, f14p1, f14p2, f14p3⟩ := hP14
        have gg := GA.go (c := 46) (k := 0) (by decide) (by omega) (by omega) (by omega) v0 v1 eM5 v2 f14p0 f14p1 f14p2
        have gb := GA.bgo (c := 46) (k := 0) (by decide) (by omega) (by omega) (by omega) v0 eM5 v4 f14p3
        refine n_iinc (L2 := [some (2, 38), some (0, 0), some (0, n), some (2, 46), some (0, (x4 + 1))]) c_70_59 rfl rfl rfl (n_goto c_70_62 (n_fg (le_s (le_s (le_s (le_s (le_s le_0))))) ?_))
        exact ih _ M13 hS13 (by omega) (by exact gg.1) (by exact gg.2.1) (by exact gg.2.2) (by omega) (by exact gb) (by omega)
set_option maxHeartbeats 4000000 in
theorem gatherX46_0_3 {xs : List Int32} {e : Nat} {ac : Int} {M : nM} {n : Int} {Ms : nM} {V : Int} (hS : Sf 3 ac M M) (hn : 0 ≤ n ∧ n ≤ 0) (hms : M = Ms) (hN : NST 3 V Ms) (hkV : 0 ≤ V ∧ V ≤ 9) (hP : PF 3 0 n (fun i => Ms 40 i) (fun i => Ms 39 i)) (hc : 0 ≤ Ms 46 1 ∧ Ms 46 1 ≤ n * pn 3 (V - 0).toNat) : nW xs (e + 11) 70 0 [some (2, 38), some (0, 0), some (0, n), some (2, 46), none] [] M (nPV fun M1 => Sf 3 ac M1 M1 ∧ (M1 46 1 = Ms 46 1 + gall 3 V 0 n (fun i => Ms 40 i)) ∧ (FG 46 Ms M1) ∧ (∀ u : Int, 0 ≤ u → u < 0 → M1 39 u = Ms 39 u) ∧ (BSt 47 Ms M1 (ga 3 V 0 n (fun i => Ms 40 i)))) := by
  have hd : (3 : Int) = 2 ∨ (3 : Int) = 3 := by decide
  have hac := hS.2.2.2.2
  have q50 : M 38 5 = 3 := by rw [hms]; exact hN.1
  have q60 : M 38 6 = V := by rw [hms]; exact hN.2.1
  have hcr : 0 ≤ M 46 1 ∧ M 46 1 ≤ 20000 := by rw [hms]; exact ⟨hc.1, gcb (k := 0) (by decide) (by omega) (by omega) (show pn 3 ((0 : Int)).toNat = 1 by decide) (by omega) hc.2⟩
  refine n_iload_n c_70_0 rfl (n_aload_n c_70_1 rfl (n_getV (bi := 6) c_70_2 sc_38.n rfl rfl rfl (t_38_6 hS) ?_))
  intro z1 ez1 f2
  refine n_if2_lt c_70_5 (by omega) (by omega) ?_ ?_
  · intro h3
    refine n_iconst c_70_14 (n_istore (L2 := [some (2, 38), some (0, 0), some (0, n), some (2, 46), some (0, 0)]) c_70_15 rfl rfl (n_fg (le_s (le_s (le_s (le_s (le_s le_0))))) ?_))
    exact (gatherX46_0_3_c hS hn hms hN hkV hP hc 20) _ M hS (by omega) (by exact fun a i _ _ _ => by rw [hms]) (by exact fun u _ _ => by rw [hms]) (by rw [gcn_0, hms, Int.add_zero]) (by omega) (by rw [hms]; exact BSt.refl (fun m _ => gs_0)) (by omega)
  · intro h4
    refine n_aload_n c_70_8 rfl (n_iload_n c_70_9 rfl (n_v1V c_70_10 rfl sc_46.n rfl rfl rfl rfl (addX46_3 (n := n) hS (by omega) (by omega)) ?_))
    intro  M5 hP6
    obtain ⟨hS5, f6p0, f6p1, f6p2⟩ := hP6
    exact n_rV c_70_13 rfl ⟨hS5, by have hVk : V = 0 := (by omega); rw [hVk, gall_v hP]; have y := f6p0; rw [hms] at y; exact y, by exact fun a i h1 h2 h3 => by rw [f6p1 a i h2 h3, hms], by exact fun u _ _ => by rw [f6p1 39 u (by omega) (by omega), hms], by have hVk : V = 0 := (by omega); have y := f6p2; rw [hms] at y; exact y.congr (fun m _ => by rw [hVk]; exact (ga_v hP).symm)⟩

set_option maxHeartbeats 4000000 in
theorem findAllX46_3 {xs : List Int32} {e : Nat} {ac : Int} {M : nM} {Ms : nM} {V : Int} (hS : Sf 3 ac M M) (hms : M = Ms) (hN : NST 3 V Ms) (hV : 0 ≤ V ∧ V ≤ 9) : nW xs (e + 14) 68 0 [some (2, 38), some (2, 46)] [] M (nPV fun M1 => Sf 3 ac M1 M1 ∧ (M1 46 1 = gall 3 V 0 0 (fun i => Ms 40 i)) ∧ (FG 46 Ms M1) ∧ (∀ m : Int, 0 ≤ m → m < 19712 → (wbt M1 47 m = 1 ↔ (m < pn 3 V.toNat ∧ SOLN 3 (fun i => Ms 40 i) V m)))) := by
  have hd : (3 : Int) = 2 ∨ (3 : Int) = 3 := by decide
  have hac := hS.2.2.2.2
  refine n_aload_n c_68_0 rfl (n_v0V c_68_1 rfl sc_46.n rfl rfl rfl rfl (clearX46_3  hS ) ?_)
  intro  M1 hP2
  obtain ⟨hS1, f2p0, f2p1, f2p2⟩ := hP2
  have fg2 : FG 46 Ms M1 := fun b i h1 h2 h3 => by rw [f2p2 b i h2 h3, hms]
  have hn2 := fg2.nst (by omega) hN
  refine n_aload_n c_68_4 rfl (n_iconst c_68_5 (n_iconst c_68_6 (n_aload_n c_68_7 rfl ?_)))
  refine n_s4V c_68_8 rfl rfl rfl rfl (gatherX46_0_3 (n := 0) (Ms := M1) (V := V) hS1 (by omega) (by rfl) (by exact hn2) (by omega) (by exact PF.zero) (by rw [f2p0, Int.zero_mul]; decide)) ?_
  intro  M3 hP4
  obtain ⟨hS3, f4p0, f4p1, f4p2, f4p3⟩ := hP4
  exact n_rV c_68_11 rfl ⟨hS3, by rw [f4p0, f2p0, gall_of (fun i => fg2 40 i (by omega) (by omega) (by omega)), Int.zero_add], by exact fg2.tr f4p1, by exact FA_bits (fun i i0 i1 => f2p1 i i0 i1) (fun i => fg2 40 i (by omega) (by omega) (by omega)) f4p3⟩
