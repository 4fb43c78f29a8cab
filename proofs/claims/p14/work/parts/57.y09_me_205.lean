/-! What the methods tell. -/
set_option maxHeartbeats 4000000 in
theorem putOnX_3_2_c {xs : List Int32} {e : Nat} {ac : Int} {M : nM} {p e0 : Int} {Ms : nM} {Mt : nM} (hS : Sf 2 ac M M) (hp : ActAt p) (hpl : p < 55 + 3 * ac) (he0 : 0 ≤ e0 ∧ e0 ≤ 256) (hK : MK 256 8 7 56 192 1 2 4 8 16 32 64 128 0 M) (hmt : M = Mt) (hIt : MI 2 8 3 ac Ms Mt) (hfm : FM Ms Mt) (heg : e0 < Mt 15 10) (hwa : WAct 2 p Ms) (hcl : ∀ X Y Z : Int, Clo 2 8 3 ac (Tm Ms) X → Clo 2 8 3 ac (Tm Ms) Y → Clo 2 8 3 ac (Tm Ms) Z → Clo 2 8 3 ac (Tm Ms) (mcm 2 8 (fun i => Ms (p + 1) i) X Y Z)) (hVS : VS 2 8 3 ac Ms Mt) (hCE : CEI 2 8 3 ac Ms Mt) (hI2 : ∀ i j : Int, 0 ≤ i → i ≤ j → j ≤ e0 → Mt 21 i ≤ Mt 21 j) (hva : ∀ x y z sx sy sz : Int, VAL 2 8 3 ac (Tm Ms) (Pm Ms) x sx → VAL 2 8 3 ac (Tm Ms) (Pm Ms) y sy → VAL 2 8 3 ac (Tm Ms) (Pm Ms) z sz → VAL 2 8 3 ac (Tm Ms) (Pm Ms) (mcm 2 8 (fun i => Ms (p + 1) i) x y z) (cst (Ms p 0) sx sy sz)) : ∀ nn : Nat, (∀ (x3 x4 : Int) (M : nM), Sf 2 ac M M → (1 ≤ x3 ∧ x3 ≤ 1000001) → (0 ≤ x4 ∧ x4 ≤ 257) → (MK 256 8 7 56 192 1 2 4 8 16 32 64 128 0 M) → (MI 2 8 3 ac Ms M) → (GR Mt M) → (FBm Mt M) → (SWD 2 8 (fun i => Ms (p + 1) i) Mt M (fun a b c => a = e0 ∧ 0 ≤ b ∧ b < x4 ∧ 0 ≤ c ∧ c ≤ e0)) → (VS 2 8 3 ac Ms M) → (SL (Mt 21 e0) Mt M) → (x3 = 1 + Mt 21 e0) → (PSD 2 8 (fun i => Ms (p + 1) i) 3 Mt M (fun a b c => a = e0 ∧ 0 ≤ b ∧ b < x4 ∧ 0 ≤ c ∧ c < e0 + 1)) → (Ms p 0 = 3) → (257 - x4) * 1 + 259 < (nn : Int) → nW xs (e + 3) 54 75 [some (2, 15), some (2, p), some (0, e0), some (0, x3), some (0, x4)] [] M (nPV fun M1 => Sf 2 ac M1 M1 ∧ MK 256 8 7 56 192 1 2 4 8 16 32 64 128 0 M1 ∧ (MI 2 8 3 ac Ms M1) ∧ (GR Mt M1) ∧ (POS 2 8 (fun i => Ms (p + 1) i) e0 Mt M1) ∧ (FBm Mt M1) ∧ (VS 2 8 3 ac Ms M1) ∧ (SL (Mt 21 e0) Mt M1) ∧ (POz 2 8 (fun i => Ms (p + 1) i) (Ms p 0) e0 Mt M1))) ∧ (∀ (x3 x4 : Int) (M : nM), Sf 2 ac M M → (1 ≤ x3 ∧ x3 ≤ 1000001) → (0 ≤ x4 ∧ x4 ≤ 256) → (MK 256 8 7 56 192 1 2 4 8 16 32 64 128 0 M) → (MI 2 8 3 ac Ms M) → (GR Mt M) → (FBm Mt M) → (SWD 2 8 (fun i => Ms (p + 1) i) Mt M (fun a b c => a = e0 ∧ 0 ≤ b ∧ b < (e0 + 1) ∧ 0 ≤ c ∧ c ≤ e0)) → (SWD 2 8 (fun i => Ms (p + 1) i) Mt M (fun a b c => 0 ≤ a ∧ a < x4 ∧ b = e0 ∧ 0 ≤ c ∧ c ≤ e0)) → (SWD 2 8 (fun i => Ms (p + 1) i) Mt M (fun a b c => 0 ≤ a ∧ a < x4 ∧ 0 ≤ b ∧ b ≤ e0 - 1 ∧ c = e0)) → (VS 2 8 3 ac Ms M) → (SL (Mt 21 e0) Mt M) → (x3 = 1 + Mt 21 e0) → (PSD 2 8 (fun i => Ms (p + 1) i) 3 Mt M (fun a b c => a = e0 ∧ 0 ≤ b ∧ b < (e0 + 1) ∧ 0 ≤ c ∧ c < e0 + 1)) → (PSD 2 8 (fun i => Ms (p + 1) i) 3 Mt M (fun a b c => 0 ≤ a ∧ a < x4 ∧ b = e0 ∧ 0 ≤ c ∧ c < e0 + 1)) → (PSD 2 8 (fun i => Ms (p + 1) i) 3 Mt M (fun a b c => 0 ≤ a ∧ a < x4 ∧ c = e0 ∧ 0 ≤ b ∧ b < e0 - 1 + 1)) → (Ms p 0 = 3) → (256 - x4) * 1 + 1 < (nn : Int) → nW xs (e + 3) 54 112 [some (2, 15), some (2, p), some (0, e0), some (0, x3), some (0, x4)] [] M (nPV fun M1 => Sf 2 ac M1 M1 ∧ MK 256 8 7 56 192 1 2 4 8 16 32 64 128 0 M1 ∧ (MI 2 8 3 ac Ms M1) ∧ (GR Mt M1) ∧ (POS 2 8 (fun i => Ms (p + 1) i) e0 Mt M1) ∧ (FBm Mt M1) ∧ (VS 2 8 3 ac Ms M1) ∧ (SL (Mt 21 e0) Mt M1) ∧ (POz 2 8 (fun i => Ms (p + 1) i) (Ms p 0) e0 Mt M1))) := by
  have hd : (2 : Int) = 2 ∨ (2 : Int) = 3 := by decide
  have hac := hS.2.2.2.2
  have hI : MI 2 8 3 ac Ms M := by rw [hmt]; exact hIt
  have hm10 : M 15 10 = Mt 15 10 := by rw [hmt]
  have hpb := hp.1
  have hpc := hp.2.1
  have hVSm : VS 2 8 3 ac Ms M := by rw [hmt]; exact hVS
  intro nn
  induction nn with
  | zero => refine ⟨?_, ?_⟩ <;> (intros; omega)
  | succ nn ih =>
    refine ⟨?_, ?_⟩
    · intro x3 x4 M hS k3 k4 hK v0 v1 v2 v3 v4 v5 v6 v7 v8 hnn
      have hgr := v1.1
      refine n_iload c_54_75 rfl ?_
      refine n_iload_n c_54_77 rfl ?_
      refine n_if2_gt c_54_78 (by omega) (by omega) ?_ ?_
      · intro h1
        refine n_iconst c_54_109 ?_
        refine n_istore (L2 := [some (2, 15), some (2, p), some (0, e0), some (0, x3), some (0, 0)]) c_54_110 rfl rfl ?_
        refine n_fg (le_s (le_s (le_s (le_s (le_s le_0))))) ?_
        exact ih.2 _ _ M hS (by omega) (by omega) hK (by exact v0) (by exact v1) (by exact v2) (by exact v3.im (fun a b c (u : a = e0 ∧ 0 ≤ b ∧ b < (e0 + 1) ∧ 0 ≤ c ∧ c ≤ e0) => ⟨u.1, u.2.1, by have y := u.2.2.1; omega, u.2.2.2⟩)) (by exact fun _ => Or.inr (fun a b c (u : 0 ≤ a ∧ a < 0 ∧ b = e0 ∧ 0 ≤ c ∧ c ≤ e0) => by have y := u.1; have y2 := u.2.1; omega)) (by exact fun _ => Or.inr (fun a b c (u : 0 ≤ a ∧ a < 0 ∧ 0 ≤ b ∧ b ≤ e0 - 1 ∧ c = e0) => by have y := u.1; have y2 := u.2.1; omega)) (by exact v4) (by exact v5) (by exact v6) (by exact v7.im (fun a b c (u : a = e0 ∧ 0 ≤ b ∧ b < (e0 + 1) ∧ 0 ≤ c ∧ c < e0 + 1) => ⟨u.1, u.2.1, by have y := u.2.2.1; omega, u.2.2.2⟩)) (by exact fun a b c (u : 0 ≤ a ∧ a < 0 ∧ b = e0 ∧ 0 ≤ c ∧ c < e0 + 1) => by have y := u.1; have y2 := u.2.1; omega) (by exact fun a b c (u : 0 ≤ a ∧ a < 0 ∧ c = e0 ∧ 0 ≤ b ∧ b < e0 - 1 + 1) => by have y := u.1; have y2 := u.2.1; omega) (by exact v8) (by omega)
      · intro h2
        refine n_aload_n c_54_81 rfl ?_
        refine n_aload_n c_54_82 rfl ?_
        refine n_getR c_54_83 hp.c0.1.n rfl rfl rfl hp.r.1 ?_
        refine n_iload_n c_54_86 rfl ?_
        refine n_iload c_54_87 rfl ?_
        refine n_iconst c_54_89 ?_
        refine n_iload_n c_54_90 rfl ?_
        refine n_iload_n c_54_91 rfl ?_
        refine n_aload_n c_54_92 rfl ?_
        refine n_getR c_54_93 sc_15.n rfl rfl rfl r_15_2 ?_
        refine n_iload c_54_96 rfl ?_
        refine n_ialoadV c_54_98 sc_21.n rfl rfl rfl (by omega) (v0.s (by omega) (by omega)) ?_
        intro z3 ez3 f4
        refine n_iadd c_54_99 rfl ?_
        have hz0 : ∀ z : Int, 0 ≤ z → z ≤ e0 → M 21 z = Mt 21 z := fun z z0 z1 => (v5.1 z z0 (by omega)).2.1 (hI2 z e0 z0 z1 (by omega))
        have hze0 := hz0 e0 (by omega) (by omega)
        have hzy0 := hz0 x4 (by omega) (by omega)
        have hzr0 := (hVS x4 (by omega) (by omega)).r
        have hzs0 := (hVS e0 (by omega) (by omega)).r
        refine n_v6V c_54_100 rfl sc_15.n rfl rfl rfl rfl (sweepXT_3_2 (p := p) (x := e0) (y := x4) (f := 0) (t := e0) (s := (x3 + z3)) (Ms := Ms) (Mt := M) (L := (Mt 21 e0)) hS hp hpl (by omega) (by omega) (by omega) (by omega) (by omega) hK (by rfl) (by exact v0) (by exact hfm.tr (v2).1) (by omega) (by omega) (by omega) (by exact hcl) (by exact v4) (by exact hCE.gr v1 v5 (v2).2.2) (by exact fun z z0 z1 => by have y := hz0 z (by omega) (by omega); have y2 := hI2 z e0 (by omega) (by omega) (by omega); have y3 := (hVS z (by omega) (by omega)).r; omega) (by exact fun z q z0 z1 z2 => by rw [hz0 z (by omega) (by omega), hz0 q (by omega) (by omega)]; exact hI2 z q (by omega) z1 (by omega)) (by exact fun z z0 z1 => by have y := hva _ _ _ _ _ _ (v4 e0 (by omega) (by omega)) (v4 x4 (by omega) (by omega)) (v4 z (by omega) (by omega)); rw [show Ms p 0 = 3 by omega, cst3] at y; have y2 := hz0 z (by omega) (by omega); exact VAL.cg y (by omega))) ?_
        intro  M5 hP6
        obtain ⟨hS5, f6K, f6p0, f6p1, f6p2, f6p3, f6p4, f6p5, f6p6⟩ := hP6
        have ps0 := PSD.of (k := 3) (Mt := Mt) f6p6 ((v1).2 e0 (by omega) (by omega)) ((v1).2 x4 (by omega) (by omega)) (fun z z0 z1 => ⟨(v1).2 z (by omega) (by omega), by rw [cst3]; have y2 := hz0 z (by omega) (by omega); exact congrArg kap (by omega)⟩)
        have sl0 := (v5).tr f6p5 v1
        have gn0 := (v1).tr f6p1
        have fn0 := (v2).tr f6p3
        have sn0 := f6p2.bs v1 v2 (fun a b c u => ⟨by have u1 := u.1; omega, by have u2 := u.2.1; omega, by have u3 := u.2.2; omega⟩)
        have hq0 := gn0.1
        refine n_iinc (L2 := [some (2, 15), some (2, p), some (0, e0), some (0, x3), some (0, (x4 + 1))]) c_54_103 rfl rfl rfl ?_
        refine n_goto c_54_106 ?_
        refine n_fg (le_s (le_s (le_s (le_s (le_s le_0))))) ?_
        exact ih.1 _ _ M5 hS5 (by omega) (by omega) f6K (by exact f6p0) (by exact gn0) (by exact fn0) (by exact ((v3.gr f6p1).or sn0).im (fun a b c (u : a = e0 ∧ 0 ≤ b ∧ b < (x4 + 1) ∧ 0 ≤ c ∧ c ≤ e0) => (by by_cases q : b = x4; (exact Or.inr ⟨u.1, q, u.2.2.2⟩); (exact Or.inl ⟨u.1, u.2.1, by omega, u.2.2.2⟩)))) (by exact f6p4) (by exact sl0) (by exact v6) (by exact ((v7.gr f6p1 f6p5).or ps0).im (fun a b c (u : a = e0 ∧ 0 ≤ b ∧ b < (x4 + 1) ∧ 0 ≤ c ∧ c < e0 + 1) => (by by_cases q : b = x4; (exact Or.inr ⟨u.1, q, u.2.2.2⟩); (exact Or.inl ⟨u.1, u.2.1, by have y := u.2.2.1; omega, u.2.2.2⟩)))) (by exact v8) (by omega)
    · intro x3 x4 M hS k3 k4 hK v0 v1 v2 v3 v4 v5 v6 v7 v8 v9 v10 v11 v12 hnn
      have hgr := v1.1
      refine n_iload c_54_112 rfl ?_
      refine n_iload_n c_54_114 rfl ?_
      refine n_if2_ge c_54_115 (by omega) (by omega) ?_ ?_
      · intro h1
        exact n_rV c_54_170 rfl ⟨hS, hK, by exact v0, by exact v1, by exact POS.thr v1 v3 (v4.im (fun a b c (u : 0 ≤ a ∧ a < e0 ∧ b = e0 ∧ 0 ≤ c ∧ c ≤ e0) => ⟨u.1, by have y := u.2.1; omega, u.2.2⟩)) (v5.im (fun a b c (u : 0 ≤ a ∧ a < e0 ∧ 0 ≤ b ∧ b ≤ e0 - 1 ∧ c = e0) => ⟨u.1, by have y := u.2.1; omega, u.2.2⟩)), by exact v2, by exact v6, by exact v7, by rw [show Ms p 0 = 3 by omega]; exact POz.thr v1 v7 v9 (v10.im (fun a b c (u : 0 ≤ a ∧ a < e0 ∧ b = e0 ∧ 0 ≤ c ∧ c < e0 + 1) => ⟨u.1, by have y := u.2.1; omega, u.2.2⟩)) (v11.im (fun a b c (u : 0 ≤ a ∧ a < e0 ∧ c = e0 ∧ 0 ≤ b ∧ b < e0 - 1 + 1) => ⟨u.1, by have y := u.2.1; omega, u.2.2⟩))⟩
      · intro h2
        refine n_aload_n c_54_118 rfl ?_
        refine n_aload_n c_54_119 rfl ?_
        refine n_getR c_54_120 hp.c0.1.n rfl rfl rfl hp.r.1 ?_
        refine n_iload c_54_123 rfl ?_
        refine n_iload_n c_54_125 rfl ?_
        refine n_iconst c_54_126 ?_
        refine n_iload_n c_54_127 rfl ?_
        refine n_iload_n c_54_128 rfl ?_
        refine n_aload_n c_54_129 rfl ?_
        refine n_getR c_54_130 sc_15.n rfl rfl rfl r_15_2 ?_
        refine n_iload c_54_133 rfl ?_
        refine n_ialoadV c_54_135 sc_21.n rfl rfl rfl (by omega) (v0.s (by omega) (by omega)) ?_
        intro z3 ez3 f4
        refine n_iadd c_54_136 rfl ?_
        have hz0 : ∀ z : Int, 0 ≤ z → z ≤ e0 → M 21 z = Mt 21 z := fun z z0 z1 => (v7.1 z z0 (by omega)).2.1 (hI2 z e0 z0 z1 (by omega))
        have hze0 := hz0 e0 (by omega) (by omega)
        have hzy0 := hz0 x4 (by omega) (by omega)
        have hzr0 := (hVS x4 (by omega) (by omega)).r
        have hzs0 := (hVS e0 (by omega) (by omega)).r
        refine n_v6V c_54_137 rfl sc_15.n rfl rfl rfl rfl (sweepXT_3_2 (p := p) (x := x4) (y := e0) (f := 0) (t := e0) (s := (x3 + z3)) (Ms := Ms) (Mt := M) (L := (Mt 21 e0)) hS hp hpl (by omega) (by omega) (by omega) (by omega) (by omega) hK (by rfl) (by exact v0) (by exact hfm.tr (v2).1) (by omega) (by omega) (by omega) (by exact hcl) (by exact v6) (by exact hCE.gr v1 v7 (v2).2.2) (by exact fun z z0 z1 => by have y := hz0 z (by omega) (by omega); have y2 := hI2 z e0 (by omega) (by omega) (by omega); have y3 := (hVS z (by omega) (by omega)).r; omega) (by exact fun z q z0 z1 z2 => by rw [hz0 z (by omega) (by omega), hz0 q (by omega) (by omega)]; exact hI2 z q (by omega) z1 (by omega)) (by exact fun z z0 z1 => by have y := hva _ _ _ _ _ _ (v6 x4 (by omega) (by omega)) (v6 e0 (by omega) (by omega)) (v6 z (by omega) (by omega)); rw [show Ms p 0 = 3 by omega, cst3] at y; have y2 := hz0 z (by omega) (by omega); exact VAL.cg y (by omega))) ?_
        intro  M5 hP6
        obtain ⟨hS5, f6K, f6p0, f6p1, f6p2, f6p3, f6p4, f6p5, f6p6⟩ := hP6
        have ps0 := PSD.of (k := 3) (Mt := Mt) f6p6 ((v1).2 x4 (by omega) (by omega)) ((v1).2 e0 (by omega) (by omega)) (fun z z0 z1 => ⟨(v1).2 z (by omega) (by omega), by rw [cst3]; have y2 := hz0 z (by omega) (by omega); exact congrArg kap (by omega)⟩)
        have sl0 := (v7).tr f6p5 v1
        have gn0 := (v1).tr f6p1
        have fn0 := (v2).tr f6p3
        have sn0 := f6p2.bs v1 v2 (fun a b c u => ⟨by have u1 := u.1; omega, by have u2 := u.2.1; omega, by have u3 := u.2.2; omega⟩)
        have hq0 := gn0.1
        refine n_aload_n c_54_140 rfl ?_
        refine n_aload_n c_54_141 rfl ?_
        refine n_getR c_54_142 hp.c0.1.n rfl rfl rfl hp.r.2 ?_
        refine n_iload c_54_145 rfl ?_
        refine n_iload_n c_54_147 rfl ?_
        refine n_iconst c_54_148 ?_
        refine n_iload_n c_54_149 rfl ?_
        refine n_iconst c_54_150 ?_
        refine n_isub c_54_151 rfl ?_
        refine n_iload_n c_54_152 rfl ?_
        refine n_aload_n c_54_153 rfl ?_
        refine n_getR c_54_154 sc_15.n rfl rfl rfl r_15_2 ?_
        refine n_iload c_54_157 rfl ?_
        refine n_ialoadV c_54_159 sc_21.n rfl rfl rfl (by omega) (f6p0.s (by omega) (by omega)) ?_
        intro z7 ez7 f8
        refine n_iadd c_54_160 rfl ?_
        have hz1 : ∀ z : Int, 0 ≤ z → z ≤ e0 → M5 21 z = Mt 21 z := fun z z0 z1 => (sl0.1 z z0 (by omega)).2.1 (hI2 z e0 z0 z1 (by omega))
        have hze1 := hz1 e0 (by omega) (by omega)
        have hzy1 := hz1 x4 (by omega) (by omega)
        have hzr1 := (hVS x4 (by omega) (by omega)).r
        have hzs1 := (hVS e0 (by omega) (by omega)).r
        refine n_v6V c_54_161 rfl sc_15.n rfl rfl rfl rfl (sweepXU_3_2 (p := p) (x := x4) (y := e0) (f := 0) (t := (e0 - 1)) (s := (x3 + z7)) (Ms := Ms) (Mt := M5) (L := (Mt 21 e0)) hS5 hp hpl (by omega) (by omega) (by omega) (by omega) (by omega) f6K (by rfl) (by exact f6p0) (by exact hfm.tr (fn0).1) (by omega) (by omega) (by omega) (by exact fun X Y Z hX hY hZ => by rw [mcm_tr hd hwa.2.2]; exact hcl X Z Y hX hZ hY) (by exact f6p4) (by exact hCE.gr gn0 sl0 (fn0).2.2) (by exact fun z z0 z1 => by have y := hz1 z (by omega) (by omega); have y2 := hI2 z e0 (by omega) (by omega) (by omega); have y3 := (hVS z (by omega) (by omega)).r; omega) (by exact fun z q z0 z1 z2 => by rw [hz1 z (by omega) (by omega), hz1 q (by omega) (by omega)]; exact hI2 z q (by omega) z1 (by omega)) (by exact fun z z0 z1 => by have y := hva _ _ _ _ _ _ (f6p4 x4 (by omega) (by omega)) (f6p4 z (by omega) (by omega)) (f6p4 e0 (by omega) (by omega)); rw [show Ms p 0 = 3 by omega, cst3] at y; rw [mcm_tr hd hwa.2.2]; have y2 := hz1 z (by omega) (by omega); exact VAL.cg y (by omega))) ?_
        intro  M9 hP10
        obtain ⟨hS9, f10K, f10p0, f10p1, f10p2, f10p3, f10p4, f10p5, f10p6⟩ := hP10
        have ps1 := PSD.ou hd hwa.2.2 (k := 3) (Mt := Mt) f10p6 ((gn0).2 x4 (by omega) (by omega)) ((gn0).2 e0 (by omega) (by omega)) (fun z z0 z1 => ⟨(gn0).2 z (by omega) (by omega), by rw [cst3]; have y2 := hz1 z (by omega) (by omega); exact congrArg kap (by omega)⟩)
        have sl1 := (sl0).tr f10p5 gn0
        have gn1 := (gn0).tr f10p1
        have fn1 := (fn0).tr f10p3
        have sn1 := f10p2.bs gn0 fn0 (fun a b c u => ⟨by have u1 := u.1; omega, by have u2 := u.2.1; omega, by have u3 := u.2.2; omega⟩)
        have sn1 := sn1.tn hd hwa.2.2
        have hq1 := gn1.1
        refine n_iinc (L2 := [some (2, 15), some (2, p), some (0, e0), some (0, x3), some (0, (x4 + 1))]) c_54_164 rfl rfl rfl ?_
        refine n_goto c_54_167 ?_
        refine n_fg (le_s (le_s (le_s (le_s (le_s le_0))))) ?_
        exact ih.2 _ _ M9 hS9 (by omega) (by omega) f10K (by exact f10p0) (by exact gn1) (by exact fn1) (by exact (v3.gr f6p1).gr f10p1) (by exact (((v4.gr f6p1).gr f10p1).or ((sn0).gr f10p1)).im (fun a b c (u : 0 ≤ a ∧ a < (x4 + 1) ∧ b = e0 ∧ 0 ≤ c ∧ c ≤ e0) => (by by_cases q : a = x4; (exact Or.inr ⟨q, u.2.2.1, u.2.2.2⟩); (exact Or.inl ⟨u.1, by have y := u.2.1; omega, u.2.2⟩)))) (by exact (((v5.gr f6p1).gr f10p1).or (sn1)).im (fun a b c (u : 0 ≤ a ∧ a < (x4 + 1) ∧ 0 ≤ b ∧ b ≤ e0 - 1 ∧ c = e0) => (by by_cases q : a = x4; (exact Or.inr ⟨q, u.2.2.2.2, u.2.2.1, u.2.2.2.1⟩); (exact Or.inl ⟨u.1, by have y := u.2.1; omega, u.2.2⟩)))) (by exact f10p4) (by exact sl1) (by exact v8) (by exact (v9.gr f6p1 f6p5).gr f10p1 f10p5) (by exact (((v10.gr f6p1 f6p5).gr f10p1 f10p5).or ((ps0).gr f10p1 f10p5)).im (fun a b c (u : 0 ≤ a ∧ a < (x4 + 1) ∧ b = e0 ∧ 0 ≤ c ∧ c < e0 + 1) => (by by_cases q : a = x4; (exact Or.inr ⟨q, u.2.2⟩); (exact Or.inl ⟨u.1, by have y := u.2.1; omega, u.2.2⟩)))) (by exact (((v11.gr f6p1 f6p5).gr f10p1 f10p5).or (ps1)).im (fun a b c (u : 0 ≤ a ∧ a < (x4 + 1) ∧ c = e0 ∧ 0 ≤ b ∧ b < e0 - 1 + 1) => (by by_cases q : a = x4; (exact Or.inr ⟨q, u.2.2⟩); (exact Or.inl ⟨u.1, by have y := u.2.1; omega, u.2.2⟩)))) (by exact v12) (by omega)
set_option maxHeartbeats 4000000 in
theorem putOnX_3_2 {xs : List Int32} {e : Nat} {ac : Int} {M : nM} {p e0 : Int} {Ms : nM} {Mt : nM} (hS : Sf 2 ac M M) (hp : ActAt p) (hpl : p < 55 + 3 * ac) (he0 : 0 ≤ e0 ∧ e0 ≤ 256) (hK : MK 256 8 7 56 192 1 2 4 8 16 32 64 128 0 M) (hmt : M = Mt) (hIt : MI 2 8 3 ac Ms Mt) (hfm : FM Ms Mt) (heg : e0 < Mt 15 10) (hwa : WAct 2 p Ms) (hcl : ∀ X Y Z : Int, Clo 2 8 3 ac (Tm Ms) X → Clo 2 8 3 ac (Tm Ms) Y → Clo 2 8 3 ac (Tm Ms) Z → Clo 2 8 3 ac (Tm Ms) (mcm 2 8 (fun i => Ms (p + 1) i) X Y Z)) (hVS : VS 2 8 3 ac Ms Mt) (hCE : CEI 2 8 3 ac Ms Mt) (hI2 : ∀ i j : Int, 0 ≤ i → i ≤ j → j ≤ e0 → Mt 21 i ≤ Mt 21 j) (hva : ∀ x y z sx sy sz : Int, VAL 2 8 3 ac (Tm Ms) (Pm Ms) x sx → VAL 2 8 3 ac (Tm Ms) (Pm Ms) y sy → VAL 2 8 3 ac (Tm Ms) (Pm Ms) z sz → VAL 2 8 3 ac (Tm Ms) (Pm Ms) (mcm 2 8 (fun i => Ms (p + 1) i) x y z) (cst (Ms p 0) sx sy sz)) : nW xs (e + 3) 54 0 [some (2, 15), some (2, p), some (0, e0), none, none] [] M (nPV fun M1 => Sf 2 ac M1 M1 ∧ MK 256 8 7 56 192 1 2 4 8 16 32 64 128 0 M1 ∧ (MI 2 8 3 ac Ms M1) ∧ (GR Mt M1) ∧ (POS 2 8 (fun i => Ms (p + 1) i) e0 Mt M1) ∧ (FBm Mt M1) ∧ (VS 2 8 3 ac Ms M1) ∧ (SL (Mt 21 e0) Mt M1) ∧ (POz 2 8 (fun i => Ms (p + 1) i) (Ms p 0) e0 Mt M1)) := by
  have hd : (2 : Int) = 2 ∨ (2 : Int) = 3 := by decide
  have hac := hS.2.2.2.2
  have hI : MI 2 8 3 ac Ms M := by rw [hmt]; exact hIt
  have hm10 : M 15 10 = Mt 15 10 := by rw [hmt]
  have hpb := hp.1
  have hpc := hp.2.1
  have hVSm : VS 2 8 3 ac Ms M := by rw [hmt]; exact hVS
  refine n_iconst c_54_0 ?_
  refine n_aload_n c_54_1 rfl ?_
  refine n_getR c_54_2 sc_15.n rfl rfl rfl r_15_2 ?_
  refine n_iload_n c_54_5 rfl ?_
  refine n_ialoadV c_54_6 sc_21.n rfl rfl rfl (by omega) (hI.s (by omega) (by omega)) ?_
  intro z1 ez1 f2
  refine n_iadd c_54_7 rfl ?_
  refine n_istore_n (L2 := [some (2, 15), some (2, p), some (0, e0), some (0, (1 + z1)), none]) c_54_8 rfl rfl ?_
  refine n_aload_n c_54_9 rfl ?_
  refine n_getV (bi := 0) c_54_10 hp.c0.1.n rfl rfl rfl (t_actl hS hp hpl).1 ?_
  intro z3 ez3 f4
  have kp0 : z3 = Ms p 0 := by rw [ez3, hmt]; exact hfm p 0 (by omega) (by omega) (by omega)
  refine n_iconst c_54_13 ?_
  refine n_if2_ne c_54_14 (by omega) (by omega) ?_ ?_
  · intro h5
    refine n_aload_n c_54_33 rfl ?_
    refine n_getV (bi := 0) c_54_34 hp.c0.1.n rfl rfl rfl (t_actl hS hp hpl).1 ?_
    intro z6 ez6 f7
    have kp1 : z6 = Ms p 0 := by rw [ez6, hmt]; exact hfm p 0 (by omega) (by omega) (by omega)
    refine n_iconst c_54_37 ?_
    refine n_if2_ne c_54_38 (by omega) (by omega) ?_ ?_
    · intro h8
      refine n_iconst c_54_72 ?_
      refine n_istore (L2 := [some (2, 15), some (2, p), some (0, e0), some (0, (1 + z1)), some (0, 0)]) c_54_73 rfl rfl ?_
      refine n_fg (le_s (le_s (le_s (le_s (le_s le_0))))) ?_
      exact (putOnX_3_2_c hS hp hpl he0 hK hmt hIt hfm heg hwa hcl hVS hCE hI2 hva 1044).1 _ _ M hS (by omega) (by omega) hK (by exact hI) (by exact (show GR Mt M by rw [hmt]; exact GR.refl)) (by exact (show FBm Mt M by rw [hmt]; exact FBm.refl)) (by exact fun _ => Or.inr (fun a b c u => by have u3 := u.2; omega)) (by exact hVSm) (by exact (show SL (Mt 21 e0) Mt M by rw [hmt]; exact SL.refl)) (by have y : M 21 e0 = Mt 21 e0 := (by rw [hmt]); omega) (by exact fun a b c (u : a = e0 ∧ 0 ≤ b ∧ b < 0 ∧ 0 ≤ c ∧ c < e0 + 1) => by have y := u.2.1; have y2 := u.2.2.1; omega) (by have hwk := hwa.1.1; omega) (by omega)
    · intro h9
      refine n_aload_n c_54_41 rfl ?_
      refine n_aload_n c_54_42 rfl ?_
      refine n_getR c_54_43 hp.c0.1.n rfl rfl rfl hp.r.1 ?_
      refine n_iload_n c_54_46 rfl ?_
      refine n_iload_n c_54_47 rfl ?_
      refine n_iconst c_54_48 ?_
      refine n_iload_n c_54_49 rfl ?_
      refine n_iload_n c_54_50 rfl ?_
      have hz0 : ∀ z : Int, 0 ≤ z → z ≤ e0 → M 21 z = Mt 21 z := fun z z0 z1 => ((show SL (Mt 21 e0) Mt M by rw [hmt]; exact SL.refl).1 z z0 (by omega)).2.1 (hI2 z e0 z0 z1 (by omega))
      have hze0 := hz0 e0 (by omega) (by omega)
      have hzs0 := (hVS e0 (by omega) (by omega)).r
      refine n_v6V c_54_51 rfl sc_15.n rfl rfl rfl rfl (sweepXT_3_2 (p := p) (x := e0) (y := e0) (f := 0) (t := e0) (s := (1 + z1)) (Ms := Ms) (Mt := M) (L := (Mt 21 e0)) hS hp hpl (by omega) (by omega) (by omega) (by omega) (by omega) hK (by rfl) (by exact hI) (by exact hfm.tr ((show FBm Mt M by rw [hmt]; exact FBm.refl)).1) (by omega) (by omega) (by omega) (by exact hcl) (by exact hVSm) (by rw [hmt]; exact hCE) (by exact fun z z0 z1 => by have y := hz0 z (by omega) (by omega); have y2 := hI2 z e0 (by omega) (by omega) (by omega); have y3 := (hVS z (by omega) (by omega)).r; omega) (by exact fun z q z0 z1 z2 => by rw [hz0 z (by omega) (by omega), hz0 q (by omega) (by omega)]; exact hI2 z q (by omega) z1 (by omega)) (by exact fun z z0 z1 => by have y := hva _ _ _ _ _ _ (hVSm e0 (by omega) (by omega)) (hVSm e0 (by omega) (by omega)) (hVSm z (by omega) (by omega)); rw [show Ms p 0 = 2 by omega, cst2] at y; have y2 := hz0 z (by omega) (by omega); exact VAL.cg y (by omega))) ?_
      intro  M10 hP11
      obtain ⟨hS10, f11K, f11p0, f11p1, f11p2, f11p3, f11p4, f11p5, f11p6⟩ := hP11
      have ps0 := PSD.of (k := 2) (Mt := Mt) f11p6 (((show GR Mt M by rw [hmt]; exact GR.refl)).2 e0 (by omega) (by omega)) (((show GR Mt M by rw [hmt]; exact GR.refl)).2 e0 (by omega) (by omega)) (fun z z0 z1 => ⟨((show GR Mt M by rw [hmt]; exact GR.refl)).2 z (by omega) (by omega), by rw [cst2]; have y2 := hz0 z (by omega) (by omega); exact congrArg kap (by omega)⟩)
      have sl0 := ((show SL (Mt 21 e0) Mt M by rw [hmt]; exact SL.refl)).tr f11p5 (show GR Mt M by rw [hmt]; exact GR.refl)
      have gn0 := ((show GR Mt M by rw [hmt]; exact GR.refl)).tr f11p1
      have fn0 := ((show FBm Mt M by rw [hmt]; exact FBm.refl)).tr f11p3
      have sn0 := f11p2.bs (show GR Mt M by rw [hmt]; exact GR.refl) (show FBm Mt M by rw [hmt]; exact FBm.refl) (fun a b c u => ⟨by have u1 := u.1; omega, by have u2 := u.2.1; omega, by have u3 := u.2.2; omega⟩)
      have hq0 := gn0.1
      refine n_aload_n c_54_54 rfl ?_
      refine n_aload_n c_54_55 rfl ?_
      refine n_getR c_54_56 hp.c0.1.n rfl rfl rfl hp.r.2 ?_
      refine n_iload_n c_54_59 rfl ?_
      refine n_iload_n c_54_60 rfl ?_
      refine n_iconst c_54_61 ?_
      refine n_iload_n c_54_62 rfl ?_
      refine n_iconst c_54_63 ?_
      refine n_isub c_54_64 rfl ?_
      refine n_iload_n c_54_65 rfl ?_
      have hz1 : ∀ z : Int, 0 ≤ z → z ≤ e0 → M10 21 z = Mt 21 z := fun z z0 z1 => (sl0.1 z z0 (by omega)).2.1 (hI2 z e0 z0 z1 (by omega))
      have hze1 := hz1 e0 (by omega) (by omega)
      have hzs1 := (hVS e0 (by omega) (by omega)).r
      refine n_v6V c_54_66 rfl sc_15.n rfl rfl rfl rfl (sweepXU_3_2 (p := p) (x := e0) (y := e0) (f := 0) (t := (e0 - 1)) (s := (1 + z1)) (Ms := Ms) (Mt := M10) (L := (Mt 21 e0)) hS10 hp hpl (by omega) (by omega) (by omega) (by omega) (by omega) f11K (by rfl) (by exact f11p0) (by exact hfm.tr (fn0).1) (by omega) (by omega) (by omega) (by exact fun X Y Z hX hY hZ => by rw [mcm_tr hd hwa.2.2]; exact hcl X Z Y hX hZ hY) (by exact f11p4) (by exact hCE.gr gn0 sl0 (fn0).2.2) (by exact fun z z0 z1 => by have y := hz1 z (by omega) (by omega); have y2 := hI2 z e0 (by omega) (by omega) (by omega); have y3 := (hVS z (by omega) (by omega)).r; omega) (by exact fun z q z0 z1 z2 => by rw [hz1 z (by omega) (by omega), hz1 q (by omega) (by omega)]; exact hI2 z q (by omega) z1 (by omega)) (by exact fun z z0 z1 => by have y := hva _ _ _ _ _ _ (f11p4 e0 (by omega) (by omega)) (f11p4 z (by omega) (by omega)) (f11p4 e0 (by omega) (by omega)); rw [show Ms p 0 = 2 by omega, cst2] at y; rw [mcm_tr hd hwa.2.2]; have y2 := hz1 z (by omega) (by omega); exact VAL.cg y (by omega))) ?_
      intro  M12 hP13
      obtain ⟨hS12, f13K, f13p0, f13p1, f13p2, f13p3, f13p4, f13p5, f13p6⟩ := hP13
      have ps1 := PSD.ou hd hwa.2.2 (k := 2) (Mt := Mt) f13p6 ((gn0).2 e0 (by omega) (by omega)) ((gn0).2 e0 (by omega) (by omega)) (fun z z0 z1 => ⟨(gn0).2 z (by omega) (by omega), by rw [cst2]; have y2 := hz1 z (by omega) (by omega); exact congrArg kap (by omega)⟩)
      have sl1 := (sl0).tr f13p5 gn0
      have gn1 := (gn0).tr f13p1
      have fn1 := (fn0).tr f13p3
      have sn1 := f13p2.bs gn0 fn0 (fun a b c u => ⟨by have u1 := u.1; omega, by have u2 := u.2.1; omega, by have u3 := u.2.2; omega⟩)
      have sn1 := sn1.tn hd hwa.2.2
      have hq1 := gn1.1
      refine n_goto c_54_69 ?_
      exact n_rV c_54_170 rfl ⟨hS12, f13K, by exact f13p0, by exact gn1, by exact POS.two hd (by omega) (by have y := hwa.2.1; rw [← kp1, show z6 = 2 by omega] at y; exact y) gn1 ((sn0).gr f13p1) (sn1), by exact fn1, by exact f13p4, by exact sl1, by rw [show Ms p 0 = 2 by omega]; exact POz.two hd (by omega) (by have y := hwa.2.1; rw [← kp1, show z6 = 2 by omega] at y; exact y) gn1 sl1 ((ps0).gr f13p1 f13p5) (ps1)⟩
  · intro h14
    refine n_aload_n c_54_17 rfl ?_
    refine n_aload_n c_54_18 rfl ?_
    refine n_getR c_54_19 hp.c0.1.n rfl rfl rfl hp.r.1 ?_
    refine n_iload_n c_54_22 rfl ?_
    refine n_iload_n c_54_23 rfl ?_
    refine n_iload_n c_54_24 rfl ?_
    refine n_iload_n c_54_25 rfl ?_
    refine n_iconst c_54_26 ?_
    have hz0 : ∀ z : Int, 0 ≤ z → z ≤ e0 → M 21 z = Mt 21 z := fun z z0 z1 => ((show SL (Mt 21 e0) Mt M by rw [hmt]; exact SL.refl).1 z z0 (by omega)).2.1 (hI2 z e0 z0 z1 (by omega))
    have hze0 := hz0 e0 (by omega) (by omega)
    have hzs0 := (hVS e0 (by omega) (by omega)).r
    refine n_v6V c_54_27 rfl sc_15.n rfl rfl rfl rfl (sweepXT_3_2 (p := p) (x := e0) (y := e0) (f := e0) (t := e0) (s := 1) (Ms := Ms) (Mt := M) (L := (Mt 21 e0)) hS hp hpl (by omega) (by omega) (by omega) (by omega) (by omega) hK (by rfl) (by exact hI) (by exact hfm.tr ((show FBm Mt M by rw [hmt]; exact FBm.refl)).1) (by omega) (by omega) (by omega) (by exact hcl) (by exact hVSm) (by rw [hmt]; exact hCE) (by exact fun z z0 z1 => by have ez : z = e0 := (by omega); rw [ez]; have y := hz0 e0 (by omega) (by omega); have y3 := (hVS e0 (by omega) (by omega)).r; omega) (by exact fun z q z0 z1 z2 => by rw [hz0 z (by omega) (by omega), hz0 q (by omega) (by omega)]; exact hI2 z q (by omega) z1 (by omega)) (by exact fun z z0 z1 => by have y := hva _ _ _ _ _ _ (hVSm e0 (by omega) (by omega)) (hVSm e0 (by omega) (by omega)) (hVSm z (by omega) (by omega)); rw [show Ms p 0 = 1 by omega, cst1] at y; have y2 := hz0 z (by omega) (by omega); exact VAL.cg y (by omega))) ?_
    intro  M15 hP16
    obtain ⟨hS15, f16K, f16p0, f16p1, f16p2, f16p3, f16p4, f16p5, f16p6⟩ := hP16
    have ps0 := PSD.of (k := 1) (Mt := Mt) f16p6 (((show GR Mt M by rw [hmt]; exact GR.refl)).2 e0 (by omega) (by omega)) (((show GR Mt M by rw [hmt]; exact GR.refl)).2 e0 (by omega) (by omega)) (fun z z0 z1 => ⟨((show GR Mt M by rw [hmt]; exact GR.refl)).2 z (by omega) (by omega), by rw [cst1]; have y2 := hz0 z (by omega) (by omega); exact congrArg kap (by omega)⟩)
    have sl0 := ((show SL (Mt 21 e0) Mt M by rw [hmt]; exact SL.refl)).tr f16p5 (show GR Mt M by rw [hmt]; exact GR.refl)
    have gn0 := ((show GR Mt M by rw [hmt]; exact GR.refl)).tr f16p1
    have fn0 := ((show FBm Mt M by rw [hmt]; exact FBm.refl)).tr f16p3
    have sn0 := f16p2.bs (show GR Mt M by rw [hmt]; exact GR.refl) (show FBm Mt M by rw [hmt]; exact FBm.refl) (fun a b c u => ⟨by have u1 := u.1; omega, by have u2 := u.2.1; omega, by have u3 := u.2.2; omega⟩)
    have hq0 := gn0.1
    refine n_goto c_54_30 ?_
    exact n_rV c_54_170 rfl ⟨hS15, f16K, by exact f16p0, by exact gn0, by exact POS.one hd (by omega) (by have y := hwa.2.1; rw [← kp0, show z3 = 1 by omega] at y; exact y) gn0 (sn0), by exact fn0, by exact f16p4, by exact sl0, by rw [show Ms p 0 = 1 by omega]; exact POz.one hd (by omega) (by have y := hwa.2.1; rw [← kp0, show z3 = 1 by omega] at y; exact y) gn0 sl0 (ps0)⟩

set_option maxHeartbeats 4000000 in
theorem changeInX20_3_2 {xs : List Int32} {e : Nat} {ac : Int} {M0 M : nM} {i j g : Int} (hS : Sf 2 ac M0 M) (hi : 0 ≤ i ∧ i ≤ 256) (hj : 0 ≤ j ∧ j ≤ 256) (hK : MK 256 8 7 56 192 1 2 4 8 16 32 64 128 0 M) (hg : M 15 10 = g) (hig : i < g) (hjg : j < g) : nW xs e 61 0 [some (2, 15), some (2, 20), some (0, i), some (0, j), none] [] M (nPV fun M1 => Sf 2 ac M0 M1 ∧ (M1 15 10 = g) ∧ MK 256 8 7 56 192 1 2 4 8 16 32 64 128 0 M1 ∧ (M1 = swq M 20 i j)) := by
  have hd : (2 : Int) = 2 ∨ (2 : Int) = 3 := by decide
  have hac := hS.2.2.2.2
  refine n_aload_n c_61_0 rfl ?_
  refine n_iload_n c_61_1 rfl ?_
  refine n_ialoadV c_61_2 sc_20.n rfl rfl rfl (by omega) (hK.r20 hS (by omega) (by omega)) ?_
  intro z1 ez1 f2
  refine n_istore (L2 := [some (2, 15), some (2, 20), some (0, i), some (0, j), some (0, z1)]) c_61_3 rfl rfl ?_
  refine n_aload_n c_61_5 rfl ?_
  refine n_iload_n c_61_6 rfl ?_
  refine n_aload_n c_61_7 rfl ?_
  refine n_iload_n c_61_8 rfl ?_
  refine n_ialoadV c_61_9 sc_20.n rfl rfl rfl (by omega) (hK.r20 hS (by omega) (by omega)) ?_
  intro z3 ez3 f4
  refine n_iastoreV hS c_61_10 sc_20.n rfl (by omega) (w_20 (by omega) (by omega)) ?_
  intro M5 eM5 hS5
  have hK5 := hK.u (by unfold Kok; omega) eM5
  have g5_0 : M5 15 10 = M 15 10 := by rw [eM5]; exact nu_a (by omega)
  refine n_aload_n c_61_11 rfl ?_
  refine n_iload_n c_61_12 rfl ?_
  refine n_iload c_61_13 rfl ?_
  refine n_iastoreV hS5 c_61_15 sc_20.n rfl (by omega) (w_20 (by omega) (by omega)) ?_
  intro M6 eM6 hS6
  have hK6 := hK5.u (by unfold Kok; omega) eM6
  have g6_0 : M6 15 10 = M5 15 10 := by rw [eM6]; exact nu_a (by omega)
  exact n_rV c_61_16 rfl ⟨hS6, by omega, hK6, by show M6 = nu (nu M 20 i (M 20 j)) 20 j (M 20 i); rw [eM6, eM5, ez3, ez1]⟩

set_option maxHeartbeats 4000000 in
theorem changeInX21_3_2 {xs : List Int32} {e : Nat} {ac : Int} {M0 M : nM} {i j g : Int} (hS : Sf 2 ac M0 M) (hi : 0 ≤ i ∧ i ≤ 256) (hj : 0 ≤ j ∧ j ≤ 256) (hK : MK 256 8 7 56 192 1 2 4 8 16 32 64 128 0 M) (hg : M 15 10 = g) (hig : i < g) (hjg : j < g) : nW xs e 61 0 [some (2, 15), some (2, 21), some (0, i), some (0, j), none] [] M (nPV fun M1 => Sf 2 ac M0 M1 ∧ (M1 15 10 = g) ∧ MK 256 8 7 56 192 1 2 4 8 16 32 64 128 0 M1 ∧ (M1 = swq M 21 i j)) := by
  have hd : (2 : Int) = 2 ∨ (2 : Int) = 3 := by decide
  have hac := hS.2.2.2.2
  refine n_aload_n c_61_0 rfl ?_
  refine n_iload_n c_61_1 rfl ?_
  refine n_ialoadV c_61_2 sc_21.n rfl rfl rfl (by omega) (t_21 hS (by omega)) ?_
  intro z1 ez1 f2
  refine n_istore (L2 := [some (2, 15), some (2, 21), some (0, i), some (0, j), some (0, z1)]) c_61_3 rfl rfl ?_
  refine n_aload_n c_61_5 rfl ?_
  refine n_iload_n c_61_6 rfl ?_
  refine n_aload_n c_61_7 rfl ?_
  refine n_iload_n c_61_8 rfl ?_
  refine n_ialoadV c_61_9 sc_21.n rfl rfl rfl (by omega) (t_21 hS (by omega)) ?_
  intro z3 ez3 f4
  refine n_iastoreV hS c_61_10 sc_21.n rfl (by omega) (w_21 (by omega) (by omega)) ?_
  intro M5 eM5 hS5
  have hK5 := hK.u (by unfold Kok; omega) eM5
  have g5_0 : M5 15 10 = M 15 10 := by rw [eM5]; exact nu_a (by omega)
  refine n_aload_n c_61_11 rfl ?_
  refine n_iload_n c_61_12 rfl ?_
  refine n_iload c_61_13 rfl ?_
  refine n_iastoreV hS5 c_61_15 sc_21.n rfl (by omega) (w_21 (by omega) (by omega)) ?_
  intro M6 eM6 hS6
  have hK6 := hK5.u (by unfold Kok; omega) eM6
  have g6_0 : M6 15 10 = M5 15 10 := by rw [eM6]; exact nu_a (by omega)
  exact n_rV c_61_16 rfl ⟨hS6, by omega, hK6, by show M6 = nu (nu M 21 i (M 21 j)) 21 j (M 21 i); rw [eM6, eM5, ez3, ez1]⟩

set_option maxHeartbeats 4000000 in
theorem changeInX22_3_2 {xs : List Int32} {e : Nat} {ac : Int} {M0 M : nM} {i j g : Int} (hS : Sf 2 ac M0 M) (hi : 0 ≤ i ∧ i ≤ 256) (hj : 0 ≤ j ∧ j ≤ 256) (hK : MK 256 8 7 56 192 1 2 4 8 16 32 64 128 0 M) (hg : M 15 10 = g) (hig : i < g) (hjg : j < g) : nW xs e 61 0 [some (2, 15), some (2, 22), some (0, i), some (0, j), none] [] M (nPV fun M1 => Sf 2 ac M0 M1 ∧ (M1 15 10 = g) ∧ MK 256 8 7 56 192 1 2 4 8 16 32 64 128 0 M1 ∧ (M1 = swq M 22 i j)) := by
  have hd : (2 : Int) = 2 ∨ (2 : Int) = 3 := by decide
  have hac := hS.2.2.2.2
  refine n_aload_n c_61_0 rfl ?_
  refine n_iload_n c_61_1 rfl ?_
  refine n_ialoadV c_61_2 sc_22.n rfl rfl rfl (by omega) (hK.r22 hS (by omega) (by omega)) ?_
  intro z1 ez1 f2
  refine n_istore (L2 := [some (2, 15), some (2, 22), some (0, i), some (0, j), some (0, z1)]) c_61_3 rfl rfl ?_
  refine n_aload_n c_61_5 rfl ?_
  refine n_iload_n c_61_6 rfl ?_
  refine n_aload_n c_61_7 rfl ?_
  refine n_iload_n c_61_8 rfl ?_
  refine n_ialoadV c_61_9 sc_22.n rfl rfl rfl (by omega) (hK.r22 hS (by omega) (by omega)) ?_
  intro z3 ez3 f4
  refine n_iastoreV hS c_61_10 sc_22.n rfl (by omega) (w_22 (by omega) (by omega)) ?_
  intro M5 eM5 hS5
  have hK5 := hK.u (by unfold Kok; omega) eM5
  have g5_0 : M5 15 10 = M 15 10 := by rw [eM5]; exact nu_a (by omega)
  refine n_aload_n c_61_11 rfl ?_
  refine n_iload_n c_61_12 rfl ?_
  refine n_iload c_61_13 rfl ?_
  refine n_iastoreV hS5 c_61_15 sc_22.n rfl (by omega) (w_22 (by omega) (by omega)) ?_
  intro M6 eM6 hS6
  have hK6 := hK5.u (by unfold Kok; omega) eM6
  have g6_0 : M6 15 10 = M5 15 10 := by rw [eM6]; exact nu_a (by omega)
  exact n_rV c_61_16 rfl ⟨hS6, by omega, hK6, by show M6 = nu (nu M 22 i (M 22 j)) 22 j (M 22 i); rw [eM6, eM5, ez3, ez1]⟩

set_option maxHeartbeats 4000000 in
theorem changeInX23_3_2 {xs : List Int32} {e : Nat} {ac : Int} {M0 M : nM} {i j g : Int} (hS : Sf 2 ac M0 M) (hi : 0 ≤ i ∧ i ≤ 256) (hj : 0 ≤ j ∧ j ≤ 256) (hK : MK 256 8 7 56 192 1 2 4 8 16 32 64 128 0 M) (hg : M 15 10 = g) (hig : i < g) (hjg : j < g) : nW xs e 61 0 [some (2, 15), some (2, 23), some (0, i), some (0, j), none] [] M (nPV fun M1 => Sf 2 ac M0 M1 ∧ (M1 15 10 = g) ∧ MK 256 8 7 56 192 1 2 4 8 16 32 64 128 0 M1 ∧ (M1 = swq M 23 i j)) := by
  have hd : (2 : Int) = 2 ∨ (2 : Int) = 3 := by decide
  have hac := hS.2.2.2.2
  refine n_aload_n c_61_0 rfl ?_
  refine n_iload_n c_61_1 rfl ?_
  refine n_ialoadV c_61_2 sc_23.n rfl rfl rfl (by omega) (hK.r23 hS (by omega) (by omega)) ?_
  intro z1 ez1 f2
  refine n_istore (L2 := [some (2, 15), some (2, 23), some (0, i), some (0, j), some (0, z1)]) c_61_3 rfl rfl ?_
  refine n_aload_n c_61_5 rfl ?_
  refine n_iload_n c_61_6 rfl ?_
  refine n_aload_n c_61_7 rfl ?_
  refine n_iload_n c_61_8 rfl ?_
  refine n_ialoadV c_61_9 sc_23.n rfl rfl rfl (by omega) (hK.r23 hS (by omega) (by omega)) ?_
  intro z3 ez3 f4
  refine n_iastoreV hS c_61_10 sc_23.n rfl (by omega) (w_23 (by omega) (by omega)) ?_
  intro M5 eM5 hS5
  have hK5 := hK.u (by unfold Kok; omega) eM5
  have g5_0 : M5 15 10 = M 15 10 := by rw [eM5]; exact nu_a (by omega)
  refine n_aload_n c_61_11 rfl ?_
  refine n_iload_n c_61_12 rfl ?_
  refine n_iload c_61_13 rfl ?_
  refine n_iastoreV hS5 c_61_15 sc_23.n rfl (by omega) (w_23 (by omega) (by omega)) ?_
  intro M6 eM6 hS6
  have hK6 := hK5.u (by unfold Kok; omega) eM6
  have g6_0 : M6 15 10 = M5 15 10 := by rw [eM6]; exact nu_a (by omega)
  exact n_rV c_61_16 rfl ⟨hS6, by omega, hK6, by show M6 = nu (nu M 23 i (M 23 j)) 23 j (M 23 i); rw [eM6, eM5, ez3, ez1]⟩

set_option maxHeartbeats 4000000 in
theorem changeInX24_3_2 {xs : List Int32} {e : Nat} {ac : Int} {M0 M : nM} {i j g : Int} (hS : Sf 2 ac M0 M) (hi : 0 ≤ i ∧ i ≤ 256) (hj : 0 ≤ j ∧ j ≤ 256) (hK : MK 256 8 7 56 192 1 2 4 8 16 32 64 128 0 M) (hg : M 15 10 = g) (hig : i < g) (hjg : j < g) : nW xs e 61 0 [some (2, 15), some (2, 24), some (0, i), some (0, j), none] [] M (nPV fun M1 => Sf 2 ac M0 M1 ∧ (M1 15 10 = g) ∧ MK 256 8 7 56 192 1 2 4 8 16 32 64 128 0 M1 ∧ (M1 = swq M 24 i j)) := by
  have hd : (2 : Int) = 2 ∨ (2 : Int) = 3 := by decide
  have hac := hS.2.2.2.2
  refine n_aload_n c_61_0 rfl ?_
  refine n_iload_n c_61_1 rfl ?_
  refine n_ialoadV c_61_2 sc_24.n rfl rfl rfl (by omega) (hK.r24 hS (by omega) (by omega)) ?_
  intro z1 ez1 f2
  refine n_istore (L2 := [some (2, 15), some (2, 24), some (0, i), some (0, j), some (0, z1)]) c_61_3 rfl rfl ?_
  refine n_aload_n c_61_5 rfl ?_
  refine n_iload_n c_61_6 rfl ?_
  refine n_aload_n c_61_7 rfl ?_
  refine n_iload_n c_61_8 rfl ?_
  refine n_ialoadV c_61_9 sc_24.n rfl rfl rfl (by omega) (hK.r24 hS (by omega) (by omega)) ?_
  intro z3 ez3 f4
  refine n_iastoreV hS c_61_10 sc_24.n rfl (by omega) (w_24 (by omega) (by omega)) ?_
  intro M5 eM5 hS5
  have hK5 := hK.u (by unfold Kok; omega) eM5
  have g5_0 : M5 15 10 = M 15 10 := by rw [eM5]; exact nu_a (by omega)
  refine n_aload_n c_61_11 rfl ?_
  refine n_iload_n c_61_12 rfl ?_
  refine n_iload c_61_13 rfl ?_
  refine n_iastoreV hS5 c_61_15 sc_24.n rfl (by omega) (w_24 (by omega) (by omega)) ?_
  intro M6 eM6 hS6
  have hK6 := hK5.u (by unfold Kok; omega) eM6
  have g6_0 : M6 15 10 = M5 15 10 := by rw [eM6]; exact nu_a (by omega)
  exact n_rV c_61_16 rfl ⟨hS6, by omega, hK6, by show M6 = nu (nu M 24 i (M 24 j)) 24 j (M 24 i); rw [eM6, eM5, ez3, ez1]⟩

set_option maxHeartbeats 4000000 in
theorem changeX_3_2 {xs : List Int32} {e : Nat} {ac : Int} {M : nM} {i j : Int} {Ms : nM} (hS : Sf 2 ac M M) (hi : 0 ≤ i ∧ i ≤ 256) (hj : 0 ≤ j ∧ j ≤ 256) (hK : MK 256 8 7 56 192 1 2 4 8 16 32 64 128 0 M) (hI : MI 2 8 3 ac Ms M) (hig : i < M 15 10) (hjg : j < M 15 10) : nW xs (e + 1) 60 0 [some (2, 15), some (0, i), some (0, j)] [] M (nPV fun M1 => Sf 2 ac M1 M1 ∧ MK 256 8 7 56 192 1 2 4 8 16 32 64 128 0 M1 ∧ (MI 2 8 3 ac Ms M1) ∧ (∀ c : Int, HAS M1 c ↔ HAS M c) ∧ (M1 15 10 = M 15 10) ∧ (∀ q : Int, q ≠ i → q ≠ j → M1 20 q = M 20 q) ∧ (FAm M M1) ∧ (SWP i j M M1)) := by
  have hd : (2 : Int) = 2 ∨ (2 : Int) = 3 := by decide
  have hac := hS.2.2.2.2
  refine n_aload_n c_60_0 rfl ?_
  refine n_aload_n c_60_1 rfl ?_
  refine n_getR c_60_2 sc_15.n rfl rfl rfl r_15_1 ?_
  refine n_iload_n c_60_5 rfl ?_
  refine n_iload_n c_60_6 rfl ?_
  refine n_v3V c_60_7 rfl sc_15.n rfl rfl rfl rfl (changeInX20_3_2 (i := i) (j := j) (g := (M 15 10)) hS (by omega) (by omega) hK rfl (by omega) (by omega)) ?_
  intro  M1 hP2
  obtain ⟨hS1, f2g0, f2K, f2p0⟩ := hP2
  have hS1c := hS1.2.2.2.1.1
  have hS1 := hS1.refl
  refine n_aload_n c_60_10 rfl ?_
  refine n_aload_n c_60_11 rfl ?_
  refine n_getR c_60_12 sc_15.n rfl rfl rfl r_15_2 ?_
  refine n_iload_n c_60_15 rfl ?_
  refine n_iload_n c_60_16 rfl ?_
  refine n_v3V c_60_17 rfl sc_15.n rfl rfl rfl rfl (changeInX21_3_2 (i := i) (j := j) (g := (M1 15 10)) hS1 (by omega) (by omega) f2K rfl (by omega) (by omega)) ?_
  intro  M3 hP4
  obtain ⟨hS3, f4g0, f4K, f4p0⟩ := hP4
  have hS3c := hS3.2.2.2.1.1
  have hS3 := hS3.refl
  refine n_aload_n c_60_20 rfl ?_
  refine n_aload_n c_60_21 rfl ?_
  refine n_getR c_60_22 sc_15.n rfl rfl rfl r_15_3 ?_
  refine n_iload_n c_60_25 rfl ?_
  refine n_iload_n c_60_26 rfl ?_
  refine n_v3V c_60_27 rfl sc_15.n rfl rfl rfl rfl (changeInX22_3_2 (i := i) (j := j) (g := (M3 15 10)) hS3 (by omega) (by omega) f4K rfl (by omega) (by omega)) ?_
  intro  M5 hP6
  obtain ⟨hS5, f6g0, f6K, f6p0⟩ := hP6
  have hS5c := hS5.2.2.2.1.1
  have hS5 := hS5.refl
  refine n_aload_n c_60_30 rfl ?_
  refine n_aload_n c_60_31 rfl ?_
  refine n_getR c_60_32 sc_15.n rfl rfl rfl r_15_4 ?_
  refine n_iload_n c_60_35 rfl ?_
  refine n_iload_n c_60_36 rfl ?_
  refine n_v3V c_60_37 rfl sc_15.n rfl rfl rfl rfl (changeInX23_3_2 (i := i) (j := j) (g := (M5 15 10)) hS5 (by omega) (by omega) f6K rfl (by omega) (by omega)) ?_
  intro  M7 hP8
  obtain ⟨hS7, f8g0, f8K, f8p0⟩ := hP8
  have hS7c := hS7.2.2.2.1.1
  have hS7 := hS7.refl
  refine n_aload_n c_60_40 rfl ?_
  refine n_aload_n c_60_41 rfl ?_
  refine n_getR c_60_42 sc_15.n rfl rfl rfl r_15_5 ?_
  refine n_iload_n c_60_45 rfl ?_
  refine n_iload_n c_60_46 rfl ?_
  refine n_v3V c_60_47 rfl sc_15.n rfl rfl rfl rfl (changeInX24_3_2 (i := i) (j := j) (g := (M7 15 10)) hS7 (by omega) (by omega) f8K rfl (by omega) (by omega)) ?_
  intro  M9 hP10
  obtain ⟨hS9, f10g0, f10K, f10p0⟩ := hP10
  have hS9c := hS9.2.2.2.1.1
  have hS9 := hS9.refl
  refine n_aload_n c_60_50 rfl ?_
  refine n_getP c_60_51 ?_
  intro p11 ep11
  refine n_aload_n c_60_54 rfl ?_
  refine n_getR c_60_55 sc_15.n rfl rfl rfl r_15_1 ?_
  refine n_iload_n c_60_58 rfl ?_
  refine n_ialoadV c_60_59 sc_20.n rfl rfl rfl (by omega) (f10K.r20 hS9 (by omega) (by omega)) ?_
  intro z12 ez12 f13
  refine n_iload_n c_60_60 rfl ?_
  refine n_iconst c_60_61 ?_
  refine n_iadd c_60_62 rfl ?_
  refine n_iastoreQ hS9 f10K c_60_63 ep11 (by omega) (by omega) ?_
  intro M14 eM14 fM14 hS14 hK14
  have g14_0 := fM14 15 10 (by omega) (by omega)
  refine n_aload_n c_60_64 rfl ?_
  refine n_getP c_60_65 ?_
  intro p15 ep15
  refine n_aload_n c_60_68 rfl ?_
  refine n_getR c_60_69 sc_15.n rfl rfl rfl r_15_1 ?_
  refine n_iload_n c_60_72 rfl ?_
  refine n_ialoadV c_60_73 sc_20.n rfl rfl rfl (by omega) (hK14.r20 hS14 (by omega) (by omega)) ?_
  intro z16 ez16 f17
  refine n_iload_n c_60_74 rfl ?_
  refine n_iconst c_60_75 ?_
  refine n_iadd c_60_76 rfl ?_
  refine n_iastoreQ hS14 hK14 c_60_77 ep15 (by omega) (by omega) ?_
  intro M18 eM18 fM18 hS18 hK18
  have g18_0 := fM18 15 10 (by omega) (by omega)
  have hP := hS.p9
  have ch := MI.chg (x := i) (y := j) hI hP (by omega) (by omega) (fun q q0 q1 => (hK.r20 hS q0 q1).1) f2p0 f4p0 f6p0 f8p0 f10p0 ez12 eM14 ez16 eM18
  have chz := SWP.mk hP f2p0 f4p0 f6p0 f8p0 f10p0 eM14 eM18
  exact n_rV c_60_78 rfl ⟨hS18, hK18, by exact ch.1, by exact ch.2.1, by exact ch.2.2.1, by exact ch.2.2.2.1, by exact ch.2.2.2.2, by exact chz⟩

set_option maxHeartbeats 4000000 in
theorem isAheadX_3_2 {xs : List Int32} {e : Nat} {ac : Int} {M0 M : nM} {i j : Int} (hS : Sf 2 ac M0 M) (hi : 0 ≤ i ∧ i ≤ 256) (hj : 0 ≤ j ∧ j ≤ 256) : nW xs e 58 0 [some (2, 15), some (0, i), some (0, j)] [] M (nPI fun z M1 => M = M1 ∧ (0 ≤ z ∧ z ≤ 1) ∧ (z = 1 ↔ LT M i j)) := by
  have hd : (2 : Int) = 2 ∨ (2 : Int) = 3 := by decide
  have hac := hS.2.2.2.2
  refine n_aload_n c_58_0 rfl ?_
  refine n_getR c_58_1 sc_15.n rfl rfl rfl r_15_2 ?_
  refine n_iload_n c_58_4 rfl ?_
  refine n_ialoadV c_58_5 sc_21.n rfl rfl rfl (by omega) (t_21 hS (by omega)) ?_
  intro z1 ez1 f2
  refine n_aload_n c_58_6 rfl ?_
  refine n_getR c_58_7 sc_15.n rfl rfl rfl r_15_2 ?_
  refine n_iload_n c_58_10 rfl ?_
  refine n_ialoadV c_58_11 sc_21.n rfl rfl rfl (by omega) (t_21 hS (by omega)) ?_
  intro z3 ez3 f4
  refine n_if2_lt c_58_12 (by omega) (by omega) ?_ ?_
  · intro h5
    refine n_iconst c_58_45 ?_
    refine n_goto c_58_46 ?_
    exact n_rZ c_58_50 rfl (by omega) ⟨rfl, by omega, by unfold LT; constructor <;> intro hq <;> omega⟩
  · intro h6
    refine n_aload_n c_58_15 rfl ?_
    refine n_getR c_58_16 sc_15.n rfl rfl rfl r_15_2 ?_
    refine n_iload_n c_58_19 rfl ?_
    refine n_ialoadV c_58_20 sc_21.n rfl rfl rfl (by omega) (t_21 hS (by omega)) ?_
    intro z7 ez7 f8
    refine n_aload_n c_58_21 rfl ?_
    refine n_getR c_58_22 sc_15.n rfl rfl rfl r_15_2 ?_
    refine n_iload_n c_58_25 rfl ?_
    refine n_ialoadV c_58_26 sc_21.n rfl rfl rfl (by omega) (t_21 hS (by omega)) ?_
    intro z9 ez9 f10
    refine n_if2_ne c_58_27 (by omega) (by omega) ?_ ?_
    · intro h11
      refine n_iconst c_58_49 ?_
      exact n_rZ c_58_50 rfl (by omega) ⟨rfl, by omega, by unfold LT; constructor <;> intro hq <;> omega⟩
    · intro h12
      refine n_aload_n c_58_30 rfl ?_
      refine n_getR c_58_31 sc_15.n rfl rfl rfl r_15_1 ?_
      refine n_iload_n c_58_34 rfl ?_
      refine n_ialoadV c_58_35 sc_20.n rfl rfl rfl (by omega) (t_20 hS (by omega)) ?_
      intro z13 ez13 f14
      refine n_aload_n c_58_36 rfl ?_
      refine n_getR c_58_37 sc_15.n rfl rfl rfl r_15_1 ?_
      refine n_iload_n c_58_40 rfl ?_
      refine n_ialoadV c_58_41 sc_20.n rfl rfl rfl (by omega) (t_20 hS (by omega)) ?_
      intro z15 ez15 f16
      refine n_if2_ge c_58_42 (by omega) (by omega) ?_ ?_
      · intro h17
        refine n_iconst c_58_49 ?_
        exact n_rZ c_58_50 rfl (by omega) ⟨rfl, by omega, by unfold LT; constructor <;> intro hq <;> omega⟩
      · intro h18
        refine n_iconst c_58_45 ?_
        refine n_goto c_58_46 ?_
        exact n_rZ c_58_50 rfl (by omega) ⟨rfl, by omega, by unfold LT; constructor <;> intro hq <;> omega⟩

set_option maxHeartbeats 4000000 in
theorem largestX_3_2_c {xs : List Int32} {e : Nat} {ac : Int} {M0 M : nM} {f : Int} (hS : Sf 2 ac M0 M) (hf : 0 ≤ f ∧ f ≤ 256) : ∀ nn : Nat, (∀ (x2 x3 : Int), (0 ≤ x2 ∧ x2 ≤ 2147483647) → (0 ≤ x3 ∧ x3 ≤ 257) → (∀ q : Int, f ≤ q → q < x3 → M 21 q ≤ x2) → (257 - x3) * 1 + 1 < (nn : Int) → nW xs (e + 1) 59 4 [some (2, 15), none, some (0, x2), some (0, x3)] [] M (nPI fun z M1 => M = M1 ∧ (-2147483648 ≤ z ∧ z ≤ 2147483647) ∧ (∀ q : Int, f ≤ q → q < M 15 10 → M 21 q ≤ z))) := by
  have hd : (2 : Int) = 2 ∨ (2 : Int) = 3 := by decide
  have hac := hS.2.2.2.2
  intro nn
  induction nn with
  | zero => intros; omega
  | succ nn ih =>
    intro x2 x3 k2 k3 v0 hnn
    refine n_iload_n c_59_4 rfl ?_
    refine n_aload_n c_59_5 rfl ?_
    refine n_getV (bi := 10) c_59_6 sc_15.n rfl rfl rfl (t_15_10 hS) ?_
    intro z1 ez1 f2
    refine n_if2_ge c_59_9 (by omega) (by omega) ?_ ?_
    · intro h3
      refine n_iload_n c_59_29 rfl ?_
      exact n_rI c_59_30 rfl ⟨rfl, by omega, by exact fun q h1 h2 => v0 q h1 (by omega)⟩
    · intro h4
      refine n_iload_n c_59_12 rfl ?_
      refine n_aload_n c_59_13 rfl ?_
      refine n_getR c_59_14 sc_15.n rfl rfl rfl r_15_2 ?_
      refine n_iload_n c_59_17 rfl ?_
      refine n_ialoadV c_59_18 sc_21.n rfl rfl rfl (by omega) (t_21 hS (by omega)) ?_
      intro z5 ez5 f6
      refine n_s2I c_59_19 rfl rfl rfl rfl (imax_2 (x := x2) (y := z5) hS (by omega) (by omega)) ?_
      intro z7 M8 hP9
      obtain ⟨eM, f9, f9p0⟩ := hP9
      subst eM
      refine n_istore_n (L2 := [some (2, 15), none, some (0, z7), some (0, x3)]) c_59_22 rfl rfl ?_
      refine n_iinc (L2 := [some (2, 15), none, some (0, z7), some (0, (x3 + 1))]) c_59_23 rfl rfl rfl ?_
      refine n_goto c_59_26 ?_
      refine n_fg (le_s (le_n (le_s (le_s le_0)))) ?_
      exact ih _ _ (by omega) (by omega) (by exact fun q h1 h2 => by have y := f9p0; by_cases u : q = x3; (rw [u]; omega); (have y2 := v0 q h1 (by omega); omega)) (by omega)
set_option maxHeartbeats 4000000 in
theorem largestX_3_2 {xs : List Int32} {e : Nat} {ac : Int} {M0 M : nM} {f : Int} (hS : Sf 2 ac M0 M) (hf : 0 ≤ f ∧ f ≤ 256) : nW xs (e + 1) 59 0 [some (2, 15), some (0, f), none, none] [] M (nPI fun z M1 => M = M1 ∧ (-2147483648 ≤ z ∧ z ≤ 2147483647) ∧ (∀ q : Int, f ≤ q → q < M 15 10 → M 21 q ≤ z)) := by
  have hd : (2 : Int) = 2 ∨ (2 : Int) = 3 := by decide
  have hac := hS.2.2.2.2
  refine n_iconst c_59_0 ?_
  refine n_istore_n (L2 := [some (2, 15), some (0, f), some (0, 0), none]) c_59_1 rfl rfl ?_
  refine n_iload_n c_59_2 rfl ?_
  refine n_istore_n (L2 := [some (2, 15), some (0, f), some (0, 0), some (0, f)]) c_59_3 rfl rfl ?_
  refine n_fg (le_s (le_n (le_s (le_s le_0)))) ?_
  exact (largestX_3_2_c hS hf 528) _ _ (by omega) (by omega) (by exact fun q h1 h2 => by omega) (by omega)

set_option maxHeartbeats 4000000 in
theorem bringX_3_2_c {xs : List Int32} {e : Nat} {ac : Int} {M : nM} {e0 : Int} {Ms : nM} {Mt : nM} (hS : Sf 2 ac M M) (he0 : 0 ≤ e0 ∧ e0 ≤ 256) (hK : MK 256 8 7 56 192 1 2 4 8 16 32 64 128 0 M) (hmt : M = Mt) (hIt : MI 2 8 3 ac Ms Mt) (heg : e0 < Mt 15 10) : ∀ nn : Nat, (∀ (x2 x3 : Int) (M : nM), Sf 2 ac M M → (0 ≤ x2 ∧ x2 ≤ 256) → (1 ≤ x3 ∧ x3 ≤ 257) → (MK 256 8 7 56 192 1 2 4 8 16 32 64 128 0 M) → (M = Mt) → (e0 ≤ x2) → (x2 < Mt 15 10) → (e0 ≤ x3) → (∀ i : Int, e0 ≤ i → i < x3 → i ≠ x2 → LT Mt x2 i) → (257 - x3) * 1 + 1 < (nn : Int) → nW xs (e + 2) 57 6 [some (2, 15), some (0, e0), some (0, x2), some (0, x3)] [] M (nPV fun M1 => Sf 2 ac M1 M1 ∧ MK 256 8 7 56 192 1 2 4 8 16 32 64 128 0 M1 ∧ (MI 2 8 3 ac Ms M1) ∧ (∀ c : Int, HAS M1 c ↔ HAS Mt c) ∧ (M1 15 10 = Mt 15 10) ∧ (∀ q : Int, q < e0 → M1 20 q = Mt 20 q) ∧ (FAm Mt M1) ∧ (∃ y : Int, e0 ≤ y ∧ y < Mt 15 10 ∧ SWP e0 y Mt M1) ∧ (∀ j : Int, e0 < j → j < Mt 15 10 → LT M1 e0 j))) := by
  have hd : (2 : Int) = 2 ∨ (2 : Int) = 3 := by decide
  have hac := hS.2.2.2.2
  have hI : MI 2 8 3 ac Ms M := by rw [hmt]; exact hIt
  have hm10 : M 15 10 = Mt 15 10 := by rw [hmt]
  intro nn
  induction nn with
  | zero => intros; omega
  | succ nn ih =>
    intro x2 x3 M hS k2 k3 hK v0 v1 v2 v3 v4 hnn
    have hm0 : M 15 10 = Mt 15 10 := by rw [v0]
    refine n_iload_n c_57_6 rfl ?_
    refine n_aload_n c_57_7 rfl ?_
    refine n_getV (bi := 10) c_57_8 sc_15.n rfl rfl rfl (t_15_10 hS) ?_
    intro z1 ez1 f2
    refine n_if2_ge c_57_11 (by omega) (by omega) ?_ ?_
    · intro h3
      refine n_aload_n c_57_31 rfl ?_
      refine n_iload_n c_57_32 rfl ?_
      refine n_iload_n c_57_33 rfl ?_
      refine n_v2V c_57_34 rfl sc_15.n rfl rfl rfl rfl (changeX_3_2 (i := e0) (j := x2) (Ms := Ms) hS (by omega) (by omega) hK (by rw [v0]; exact hIt) (by omega) (by omega)) ?_
      intro  M4 hP5
      obtain ⟨hS4, f5K, f5p0, f5p1, f5p2, f5p3, f5p4, f5p5⟩ := hP5
      exact n_rV c_57_37 rfl ⟨hS4, f5K, by exact f5p0, by rw [← v0]; exact f5p1, by rw [← v0]; exact f5p2, by rw [← v0]; exact fun q h1 => f5p3 q (by omega) (by omega), by rw [← v0]; exact f5p4, by rw [← v0]; exact ⟨x2, by omega, by omega, f5p5⟩, by have y := f5p5.lt (by omega) (fun i i0 i1 q => by rw [v0]; exact v4 i i0 (by omega) q); rw [v0] at y; exact y⟩
    · intro h6
      refine n_aload_n c_57_14 rfl ?_
      refine n_iload_n c_57_15 rfl ?_
      refine n_iload_n c_57_16 rfl ?_
      refine n_v2I c_57_17 rfl sc_15.n rfl rfl rfl rfl (isAheadX_3_2 (i := x3) (j := x2) hS (by omega) (by omega)) ?_
      intro z7 M8 hP9
      obtain ⟨eM, f9, f9p0⟩ := hP9
      subst eM
      refine n_if0_eq c_57_20 (by omega) ?_ ?_
      · intro h10
        refine n_iinc (L2 := [some (2, 15), some (0, e0), some (0, x2), some (0, (x3 + 1))]) c_57_25 rfl rfl rfl ?_
        refine n_goto c_57_28 ?_
        refine n_fg (le_s (le_s (le_s (le_s le_0)))) ?_
        exact ih _ _ M hS (by omega) (by omega) hK (by exact v0) (by omega) (by omega) (by omega) (by exact fun i i0 i1 q => by by_cases u : i = x3; (rw [u]; refine LT.no (fun y => ?_) (fun y => ?_); (rw [← v0] at y; have y2 := f9p0.mpr y; omega); (have y2 := hIt.dif x3 x2 (by omega) (by omega) (by omega) (by omega) y; omega)); (exact v4 i i0 (by omega) q)) (by omega)
      · intro h11
        refine n_iload_n c_57_23 rfl ?_
        refine n_istore_n (L2 := [some (2, 15), some (0, e0), some (0, x3), some (0, x3)]) c_57_24 rfl rfl ?_
        refine n_iinc (L2 := [some (2, 15), some (0, e0), some (0, x3), some (0, (x3 + 1))]) c_57_25 rfl rfl rfl ?_
        refine n_goto c_57_28 ?_
        refine n_fg (le_s (le_s (le_s (le_s le_0)))) ?_
        exact ih _ _ M hS (by omega) (by omega) hK (by exact v0) (by omega) (by omega) (by omega) (by exact fun i i0 i1 q => by have y := f9p0.mp (by omega); rw [v0] at y; by_cases u : i = x2; (rw [u]; exact y); (exact y.tr (v4 i i0 (by omega) u))) (by omega)
set_option maxHeartbeats 4000000 in
theorem bringX_3_2 {xs : List Int32} {e : Nat} {ac : Int} {M : nM} {e0 : Int} {Ms : nM} {Mt : nM} (hS : Sf 2 ac M M) (he0 : 0 ≤ e0 ∧ e0 ≤ 256) (hK : MK 256 8 7 56 192 1 2 4 8 16 32 64 128 0 M) (hmt : M = Mt) (hIt : MI 2 8 3 ac Ms Mt) (heg : e0 < Mt 15 10) : nW xs (e + 2) 57 0 [some (2, 15), some (0, e0), none, none] [] M (nPV fun M1 => Sf 2 ac M1 M1 ∧ MK 256 8 7 56 192 1 2 4 8 16 32 64 128 0 M1 ∧ (MI 2 8 3 ac Ms M1) ∧ (∀ c : Int, HAS M1 c ↔ HAS Mt c) ∧ (M1 15 10 = Mt 15 10) ∧ (∀ q : Int, q < e0 → M1 20 q = Mt 20 q) ∧ (FAm Mt M1) ∧ (∃ y : Int, e0 ≤ y ∧ y < Mt 15 10 ∧ SWP e0 y Mt M1) ∧ (∀ j : Int, e0 < j → j < Mt 15 10 → LT M1 e0 j)) := by
  have hd : (2 : Int) = 2 ∨ (2 : Int) = 3 := by decide
  have hac := hS.2.2.2.2
  have hI : MI 2 8 3 ac Ms M := by rw [hmt]; exact hIt
  have hm10 : M 15 10 = Mt 15 10 := by rw [hmt]
  refine n_iload_n c_57_0 rfl ?_
  refine n_istore_n (L2 := [some (2, 15), some (0, e0), some (0, e0), none]) c_57_1 rfl rfl ?_
  refine n_iload_n c_57_2 rfl ?_
  refine n_iconst c_57_3 ?_
  refine n_iadd c_57_4 rfl ?_
  refine n_istore_n (L2 := [some (2, 15), some (0, e0), some (0, e0), some (0, (e0 + 1))]) c_57_5 rfl rfl ?_
  refine n_fg (le_s (le_s (le_s (le_s le_0)))) ?_
  exact (bringX_3_2_c hS he0 hK hmt hIt heg 526) _ _ M hS (by omega) (by omega) hK (by exact hmt) (by omega) (by omega) (by omega) (by exact fun i i0 i1 q => by omega) (by omega)

set_option maxHeartbeats 4000000 in
theorem endX_3_2_c {xs : List Int32} {e : Nat} {ac : Int} {M : nM} {Ms : nM} {Mt : nM} (hS : Sf 2 ac M M) (hK : MK 256 8 7 56 192 1 2 4 8 16 32 64 128 0 M) (hmt : M = Mt) (hIt : MI 2 8 3 ac Ms Mt) (hVS : VS 2 8 3 ac Ms Mt) (hCL : CLp 2 8 3 ac Ms Mt) : ∀ nn : Nat, (∀ (x2 : Int) (M : nM), Sf 2 ac M M → (0 ≤ x2 ∧ x2 ≤ 256) → (MK 256 8 7 56 192 1 2 4 8 16 32 64 128 0 M) → (MI 2 8 3 ac Ms M) → (M 15 10 = Mt 15 10) → (M 109 0 = 1) → (KQ 109 (Mt 15 10) M) → (FMQ 109 Mt M) → (VS 2 8 3 ac Ms M) → (CLp 2 8 3 ac Ms M) → (OUd 109 x2 M) → (SRd x2 M) → (256 - x2) * 1 + 260 < (nn : Int) → nW xs (e + 3) 62 45 [some (2, 15), some (2, 109), some (0, x2)] [] M (nPV fun M1 => Sf 2 ac M1 M1 ∧ MK 256 8 7 56 192 1 2 4 8 16 32 64 128 0 M1 ∧ (M1 109 0 = 1) ∧ (KQ 109 (Mt 15 10) M1) ∧ (PZ M1) ∧ (FMQ 109 Mt M1) ∧ (M1 109 1 = 0 → LO 2 8 3 ac Ms 109 (M1 109 2) M1))) ∧ (∀ (x2 : Int) (M : nM), Sf 2 ac M M → (0 ≤ x2 ∧ x2 ≤ 257) → (MK 256 8 7 56 192 1 2 4 8 16 32 64 128 0 M) → (PZx x2 M) → (M 15 10 = Mt 15 10) → (M 109 0 = 1) → (KQ 109 (Mt 15 10) M) → (FMQ 109 Mt M) → (M 109 1 = 0 → LO 2 8 3 ac Ms 109 (M 109 2) M) → (257 - x2) * 1 + 1 < (nn : Int) → nW xs (e + 3) 62 90 [some (2, 15), none, some (0, x2)] [] M (nPV fun M1 => Sf 2 ac M1 M1 ∧ MK 256 8 7 56 192 1 2 4 8 16 32 64 128 0 M1 ∧ (M1 109 0 = 1) ∧ (KQ 109 (Mt 15 10) M1) ∧ (PZ M1) ∧ (FMQ 109 Mt M1) ∧ (M1 109 1 = 0 → LO 2 8 3 ac Ms 109 (M1 109 2) M1))) := by
  have hd : (2 : Int) = 2 ∨ (2 : Int) = 3 := by decide
  have hac := hS.2.2.2.2
  have hI : MI 2 8 3 ac Ms M := by rw [hmt]; exact hIt
  have hm10 : M 15 10 = Mt 15 10 := by rw [hmt]
  intro nn
  induction nn with
  | zero => refine ⟨?_, ?_⟩ <;> (intros; omega)
  | succ nn ih =>
    refine ⟨?_, ?_⟩
    · intro x2 M hS k2 hK v0 v1 v2 v3 v4 v5 v6 v7 v8 hnn
      have hkq := v3; unfold KQ at hkq
      refine n_iload_n c_62_45 rfl ?_
      refine n_aload_n c_62_46 rfl ?_
      refine n_getV (bi := 2) c_62_47 made109.c0.1.n rfl rfl rfl (t_made hS made109).2.2 ?_
      intro z1 ez1 f2
      refine n_if2_ge c_62_50 (by omega) (by omega) ?_ ?_
      · intro h3
        refine n_iconst c_62_88 ?_
        refine n_istore_n (L2 := [some (2, 15), some (2, 109), some (0, 0)]) c_62_89 rfl rfl ?_
        refine n_fg (le_s (le_n (le_s le_0))) ?_
        exact ih.2 _ M hS (by omega) hK (by exact v0.pzx) (by exact v1) (by exact v2) (by exact v3) (by exact v4) (by exact fun q1 => by have kq := hkq; have eN : M 109 2 = M 15 10 := (by omega); exact LO.mk (fun i i0 i1 => v7 i i0 (by omega)) (fun i j i0 i1 ij j1 => v8 i j i0 (by omega) ij j1) v6 v5 v0 eN (by omega)) (by omega)
      · intro h4
        refine n_aload_n c_62_53 rfl ?_
        refine n_iload_n c_62_54 rfl ?_
        refine n_v1V c_62_55 rfl sc_15.n rfl rfl rfl rfl (bringX_3_2 (e0 := x2) (Ms := Ms) (Mt := M) hS (by omega) hK (by rfl) (by exact v0) (by omega)) ?_
        intro  M5 hP6
        obtain ⟨hS5, f6K, f6p0, f6p1, f6p2, f6p3, f6p4, f6p5, f6p6⟩ := hP6
        obtain ⟨yb, yb0, yb1, swb⟩ := f6p5
        refine n_aload_n c_62_58 rfl ?_
        refine n_getR c_62_59 made109.c0.1.n rfl rfl rfl made109.r.1 ?_
        refine n_iload_n c_62_62 rfl ?_
        refine n_aload_n c_62_63 rfl ?_
        refine n_getR c_62_64 sc_15.n rfl rfl rfl r_15_1 ?_
        refine n_iload_n c_62_67 rfl ?_
        refine n_ialoadV c_62_68 sc_20.n rfl rfl rfl (by omega) (f6K.r20 hS5 (by omega) (by omega)) ?_
        intro z7 ez7 f8
        refine n_iastoreM hS5 c_62_69 made109.c0.2.1.n rfl (by omega) (m_mader (o := 1) made109 (by omega) (by omega) (by omega)) ?_
        intro M9 eM9 hS9
        have hK9 := f6K.u (by unfold Kok; omega) eM9
        refine n_aload_n c_62_70 rfl ?_
        refine n_getR c_62_71 made109.c0.1.n rfl rfl rfl made109.r.2 ?_
        refine n_iload_n c_62_74 rfl ?_
        refine n_aload_n c_62_75 rfl ?_
        refine n_getR c_62_76 sc_15.n rfl rfl rfl r_15_2 ?_
        refine n_iload_n c_62_79 rfl ?_
        refine n_ialoadV c_62_80 sc_21.n rfl rfl rfl (by omega) (t_21 hS9 (by omega)) ?_
        intro z10 ez10 f11
        refine n_iastoreM hS9 c_62_81 made109.c0.2.2.n rfl (by omega) (m_mader (o := 2) made109 (by omega) (by omega) (by omega)) ?_
        intro M12 eM12 hS12
        have hK12 := hK9.u (by unfold Kok; omega) eM12
        refine n_iinc (L2 := [some (2, 15), some (2, 109), some (0, (x2 + 1))]) c_62_82 rfl rfl rfl ?_
        refine n_goto c_62_85 ?_
        refine n_fg (le_s (le_s (le_s le_0))) ?_
        exact ih.1 _ M12 hS12 (by omega) hK12 (by exact f6p0.of hS5.p9 (by rw [eM12, nu_a (by omega), eM9, nu_a (by omega)]) (by rw [eM12, nu_a (by omega), eM9, nu_a (by omega)]) (fun a i q => by rw [eM12, nu_a (by omega), eM9, nu_a (by omega)])) (by rw [eM12, nu_a (by omega), eM9, nu_a (by omega)]; omega) (by rw [eM12, nu_a (by omega), eM9, nu_a (by omega)]; rw [f6p4.1 109 0 (by omega) (by omega) (by omega) (by omega)]; exact v2) (by exact v3.of (by rw [eM12, nu_a (by omega), eM9, nu_a (by omega)]; exact f6p4.1 109 1 (by omega) (by omega) (by omega) (by omega)) (by rw [eM12, nu_a (by omega), eM9, nu_a (by omega)]; exact f6p4.1 109 2 (by omega) (by omega) (by omega) (by omega))) (by exact FMQ.u (FMQ.u (v4.fb f6p4.fb) (by omega) eM9) (by omega) eM12) (by exact (swb.vs (f6p2) (by omega) (by omega) v5).e ((E15.mk eM9 (by omega)).tr (E15.mk eM12 (by omega)))) (by exact (v6.br swb (by omega) (by omega) (f6p2)).e ((E15.mk eM9 (by omega)).tr (E15.mk eM12 (by omega)))) (by exact OUd.st (q := 109) v7 (by omega) (by omega) (fun i => ⟨f6p4.1 _ i (by omega) (by omega) (by omega) (by omega), f6p4.1 _ i (by omega) (by omega) (by omega) (by omega)⟩) (fun i i0 i1 => ⟨(swb 20 (Or.inl rfl)).2.2 i (by omega) (by omega), (swb 21 (Or.inr rfl)).2.2 i (by omega) (by omega)⟩) (eM9.trans (by rw [ez7] <;> rfl)) (eM12.trans (by rw [ez10] <;> rfl))) (by exact (v8.br swb (by omega) (by omega) (f6p2) (fun j j0 j1 => f6p6 j j0 j1)).e ((E15.mk eM9 (by omega)).tr (E15.mk eM12 (by omega)))) (by omega)
    · intro x2 M hS k2 hK v0 v1 v2 v3 v4 v5 hnn
      have hkq := v3; unfold KQ at hkq
      refine n_iload_n c_62_90 rfl ?_
      refine n_aload_n c_62_91 rfl ?_
      refine n_getV (bi := 10) c_62_92 sc_15.n rfl rfl rfl (t_15_10 hS) ?_
      intro z1 ez1 f2
      refine n_if2_ge c_62_95 (by omega) (by omega) ?_ ?_
      · intro h3
        exact n_rV c_62_116 rfl ⟨hS, hK, by exact v2, by exact v3, by exact v0.fin (by omega), by exact v4, by exact v5⟩
      · intro h4
        refine n_aload_n c_62_98 rfl ?_
        refine n_getP c_62_99 ?_
        intro p5 ep5
        refine n_aload_n c_62_102 rfl ?_
        refine n_getR c_62_103 sc_15.n rfl rfl rfl r_15_1 ?_
        refine n_iload_n c_62_106 rfl ?_
        refine n_ialoadV c_62_107 sc_20.n rfl rfl rfl (by omega) (hK.r20 hS (by omega) (by omega)) ?_
        intro z6 ez6 f7
        refine n_iconst c_62_108 ?_
        refine n_iastoreQ hS hK c_62_109 ep5 (by omega) (by omega) ?_
        intro M8 eM8 fM8 hS8 hK8
        have g8_0 := fM8 15 10 (by omega) (by omega)
        refine n_iinc (L2 := [some (2, 15), none, some (0, (x2 + 1))]) c_62_110 rfl rfl rfl ?_
        refine n_goto c_62_113 ?_
        refine n_fg (le_s (le_n (le_s le_0))) ?_
        exact ih.2 _ M8 hS8 (by omega) hK8 (by exact v0.st hS.p9 ez6 eM8) (by rw [fM8 _ _ (by omega) (by omega)]; exact v1) (by rw [fM8 _ _ (by omega) (by omega)]; exact v2) (by exact v3.of (fM8 _ _ (by omega) (by omega)) (fM8 _ _ (by omega) (by omega))) (by exact fun a i p1 p2 p3 p4 p5 p6 => (fM8 a i (by omega) p2).trans (v4 a i p1 p2 p3 p4 p5 p6)) (by exact fun q1 => by rw [fM8 _ _ (by omega) (by omega)] at q1; rw [fM8 109 2 (by omega) (by omega)]; exact (v5 q1).e (fun i => ⟨fM8 _ i (by omega) (by omega), fM8 _ i (by omega) (by omega)⟩)) (by omega)
set_option maxHeartbeats 4000000 in
theorem endX_3_2 {xs : List Int32} {e : Nat} {ac : Int} {M : nM} {Ms : nM} {Mt : nM} (hS : Sf 2 ac M M) (hK : MK 256 8 7 56 192 1 2 4 8 16 32 64 128 0 M) (hmt : M = Mt) (hIt : MI 2 8 3 ac Ms Mt) (hVS : VS 2 8 3 ac Ms Mt) (hCL : CLp 2 8 3 ac Ms Mt) : nW xs (e + 3) 62 0 [some (2, 15), some (2, 109), none] [] M (nPV fun M1 => Sf 2 ac M1 M1 ∧ MK 256 8 7 56 192 1 2 4 8 16 32 64 128 0 M1 ∧ (M1 109 0 = 1) ∧ (KQ 109 (Mt 15 10) M1) ∧ (PZ M1) ∧ (FMQ 109 Mt M1) ∧ (M1 109 1 = 0 → LO 2 8 3 ac Ms 109 (M1 109 2) M1)) := by
  have hd : (2 : Int) = 2 ∨ (2 : Int) = 3 := by decide
  have hac := hS.2.2.2.2
  have hI : MI 2 8 3 ac Ms M := by rw [hmt]; exact hIt
  have hm10 : M 15 10 = Mt 15 10 := by rw [hmt]
  refine n_aload_n c_62_0 rfl ?_
  refine n_iconst c_62_1 ?_
  refine n_putZM (bi := 0) hS c_62_2 made109.c0.1.n rfl rfl rfl (by omega) rfl (m_made made109 (by omega) (by omega)) ?_
  intro M1 eM1 hS1
  have hK1 := hK.u (by unfold Kok; omega) eM1
  have g1_0 : M1 15 10 = M 15 10 := by rw [eM1]; exact nu_a (by omega)
  have g1_1 : M1 109 0 = 1 := by rw [eM1]; exact nu_s _ _ _ _
  refine n_aload_n c_62_5 rfl ?_
  refine n_aload_n c_62_6 rfl ?_
  refine n_getV (bi := 10) c_62_7 sc_15.n rfl rfl rfl (t_15_10 hS1) ?_
  intro z2 ez2 f3
  refine n_sipush c_62_10 rfl ?_
  refine n_if2_le c_62_13 (by omega) (by omega) ?_ ?_
  · intro h4
    refine n_iconst c_62_20 ?_
    refine n_putZM (bi := 1) hS1 c_62_21 made109.c0.1.n rfl rfl rfl (by omega) rfl (m_made made109 (by omega) (by omega)) ?_
    intro M5 eM5 hS5
    have hK5 := hK1.u (by unfold Kok; omega) eM5
    have g5_0 : M5 15 10 = M1 15 10 := by rw [eM5]; exact nu_a (by omega)
    have g5_1 : M5 109 0 = M1 109 0 := by rw [eM5]; exact nu_i (by omega)
    have g5_2 : M5 109 1 = 0 := by rw [eM5]; exact nu_s _ _ _ _
    refine n_aload_n c_62_24 rfl ?_
    refine n_aload_n c_62_25 rfl ?_
    refine n_getV (bi := 1) c_62_26 made109.c0.1.n rfl rfl rfl (t_made hS5 made109).2.1 ?_
    intro z6 ez6 f7
    obtain rfl : z6 = 0 := by omega
    refine n_if0_eq c_62_29 (by omega) ?_ ?_
    · intro h8
      refine n_aload_n c_62_36 rfl ?_
      refine n_getV (bi := 10) c_62_37 sc_15.n rfl rfl rfl (t_15_10 hS5) ?_
      intro z9 ez9 f10
      refine n_putM (bi := 2) hS5 c_62_40 made109.c0.1.n rfl rfl rfl rfl (m_made made109 (by omega) (by omega)) ?_
      intro M11 eM11 hS11
      have hK11 := hK5.u (by unfold Kok; omega) eM11
      have g11_0 : M11 15 10 = M5 15 10 := by rw [eM11]; exact nu_a (by omega)
      have g11_1 : M11 109 0 = M5 109 0 := by rw [eM11]; exact nu_i (by omega)
      have g11_2 : M11 109 1 = M5 109 1 := by rw [eM11]; exact nu_i (by omega)
      have g11_3 : M11 109 2 = z9 := by rw [eM11]; exact nu_s _ _ _ _
      refine n_iconst c_62_43 ?_
      refine n_istore_n (L2 := [some (2, 15), some (2, 109), some (0, 0)]) c_62_44 rfl rfl ?_
      refine n_fg (le_s (le_s (le_s le_0))) ?_
      exact (endX_3_2_c hS hK hmt hIt hVS hCL 1044).1 _ M11 hS11 (by omega) hK11 (by exact hI.of hS.p9 (by rw [eM11, nu_a (by omega), eM5, nu_a (by omega), eM1, nu_a (by omega)]) (by rw [eM11, nu_a (by omega), eM5, nu_a (by omega), eM1, nu_a (by omega)]) (fun a i h => by rw [eM11, nu_a (by omega), eM5, nu_a (by omega), eM1, nu_a (by omega)])) (by rw [eM11, nu_a (by omega), eM5, nu_a (by omega), eM1, nu_a (by omega)]; exact hm10) (by rw [eM11, nu_i (by omega), eM5, nu_i (by omega), eM1, nu_s]) (by have y1 : M11 109 1 = 0 := (by rw [eM11, nu_i (by omega), eM5, nu_s]); have y2 : M11 109 2 = z9 := (by rw [eM11, nu_s]); unfold KQ; rw [y1, y2]; omega) (by rw [← hmt]; exact FMQ.u (FMQ.u (FMQ.u (fun _ _ _ _ _ _ _ _ => rfl) (by omega) eM1) (by omega) eM5) (by omega) eM11) (by exact VS.e (show VS 2 8 3 ac Ms M by rw [hmt]; exact hVS) (((E15.mk eM1 (by omega)).tr (E15.mk eM5 (by omega))).tr (E15.mk eM11 (by omega)))) (by exact CLp.e (show CLp 2 8 3 ac Ms M by rw [hmt]; exact hCL) (((E15.mk eM1 (by omega)).tr (E15.mk eM5 (by omega))).tr (E15.mk eM11 (by omega)))) (by exact fun i i0 i1 => by omega) (by exact fun i j i0 i1 => by omega) (by omega)
    · intro h12
      exfalso; omega
  · intro h13
    refine n_iconst c_62_16 ?_
    refine n_goto c_62_17 ?_
    refine n_putZM (bi := 1) hS1 c_62_21 made109.c0.1.n rfl rfl rfl (by omega) rfl (m_made made109 (by omega) (by omega)) ?_
    intro M14 eM14 hS14
    have hK14 := hK1.u (by unfold Kok; omega) eM14
    have g14_0 : M14 15 10 = M1 15 10 := by rw [eM14]; exact nu_a (by omega)
    have g14_1 : M14 109 0 = M1 109 0 := by rw [eM14]; exact nu_i (by omega)
    have g14_2 : M14 109 1 = 1 := by rw [eM14]; exact nu_s _ _ _ _
    refine n_aload_n c_62_24 rfl ?_
    refine n_aload_n c_62_25 rfl ?_
    refine n_getV (bi := 1) c_62_26 made109.c0.1.n rfl rfl rfl (t_made hS14 made109).2.1 ?_
    intro z15 ez15 f16
    obtain rfl : z15 = 1 := by omega
    refine n_if0_eq c_62_29 (by omega) ?_ ?_
    · intro h17
      exfalso; omega
    · intro h18
      refine n_iconst c_62_32 ?_
      refine n_goto c_62_33 ?_
      refine n_putM (bi := 2) hS14 c_62_40 made109.c0.1.n rfl rfl rfl rfl (m_made made109 (by omega) (by omega)) ?_
      intro M19 eM19 hS19
      have hK19 := hK14.u (by unfold Kok; omega) eM19
      have g19_0 : M19 15 10 = M14 15 10 := by rw [eM19]; exact nu_a (by omega)
      have g19_1 : M19 109 0 = M14 109 0 := by rw [eM19]; exact nu_i (by omega)
      have g19_2 : M19 109 1 = M14 109 1 := by rw [eM19]; exact nu_i (by omega)
      have g19_3 : M19 109 2 = 0 := by rw [eM19]; exact nu_s _ _ _ _
      refine n_iconst c_62_43 ?_
      refine n_istore_n (L2 := [some (2, 15), some (2, 109), some (0, 0)]) c_62_44 rfl rfl ?_
      refine n_fg (le_s (le_s (le_s le_0))) ?_
      exact (endX_3_2_c hS hK hmt hIt hVS hCL 1044).1 _ M19 hS19 (by omega) hK19 (by exact hI.of hS.p9 (by rw [eM19, nu_a (by omega), eM14, nu_a (by omega), eM1, nu_a (by omega)]) (by rw [eM19, nu_a (by omega), eM14, nu_a (by omega), eM1, nu_a (by omega)]) (fun a i h => by rw [eM19, nu_a (by omega), eM14, nu_a (by omega), eM1, nu_a (by omega)])) (by rw [eM19, nu_a (by omega), eM14, nu_a (by omega), eM1, nu_a (by omega)]; exact hm10) (by rw [eM19, nu_i (by omega), eM14, nu_i (by omega), eM1, nu_s]) (by have y1 : M19 109 1 = 1 := (by rw [eM19, nu_i (by omega), eM14, nu_s]); have y2 : M19 109 2 = 0 := (by rw [eM19, nu_s]); unfold KQ; rw [y1, y2]; omega) (by rw [← hmt]; exact FMQ.u (FMQ.u (FMQ.u (fun _ _ _ _ _ _ _ _ => rfl) (by omega) eM1) (by omega) eM14) (by omega) eM19) (by exact VS.e (show VS 2 8 3 ac Ms M by rw [hmt]; exact hVS) (((E15.mk eM1 (by omega)).tr (E15.mk eM14 (by omega))).tr (E15.mk eM19 (by omega)))) (by exact CLp.e (show CLp 2 8 3 ac Ms M by rw [hmt]; exact hCL) (((E15.mk eM1 (by omega)).tr (E15.mk eM14 (by omega))).tr (E15.mk eM19 (by omega)))) (by exact fun i i0 i1 => by omega) (by exact fun i j i0 i1 => by omega) (by omega)

set_option maxHeartbeats 4000000 in
theorem codeOfX7_3_2 {xs : List Int32} {e : Nat} {ac : Int} {M0 M : nM} (hS : Sf 2 ac M0 M) (hB : M 15 0 = 4) : nW xs e 53 0 [some (2, 15), some (2, 7), some (0, 8), none, none] [] M (nPI fun z M1 => M = M1 ∧ (170 ≤ z ∧ z ≤ 170)) := by
  have hd : (2 : Int) = 2 ∨ (2 : Int) = 3 := by decide
  have hac := hS.2.2.2.2
  refine n_iconst c_53_0 ?_
  refine n_istore_n (L2 := [some (2, 15), some (2, 7), some (0, 8), some (0, 0), none]) c_53_1 rfl rfl ?_
  refine n_iload_n c_53_2 rfl ?_
  refine n_iconst c_53_3 ?_
  refine n_isub c_53_4 rfl ?_
  refine n_istore (L2 := [some (2, 15), some (2, 7), some (0, 8), some (0, 0), some (0, (8 - 1))]) c_53_5 rfl rfl ?_
  refine n_iload c_53_7 rfl ?_
  refine n_if0_lt c_53_9 (by omega) ?_ ?_
  · intro h1
    exfalso; omega
  · intro h2
    refine n_iload_n c_53_12 rfl ?_
    refine n_aload_n c_53_13 rfl ?_
    refine n_getB c_53_14 hB ?_
    refine n_getV (bi := 0) c_53_17 sc_4.n rfl rfl rfl (t_4_0 hS) ?_
    intro z3 ez3 f4
    obtain rfl : z3 = 2 := by omega
    refine n_imul c_53_20 rfl ?_
    refine n_aload_n c_53_21 rfl ?_
    refine n_iload c_53_22 rfl ?_
    refine n_ialoadV c_53_24 sc_7.n rfl rfl rfl (by omega) (t_7k (z := 1) hS (by omega) (by omega) (by omega)) ?_
    intro z5 ez5 f6
    refine n_iadd c_53_25 rfl ?_
    refine n_istore_n (L2 := [some (2, 15), some (2, 7), some (0, 8), some (0, ((0 * 2) + z5)), some (0, (8 - 1))]) c_53_26 rfl rfl ?_
    refine n_iinc (L2 := [some (2, 15), some (2, 7), some (0, 8), some (0, ((0 * 2) + z5)), some (0, ((8 - 1) + (-1)))]) c_53_27 rfl rfl rfl ?_
    refine n_goto c_53_30 ?_
    refine n_iload c_53_7 rfl ?_
    refine n_if0_lt c_53_9 (by omega) ?_ ?_
    · intro h7
      exfalso; omega
    · intro h8
      refine n_iload_n c_53_12 rfl ?_
      refine n_aload_n c_53_13 rfl ?_
      refine n_getB c_53_14 hB ?_
      refine n_getV (bi := 0) c_53_17 sc_4.n rfl rfl rfl (t_4_0 hS) ?_
      intro z9 ez9 f10
      obtain rfl : z9 = 2 := by omega
      refine n_imul c_53_20 rfl ?_
      refine n_aload_n c_53_21 rfl ?_
      refine n_iload c_53_22 rfl ?_
      refine n_ialoadV c_53_24 sc_7.n rfl rfl rfl (by omega) (t_7k (z := 0) hS (by omega) (by omega) (by omega)) ?_
      intro z11 ez11 f12
      refine n_iadd c_53_25 rfl ?_
      refine n_istore_n (L2 := [some (2, 15), some (2, 7), some (0, 8), some (0, ((((0 * 2) + z5) * 2) + z11)), some (0, ((8 - 1) + (-1)))]) c_53_26 rfl rfl ?_
      refine n_iinc (L2 := [some (2, 15), some (2, 7), some (0, 8), some (0, ((((0 * 2) + z5) * 2) + z11)), some (0, (((8 - 1) + (-1)) + (-1)))]) c_53_27 rfl rfl rfl ?_
      refine n_goto c_53_30 ?_
      refine n_iload c_53_7 rfl ?_
      refine n_if0_lt c_53_9 (by omega) ?_ ?_
      · intro h13
        exfalso; omega
      · intro h14
        refine n_iload_n c_53_12 rfl ?_
        refine n_aload_n c_53_13 rfl ?_
        refine n_getB c_53_14 hB ?_
        refine n_getV (bi := 0) c_53_17 sc_4.n rfl rfl rfl (t_4_0 hS) ?_
        intro z15 ez15 f16
        obtain rfl : z15 = 2 := by omega
        refine n_imul c_53_20 rfl ?_
        refine n_aload_n c_53_21 rfl ?_
        refine n_iload c_53_22 rfl ?_
        refine n_ialoadV c_53_24 sc_7.n rfl rfl rfl (by omega) (t_7k (z := 1) hS (by omega) (by omega) (by omega)) ?_
        intro z17 ez17 f18
        refine n_iadd c_53_25 rfl ?_
        refine n_istore_n (L2 := [some (2, 15), some (2, 7), some (0, 8), some (0, ((((((0 * 2) + z5) * 2) + z11) * 2) + z17)), some (0, (((8 - 1) + (-1)) + (-1)))]) c_53_26 rfl rfl ?_
        refine n_iinc (L2 := [some (2, 15), some (2, 7), some (0, 8), some (0, ((((((0 * 2) + z5) * 2) + z11) * 2) + z17)), some (0, ((((8 - 1) + (-1)) + (-1)) + (-1)))]) c_53_27 rfl rfl rfl ?_
        refine n_goto c_53_30 ?_
        refine n_iload c_53_7 rfl ?_
        refine n_if0_lt c_53_9 (by omega) ?_ ?_
        · intro h19
          exfalso; omega
        · intro h20
          refine n_iload_n c_53_12 rfl ?_
          refine n_aload_n c_53_13 rfl ?_
          refine n_getB c_53_14 hB ?_
          refine n_getV (bi := 0) c_53_17 sc_4.n rfl rfl rfl (t_4_0 hS) ?_
          intro z21 ez21 f22
          obtain rfl : z21 = 2 := by omega
          refine n_imul c_53_20 rfl ?_
          refine n_aload_n c_53_21 rfl ?_
          refine n_iload c_53_22 rfl ?_
          refine n_ialoadV c_53_24 sc_7.n rfl rfl rfl (by omega) (t_7k (z := 0) hS (by omega) (by omega) (by omega)) ?_
          intro z23 ez23 f24
          refine n_iadd c_53_25 rfl ?_
          refine n_istore_n (L2 := [some (2, 15), some (2, 7), some (0, 8), some (0, ((((((((0 * 2) + z5) * 2) + z11) * 2) + z17) * 2) + z23)), some (0, ((((8 - 1) + (-1)) + (-1)) + (-1)))]) c_53_26 rfl rfl ?_
          refine n_iinc (L2 := [some (2, 15), some (2, 7), some (0, 8), some (0, ((((((((0 * 2) + z5) * 2) + z11) * 2) + z17) * 2) + z23)), some (0, (((((8 - 1) + (-1)) + (-1)) + (-1)) + (-1)))]) c_53_27 rfl rfl rfl ?_
          refine n_goto c_53_30 ?_
          refine n_iload c_53_7 rfl ?_
          refine n_if0_lt c_53_9 (by omega) ?_ ?_
          · intro h25
            exfalso; omega
          · intro h26
            refine n_iload_n c_53_12 rfl ?_
            refine n_aload_n c_53_13 rfl ?_
            refine n_getB c_53_14 hB ?_
            refine n_getV (bi := 0) c_53_17 sc_4.n rfl rfl rfl (t_4_0 hS) ?_
            intro z27 ez27 f28
            obtain rfl : z27 = 2 := by omega
            refine n_imul c_53_20 rfl ?_
            refine n_aload_n c_53_21 rfl ?_
            refine n_iload c_53_22 rfl ?_
            refine n_ialoadV c_53_24 sc_7.n rfl rfl rfl (by omega) (t_7k (z := 1) hS (by omega) (by omega) (by omega)) ?_
            intro z29 ez29 f30
            refine n_iadd c_53_25 rfl ?_
            refine n_istore_n (L2 := [some (2, 15), some (2, 7), some (0, 8), some (0, ((((((((((0 * 2) + z5) * 2) + z11) * 2) + z17) * 2) + z23) * 2) + z29)), some (0, (((((8 - 1) + (-1)) + (-1)) + (-1)) + (-1)))]) c_53_26 rfl rfl ?_
            refine n_iinc (L2 := [some (2, 15), some (2, 7), some (0, 8), some (0, ((((((((((0 * 2) + z5) * 2) + z11) * 2) + z17) * 2) + z23) * 2) + z29)), some (0, ((((((8 - 1) + (-1)) + (-1)) + (-1)) + (-1)) + (-1)))]) c_53_27 rfl rfl rfl ?_
            refine n_goto c_53_30 ?_
            refine n_iload c_53_7 rfl ?_
            refine n_if0_lt c_53_9 (by omega) ?_ ?_
            · intro h31
              exfalso; omega
            · intro h32
              refine n_iload_n c_53_12 rfl ?_
              refine n_aload_n c_53_13 rfl ?_
              refine n_getB c_53_14 hB ?_
              refine n_getV (bi := 0) c_53_17 sc_4.n rfl rfl rfl (t_4_0 hS) ?_
              intro z33 ez33 f34
              obtain rfl : z33 = 2 := by omega
              refine n_imul c_53_20 rfl ?_
              refine n_aload_n c_53_21 rfl ?_
              refine n_iload c_53_22 rfl ?_
              refine n_ialoadV c_53_24 sc_7.n rfl rfl rfl (by omega) (t_7k (z := 0) hS (by omega) (by omega) (by omega)) ?_
              intro z35 ez35 f36
              refine n_iadd c_53_25 rfl ?_
              refine n_istore_n (L2 := [some (2, 15), some (2, 7), some (0, 8), some (0, ((((((((((((0 * 2) + z5) * 2) + z11) * 2) + z17) * 2) + z23) * 2) + z29) * 2) + z35)), some (0, ((((((8 - 1) + (-1)) + (-1)) + (-1)) + (-1)) + (-1)))]) c_53_26 rfl rfl ?_
              refine n_iinc (L2 := [some (2, 15), some (2, 7), some (0, 8), some (0, ((((((((((((0 * 2) + z5) * 2) + z11) * 2) + z17) * 2) + z23) * 2) + z29) * 2) + z35)), some (0, (((((((8 - 1) + (-1)) + (-1)) + (-1)) + (-1)) + (-1)) + (-1)))]) c_53_27 rfl rfl rfl ?_
              refine n_goto c_53_30 ?_
              refine n_iload c_53_7 rfl ?_
              refine n_if0_lt c_53_9 (by omega) ?_ ?_
              · intro h37
                exfalso; omega
              · intro h38
                refine n_iload_n c_53_12 rfl ?_
                refine n_aload_n c_53_13 rfl ?_
                refine n_getB c_53_14 hB ?_
                refine n_getV (bi := 0) c_53_17 sc_4.n rfl rfl rfl (t_4_0 hS) ?_
                intro z39 ez39 f40
                obtain rfl : z39 = 2 := by omega
                refine n_imul c_53_20 rfl ?_
                refine n_aload_n c_53_21 rfl ?_
                refine n_iload c_53_22 rfl ?_
                refine n_ialoadV c_53_24 sc_7.n rfl rfl rfl (by omega) (t_7k (z := 1) hS (by omega) (by omega) (by omega)) ?_
                intro z41 ez41 f42
                refine n_iadd c_53_25 rfl ?_
                refine n_istore_n (L2 := [some (2, 15), some (2, 7), some (0, 8), some (0, ((((((((((((((0 * 2) + z5) * 2) + z11) * 2) + z17) * 2) + z23) * 2) + z29) * 2) + z35) * 2) + z41)), some (0, (((((((8 - 1) + (-1)) + (-1)) + (-1)) + (-1)) + (-1)) + (-1)))]) c_53_26 rfl rfl ?_
                refine n_iinc (L2 := [some (2, 15), some (2, 7), some (0, 8), some (0, ((((((((((((((0 * 2) + z5) * 2) + z11) * 2) + z17) * 2) + z23) * 2) + z29) * 2) + z35) * 2) + z41)), some (0, ((((((((8 - 1) + (-1)) + (-1)) + (-1)) + (-1)) + (-1)) + (-1)) + (-1)))]) c_53_27 rfl rfl rfl ?_
                refine n_goto c_53_30 ?_
                refine n_iload c_53_7 rfl ?_
                refine n_if0_lt c_53_9 (by omega) ?_ ?_
                · intro h43
                  exfalso; omega
                · intro h44
                  refine n_iload_n c_53_12 rfl ?_
                  refine n_aload_n c_53_13 rfl ?_
                  refine n_getB c_53_14 hB ?_
                  refine n_getV (bi := 0) c_53_17 sc_4.n rfl rfl rfl (t_4_0 hS) ?_
                  intro z45 ez45 f46
                  obtain rfl : z45 = 2 := by omega
                  refine n_imul c_53_20 rfl ?_
                  refine n_aload_n c_53_21 rfl ?_
                  refine n_iload c_53_22 rfl ?_
                  refine n_ialoadV c_53_24 sc_7.n rfl rfl rfl (by omega) (t_7k (z := 0) hS (by omega) (by omega) (by omega)) ?_
                  intro z47 ez47 f48
                  refine n_iadd c_53_25 rfl ?_
                  refine n_istore_n (L2 := [some (2, 15), some (2, 7), some (0, 8), some (0, ((((((((((((((((0 * 2) + z5) * 2) + z11) * 2) + z17) * 2) + z23) * 2) + z29) * 2) + z35) * 2) + z41) * 2) + z47)), some (0, ((((((((8 - 1) + (-1)) + (-1)) + (-1)) + (-1)) + (-1)) + (-1)) + (-1)))]) c_53_26 rfl rfl ?_
                  refine n_iinc (L2 := [some (2, 15), some (2, 7), some (0, 8), some (0, ((((((((((((((((0 * 2) + z5) * 2) + z11) * 2) + z17) * 2) + z23) * 2) + z29) * 2) + z35) * 2) + z41) * 2) + z47)), some (0, (((((((((8 - 1) + (-1)) + (-1)) + (-1)) + (-1)) + (-1)) + (-1)) + (-1)) + (-1)))]) c_53_27 rfl rfl rfl ?_
                  refine n_goto c_53_30 ?_
                  refine n_iload c_53_7 rfl ?_
                  refine n_if0_lt c_53_9 (by omega) ?_ ?_
                  · intro h49
                    refine n_iload_n c_53_33 rfl ?_
                    exact n_rI c_53_34 rfl ⟨rfl, by omega⟩
                  · intro h50
                    exfalso; omega

set_option maxHeartbeats 4000000 in
theorem codeOfX6_3_2 {xs : List Int32} {e : Nat} {ac : Int} {M0 M : nM} (hS : Sf 2 ac M0 M) (hB : M 15 0 = 4) : nW xs e 53 0 [some (2, 15), some (2, 6), some (0, 8), none, none] [] M (nPI fun z M1 => M = M1 ∧ (204 ≤ z ∧ z ≤ 204)) := by
  have hd : (2 : Int) = 2 ∨ (2 : Int) = 3 := by decide
  have hac := hS.2.2.2.2
  refine n_iconst c_53_0 ?_
  refine n_istore_n (L2 := [some (2, 15), some (2, 6), some (0, 8), some (0, 0), none]) c_53_1 rfl rfl ?_
  refine n_iload_n c_53_2 rfl ?_
  refine n_iconst c_53_3 ?_
  refine n_isub c_53_4 rfl ?_
  refine n_istore (L2 := [some (2, 15), some (2, 6), some (0, 8), some (0, 0), some (0, (8 - 1))]) c_53_5 rfl rfl ?_
  refine n_iload c_53_7 rfl ?_
  refine n_if0_lt c_53_9 (by omega) ?_ ?_
  · intro h1
    exfalso; omega
  · intro h2
    refine n_iload_n c_53_12 rfl ?_
    refine n_aload_n c_53_13 rfl ?_
    refine n_getB c_53_14 hB ?_
    refine n_getV (bi := 0) c_53_17 sc_4.n rfl rfl rfl (t_4_0 hS) ?_
    intro z3 ez3 f4
    obtain rfl : z3 = 2 := by omega
    refine n_imul c_53_20 rfl ?_
    refine n_aload_n c_53_21 rfl ?_
    refine n_iload c_53_22 rfl ?_
    refine n_ialoadV c_53_24 sc_6.n rfl rfl rfl (by omega) (t_6k (z := 1) hS (by omega) (by omega) (by omega)) ?_
    intro z5 ez5 f6
    refine n_iadd c_53_25 rfl ?_
    refine n_istore_n (L2 := [some (2, 15), some (2, 6), some (0, 8), some (0, ((0 * 2) + z5)), some (0, (8 - 1))]) c_53_26 rfl rfl ?_
    refine n_iinc (L2 := [some (2, 15), some (2, 6), some (0, 8), some (0, ((0 * 2) + z5)), some (0, ((8 - 1) + (-1)))]) c_53_27 rfl rfl rfl ?_
    refine n_goto c_53_30 ?_
    refine n_iload c_53_7 rfl ?_
    refine n_if0_lt c_53_9 (by omega) ?_ ?_
    · intro h7
      exfalso; omega
    · intro h8
      refine n_iload_n c_53_12 rfl ?_
      refine n_aload_n c_53_13 rfl ?_
      refine n_getB c_53_14 hB ?_
      refine n_getV (bi := 0) c_53_17 sc_4.n rfl rfl rfl (t_4_0 hS) ?_
      intro z9 ez9 f10
      obtain rfl : z9 = 2 := by omega
      refine n_imul c_53_20 rfl ?_
      refine n_aload_n c_53_21 rfl ?_
      refine n_iload c_53_22 rfl ?_
      refine n_ialoadV c_53_24 sc_6.n rfl rfl rfl (by omega) (t_6k (z := 1) hS (by omega) (by omega) (by omega)) ?_
      intro z11 ez11 f12
      refine n_iadd c_53_25 rfl ?_
      refine n_istore_n (L2 := [some (2, 15), some (2, 6), some (0, 8), some (0, ((((0 * 2) + z5) * 2) + z11)), some (0, ((8 - 1) + (-1)))]) c_53_26 rfl rfl ?_
      refine n_iinc (L2 := [some (2, 15), some (2, 6), some (0, 8), some (0, ((((0 * 2) + z5) * 2) + z11)), some (0, (((8 - 1) + (-1)) + (-1)))]) c_53_27 rfl rfl rfl ?_
      refine n_goto c_53_30 ?_
      refine n_iload c_53_7 rfl ?_
      refine n_if0_lt c_53_9 (by omega) ?_ ?_
      · intro h13
        exfalso; omega
      · intro h14
        refine n_iload_n c_53_12 rfl ?_
        refine n_aload_n c_53_13 rfl ?_
        refine n_getB c_53_14 hB ?_
        refine n_getV (bi := 0) c_53_17 sc_4.n rfl rfl rfl (t_4_0 hS) ?_
        intro z15 ez15 f16
        obtain rfl : z15 = 2 := by omega
        refine n_imul c_53_20 rfl ?_
        refine n_aload_n c_53_21 rfl ?_
        refine n_iload c_53_22 rfl ?_
        refine n_ialoadV c_53_24 sc_6.n rfl rfl rfl (by omega) (t_6k (z := 0) hS (by omega) (by omega) (by omega)) ?_
        intro z17 ez17 f18
        refine n_iadd c_53_25 rfl ?_
        refine n_istore_n (L2 := [some (2, 15), some (2, 6), some (0, 8), some (0, ((((((0 * 2) + z5) * 2) + z11) * 2) + z17)), some (0, (((8 - 1) + (-1)) + (-1)))]) c_53_26 rfl rfl ?_
        refine n_iinc (L2 := [some (2, 15), some (2, 6), some (0, 8), some (0, ((((((0 * 2) + z5) * 2) + z11) * 2) + z17)), some (0, ((((8 - 1) + (-1)) + (-1)) + (-1)))]) c_53_27 rfl rfl rfl ?_
        refine n_goto c_53_30 ?_
        refine n_iload c_53_7 rfl ?_
        refine n_if0_lt c_53_9 (by omega) ?_ ?_
        · intro h19
          exfalso; omega
        · intro h20
          refine n_iload_n c_53_12 rfl ?_
          refine n_aload_n c_53_13 rfl ?_
          refine n_getB c_53_14 hB ?_
          refine n_getV (bi := 0) c_53_17 sc_4.n rfl rfl rfl (t_4_0 hS) ?_
          intro z21 ez21 f22
          obtain rfl : z21 = 2 := by omega
          refine n_imul c_53_20 rfl ?_
          refine n_aload_n c_53_21 rfl ?_
          refine n_iload c_53_22 rfl ?_
          refine n_ialoadV c_53_24 sc_6.n rfl rfl rfl (by omega) (t_6k (z := 0) hS (by omega) (by omega) (by omega)) ?_
          intro z23 ez23 f24
          refine n_iadd c_53_25 rfl ?_
          refine n_istore_n (L2 := [some (2, 15), some (2, 6), some (0, 8), some (0, ((((((((0 * 2) + z5) * 2) + z11) * 2) + z17) * 2) + z23)), some (0, ((((8 - 1) + (-1)) + (-1)) + (-1)))]) c_53_26 rfl rfl ?_
          refine n_iinc (L2 := [some (2, 15), some (2, 6), some (0, 8), some (0, ((((((((0 * 2) + z5) * 2) + z11) * 2) + z17) * 2) + z23)), some (0, (((((8 - 1) + (-1)) + (-1)) + (-1)) + (-1)))]) c_53_27 rfl rfl rfl ?_
          refine n_goto c_53_30 ?_
          refine n_iload c_53_7 rfl ?_
          refine n_if0_lt c_53_9 (by omega) ?_ ?_
          · intro h25
            exfalso; omega
          · intro h26
            refine n_iload_n c_53_12 rfl ?_
            refine n_aload_n c_53_13 rfl ?_
            refine n_getB c_53_14 hB ?_
            refine n_getV (bi := 0) c_53_17 sc_4.n rfl rfl rfl (t_4_0 hS) ?_
            intro z27 ez27 f28
            obtain rfl : z27 = 2 := by omega
            refine n_imul c_53_20 rfl ?_
            refine n_aload_n c_53_21 rfl ?_
            refine n_iload c_53_22 rfl ?_
            refine n_ialoadV c_53_24 sc_6.n rfl rfl rfl (by omega) (t_6k (z := 1) hS (by omega) (by omega) (by omega)) ?_
            intro z29 ez29 f30
            refine n_iadd c_53_25 rfl ?_
            refine n_istore_n (L2 := [some (2, 15), some (2, 6), some (0, 8), some (0, ((((((((((0 * 2) + z5) * 2) + z11) * 2) + z17) * 2) + z23) * 2) + z29)), some (0, (((((8 - 1) + (-1)) + (-1)) + (-1)) + (-1)))]) c_53_26 rfl rfl ?_
            refine n_iinc (L2 := [some (2, 15), some (2, 6), some (0, 8), some (0, ((((((((((0 * 2) + z5) * 2) + z11) * 2) + z17) * 2) + z23) * 2) + z29)), some (0, ((((((8 - 1) + (-1)) + (-1)) + (-1)) + (-1)) + (-1)))]) c_53_27 rfl rfl rfl ?_
            refine n_goto c_53_30 ?_
            refine n_iload c_53_7 rfl ?_
            refine n_if0_lt c_53_9 (by omega) ?_ ?_
            · intro h31
              exfalso; omega
            · intro h32
              refine n_iload_n c_53_12 rfl ?_
              refine n_aload_n c_53_13 rfl ?_
              refine n_getB c_53_14 hB ?_
              refine n_getV (bi := 0) c_53_17 sc_4.n rfl rfl rfl (t_4_0 hS) ?_
              intro z33 ez33 f34
              obtain rfl : z33 = 2 := by omega
              refine n_imul c_53_20 rfl ?_
              refine n_aload_n c_53_21 rfl ?_
              refine n_iload c_53_22 rfl ?_
              refine n_ialoadV c_53_24 sc_6.n rfl rfl rfl (by omega) (t_6k (z := 1) hS (by omega) (by omega) (by omega)) ?_
              intro z35 ez35 f36
              refine n_iadd c_53_25 rfl ?_
              refine n_istore_n (L2 := [some (2, 15), some (2, 6), some (0, 8), some (0, ((((((((((((0 * 2) + z5) * 2) + z11) * 2) + z17) * 2) + z23) * 2) + z29) * 2) + z35)), some (0, ((((((8 - 1) + (-1)) + (-1)) + (-1)) + (-1)) + (-1)))]) c_53_26 rfl rfl ?_
              refine n_iinc (L2 := [some (2, 15), some (2, 6), some (0, 8), some (0, ((((((((((((0 * 2) + z5) * 2) + z11) * 2) + z17) * 2) + z23) * 2) + z29) * 2) + z35)), some (0, (((((((8 - 1) + (-1)) + (-1)) + (-1)) + (-1)) + (-1)) + (-1)))]) c_53_27 rfl rfl rfl ?_
              refine n_goto c_53_30 ?_
              refine n_iload c_53_7 rfl ?_
              refine n_if0_lt c_53_9 (by omega) ?_ ?_
              · intro h37
                exfalso; omega
              · intro h38
                refine n_iload_n c_53_12 rfl ?_
                refine n_aload_n c_53_13 rfl ?_
                refine n_getB c_53_14 hB ?_
                refine n_getV (bi := 0) c_53_17 sc_4.n rfl rfl rfl (t_4_0 hS) ?_
                intro z39 ez39 f40
                obtain rfl : z39 = 2 := by omega
                refine n_imul c_53_20 rfl ?_
                refine n_aload_n c_53_21 rfl ?_
                refine n_iload c_53_22 rfl ?_
                refine n_ialoadV c_53_24 sc_6.n rfl rfl rfl (by omega) (t_6k (z := 0) hS (by omega) (by omega) (by omega)) ?_
                intro z41 ez41 f42
                refine n_iadd c_53_25 rfl ?_
                refine n_istore_n (L2 := [some (2, 15), some (2, 6), some (0, 8), some (0, ((((((((((((((0 * 2) + z5) * 2) + z11) * 2) + z17) * 2) + z23) * 2) + z29) * 2) + z35) * 2) + z41)), some (0, (((((((8 - 1) + (-1)) + (-1)) + (-1)) + (-1)) + (-1)) + (-1)))]) c_53_26 rfl rfl ?_
                refine n_iinc (L2 := [some (2, 15), some (2, 6), some (0, 8), some (0, ((((((((((((((0 * 2) + z5) * 2) + z11) * 2) + z17) * 2) + z23) * 2) + z29) * 2) + z35) * 2) + z41)), some (0, ((((((((8 - 1) + (-1)) + (-1)) + (-1)) + (-1)) + (-1)) + (-1)) + (-1)))]) c_53_27 rfl rfl rfl ?_
                refine n_goto c_53_30 ?_
                refine n_iload c_53_7 rfl ?_
                refine n_if0_lt c_53_9 (by omega) ?_ ?_
                · intro h43
                  exfalso; omega
                · intro h44
                  refine n_iload_n c_53_12 rfl ?_
                  refine n_aload_n c_53_13 rfl ?_
                  refine n_getB c_53_14 hB ?_
                  refine n_getV (bi := 0) c_53_17 sc_4.n rfl rfl rfl (t_4_0 hS) ?_
                  intro z45 ez45 f46
                  obtain rfl : z45 = 2 := by omega
                  refine n_imul c_53_20 rfl ?_
                  refine n_aload_n c_53_21 rfl ?_
                  refine n_iload c_53_22 rfl ?_
                  refine n_ialoadV c_53_24 sc_6.n rfl rfl rfl (by omega) (t_6k (z := 0) hS (by omega) (by omega) (by omega)) ?_
                  intro z47 ez47 f48
                  refine n_iadd c_53_25 rfl ?_
                  refine n_istore_n (L2 := [some (2, 15), some (2, 6), some (0, 8), some (0, ((((((((((((((((0 * 2) + z5) * 2) + z11) * 2) + z17) * 2) + z23) * 2) + z29) * 2) + z35) * 2) + z41) * 2) + z47)), some (0, ((((((((8 - 1) + (-1)) + (-1)) + (-1)) + (-1)) + (-1)) + (-1)) + (-1)))]) c_53_26 rfl rfl ?_
                  refine n_iinc (L2 := [some (2, 15), some (2, 6), some (0, 8), some (0, ((((((((((((((((0 * 2) + z5) * 2) + z11) * 2) + z17) * 2) + z23) * 2) + z29) * 2) + z35) * 2) + z41) * 2) + z47)), some (0, (((((((((8 - 1) + (-1)) + (-1)) + (-1)) + (-1)) + (-1)) + (-1)) + (-1)) + (-1)))]) c_53_27 rfl rfl rfl ?_
                  refine n_goto c_53_30 ?_
                  refine n_iload c_53_7 rfl ?_
                  refine n_if0_lt c_53_9 (by omega) ?_ ?_
                  · intro h49
                    refine n_iload_n c_53_33 rfl ?_
                    exact n_rI c_53_34 rfl ⟨rfl, by omega⟩
                  · intro h50
                    exfalso; omega

set_option maxHeartbeats 4000000 in
theorem codeOfX5_3_2 {xs : List Int32} {e : Nat} {ac : Int} {M0 M : nM} (hS : Sf 2 ac M0 M) (hB : M 15 0 = 4) : nW xs e 53 0 [some (2, 15), some (2, 5), some (0, 8), none, none] [] M (nPI fun z M1 => M = M1 ∧ (240 ≤ z ∧ z ≤ 240)) := by
  have hd : (2 : Int) = 2 ∨ (2 : Int) = 3 := by decide
  have hac := hS.2.2.2.2
  refine n_iconst c_53_0 ?_
  refine n_istore_n (L2 := [some (2, 15), some (2, 5), some (0, 8), some (0, 0), none]) c_53_1 rfl rfl ?_
  refine n_iload_n c_53_2 rfl ?_
  refine n_iconst c_53_3 ?_
  refine n_isub c_53_4 rfl ?_
  refine n_istore (L2 := [some (2, 15), some (2, 5), some (0, 8), some (0, 0), some (0, (8 - 1))]) c_53_5 rfl rfl ?_
  refine n_iload c_53_7 rfl ?_
  refine n_if0_lt c_53_9 (by omega) ?_ ?_
  · intro h1
    exfalso; omega
  · intro h2
    refine n_iload_n c_53_12 rfl ?_
    refine n_aload_n c_53_13 rfl ?_
    refine n_getB c_53_14 hB ?_
    refine n_getV (bi := 0) c_53_17 sc_4.n rfl rfl rfl (t_4_0 hS) ?_
    intro z3 ez3 f4
    obtain rfl : z3 = 2 := by omega
    refine n_imul c_53_20 rfl ?_
    refine n_aload_n c_53_21 rfl ?_
    refine n_iload c_53_22 rfl ?_
    refine n_ialoadV c_53_24 sc_5.n rfl rfl rfl (by omega) (t_5k (z := 1) hS (by omega) (by omega) (by omega)) ?_
    intro z5 ez5 f6
    refine n_iadd c_53_25 rfl ?_
    refine n_istore_n (L2 := [some (2, 15), some (2, 5), some (0, 8), some (0, ((0 * 2) + z5)), some (0, (8 - 1))]) c_53_26 rfl rfl ?_
    refine n_iinc (L2 := [some (2, 15), some (2, 5), some (0, 8), some (0, ((0 * 2) + z5)), some (0, ((8 - 1) + (-1)))]) c_53_27 rfl rfl rfl ?_
    refine n_goto c_53_30 ?_
    refine n_iload c_53_7 rfl ?_
    refine n_if0_lt c_53_9 (by omega) ?_ ?_
    · intro h7
      exfalso; omega
    · intro h8
      refine n_iload_n c_53_12 rfl ?_
      refine n_aload_n c_53_13 rfl ?_
      refine n_getB c_53_14 hB ?_
      refine n_getV (bi := 0) c_53_17 sc_4.n rfl rfl rfl (t_4_0 hS) ?_
      intro z9 ez9 f10
      obtain rfl : z9 = 2 := by omega
      refine n_imul c_53_20 rfl ?_
      refine n_aload_n c_53_21 rfl ?_
      refine n_iload c_53_22 rfl ?_
      refine n_ialoadV c_53_24 sc_5.n rfl rfl rfl (by omega) (t_5k (z := 1) hS (by omega) (by omega) (by omega)) ?_
      intro z11 ez11 f12
      refine n_iadd c_53_25 rfl ?_
      refine n_istore_n (L2 := [some (2, 15), some (2, 5), some (0, 8), some (0, ((((0 * 2) + z5) * 2) + z11)), some (0, ((8 - 1) + (-1)))]) c_53_26 rfl rfl ?_
      refine n_iinc (L2 := [some (2, 15), some (2, 5), some (0, 8), some (0, ((((0 * 2) + z5) * 2) + z11)), some (0, (((8 - 1) + (-1)) + (-1)))]) c_53_27 rfl rfl rfl ?_
      refine n_goto c_53_30 ?_
      refine n_iload c_53_7 rfl ?_
      refine n_if0_lt c_53_9 (by omega) ?_ ?_
      · intro h13
        exfalso; omega
      · intro h14
        refine n_iload_n c_53_12 rfl ?_
        refine n_aload_n c_53_13 rfl ?_
        refine n_getB c_53_14 hB ?_
        refine n_getV (bi := 0) c_53_17 sc_4.n rfl rfl rfl (t_4_0 hS) ?_
        intro z15 ez15 f16
        obtain rfl : z15 = 2 := by omega
        refine n_imul c_53_20 rfl ?_
        refine n_aload_n c_53_21 rfl ?_
        refine n_iload c_53_22 rfl ?_
        refine n_ialoadV c_53_24 sc_5.n rfl rfl rfl (by omega) (t_5k (z := 1) hS (by omega) (by omega) (by omega)) ?_
        intro z17 ez17 f18
        refine n_iadd c_53_25 rfl ?_
        refine n_istore_n (L2 := [some (2, 15), some (2, 5), some (0, 8), some (0, ((((((0 * 2) + z5) * 2) + z11) * 2) + z17)), some (0, (((8 - 1) + (-1)) + (-1)))]) c_53_26 rfl rfl ?_
        refine n_iinc (L2 := [some (2, 15), some (2, 5), some (0, 8), some (0, ((((((0 * 2) + z5) * 2) + z11) * 2) + z17)), some (0, ((((8 - 1) + (-1)) + (-1)) + (-1)))]) c_53_27 rfl rfl rfl ?_
        refine n_goto c_53_30 ?_
        refine n_iload c_53_7 rfl ?_
        refine n_if0_lt c_53_9 (by omega) ?_ ?_
        · intro h19
          exfalso; omega
        · intro h20
          refine n_iload_n c_53_12 rfl ?_
          refine n_aload_n c_53_13 rfl ?_
          refine n_getB c_53_14 hB ?_
          refine n_getV (bi := 0) c_53_17 sc_4.n rfl rfl rfl (t_4_0 hS) ?_
          intro z21 ez21 f22
          obtain rfl : z21 = 2 := by omega
          refine n_imul c_53_20 rfl ?_
          refine n_aload_n c_53_21 rfl ?_
          refine n_iload c_53_22 rfl ?_
          refine n_ialoadV c_53_24 sc_5.n rfl rfl rfl (by omega) (t_5k (z := 1) hS (by omega) (by omega) (by omega)) ?_
          intro z23 ez23 f24
          refine n_iadd c_53_25 rfl ?_
          refine n_istore_n (L2 := [some (2, 15), some (2, 5), some (0, 8), some (0, ((((((((0 * 2) + z5) * 2) + z11) * 2) + z17) * 2) + z23)), some (0, ((((8 - 1) + (-1)) + (-1)) + (-1)))]) c_53_26 rfl rfl ?_
          refine n_iinc (L2 := [some (2, 15), some (2, 5), some (0, 8), some (0, ((((((((0 * 2) + z5) * 2) + z11) * 2) + z17) * 2) + z23)), some (0, (((((8 - 1) + (-1)) + (-1)) + (-1)) + (-1)))]) c_53_27 rfl rfl rfl ?_
          refine n_goto c_53_30 ?_
          refine n_iload c_53_7 rfl ?_
          refine n_if0_lt c_53_9 (by omega) ?_ ?_
          · intro h25
            exfalso; omega
          · intro h26
            refine n_iload_n c_53_12 rfl ?_
            refine n_aload_n c_53_13 rfl ?_
            refine n_getB c_53_14 hB ?_
            refine n_getV (bi := 0) c_53_17 sc_4.n rfl rfl rfl (t_4_0 hS) ?_
            intro z27 ez27 f28
            obtain rfl : z27 = 2 := by omega
            refine n_imul c_53_20 rfl ?_
            refine n_aload_n c_53_21 rfl ?_
            refine n_iload c_53_22 rfl ?_
            refine n_ialoadV c_53_24 sc_5.n rfl rfl rfl (by omega) (t_5k (z := 0) hS (by omega) (by omega) (by omega)) ?_
            intro z29 ez29 f30
            refine n_iadd c_53_25 rfl ?_
            refine n_istore_n (L2 := [some (2, 15), some (2, 5), some (0, 8), some (0, ((((((((((0 * 2) + z5) * 2) + z11) * 2) + z17) * 2) + z23) * 2) + z29)), some (0, (((((8 - 1) + (-1)) + (-1)) + (-1)) + (-1)))]) c_53_26 rfl rfl ?_
            refine n_iinc (L2 := [some (2, 15), some (2, 5), some (0, 8), some (0, ((((((((((0 * 2) + z5) * 2) + z11) * 2) + z17) * 2) + z23) * 2) + z29)), some (0, ((((((8 - 1) + (-1)) + (-1)) + (-1)) + (-1)) + (-1)))]) c_53_27 rfl rfl rfl ?_
            refine n_goto c_53_30 ?_
            refine n_iload c_53_7 rfl ?_
            refine n_if0_lt c_53_9 (by omega) ?_ ?_
            · intro h31
              exfalso; omega
            · intro h32
              refine n_iload_n c_53_12 rfl ?_
              refine n_aload_n c_53_13 rfl ?_
              refine n_getB c_53_14 hB ?_
              refine n_getV (bi := 0) c_53_17 sc_4.n rfl rfl rfl (t_4_0 hS) ?_
              intro z33 ez33 f34
              obtain rfl : z33 = 2 := by omega
              refine n_imul c_53_20 rfl ?_
              refine n_aload_n c_53_21 rfl ?_
              refine n_iload c_53_22 rfl ?_
              refine n_ialoadV c_53_24 sc_5.n rfl rfl rfl (by omega) (t_5k (z := 0) hS (by omega) (by omega) (by omega)) ?_
              intro z35 ez35 f36
              refine n_iadd c_53_25 rfl ?_
              refine n_istore_n (L2 := [some (2, 15), some (2, 5), some (0, 8), some (0, ((((((((((((0 * 2) + z5) * 2) + z11) * 2) + z17) * 2) + z23) * 2) + z29) * 2) + z35)), some (0, ((((((8 - 1) + (-1)) + (-1)) + (-1)) + (-1)) + (-1)))]) c_53_26 rfl rfl ?_
              refine n_iinc (L2 := [some (2, 15), some (2, 5), some (0, 8), some (0, ((((((((((((0 * 2) + z5) * 2) + z11) * 2) + z17) * 2) + z23) * 2) + z29) * 2) + z35)), some (0, (((((((8 - 1) + (-1)) + (-1)) + (-1)) + (-1)) + (-1)) + (-1)))]) c_53_27 rfl rfl rfl ?_
              refine n_goto c_53_30 ?_
              refine n_iload c_53_7 rfl ?_
              refine n_if0_lt c_53_9 (by omega) ?_ ?_
              · intro h37
                exfalso; omega
              · intro h38
                refine n_iload_n c_53_12 rfl ?_
                refine n_aload_n c_53_13 rfl ?_
                refine n_getB c_53_14 hB ?_
                refine n_getV (bi := 0) c_53_17 sc_4.n rfl rfl rfl (t_4_0 hS) ?_
                intro z39 ez39 f40
                obtain rfl : z39 = 2 := by omega
                refine n_imul c_53_20 rfl ?_
                refine n_aload_n c_53_21 rfl ?_
                refine n_iload c_53_22 rfl ?_
                refine n_ialoadV c_53_24 sc_5.n rfl rfl rfl (by omega) (t_5k (z := 0) hS (by omega) (by omega) (by omega)) ?_
                intro z41 ez41 f42
                refine n_iadd c_53_25 rfl ?_
                refine n_istore_n (L2 := [some (2, 15), some (2, 5), some (0, 8), some (0, ((((((((((((((0 * 2) + z5) * 2) + z11) * 2) + z17) * 2) + z23) * 2) + z29) * 2) + z35) * 2) + z41)), some (0, (((((((8 - 1) + (-1)) + (-1)) + (-1)) + (-1)) + (-1)) + (-1)))]) c_53_26 rfl rfl ?_
                refine n_iinc (L2 := [some (2, 15), some (2, 5), some (0, 8), some (0, ((((((((((((((0 * 2) + z5) * 2) + z11) * 2) + z17) * 2) + z23) * 2) + z29) * 2) + z35) * 2) + z41)), some (0, ((((((((8 - 1) + (-1)) + (-1)) + (-1)) + (-1)) + (-1)) + (-1)) + (-1)))]) c_53_27 rfl rfl rfl ?_
                refine n_goto c_53_30 ?_
                refine n_iload c_53_7 rfl ?_
                refine n_if0_lt c_53_9 (by omega) ?_ ?_
                · intro h43
                  exfalso; omega
                · intro h44
                  refine n_iload_n c_53_12 rfl ?_
                  refine n_aload_n c_53_13 rfl ?_
                  refine n_getB c_53_14 hB ?_
                  refine n_getV (bi := 0) c_53_17 sc_4.n rfl rfl rfl (t_4_0 hS) ?_
                  intro z45 ez45 f46
                  obtain rfl : z45 = 2 := by omega
                  refine n_imul c_53_20 rfl ?_
                  refine n_aload_n c_53_21 rfl ?_
                  refine n_iload c_53_22 rfl ?_
                  refine n_ialoadV c_53_24 sc_5.n rfl rfl rfl (by omega) (t_5k (z := 0) hS (by omega) (by omega) (by omega)) ?_
                  intro z47 ez47 f48
                  refine n_iadd c_53_25 rfl ?_
                  refine n_istore_n (L2 := [some (2, 15), some (2, 5), some (0, 8), some (0, ((((((((((((((((0 * 2) + z5) * 2) + z11) * 2) + z17) * 2) + z23) * 2) + z29) * 2) + z35) * 2) + z41) * 2) + z47)), some (0, ((((((((8 - 1) + (-1)) + (-1)) + (-1)) + (-1)) + (-1)) + (-1)) + (-1)))]) c_53_26 rfl rfl ?_
                  refine n_iinc (L2 := [some (2, 15), some (2, 5), some (0, 8), some (0, ((((((((((((((((0 * 2) + z5) * 2) + z11) * 2) + z17) * 2) + z23) * 2) + z29) * 2) + z35) * 2) + z41) * 2) + z47)), some (0, (((((((((8 - 1) + (-1)) + (-1)) + (-1)) + (-1)) + (-1)) + (-1)) + (-1)) + (-1)))]) c_53_27 rfl rfl rfl ?_
                  refine n_goto c_53_30 ?_
                  refine n_iload c_53_7 rfl ?_
                  refine n_if0_lt c_53_9 (by omega) ?_ ?_
                  · intro h49
                    refine n_iload_n c_53_33 rfl ?_
                    exact n_rI c_53_34 rfl ⟨rfl, by omega⟩
                  · intro h50
                    exfalso; omega

set_option maxHeartbeats 4000000 in
theorem beginX_3_2 {xs : List Int32} {e : Nat} {ac : Int} {M : nM} {Ms : nM} (hS : Sf 2 ac M M) (hB : M 15 0 = 4) (hpz : PZ M) (hfm : FM Ms M) : nW xs (e + 3) 50 0 [some (2, 15), some (0, 3), none] [] M (nPV fun M1 => Sf 2 ac M1 M1 ∧ MK 256 8 7 56 192 1 2 4 8 16 32 64 128 0 M1 ∧ (MI 2 8 3 ac Ms M1) ∧ (∀ j : Int, 0 ≤ j → j < 3 → HAS M1 (mpj 2 8 j)) ∧ (FM Ms M1) ∧ (VS 2 8 3 ac Ms M1) ∧ (∀ j : Int, 0 ≤ j → j < 3 → HSs M1 (mpj 2 8 j) 0)) := by
  have hd : (2 : Int) = 2 ∨ (2 : Int) = 3 := by decide
  have hac := hS.2.2.2.2
  refine n_aload_n c_50_0 rfl ?_
  refine n_getB c_50_1 hB ?_
  refine n_iload_n c_50_4 rfl ?_
  refine n_v1I c_50_5 rfl sc_4.n rfl rfl rfl rfl (power3_2  hS ) ?_
  intro z1 M2 hP3
  obtain ⟨eM, f3⟩ := hP3
  subst eM
  obtain rfl : z1 = 8 := by omega
  refine n_istore_n (L2 := [some (2, 15), some (0, 3), some (0, 8)]) c_50_8 rfl rfl ?_
  refine n_aload_n c_50_9 rfl ?_
  refine n_getP c_50_10 ?_
  intro p4 ep4
  refine n_alenP hS c_50_13 ep4 ?_
  intro z5 hz5
  refine n_aload_n c_50_14 rfl ?_
  refine n_getB c_50_15 hB ?_
  refine n_iload_n c_50_18 rfl ?_
  refine n_v1I c_50_19 rfl sc_4.n rfl rfl rfl rfl (codes3_2  hS ) ?_
  intro z6 M7 hP8
  obtain ⟨eM, f8⟩ := hP8
  subst eM
  obtain rfl : z6 = 256 := by omega
  refine n_if2_ge c_50_22 (by omega) (by omega) ?_ ?_
  · intro h9
    refine n_aload_n c_50_34 rfl ?_
    refine n_aload_n c_50_35 rfl ?_
    refine n_getR c_50_36 sc_15.n rfl rfl rfl r_15_6 ?_
    refine n_iconst c_50_39 ?_
    refine n_iload_n c_50_40 rfl ?_
    refine n_v3V c_50_41 rfl sc_15.n rfl rfl rfl rfl (weighFrom25_3_2 (Ms := M) hS (by exact hB)) ?_
    intro  M10 hP11
    obtain ⟨hS10, f11p0, f11p1⟩ := hP11
    have hS10c := hS10.2.2.2.1.1
    have hS10 := hS10.refl
    have hBM10 := (f11p0 15 0 (by omega) (by omega)).trans hB
    have hPM10 := f11p0 15 9 (by omega) (by omega)
    refine n_aload_n c_50_44 rfl ?_
    refine n_aload_n c_50_45 rfl ?_
    refine n_getR c_50_46 sc_15.n rfl rfl rfl r_15_7 ?_
    refine n_iconst c_50_49 ?_
    refine n_iload_n c_50_50 rfl ?_
    refine n_v3V c_50_51 rfl sc_15.n rfl rfl rfl rfl (weighFrom27_3_2 (Ms := M10) hS10 (by exact hBM10)) ?_
    intro  M12 hP13
    obtain ⟨hS12, f13p0, f13p1⟩ := hP13
    have hS12c := hS12.2.2.2.1.1
    have hS12 := hS12.refl
    have hBM12 := (f13p0 15 0 (by omega) (by omega)).trans hBM10
    have hPM12 := f13p0 15 9 (by omega) (by omega)
    have f11p1M12 := f11p1.of (fun i => f13p0 25 i (by omega) (by omega)) (fun i => f13p0 26 i (by omega) (by omega))
    refine n_aload_n c_50_54 rfl ?_
    refine n_aload_n c_50_55 rfl ?_
    refine n_getR c_50_56 sc_15.n rfl rfl rfl r_15_8 ?_
    refine n_bipush c_50_59 rfl ?_
    refine n_iload_n c_50_61 rfl ?_
    refine n_v3V c_50_62 rfl sc_15.n rfl rfl rfl rfl (weighFrom29_3_2 (Ms := M12) hS12 (by exact hBM12)) ?_
    intro  M14 hP15
    obtain ⟨hS14, f15p0, f15p1⟩ := hP15
    have hS14c := hS14.2.2.2.1.1
    have hS14 := hS14.refl
    have hBM14 := (f15p0 15 0 (by omega) (by omega)).trans hBM12
    have hPM14 := f15p0 15 9 (by omega) (by omega)
    have f11p1M12M14 := f11p1M12.of (fun i => f15p0 25 i (by omega) (by omega)) (fun i => f15p0 26 i (by omega) (by omega))
    have f13p1M14 := f13p1.of (fun i => f15p0 27 i (by omega) (by omega)) (fun i => f15p0 28 i (by omega) (by omega))
    refine n_aload_n c_50_65 rfl ?_
    refine n_iconst c_50_66 ?_
    refine n_putM (bi := 10) hS14 c_50_67 sc_15.n rfl rfl rfl rfl (m_15_10 (by omega)) ?_
    intro M16 eM16 hS16
    have g16_0 : M16 15 10 = 0 := by rw [eM16]; exact nu_s _ _ _ _
    have qa : M16 15 0 = M14 15 0 := by rw [eM16]; exact nu_i (by omega)
    have qb : M16 15 9 = M14 15 9 := by rw [eM16]; exact nu_i (by omega)
    have hKb : MK 256 8 7 56 192 1 2 4 8 16 32 64 128 0 M16 := MK.mk0 (qa.trans hBM14) (by omega) (by omega) (by omega) (by omega) (f11p1M12M14.of (fun i => by rw [eM16]; exact nu_a (by omega)) (fun i => by rw [eM16]; exact nu_a (by omega))) (f13p1M14.of (fun i => by rw [eM16]; exact nu_a (by omega)) (fun i => by rw [eM16]; exact nu_a (by omega))) (f15p1.of (fun i => by rw [eM16]; exact nu_a (by omega)) (fun i => by rw [eM16]; exact nu_a (by omega)))
    have fw : ∀ a i : Int, (a < 25 ∨ 30 < a) → ¬ (a = 15 ∧ i = 10) → M16 a i = M a i := fun a i h1 h2 => by rw [eM16, nu_e, if_neg h2, f15p0 a i (by omega) (by omega), f13p0 a i (by omega) (by omega), f11p0 a i (by omega) (by omega)]
    have pzb : PZ M := hpz
    have fmb : FM Ms M := hfm
    have pz0 : PZ M16 := fun c c0 => by rw [fw 15 9 (by omega) (by omega), fw _ c (by have y := hS16.p9; rw [fw 15 9 (by omega) (by omega)] at y; omega) (by have y := hS16.p9; rw [fw 15 9 (by omega) (by omega)] at y; omega)]; exact pzb c c0
    have fm0 : FM Ms M16 := fun a i p1 p2 p3 => (fw a i (by omega) (by omega)).trans (fmb a i p1 p2 p3)
    have c10 : M16 15 10 = 0 := by rw [eM16]; exact nu_s _ _ _ _
    have mi0 : MI 2 8 3 ac Ms M16 := MI.ini pz0 (by omega)
    have vs0 : VS 2 8 3 ac Ms M16 := fun i i0 i1 => by omega
    refine n_aload_n c_50_70 rfl ?_
    refine n_aload_n c_50_71 rfl ?_
    refine n_aload_n c_50_72 rfl ?_
    refine n_getB c_50_73 hKb.b ?_
    refine n_getR c_50_76 sc_4.n rfl rfl rfl r_4_4 ?_
    refine n_iload_n c_50_79 rfl ?_
    refine n_v2I c_50_80 rfl sc_15.n rfl rfl rfl rfl (codeOfX7_3_2  hS16 (by exact hKb.b)) ?_
    intro z17 M18 hP19
    obtain ⟨eM, f19⟩ := hP19
    subst eM
    obtain rfl : z17 = 170 := by omega
    refine n_iconst c_50_83 ?_
    refine n_v2V c_50_84 rfl sc_15.n rfl rfl rfl rfl (addX_3_2 (c := 170) (s := 0) (Ms := Ms) hS16 (by omega) (by omega) hKb (by exact mi0) (by exact pz0 _ (by omega)) (by exact Clo.pj (j := 0) (by decide +kernel) (by omega) (by omega))) ?_
    intro  M20 hP21
    obtain ⟨hS20, f21K, f21p0, f21p1, f21p2, f21p3, f21p4⟩ := hP21
    have fm1 : FM Ms M20 := fm0.tr f21p3.fb.1
    have n0 : M20 15 10 = 1 := by have y := f21p2; unfold AD at y; omega
    have v0x : M20 20 0 = 170 := by have y := f21p2; unfold AD at y; have y2 : M16 15 10 = 0 := (by omega); rw [y2] at y; exact (y.resolve_left (by omega)).2
    have vs1 := f21p4.vs vs0 (VAL.pj (j := 0) (by decide +kernel) (by omega) (by omega))
    have az0 := f21p4.resolve_left (fun u => by have u1 := u.1; omega)
    have w0x : M20 21 0 = 0 := by have y := az0.2.2.1; rw [show M16 15 10 = 0 by omega] at y; exact y
    refine n_iload_n c_50_87 rfl ?_
    refine n_iconst c_50_88 ?_
    refine n_if2_le c_50_89 (by omega) (by omega) ?_ ?_
    · intro h22
      exfalso; omega
    · intro h23
      refine n_aload_n c_50_92 rfl ?_
      refine n_aload_n c_50_93 rfl ?_
      refine n_aload_n c_50_94 rfl ?_
      refine n_getB c_50_95 f21K.b ?_
      refine n_getR c_50_98 sc_4.n rfl rfl rfl r_4_3 ?_
      refine n_iload_n c_50_101 rfl ?_
      refine n_v2I c_50_102 rfl sc_15.n rfl rfl rfl rfl (codeOfX6_3_2  hS20 (by exact f21K.b)) ?_
      intro z24 M25 hP26
      obtain ⟨eM, f26⟩ := hP26
      subst eM
      obtain rfl : z24 = 204 := by omega
      refine n_iconst c_50_105 ?_
      refine n_v2V c_50_106 rfl sc_15.n rfl rfl rfl rfl (addX_3_2 (c := 204) (s := 0) (Ms := Ms) hS20 (by omega) (by omega) f21K (by exact f21p0) (by exact MI.nw1 f21p0 (by omega) n0 v0x (by omega)) (by exact Clo.pj (j := 1) (by decide +kernel) (by omega) (by omega))) ?_
      intro  M27 hP28
      obtain ⟨hS27, f28K, f28p0, f28p1, f28p2, f28p3, f28p4⟩ := hP28
      have fm2 : FM Ms M27 := fm1.tr f28p3.fb.1
      have n1 : M27 15 10 = 2 := by have y := f28p2; unfold AD at y; omega
      have v1x : M27 20 1 = 204 := by have y := f28p2; unfold AD at y; have y2 : M20 15 10 = 1 := (by omega); rw [y2] at y; exact (y.resolve_left (by omega)).2
      have v0xx : M27 20 0 = 170 := by rw [f28p1.2 0 (by omega) (by omega)]; exact v0x
      have vs2 := f28p4.vs vs1 (VAL.pj (j := 1) (by decide +kernel) (by omega) (by omega))
      have az1 := f28p4.resolve_left (fun u => by have u1 := u.1; omega)
      have w1x : M27 21 1 = 0 := by have y := az1.2.2.1; rw [show M20 15 10 = 1 by omega] at y; exact y
      have w0xx : M27 21 0 = 0 := by rw [(az1.2.2.2 0 (by omega) (by omega)).2]; exact w0x
      refine n_iload_n c_50_109 rfl ?_
      refine n_iconst c_50_110 ?_
      refine n_if2_le c_50_111 (by omega) (by omega) ?_ ?_
      · intro h29
        exfalso; omega
      · intro h30
        refine n_aload_n c_50_114 rfl ?_
        refine n_aload_n c_50_115 rfl ?_
        refine n_aload_n c_50_116 rfl ?_
        refine n_getB c_50_117 f28K.b ?_
        refine n_getR c_50_120 sc_4.n rfl rfl rfl r_4_2 ?_
        refine n_iload_n c_50_123 rfl ?_
        refine n_v2I c_50_124 rfl sc_15.n rfl rfl rfl rfl (codeOfX5_3_2  hS27 (by exact f28K.b)) ?_
        intro z31 M32 hP33
        obtain ⟨eM, f33⟩ := hP33
        subst eM
        obtain rfl : z31 = 240 := by omega
        refine n_iconst c_50_127 ?_
        refine n_v2V c_50_128 rfl sc_15.n rfl rfl rfl rfl (addX_3_2 (c := 240) (s := 0) (Ms := Ms) hS27 (by omega) (by omega) f28K (by exact f28p0) (by exact MI.nw2 f28p0 (by omega) n1 v0xx v1x (by omega) (by omega)) (by exact Clo.pj (j := 2) (by decide +kernel) (by omega) (by omega))) ?_
        intro  M34 hP35
        obtain ⟨hS34, f35K, f35p0, f35p1, f35p2, f35p3, f35p4⟩ := hP35
        have fm3 : FM Ms M34 := fm2.tr f35p3.fb.1
        have n2 : M34 15 10 = 3 := by have y := f35p2; unfold AD at y; omega
        have v2x : M34 20 2 = 240 := by have y := f35p2; unfold AD at y; have y2 : M27 15 10 = 2 := (by omega); rw [y2] at y; exact (y.resolve_left (by omega)).2
        have v0xxx : M34 20 0 = 170 := by rw [f35p1.2 0 (by omega) (by omega)]; exact v0xx
        have v1xx : M34 20 1 = 204 := by rw [f35p1.2 1 (by omega) (by omega)]; exact v1x
        have vs3 := f35p4.vs vs2 (VAL.pj (j := 2) (by decide +kernel) (by omega) (by omega))
        have az2 := f35p4.resolve_left (fun u => by have u1 := u.1; omega)
        have w2x : M34 21 2 = 0 := by have y := az2.2.2.1; rw [show M27 15 10 = 2 by omega] at y; exact y
        have w0xxx : M34 21 0 = 0 := by rw [(az2.2.2.2 0 (by omega) (by omega)).2]; exact w0xx
        have w1xx : M34 21 1 = 0 := by rw [(az2.2.2.2 1 (by omega) (by omega)).2]; exact w1x
        exact n_rV c_50_131 rfl ⟨hS34, f35K, by exact f35p0, by exact fun j j0 j1 => by rcases (show j = 0 ∨ j = 1 ∨ j = 2 by omega) with rfl | rfl | rfl; (exact ⟨0, by omega, by omega, by rw [v0xxx]; decide +kernel⟩); (exact ⟨1, by omega, by omega, by rw [v1xx]; decide +kernel⟩); (exact ⟨2, by omega, by omega, by rw [v2x]; decide +kernel⟩), by exact fm3, by exact vs3, by exact fun j j0 j1 => by rcases (show j = 0 ∨ j = 1 ∨ j = 2 by omega) with rfl | rfl | rfl; (exact ⟨0, by omega, by omega, by rw [v0xxx]; decide +kernel, by omega⟩); (exact ⟨1, by omega, by omega, by rw [v1xx]; decide +kernel, by omega⟩); (exact ⟨2, by omega, by omega, by rw [v2x]; decide +kernel, by omega⟩)⟩
  · intro h36
    exfalso; omega

set_option maxHeartbeats 4000000 in
theorem makeX_3_2_c {xs : List Int32} {e : Nat} {ac : Int} {M : nM} {c m : Int} {Ms : nM} (hS : Sf 2 ac M M) (hc : 0 ≤ c ∧ c ≤ 8) (hm : -2147483648 ≤ m ∧ m ≤ 2147483647) (hca : c = ac) (hms : M = Ms) (hpz : PZ M) (hwa : ∀ a : Int, 0 ≤ a → a < ac → WAct 2 (55 + 3 * a) Ms) (hmo : NCl 2 8 3 ac (Tm Ms) ≤ m) : ∀ nn : Nat, (∀ (x7 : Int) (M : nM), Sf 2 ac M M → (0 ≤ x7 ∧ x7 ≤ 257) → (MK 256 8 7 56 192 1 2 4 8 16 32 64 128 0 M) → (MI 2 8 3 ac Ms M) → (FM Ms M) → (∀ j : Int, 0 ≤ j → j < 3 → HAS M (mpj 2 8 j)) → (PD 2 8 ac x7 Ms M ∨ m ≤ M 15 10 ∨ 256 < M 15 10) → (x7 ≤ M 15 10) → (VS 2 8 3 ac Ms M) → (I2 x7 M) → (PDz 2 8 ac x7 Ms M) → (∀ j : Int, 0 ≤ j → j < 3 → HSs M (mpj 2 8 j) 0) → (257 - x7) * 11 + 11 < (nn : Int) → nW xs (e + 4) 49 13 [some (2, 15), none, none, some (2, 12), some (0, c), some (0, m), some (2, 109), some (0, x7), none] [] M (nPV fun M1 => Sf 2 ac M1 M1 ∧ MK 256 8 7 56 192 1 2 4 8 16 32 64 128 0 M1 ∧ (M1 109 0 = 1) ∧ (KN (NCl 2 8 3 ac (Tm Ms)) (M1 109 1) (M1 109 2)) ∧ (PZ M1) ∧ (FMQ 109 Ms M1) ∧ (M1 109 1 = 0 → LO 2 8 3 ac Ms 109 (M1 109 2) M1) ∧ (M1 109 1 = 1 → M1 109 2 = 0))) ∧ (∀ (x7 x8 : Int) (M : nM), Sf 2 ac M M → (0 ≤ x7 ∧ x7 ≤ 256) → (0 ≤ x8 ∧ x8 ≤ 8) → (MK 256 8 7 56 192 1 2 4 8 16 32 64 128 0 M) → (MI 2 8 3 ac Ms M) → (FM Ms M) → (∀ j : Int, 0 ≤ j → j < 3 → HAS M (mpj 2 8 j)) → (x7 < M 15 10) → ((M 15 11 = 3000002 ∧ PD 2 8 ac x7 Ms M ∧ (256 < M 15 10 ∨ PDa 2 8 x7 x8 Ms M)) ∨ m ≤ M 15 10) → (VS 2 8 3 ac Ms M) → (I2 (x7 + 1) M) → (PDz 2 8 ac x7 Ms M) → (∀ j : Int, 0 ≤ j → j < 3 → HSs M (mpj 2 8 j) 0) → (CEI 2 8 3 ac Ms M) → (PZa 2 8 x7 x8 Ms M) → (257 - x7) * 11 + (8 - x8) * 1 + 1 < (nn : Int) → nW xs (e + 4) 49 65 [some (2, 15), none, none, some (2, 12), some (0, c), some (0, m), some (2, 109), some (0, x7), some (0, x8)] [] M (nPV fun M1 => Sf 2 ac M1 M1 ∧ MK 256 8 7 56 192 1 2 4 8 16 32 64 128 0 M1 ∧ (M1 109 0 = 1) ∧ (KN (NCl 2 8 3 ac (Tm Ms)) (M1 109 1) (M1 109 2)) ∧ (PZ M1) ∧ (FMQ 109 Ms M1) ∧ (M1 109 1 = 0 → LO 2 8 3 ac Ms 109 (M1 109 2) M1) ∧ (M1 109 1 = 1 → M1 109 2 = 0))) := by
  have hd : (2 : Int) = 2 ∨ (2 : Int) = 3 := by decide
  have hac := hS.2.2.2.2
  have hT := Tm_r hS
  rw [hms] at hT
  intro nn
  induction nn with
  | zero => refine ⟨?_, ?_⟩ <;> (intros; omega)
  | succ nn ih =>
    refine ⟨?_, ?_⟩
    · intro x7 M hS k7 hK v0 v1 v2 v3 v4 v5 v6 v7 v8 hnn
      refine n_iload c_49_13 rfl ?_
      refine n_aload_n c_49_15 rfl ?_
      refine n_getV (bi := 10) c_49_16 sc_15.n rfl rfl rfl (t_15_10 hS) ?_
      intro z1 ez1 f2
      refine n_if2_ge c_49_19 (by omega) (by omega) ?_ ?_
      · intro h3
        refine n_aload_n c_49_110 rfl ?_
        refine n_aload c_49_111 rfl ?_
        refine n_v1V c_49_113 rfl sc_15.n rfl rfl rfl rfl (endX_3_2 (Ms := Ms) (Mt := M) hS hK (by rfl) (by exact v0) (by exact v5) (by exact CLp.mk v8 v7 (by omega))) ?_
        intro  M4 hP5
        obtain ⟨hS4, f5K, f5p0, f5p1, f5p2, f5p3, f5p4⟩ := hP5
        exact n_rV c_49_116 rfl ⟨hS4, f5K, by exact f5p0, by exact v0.kn hd hT (by omega) v2 hmo v3 (by omega) f5p1, by exact f5p2, by exact fun a i p1 p2 p3 p4 p5 p6 => (f5p3 a i p1 p2 p3 p4 p5 p6).trans (v1 a i p1 p2 p3), by exact f5p4, by have y := f5p1; unfold KQ at y; omega⟩
      · intro h6
        refine n_aload_n c_49_22 rfl ?_
        refine n_getV (bi := 10) c_49_23 sc_15.n rfl rfl rfl (t_15_10 hS) ?_
        intro z7 ez7 f8
        refine n_sipush c_49_26 rfl ?_
        refine n_if2_gt c_49_29 (by omega) (by omega) ?_ ?_
        · intro h9
          refine n_aload_n c_49_110 rfl ?_
          refine n_aload c_49_111 rfl ?_
          refine n_v1V c_49_113 rfl sc_15.n rfl rfl rfl rfl (endX_3_2 (Ms := Ms) (Mt := M) hS hK (by rfl) (by exact v0) (by exact v5) (by exact CLp.mk v8 v7 (by omega))) ?_
          intro  M10 hP11
          obtain ⟨hS10, f11K, f11p0, f11p1, f11p2, f11p3, f11p4⟩ := hP11
          exact n_rV c_49_116 rfl ⟨hS10, f11K, by exact f11p0, by exact v0.kn hd hT (by omega) v2 hmo v3 (by omega) f11p1, by exact f11p2, by exact fun a i p1 p2 p3 p4 p5 p6 => (f11p3 a i p1 p2 p3 p4 p5 p6).trans (v1 a i p1 p2 p3), by exact f11p4, by have y := f11p1; unfold KQ at y; omega⟩
        · intro h12
          refine n_aload_n c_49_32 rfl ?_
          refine n_iload c_49_33 rfl ?_
          refine n_v1V c_49_35 rfl sc_15.n rfl rfl rfl rfl (bringX_3_2 (e0 := x7) (Ms := Ms) (Mt := M) hS (by omega) hK (by rfl) (by exact v0) (by omega)) ?_
          intro  M13 hP14
          obtain ⟨hS13, f14K, f14p0, f14p1, f14p2, f14p3, f14p4, f14p5, f14p6⟩ := hP14
          obtain ⟨yb, yb0, yb1, swb⟩ := f14p5
          refine n_aload_n c_49_38 rfl ?_
          refine n_aload_n c_49_39 rfl ?_
          refine n_getV (bi := 10) c_49_40 sc_15.n rfl rfl rfl (t_15_10 hS13) ?_
          intro z15 ez15 f16
          refine n_iload c_49_43 rfl ?_
          refine n_if2_ne c_49_45 (by omega) (by omega) ?_ ?_
          · intro h17
            refine n_ldc (n := 3000002) c_49_57 rfl ?_
            refine n_putM (bi := 11) hS13 c_49_59 sc_15.n rfl rfl rfl rfl (m_15_11 (by omega)) ?_
            intro M18 eM18 hS18
            have hK18 := f14K.u (by unfold Kok; omega) eM18
            have g18_0 : M18 15 11 = 3000002 := by rw [eM18]; exact nu_s _ _ _ _
            refine n_iconst c_49_62 ?_
            refine n_istore (L2 := [some (2, 15), none, none, some (2, 12), some (0, c), some (0, m), some (2, 109), some (0, x7), some (0, 0)]) c_49_63 rfl rfl ?_
            refine n_fg (le_s (le_n (le_n (le_s (le_s (le_s (le_s (le_s (le_s le_0))))))))) ?_
            exact ih.2 _ _ M18 hS18 (by omega) (by omega) hK18 (by exact f14p0.of hS13.p9 (by rw [eM18, nu_i (by omega)]) (by rw [eM18, nu_i (by omega)]) (fun a i q => by rw [eM18]; exact nu_a (by omega))) (by exact fun a i p1 p2 p3 => by rw [eM18, nu_a (by omega)]; exact (f14p4.fb.1 a i p1 p2 p3).trans (v1 a i p1 p2 p3)) (by exact fun j j0 j1 => ((f14p1 _).mpr (v2 j j0 j1)).of (show M18 15 10 = M13 15 10 by rw [eM18]; exact nu_i (by omega)) (show ∀ i : Int, M18 20 i = M13 20 i from fun i => by rw [eM18]; exact nu_a (by omega))) (by have y := (show M18 15 10 = M13 15 10 by rw [eM18]; exact nu_i (by omega)); omega) (by have y := (show M18 15 10 = M13 15 10 by rw [eM18]; exact nu_i (by omega)); rcases v3 with u | u | u; (exact Or.inl ⟨by rw [eM18]; exact nu_s _ _ _ _, PD.kp u (fun c => ⟨fun q => (f14p1 c).mp (q.of y.symm (fun i => ((show ∀ i : Int, M18 20 i = M13 20 i from fun i => by rw [eM18]; exact nu_a (by omega)) i).symm)), fun q => ((f14p1 c).mpr q).of y (show ∀ i : Int, M18 20 i = M13 20 i from fun i => by rw [eM18]; exact nu_a (by omega))⟩) (fun i hi => by rw [(show ∀ i : Int, M18 20 i = M13 20 i from fun i => by rw [eM18]; exact nu_a (by omega)) i]; exact f14p3 i hi), Or.inr (fun a x y z ha => by omega)⟩); (exact Or.inr (by omega)); (exfalso; omega)) (by exact (swb.vs f14p2 (by omega) (by omega) v5).e (E15.mk eM18 (by omega))) (by exact (v6.br swb (by omega) f14p2 (fun j j0 j1 => f14p6 j j0 j1)).e (E15.mk eM18 (by omega))) (by exact (v7.br swb (by omega) (by omega) f14p2).e (E15.mk eM18 (by omega))) (by exact fun j j0 j1 => ((swb.hs f14p2 (by omega) (by omega) _ _).mpr (v8 j j0 j1)).e (E15.mk eM18 (by omega))) (by exact Or.inl (by rw [eM18]; exact nu_s _ _ _ _)) (by exact fun a x y z ha => by omega) (by omega)
          · intro h19
            refine n_aload_n c_49_48 rfl ?_
            refine n_iload c_49_49 rfl ?_
            refine n_v1I c_49_51 rfl sc_15.n rfl rfl rfl rfl (largestX_3_2 (f := x7) hS13 (by omega)) ?_
            intro z20 M21 hP22
            obtain ⟨eM, f22, f22p0⟩ := hP22
            subst eM
            refine n_goto c_49_54 ?_
            refine n_putM (bi := 11) hS13 c_49_59 sc_15.n rfl rfl rfl rfl (m_15_11 (by omega)) ?_
            intro M23 eM23 hS23
            have hK23 := f14K.u (by unfold Kok; omega) eM23
            have g23_0 : M23 15 10 = M13 15 10 := by rw [eM23]; exact nu_i (by omega)
            have g23_1 : M23 15 11 = z20 := by rw [eM23]; exact nu_s _ _ _ _
            refine n_iconst c_49_62 ?_
            refine n_istore (L2 := [some (2, 15), none, none, some (2, 12), some (0, c), some (0, m), some (2, 109), some (0, x7), some (0, 0)]) c_49_63 rfl rfl ?_
            refine n_fg (le_s (le_n (le_n (le_s (le_s (le_s (le_s (le_s (le_s le_0))))))))) ?_
            exact ih.2 _ _ M23 hS23 (by omega) (by omega) hK23 (by exact f14p0.of hS13.p9 (by rw [eM23, nu_i (by omega)]) (by rw [eM23, nu_i (by omega)]) (fun a i q => by rw [eM23]; exact nu_a (by omega))) (by exact fun a i p1 p2 p3 => by rw [eM23, nu_a (by omega)]; exact (f14p4.fb.1 a i p1 p2 p3).trans (v1 a i p1 p2 p3)) (by exact fun j j0 j1 => ((f14p1 _).mpr (v2 j j0 j1)).of (show M23 15 10 = M13 15 10 by rw [eM23]; exact nu_i (by omega)) (show ∀ i : Int, M23 20 i = M13 20 i from fun i => by rw [eM23]; exact nu_a (by omega))) (by have y := (show M23 15 10 = M13 15 10 by rw [eM23]; exact nu_i (by omega)); omega) (by have y := (show M23 15 10 = M13 15 10 by rw [eM23]; exact nu_i (by omega)); exact Or.inr (by omega)) (by exact (swb.vs f14p2 (by omega) (by omega) v5).e (E15.mk eM23 (by omega))) (by exact (v6.br swb (by omega) f14p2 (fun j j0 j1 => f14p6 j j0 j1)).e (E15.mk eM23 (by omega))) (by exact (v7.br swb (by omega) (by omega) f14p2).e (E15.mk eM23 (by omega))) (by exact fun j j0 j1 => ((swb.hs f14p2 (by omega) (by omega) _ _).mpr (v8 j j0 j1)).e (E15.mk eM23 (by omega))) (by exact CEI.mk (e := x7) f14p0 hd hT hmo (by omega) (by omega) (v6.br swb (by omega) f14p2 (fun j j0 j1 => f14p6 j j0 j1)) f22p0 eM23) (by exact fun a x y z ha => by omega) (by omega)
    · intro x7 x8 M hS k7 k8 hK v0 v1 v2 v3 v4 v5 v6 v7 v8 v9 v10 hnn
      refine n_iload c_49_65 rfl ?_
      refine n_iload c_49_67 rfl ?_
      refine n_if2_ge c_49_69 (by omega) (by omega) ?_ ?_
      · intro h1
        refine n_iinc (L2 := [some (2, 15), none, none, some (2, 12), some (0, c), some (0, m), some (2, 109), some (0, (x7 + 1)), some (0, x8)]) c_49_104 rfl rfl rfl ?_
        refine n_goto c_49_107 ?_
        refine n_fg (le_s (le_n (le_n (le_s (le_s (le_s (le_s (le_s (le_n le_0))))))))) ?_
        exact ih.1 _ M hS (by omega) hK (by exact v0) (by exact v1) (by exact v2) (by rcases v4 with ⟨u1, u2, u3⟩ | u; (rcases u3 with u3 | u3; (exact Or.inr (Or.inr u3)); (first | exact Or.inl (PDa.pd u3 (by omega)) | (exfalso; omega))); (exact Or.inr (Or.inl u))) (by omega) (by exact v5) (by exact v6) (by first | exact PZa.nx v10 (by omega) | exact PDz.ce v7 hd v0 (by omega) v9 v5 (by omega) (fun a a0 a1 => by have y := hwa a a0 a1; rw [pm_e (by omega), ← tm_e (by omega)]; exact ⟨y.1.1, y.2.1⟩)) (by exact v8) (by omega)
      · intro h2
        refine n_aload_n c_49_72 rfl ?_
        refine n_getR c_49_73 sc_15.n rfl rfl rfl r_15_2 ?_
        refine n_iload c_49_76 rfl ?_
        refine n_ialoadV c_49_78 sc_21.n rfl rfl rfl (by omega) (v0.s (by omega) (by omega)) ?_
        intro z3 ez3 f4
        refine n_iconst c_49_79 ?_
        refine n_iadd c_49_80 rfl ?_
        refine n_aload_n c_49_81 rfl ?_
        refine n_getV (bi := 11) c_49_82 sc_15.n rfl rfl rfl (t_15_11 hS) ?_
        intro z5 ez5 f6
        refine n_if2_ge c_49_85 (by omega) (by omega) ?_ ?_
        · intro h7
          refine n_iinc (L2 := [some (2, 15), none, none, some (2, 12), some (0, c), some (0, m), some (2, 109), some (0, (x7 + 1)), some (0, x8)]) c_49_104 rfl rfl rfl ?_
          refine n_goto c_49_107 ?_
          refine n_fg (le_s (le_n (le_n (le_s (le_s (le_s (le_s (le_s (le_n le_0))))))))) ?_
          exact ih.1 _ M hS (by omega) hK (by exact v0) (by exact v1) (by exact v2) (by rcases v4 with ⟨u1, u2, u3⟩ | u; (rcases u3 with u3 | u3; (exact Or.inr (Or.inr u3)); (first | exact Or.inl (PDa.pd u3 (by omega)) | (exfalso; omega))); (exact Or.inr (Or.inl u))) (by omega) (by exact v5) (by exact v6) (by first | exact PZa.nx v10 (by omega) | exact PDz.ce v7 hd v0 (by omega) v9 v5 (by omega) (fun a a0 a1 => by have y := hwa a a0 a1; rw [pm_e (by omega), ← tm_e (by omega)]; exact ⟨y.1.1, y.2.1⟩)) (by exact v8) (by omega)
        · intro h8
          refine n_aload_n c_49_88 rfl ?_
          refine n_aload_n c_49_89 rfl ?_
          refine n_iload c_49_90 rfl ?_
          refine n_aaload c_49_92 sc_12.n rfl rfl rfl (by omega) (r_acts _) ?_
          have q9 : ActAt (55 + 3 * x8) := by unfold ActAt; omega
          have q9l : (55 + 3 * x8) < 55 + 3 * ac := by omega
          refine n_iload c_49_93 rfl ?_
          refine n_v2V c_49_95 rfl sc_15.n rfl rfl rfl rfl (putOnX_3_2 (p := (55 + 3 * x8)) (e0 := x7) (Ms := Ms) (Mt := M) hS q9 q9l (by omega) hK (by rfl) (by exact v0) (by exact v1) (by omega) (by exact hwa x8 (by omega) (by omega)) (by exact fun X Y Z hX hY hZ => by rw [tm_e (by omega)]; exact Clo.app (by omega) (by omega) hX hY hZ) (by exact v5) (by exact v9) (by exact fun i j i0 ij j1 => v6 i j i0 (by omega) ij (by omega)) (by exact fun x y z sx sy sz hx hy hz => by have y2 := VAL.app (a := x8) (by omega) (by omega) hx hy hz; rw [← tm_e (by omega), pm_e (by omega)] at y2; exact y2)) ?_
          intro  M10 hP11
          obtain ⟨hS10, f11K, f11p0, f11p1, f11p2, f11p3, f11p4, f11p5, f11p6⟩ := hP11
          refine n_iinc (L2 := [some (2, 15), none, none, some (2, 12), some (0, c), some (0, m), some (2, 109), some (0, x7), some (0, (x8 + 1))]) c_49_98 rfl rfl rfl ?_
          refine n_goto c_49_101 ?_
          refine n_fg (le_s (le_n (le_n (le_s (le_s (le_s (le_s (le_s (le_s le_0))))))))) ?_
          exact ih.2 _ _ M10 hS10 (by omega) (by omega) f11K (by exact f11p0) (by exact v1.tr f11p3.1) (by exact fun j j0 j1 => (v2 j j0 j1).gr f11p1) (by have y := f11p1.1; omega) (by rcases v4 with ⟨u1, u2, u3⟩ | u; (exact Or.inl ⟨f11p3.2.2.trans u1, u2.gr (by omega) f11p1, PDa.st u3 u2 (by omega) (by omega) u1 f11p1 (by have y := f11p2; rw [tm_e (by omega)] at y; exact y)⟩); (exact Or.inr (Int.le_trans u f11p1.1))) (by exact f11p4) (by exact v6.sl f11p5 f11p1 (by omega) (v5 _ (by omega) (by omega)).r.2) (by exact v7.sl v6 f11p5 f11p1 (by omega)) (by exact fun j j0 j1 => (v8 j j0 j1).gr f11p1 f11p5) (by exact v9.gr f11p1 f11p5 f11p3.2.2) (by exact PZa.st v10 v7 v6 (by omega) f11p5 f11p1 (by omega) (by have y := f11p6; rw [tm_e (by omega), ← pm_e (M := Ms) (a := x8) (by omega)] at y; exact y)) (by omega)
set_option maxHeartbeats 4000000 in
theorem makeX_3_2 {xs : List Int32} {e : Nat} {ac : Int} {M : nM} {c m : Int} {Ms : nM} (hS : Sf 2 ac M M) (hc : 0 ≤ c ∧ c ≤ 8) (hm : -2147483648 ≤ m ∧ m ≤ 2147483647) (hca : c = ac) (hms : M = Ms) (hpz : PZ M) (hwa : ∀ a : Int, 0 ≤ a → a < ac → WAct 2 (55 + 3 * a) Ms) (hmo : NCl 2 8 3 ac (Tm Ms) ≤ m) : nW xs (e + 4) 49 0 [some (2, 15), some (0, 3), some (2, 4), some (2, 12), some (0, c), some (0, m), some (2, 109), none, none] [] M (nPV fun M1 => Sf 2 ac M1 M1 ∧ MK 256 8 7 56 192 1 2 4 8 16 32 64 128 0 M1 ∧ (M1 109 0 = 1) ∧ (KN (NCl 2 8 3 ac (Tm Ms)) (M1 109 1) (M1 109 2)) ∧ (PZ M1) ∧ (FMQ 109 Ms M1) ∧ (M1 109 1 = 0 → LO 2 8 3 ac Ms 109 (M1 109 2) M1) ∧ (M1 109 1 = 1 → M1 109 2 = 0)) := by
  have hd : (2 : Int) = 2 ∨ (2 : Int) = 3 := by decide
  have hac := hS.2.2.2.2
  have hT := Tm_r hS
  rw [hms] at hT
  refine n_aload_n c_49_0 rfl ?_
  refine n_aload_n c_49_1 rfl ?_
  refine n_putB hS c_49_2 ?_
  intro M1 eM1 hS1
  have hS1 := hS1.refl
  have hB1 : M1 15 0 = 4 := by rw [eM1]; exact nu_s _ _ _ _
  refine n_aload_n c_49_5 rfl ?_
  refine n_iload_n c_49_6 rfl ?_
  refine n_v1V c_49_7 rfl sc_15.n rfl rfl rfl rfl (beginX_3_2 (Ms := Ms) hS1 (by exact hB1) (by exact PZ.of hpz hS.p9 (by rw [eM1]; exact nu_i (by omega)) (fun a i q => by rw [eM1]; exact nu_a (by omega))) (by exact fun a i p1 p2 p3 => by rw [eM1, nu_a (by omega), hms])) ?_
  intro  M2 hP3
  obtain ⟨hS2, f3K, f3p0, f3p1, f3p2, f3p3, f3p4⟩ := hP3
  refine n_iconst c_49_10 ?_
  refine n_istore (L2 := [some (2, 15), some (0, 3), some (2, 4), some (2, 12), some (0, c), some (0, m), some (2, 109), some (0, 0), none]) c_49_11 rfl rfl ?_
  refine n_fg (le_s (le_n (le_n (le_s (le_s (le_s (le_s (le_s (le_n le_0))))))))) ?_
  exact (makeX_3_2_c hS hc hm hca hms hpz hwa hmo 5708).1 _ M2 hS2 (by omega) f3K (by exact f3p0) (by exact f3p2) (by exact f3p1) (by exact Or.inl (fun a x y z _ _ hx => by omega)) (by have y := t_15_10 hS2; omega) (by exact f3p3) (by exact fun i j i0 i1 => by omega) (by exact fun a x y z _ _ hx => by omega) (by exact f3p4) (by omega)
