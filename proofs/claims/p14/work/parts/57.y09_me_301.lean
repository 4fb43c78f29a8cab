/-! What the methods tell. -/
set_option maxHeartbeats 4000000 in
theorem fillMX27T_1_3 {xs : List Int32} {e : Nat} {ac : Int} {M0 M : nM} {p i j g : Int} {Ms : nM} (hS : Sf 3 ac M0 M) (hp : ActAt p) (hpl : p < 55 + 3 * ac) (hi : 0 ≤ i ∧ i ≤ 26) (hj : 0 ≤ j ∧ j ≤ 26) (hK : MK 27 27 26 0 0 1 3 9 0 0 0 0 0 0 M) (hg : M 15 10 = g) (hms : M = Ms) : nW xs e 45 0 [some (2, 27), some (2, 4), some (2, (p + 1)), some (0, i), some (0, j), none, none, none, none, none, none, none, none, none, none] [] M (nPV fun M1 => Sf 3 ac M0 M1 ∧ (M1 15 10 = g) ∧ MK 27 27 26 0 0 1 3 9 0 0 0 0 0 0 M1 ∧ (FCm 28 Ms M1) ∧ (∀ c : Int, 0 ≤ c → c < 3 * 3 * 3 → M1 28 c = linw 3 (fun i => Ms (p + 1) i) 0 0 0 i j c)) := by
  have hd : (3 : Int) = 2 ∨ (3 : Int) = 3 := by decide
  have hac := hS.2.2.2.2
  refine n_aload_n c_45_0 rfl ?_
  refine n_getV (bi := 1) c_45_1 sc_27.n rfl rfl rfl hK.w27.1 ?_
  intro z1 ez1 f2
  obtain rfl : z1 = 0 := by omega
  refine n_if0_ne c_45_4 (by omega) ?_ ?_
  · intro h3
    exfalso; omega
  · intro h4
    exact n_rV c_45_7 rfl ⟨hS, by omega, hK, by rw [hms]; exact fun _ _ _ => rfl, by exact fun c h0 h1 => by have u := hK.l28 h0 (show c < 27 by omega); unfold linw; omega⟩

set_option maxHeartbeats 4000000 in
theorem fillMX29T_1_3 {xs : List Int32} {e : Nat} {ac : Int} {M0 M : nM} {p i j g : Int} {Ms : nM} (hS : Sf 3 ac M0 M) (hp : ActAt p) (hpl : p < 55 + 3 * ac) (hi : 0 ≤ i ∧ i ≤ 26) (hj : 0 ≤ j ∧ j ≤ 26) (hK : MK 27 27 26 0 0 1 3 9 0 0 0 0 0 0 M) (hg : M 15 10 = g) (hms : M = Ms) : nW xs e 45 0 [some (2, 29), some (2, 4), some (2, (p + 1)), some (0, i), some (0, j), none, none, none, none, none, none, none, none, none, none] [] M (nPV fun M1 => Sf 3 ac M0 M1 ∧ (M1 15 10 = g) ∧ MK 27 27 26 0 0 1 3 9 0 0 0 0 0 0 M1 ∧ (FCm 30 Ms M1) ∧ (∀ c : Int, 0 ≤ c → c < 3 * 3 * 3 → M1 30 c = linw 3 (fun i => Ms (p + 1) i) 0 0 0 i j c)) := by
  have hd : (3 : Int) = 2 ∨ (3 : Int) = 3 := by decide
  have hac := hS.2.2.2.2
  refine n_aload_n c_45_0 rfl ?_
  refine n_getV (bi := 1) c_45_1 sc_29.n rfl rfl rfl hK.w29.1 ?_
  intro z1 ez1 f2
  obtain rfl : z1 = 0 := by omega
  refine n_if0_ne c_45_4 (by omega) ?_ ?_
  · intro h3
    exfalso; omega
  · intro h4
    exact n_rV c_45_7 rfl ⟨hS, by omega, hK, by rw [hms]; exact fun _ _ _ => rfl, by exact fun c h0 h1 => by have u := hK.l30 h0 (show c < 27 by omega); unfold linw; omega⟩

set_option maxHeartbeats 4000000 in
theorem fillMX25U_1_3_c {xs : List Int32} {e : Nat} {ac : Int} {M0 M : nM} {p i j g : Int} {Ms : nM} (hS : Sf 3 ac M0 M) (hp : ActAt p) (hpl : p < 55 + 3 * ac) (hi : 0 ≤ i ∧ i ≤ 26) (hj : 0 ≤ j ∧ j ≤ 26) (hK : MK 27 27 26 0 0 1 3 9 0 0 0 0 0 0 M) (hg : M 15 10 = g) (hms : M = Ms) : ∀ nn : Nat, (∀ (x5 x6 x7 x8 x9 x10 : Int) (M : nM), Sf 3 ac M0 M → (3 ≤ x5 ∧ x5 ≤ 3) → (0 ≤ x6 ∧ x6 ≤ 24) → (0 ≤ x7 ∧ x7 ≤ 24) → (0 ≤ x8 ∧ x8 ≤ 24) → (0 ≤ x9 ∧ x9 ≤ 27) → (0 ≤ x10 ∧ x10 ≤ 3) → (MK 27 27 26 0 0 1 3 9 0 0 0 0 0 0 M) → (M 15 10 = g) → (x9 = 9 * x10) → (x6 = (i / (3 * 3) * 3 + j / (3 * 3)) * 3) → (x7 = (i / 3 % 3 * 3 + j / 3 % 3) * 3) → (x8 = (i % 3 * 3 + j % 3) * 3) → (FCm 26 Ms M) → (∀ c : Int, 0 ≤ c → c < x9 → M 26 c = linw 3 (fun i => Ms (p + 2) i) 1 3 9 i j c) → (3 - x10) * 31 + 31 < (nn : Int) → nW xs e 45 86 [some (2, 25), none, some (2, (p + 2)), none, none, some (0, x5), some (0, x6), some (0, x7), some (0, x8), some (0, x9), some (0, x10), none, none, none, none] [] M (nPV fun M1 => Sf 3 ac M0 M1 ∧ (M1 15 10 = g) ∧ MK 27 27 26 0 0 1 3 9 0 0 0 0 0 0 M1 ∧ (FCm 26 Ms M1) ∧ (∀ c : Int, 0 ≤ c → c < 3 * 3 * 3 → M1 26 c = linw 3 (fun i => Ms (p + 2) i) 1 3 9 i j c))) ∧ (∀ (x5 x6 x7 x8 x9 x10 x11 x12 : Int) (M : nM), Sf 3 ac M0 M → (3 ≤ x5 ∧ x5 ≤ 3) → (0 ≤ x6 ∧ x6 ≤ 24) → (0 ≤ x7 ∧ x7 ≤ 24) → (0 ≤ x8 ∧ x8 ≤ 24) → (0 ≤ x9 ∧ x9 ≤ 27) → (0 ≤ x10 ∧ x10 ≤ 2) → (0 ≤ x11 ∧ x11 ≤ 2) → (0 ≤ x12 ∧ x12 ≤ 3) → (MK 27 27 26 0 0 1 3 9 0 0 0 0 0 0 M) → (M 15 10 = g) → (x9 = 9 * x10 + 3 * x12) → (x6 = (i / (3 * 3) * 3 + j / (3 * 3)) * 3) → (x7 = (i / 3 % 3 * 3 + j / 3 % 3) * 3) → (x8 = (i % 3 * 3 + j % 3) * 3) → (FCm 26 Ms M) → (∀ c : Int, 0 ≤ c → c < x9 → M 26 c = linw 3 (fun i => Ms (p + 2) i) 1 3 9 i j c) → (x11 = Ms (p + 2) (x6 + x10) * 1) → (3 - x10) * 31 + (3 - x12) * 6 + 6 < (nn : Int) → nW xs e 45 110 [some (2, 25), none, some (2, (p + 2)), none, none, some (0, x5), some (0, x6), some (0, x7), some (0, x8), some (0, x9), some (0, x10), some (0, x11), some (0, x12), none, none] [] M (nPV fun M1 => Sf 3 ac M0 M1 ∧ (M1 15 10 = g) ∧ MK 27 27 26 0 0 1 3 9 0 0 0 0 0 0 M1 ∧ (FCm 26 Ms M1) ∧ (∀ c : Int, 0 ≤ c → c < 3 * 3 * 3 → M1 26 c = linw 3 (fun i => Ms (p + 2) i) 1 3 9 i j c))) ∧ (∀ (x5 x6 x7 x8 x9 x10 x11 x12 x13 x14 : Int) (M : nM), Sf 3 ac M0 M → (3 ≤ x5 ∧ x5 ≤ 3) → (0 ≤ x6 ∧ x6 ≤ 24) → (0 ≤ x7 ∧ x7 ≤ 24) → (0 ≤ x8 ∧ x8 ≤ 24) → (0 ≤ x9 ∧ x9 ≤ 27) → (0 ≤ x10 ∧ x10 ≤ 2) → (0 ≤ x11 ∧ x11 ≤ 2) → (0 ≤ x12 ∧ x12 ≤ 2) → (0 ≤ x13 ∧ x13 ≤ 8) → (0 ≤ x14 ∧ x14 ≤ 3) → (MK 27 27 26 0 0 1 3 9 0 0 0 0 0 0 M) → (M 15 10 = g) → (x9 = 9 * x10 + 3 * x12 + x14) → (x6 = (i / (3 * 3) * 3 + j / (3 * 3)) * 3) → (x7 = (i / 3 % 3 * 3 + j / 3 % 3) * 3) → (x8 = (i % 3 * 3 + j % 3) * 3) → (FCm 26 Ms M) → (∀ c : Int, 0 ≤ c → c < x9 → M 26 c = linw 3 (fun i => Ms (p + 2) i) 1 3 9 i j c) → (x11 = Ms (p + 2) (x6 + x10) * 1) → (x13 = Ms (p + 2) (x6 + x10) * 1 + Ms (p + 2) (x7 + x12) * 3) → (3 - x10) * 31 + (3 - x12) * 6 + (3 - x14) * 1 + 1 < (nn : Int) → nW xs e 45 137 [some (2, 25), none, some (2, (p + 2)), none, none, some (0, x5), some (0, x6), some (0, x7), some (0, x8), some (0, x9), some (0, x10), some (0, x11), some (0, x12), some (0, x13), some (0, x14)] [] M (nPV fun M1 => Sf 3 ac M0 M1 ∧ (M1 15 10 = g) ∧ MK 27 27 26 0 0 1 3 9 0 0 0 0 0 0 M1 ∧ (FCm 26 Ms M1) ∧ (∀ c : Int, 0 ≤ c → c < 3 * 3 * 3 → M1 26 c = linw 3 (fun i => Ms (p + 2) i) 1 3 9 i j c))) := by
  have hd : (3 : Int) = 2 ∨ (3 : Int) = 3 := by decide
  have hac := hS.2.2.2.2
  have hpb := hp.1
  intro nn
  induction nn with
  | zero => refine ⟨?_, ?_, ?_⟩ <;> (intros; omega)
  | succ nn ih =>
    refine ⟨?_, ?_, ?_⟩
    · intro x5 x6 x7 x8 x9 x10 M hS k5 k6 k7 k8 k9 k10 hK hgg v0 v1 v2 v3 v4 v5 hnn
      refine n_iload c_45_86 rfl ?_
      refine n_iload c_45_88 rfl ?_
      refine n_if2_ge c_45_90 (by omega) (by omega) ?_ ?_
      · intro h1
        exact n_rV c_45_187 rfl ⟨hS, by omega, hK, by exact v4, by exact fun c h0 h1 => v5 c h0 (by omega)⟩
      · intro h2
        refine n_aload_n c_45_93 rfl ?_
        refine n_iload c_45_94 rfl ?_
        refine n_iload c_45_96 rfl ?_
        refine n_iadd c_45_98 rfl ?_
        refine n_ialoadV c_45_99 hp.c0.2.2.n rfl rfl rfl (by omega) (t_actrl hS hp hpl (Or.inr rfl) (by omega) (by omega)) ?_
        intro z3 ez3 f4
        refine n_aload_n c_45_100 rfl ?_
        refine n_getV (bi := 1) c_45_101 sc_25.n rfl rfl rfl hK.w25.1 ?_
        intro z5 ez5 f6
        obtain rfl : z5 = 1 := by omega
        refine n_imul c_45_104 rfl ?_
        refine n_istore (L2 := [some (2, 25), none, some (2, (p + 2)), none, none, some (0, x5), some (0, x6), some (0, x7), some (0, x8), some (0, x9), some (0, x10), some (0, (z3 * 1)), none, none, none]) c_45_105 rfl rfl ?_
        refine n_iconst c_45_107 ?_
        refine n_istore (L2 := [some (2, 25), none, some (2, (p + 2)), none, none, some (0, x5), some (0, x6), some (0, x7), some (0, x8), some (0, x9), some (0, x10), some (0, (z3 * 1)), some (0, 0), none, none]) c_45_108 rfl rfl ?_
        refine n_fg (le_s (le_n (le_s (le_n (le_n (le_s (le_s (le_s (le_s (le_s (le_s (le_s (le_s (le_n (le_n le_0))))))))))))))) ?_
        exact ih.2.1 _ _ _ _ _ _ _ _ M hS (by omega) (by omega) (by omega) (by omega) (by omega) (by omega) (by omega) (by omega) hK (by omega) (by omega) (by exact v1) (by exact v2) (by exact v3) (by exact v4) (by exact v5) (by have u1 := v4 (p + 2) (x6 + x10) (by omega); omega) (by omega)
    · intro x5 x6 x7 x8 x9 x10 x11 x12 M hS k5 k6 k7 k8 k9 k10 k11 k12 hK hgg v0 v1 v2 v3 v4 v5 v6 hnn
      refine n_iload c_45_110 rfl ?_
      refine n_iload c_45_112 rfl ?_
      refine n_if2_ge c_45_114 (by omega) (by omega) ?_ ?_
      · intro h1
        refine n_iinc (L2 := [some (2, 25), none, some (2, (p + 2)), none, none, some (0, x5), some (0, x6), some (0, x7), some (0, x8), some (0, x9), some (0, (x10 + 1)), some (0, x11), some (0, x12), none, none]) c_45_181 rfl rfl rfl ?_
        refine n_goto c_45_184 ?_
        refine n_fg (le_s (le_n (le_s (le_n (le_n (le_s (le_s (le_s (le_s (le_s (le_s (le_n (le_n (le_n (le_n le_0))))))))))))))) ?_
        exact ih.1 _ _ _ _ _ _ M hS (by omega) (by omega) (by omega) (by omega) (by omega) (by omega) hK (by omega) (by omega) (by exact v1) (by exact v2) (by exact v3) (by exact v4) (by exact v5) (by omega)
      · intro h2
        refine n_iload c_45_117 rfl ?_
        refine n_aload_n c_45_119 rfl ?_
        refine n_iload c_45_120 rfl ?_
        refine n_iload c_45_122 rfl ?_
        refine n_iadd c_45_124 rfl ?_
        refine n_ialoadV c_45_125 hp.c0.2.2.n rfl rfl rfl (by omega) (t_actrl hS hp hpl (Or.inr rfl) (by omega) (by omega)) ?_
        intro z3 ez3 f4
        refine n_aload_n c_45_126 rfl ?_
        refine n_getV (bi := 2) c_45_127 sc_25.n rfl rfl rfl hK.w25.2.1 ?_
        intro z5 ez5 f6
        obtain rfl : z5 = 3 := by omega
        refine n_imul c_45_130 rfl ?_
        refine n_iadd c_45_131 rfl ?_
        refine n_istore (L2 := [some (2, 25), none, some (2, (p + 2)), none, none, some (0, x5), some (0, x6), some (0, x7), some (0, x8), some (0, x9), some (0, x10), some (0, x11), some (0, x12), some (0, (x11 + (z3 * 3))), none]) c_45_132 rfl rfl ?_
        refine n_iconst c_45_134 ?_
        refine n_istore (L2 := [some (2, 25), none, some (2, (p + 2)), none, none, some (0, x5), some (0, x6), some (0, x7), some (0, x8), some (0, x9), some (0, x10), some (0, x11), some (0, x12), some (0, (x11 + (z3 * 3))), some (0, 0)]) c_45_135 rfl rfl ?_
        refine n_fg (le_s (le_n (le_s (le_n (le_n (le_s (le_s (le_s (le_s (le_s (le_s (le_s (le_s (le_s (le_s le_0))))))))))))))) ?_
        exact ih.2.2 _ _ _ _ _ _ _ _ _ _ M hS (by omega) (by omega) (by omega) (by omega) (by omega) (by omega) (by omega) (by omega) (by omega) (by omega) hK (by omega) (by omega) (by exact v1) (by exact v2) (by exact v3) (by exact v4) (by exact v5) (by exact v6) (by have u1 := v4 (p + 2) (x7 + x12) (by omega); omega) (by omega)
    · intro x5 x6 x7 x8 x9 x10 x11 x12 x13 x14 M hS k5 k6 k7 k8 k9 k10 k11 k12 k13 k14 hK hgg v0 v1 v2 v3 v4 v5 v6 v7 hnn
      have vf := v4
      refine n_iload c_45_137 rfl ?_
      refine n_iload c_45_139 rfl ?_
      refine n_if2_ge c_45_141 (by omega) (by omega) ?_ ?_
      · intro h1
        refine n_iinc (L2 := [some (2, 25), none, some (2, (p + 2)), none, none, some (0, x5), some (0, x6), some (0, x7), some (0, x8), some (0, x9), some (0, x10), some (0, x11), some (0, (x12 + 1)), some (0, x13), some (0, x14)]) c_45_175 rfl rfl rfl ?_
        refine n_goto c_45_178 ?_
        refine n_fg (le_s (le_n (le_s (le_n (le_n (le_s (le_s (le_s (le_s (le_s (le_s (le_s (le_s (le_n (le_n le_0))))))))))))))) ?_
        exact ih.2.1 _ _ _ _ _ _ _ _ M hS (by omega) (by omega) (by omega) (by omega) (by omega) (by omega) (by omega) (by omega) hK (by omega) (by omega) (by exact v1) (by exact v2) (by exact v3) (by exact v4) (by exact v5) (by exact v6) (by omega)
      · intro h2
        refine n_aload_n c_45_144 rfl ?_
        refine n_getR c_45_145 sc_25.n rfl rfl rfl r_25_0 ?_
        refine n_iload c_45_148 rfl ?_
        refine n_iload c_45_150 rfl ?_
        refine n_aload_n c_45_152 rfl ?_
        refine n_iload c_45_153 rfl ?_
        refine n_iload c_45_155 rfl ?_
        refine n_iadd c_45_157 rfl ?_
        refine n_ialoadV c_45_158 hp.c0.2.2.n rfl rfl rfl (by omega) (t_actrl hS hp hpl (Or.inr rfl) (by omega) (by omega)) ?_
        intro z3 ez3 f4
        refine n_aload_n c_45_159 rfl ?_
        refine n_getV (bi := 3) c_45_160 sc_25.n rfl rfl rfl hK.w25.2.2 ?_
        intro z5 ez5 f6
        obtain rfl : z5 = 9 := by omega
        refine n_imul c_45_163 rfl ?_
        refine n_iadd c_45_164 rfl ?_
        refine n_iastoreV hS c_45_165 sc_26.n rfl (by omega) (w_26 (by omega) (by omega)) ?_
        intro M7 eM7 hS7
        have hK7 := hK.u (by unfold Kok; omega) eM7
        have g7_0 : M7 15 10 = M 15 10 := by rw [eM7]; exact nu_a (by omega)
        refine n_iinc (L2 := [some (2, 25), none, some (2, (p + 2)), none, none, some (0, x5), some (0, x6), some (0, x7), some (0, x8), some (0, (x9 + 1)), some (0, x10), some (0, x11), some (0, x12), some (0, x13), some (0, x14)]) c_45_166 rfl rfl rfl ?_
        refine n_iinc (L2 := [some (2, 25), none, some (2, (p + 2)), none, none, some (0, x5), some (0, x6), some (0, x7), some (0, x8), some (0, (x9 + 1)), some (0, x10), some (0, x11), some (0, x12), some (0, x13), some (0, (x14 + 1))]) c_45_169 rfl rfl rfl ?_
        refine n_goto c_45_172 ?_
        refine n_fg (le_s (le_n (le_s (le_n (le_n (le_s (le_s (le_s (le_s (le_s (le_s (le_s (le_s (le_s (le_s le_0))))))))))))))) ?_
        exact ih.2.2 _ _ _ _ _ _ _ _ _ _ M7 hS7 (by omega) (by omega) (by omega) (by omega) (by omega) (by omega) (by omega) (by omega) (by omega) (by omega) hK7 (by omega) (by omega) (by exact v1) (by exact v2) (by exact v3) (by exact FCm.u v4 eM7) (by exact fun c h0 h1 => by rw [eM7, nu_e]; by_cases e : c = x9; (rw [if_pos ⟨rfl, e⟩, e]; show _ = Ms (p + 2) ((i / (3 * 3) * 3 + j / (3 * 3)) * 3 + x9 / (3 * 3)) * 1 + Ms (p + 2) ((i / 3 % 3 * 3 + j / 3 % 3) * 3 + x9 / 3 % 3) * 3 + Ms (p + 2) ((i % 3 * 3 + j % 3) * 3 + x9 % 3) * 9; rw [show x9 / (3 * 3) = x10 by omega, show x9 / 3 % 3 = x12 by omega, show x9 % 3 = x14 by omega, ← v1, ← v2, ← v3]; have u3 := vf (p + 2) (x8 + x14) (by omega); omega); (rw [if_neg (fun u => e u.2)]; exact v5 c h0 (by omega))) (by exact v6) (by exact v7) (by omega)
set_option maxHeartbeats 4000000 in
theorem fillMX25U_1_3 {xs : List Int32} {e : Nat} {ac : Int} {M0 M : nM} {p i j g : Int} {Ms : nM} (hS : Sf 3 ac M0 M) (hp : ActAt p) (hpl : p < 55 + 3 * ac) (hi : 0 ≤ i ∧ i ≤ 26) (hj : 0 ≤ j ∧ j ≤ 26) (hK : MK 27 27 26 0 0 1 3 9 0 0 0 0 0 0 M) (hg : M 15 10 = g) (hms : M = Ms) : nW xs e 45 0 [some (2, 25), some (2, 4), some (2, (p + 2)), some (0, i), some (0, j), none, none, none, none, none, none, none, none, none, none] [] M (nPV fun M1 => Sf 3 ac M0 M1 ∧ (M1 15 10 = g) ∧ MK 27 27 26 0 0 1 3 9 0 0 0 0 0 0 M1 ∧ (FCm 26 Ms M1) ∧ (∀ c : Int, 0 ≤ c → c < 3 * 3 * 3 → M1 26 c = linw 3 (fun i => Ms (p + 2) i) 1 3 9 i j c)) := by
  have hd : (3 : Int) = 2 ∨ (3 : Int) = 3 := by decide
  have hac := hS.2.2.2.2
  have hpb := hp.1
  refine n_aload_n c_45_0 rfl ?_
  refine n_getV (bi := 1) c_45_1 sc_25.n rfl rfl rfl hK.w25.1 ?_
  intro z1 ez1 f2
  obtain rfl : z1 = 1 := by omega
  refine n_if0_ne c_45_4 (by omega) ?_ ?_
  · intro h3
    refine n_aload_n c_45_8 rfl ?_
    refine n_getV (bi := 0) c_45_9 sc_4.n rfl rfl rfl (t_4_0 hS) ?_
    intro z4 ez4 f5
    obtain rfl : z4 = 3 := by omega
    refine n_istore (L2 := [some (2, 25), some (2, 4), some (2, (p + 2)), some (0, i), some (0, j), some (0, 3), none, none, none, none, none, none, none, none, none]) c_45_12 rfl rfl ?_
    refine n_aload_n c_45_14 rfl ?_
    refine n_getR c_45_15 sc_4.n rfl rfl rfl r_4_2 ?_
    refine n_iload_n c_45_18 rfl ?_
    refine n_ialoadV c_45_19 sc_5.n rfl rfl rfl (by omega) (t_5d hS hd (by omega) (by omega)) ?_
    intro z6 ez6 f7
    have q19 := t_5e hS (i := i) (by omega) (by omega)
    refine n_iload c_45_20 rfl ?_
    refine n_imul c_45_22 rfl ?_
    refine n_aload_n c_45_23 rfl ?_
    refine n_getR c_45_24 sc_4.n rfl rfl rfl r_4_2 ?_
    refine n_iload c_45_27 rfl ?_
    refine n_ialoadV c_45_29 sc_5.n rfl rfl rfl (by omega) (t_5d hS hd (by omega) (by omega)) ?_
    intro z8 ez8 f9
    have q29 := t_5e hS (i := j) (by omega) (by omega)
    refine n_iadd c_45_30 rfl ?_
    refine n_iload c_45_31 rfl ?_
    refine n_imul c_45_33 rfl ?_
    refine n_istore (L2 := [some (2, 25), some (2, 4), some (2, (p + 2)), some (0, i), some (0, j), some (0, 3), some (0, (((z6 * 3) + z8) * 3)), none, none, none, none, none, none, none, none]) c_45_34 rfl rfl ?_
    refine n_aload_n c_45_36 rfl ?_
    refine n_getR c_45_37 sc_4.n rfl rfl rfl r_4_3 ?_
    refine n_iload_n c_45_40 rfl ?_
    refine n_ialoadV c_45_41 sc_6.n rfl rfl rfl (by omega) (t_6d hS hd (by omega) (by omega)) ?_
    intro z10 ez10 f11
    have q41 := t_6e hS (i := i) (by omega) (by omega)
    refine n_iload c_45_42 rfl ?_
    refine n_imul c_45_44 rfl ?_
    refine n_aload_n c_45_45 rfl ?_
    refine n_getR c_45_46 sc_4.n rfl rfl rfl r_4_3 ?_
    refine n_iload c_45_49 rfl ?_
    refine n_ialoadV c_45_51 sc_6.n rfl rfl rfl (by omega) (t_6d hS hd (by omega) (by omega)) ?_
    intro z12 ez12 f13
    have q51 := t_6e hS (i := j) (by omega) (by omega)
    refine n_iadd c_45_52 rfl ?_
    refine n_iload c_45_53 rfl ?_
    refine n_imul c_45_55 rfl ?_
    refine n_istore (L2 := [some (2, 25), some (2, 4), some (2, (p + 2)), some (0, i), some (0, j), some (0, 3), some (0, (((z6 * 3) + z8) * 3)), some (0, (((z10 * 3) + z12) * 3)), none, none, none, none, none, none, none]) c_45_56 rfl rfl ?_
    refine n_aload_n c_45_58 rfl ?_
    refine n_getR c_45_59 sc_4.n rfl rfl rfl r_4_4 ?_
    refine n_iload_n c_45_62 rfl ?_
    refine n_ialoadV c_45_63 sc_7.n rfl rfl rfl (by omega) (t_7d hS hd (by omega) (by omega)) ?_
    intro z14 ez14 f15
    have q63 := t_7e hS (i := i) (by omega) (by omega)
    refine n_iload c_45_64 rfl ?_
    refine n_imul c_45_66 rfl ?_
    refine n_aload_n c_45_67 rfl ?_
    refine n_getR c_45_68 sc_4.n rfl rfl rfl r_4_4 ?_
    refine n_iload c_45_71 rfl ?_
    refine n_ialoadV c_45_73 sc_7.n rfl rfl rfl (by omega) (t_7d hS hd (by omega) (by omega)) ?_
    intro z16 ez16 f17
    have q73 := t_7e hS (i := j) (by omega) (by omega)
    refine n_iadd c_45_74 rfl ?_
    refine n_iload c_45_75 rfl ?_
    refine n_imul c_45_77 rfl ?_
    refine n_istore (L2 := [some (2, 25), some (2, 4), some (2, (p + 2)), some (0, i), some (0, j), some (0, 3), some (0, (((z6 * 3) + z8) * 3)), some (0, (((z10 * 3) + z12) * 3)), some (0, (((z14 * 3) + z16) * 3)), none, none, none, none, none, none]) c_45_78 rfl rfl ?_
    refine n_iconst c_45_80 ?_
    refine n_istore (L2 := [some (2, 25), some (2, 4), some (2, (p + 2)), some (0, i), some (0, j), some (0, 3), some (0, (((z6 * 3) + z8) * 3)), some (0, (((z10 * 3) + z12) * 3)), some (0, (((z14 * 3) + z16) * 3)), some (0, 0), none, none, none, none, none]) c_45_81 rfl rfl ?_
    refine n_iconst c_45_83 ?_
    refine n_istore (L2 := [some (2, 25), some (2, 4), some (2, (p + 2)), some (0, i), some (0, j), some (0, 3), some (0, (((z6 * 3) + z8) * 3)), some (0, (((z10 * 3) + z12) * 3)), some (0, (((z14 * 3) + z16) * 3)), some (0, 0), some (0, 0), none, none, none, none]) c_45_84 rfl rfl ?_
    refine n_fg (le_s (le_n (le_s (le_n (le_n (le_s (le_s (le_s (le_s (le_s (le_s (le_n (le_n (le_n (le_n le_0))))))))))))))) ?_
    exact (fillMX25U_1_3_c hS hp hpl hi hj hK hg hms 320).1 _ _ _ _ _ _ M hS (by omega) (by omega) (by omega) (by omega) (by omega) (by omega) hK (by omega) (by omega) (by omega) (by omega) (by omega) (by subst hms; exact fun _ _ _ => rfl) (by exact fun c h0 h1 => by omega) (by omega)
  · intro h18
    exfalso; omega

set_option maxHeartbeats 4000000 in
theorem fillMX27U_1_3 {xs : List Int32} {e : Nat} {ac : Int} {M0 M : nM} {p i j g : Int} {Ms : nM} (hS : Sf 3 ac M0 M) (hp : ActAt p) (hpl : p < 55 + 3 * ac) (hi : 0 ≤ i ∧ i ≤ 26) (hj : 0 ≤ j ∧ j ≤ 26) (hK : MK 27 27 26 0 0 1 3 9 0 0 0 0 0 0 M) (hg : M 15 10 = g) (hms : M = Ms) : nW xs e 45 0 [some (2, 27), some (2, 4), some (2, (p + 2)), some (0, i), some (0, j), none, none, none, none, none, none, none, none, none, none] [] M (nPV fun M1 => Sf 3 ac M0 M1 ∧ (M1 15 10 = g) ∧ MK 27 27 26 0 0 1 3 9 0 0 0 0 0 0 M1 ∧ (FCm 28 Ms M1) ∧ (∀ c : Int, 0 ≤ c → c < 3 * 3 * 3 → M1 28 c = linw 3 (fun i => Ms (p + 2) i) 0 0 0 i j c)) := by
  have hd : (3 : Int) = 2 ∨ (3 : Int) = 3 := by decide
  have hac := hS.2.2.2.2
  refine n_aload_n c_45_0 rfl ?_
  refine n_getV (bi := 1) c_45_1 sc_27.n rfl rfl rfl hK.w27.1 ?_
  intro z1 ez1 f2
  obtain rfl : z1 = 0 := by omega
  refine n_if0_ne c_45_4 (by omega) ?_ ?_
  · intro h3
    exfalso; omega
  · intro h4
    exact n_rV c_45_7 rfl ⟨hS, by omega, hK, by rw [hms]; exact fun _ _ _ => rfl, by exact fun c h0 h1 => by have u := hK.l28 h0 (show c < 27 by omega); unfold linw; omega⟩

set_option maxHeartbeats 4000000 in
theorem fillMX29U_1_3 {xs : List Int32} {e : Nat} {ac : Int} {M0 M : nM} {p i j g : Int} {Ms : nM} (hS : Sf 3 ac M0 M) (hp : ActAt p) (hpl : p < 55 + 3 * ac) (hi : 0 ≤ i ∧ i ≤ 26) (hj : 0 ≤ j ∧ j ≤ 26) (hK : MK 27 27 26 0 0 1 3 9 0 0 0 0 0 0 M) (hg : M 15 10 = g) (hms : M = Ms) : nW xs e 45 0 [some (2, 29), some (2, 4), some (2, (p + 2)), some (0, i), some (0, j), none, none, none, none, none, none, none, none, none, none] [] M (nPV fun M1 => Sf 3 ac M0 M1 ∧ (M1 15 10 = g) ∧ MK 27 27 26 0 0 1 3 9 0 0 0 0 0 0 M1 ∧ (FCm 30 Ms M1) ∧ (∀ c : Int, 0 ≤ c → c < 3 * 3 * 3 → M1 30 c = linw 3 (fun i => Ms (p + 2) i) 0 0 0 i j c)) := by
  have hd : (3 : Int) = 2 ∨ (3 : Int) = 3 := by decide
  have hac := hS.2.2.2.2
  refine n_aload_n c_45_0 rfl ?_
  refine n_getV (bi := 1) c_45_1 sc_29.n rfl rfl rfl hK.w29.1 ?_
  intro z1 ez1 f2
  obtain rfl : z1 = 0 := by omega
  refine n_if0_ne c_45_4 (by omega) ?_ ?_
  · intro h3
    exfalso; omega
  · intro h4
    exact n_rV c_45_7 rfl ⟨hS, by omega, hK, by rw [hms]; exact fun _ _ _ => rfl, by exact fun c h0 h1 => by have u := hK.l30 h0 (show c < 27 by omega); unfold linw; omega⟩

set_option maxHeartbeats 4000000 in
theorem sweepXT_1_3_c {xs : List Int32} {e : Nat} {ac : Int} {M : nM} {p x y f t s : Int} {Ms : nM} {Mt : nM} {L : Int} (hS : Sf 3 ac M M) (hp : ActAt p) (hpl : p < 55 + 3 * ac) (hx : 0 ≤ x ∧ x ≤ 256) (hy : 0 ≤ y ∧ y ≤ 256) (hf : 0 ≤ f ∧ f ≤ 256) (ht : -1 ≤ t ∧ t ≤ 256) (hs : 1 ≤ s ∧ s ≤ 2000001) (hK : MK 27 27 26 0 0 1 3 9 0 0 0 0 0 0 M) (hmt : M = Mt) (hIt : MI 3 3 1 ac Ms Mt) (hfm : FM Ms Mt) (hxg : x < Mt 15 10) (hyg : y < Mt 15 10) (htg : t < Mt 15 10) (hcl : ∀ X Y Z : Int, Clo 3 3 1 ac (Tm Ms) X → Clo 3 3 1 ac (Tm Ms) Y → Clo 3 3 1 ac (Tm Ms) Z → Clo 3 3 1 ac (Tm Ms) (mcm 3 3 (fun i => Ms (p + 1) i) X Y Z)) (hVS : VS 3 3 1 ac Ms Mt) (hCE : CEI 3 3 1 ac Ms Mt) (hLz : ∀ z : Int, f ≤ z → z ≤ t → Mt 21 z ≤ L ∧ L < s + Mt 21 z) (hso : ∀ z q : Int, f ≤ z → z ≤ q → q ≤ t → Mt 21 z ≤ Mt 21 q) (hvl : ∀ z : Int, f ≤ z → z ≤ t → VAL 3 3 1 ac (Tm Ms) (Pm Ms) (mcm 3 3 (fun i => Ms (p + 1) i) (Mt 20 x) (Mt 20 y) (Mt 20 z)) (kap (s + Mt 21 z))) : ∀ nn : Nat, (∀ (x7 : Int) (M : nM), Sf 3 ac M M → (0 ≤ t ∧ t ≤ 256) → (0 ≤ x7 ∧ x7 ≤ 257) → (MK 27 27 26 0 0 1 3 9 0 0 0 0 0 0 M) → (MI 3 3 1 ac Ms M) → (GR Mt M) → (LN 3 (fun i => Ms (p + 1) i) 1 3 9 0 0 0 0 0 0 (Mt 20 x) (Mt 20 y) M) → (FBm Mt M) → (SWD 3 3 (fun i => Ms (p + 1) i) Mt M (fun a b c => a = x ∧ b = y ∧ f ≤ c ∧ c < x7)) → (VS 3 3 1 ac Ms M) → (SL L Mt M) → (SWS 3 3 (fun i => Ms (p + 1) i) x y f x7 s Mt M) → (f ≤ x7) → (257 - x7) * 1 + 1 < (nn : Int) → nW xs (e + 2) 55 111 [some (2, 15), none, none, none, none, some (0, t), some (0, s), some (0, x7), none, none, none] [] M (nPV fun M1 => Sf 3 ac M1 M1 ∧ MK 27 27 26 0 0 1 3 9 0 0 0 0 0 0 M1 ∧ (MI 3 3 1 ac Ms M1) ∧ (GR Mt M1) ∧ (SWD 3 3 (fun i => Ms (p + 1) i) Mt M1 (fun a b c => a = x ∧ b = y ∧ f ≤ c ∧ c ≤ t)) ∧ (FBm Mt M1) ∧ (VS 3 3 1 ac Ms M1) ∧ (SL L Mt M1) ∧ (SWS 3 3 (fun i => Ms (p + 1) i) x y f (t + 1) s Mt M1))) := by
  have hd : (3 : Int) = 2 ∨ (3 : Int) = 3 := by decide
  have hac := hS.2.2.2.2
  have hI : MI 3 3 1 ac Ms M := by rw [hmt]; exact hIt
  have hm10 : M 15 10 = Mt 15 10 := by rw [hmt]
  have hpb := hp.1
  have hpc := hp.2.1
  have hVSm : VS 3 3 1 ac Ms M := by rw [hmt]; exact hVS
  intro nn
  induction nn with
  | zero => intros; omega
  | succ nn ih =>
    intro x7 M hS k5 k7 hK v0 v1 v2 v3 v4 v5 v6 v7 v8 hnn
    have hgr := v1.1
    refine n_iload c_55_111 rfl ?_
    refine n_iload c_55_113 rfl ?_
    refine n_if2_gt c_55_115 (by omega) (by omega) ?_ ?_
    · intro h1
      exact n_rV c_55_248 rfl ⟨hS, hK, by exact v0, by exact v1, by exact v4.im (fun a b c u => ⟨u.1, u.2.1, u.2.2.1, by have u4 := u.2.2.2; omega⟩), by exact v3, by exact v5, by exact v6, by exact fun z z0 z1 => v7 z z0 (by omega)⟩
    · intro h2
      refine n_iload c_55_118 rfl ?_
      refine n_aload_n c_55_120 rfl ?_
      refine n_getR c_55_121 sc_15.n rfl rfl rfl r_15_2 ?_
      refine n_iload c_55_124 rfl ?_
      refine n_ialoadV c_55_126 sc_21.n rfl rfl rfl (by omega) (v0.s (by omega) (by omega)) ?_
      intro z3 ez3 f4
      refine n_iadd c_55_127 rfl ?_
      refine n_istore (L2 := [some (2, 15), none, none, none, none, some (0, t), some (0, s), some (0, x7), some (0, (s + z3)), none, none]) c_55_128 rfl rfl ?_
      have tz : z3 = Mt 21 x7 := by rw [ez3]; exact (v6.1 x7 (by omega) (by omega)).2.1 (hLz x7 (by omega) (by omega)).1
      have tl := (hLz x7 (by omega) (by omega)).2
      have tv := hvl x7 (by omega) (by omega)
      refine n_iload c_55_130 rfl ?_
      refine n_aload_n c_55_132 rfl ?_
      refine n_getV (bi := 11) c_55_133 sc_15.n rfl rfl rfl (t_15_11 hS) ?_
      intro z5 ez5 f6
      refine n_if2_lt c_55_136 (by omega) (by omega) ?_ ?_
      · intro h7
        refine n_aload_n c_55_140 rfl ?_
        refine n_getR c_55_141 sc_15.n rfl rfl rfl r_15_6 ?_
        refine n_getR c_55_144 sc_25.n rfl rfl rfl r_25_0 ?_
        refine n_aload_n c_55_147 rfl ?_
        refine n_getR c_55_148 sc_15.n rfl rfl rfl r_15_3 ?_
        refine n_iload c_55_151 rfl ?_
        refine n_ialoadV c_55_153 sc_22.n rfl rfl rfl (by omega) (hK.r22 hS (by omega) (by omega)) ?_
        intro z8 ez8 f9
        refine n_ialoadV c_55_154 sc_26.n rfl rfl rfl (by omega) (hK.l26 (by omega) (by omega)) ?_
        intro z10 ez10 f11
        refine n_aload_n c_55_155 rfl ?_
        refine n_getR c_55_156 sc_15.n rfl rfl rfl r_15_7 ?_
        refine n_getR c_55_159 sc_27.n rfl rfl rfl r_27_0 ?_
        refine n_aload_n c_55_162 rfl ?_
        refine n_getR c_55_163 sc_15.n rfl rfl rfl r_15_4 ?_
        refine n_iload c_55_166 rfl ?_
        refine n_ialoadV c_55_168 sc_23.n rfl rfl rfl (by omega) (hK.r23 hS (by omega) (by omega)) ?_
        intro z12 ez12 f13
        refine n_ialoadV c_55_169 sc_28.n rfl rfl rfl (by omega) (hK.l28 (by omega) (by omega)) ?_
        intro z14 ez14 f15
        refine n_iadd c_55_170 rfl ?_
        refine n_aload_n c_55_171 rfl ?_
        refine n_getR c_55_172 sc_15.n rfl rfl rfl r_15_8 ?_
        refine n_getR c_55_175 sc_29.n rfl rfl rfl r_29_0 ?_
        refine n_aload_n c_55_178 rfl ?_
        refine n_getR c_55_179 sc_15.n rfl rfl rfl r_15_5 ?_
        refine n_iload c_55_182 rfl ?_
        refine n_ialoadV c_55_184 sc_24.n rfl rfl rfl (by omega) (hK.r24 hS (by omega) (by omega)) ?_
        intro z16 ez16 f17
        refine n_ialoadV c_55_185 sc_30.n rfl rfl rfl (by omega) (hK.l30 (by omega) (by omega)) ?_
        intro z18 ez18 f19
        refine n_iadd c_55_186 rfl ?_
        have cd : ((z10 + z14) + z18) = mcm 3 3 (fun i => Ms (p + 1) i) (Mt 20 x) (Mt 20 y) (Mt 20 x7) := by
          obtain ⟨-, ⟨a1, a2, a3⟩, -⟩ := v0.1 x7 (by omega) (by omega)
          rw [ez10, ez8, a1, ez14, ez12, a2, ez18, ez16, a3, v2.code (R := 3) hd (by omega) (by decide +kernel) (M 20 x7), v1.2 x7 (by omega) (by omega)]
        refine n_istore (L2 := [some (2, 15), none, none, none, none, some (0, t), some (0, s), some (0, x7), some (0, (s + z3)), some (0, ((z10 + z14) + z18)), none]) c_55_187 rfl rfl ?_
        refine n_aload_n c_55_189 rfl ?_
        refine n_getP c_55_190 ?_
        intro p20 ep20
        refine n_iload c_55_193 rfl ?_
        refine n_ialoadQ hS hK c_55_195 ep20 (by omega) ?_
        intro z21 ez21 hz21
        refine n_iconst c_55_196 ?_
        refine n_isub c_55_197 rfl ?_
        refine n_istore (L2 := [some (2, 15), none, none, none, none, some (0, t), some (0, s), some (0, x7), some (0, (s + z3)), some (0, ((z10 + z14) + z18)), some (0, (z21 - 1))]) c_55_198 rfl rfl ?_
        refine n_iload c_55_200 rfl ?_
        refine n_if0_ge c_55_202 (by omega) ?_ ?_
        · intro h22
          refine n_iload c_55_221 rfl ?_
          have pl := v0.2 ((z10 + z14) + z18) (by omega) (by rw [← ez21]; omega)
          rw [← ez21] at pl
          have hs0 : HAS M ((z10 + z14) + z18) := (v0.has (by omega)).mpr (by rw [← ez21]; omega)
          rw [cd] at hs0
          have pm : M 21 (z21 - 1) ≤ 1000000 := (v0.s (by omega) (by omega)).2
          refine n_aload_n c_55_223 rfl ?_
          refine n_getR c_55_224 sc_15.n rfl rfl rfl r_15_2 ?_
          refine n_iload c_55_227 rfl ?_
          refine n_ialoadV c_55_229 sc_21.n rfl rfl rfl (by omega) (v0.s (by omega) (by omega)) ?_
          intro z23 ez23 f24
          refine n_if2_ge c_55_230 (by omega) (by omega) ?_ ?_
          · intro h25
            refine n_iinc (L2 := [some (2, 15), none, none, none, none, some (0, t), some (0, s), some (0, (x7 + 1)), some (0, (s + z3)), some (0, ((z10 + z14) + z18)), some (0, (z21 - 1))]) c_55_242 rfl rfl rfl ?_
            refine n_goto c_55_245 ?_
            refine n_fg (le_s (le_n (le_n (le_n (le_n (le_s (le_s (le_s (le_n (le_n (le_n le_0))))))))))) ?_
            exact ih _ M hS (by omega) (by omega) hK (by exact v0) (by exact v1) (by exact v2) (by exact v3) (by exact v4.st GR.refl (Or.inr hs0)) (by exact v5) (by exact v6) (by exact v7.st (L := L) GR.refl SL.refl (Or.inr ⟨z21 - 1, by omega, by omega, by rw [pl.2.2, cd], kap_ge (by omega) pm⟩)) (by omega) (by omega)
          · intro h26
            refine n_aload_n c_55_233 rfl ?_
            refine n_getR c_55_234 sc_15.n rfl rfl rfl r_15_2 ?_
            refine n_iload c_55_237 rfl ?_
            refine n_iload c_55_239 rfl ?_
            refine n_iastoreM hS c_55_241 sc_21.n rfl (by omega) (m_21 (by omega) (by omega)) ?_
            intro M27 eM27 hS27
            have hK27 := hK.u (by unfold Kok; omega) eM27
            have g27_0 : M27 15 10 = M 15 10 := by rw [eM27]; exact nu_a (by omega)
            have g27_1 : M27 15 11 = M 15 11 := by rw [eM27]; exact nu_a (by omega)
            obtain ⟨sz1, sz2, sz3⟩ := v0.siz (by omega) hS.p9 eM27
            have kt : kap (s + Mt 21 x7) = (s + z3) := by unfold kap; rw [if_pos (by omega)]; omega
            have sz4 : SL L M M27 := SL.siz (by omega) (by omega) (by rw [← kt]; exact kap_mo (by omega)) (by omega) eM27
            have sz5 : VS 3 3 1 ac Ms M27 := v5.siz (by rw [pl.2.2, cd, ← kt]; exact tv) eM27
            have sz6 : HSs M27 (mcm 3 3 (fun i => Ms (p + 1) i) (Mt 20 x) (Mt 20 y) (Mt 20 x7)) (kap (s + Mt 21 x7)) := ⟨z21 - 1, by omega, by rw [eM27, nu_a (by omega)]; omega, by rw [eM27, nu_a (by omega), pl.2.2, cd], by rw [eM27, nu_s, kt]; exact Int.le_refl _⟩
            refine n_iinc (L2 := [some (2, 15), none, none, none, none, some (0, t), some (0, s), some (0, (x7 + 1)), some (0, (s + z3)), some (0, ((z10 + z14) + z18)), some (0, (z21 - 1))]) c_55_242 rfl rfl rfl ?_
            refine n_goto c_55_245 ?_
            refine n_fg (le_s (le_n (le_n (le_n (le_n (le_s (le_s (le_s (le_n (le_n (le_n le_0))))))))))) ?_
            exact ih _ M27 hS27 (by omega) (by omega) hK27 (by exact sz1) (by exact v1.tr sz2) (by exact v2.of sz3) (by exact v3.tr sz3.fb) (by exact v4.st sz2 (Or.inr (hs0.gr sz2))) (by exact sz5) (by exact v6.tr sz4 v1) (by exact v7.st sz2 sz4 (Or.inr sz6)) (by omega) (by omega)
        · intro h28
          refine n_aload_n c_55_205 rfl ?_
          refine n_iload c_55_206 rfl ?_
          refine n_iload c_55_208 rfl ?_
          refine n_ldc (n := 1000000) c_55_210 rfl ?_
          refine n_s2I c_55_212 rfl rfl rfl rfl (imin_3 (x := (s + z3)) (y := 1000000) hS (by omega) (by omega)) ?_
          intro z29 M30 hP31
          obtain ⟨eM, f31, f31p0⟩ := hP31
          subst eM
          have kz : z29 = kap (s + Mt 21 x7) := by have y := f31p0; unfold kap; split <;> omega
          refine n_v2V c_55_215 rfl sc_15.n rfl rfl rfl rfl (addX_1_3 (c := ((z10 + z14) + z18)) (s := z29) (Ms := Ms) hS (by omega) (by omega) hK (by exact v0) (by rw [← ez21]; omega) (by rw [cd]; exact hcl _ _ _ (by rw [← v1.2 x (by omega) (by omega)]; exact (v0.1 x (by omega) (by omega)).1) (by rw [← v1.2 y (by omega) (by omega)]; exact (v0.1 y (by omega) (by omega)).1) (by rw [← v1.2 x7 (by omega) (by omega)]; exact (v0.1 x7 (by omega) (by omega)).1))) ?_
          intro  M32 hP33
          obtain ⟨hS32, f33K, f33p0, f33p1, f33p2, f33p3, f33p4⟩ := hP33
          refine n_goto c_55_218 ?_
          refine n_iinc (L2 := [some (2, 15), none, none, none, none, some (0, t), some (0, s), some (0, (x7 + 1)), some (0, (s + z3)), some (0, ((z10 + z14) + z18)), some (0, (z21 - 1))]) c_55_242 rfl rfl rfl ?_
          refine n_goto c_55_245 ?_
          refine n_fg (le_s (le_n (le_n (le_n (le_n (le_s (le_s (le_s (le_n (le_n (le_n le_0))))))))))) ?_
          exact ih _ M32 hS32 (by omega) (by omega) f33K (by exact f33p0) (by exact v1.tr f33p1) (by exact v2.of f33p3) (by exact v3.tr f33p3.fb) (by exact v4.st f33p1 (by rw [← cd]; exact f33p2.has (by omega) f33p1)) (by exact f33p4.vs v5 (by rw [cd, kz]; exact tv)) (by exact v6.tr (f33p4.sl (by rw [kz]; exact kap_mo (by omega))) v1) (by exact v7.st (L := L) f33p1 (f33p4.sl (by rw [kz]; exact kap_mo (by omega))) (by have y := f33p4.hs (by omega); rw [cd, kz] at y; exact y)) (by omega) (by omega)
      · intro h34
        exact n_rV c_55_139 rfl ⟨hS, hK, by exact v0, by exact v1, by exact fun q => by exfalso; have y := v3.2.2; omega, by exact v3, by exact v5, by exact v6, by exact SWS.ce v7 (hCE.gr v1 v6 v3.2.2) v5 (by have y := v3.2.2; omega) (by have y3 := (hVS x7 (by omega) (by omega)).r; omega) (fun q q0 q1 => hso x7 q (by omega) q0 (by omega)) (fun q q0 q1 => (hvl q (by omega) (by omega)).clo)⟩
set_option maxHeartbeats 4000000 in
theorem sweepXT_1_3 {xs : List Int32} {e : Nat} {ac : Int} {M : nM} {p x y f t s : Int} {Ms : nM} {Mt : nM} {L : Int} (hS : Sf 3 ac M M) (hp : ActAt p) (hpl : p < 55 + 3 * ac) (hx : 0 ≤ x ∧ x ≤ 256) (hy : 0 ≤ y ∧ y ≤ 256) (hf : 0 ≤ f ∧ f ≤ 256) (ht : -1 ≤ t ∧ t ≤ 256) (hs : 1 ≤ s ∧ s ≤ 2000001) (hK : MK 27 27 26 0 0 1 3 9 0 0 0 0 0 0 M) (hmt : M = Mt) (hIt : MI 3 3 1 ac Ms Mt) (hfm : FM Ms Mt) (hxg : x < Mt 15 10) (hyg : y < Mt 15 10) (htg : t < Mt 15 10) (hcl : ∀ X Y Z : Int, Clo 3 3 1 ac (Tm Ms) X → Clo 3 3 1 ac (Tm Ms) Y → Clo 3 3 1 ac (Tm Ms) Z → Clo 3 3 1 ac (Tm Ms) (mcm 3 3 (fun i => Ms (p + 1) i) X Y Z)) (hVS : VS 3 3 1 ac Ms Mt) (hCE : CEI 3 3 1 ac Ms Mt) (hLz : ∀ z : Int, f ≤ z → z ≤ t → Mt 21 z ≤ L ∧ L < s + Mt 21 z) (hso : ∀ z q : Int, f ≤ z → z ≤ q → q ≤ t → Mt 21 z ≤ Mt 21 q) (hvl : ∀ z : Int, f ≤ z → z ≤ t → VAL 3 3 1 ac (Tm Ms) (Pm Ms) (mcm 3 3 (fun i => Ms (p + 1) i) (Mt 20 x) (Mt 20 y) (Mt 20 z)) (kap (s + Mt 21 z))) : nW xs (e + 2) 55 0 [some (2, 15), some (2, (p + 1)), some (0, x), some (0, y), some (0, f), some (0, t), some (0, s), none, none, none, none] [] M (nPV fun M1 => Sf 3 ac M1 M1 ∧ MK 27 27 26 0 0 1 3 9 0 0 0 0 0 0 M1 ∧ (MI 3 3 1 ac Ms M1) ∧ (GR Mt M1) ∧ (SWD 3 3 (fun i => Ms (p + 1) i) Mt M1 (fun a b c => a = x ∧ b = y ∧ f ≤ c ∧ c ≤ t)) ∧ (FBm Mt M1) ∧ (VS 3 3 1 ac Ms M1) ∧ (SL L Mt M1) ∧ (SWS 3 3 (fun i => Ms (p + 1) i) x y f (t + 1) s Mt M1)) := by
  have hd : (3 : Int) = 2 ∨ (3 : Int) = 3 := by decide
  have hac := hS.2.2.2.2
  have hI : MI 3 3 1 ac Ms M := by rw [hmt]; exact hIt
  have hm10 : M 15 10 = Mt 15 10 := by rw [hmt]
  have hpb := hp.1
  have hpc := hp.2.1
  have hVSm : VS 3 3 1 ac Ms M := by rw [hmt]; exact hVS
  refine n_iload c_55_0 rfl ?_
  refine n_iload c_55_2 rfl ?_
  refine n_if2_gt c_55_4 (by omega) (by omega) ?_ ?_
  · intro h1
    exact n_rV c_55_34 rfl ⟨hS, hK, by exact hI, by rw [hmt]; exact GR.refl, by exact fun q => by first | exact Or.inr (fun a b c u => by have u3 := u.2.2; omega) | exact Or.inl (by omega) | (exfalso; have y : M 15 11 = Mt 15 11 := (by rw [hmt]); omega), by rw [hmt]; exact FBm.refl, by exact hVSm, by rw [hmt]; exact SL.refl, by first | exact (fun z z0 z1 => by omega) | exact (fun z z0 z1 => Or.inl (by omega)) | (have y : M 15 11 = Mt 15 11 := (by rw [hmt]); have y2 : M 21 f = Mt 21 f := (by rw [hmt]); exact SWS.ce (n := 1) (ac := ac) (Ms := Ms) (z := f) (fun z z0 z1 => by omega) (by rw [hmt]; exact hCE) hVSm (by omega) (by have y3 := (hVS f (by omega) (by omega)).r; omega) (fun q q0 q1 => hso f q (by omega) q0 (by omega)) (fun q q0 q1 => (hvl q (by omega) (by omega)).clo))⟩
  · intro h2
    refine n_aload_n c_55_7 rfl ?_
    refine n_getV (bi := 10) c_55_8 sc_15.n rfl rfl rfl (t_15_10 hS) ?_
    intro z3 ez3 f4
    refine n_sipush c_55_11 rfl ?_
    refine n_if2_gt c_55_14 (by omega) (by omega) ?_ ?_
    · intro h5
      exact n_rV c_55_34 rfl ⟨hS, hK, by exact hI, by rw [hmt]; exact GR.refl, by exact fun q => by first | exact Or.inr (fun a b c u => by have u3 := u.2.2; omega) | exact Or.inl (by omega) | (exfalso; have y : M 15 11 = Mt 15 11 := (by rw [hmt]); omega), by rw [hmt]; exact FBm.refl, by exact hVSm, by rw [hmt]; exact SL.refl, by first | exact (fun z z0 z1 => by omega) | exact (fun z z0 z1 => Or.inl (by omega)) | (have y : M 15 11 = Mt 15 11 := (by rw [hmt]); have y2 : M 21 f = Mt 21 f := (by rw [hmt]); exact SWS.ce (n := 1) (ac := ac) (Ms := Ms) (z := f) (fun z z0 z1 => by omega) (by rw [hmt]; exact hCE) hVSm (by omega) (by have y3 := (hVS f (by omega) (by omega)).r; omega) (fun q q0 q1 => hso f q (by omega) q0 (by omega)) (fun q q0 q1 => (hvl q (by omega) (by omega)).clo))⟩
    · intro h6
      refine n_iload c_55_17 rfl ?_
      refine n_aload_n c_55_19 rfl ?_
      refine n_getR c_55_20 sc_15.n rfl rfl rfl r_15_2 ?_
      refine n_iload c_55_23 rfl ?_
      refine n_ialoadV c_55_25 sc_21.n rfl rfl rfl (by omega) (hI.s (by omega) (by omega)) ?_
      intro z7 ez7 f8
      refine n_iadd c_55_26 rfl ?_
      refine n_aload_n c_55_27 rfl ?_
      refine n_getV (bi := 11) c_55_28 sc_15.n rfl rfl rfl (t_15_11 hS) ?_
      intro z9 ez9 f10
      refine n_if2_lt c_55_31 (by omega) (by omega) ?_ ?_
      · intro h11
        refine n_aload_n c_55_35 rfl ?_
        refine n_getR c_55_36 sc_15.n rfl rfl rfl r_15_6 ?_
        refine n_aload_n c_55_39 rfl ?_
        refine n_getB c_55_40 hK.b ?_
        refine n_aload_n c_55_43 rfl ?_
        refine n_aload_n c_55_44 rfl ?_
        refine n_getR c_55_45 sc_15.n rfl rfl rfl r_15_3 ?_
        refine n_iload_n c_55_48 rfl ?_
        refine n_ialoadV c_55_49 sc_22.n rfl rfl rfl (by omega) (hK.r22 hS (by omega) (by omega)) ?_
        intro z12 ez12 f13
        refine n_aload_n c_55_50 rfl ?_
        refine n_getR c_55_51 sc_15.n rfl rfl rfl r_15_3 ?_
        refine n_iload_n c_55_54 rfl ?_
        refine n_ialoadV c_55_55 sc_22.n rfl rfl rfl (by omega) (hK.r22 hS (by omega) (by omega)) ?_
        intro z14 ez14 f15
        refine n_v4V c_55_56 rfl sc_25.n rfl rfl rfl rfl (fillMX25T_1_3 (p := p) (i := z12) (j := z14) (g := (M 15 10)) (Ms := M) hS hp hpl (by omega) (by omega) hK rfl (by rfl)) ?_
        intro  M16 hP17
        obtain ⟨hS16, f17g0, f17K, f17p0, f17p1⟩ := hP17
        have hS16c := hS16.2.2.2.1.1
        have hS16 := hS16.refl
        refine n_aload_n c_55_59 rfl ?_
        refine n_getR c_55_60 sc_15.n rfl rfl rfl r_15_7 ?_
        refine n_aload_n c_55_63 rfl ?_
        refine n_getB c_55_64 f17K.b ?_
        refine n_aload_n c_55_67 rfl ?_
        refine n_aload_n c_55_68 rfl ?_
        refine n_getR c_55_69 sc_15.n rfl rfl rfl r_15_4 ?_
        refine n_iload_n c_55_72 rfl ?_
        refine n_ialoadV c_55_73 sc_23.n rfl rfl rfl (by omega) (f17K.r23 hS16 (by omega) (by omega)) ?_
        intro z18 ez18 f19
        refine n_aload_n c_55_74 rfl ?_
        refine n_getR c_55_75 sc_15.n rfl rfl rfl r_15_4 ?_
        refine n_iload_n c_55_78 rfl ?_
        refine n_ialoadV c_55_79 sc_23.n rfl rfl rfl (by omega) (f17K.r23 hS16 (by omega) (by omega)) ?_
        intro z20 ez20 f21
        refine n_v4V c_55_80 rfl sc_27.n rfl rfl rfl rfl (fillMX27T_1_3 (p := p) (i := z18) (j := z20) (g := (M16 15 10)) (Ms := M16) hS16 hp hpl (by omega) (by omega) f17K rfl (by rfl)) ?_
        intro  M22 hP23
        obtain ⟨hS22, f23g0, f23K, f23p0, f23p1⟩ := hP23
        have hS22c := hS22.2.2.2.1.1
        have hS22 := hS22.refl
        refine n_aload_n c_55_83 rfl ?_
        refine n_getR c_55_84 sc_15.n rfl rfl rfl r_15_8 ?_
        refine n_aload_n c_55_87 rfl ?_
        refine n_getB c_55_88 f23K.b ?_
        refine n_aload_n c_55_91 rfl ?_
        refine n_aload_n c_55_92 rfl ?_
        refine n_getR c_55_93 sc_15.n rfl rfl rfl r_15_5 ?_
        refine n_iload_n c_55_96 rfl ?_
        refine n_ialoadV c_55_97 sc_24.n rfl rfl rfl (by omega) (f23K.r24 hS22 (by omega) (by omega)) ?_
        intro z24 ez24 f25
        refine n_aload_n c_55_98 rfl ?_
        refine n_getR c_55_99 sc_15.n rfl rfl rfl r_15_5 ?_
        refine n_iload_n c_55_102 rfl ?_
        refine n_ialoadV c_55_103 sc_24.n rfl rfl rfl (by omega) (f23K.r24 hS22 (by omega) (by omega)) ?_
        intro z26 ez26 f27
        refine n_v4V c_55_104 rfl sc_29.n rfl rfl rfl rfl (fillMX29T_1_3 (p := p) (i := z24) (j := z26) (g := (M22 15 10)) (Ms := M22) hS22 hp hpl (by omega) (by omega) f23K rfl (by rfl)) ?_
        intro  M28 hP29
        obtain ⟨hS28, f29g0, f29K, f29p0, f29p1⟩ := hP29
        have hS28c := hS28.2.2.2.1.1
        have hS28 := hS28.refl
        have hP := hS.p9
        have vsc : VS 3 3 1 ac Ms M28 := VS.of hVSm (by rw [f29p0 15 10 (by omega), f23p0 15 10 (by omega), f17p0 15 10 (by omega)]) (fun a i q => by rw [f29p0 a i (by omega), f23p0 a i (by omega), f17p0 a i (by omega)])
        have slc : SL L M M28 := SL.of (by rw [f29p0 15 10 (by omega), f23p0 15 10 (by omega), f17p0 15 10 (by omega)]) (fun i => by rw [f29p0 21 i (by omega), f23p0 21 i (by omega), f17p0 21 i (by omega)])
        obtain ⟨ln, hIc, grc, fbc⟩ := LN.mk (q := p + 1) (x := x) (y := y) hd hI hP (by omega) (by omega) (by omega) (by rw [hmt]; exact hfm) f17p0 f17p1 ez12 ez14 f23p0 f23p1 ez18 ez20 f29p0 f29p1 ez24 ez26
        refine n_iload c_55_107 rfl ?_
        refine n_istore (L2 := [some (2, 15), some (2, (p + 1)), some (0, x), some (0, y), some (0, f), some (0, t), some (0, s), some (0, f), none, none, none]) c_55_109 rfl rfl ?_
        refine n_fg (le_s (le_n (le_n (le_n (le_n (le_s (le_s (le_s (le_n (le_n (le_n le_0))))))))))) ?_
        exact (sweepXT_1_3_c hS hp hpl hx hy hf ht hs hK hmt hIt hfm hxg hyg htg hcl hVS hCE hLz hso hvl 528) _ M28 hS28 (by omega) (by omega) f29K (by exact hIc) (by rw [← hmt]; exact grc) (by rw [← hmt]; exact ln) (by rw [← hmt]; exact fbc) (by exact fun _ => Or.inr (fun a b c q => by have q3 := q.2.2; omega)) (by exact vsc) (by rw [← hmt]; exact slc) (by exact fun z z0 z1 => by omega) (by omega) (by omega)
      · intro h30
        exact n_rV c_55_34 rfl ⟨hS, hK, by exact hI, by rw [hmt]; exact GR.refl, by exact fun q => by first | exact Or.inr (fun a b c u => by have u3 := u.2.2; omega) | exact Or.inl (by omega) | (exfalso; have y : M 15 11 = Mt 15 11 := (by rw [hmt]); omega), by rw [hmt]; exact FBm.refl, by exact hVSm, by rw [hmt]; exact SL.refl, by first | exact (fun z z0 z1 => by omega) | exact (fun z z0 z1 => Or.inl (by omega)) | (have y : M 15 11 = Mt 15 11 := (by rw [hmt]); have y2 : M 21 f = Mt 21 f := (by rw [hmt]); exact SWS.ce (n := 1) (ac := ac) (Ms := Ms) (z := f) (fun z z0 z1 => by omega) (by rw [hmt]; exact hCE) hVSm (by omega) (by have y3 := (hVS f (by omega) (by omega)).r; omega) (fun q q0 q1 => hso f q (by omega) q0 (by omega)) (fun q q0 q1 => (hvl q (by omega) (by omega)).clo))⟩

set_option maxHeartbeats 4000000 in
theorem sweepXU_1_3_c {xs : List Int32} {e : Nat} {ac : Int} {M : nM} {p x y f t s : Int} {Ms : nM} {Mt : nM} {L : Int} (hS : Sf 3 ac M M) (hp : ActAt p) (hpl : p < 55 + 3 * ac) (hx : 0 ≤ x ∧ x ≤ 256) (hy : 0 ≤ y ∧ y ≤ 256) (hf : 0 ≤ f ∧ f ≤ 256) (ht : -1 ≤ t ∧ t ≤ 256) (hs : 1 ≤ s ∧ s ≤ 2000001) (hK : MK 27 27 26 0 0 1 3 9 0 0 0 0 0 0 M) (hmt : M = Mt) (hIt : MI 3 3 1 ac Ms Mt) (hfm : FM Ms Mt) (hxg : x < Mt 15 10) (hyg : y < Mt 15 10) (htg : t < Mt 15 10) (hcl : ∀ X Y Z : Int, Clo 3 3 1 ac (Tm Ms) X → Clo 3 3 1 ac (Tm Ms) Y → Clo 3 3 1 ac (Tm Ms) Z → Clo 3 3 1 ac (Tm Ms) (mcm 3 3 (fun i => Ms (p + 2) i) X Y Z)) (hVS : VS 3 3 1 ac Ms Mt) (hCE : CEI 3 3 1 ac Ms Mt) (hLz : ∀ z : Int, f ≤ z → z ≤ t → Mt 21 z ≤ L ∧ L < s + Mt 21 z) (hso : ∀ z q : Int, f ≤ z → z ≤ q → q ≤ t → Mt 21 z ≤ Mt 21 q) (hvl : ∀ z : Int, f ≤ z → z ≤ t → VAL 3 3 1 ac (Tm Ms) (Pm Ms) (mcm 3 3 (fun i => Ms (p + 2) i) (Mt 20 x) (Mt 20 y) (Mt 20 z)) (kap (s + Mt 21 z))) : ∀ nn : Nat, (∀ (x7 : Int) (M : nM), Sf 3 ac M M → (0 ≤ t ∧ t ≤ 256) → (0 ≤ x7 ∧ x7 ≤ 257) → (MK 27 27 26 0 0 1 3 9 0 0 0 0 0 0 M) → (MI 3 3 1 ac Ms M) → (GR Mt M) → (LN 3 (fun i => Ms (p + 2) i) 1 3 9 0 0 0 0 0 0 (Mt 20 x) (Mt 20 y) M) → (FBm Mt M) → (SWD 3 3 (fun i => Ms (p + 2) i) Mt M (fun a b c => a = x ∧ b = y ∧ f ≤ c ∧ c < x7)) → (VS 3 3 1 ac Ms M) → (SL L Mt M) → (SWS 3 3 (fun i => Ms (p + 2) i) x y f x7 s Mt M) → (f ≤ x7) → (257 - x7) * 1 + 1 < (nn : Int) → nW xs (e + 2) 55 111 [some (2, 15), none, none, none, none, some (0, t), some (0, s), some (0, x7), none, none, none] [] M (nPV fun M1 => Sf 3 ac M1 M1 ∧ MK 27 27 26 0 0 1 3 9 0 0 0 0 0 0 M1 ∧ (MI 3 3 1 ac Ms M1) ∧ (GR Mt M1) ∧ (SWD 3 3 (fun i => Ms (p + 2) i) Mt M1 (fun a b c => a = x ∧ b = y ∧ f ≤ c ∧ c ≤ t)) ∧ (FBm Mt M1) ∧ (VS 3 3 1 ac Ms M1) ∧ (SL L Mt M1) ∧ (SWS 3 3 (fun i => Ms (p + 2) i) x y f (t + 1) s Mt M1))) := by
  have hd : (3 : Int) = 2 ∨ (3 : Int) = 3 := by decide
  have hac := hS.2.2.2.2
  have hI : MI 3 3 1 ac Ms M := by rw [hmt]; exact hIt
  have hm10 : M 15 10 = Mt 15 10 := by rw [hmt]
  have hpb := hp.1
  have hpc := hp.2.1
  have hVSm : VS 3 3 1 ac Ms M := by rw [hmt]; exact hVS
  intro nn
  induction nn with
  | zero => intros; omega
  | succ nn ih =>
    intro x7 M hS k5 k7 hK v0 v1 v2 v3 v4 v5 v6 v7 v8 hnn
    have hgr := v1.1
    refine n_iload c_55_111 rfl ?_
    refine n_iload c_55_113 rfl ?_
    refine n_if2_gt c_55_115 (by omega) (by omega) ?_ ?_
    · intro h1
      exact n_rV c_55_248 rfl ⟨hS, hK, by exact v0, by exact v1, by exact v4.im (fun a b c u => ⟨u.1, u.2.1, u.2.2.1, by have u4 := u.2.2.2; omega⟩), by exact v3, by exact v5, by exact v6, by exact fun z z0 z1 => v7 z z0 (by omega)⟩
    · intro h2
      refine n_iload c_55_118 rfl ?_
      refine n_aload_n c_55_120 rfl ?_
      refine n_getR c_55_121 sc_15.n rfl rfl rfl r_15_2 ?_
      refine n_iload c_55_124 rfl ?_
      refine n_ialoadV c_55_126 sc_21.n rfl rfl rfl (by omega) (v0.s (by omega) (by omega)) ?_
      intro z3 ez3 f4
      refine n_iadd c_55_127 rfl ?_
      refine n_istore (L2 := [some (2, 15), none, none, none, none, some (0, t), some (0, s), some (0, x7), some (0, (s + z3)), none, none]) c_55_128 rfl rfl ?_
      have tz : z3 = Mt 21 x7 := by rw [ez3]; exact (v6.1 x7 (by omega) (by omega)).2.1 (hLz x7 (by omega) (by omega)).1
      have tl := (hLz x7 (by omega) (by omega)).2
      have tv := hvl x7 (by omega) (by omega)
      refine n_iload c_55_130 rfl ?_
      refine n_aload_n c_55_132 rfl ?_
      refine n_getV (bi := 11) c_55_133 sc_15.n rfl rfl rfl (t_15_11 hS) ?_
      intro z5 ez5 f6
      refine n_if2_lt c_55_136 (by omega) (by omega) ?_ ?_
      · intro h7
        refine n_aload_n c_55_140 rfl ?_
        refine n_getR c_55_141 sc_15.n rfl rfl rfl r_15_6 ?_
        refine n_getR c_55_144 sc_25.n rfl rfl rfl r_25_0 ?_
        refine n_aload_n c_55_147 rfl ?_
        refine n_getR c_55_148 sc_15.n rfl rfl rfl r_15_3 ?_
        refine n_iload c_55_151 rfl ?_
        refine n_ialoadV c_55_153 sc_22.n rfl rfl rfl (by omega) (hK.r22 hS (by omega) (by omega)) ?_
        intro z8 ez8 f9
        refine n_ialoadV c_55_154 sc_26.n rfl rfl rfl (by omega) (hK.l26 (by omega) (by omega)) ?_
        intro z10 ez10 f11
        refine n_aload_n c_55_155 rfl ?_
        refine n_getR c_55_156 sc_15.n rfl rfl rfl r_15_7 ?_
        refine n_getR c_55_159 sc_27.n rfl rfl rfl r_27_0 ?_
        refine n_aload_n c_55_162 rfl ?_
        refine n_getR c_55_163 sc_15.n rfl rfl rfl r_15_4 ?_
        refine n_iload c_55_166 rfl ?_
        refine n_ialoadV c_55_168 sc_23.n rfl rfl rfl (by omega) (hK.r23 hS (by omega) (by omega)) ?_
        intro z12 ez12 f13
        refine n_ialoadV c_55_169 sc_28.n rfl rfl rfl (by omega) (hK.l28 (by omega) (by omega)) ?_
        intro z14 ez14 f15
        refine n_iadd c_55_170 rfl ?_
        refine n_aload_n c_55_171 rfl ?_
        refine n_getR c_55_172 sc_15.n rfl rfl rfl r_15_8 ?_
        refine n_getR c_55_175 sc_29.n rfl rfl rfl r_29_0 ?_
        refine n_aload_n c_55_178 rfl ?_
        refine n_getR c_55_179 sc_15.n rfl rfl rfl r_15_5 ?_
        refine n_iload c_55_182 rfl ?_
        refine n_ialoadV c_55_184 sc_24.n rfl rfl rfl (by omega) (hK.r24 hS (by omega) (by omega)) ?_
        intro z16 ez16 f17
        refine n_ialoadV c_55_185 sc_30.n rfl rfl rfl (by omega) (hK.l30 (by omega) (by omega)) ?_
        intro z18 ez18 f19
        refine n_iadd c_55_186 rfl ?_
        have cd : ((z10 + z14) + z18) = mcm 3 3 (fun i => Ms (p + 2) i) (Mt 20 x) (Mt 20 y) (Mt 20 x7) := by
          obtain ⟨-, ⟨a1, a2, a3⟩, -⟩ := v0.1 x7 (by omega) (by omega)
          rw [ez10, ez8, a1, ez14, ez12, a2, ez18, ez16, a3, v2.code (R := 3) hd (by omega) (by decide +kernel) (M 20 x7), v1.2 x7 (by omega) (by omega)]
        refine n_istore (L2 := [some (2, 15), none, none, none, none, some (0, t), some (0, s), some (0, x7), some (0, (s + z3)), some (0, ((z10 + z14) + z18)), none]) c_55_187 rfl rfl ?_
        refine n_aload_n c_55_189 rfl ?_
        refine n_getP c_55_190 ?_
        intro p20 ep20
        refine n_iload c_55_193 rfl ?_
        refine n_ialoadQ hS hK c_55_195 ep20 (by omega) ?_
        intro z21 ez21 hz21
        refine n_iconst c_55_196 ?_
        refine n_isub c_55_197 rfl ?_
        refine n_istore (L2 := [some (2, 15), none, none, none, none, some (0, t), some (0, s), some (0, x7), some (0, (s + z3)), some (0, ((z10 + z14) + z18)), some (0, (z21 - 1))]) c_55_198 rfl rfl ?_
        refine n_iload c_55_200 rfl ?_
        refine n_if0_ge c_55_202 (by omega) ?_ ?_
        · intro h22
          refine n_iload c_55_221 rfl ?_
          have pl := v0.2 ((z10 + z14) + z18) (by omega) (by rw [← ez21]; omega)
          rw [← ez21] at pl
          have hs0 : HAS M ((z10 + z14) + z18) := (v0.has (by omega)).mpr (by rw [← ez21]; omega)
          rw [cd] at hs0
          have pm : M 21 (z21 - 1) ≤ 1000000 := (v0.s (by omega) (by omega)).2
          refine n_aload_n c_55_223 rfl ?_
          refine n_getR c_55_224 sc_15.n rfl rfl rfl r_15_2 ?_
          refine n_iload c_55_227 rfl ?_
          refine n_ialoadV c_55_229 sc_21.n rfl rfl rfl (by omega) (v0.s (by omega) (by omega)) ?_
          intro z23 ez23 f24
          refine n_if2_ge c_55_230 (by omega) (by omega) ?_ ?_
          · intro h25
            refine n_iinc (L2 := [some (2, 15), none, none, none, none, some (0, t), some (0, s), some (0, (x7 + 1)), some (0, (s + z3)), some (0, ((z10 + z14) + z18)), some (0, (z21 - 1))]) c_55_242 rfl rfl rfl ?_
            refine n_goto c_55_245 ?_
            refine n_fg (le_s (le_n (le_n (le_n (le_n (le_s (le_s (le_s (le_n (le_n (le_n le_0))))))))))) ?_
            exact ih _ M hS (by omega) (by omega) hK (by exact v0) (by exact v1) (by exact v2) (by exact v3) (by exact v4.st GR.refl (Or.inr hs0)) (by exact v5) (by exact v6) (by exact v7.st (L := L) GR.refl SL.refl (Or.inr ⟨z21 - 1, by omega, by omega, by rw [pl.2.2, cd], kap_ge (by omega) pm⟩)) (by omega) (by omega)
          · intro h26
            refine n_aload_n c_55_233 rfl ?_
            refine n_getR c_55_234 sc_15.n rfl rfl rfl r_15_2 ?_
            refine n_iload c_55_237 rfl ?_
            refine n_iload c_55_239 rfl ?_
            refine n_iastoreM hS c_55_241 sc_21.n rfl (by omega) (m_21 (by omega) (by omega)) ?_
            intro M27 eM27 hS27
            have hK27 := hK.u (by unfold Kok; omega) eM27
            have g27_0 : M27 15 10 = M 15 10 := by rw [eM27]; exact nu_a (by omega)
            have g27_1 : M27 15 11 = M 15 11 := by rw [eM27]; exact nu_a (by omega)
            obtain ⟨sz1, sz2, sz3⟩ := v0.siz (by omega) hS.p9 eM27
            have kt : kap (s + Mt 21 x7) = (s + z3) := by unfold kap; rw [if_pos (by omega)]; omega
            have sz4 : SL L M M27 := SL.siz (by omega) (by omega) (by rw [← kt]; exact kap_mo (by omega)) (by omega) eM27
            have sz5 : VS 3 3 1 ac Ms M27 := v5.siz (by rw [pl.2.2, cd, ← kt]; exact tv) eM27
            have sz6 : HSs M27 (mcm 3 3 (fun i => Ms (p + 2) i) (Mt 20 x) (Mt 20 y) (Mt 20 x7)) (kap (s + Mt 21 x7)) := ⟨z21 - 1, by omega, by rw [eM27, nu_a (by omega)]; omega, by rw [eM27, nu_a (by omega), pl.2.2, cd], by rw [eM27, nu_s, kt]; exact Int.le_refl _⟩
            refine n_iinc (L2 := [some (2, 15), none, none, none, none, some (0, t), some (0, s), some (0, (x7 + 1)), some (0, (s + z3)), some (0, ((z10 + z14) + z18)), some (0, (z21 - 1))]) c_55_242 rfl rfl rfl ?_
            refine n_goto c_55_245 ?_
            refine n_fg (le_s (le_n (le_n (le_n (le_n (le_s (le_s (le_s (le_n (le_n (le_n le_0))))))))))) ?_
            exact ih _ M27 hS27 (by omega) (by omega) hK27 (by exact sz1) (by exact v1.tr sz2) (by exact v2.of sz3) (by exact v3.tr sz3.fb) (by exact v4.st sz2 (Or.inr (hs0.gr sz2))) (by exact sz5) (by exact v6.tr sz4 v1) (by exact v7.st sz2 sz4 (Or.inr sz6)) (by omega) (by omega)
        · intro h28
          refine n_aload_n c_55_205 rfl ?_
          refine n_iload c_55_206 rfl ?_
          refine n_iload c_55_208 rfl ?_
          refine n_ldc (n := 1000000) c_55_210 rfl ?_
          refine n_s2I c_55_212 rfl rfl rfl rfl (imin_3 (x := (s + z3)) (y := 1000000) hS (by omega) (by omega)) ?_
          intro z29 M30 hP31
          obtain ⟨eM, f31, f31p0⟩ := hP31
          subst eM
          have kz : z29 = kap (s + Mt 21 x7) := by have y := f31p0; unfold kap; split <;> omega
          refine n_v2V c_55_215 rfl sc_15.n rfl rfl rfl rfl (addX_1_3 (c := ((z10 + z14) + z18)) (s := z29) (Ms := Ms) hS (by omega) (by omega) hK (by exact v0) (by rw [← ez21]; omega) (by rw [cd]; exact hcl _ _ _ (by rw [← v1.2 x (by omega) (by omega)]; exact (v0.1 x (by omega) (by omega)).1) (by rw [← v1.2 y (by omega) (by omega)]; exact (v0.1 y (by omega) (by omega)).1) (by rw [← v1.2 x7 (by omega) (by omega)]; exact (v0.1 x7 (by omega) (by omega)).1))) ?_
          intro  M32 hP33
          obtain ⟨hS32, f33K, f33p0, f33p1, f33p2, f33p3, f33p4⟩ := hP33
          refine n_goto c_55_218 ?_
          refine n_iinc (L2 := [some (2, 15), none, none, none, none, some (0, t), some (0, s), some (0, (x7 + 1)), some (0, (s + z3)), some (0, ((z10 + z14) + z18)), some (0, (z21 - 1))]) c_55_242 rfl rfl rfl ?_
          refine n_goto c_55_245 ?_
          refine n_fg (le_s (le_n (le_n (le_n (le_n (le_s (le_s (le_s (le_n (le_n (le_n le_0))))))))))) ?_
          exact ih _ M32 hS32 (by omega) (by omega) f33K (by exact f33p0) (by exact v1.tr f33p1) (by exact v2.of f33p3) (by exact v3.tr f33p3.fb) (by exact v4.st f33p1 (by rw [← cd]; exact f33p2.has (by omega) f33p1)) (by exact f33p4.vs v5 (by rw [cd, kz]; exact tv)) (by exact v6.tr (f33p4.sl (by rw [kz]; exact kap_mo (by omega))) v1) (by exact v7.st (L := L) f33p1 (f33p4.sl (by rw [kz]; exact kap_mo (by omega))) (by have y := f33p4.hs (by omega); rw [cd, kz] at y; exact y)) (by omega) (by omega)
      · intro h34
        exact n_rV c_55_139 rfl ⟨hS, hK, by exact v0, by exact v1, by exact fun q => by exfalso; have y := v3.2.2; omega, by exact v3, by exact v5, by exact v6, by exact SWS.ce v7 (hCE.gr v1 v6 v3.2.2) v5 (by have y := v3.2.2; omega) (by have y3 := (hVS x7 (by omega) (by omega)).r; omega) (fun q q0 q1 => hso x7 q (by omega) q0 (by omega)) (fun q q0 q1 => (hvl q (by omega) (by omega)).clo)⟩
set_option maxHeartbeats 4000000 in
theorem sweepXU_1_3 {xs : List Int32} {e : Nat} {ac : Int} {M : nM} {p x y f t s : Int} {Ms : nM} {Mt : nM} {L : Int} (hS : Sf 3 ac M M) (hp : ActAt p) (hpl : p < 55 + 3 * ac) (hx : 0 ≤ x ∧ x ≤ 256) (hy : 0 ≤ y ∧ y ≤ 256) (hf : 0 ≤ f ∧ f ≤ 256) (ht : -1 ≤ t ∧ t ≤ 256) (hs : 1 ≤ s ∧ s ≤ 2000001) (hK : MK 27 27 26 0 0 1 3 9 0 0 0 0 0 0 M) (hmt : M = Mt) (hIt : MI 3 3 1 ac Ms Mt) (hfm : FM Ms Mt) (hxg : x < Mt 15 10) (hyg : y < Mt 15 10) (htg : t < Mt 15 10) (hcl : ∀ X Y Z : Int, Clo 3 3 1 ac (Tm Ms) X → Clo 3 3 1 ac (Tm Ms) Y → Clo 3 3 1 ac (Tm Ms) Z → Clo 3 3 1 ac (Tm Ms) (mcm 3 3 (fun i => Ms (p + 2) i) X Y Z)) (hVS : VS 3 3 1 ac Ms Mt) (hCE : CEI 3 3 1 ac Ms Mt) (hLz : ∀ z : Int, f ≤ z → z ≤ t → Mt 21 z ≤ L ∧ L < s + Mt 21 z) (hso : ∀ z q : Int, f ≤ z → z ≤ q → q ≤ t → Mt 21 z ≤ Mt 21 q) (hvl : ∀ z : Int, f ≤ z → z ≤ t → VAL 3 3 1 ac (Tm Ms) (Pm Ms) (mcm 3 3 (fun i => Ms (p + 2) i) (Mt 20 x) (Mt 20 y) (Mt 20 z)) (kap (s + Mt 21 z))) : nW xs (e + 2) 55 0 [some (2, 15), some (2, (p + 2)), some (0, x), some (0, y), some (0, f), some (0, t), some (0, s), none, none, none, none] [] M (nPV fun M1 => Sf 3 ac M1 M1 ∧ MK 27 27 26 0 0 1 3 9 0 0 0 0 0 0 M1 ∧ (MI 3 3 1 ac Ms M1) ∧ (GR Mt M1) ∧ (SWD 3 3 (fun i => Ms (p + 2) i) Mt M1 (fun a b c => a = x ∧ b = y ∧ f ≤ c ∧ c ≤ t)) ∧ (FBm Mt M1) ∧ (VS 3 3 1 ac Ms M1) ∧ (SL L Mt M1) ∧ (SWS 3 3 (fun i => Ms (p + 2) i) x y f (t + 1) s Mt M1)) := by
  have hd : (3 : Int) = 2 ∨ (3 : Int) = 3 := by decide
  have hac := hS.2.2.2.2
  have hI : MI 3 3 1 ac Ms M := by rw [hmt]; exact hIt
  have hm10 : M 15 10 = Mt 15 10 := by rw [hmt]
  have hpb := hp.1
  have hpc := hp.2.1
  have hVSm : VS 3 3 1 ac Ms M := by rw [hmt]; exact hVS
  refine n_iload c_55_0 rfl ?_
  refine n_iload c_55_2 rfl ?_
  refine n_if2_gt c_55_4 (by omega) (by omega) ?_ ?_
  · intro h1
    exact n_rV c_55_34 rfl ⟨hS, hK, by exact hI, by rw [hmt]; exact GR.refl, by exact fun q => by first | exact Or.inr (fun a b c u => by have u3 := u.2.2; omega) | exact Or.inl (by omega) | (exfalso; have y : M 15 11 = Mt 15 11 := (by rw [hmt]); omega), by rw [hmt]; exact FBm.refl, by exact hVSm, by rw [hmt]; exact SL.refl, by first | exact (fun z z0 z1 => by omega) | exact (fun z z0 z1 => Or.inl (by omega)) | (have y : M 15 11 = Mt 15 11 := (by rw [hmt]); have y2 : M 21 f = Mt 21 f := (by rw [hmt]); exact SWS.ce (n := 1) (ac := ac) (Ms := Ms) (z := f) (fun z z0 z1 => by omega) (by rw [hmt]; exact hCE) hVSm (by omega) (by have y3 := (hVS f (by omega) (by omega)).r; omega) (fun q q0 q1 => hso f q (by omega) q0 (by omega)) (fun q q0 q1 => (hvl q (by omega) (by omega)).clo))⟩
  · intro h2
    refine n_aload_n c_55_7 rfl ?_
    refine n_getV (bi := 10) c_55_8 sc_15.n rfl rfl rfl (t_15_10 hS) ?_
    intro z3 ez3 f4
    refine n_sipush c_55_11 rfl ?_
    refine n_if2_gt c_55_14 (by omega) (by omega) ?_ ?_
    · intro h5
      exact n_rV c_55_34 rfl ⟨hS, hK, by exact hI, by rw [hmt]; exact GR.refl, by exact fun q => by first | exact Or.inr (fun a b c u => by have u3 := u.2.2; omega) | exact Or.inl (by omega) | (exfalso; have y : M 15 11 = Mt 15 11 := (by rw [hmt]); omega), by rw [hmt]; exact FBm.refl, by exact hVSm, by rw [hmt]; exact SL.refl, by first | exact (fun z z0 z1 => by omega) | exact (fun z z0 z1 => Or.inl (by omega)) | (have y : M 15 11 = Mt 15 11 := (by rw [hmt]); have y2 : M 21 f = Mt 21 f := (by rw [hmt]); exact SWS.ce (n := 1) (ac := ac) (Ms := Ms) (z := f) (fun z z0 z1 => by omega) (by rw [hmt]; exact hCE) hVSm (by omega) (by have y3 := (hVS f (by omega) (by omega)).r; omega) (fun q q0 q1 => hso f q (by omega) q0 (by omega)) (fun q q0 q1 => (hvl q (by omega) (by omega)).clo))⟩
    · intro h6
      refine n_iload c_55_17 rfl ?_
      refine n_aload_n c_55_19 rfl ?_
      refine n_getR c_55_20 sc_15.n rfl rfl rfl r_15_2 ?_
      refine n_iload c_55_23 rfl ?_
      refine n_ialoadV c_55_25 sc_21.n rfl rfl rfl (by omega) (hI.s (by omega) (by omega)) ?_
      intro z7 ez7 f8
      refine n_iadd c_55_26 rfl ?_
      refine n_aload_n c_55_27 rfl ?_
      refine n_getV (bi := 11) c_55_28 sc_15.n rfl rfl rfl (t_15_11 hS) ?_
      intro z9 ez9 f10
      refine n_if2_lt c_55_31 (by omega) (by omega) ?_ ?_
      · intro h11
        refine n_aload_n c_55_35 rfl ?_
        refine n_getR c_55_36 sc_15.n rfl rfl rfl r_15_6 ?_
        refine n_aload_n c_55_39 rfl ?_
        refine n_getB c_55_40 hK.b ?_
        refine n_aload_n c_55_43 rfl ?_
        refine n_aload_n c_55_44 rfl ?_
        refine n_getR c_55_45 sc_15.n rfl rfl rfl r_15_3 ?_
        refine n_iload_n c_55_48 rfl ?_
        refine n_ialoadV c_55_49 sc_22.n rfl rfl rfl (by omega) (hK.r22 hS (by omega) (by omega)) ?_
        intro z12 ez12 f13
        refine n_aload_n c_55_50 rfl ?_
        refine n_getR c_55_51 sc_15.n rfl rfl rfl r_15_3 ?_
        refine n_iload_n c_55_54 rfl ?_
        refine n_ialoadV c_55_55 sc_22.n rfl rfl rfl (by omega) (hK.r22 hS (by omega) (by omega)) ?_
        intro z14 ez14 f15
        refine n_v4V c_55_56 rfl sc_25.n rfl rfl rfl rfl (fillMX25U_1_3 (p := p) (i := z12) (j := z14) (g := (M 15 10)) (Ms := M) hS hp hpl (by omega) (by omega) hK rfl (by rfl)) ?_
        intro  M16 hP17
        obtain ⟨hS16, f17g0, f17K, f17p0, f17p1⟩ := hP17
        have hS16c := hS16.2.2.2.1.1
        have hS16 := hS16.refl
        refine n_aload_n c_55_59 rfl ?_
        refine n_getR c_55_60 sc_15.n rfl rfl rfl r_15_7 ?_
        refine n_aload_n c_55_63 rfl ?_
        refine n_getB c_55_64 f17K.b ?_
        refine n_aload_n c_55_67 rfl ?_
        refine n_aload_n c_55_68 rfl ?_
        refine n_getR c_55_69 sc_15.n rfl rfl rfl r_15_4 ?_
        refine n_iload_n c_55_72 rfl ?_
        refine n_ialoadV c_55_73 sc_23.n rfl rfl rfl (by omega) (f17K.r23 hS16 (by omega) (by omega)) ?_
        intro z18 ez18 f19
        refine n_aload_n c_55_74 rfl ?_
        refine n_getR c_55_75 sc_15.n rfl rfl rfl r_15_4 ?_
        refine n_iload_n c_55_78 rfl ?_
        refine n_ialoadV c_55_79 sc_23.n rfl rfl rfl (by omega) (f17K.r23 hS16 (by omega) (by omega)) ?_
        intro z20 ez20 f21
        refine n_v4V c_55_80 rfl sc_27.n rfl rfl rfl rfl (fillMX27U_1_3 (p := p) (i := z18) (j := z20) (g := (M16 15 10)) (Ms := M16) hS16 hp hpl (by omega) (by omega) f17K rfl (by rfl)) ?_
        intro  M22 hP23
        obtain ⟨hS22, f23g0, f23K, f23p0, f23p1⟩ := hP23
        have hS22c := hS22.2.2.2.1.1
        have hS22 := hS22.refl
        refine n_aload_n c_55_83 rfl ?_
        refine n_getR c_55_84 sc_15.n rfl rfl rfl r_15_8 ?_
        refine n_aload_n c_55_87 rfl ?_
        refine n_getB c_55_88 f23K.b ?_
        refine n_aload_n c_55_91 rfl ?_
        refine n_aload_n c_55_92 rfl ?_
        refine n_getR c_55_93 sc_15.n rfl rfl rfl r_15_5 ?_
        refine n_iload_n c_55_96 rfl ?_
        refine n_ialoadV c_55_97 sc_24.n rfl rfl rfl (by omega) (f23K.r24 hS22 (by omega) (by omega)) ?_
        intro z24 ez24 f25
        refine n_aload_n c_55_98 rfl ?_
        refine n_getR c_55_99 sc_15.n rfl rfl rfl r_15_5 ?_
        refine n_iload_n c_55_102 rfl ?_
        refine n_ialoadV c_55_103 sc_24.n rfl rfl rfl (by omega) (f23K.r24 hS22 (by omega) (by omega)) ?_
        intro z26 ez26 f27
        refine n_v4V c_55_104 rfl sc_29.n rfl rfl rfl rfl (fillMX29U_1_3 (p := p) (i := z24) (j := z26) (g := (M22 15 10)) (Ms := M22) hS22 hp hpl (by omega) (by omega) f23K rfl (by rfl)) ?_
        intro  M28 hP29
        obtain ⟨hS28, f29g0, f29K, f29p0, f29p1⟩ := hP29
        have hS28c := hS28.2.2.2.1.1
        have hS28 := hS28.refl
        have hP := hS.p9
        have vsc : VS 3 3 1 ac Ms M28 := VS.of hVSm (by rw [f29p0 15 10 (by omega), f23p0 15 10 (by omega), f17p0 15 10 (by omega)]) (fun a i q => by rw [f29p0 a i (by omega), f23p0 a i (by omega), f17p0 a i (by omega)])
        have slc : SL L M M28 := SL.of (by rw [f29p0 15 10 (by omega), f23p0 15 10 (by omega), f17p0 15 10 (by omega)]) (fun i => by rw [f29p0 21 i (by omega), f23p0 21 i (by omega), f17p0 21 i (by omega)])
        obtain ⟨ln, hIc, grc, fbc⟩ := LN.mk (q := p + 2) (x := x) (y := y) hd hI hP (by omega) (by omega) (by omega) (by rw [hmt]; exact hfm) f17p0 f17p1 ez12 ez14 f23p0 f23p1 ez18 ez20 f29p0 f29p1 ez24 ez26
        refine n_iload c_55_107 rfl ?_
        refine n_istore (L2 := [some (2, 15), some (2, (p + 2)), some (0, x), some (0, y), some (0, f), some (0, t), some (0, s), some (0, f), none, none, none]) c_55_109 rfl rfl ?_
        refine n_fg (le_s (le_n (le_n (le_n (le_n (le_s (le_s (le_s (le_n (le_n (le_n le_0))))))))))) ?_
        exact (sweepXU_1_3_c hS hp hpl hx hy hf ht hs hK hmt hIt hfm hxg hyg htg hcl hVS hCE hLz hso hvl 528) _ M28 hS28 (by omega) (by omega) f29K (by exact hIc) (by rw [← hmt]; exact grc) (by rw [← hmt]; exact ln) (by rw [← hmt]; exact fbc) (by exact fun _ => Or.inr (fun a b c q => by have q3 := q.2.2; omega)) (by exact vsc) (by rw [← hmt]; exact slc) (by exact fun z z0 z1 => by omega) (by omega) (by omega)
      · intro h30
        exact n_rV c_55_34 rfl ⟨hS, hK, by exact hI, by rw [hmt]; exact GR.refl, by exact fun q => by first | exact Or.inr (fun a b c u => by have u3 := u.2.2; omega) | exact Or.inl (by omega) | (exfalso; have y : M 15 11 = Mt 15 11 := (by rw [hmt]); omega), by rw [hmt]; exact FBm.refl, by exact hVSm, by rw [hmt]; exact SL.refl, by first | exact (fun z z0 z1 => by omega) | exact (fun z z0 z1 => Or.inl (by omega)) | (have y : M 15 11 = Mt 15 11 := (by rw [hmt]); have y2 : M 21 f = Mt 21 f := (by rw [hmt]); exact SWS.ce (n := 1) (ac := ac) (Ms := Ms) (z := f) (fun z z0 z1 => by omega) (by rw [hmt]; exact hCE) hVSm (by omega) (by have y3 := (hVS f (by omega) (by omega)).r; omega) (fun q q0 q1 => hso f q (by omega) q0 (by omega)) (fun q q0 q1 => (hvl q (by omega) (by omega)).clo))⟩

set_option maxHeartbeats 4000000 in
theorem putOnX_1_3_c {xs : List Int32} {e : Nat} {ac : Int} {M : nM} {p e0 : Int} {Ms : nM} {Mt : nM} (hS : Sf 3 ac M M) (hp : ActAt p) (hpl : p < 55 + 3 * ac) (he0 : 0 ≤ e0 ∧ e0 ≤ 256) (hK : MK 27 27 26 0 0 1 3 9 0 0 0 0 0 0 M) (hmt : M = Mt) (hIt : MI 3 3 1 ac Ms Mt) (hfm : FM Ms Mt) (heg : e0 < Mt 15 10) (hwa : WAct 3 p Ms) (hcl : ∀ X Y Z : Int, Clo 3 3 1 ac (Tm Ms) X → Clo 3 3 1 ac (Tm Ms) Y → Clo 3 3 1 ac (Tm Ms) Z → Clo 3 3 1 ac (Tm Ms) (mcm 3 3 (fun i => Ms (p + 1) i) X Y Z)) (hVS : VS 3 3 1 ac Ms Mt) (hCE : CEI 3 3 1 ac Ms Mt) (hI2 : ∀ i j : Int, 0 ≤ i → i ≤ j → j ≤ e0 → Mt 21 i ≤ Mt 21 j) (hva : ∀ x y z sx sy sz : Int, VAL 3 3 1 ac (Tm Ms) (Pm Ms) x sx → VAL 3 3 1 ac (Tm Ms) (Pm Ms) y sy → VAL 3 3 1 ac (Tm Ms) (Pm Ms) z sz → VAL 3 3 1 ac (Tm Ms) (Pm Ms) (mcm 3 3 (fun i => Ms (p + 1) i) x y z) (cst (Ms p 0) sx sy sz)) : ∀ nn : Nat, (∀ (x3 x4 : Int) (M : nM), Sf 3 ac M M → (1 ≤ x3 ∧ x3 ≤ 1000001) → (0 ≤ x4 ∧ x4 ≤ 257) → (MK 27 27 26 0 0 1 3 9 0 0 0 0 0 0 M) → (MI 3 3 1 ac Ms M) → (GR Mt M) → (FBm Mt M) → (SWD 3 3 (fun i => Ms (p + 1) i) Mt M (fun a b c => a = e0 ∧ 0 ≤ b ∧ b < x4 ∧ 0 ≤ c ∧ c ≤ e0)) → (VS 3 3 1 ac Ms M) → (SL (Mt 21 e0) Mt M) → (x3 = 1 + Mt 21 e0) → (PSD 3 3 (fun i => Ms (p + 1) i) 3 Mt M (fun a b c => a = e0 ∧ 0 ≤ b ∧ b < x4 ∧ 0 ≤ c ∧ c < e0 + 1)) → (Ms p 0 = 3) → (257 - x4) * 1 + 259 < (nn : Int) → nW xs (e + 3) 54 75 [some (2, 15), some (2, p), some (0, e0), some (0, x3), some (0, x4)] [] M (nPV fun M1 => Sf 3 ac M1 M1 ∧ MK 27 27 26 0 0 1 3 9 0 0 0 0 0 0 M1 ∧ (MI 3 3 1 ac Ms M1) ∧ (GR Mt M1) ∧ (POS 3 3 (fun i => Ms (p + 1) i) e0 Mt M1) ∧ (FBm Mt M1) ∧ (VS 3 3 1 ac Ms M1) ∧ (SL (Mt 21 e0) Mt M1) ∧ (POz 3 3 (fun i => Ms (p + 1) i) (Ms p 0) e0 Mt M1))) ∧ (∀ (x3 x4 : Int) (M : nM), Sf 3 ac M M → (1 ≤ x3 ∧ x3 ≤ 1000001) → (0 ≤ x4 ∧ x4 ≤ 256) → (MK 27 27 26 0 0 1 3 9 0 0 0 0 0 0 M) → (MI 3 3 1 ac Ms M) → (GR Mt M) → (FBm Mt M) → (SWD 3 3 (fun i => Ms (p + 1) i) Mt M (fun a b c => a = e0 ∧ 0 ≤ b ∧ b < (e0 + 1) ∧ 0 ≤ c ∧ c ≤ e0)) → (SWD 3 3 (fun i => Ms (p + 1) i) Mt M (fun a b c => 0 ≤ a ∧ a < x4 ∧ b = e0 ∧ 0 ≤ c ∧ c ≤ e0)) → (SWD 3 3 (fun i => Ms (p + 1) i) Mt M (fun a b c => 0 ≤ a ∧ a < x4 ∧ 0 ≤ b ∧ b ≤ e0 - 1 ∧ c = e0)) → (VS 3 3 1 ac Ms M) → (SL (Mt 21 e0) Mt M) → (x3 = 1 + Mt 21 e0) → (PSD 3 3 (fun i => Ms (p + 1) i) 3 Mt M (fun a b c => a = e0 ∧ 0 ≤ b ∧ b < (e0 + 1) ∧ 0 ≤ c ∧ c < e0 + 1)) → (PSD 3 3 (fun i => Ms (p + 1) i) 3 Mt M (fun a b c => 0 ≤ a ∧ a < x4 ∧ b = e0 ∧ 0 ≤ c ∧ c < e0 + 1)) → (PSD 3 3 (fun i => Ms (p + 1) i) 3 Mt M (fun a b c => 0 ≤ a ∧ a < x4 ∧ c = e0 ∧ 0 ≤ b ∧ b < e0 - 1 + 1)) → (Ms p 0 = 3) → (256 - x4) * 1 + 1 < (nn : Int) → nW xs (e + 3) 54 112 [some (2, 15), some (2, p), some (0, e0), some (0, x3), some (0, x4)] [] M (nPV fun M1 => Sf 3 ac M1 M1 ∧ MK 27 27 26 0 0 1 3 9 0 0 0 0 0 0 M1 ∧ (MI 3 3 1 ac Ms M1) ∧ (GR Mt M1) ∧ (POS 3 3 (fun i => Ms (p + 1) i) e0 Mt M1) ∧ (FBm Mt M1) ∧ (VS 3 3 1 ac Ms M1) ∧ (SL (Mt 21 e0) Mt M1) ∧ (POz 3 3 (fun i => Ms (p + 1) i) (Ms p 0) e0 Mt M1))) := by
  have hd : (3 : Int) = 2 ∨ (3 : Int) = 3 := by decide
  have hac := hS.2.2.2.2
  have hI : MI 3 3 1 ac Ms M := by rw [hmt]; exact hIt
  have hm10 : M 15 10 = Mt 15 10 := by rw [hmt]
  have hpb := hp.1
  have hpc := hp.2.1
  have hVSm : VS 3 3 1 ac Ms M := by rw [hmt]; exact hVS
  intro nn
  induction nn with
  | zero => refine ⟨?_, ?_⟩ <;> (intros; omega)
  | succ nn ih =>
    refine ⟨?_, ?_⟩
    · intro x3 x4 M hS k3 k4 hK v0 v1 v2 v3 v4 v5 v6 v7 v8 hnn
      have hgr := v1.1
      refine n_iload c_54_75 rfl ?_
      refine n_iload_n c_54_77 rfl ?_
      refine n_if2_gt c_54_78 (by omega) (by omega) ?_ ?_
      · intro h1
        refine n_iconst c_54_109 ?_
        refine n_istore (L2 := [some (2, 15), some (2, p), some (0, e0), some (0, x3), some (0, 0)]) c_54_110 rfl rfl ?_
        refine n_fg (le_s (le_s (le_s (le_s (le_s le_0))))) ?_
        exact ih.2 _ _ M hS (by omega) (by omega) hK (by exact v0) (by exact v1) (by exact v2) (by exact v3.im (fun a b c (u : a = e0 ∧ 0 ≤ b ∧ b < (e0 + 1) ∧ 0 ≤ c ∧ c ≤ e0) => ⟨u.1, u.2.1, by have y := u.2.2.1; omega, u.2.2.2⟩)) (by exact fun _ => Or.inr (fun a b c (u : 0 ≤ a ∧ a < 0 ∧ b = e0 ∧ 0 ≤ c ∧ c ≤ e0) => by have y := u.1; have y2 := u.2.1; omega)) (by exact fun _ => Or.inr (fun a b c (u : 0 ≤ a ∧ a < 0 ∧ 0 ≤ b ∧ b ≤ e0 - 1 ∧ c = e0) => by have y := u.1; have y2 := u.2.1; omega)) (by exact v4) (by exact v5) (by exact v6) (by exact v7.im (fun a b c (u : a = e0 ∧ 0 ≤ b ∧ b < (e0 + 1) ∧ 0 ≤ c ∧ c < e0 + 1) => ⟨u.1, u.2.1, by have y := u.2.2.1; omega, u.2.2.2⟩)) (by exact fun a b c (u : 0 ≤ a ∧ a < 0 ∧ b = e0 ∧ 0 ≤ c ∧ c < e0 + 1) => by have y := u.1; have y2 := u.2.1; omega) (by exact fun a b c (u : 0 ≤ a ∧ a < 0 ∧ c = e0 ∧ 0 ≤ b ∧ b < e0 - 1 + 1) => by have y := u.1; have y2 := u.2.1; omega) (by exact v8) (by omega)
      · intro h2
        refine n_aload_n c_54_81 rfl ?_
        refine n_aload_n c_54_82 rfl ?_
        refine n_getR c_54_83 hp.c0.1.n rfl rfl rfl hp.r.1 ?_
        refine n_iload_n c_54_86 rfl ?_
        refine n_iload c_54_87 rfl ?_
        refine n_iconst c_54_89 ?_
        refine n_iload_n c_54_90 rfl ?_
        refine n_iload_n c_54_91 rfl ?_
        refine n_aload_n c_54_92 rfl ?_
        refine n_getR c_54_93 sc_15.n rfl rfl rfl r_15_2 ?_
        refine n_iload c_54_96 rfl ?_
        refine n_ialoadV c_54_98 sc_21.n rfl rfl rfl (by omega) (v0.s (by omega) (by omega)) ?_
        intro z3 ez3 f4
        refine n_iadd c_54_99 rfl ?_
        have hz0 : ∀ z : Int, 0 ≤ z → z ≤ e0 → M 21 z = Mt 21 z := fun z z0 z1 => (v5.1 z z0 (by omega)).2.1 (hI2 z e0 z0 z1 (by omega))
        have hze0 := hz0 e0 (by omega) (by omega)
        have hzy0 := hz0 x4 (by omega) (by omega)
        have hzr0 := (hVS x4 (by omega) (by omega)).r
        have hzs0 := (hVS e0 (by omega) (by omega)).r
        refine n_v6V c_54_100 rfl sc_15.n rfl rfl rfl rfl (sweepXT_1_3 (p := p) (x := e0) (y := x4) (f := 0) (t := e0) (s := (x3 + z3)) (Ms := Ms) (Mt := M) (L := (Mt 21 e0)) hS hp hpl (by omega) (by omega) (by omega) (by omega) (by omega) hK (by rfl) (by exact v0) (by exact hfm.tr (v2).1) (by omega) (by omega) (by omega) (by exact hcl) (by exact v4) (by exact hCE.gr v1 v5 (v2).2.2) (by exact fun z z0 z1 => by have y := hz0 z (by omega) (by omega); have y2 := hI2 z e0 (by omega) (by omega) (by omega); have y3 := (hVS z (by omega) (by omega)).r; omega) (by exact fun z q z0 z1 z2 => by rw [hz0 z (by omega) (by omega), hz0 q (by omega) (by omega)]; exact hI2 z q (by omega) z1 (by omega)) (by exact fun z z0 z1 => by have y := hva _ _ _ _ _ _ (v4 e0 (by omega) (by omega)) (v4 x4 (by omega) (by omega)) (v4 z (by omega) (by omega)); rw [show Ms p 0 = 3 by omega, cst3] at y; have y2 := hz0 z (by omega) (by omega); exact VAL.cg y (by omega))) ?_
        intro  M5 hP6
        obtain ⟨hS5, f6K, f6p0, f6p1, f6p2, f6p3, f6p4, f6p5, f6p6⟩ := hP6
        have ps0 := PSD.of (k := 3) (Mt := Mt) f6p6 ((v1).2 e0 (by omega) (by omega)) ((v1).2 x4 (by omega) (by omega)) (fun z z0 z1 => ⟨(v1).2 z (by omega) (by omega), by rw [cst3]; have y2 := hz0 z (by omega) (by omega); exact congrArg kap (by omega)⟩)
        have sl0 := (v5).tr f6p5 v1
        have gn0 := (v1).tr f6p1
        have fn0 := (v2).tr f6p3
        have sn0 := f6p2.bs v1 v2 (fun a b c u => ⟨by have u1 := u.1; omega, by have u2 := u.2.1; omega, by have u3 := u.2.2; omega⟩)
        have hq0 := gn0.1
        refine n_iinc (L2 := [some (2, 15), some (2, p), some (0, e0), some (0, x3), some (0, (x4 + 1))]) c_54_103 rfl rfl rfl ?_
        refine n_goto c_54_106 ?_
        refine n_fg (le_s (le_s (le_s (le_s (le_s le_0))))) ?_
        exact ih.1 _ _ M5 hS5 (by omega) (by omega) f6K (by exact f6p0) (by exact gn0) (by exact fn0) (by exact ((v3.gr f6p1).or sn0).im (fun a b c (u : a = e0 ∧ 0 ≤ b ∧ b < (x4 + 1) ∧ 0 ≤ c ∧ c ≤ e0) => (by by_cases q : b = x4; (exact Or.inr ⟨u.1, q, u.2.2.2⟩); (exact Or.inl ⟨u.1, u.2.1, by omega, u.2.2.2⟩)))) (by exact f6p4) (by exact sl0) (by exact v6) (by exact ((v7.gr f6p1 f6p5).or ps0).im (fun a b c (u : a = e0 ∧ 0 ≤ b ∧ b < (x4 + 1) ∧ 0 ≤ c ∧ c < e0 + 1) => (by by_cases q : b = x4; (exact Or.inr ⟨u.1, q, u.2.2.2⟩); (exact Or.inl ⟨u.1, u.2.1, by have y := u.2.2.1; omega, u.2.2.2⟩)))) (by exact v8) (by omega)
    · intro x3 x4 M hS k3 k4 hK v0 v1 v2 v3 v4 v5 v6 v7 v8 v9 v10 v11 v12 hnn
      have hgr := v1.1
      refine n_iload c_54_112 rfl ?_
      refine n_iload_n c_54_114 rfl ?_
      refine n_if2_ge c_54_115 (by omega) (by omega) ?_ ?_
      · intro h1
        exact n_rV c_54_170 rfl ⟨hS, hK, by exact v0, by exact v1, by exact POS.thr v1 v3 (v4.im (fun a b c (u : 0 ≤ a ∧ a < e0 ∧ b = e0 ∧ 0 ≤ c ∧ c ≤ e0) => ⟨u.1, by have y := u.2.1; omega, u.2.2⟩)) (v5.im (fun a b c (u : 0 ≤ a ∧ a < e0 ∧ 0 ≤ b ∧ b ≤ e0 - 1 ∧ c = e0) => ⟨u.1, by have y := u.2.1; omega, u.2.2⟩)), by exact v2, by exact v6, by exact v7, by rw [show Ms p 0 = 3 by omega]; exact POz.thr v1 v7 v9 (v10.im (fun a b c (u : 0 ≤ a ∧ a < e0 ∧ b = e0 ∧ 0 ≤ c ∧ c < e0 + 1) => ⟨u.1, by have y := u.2.1; omega, u.2.2⟩)) (v11.im (fun a b c (u : 0 ≤ a ∧ a < e0 ∧ c = e0 ∧ 0 ≤ b ∧ b < e0 - 1 + 1) => ⟨u.1, by have y := u.2.1; omega, u.2.2⟩))⟩
      · intro h2
        refine n_aload_n c_54_118 rfl ?_
        refine n_aload_n c_54_119 rfl ?_
        refine n_getR c_54_120 hp.c0.1.n rfl rfl rfl hp.r.1 ?_
        refine n_iload c_54_123 rfl ?_
        refine n_iload_n c_54_125 rfl ?_
        refine n_iconst c_54_126 ?_
        refine n_iload_n c_54_127 rfl ?_
        refine n_iload_n c_54_128 rfl ?_
        refine n_aload_n c_54_129 rfl ?_
        refine n_getR c_54_130 sc_15.n rfl rfl rfl r_15_2 ?_
        refine n_iload c_54_133 rfl ?_
        refine n_ialoadV c_54_135 sc_21.n rfl rfl rfl (by omega) (v0.s (by omega) (by omega)) ?_
        intro z3 ez3 f4
        refine n_iadd c_54_136 rfl ?_
        have hz0 : ∀ z : Int, 0 ≤ z → z ≤ e0 → M 21 z = Mt 21 z := fun z z0 z1 => (v7.1 z z0 (by omega)).2.1 (hI2 z e0 z0 z1 (by omega))
        have hze0 := hz0 e0 (by omega) (by omega)
        have hzy0 := hz0 x4 (by omega) (by omega)
        have hzr0 := (hVS x4 (by omega) (by omega)).r
        have hzs0 := (hVS e0 (by omega) (by omega)).r
        refine n_v6V c_54_137 rfl sc_15.n rfl rfl rfl rfl (sweepXT_1_3 (p := p) (x := x4) (y := e0) (f := 0) (t := e0) (s := (x3 + z3)) (Ms := Ms) (Mt := M) (L := (Mt 21 e0)) hS hp hpl (by omega) (by omega) (by omega) (by omega) (by omega) hK (by rfl) (by exact v0) (by exact hfm.tr (v2).1) (by omega) (by omega) (by omega) (by exact hcl) (by exact v6) (by exact hCE.gr v1 v7 (v2).2.2) (by exact fun z z0 z1 => by have y := hz0 z (by omega) (by omega); have y2 := hI2 z e0 (by omega) (by omega) (by omega); have y3 := (hVS z (by omega) (by omega)).r; omega) (by exact fun z q z0 z1 z2 => by rw [hz0 z (by omega) (by omega), hz0 q (by omega) (by omega)]; exact hI2 z q (by omega) z1 (by omega)) (by exact fun z z0 z1 => by have y := hva _ _ _ _ _ _ (v6 x4 (by omega) (by omega)) (v6 e0 (by omega) (by omega)) (v6 z (by omega) (by omega)); rw [show Ms p 0 = 3 by omega, cst3] at y; have y2 := hz0 z (by omega) (by omega); exact VAL.cg y (by omega))) ?_
        intro  M5 hP6
        obtain ⟨hS5, f6K, f6p0, f6p1, f6p2, f6p3, f6p4, f6p5, f6p6⟩ := hP6
        have ps0 := PSD.of (k := 3) (Mt := Mt) f6p6 ((v1).2 x4 (by omega) (by omega)) ((v1).2 e0 (by omega) (by omega)) (fun z z0 z1 => ⟨(v1).2 z (by omega) (by omega), by rw [cst3]; have y2 := hz0 z (by omega) (by omega); exact congrArg kap (by omega)⟩)
        have sl0 := (v7).tr f6p5 v1
        have gn0 := (v1).tr f6p1
        have fn0 := (v2).tr f6p3
        have sn0 := f6p2.bs v1 v2 (fun a b c u => ⟨by have u1 := u.1; omega, by have u2 := u.2.1; omega, by have u3 := u.2.2; omega⟩)
        have hq0 := gn0.1
        refine n_aload_n c_54_140 rfl ?_
        refine n_aload_n c_54_141 rfl ?_
        refine n_getR c_54_142 hp.c0.1.n rfl rfl rfl hp.r.2 ?_
        refine n_iload c_54_145 rfl ?_
        refine n_iload_n c_54_147 rfl ?_
        refine n_iconst c_54_148 ?_
        refine n_iload_n c_54_149 rfl ?_
        refine n_iconst c_54_150 ?_
        refine n_isub c_54_151 rfl ?_
        refine n_iload_n c_54_152 rfl ?_
        refine n_aload_n c_54_153 rfl ?_
        refine n_getR c_54_154 sc_15.n rfl rfl rfl r_15_2 ?_
        refine n_iload c_54_157 rfl ?_
        refine n_ialoadV c_54_159 sc_21.n rfl rfl rfl (by omega) (f6p0.s (by omega) (by omega)) ?_
        intro z7 ez7 f8
        refine n_iadd c_54_160 rfl ?_
        have hz1 : ∀ z : Int, 0 ≤ z → z ≤ e0 → M5 21 z = Mt 21 z := fun z z0 z1 => (sl0.1 z z0 (by omega)).2.1 (hI2 z e0 z0 z1 (by omega))
        have hze1 := hz1 e0 (by omega) (by omega)
        have hzy1 := hz1 x4 (by omega) (by omega)
        have hzr1 := (hVS x4 (by omega) (by omega)).r
        have hzs1 := (hVS e0 (by omega) (by omega)).r
        refine n_v6V c_54_161 rfl sc_15.n rfl rfl rfl rfl (sweepXU_1_3 (p := p) (x := x4) (y := e0) (f := 0) (t := (e0 - 1)) (s := (x3 + z7)) (Ms := Ms) (Mt := M5) (L := (Mt 21 e0)) hS5 hp hpl (by omega) (by omega) (by omega) (by omega) (by omega) f6K (by rfl) (by exact f6p0) (by exact hfm.tr (fn0).1) (by omega) (by omega) (by omega) (by exact fun X Y Z hX hY hZ => by rw [mcm_tr hd hwa.2.2]; exact hcl X Z Y hX hZ hY) (by exact f6p4) (by exact hCE.gr gn0 sl0 (fn0).2.2) (by exact fun z z0 z1 => by have y := hz1 z (by omega) (by omega); have y2 := hI2 z e0 (by omega) (by omega) (by omega); have y3 := (hVS z (by omega) (by omega)).r; omega) (by exact fun z q z0 z1 z2 => by rw [hz1 z (by omega) (by omega), hz1 q (by omega) (by omega)]; exact hI2 z q (by omega) z1 (by omega)) (by exact fun z z0 z1 => by have y := hva _ _ _ _ _ _ (f6p4 x4 (by omega) (by omega)) (f6p4 z (by omega) (by omega)) (f6p4 e0 (by omega) (by omega)); rw [show Ms p 0 = 3 by omega, cst3] at y; rw [mcm_tr hd hwa.2.2]; have y2 := hz1 z (by omega) (by omega); exact VAL.cg y (by omega))) ?_
        intro  M9 hP10
        obtain ⟨hS9, f10K, f10p0, f10p1, f10p2, f10p3, f10p4, f10p5, f10p6⟩ := hP10
        have ps1 := PSD.ou hd hwa.2.2 (k := 3) (Mt := Mt) f10p6 ((gn0).2 x4 (by omega) (by omega)) ((gn0).2 e0 (by omega) (by omega)) (fun z z0 z1 => ⟨(gn0).2 z (by omega) (by omega), by rw [cst3]; have y2 := hz1 z (by omega) (by omega); exact congrArg kap (by omega)⟩)
        have sl1 := (sl0).tr f10p5 gn0
        have gn1 := (gn0).tr f10p1
        have fn1 := (fn0).tr f10p3
        have sn1 := f10p2.bs gn0 fn0 (fun a b c u => ⟨by have u1 := u.1; omega, by have u2 := u.2.1; omega, by have u3 := u.2.2; omega⟩)
        have sn1 := sn1.tn hd hwa.2.2
        have hq1 := gn1.1
        refine n_iinc (L2 := [some (2, 15), some (2, p), some (0, e0), some (0, x3), some (0, (x4 + 1))]) c_54_164 rfl rfl rfl ?_
        refine n_goto c_54_167 ?_
        refine n_fg (le_s (le_s (le_s (le_s (le_s le_0))))) ?_
        exact ih.2 _ _ M9 hS9 (by omega) (by omega) f10K (by exact f10p0) (by exact gn1) (by exact fn1) (by exact (v3.gr f6p1).gr f10p1) (by exact (((v4.gr f6p1).gr f10p1).or ((sn0).gr f10p1)).im (fun a b c (u : 0 ≤ a ∧ a < (x4 + 1) ∧ b = e0 ∧ 0 ≤ c ∧ c ≤ e0) => (by by_cases q : a = x4; (exact Or.inr ⟨q, u.2.2.1, u.2.2.2⟩); (exact Or.inl ⟨u.1, by have y := u.2.1; omega, u.2.2⟩)))) (by exact (((v5.gr f6p1).gr f10p1).or (sn1)).im (fun a b c (u : 0 ≤ a ∧ a < (x4 + 1) ∧ 0 ≤ b ∧ b ≤ e0 - 1 ∧ c = e0) => (by by_cases q : a = x4; (exact Or.inr ⟨q, u.2.2.2.2, u.2.2.1, u.2.2.2.1⟩); (exact Or.inl ⟨u.1, by have y := u.2.1; omega, u.2.2⟩)))) (by exact f10p4) (by exact sl1) (by exact v8) (by exact (v9.gr f6p1 f6p5).gr f10p1 f10p5) (by exact (((v10.gr f6p1 f6p5).gr f10p1 f10p5).or ((ps0).gr f10p1 f10p5)).im (fun a b c (u : 0 ≤ a ∧ a < (x4 + 1) ∧ b = e0 ∧ 0 ≤ c ∧ c < e0 + 1) => (by by_cases q : a = x4; (exact Or.inr ⟨q, u.2.2⟩); (exact Or.inl ⟨u.1, by have y := u.2.1; omega, u.2.2⟩)))) (by exact (((v11.gr f6p1 f6p5).gr f10p1 f10p5).or (ps1)).im (fun a b c (u : 0 ≤ a ∧ a < (x4 + 1) ∧ c = e0 ∧ 0 ≤ b ∧ b < e0 - 1 + 1) => (by by_cases q : a = x4; (exact Or.inr ⟨q, u.2.2⟩); (exact Or.inl ⟨u.1, by have y := u.2.1; omega, u.2.2⟩)))) (by exact v12) (by omega)
set_option maxHeartbeats 4000000 in
theorem putOnX_1_3 {xs : List Int32} {e : Nat} {ac : Int} {M : nM} {p e0 : Int} {Ms : nM} {Mt : nM} (hS : Sf 3 ac M M) (hp : ActAt p) (hpl : p < 55 + 3 * ac) (he0 : 0 ≤ e0 ∧ e0 ≤ 256) (hK : MK 27 27 26 0 0 1 3 9 0 0 0 0 0 0 M) (hmt : M = Mt) (hIt : MI 3 3 1 ac Ms Mt) (hfm : FM Ms Mt) (heg : e0 < Mt 15 10) (hwa : WAct 3 p Ms) (hcl : ∀ X Y Z : Int, Clo 3 3 1 ac (Tm Ms) X → Clo 3 3 1 ac (Tm Ms) Y → Clo 3 3 1 ac (Tm Ms) Z → Clo 3 3 1 ac (Tm Ms) (mcm 3 3 (fun i => Ms (p + 1) i) X Y Z)) (hVS : VS 3 3 1 ac Ms Mt) (hCE : CEI 3 3 1 ac Ms Mt) (hI2 : ∀ i j : Int, 0 ≤ i → i ≤ j → j ≤ e0 → Mt 21 i ≤ Mt 21 j) (hva : ∀ x y z sx sy sz : Int, VAL 3 3 1 ac (Tm Ms) (Pm Ms) x sx → VAL 3 3 1 ac (Tm Ms) (Pm Ms) y sy → VAL 3 3 1 ac (Tm Ms) (Pm Ms) z sz → VAL 3 3 1 ac (Tm Ms) (Pm Ms) (mcm 3 3 (fun i => Ms (p + 1) i) x y z) (cst (Ms p 0) sx sy sz)) : nW xs (e + 3) 54 0 [some (2, 15), some (2, p), some (0, e0), none, none] [] M (nPV fun M1 => Sf 3 ac M1 M1 ∧ MK 27 27 26 0 0 1 3 9 0 0 0 0 0 0 M1 ∧ (MI 3 3 1 ac Ms M1) ∧ (GR Mt M1) ∧ (POS 3 3 (fun i => Ms (p + 1) i) e0 Mt M1) ∧ (FBm Mt M1) ∧ (VS 3 3 1 ac Ms M1) ∧ (SL (Mt 21 e0) Mt M1) ∧ (POz 3 3 (fun i => Ms (p + 1) i) (Ms p 0) e0 Mt M1)) := by
  have hd : (3 : Int) = 2 ∨ (3 : Int) = 3 := by decide
  have hac := hS.2.2.2.2
  have hI : MI 3 3 1 ac Ms M := by rw [hmt]; exact hIt
  have hm10 : M 15 10 = Mt 15 10 := by rw [hmt]
  have hpb := hp.1
  have hpc := hp.2.1
  have hVSm : VS 3 3 1 ac Ms M := by rw [hmt]; exact hVS
  refine n_iconst c_54_0 ?_
  refine n_aload_n c_54_1 rfl ?_
  refine n_getR c_54_2 sc_15.n rfl rfl rfl r_15_2 ?_
  refine n_iload_n c_54_5 rfl ?_
  refine n_ialoadV c_54_6 sc_21.n rfl rfl rfl (by omega) (hI.s (by omega) (by omega)) ?_
  intro z1 ez1 f2
  refine n_iadd c_54_7 rfl ?_
  refine n_istore_n (L2 := [some (2, 15), some (2, p), some (0, e0), some (0, (1 + z1)), none]) c_54_8 rfl rfl ?_
  refine n_aload_n c_54_9 rfl ?_
  refine n_getV (bi := 0) c_54_10 hp.c0.1.n rfl rfl rfl (t_actl hS hp hpl).1 ?_
  intro z3 ez3 f4
  have kp0 : z3 = Ms p 0 := by rw [ez3, hmt]; exact hfm p 0 (by omega) (by omega) (by omega)
  refine n_iconst c_54_13 ?_
  refine n_if2_ne c_54_14 (by omega) (by omega) ?_ ?_
  · intro h5
    refine n_aload_n c_54_33 rfl ?_
    refine n_getV (bi := 0) c_54_34 hp.c0.1.n rfl rfl rfl (t_actl hS hp hpl).1 ?_
    intro z6 ez6 f7
    have kp1 : z6 = Ms p 0 := by rw [ez6, hmt]; exact hfm p 0 (by omega) (by omega) (by omega)
    refine n_iconst c_54_37 ?_
    refine n_if2_ne c_54_38 (by omega) (by omega) ?_ ?_
    · intro h8
      refine n_iconst c_54_72 ?_
      refine n_istore (L2 := [some (2, 15), some (2, p), some (0, e0), some (0, (1 + z1)), some (0, 0)]) c_54_73 rfl rfl ?_
      refine n_fg (le_s (le_s (le_s (le_s (le_s le_0))))) ?_
      exact (putOnX_1_3_c hS hp hpl he0 hK hmt hIt hfm heg hwa hcl hVS hCE hI2 hva 1044).1 _ _ M hS (by omega) (by omega) hK (by exact hI) (by exact (show GR Mt M by rw [hmt]; exact GR.refl)) (by exact (show FBm Mt M by rw [hmt]; exact FBm.refl)) (by exact fun _ => Or.inr (fun a b c u => by have u3 := u.2; omega)) (by exact hVSm) (by exact (show SL (Mt 21 e0) Mt M by rw [hmt]; exact SL.refl)) (by have y : M 21 e0 = Mt 21 e0 := (by rw [hmt]); omega) (by exact fun a b c (u : a = e0 ∧ 0 ≤ b ∧ b < 0 ∧ 0 ≤ c ∧ c < e0 + 1) => by have y := u.2.1; have y2 := u.2.2.1; omega) (by have hwk := hwa.1.1; omega) (by omega)
    · intro h9
      refine n_aload_n c_54_41 rfl ?_
      refine n_aload_n c_54_42 rfl ?_
      refine n_getR c_54_43 hp.c0.1.n rfl rfl rfl hp.r.1 ?_
      refine n_iload_n c_54_46 rfl ?_
      refine n_iload_n c_54_47 rfl ?_
      refine n_iconst c_54_48 ?_
      refine n_iload_n c_54_49 rfl ?_
      refine n_iload_n c_54_50 rfl ?_
      have hz0 : ∀ z : Int, 0 ≤ z → z ≤ e0 → M 21 z = Mt 21 z := fun z z0 z1 => ((show SL (Mt 21 e0) Mt M by rw [hmt]; exact SL.refl).1 z z0 (by omega)).2.1 (hI2 z e0 z0 z1 (by omega))
      have hze0 := hz0 e0 (by omega) (by omega)
      have hzs0 := (hVS e0 (by omega) (by omega)).r
      refine n_v6V c_54_51 rfl sc_15.n rfl rfl rfl rfl (sweepXT_1_3 (p := p) (x := e0) (y := e0) (f := 0) (t := e0) (s := (1 + z1)) (Ms := Ms) (Mt := M) (L := (Mt 21 e0)) hS hp hpl (by omega) (by omega) (by omega) (by omega) (by omega) hK (by rfl) (by exact hI) (by exact hfm.tr ((show FBm Mt M by rw [hmt]; exact FBm.refl)).1) (by omega) (by omega) (by omega) (by exact hcl) (by exact hVSm) (by rw [hmt]; exact hCE) (by exact fun z z0 z1 => by have y := hz0 z (by omega) (by omega); have y2 := hI2 z e0 (by omega) (by omega) (by omega); have y3 := (hVS z (by omega) (by omega)).r; omega) (by exact fun z q z0 z1 z2 => by rw [hz0 z (by omega) (by omega), hz0 q (by omega) (by omega)]; exact hI2 z q (by omega) z1 (by omega)) (by exact fun z z0 z1 => by have y := hva _ _ _ _ _ _ (hVSm e0 (by omega) (by omega)) (hVSm e0 (by omega) (by omega)) (hVSm z (by omega) (by omega)); rw [show Ms p 0 = 2 by omega, cst2] at y; have y2 := hz0 z (by omega) (by omega); exact VAL.cg y (by omega))) ?_
      intro  M10 hP11
      obtain ⟨hS10, f11K, f11p0, f11p1, f11p2, f11p3, f11p4, f11p5, f11p6⟩ := hP11
      have ps0 := PSD.of (k := 2) (Mt := Mt) f11p6 (((show GR Mt M by rw [hmt]; exact GR.refl)).2 e0 (by omega) (by omega)) (((show GR Mt M by rw [hmt]; exact GR.refl)).2 e0 (by omega) (by omega)) (fun z z0 z1 => ⟨((show GR Mt M by rw [hmt]; exact GR.refl)).2 z (by omega) (by omega), by rw [cst2]; have y2 := hz0 z (by omega) (by omega); exact congrArg kap (by omega)⟩)
      have sl0 := ((show SL (Mt 21 e0) Mt M by rw [hmt]; exact SL.refl)).tr f11p5 (show GR Mt M by rw [hmt]; exact GR.refl)
      have gn0 := ((show GR Mt M by rw [hmt]; exact GR.refl)).tr f11p1
      have fn0 := ((show FBm Mt M by rw [hmt]; exact FBm.refl)).tr f11p3
      have sn0 := f11p2.bs (show GR Mt M by rw [hmt]; exact GR.refl) (show FBm Mt M by rw [hmt]; exact FBm.refl) (fun a b c u => ⟨by have u1 := u.1; omega, by have u2 := u.2.1; omega, by have u3 := u.2.2; omega⟩)
      have hq0 := gn0.1
      refine n_aload_n c_54_54 rfl ?_
      refine n_aload_n c_54_55 rfl ?_
      refine n_getR c_54_56 hp.c0.1.n rfl rfl rfl hp.r.2 ?_
      refine n_iload_n c_54_59 rfl ?_
      refine n_iload_n c_54_60 rfl ?_
      refine n_iconst c_54_61 ?_
      refine n_iload_n c_54_62 rfl ?_
      refine n_iconst c_54_63 ?_
      refine n_isub c_54_64 rfl ?_
      refine n_iload_n c_54_65 rfl ?_
      have hz1 : ∀ z : Int, 0 ≤ z → z ≤ e0 → M10 21 z = Mt 21 z := fun z z0 z1 => (sl0.1 z z0 (by omega)).2.1 (hI2 z e0 z0 z1 (by omega))
      have hze1 := hz1 e0 (by omega) (by omega)
      have hzs1 := (hVS e0 (by omega) (by omega)).r
      refine n_v6V c_54_66 rfl sc_15.n rfl rfl rfl rfl (sweepXU_1_3 (p := p) (x := e0) (y := e0) (f := 0) (t := (e0 - 1)) (s := (1 + z1)) (Ms := Ms) (Mt := M10) (L := (Mt 21 e0)) hS10 hp hpl (by omega) (by omega) (by omega) (by omega) (by omega) f11K (by rfl) (by exact f11p0) (by exact hfm.tr (fn0).1) (by omega) (by omega) (by omega) (by exact fun X Y Z hX hY hZ => by rw [mcm_tr hd hwa.2.2]; exact hcl X Z Y hX hZ hY) (by exact f11p4) (by exact hCE.gr gn0 sl0 (fn0).2.2) (by exact fun z z0 z1 => by have y := hz1 z (by omega) (by omega); have y2 := hI2 z e0 (by omega) (by omega) (by omega); have y3 := (hVS z (by omega) (by omega)).r; omega) (by exact fun z q z0 z1 z2 => by rw [hz1 z (by omega) (by omega), hz1 q (by omega) (by omega)]; exact hI2 z q (by omega) z1 (by omega)) (by exact fun z z0 z1 => by have y := hva _ _ _ _ _ _ (f11p4 e0 (by omega) (by omega)) (f11p4 z (by omega) (by omega)) (f11p4 e0 (by omega) (by omega)); rw [show Ms p 0 = 2 by omega, cst2] at y; rw [mcm_tr hd hwa.2.2]; have y2 := hz1 z (by omega) (by omega); exact VAL.cg y (by omega))) ?_
      intro  M12 hP13
      obtain ⟨hS12, f13K, f13p0, f13p1, f13p2, f13p3, f13p4, f13p5, f13p6⟩ := hP13
      have ps1 := PSD.ou hd hwa.2.2 (k := 2) (Mt := Mt) f13p6 ((gn0).2 e0 (by omega) (by omega)) ((gn0).2 e0 (by omega) (by omega)) (fun z z0 z1 => ⟨(gn0).2 z (by omega) (by omega), by rw [cst2]; have y2 := hz1 z (by omega) (by omega); exact congrArg kap (by omega)⟩)
      have sl1 := (sl0).tr f13p5 gn0
      have gn1 := (gn0).tr f13p1
      have fn1 := (fn0).tr f13p3
      have sn1 := f13p2.bs gn0 fn0 (fun a b c u => ⟨by have u1 := u.1; omega, by have u2 := u.2.1; omega, by have u3 := u.2.2; omega⟩)
      have sn1 := sn1.tn hd hwa.2.2
      have hq1 := gn1.1
      refine n_goto c_54_69 ?_
      exact n_rV c_54_170 rfl ⟨hS12, f13K, by exact f13p0, by exact gn1, by exact POS.two hd (by omega) (by have y := hwa.2.1; rw [← kp1, show z6 = 2 by omega] at y; exact y) gn1 ((sn0).gr f13p1) (sn1), by exact fn1, by exact f13p4, by exact sl1, by rw [show Ms p 0 = 2 by omega]; exact POz.two hd (by omega) (by have y := hwa.2.1; rw [← kp1, show z6 = 2 by omega] at y; exact y) gn1 sl1 ((ps0).gr f13p1 f13p5) (ps1)⟩
  · intro h14
    refine n_aload_n c_54_17 rfl ?_
    refine n_aload_n c_54_18 rfl ?_
    refine n_getR c_54_19 hp.c0.1.n rfl rfl rfl hp.r.1 ?_
    refine n_iload_n c_54_22 rfl ?_
    refine n_iload_n c_54_23 rfl ?_
    refine n_iload_n c_54_24 rfl ?_
    refine n_iload_n c_54_25 rfl ?_
    refine n_iconst c_54_26 ?_
    have hz0 : ∀ z : Int, 0 ≤ z → z ≤ e0 → M 21 z = Mt 21 z := fun z z0 z1 => ((show SL (Mt 21 e0) Mt M by rw [hmt]; exact SL.refl).1 z z0 (by omega)).2.1 (hI2 z e0 z0 z1 (by omega))
    have hze0 := hz0 e0 (by omega) (by omega)
    have hzs0 := (hVS e0 (by omega) (by omega)).r
    refine n_v6V c_54_27 rfl sc_15.n rfl rfl rfl rfl (sweepXT_1_3 (p := p) (x := e0) (y := e0) (f := e0) (t := e0) (s := 1) (Ms := Ms) (Mt := M) (L := (Mt 21 e0)) hS hp hpl (by omega) (by omega) (by omega) (by omega) (by omega) hK (by rfl) (by exact hI) (by exact hfm.tr ((show FBm Mt M by rw [hmt]; exact FBm.refl)).1) (by omega) (by omega) (by omega) (by exact hcl) (by exact hVSm) (by rw [hmt]; exact hCE) (by exact fun z z0 z1 => by have ez : z = e0 := (by omega); rw [ez]; have y := hz0 e0 (by omega) (by omega); have y3 := (hVS e0 (by omega) (by omega)).r; omega) (by exact fun z q z0 z1 z2 => by rw [hz0 z (by omega) (by omega), hz0 q (by omega) (by omega)]; exact hI2 z q (by omega) z1 (by omega)) (by exact fun z z0 z1 => by have y := hva _ _ _ _ _ _ (hVSm e0 (by omega) (by omega)) (hVSm e0 (by omega) (by omega)) (hVSm z (by omega) (by omega)); rw [show Ms p 0 = 1 by omega, cst1] at y; have y2 := hz0 z (by omega) (by omega); exact VAL.cg y (by omega))) ?_
    intro  M15 hP16
    obtain ⟨hS15, f16K, f16p0, f16p1, f16p2, f16p3, f16p4, f16p5, f16p6⟩ := hP16
    have ps0 := PSD.of (k := 1) (Mt := Mt) f16p6 (((show GR Mt M by rw [hmt]; exact GR.refl)).2 e0 (by omega) (by omega)) (((show GR Mt M by rw [hmt]; exact GR.refl)).2 e0 (by omega) (by omega)) (fun z z0 z1 => ⟨((show GR Mt M by rw [hmt]; exact GR.refl)).2 z (by omega) (by omega), by rw [cst1]; have y2 := hz0 z (by omega) (by omega); exact congrArg kap (by omega)⟩)
    have sl0 := ((show SL (Mt 21 e0) Mt M by rw [hmt]; exact SL.refl)).tr f16p5 (show GR Mt M by rw [hmt]; exact GR.refl)
    have gn0 := ((show GR Mt M by rw [hmt]; exact GR.refl)).tr f16p1
    have fn0 := ((show FBm Mt M by rw [hmt]; exact FBm.refl)).tr f16p3
    have sn0 := f16p2.bs (show GR Mt M by rw [hmt]; exact GR.refl) (show FBm Mt M by rw [hmt]; exact FBm.refl) (fun a b c u => ⟨by have u1 := u.1; omega, by have u2 := u.2.1; omega, by have u3 := u.2.2; omega⟩)
    have hq0 := gn0.1
    refine n_goto c_54_30 ?_
    exact n_rV c_54_170 rfl ⟨hS15, f16K, by exact f16p0, by exact gn0, by exact POS.one hd (by omega) (by have y := hwa.2.1; rw [← kp0, show z3 = 1 by omega] at y; exact y) gn0 (sn0), by exact fn0, by exact f16p4, by exact sl0, by rw [show Ms p 0 = 1 by omega]; exact POz.one hd (by omega) (by have y := hwa.2.1; rw [← kp0, show z3 = 1 by omega] at y; exact y) gn0 sl0 (ps0)⟩

set_option maxHeartbeats 4000000 in
theorem changeInX20_1_3 {xs : List Int32} {e : Nat} {ac : Int} {M0 M : nM} {i j g : Int} (hS : Sf 3 ac M0 M) (hi : 0 ≤ i ∧ i ≤ 256) (hj : 0 ≤ j ∧ j ≤ 256) (hK : MK 27 27 26 0 0 1 3 9 0 0 0 0 0 0 M) (hg : M 15 10 = g) (hig : i < g) (hjg : j < g) : nW xs e 61 0 [some (2, 15), some (2, 20), some (0, i), some (0, j), none] [] M (nPV fun M1 => Sf 3 ac M0 M1 ∧ (M1 15 10 = g) ∧ MK 27 27 26 0 0 1 3 9 0 0 0 0 0 0 M1 ∧ (M1 = swq M 20 i j)) := by
  have hd : (3 : Int) = 2 ∨ (3 : Int) = 3 := by decide
  have hac := hS.2.2.2.2
  refine n_aload_n c_61_0 rfl ?_
  refine n_iload_n c_61_1 rfl ?_
  refine n_ialoadV c_61_2 sc_20.n rfl rfl rfl (by omega) (hK.r20 hS (by omega) (by omega)) ?_
  intro z1 ez1 f2
  refine n_istore (L2 := [some (2, 15), some (2, 20), some (0, i), some (0, j), some (0, z1)]) c_61_3 rfl rfl ?_
  refine n_aload_n c_61_5 rfl ?_
  refine n_iload_n c_61_6 rfl ?_
  refine n_aload_n c_61_7 rfl ?_
  refine n_iload_n c_61_8 rfl ?_
  refine n_ialoadV c_61_9 sc_20.n rfl rfl rfl (by omega) (hK.r20 hS (by omega) (by omega)) ?_
  intro z3 ez3 f4
  refine n_iastoreV hS c_61_10 sc_20.n rfl (by omega) (w_20 (by omega) (by omega)) ?_
  intro M5 eM5 hS5
  have hK5 := hK.u (by unfold Kok; omega) eM5
  have g5_0 : M5 15 10 = M 15 10 := by rw [eM5]; exact nu_a (by omega)
  refine n_aload_n c_61_11 rfl ?_
  refine n_iload_n c_61_12 rfl ?_
  refine n_iload c_61_13 rfl ?_
  refine n_iastoreV hS5 c_61_15 sc_20.n rfl (by omega) (w_20 (by omega) (by omega)) ?_
  intro M6 eM6 hS6
  have hK6 := hK5.u (by unfold Kok; omega) eM6
  have g6_0 : M6 15 10 = M5 15 10 := by rw [eM6]; exact nu_a (by omega)
  exact n_rV c_61_16 rfl ⟨hS6, by omega, hK6, by show M6 = nu (nu M 20 i (M 20 j)) 20 j (M 20 i); rw [eM6, eM5, ez3, ez1]⟩

set_option maxHeartbeats 4000000 in
theorem changeInX21_1_3 {xs : List Int32} {e : Nat} {ac : Int} {M0 M : nM} {i j g : Int} (hS : Sf 3 ac M0 M) (hi : 0 ≤ i ∧ i ≤ 256) (hj : 0 ≤ j ∧ j ≤ 256) (hK : MK 27 27 26 0 0 1 3 9 0 0 0 0 0 0 M) (hg : M 15 10 = g) (hig : i < g) (hjg : j < g) : nW xs e 61 0 [some (2, 15), some (2, 21), some (0, i), some (0, j), none] [] M (nPV fun M1 => Sf 3 ac M0 M1 ∧ (M1 15 10 = g) ∧ MK 27 27 26 0 0 1 3 9 0 0 0 0 0 0 M1 ∧ (M1 = swq M 21 i j)) := by
  have hd : (3 : Int) = 2 ∨ (3 : Int) = 3 := by decide
  have hac := hS.2.2.2.2
  refine n_aload_n c_61_0 rfl ?_
  refine n_iload_n c_61_1 rfl ?_
  refine n_ialoadV c_61_2 sc_21.n rfl rfl rfl (by omega) (t_21 hS (by omega)) ?_
  intro z1 ez1 f2
  refine n_istore (L2 := [some (2, 15), some (2, 21), some (0, i), some (0, j), some (0, z1)]) c_61_3 rfl rfl ?_
  refine n_aload_n c_61_5 rfl ?_
  refine n_iload_n c_61_6 rfl ?_
  refine n_aload_n c_61_7 rfl ?_
  refine n_iload_n c_61_8 rfl ?_
  refine n_ialoadV c_61_9 sc_21.n rfl rfl rfl (by omega) (t_21 hS (by omega)) ?_
  intro z3 ez3 f4
  refine n_iastoreV hS c_61_10 sc_21.n rfl (by omega) (w_21 (by omega) (by omega)) ?_
  intro M5 eM5 hS5
  have hK5 := hK.u (by unfold Kok; omega) eM5
  have g5_0 : M5 15 10 = M 15 10 := by rw [eM5]; exact nu_a (by omega)
  refine n_aload_n c_61_11 rfl ?_
  refine n_iload_n c_61_12 rfl ?_
  refine n_iload c_61_13 rfl ?_
  refine n_iastoreV hS5 c_61_15 sc_21.n rfl (by omega) (w_21 (by omega) (by omega)) ?_
  intro M6 eM6 hS6
  have hK6 := hK5.u (by unfold Kok; omega) eM6
  have g6_0 : M6 15 10 = M5 15 10 := by rw [eM6]; exact nu_a (by omega)
  exact n_rV c_61_16 rfl ⟨hS6, by omega, hK6, by show M6 = nu (nu M 21 i (M 21 j)) 21 j (M 21 i); rw [eM6, eM5, ez3, ez1]⟩

set_option maxHeartbeats 4000000 in
theorem changeInX22_1_3 {xs : List Int32} {e : Nat} {ac : Int} {M0 M : nM} {i j g : Int} (hS : Sf 3 ac M0 M) (hi : 0 ≤ i ∧ i ≤ 256) (hj : 0 ≤ j ∧ j ≤ 256) (hK : MK 27 27 26 0 0 1 3 9 0 0 0 0 0 0 M) (hg : M 15 10 = g) (hig : i < g) (hjg : j < g) : nW xs e 61 0 [some (2, 15), some (2, 22), some (0, i), some (0, j), none] [] M (nPV fun M1 => Sf 3 ac M0 M1 ∧ (M1 15 10 = g) ∧ MK 27 27 26 0 0 1 3 9 0 0 0 0 0 0 M1 ∧ (M1 = swq M 22 i j)) := by
  have hd : (3 : Int) = 2 ∨ (3 : Int) = 3 := by decide
  have hac := hS.2.2.2.2
  refine n_aload_n c_61_0 rfl ?_
  refine n_iload_n c_61_1 rfl ?_
  refine n_ialoadV c_61_2 sc_22.n rfl rfl rfl (by omega) (hK.r22 hS (by omega) (by omega)) ?_
  intro z1 ez1 f2
  refine n_istore (L2 := [some (2, 15), some (2, 22), some (0, i), some (0, j), some (0, z1)]) c_61_3 rfl rfl ?_
  refine n_aload_n c_61_5 rfl ?_
  refine n_iload_n c_61_6 rfl ?_
  refine n_aload_n c_61_7 rfl ?_
  refine n_iload_n c_61_8 rfl ?_
  refine n_ialoadV c_61_9 sc_22.n rfl rfl rfl (by omega) (hK.r22 hS (by omega) (by omega)) ?_
  intro z3 ez3 f4
  refine n_iastoreV hS c_61_10 sc_22.n rfl (by omega) (w_22 (by omega) (by omega)) ?_
  intro M5 eM5 hS5
  have hK5 := hK.u (by unfold Kok; omega) eM5
  have g5_0 : M5 15 10 = M 15 10 := by rw [eM5]; exact nu_a (by omega)
  refine n_aload_n c_61_11 rfl ?_
  refine n_iload_n c_61_12 rfl ?_
  refine n_iload c_61_13 rfl ?_
  refine n_iastoreV hS5 c_61_15 sc_22.n rfl (by omega) (w_22 (by omega) (by omega)) ?_
  intro M6 eM6 hS6
  have hK6 := hK5.u (by unfold Kok; omega) eM6
  have g6_0 : M6 15 10 = M5 15 10 := by rw [eM6]; exact nu_a (by omega)
  exact n_rV c_61_16 rfl ⟨hS6, by omega, hK6, by show M6 = nu (nu M 22 i (M 22 j)) 22 j (M 22 i); rw [eM6, eM5, ez3, ez1]⟩

set_option maxHeartbeats 4000000 in
theorem changeInX23_1_3 {xs : List Int32} {e : Nat} {ac : Int} {M0 M : nM} {i j g : Int} (hS : Sf 3 ac M0 M) (hi : 0 ≤ i ∧ i ≤ 256) (hj : 0 ≤ j ∧ j ≤ 256) (hK : MK 27 27 26 0 0 1 3 9 0 0 0 0 0 0 M) (hg : M 15 10 = g) (hig : i < g) (hjg : j < g) : nW xs e 61 0 [some (2, 15), some (2, 23), some (0, i), some (0, j), none] [] M (nPV fun M1 => Sf 3 ac M0 M1 ∧ (M1 15 10 = g) ∧ MK 27 27 26 0 0 1 3 9 0 0 0 0 0 0 M1 ∧ (M1 = swq M 23 i j)) := by
  have hd : (3 : Int) = 2 ∨ (3 : Int) = 3 := by decide
  have hac := hS.2.2.2.2
  refine n_aload_n c_61_0 rfl ?_
  refine n_iload_n c_61_1 rfl ?_
  refine n_ialoadV c_61_2 sc_23.n rfl rfl rfl (by omega) (hK.r23 hS (by omega) (by omega)) ?_
  intro z1 ez1 f2
  refine n_istore (L2 := [some (2, 15), some (2, 23), some (0, i), some (0, j), some (0, z1)]) c_61_3 rfl rfl ?_
  refine n_aload_n c_61_5 rfl ?_
  refine n_iload_n c_61_6 rfl ?_
  refine n_aload_n c_61_7 rfl ?_
  refine n_iload_n c_61_8 rfl ?_
  refine n_ialoadV c_61_9 sc_23.n rfl rfl rfl (by omega) (hK.r23 hS (by omega) (by omega)) ?_
  intro z3 ez3 f4
  refine n_iastoreV hS c_61_10 sc_23.n rfl (by omega) (w_23 (by omega) (by omega)) ?_
  intro M5 eM5 hS5
  have hK5 := hK.u (by unfold Kok; omega) eM5
  have g5_0 : M5 15 10 = M 15 10 := by rw [eM5]; exact nu_a (by omega)
  refine n_aload_n c_61_11 rfl ?_
  refine n_iload_n c_61_12 rfl ?_
  refine n_iload c_61_13 rfl ?_
  refine n_iastoreV hS5 c_61_15 sc_23.n rfl (by omega) (w_23 (by omega) (by omega)) ?_
  intro M6 eM6 hS6
  have hK6 := hK5.u (by unfold Kok; omega) eM6
  have g6_0 : M6 15 10 = M5 15 10 := by rw [eM6]; exact nu_a (by omega)
  exact n_rV c_61_16 rfl ⟨hS6, by omega, hK6, by show M6 = nu (nu M 23 i (M 23 j)) 23 j (M 23 i); rw [eM6, eM5, ez3, ez1]⟩

set_option maxHeartbeats 4000000 in
theorem changeInX24_1_3 {xs : List Int32} {e : Nat} {ac : Int} {M0 M : nM} {i j g : Int} (hS : Sf 3 ac M0 M) (hi : 0 ≤ i ∧ i ≤ 256) (hj : 0 ≤ j ∧ j ≤ 256) (hK : MK 27 27 26 0 0 1 3 9 0 0 0 0 0 0 M) (hg : M 15 10 = g) (hig : i < g) (hjg : j < g) : nW xs e 61 0 [some (2, 15), some (2, 24), some (0, i), some (0, j), none] [] M (nPV fun M1 => Sf 3 ac M0 M1 ∧ (M1 15 10 = g) ∧ MK 27 27 26 0 0 1 3 9 0 0 0 0 0 0 M1 ∧ (M1 = swq M 24 i j)) := by
  have hd : (3 : Int) = 2 ∨ (3 : Int) = 3 := by decide
  have hac := hS.2.2.2.2
  refine n_aload_n c_61_0 rfl ?_
  refine n_iload_n c_61_1 rfl ?_
  refine n_ialoadV c_61_2 sc_24.n rfl rfl rfl (by omega) (hK.r24 hS (by omega) (by omega)) ?_
  intro z1 ez1 f2
  refine n_istore (L2 := [some (2, 15), some (2, 24), some (0, i), some (0, j), some (0, z1)]) c_61_3 rfl rfl ?_
  refine n_aload_n c_61_5 rfl ?_
  refine n_iload_n c_61_6 rfl ?_
  refine n_aload_n c_61_7 rfl ?_
  refine n_iload_n c_61_8 rfl ?_
  refine n_ialoadV c_61_9 sc_24.n rfl rfl rfl (by omega) (hK.r24 hS (by omega) (by omega)) ?_
  intro z3 ez3 f4
  refine n_iastoreV hS c_61_10 sc_24.n rfl (by omega) (w_24 (by omega) (by omega)) ?_
  intro M5 eM5 hS5
  have hK5 := hK.u (by unfold Kok; omega) eM5
  have g5_0 : M5 15 10 = M 15 10 := by rw [eM5]; exact nu_a (by omega)
  refine n_aload_n c_61_11 rfl ?_
  refine n_iload_n c_61_12 rfl ?_
  refine n_iload c_61_13 rfl ?_
  refine n_iastoreV hS5 c_61_15 sc_24.n rfl (by omega) (w_24 (by omega) (by omega)) ?_
  intro M6 eM6 hS6
  have hK6 := hK5.u (by unfold Kok; omega) eM6
  have g6_0 : M6 15 10 = M5 15 10 := by rw [eM6]; exact nu_a (by omega)
  exact n_rV c_61_16 rfl ⟨hS6, by omega, hK6, by show M6 = nu (nu M 24 i (M 24 j)) 24 j (M 24 i); rw [eM6, eM5, ez3, ez1]⟩

set_option maxHeartbeats 4000000 in
theorem changeX_1_3 {xs : List Int32} {e : Nat} {ac : Int} {M : nM} {i j : Int} {Ms : nM} (hS : Sf 3 ac M M) (hi : 0 ≤ i ∧ i ≤ 256) (hj : 0 ≤ j ∧ j ≤ 256) (hK : MK 27 27 26 0 0 1 3 9 0 0 0 0 0 0 M) (hI : MI 3 3 1 ac Ms M) (hig : i < M 15 10) (hjg : j < M 15 10) : nW xs (e + 1) 60 0 [some (2, 15), some (0, i), some (0, j)] [] M (nPV fun M1 => Sf 3 ac M1 M1 ∧ MK 27 27 26 0 0 1 3 9 0 0 0 0 0 0 M1 ∧ (MI 3 3 1 ac Ms M1) ∧ (∀ c : Int, HAS M1 c ↔ HAS M c) ∧ (M1 15 10 = M 15 10) ∧ (∀ q : Int, q ≠ i → q ≠ j → M1 20 q = M 20 q) ∧ (FAm M M1) ∧ (SWP i j M M1)) := by
  have hd : (3 : Int) = 2 ∨ (3 : Int) = 3 := by decide
  have hac := hS.2.2.2.2
  refine n_aload_n c_60_0 rfl ?_
  refine n_aload_n c_60_1 rfl ?_
  refine n_getR c_60_2 sc_15.n rfl rfl rfl r_15_1 ?_
  refine n_iload_n c_60_5 rfl ?_
  refine n_iload_n c_60_6 rfl ?_
  refine n_v3V c_60_7 rfl sc_15.n rfl rfl rfl rfl (changeInX20_1_3 (i := i) (j := j) (g := (M 15 10)) hS (by omega) (by omega) hK rfl (by omega) (by omega)) ?_
  intro  M1 hP2
  obtain ⟨hS1, f2g0, f2K, f2p0⟩ := hP2
  have hS1c := hS1.2.2.2.1.1
  have hS1 := hS1.refl
  refine n_aload_n c_60_10 rfl ?_
  refine n_aload_n c_60_11 rfl ?_
  refine n_getR c_60_12 sc_15.n rfl rfl rfl r_15_2 ?_
  refine n_iload_n c_60_15 rfl ?_
  refine n_iload_n c_60_16 rfl ?_
  refine n_v3V c_60_17 rfl sc_15.n rfl rfl rfl rfl (changeInX21_1_3 (i := i) (j := j) (g := (M1 15 10)) hS1 (by omega) (by omega) f2K rfl (by omega) (by omega)) ?_
  intro  M3 hP4
  obtain ⟨hS3, f4g0, f4K, f4p0⟩ := hP4
  have hS3c := hS3.2.2.2.1.1
  have hS3 := hS3.refl
  refine n_aload_n c_60_20 rfl ?_
  refine n_aload_n c_60_21 rfl ?_
  refine n_getR c_60_22 sc_15.n rfl rfl rfl r_15_3 ?_
  refine n_iload_n c_60_25 rfl ?_
  refine n_iload_n c_60_26 rfl ?_
  refine n_v3V c_60_27 rfl sc_15.n rfl rfl rfl rfl (changeInX22_1_3 (i := i) (j := j) (g := (M3 15 10)) hS3 (by omega) (by omega) f4K rfl (by omega) (by omega)) ?_
  intro  M5 hP6
  obtain ⟨hS5, f6g0, f6K, f6p0⟩ := hP6
  have hS5c := hS5.2.2.2.1.1
  have hS5 := hS5.refl
  refine n_aload_n c_60_30 rfl ?_
  refine n_aload_n c_60_31 rfl ?_
  refine n_getR c_60_32 sc_15.n rfl rfl rfl r_15_4 ?_
  refine n_iload_n c_60_35 rfl ?_
  refine n_iload_n c_60_36 rfl ?_
  refine n_v3V c_60_37 rfl sc_15.n rfl rfl rfl rfl (changeInX23_1_3 (i := i) (j := j) (g := (M5 15 10)) hS5 (by omega) (by omega) f6K rfl (by omega) (by omega)) ?_
  intro  M7 hP8
  obtain ⟨hS7, f8g0, f8K, f8p0⟩ := hP8
  have hS7c := hS7.2.2.2.1.1
  have hS7 := hS7.refl
  refine n_aload_n c_60_40 rfl ?_
  refine n_aload_n c_60_41 rfl ?_
  refine n_getR c_60_42 sc_15.n rfl rfl rfl r_15_5 ?_
  refine n_iload_n c_60_45 rfl ?_
  refine n_iload_n c_60_46 rfl ?_
  refine n_v3V c_60_47 rfl sc_15.n rfl rfl rfl rfl (changeInX24_1_3 (i := i) (j := j) (g := (M7 15 10)) hS7 (by omega) (by omega) f8K rfl (by omega) (by omega)) ?_
  intro  M9 hP10
  obtain ⟨hS9, f10g0, f10K, f10p0⟩ := hP10
  have hS9c := hS9.2.2.2.1.1
  have hS9 := hS9.refl
  refine n_aload_n c_60_50 rfl ?_
  refine n_getP c_60_51 ?_
  intro p11 ep11
  refine n_aload_n c_60_54 rfl ?_
  refine n_getR c_60_55 sc_15.n rfl rfl rfl r_15_1 ?_
  refine n_iload_n c_60_58 rfl ?_
  refine n_ialoadV c_60_59 sc_20.n rfl rfl rfl (by omega) (f10K.r20 hS9 (by omega) (by omega)) ?_
  intro z12 ez12 f13
  refine n_iload_n c_60_60 rfl ?_
  refine n_iconst c_60_61 ?_
  refine n_iadd c_60_62 rfl ?_
  refine n_iastoreQ hS9 f10K c_60_63 ep11 (by omega) (by omega) ?_
  intro M14 eM14 fM14 hS14 hK14
  have g14_0 := fM14 15 10 (by omega) (by omega)
  refine n_aload_n c_60_64 rfl ?_
  refine n_getP c_60_65 ?_
  intro p15 ep15
  refine n_aload_n c_60_68 rfl ?_
  refine n_getR c_60_69 sc_15.n rfl rfl rfl r_15_1 ?_
  refine n_iload_n c_60_72 rfl ?_
  refine n_ialoadV c_60_73 sc_20.n rfl rfl rfl (by omega) (hK14.r20 hS14 (by omega) (by omega)) ?_
  intro z16 ez16 f17
  refine n_iload_n c_60_74 rfl ?_
  refine n_iconst c_60_75 ?_
  refine n_iadd c_60_76 rfl ?_
  refine n_iastoreQ hS14 hK14 c_60_77 ep15 (by omega) (by omega) ?_
  intro M18 eM18 fM18 hS18 hK18
  have g18_0 := fM18 15 10 (by omega) (by omega)
  have hP := hS.p9
  have ch := MI.chg (x := i) (y := j) hI hP (by omega) (by omega) (fun q q0 q1 => (hK.r20 hS q0 q1).1) f2p0 f4p0 f6p0 f8p0 f10p0 ez12 eM14 ez16 eM18
  have chz := SWP.mk hP f2p0 f4p0 f6p0 f8p0 f10p0 eM14 eM18
  exact n_rV c_60_78 rfl ⟨hS18, hK18, by exact ch.1, by exact ch.2.1, by exact ch.2.2.1, by exact ch.2.2.2.1, by exact ch.2.2.2.2, by exact chz⟩

set_option maxHeartbeats 4000000 in
theorem isAheadX_1_3 {xs : List Int32} {e : Nat} {ac : Int} {M0 M : nM} {i j : Int} (hS : Sf 3 ac M0 M) (hi : 0 ≤ i ∧ i ≤ 256) (hj : 0 ≤ j ∧ j ≤ 256) : nW xs e 58 0 [some (2, 15), some (0, i), some (0, j)] [] M (nPI fun z M1 => M = M1 ∧ (0 ≤ z ∧ z ≤ 1) ∧ (z = 1 ↔ LT M i j)) := by
  have hd : (3 : Int) = 2 ∨ (3 : Int) = 3 := by decide
  have hac := hS.2.2.2.2
  refine n_aload_n c_58_0 rfl ?_
  refine n_getR c_58_1 sc_15.n rfl rfl rfl r_15_2 ?_
  refine n_iload_n c_58_4 rfl ?_
  refine n_ialoadV c_58_5 sc_21.n rfl rfl rfl (by omega) (t_21 hS (by omega)) ?_
  intro z1 ez1 f2
  refine n_aload_n c_58_6 rfl ?_
  refine n_getR c_58_7 sc_15.n rfl rfl rfl r_15_2 ?_
  refine n_iload_n c_58_10 rfl ?_
  refine n_ialoadV c_58_11 sc_21.n rfl rfl rfl (by omega) (t_21 hS (by omega)) ?_
  intro z3 ez3 f4
  refine n_if2_lt c_58_12 (by omega) (by omega) ?_ ?_
  · intro h5
    refine n_iconst c_58_45 ?_
    refine n_goto c_58_46 ?_
    exact n_rZ c_58_50 rfl (by omega) ⟨rfl, by omega, by unfold LT; constructor <;> intro hq <;> omega⟩
  · intro h6
    refine n_aload_n c_58_15 rfl ?_
    refine n_getR c_58_16 sc_15.n rfl rfl rfl r_15_2 ?_
    refine n_iload_n c_58_19 rfl ?_
    refine n_ialoadV c_58_20 sc_21.n rfl rfl rfl (by omega) (t_21 hS (by omega)) ?_
    intro z7 ez7 f8
    refine n_aload_n c_58_21 rfl ?_
    refine n_getR c_58_22 sc_15.n rfl rfl rfl r_15_2 ?_
    refine n_iload_n c_58_25 rfl ?_
    refine n_ialoadV c_58_26 sc_21.n rfl rfl rfl (by omega) (t_21 hS (by omega)) ?_
    intro z9 ez9 f10
    refine n_if2_ne c_58_27 (by omega) (by omega) ?_ ?_
    · intro h11
      refine n_iconst c_58_49 ?_
      exact n_rZ c_58_50 rfl (by omega) ⟨rfl, by omega, by unfold LT; constructor <;> intro hq <;> omega⟩
    · intro h12
      refine n_aload_n c_58_30 rfl ?_
      refine n_getR c_58_31 sc_15.n rfl rfl rfl r_15_1 ?_
      refine n_iload_n c_58_34 rfl ?_
      refine n_ialoadV c_58_35 sc_20.n rfl rfl rfl (by omega) (t_20 hS (by omega)) ?_
      intro z13 ez13 f14
      refine n_aload_n c_58_36 rfl ?_
      refine n_getR c_58_37 sc_15.n rfl rfl rfl r_15_1 ?_
      refine n_iload_n c_58_40 rfl ?_
      refine n_ialoadV c_58_41 sc_20.n rfl rfl rfl (by omega) (t_20 hS (by omega)) ?_
      intro z15 ez15 f16
      refine n_if2_ge c_58_42 (by omega) (by omega) ?_ ?_
      · intro h17
        refine n_iconst c_58_49 ?_
        exact n_rZ c_58_50 rfl (by omega) ⟨rfl, by omega, by unfold LT; constructor <;> intro hq <;> omega⟩
      · intro h18
        refine n_iconst c_58_45 ?_
        refine n_goto c_58_46 ?_
        exact n_rZ c_58_50 rfl (by omega) ⟨rfl, by omega, by unfold LT; constructor <;> intro hq <;> omega⟩

set_option maxHeartbeats 4000000 in
theorem largestX_1_3_c {xs : List Int32} {e : Nat} {ac : Int} {M0 M : nM} {f : Int} (hS : Sf 3 ac M0 M) (hf : 0 ≤ f ∧ f ≤ 256) : ∀ nn : Nat, (∀ (x2 x3 : Int), (0 ≤ x2 ∧ x2 ≤ 2147483647) → (0 ≤ x3 ∧ x3 ≤ 257) → (∀ q : Int, f ≤ q → q < x3 → M 21 q ≤ x2) → (257 - x3) * 1 + 1 < (nn : Int) → nW xs (e + 1) 59 4 [some (2, 15), none, some (0, x2), some (0, x3)] [] M (nPI fun z M1 => M = M1 ∧ (-2147483648 ≤ z ∧ z ≤ 2147483647) ∧ (∀ q : Int, f ≤ q → q < M 15 10 → M 21 q ≤ z))) := by
  have hd : (3 : Int) = 2 ∨ (3 : Int) = 3 := by decide
  have hac := hS.2.2.2.2
  intro nn
  induction nn with
  | zero => intros; omega
  | succ nn ih =>
    intro x2 x3 k2 k3 v0 hnn
    refine n_iload_n c_59_4 rfl ?_
    refine n_aload_n c_59_5 rfl ?_
    refine n_getV (bi := 10) c_59_6 sc_15.n rfl rfl rfl (t_15_10 hS) ?_
    intro z1 ez1 f2
    refine n_if2_ge c_59_9 (by omega) (by omega) ?_ ?_
    · intro h3
      refine n_iload_n c_59_29 rfl ?_
      exact n_rI c_59_30 rfl ⟨rfl, by omega, by exact fun q h1 h2 => v0 q h1 (by omega)⟩
    · intro h4
      refine n_iload_n c_59_12 rfl ?_
      refine n_aload_n c_59_13 rfl ?_
      refine n_getR c_59_14 sc_15.n rfl rfl rfl r_15_2 ?_
      refine n_iload_n c_59_17 rfl ?_
      refine n_ialoadV c_59_18 sc_21.n rfl rfl rfl (by omega) (t_21 hS (by omega)) ?_
      intro z5 ez5 f6
      refine n_s2I c_59_19 rfl rfl rfl rfl (imax_3 (x := x2) (y := z5) hS (by omega) (by omega)) ?_
      intro z7 M8 hP9
      obtain ⟨eM, f9, f9p0⟩ := hP9
      subst eM
      refine n_istore_n (L2 := [some (2, 15), none, some (0, z7), some (0, x3)]) c_59_22 rfl rfl ?_
      refine n_iinc (L2 := [some (2, 15), none, some (0, z7), some (0, (x3 + 1))]) c_59_23 rfl rfl rfl ?_
      refine n_goto c_59_26 ?_
      refine n_fg (le_s (le_n (le_s (le_s le_0)))) ?_
      exact ih _ _ (by omega) (by omega) (by exact fun q h1 h2 => by have y := f9p0; by_cases u : q = x3; (rw [u]; omega); (have y2 := v0 q h1 (by omega); omega)) (by omega)
set_option maxHeartbeats 4000000 in
theorem largestX_1_3 {xs : List Int32} {e : Nat} {ac : Int} {M0 M : nM} {f : Int} (hS : Sf 3 ac M0 M) (hf : 0 ≤ f ∧ f ≤ 256) : nW xs (e + 1) 59 0 [some (2, 15), some (0, f), none, none] [] M (nPI fun z M1 => M = M1 ∧ (-2147483648 ≤ z ∧ z ≤ 2147483647) ∧ (∀ q : Int, f ≤ q → q < M 15 10 → M 21 q ≤ z)) := by
  have hd : (3 : Int) = 2 ∨ (3 : Int) = 3 := by decide
  have hac := hS.2.2.2.2
  refine n_iconst c_59_0 ?_
  refine n_istore_n (L2 := [some (2, 15), some (0, f), some (0, 0), none]) c_59_1 rfl rfl ?_
  refine n_iload_n c_59_2 rfl ?_
  refine n_istore_n (L2 := [some (2, 15), some (0, f), some (0, 0), some (0, f)]) c_59_3 rfl rfl ?_
  refine n_fg (le_s (le_n (le_s (le_s le_0)))) ?_
  exact (largestX_1_3_c hS hf 528) _ _ (by omega) (by omega) (by exact fun q h1 h2 => by omega) (by omega)

set_option maxHeartbeats 4000000 in
theorem bringX_1_3_c {xs : List Int32} {e : Nat} {ac : Int} {M : nM} {e0 : Int} {Ms : nM} {Mt : nM} (hS : Sf 3 ac M M) (he0 : 0 ≤ e0 ∧ e0 ≤ 256) (hK : MK 27 27 26 0 0 1 3 9 0 0 0 0 0 0 M) (hmt : M = Mt) (hIt : MI 3 3 1 ac Ms Mt) (heg : e0 < Mt 15 10) : ∀ nn : Nat, (∀ (x2 x3 : Int) (M : nM), Sf 3 ac M M → (0 ≤ x2 ∧ x2 ≤ 256) → (1 ≤ x3 ∧ x3 ≤ 257) → (MK 27 27 26 0 0 1 3 9 0 0 0 0 0 0 M) → (M = Mt) → (e0 ≤ x2) → (x2 < Mt 15 10) → (e0 ≤ x3) → (∀ i : Int, e0 ≤ i → i < x3 → i ≠ x2 → LT Mt x2 i) → (257 - x3) * 1 + 1 < (nn : Int) → nW xs (e + 2) 57 6 [some (2, 15), some (0, e0), some (0, x2), some (0, x3)] [] M (nPV fun M1 => Sf 3 ac M1 M1 ∧ MK 27 27 26 0 0 1 3 9 0 0 0 0 0 0 M1 ∧ (MI 3 3 1 ac Ms M1) ∧ (∀ c : Int, HAS M1 c ↔ HAS Mt c) ∧ (M1 15 10 = Mt 15 10) ∧ (∀ q : Int, q < e0 → M1 20 q = Mt 20 q) ∧ (FAm Mt M1) ∧ (∃ y : Int, e0 ≤ y ∧ y < Mt 15 10 ∧ SWP e0 y Mt M1) ∧ (∀ j : Int, e0 < j → j < Mt 15 10 → LT M1 e0 j))) := by
  have hd : (3 : Int) = 2 ∨ (3 : Int) = 3 := by decide
  have hac := hS.2.2.2.2
  have hI : MI 3 3 1 ac Ms M := by rw [hmt]; exact hIt
  have hm10 : M 15 10 = Mt 15 10 := by rw [hmt]
  intro nn
  induction nn with
  | zero => intros; omega
  | succ nn ih =>
    intro x2 x3 M hS k2 k3 hK v0 v1 v2 v3 v4 hnn
    have hm0 : M 15 10 = Mt 15 10 := by rw [v0]
    refine n_iload_n c_57_6 rfl ?_
    refine n_aload_n c_57_7 rfl ?_
    refine n_getV (bi := 10) c_57_8 sc_15.n rfl rfl rfl (t_15_10 hS) ?_
    intro z1 ez1 f2
    refine n_if2_ge c_57_11 (by omega) (by omega) ?_ ?_
    · intro h3
      refine n_aload_n c_57_31 rfl ?_
      refine n_iload_n c_57_32 rfl ?_
      refine n_iload_n c_57_33 rfl ?_
      refine n_v2V c_57_34 rfl sc_15.n rfl rfl rfl rfl (changeX_1_3 (i := e0) (j := x2) (Ms := Ms) hS (by omega) (by omega) hK (by rw [v0]; exact hIt) (by omega) (by omega)) ?_
      intro  M4 hP5
      obtain ⟨hS4, f5K, f5p0, f5p1, f5p2, f5p3, f5p4, f5p5⟩ := hP5
      exact n_rV c_57_37 rfl ⟨hS4, f5K, by exact f5p0, by rw [← v0]; exact f5p1, by rw [← v0]; exact f5p2, by rw [← v0]; exact fun q h1 => f5p3 q (by omega) (by omega), by rw [← v0]; exact f5p4, by rw [← v0]; exact ⟨x2, by omega, by omega, f5p5⟩, by have y := f5p5.lt (by omega) (fun i i0 i1 q => by rw [v0]; exact v4 i i0 (by omega) q); rw [v0] at y; exact y⟩
    · intro h6
      refine n_aload_n c_57_14 rfl ?_
      refine n_iload_n c_57_15 rfl ?_
      refine n_iload_n c_57_16 rfl ?_
      refine n_v2I c_57_17 rfl sc_15.n rfl rfl rfl rfl (isAheadX_1_3 (i := x3) (j := x2) hS (by omega) (by omega)) ?_
      intro z7 M8 hP9
      obtain ⟨eM, f9, f9p0⟩ := hP9
      subst eM
      refine n_if0_eq c_57_20 (by omega) ?_ ?_
      · intro h10
        refine n_iinc (L2 := [some (2, 15), some (0, e0), some (0, x2), some (0, (x3 + 1))]) c_57_25 rfl rfl rfl ?_
        refine n_goto c_57_28 ?_
        refine n_fg (le_s (le_s (le_s (le_s le_0)))) ?_
        exact ih _ _ M hS (by omega) (by omega) hK (by exact v0) (by omega) (by omega) (by omega) (by exact fun i i0 i1 q => by by_cases u : i = x3; (rw [u]; refine LT.no (fun y => ?_) (fun y => ?_); (rw [← v0] at y; have y2 := f9p0.mpr y; omega); (have y2 := hIt.dif x3 x2 (by omega) (by omega) (by omega) (by omega) y; omega)); (exact v4 i i0 (by omega) q)) (by omega)
      · intro h11
        refine n_iload_n c_57_23 rfl ?_
        refine n_istore_n (L2 := [some (2, 15), some (0, e0), some (0, x3), some (0, x3)]) c_57_24 rfl rfl ?_
        refine n_iinc (L2 := [some (2, 15), some (0, e0), some (0, x3), some (0, (x3 + 1))]) c_57_25 rfl rfl rfl ?_
        refine n_goto c_57_28 ?_
        refine n_fg (le_s (le_s (le_s (le_s le_0)))) ?_
        exact ih _ _ M hS (by omega) (by omega) hK (by exact v0) (by omega) (by omega) (by omega) (by exact fun i i0 i1 q => by have y := f9p0.mp (by omega); rw [v0] at y; by_cases u : i = x2; (rw [u]; exact y); (exact y.tr (v4 i i0 (by omega) u))) (by omega)
set_option maxHeartbeats 4000000 in
theorem bringX_1_3 {xs : List Int32} {e : Nat} {ac : Int} {M : nM} {e0 : Int} {Ms : nM} {Mt : nM} (hS : Sf 3 ac M M) (he0 : 0 ≤ e0 ∧ e0 ≤ 256) (hK : MK 27 27 26 0 0 1 3 9 0 0 0 0 0 0 M) (hmt : M = Mt) (hIt : MI 3 3 1 ac Ms Mt) (heg : e0 < Mt 15 10) : nW xs (e + 2) 57 0 [some (2, 15), some (0, e0), none, none] [] M (nPV fun M1 => Sf 3 ac M1 M1 ∧ MK 27 27 26 0 0 1 3 9 0 0 0 0 0 0 M1 ∧ (MI 3 3 1 ac Ms M1) ∧ (∀ c : Int, HAS M1 c ↔ HAS Mt c) ∧ (M1 15 10 = Mt 15 10) ∧ (∀ q : Int, q < e0 → M1 20 q = Mt 20 q) ∧ (FAm Mt M1) ∧ (∃ y : Int, e0 ≤ y ∧ y < Mt 15 10 ∧ SWP e0 y Mt M1) ∧ (∀ j : Int, e0 < j → j < Mt 15 10 → LT M1 e0 j)) := by
  have hd : (3 : Int) = 2 ∨ (3 : Int) = 3 := by decide
  have hac := hS.2.2.2.2
  have hI : MI 3 3 1 ac Ms M := by rw [hmt]; exact hIt
  have hm10 : M 15 10 = Mt 15 10 := by rw [hmt]
  refine n_iload_n c_57_0 rfl ?_
  refine n_istore_n (L2 := [some (2, 15), some (0, e0), some (0, e0), none]) c_57_1 rfl rfl ?_
  refine n_iload_n c_57_2 rfl ?_
  refine n_iconst c_57_3 ?_
  refine n_iadd c_57_4 rfl ?_
  refine n_istore_n (L2 := [some (2, 15), some (0, e0), some (0, e0), some (0, (e0 + 1))]) c_57_5 rfl rfl ?_
  refine n_fg (le_s (le_s (le_s (le_s le_0)))) ?_
  exact (bringX_1_3_c hS he0 hK hmt hIt heg 526) _ _ M hS (by omega) (by omega) hK (by exact hmt) (by omega) (by omega) (by omega) (by exact fun i i0 i1 q => by omega) (by omega)

set_option maxHeartbeats 4000000 in
theorem endX_1_3_c {xs : List Int32} {e : Nat} {ac : Int} {M : nM} {Ms : nM} {Mt : nM} (hS : Sf 3 ac M M) (hK : MK 27 27 26 0 0 1 3 9 0 0 0 0 0 0 M) (hmt : M = Mt) (hIt : MI 3 3 1 ac Ms Mt) (hVS : VS 3 3 1 ac Ms Mt) (hCL : CLp 3 3 1 ac Ms Mt) : ∀ nn : Nat, (∀ (x2 : Int) (M : nM), Sf 3 ac M M → (0 ≤ x2 ∧ x2 ≤ 256) → (MK 27 27 26 0 0 1 3 9 0 0 0 0 0 0 M) → (MI 3 3 1 ac Ms M) → (M 15 10 = Mt 15 10) → (M 103 0 = 1) → (KQ 103 (Mt 15 10) M) → (FMQ 103 Mt M) → (VS 3 3 1 ac Ms M) → (CLp 3 3 1 ac Ms M) → (OUd 103 x2 M) → (SRd x2 M) → (256 - x2) * 1 + 260 < (nn : Int) → nW xs (e + 3) 62 45 [some (2, 15), some (2, 103), some (0, x2)] [] M (nPV fun M1 => Sf 3 ac M1 M1 ∧ MK 27 27 26 0 0 1 3 9 0 0 0 0 0 0 M1 ∧ (M1 103 0 = 1) ∧ (KQ 103 (Mt 15 10) M1) ∧ (PZ M1) ∧ (FMQ 103 Mt M1) ∧ (M1 103 1 = 0 → LO 3 3 1 ac Ms 103 (M1 103 2) M1))) ∧ (∀ (x2 : Int) (M : nM), Sf 3 ac M M → (0 ≤ x2 ∧ x2 ≤ 257) → (MK 27 27 26 0 0 1 3 9 0 0 0 0 0 0 M) → (PZx x2 M) → (M 15 10 = Mt 15 10) → (M 103 0 = 1) → (KQ 103 (Mt 15 10) M) → (FMQ 103 Mt M) → (M 103 1 = 0 → LO 3 3 1 ac Ms 103 (M 103 2) M) → (257 - x2) * 1 + 1 < (nn : Int) → nW xs (e + 3) 62 90 [some (2, 15), none, some (0, x2)] [] M (nPV fun M1 => Sf 3 ac M1 M1 ∧ MK 27 27 26 0 0 1 3 9 0 0 0 0 0 0 M1 ∧ (M1 103 0 = 1) ∧ (KQ 103 (Mt 15 10) M1) ∧ (PZ M1) ∧ (FMQ 103 Mt M1) ∧ (M1 103 1 = 0 → LO 3 3 1 ac Ms 103 (M1 103 2) M1))) := by
  have hd : (3 : Int) = 2 ∨ (3 : Int) = 3 := by decide
  have hac := hS.2.2.2.2
  have hI : MI 3 3 1 ac Ms M := by rw [hmt]; exact hIt
  have hm10 : M 15 10 = Mt 15 10 := by rw [hmt]
  intro nn
  induction nn with
  | zero => refine ⟨?_, ?_⟩ <;> (intros; omega)
  | succ nn ih =>
    refine ⟨?_, ?_⟩
    · intro x2 M hS k2 hK v0 v1 v2 v3 v4 v5 v6 v7 v8 hnn
      have hkq := v3; unfold KQ at hkq
      refine n_iload_n c_62_45 rfl ?_
      refine n_aload_n c_62_46 rfl ?_
      refine n_getV (bi := 2) c_62_47 made103.c0.1.n rfl rfl rfl (t_made hS made103).2.2 ?_
      intro z1 ez1 f2
      refine n_if2_ge c_62_50 (by omega) (by omega) ?_ ?_
      · intro h3
        refine n_iconst c_62_88 ?_
        refine n_istore_n (L2 := [some (2, 15), some (2, 103), some (0, 0)]) c_62_89 rfl rfl ?_
        refine n_fg (le_s (le_n (le_s le_0))) ?_
        exact ih.2 _ M hS (by omega) hK (by exact v0.pzx) (by exact v1) (by exact v2) (by exact v3) (by exact v4) (by exact fun q1 => by have kq := hkq; have eN : M 103 2 = M 15 10 := (by omega); exact LO.mk (fun i i0 i1 => v7 i i0 (by omega)) (fun i j i0 i1 ij j1 => v8 i j i0 (by omega) ij j1) v6 v5 v0 eN (by omega)) (by omega)
      · intro h4
        refine n_aload_n c_62_53 rfl ?_
        refine n_iload_n c_62_54 rfl ?_
        refine n_v1V c_62_55 rfl sc_15.n rfl rfl rfl rfl (bringX_1_3 (e0 := x2) (Ms := Ms) (Mt := M) hS (by omega) hK (by rfl) (by exact v0) (by omega)) ?_
        intro  M5 hP6
        obtain ⟨hS5, f6K, f6p0, f6p1, f6p2, f6p3, f6p4, f6p5, f6p6⟩ := hP6
        obtain ⟨yb, yb0, yb1, swb⟩ := f6p5
        refine n_aload_n c_62_58 rfl ?_
        refine n_getR c_62_59 made103.c0.1.n rfl rfl rfl made103.r.1 ?_
        refine n_iload_n c_62_62 rfl ?_
        refine n_aload_n c_62_63 rfl ?_
        refine n_getR c_62_64 sc_15.n rfl rfl rfl r_15_1 ?_
        refine n_iload_n c_62_67 rfl ?_
        refine n_ialoadV c_62_68 sc_20.n rfl rfl rfl (by omega) (f6K.r20 hS5 (by omega) (by omega)) ?_
        intro z7 ez7 f8
        refine n_iastoreM hS5 c_62_69 made103.c0.2.1.n rfl (by omega) (m_mader (o := 1) made103 (by omega) (by omega) (by omega)) ?_
        intro M9 eM9 hS9
        have hK9 := f6K.u (by unfold Kok; omega) eM9
        refine n_aload_n c_62_70 rfl ?_
        refine n_getR c_62_71 made103.c0.1.n rfl rfl rfl made103.r.2 ?_
        refine n_iload_n c_62_74 rfl ?_
        refine n_aload_n c_62_75 rfl ?_
        refine n_getR c_62_76 sc_15.n rfl rfl rfl r_15_2 ?_
        refine n_iload_n c_62_79 rfl ?_
        refine n_ialoadV c_62_80 sc_21.n rfl rfl rfl (by omega) (t_21 hS9 (by omega)) ?_
        intro z10 ez10 f11
        refine n_iastoreM hS9 c_62_81 made103.c0.2.2.n rfl (by omega) (m_mader (o := 2) made103 (by omega) (by omega) (by omega)) ?_
        intro M12 eM12 hS12
        have hK12 := hK9.u (by unfold Kok; omega) eM12
        refine n_iinc (L2 := [some (2, 15), some (2, 103), some (0, (x2 + 1))]) c_62_82 rfl rfl rfl ?_
        refine n_goto c_62_85 ?_
        refine n_fg (le_s (le_s (le_s le_0))) ?_
        exact ih.1 _ M12 hS12 (by omega) hK12 (by exact f6p0.of hS5.p9 (by rw [eM12, nu_a (by omega), eM9, nu_a (by omega)]) (by rw [eM12, nu_a (by omega), eM9, nu_a (by omega)]) (fun a i q => by rw [eM12, nu_a (by omega), eM9, nu_a (by omega)])) (by rw [eM12, nu_a (by omega), eM9, nu_a (by omega)]; omega) (by rw [eM12, nu_a (by omega), eM9, nu_a (by omega)]; rw [f6p4.1 103 0 (by omega) (by omega) (by omega) (by omega)]; exact v2) (by exact v3.of (by rw [eM12, nu_a (by omega), eM9, nu_a (by omega)]; exact f6p4.1 103 1 (by omega) (by omega) (by omega) (by omega)) (by rw [eM12, nu_a (by omega), eM9, nu_a (by omega)]; exact f6p4.1 103 2 (by omega) (by omega) (by omega) (by omega))) (by exact FMQ.u (FMQ.u (v4.fb f6p4.fb) (by omega) eM9) (by omega) eM12) (by exact (swb.vs (f6p2) (by omega) (by omega) v5).e ((E15.mk eM9 (by omega)).tr (E15.mk eM12 (by omega)))) (by exact (v6.br swb (by omega) (by omega) (f6p2)).e ((E15.mk eM9 (by omega)).tr (E15.mk eM12 (by omega)))) (by exact OUd.st (q := 103) v7 (by omega) (by omega) (fun i => ⟨f6p4.1 _ i (by omega) (by omega) (by omega) (by omega), f6p4.1 _ i (by omega) (by omega) (by omega) (by omega)⟩) (fun i i0 i1 => ⟨(swb 20 (Or.inl rfl)).2.2 i (by omega) (by omega), (swb 21 (Or.inr rfl)).2.2 i (by omega) (by omega)⟩) (eM9.trans (by rw [ez7] <;> rfl)) (eM12.trans (by rw [ez10] <;> rfl))) (by exact (v8.br swb (by omega) (by omega) (f6p2) (fun j j0 j1 => f6p6 j j0 j1)).e ((E15.mk eM9 (by omega)).tr (E15.mk eM12 (by omega)))) (by omega)
    · intro x2 M hS k2 hK v0 v1 v2 v3 v4 v5 hnn
      have hkq := v3; unfold KQ at hkq
      refine n_iload_n c_62_90 rfl ?_
      refine n_aload_n c_62_91 rfl ?_
      refine n_getV (bi := 10) c_62_92 sc_15.n rfl rfl rfl (t_15_10 hS) ?_
      intro z1 ez1 f2
      refine n_if2_ge c_62_95 (by omega) (by omega) ?_ ?_
      · intro h3
        exact n_rV c_62_116 rfl ⟨hS, hK, by exact v2, by exact v3, by exact v0.fin (by omega), by exact v4, by exact v5⟩
      · intro h4
        refine n_aload_n c_62_98 rfl ?_
        refine n_getP c_62_99 ?_
        intro p5 ep5
        refine n_aload_n c_62_102 rfl ?_
        refine n_getR c_62_103 sc_15.n rfl rfl rfl r_15_1 ?_
        refine n_iload_n c_62_106 rfl ?_
        refine n_ialoadV c_62_107 sc_20.n rfl rfl rfl (by omega) (hK.r20 hS (by omega) (by omega)) ?_
        intro z6 ez6 f7
        refine n_iconst c_62_108 ?_
        refine n_iastoreQ hS hK c_62_109 ep5 (by omega) (by omega) ?_
        intro M8 eM8 fM8 hS8 hK8
        have g8_0 := fM8 15 10 (by omega) (by omega)
        refine n_iinc (L2 := [some (2, 15), none, some (0, (x2 + 1))]) c_62_110 rfl rfl rfl ?_
        refine n_goto c_62_113 ?_
        refine n_fg (le_s (le_n (le_s le_0))) ?_
        exact ih.2 _ M8 hS8 (by omega) hK8 (by exact v0.st hS.p9 ez6 eM8) (by rw [fM8 _ _ (by omega) (by omega)]; exact v1) (by rw [fM8 _ _ (by omega) (by omega)]; exact v2) (by exact v3.of (fM8 _ _ (by omega) (by omega)) (fM8 _ _ (by omega) (by omega))) (by exact fun a i p1 p2 p3 p4 p5 p6 => (fM8 a i (by omega) p2).trans (v4 a i p1 p2 p3 p4 p5 p6)) (by exact fun q1 => by rw [fM8 _ _ (by omega) (by omega)] at q1; rw [fM8 103 2 (by omega) (by omega)]; exact (v5 q1).e (fun i => ⟨fM8 _ i (by omega) (by omega), fM8 _ i (by omega) (by omega)⟩)) (by omega)
set_option maxHeartbeats 4000000 in
theorem endX_1_3 {xs : List Int32} {e : Nat} {ac : Int} {M : nM} {Ms : nM} {Mt : nM} (hS : Sf 3 ac M M) (hK : MK 27 27 26 0 0 1 3 9 0 0 0 0 0 0 M) (hmt : M = Mt) (hIt : MI 3 3 1 ac Ms Mt) (hVS : VS 3 3 1 ac Ms Mt) (hCL : CLp 3 3 1 ac Ms Mt) : nW xs (e + 3) 62 0 [some (2, 15), some (2, 103), none] [] M (nPV fun M1 => Sf 3 ac M1 M1 ∧ MK 27 27 26 0 0 1 3 9 0 0 0 0 0 0 M1 ∧ (M1 103 0 = 1) ∧ (KQ 103 (Mt 15 10) M1) ∧ (PZ M1) ∧ (FMQ 103 Mt M1) ∧ (M1 103 1 = 0 → LO 3 3 1 ac Ms 103 (M1 103 2) M1)) := by
  have hd : (3 : Int) = 2 ∨ (3 : Int) = 3 := by decide
  have hac := hS.2.2.2.2
  have hI : MI 3 3 1 ac Ms M := by rw [hmt]; exact hIt
  have hm10 : M 15 10 = Mt 15 10 := by rw [hmt]
  refine n_aload_n c_62_0 rfl ?_
  refine n_iconst c_62_1 ?_
  refine n_putZM (bi := 0) hS c_62_2 made103.c0.1.n rfl rfl rfl (by omega) rfl (m_made made103 (by omega) (by omega)) ?_
  intro M1 eM1 hS1
  have hK1 := hK.u (by unfold Kok; omega) eM1
  have g1_0 : M1 15 10 = M 15 10 := by rw [eM1]; exact nu_a (by omega)
  have g1_1 : M1 103 0 = 1 := by rw [eM1]; exact nu_s _ _ _ _
  refine n_aload_n c_62_5 rfl ?_
  refine n_aload_n c_62_6 rfl ?_
  refine n_getV (bi := 10) c_62_7 sc_15.n rfl rfl rfl (t_15_10 hS1) ?_
  intro z2 ez2 f3
  refine n_sipush c_62_10 rfl ?_
  refine n_if2_le c_62_13 (by omega) (by omega) ?_ ?_
  · intro h4
    refine n_iconst c_62_20 ?_
    refine n_putZM (bi := 1) hS1 c_62_21 made103.c0.1.n rfl rfl rfl (by omega) rfl (m_made made103 (by omega) (by omega)) ?_
    intro M5 eM5 hS5
    have hK5 := hK1.u (by unfold Kok; omega) eM5
    have g5_0 : M5 15 10 = M1 15 10 := by rw [eM5]; exact nu_a (by omega)
    have g5_1 : M5 103 0 = M1 103 0 := by rw [eM5]; exact nu_i (by omega)
    have g5_2 : M5 103 1 = 0 := by rw [eM5]; exact nu_s _ _ _ _
    refine n_aload_n c_62_24 rfl ?_
    refine n_aload_n c_62_25 rfl ?_
    refine n_getV (bi := 1) c_62_26 made103.c0.1.n rfl rfl rfl (t_made hS5 made103).2.1 ?_
    intro z6 ez6 f7
    obtain rfl : z6 = 0 := by omega
    refine n_if0_eq c_62_29 (by omega) ?_ ?_
    · intro h8
      refine n_aload_n c_62_36 rfl ?_
      refine n_getV (bi := 10) c_62_37 sc_15.n rfl rfl rfl (t_15_10 hS5) ?_
      intro z9 ez9 f10
      refine n_putM (bi := 2) hS5 c_62_40 made103.c0.1.n rfl rfl rfl rfl (m_made made103 (by omega) (by omega)) ?_
      intro M11 eM11 hS11
      have hK11 := hK5.u (by unfold Kok; omega) eM11
      have g11_0 : M11 15 10 = M5 15 10 := by rw [eM11]; exact nu_a (by omega)
      have g11_1 : M11 103 0 = M5 103 0 := by rw [eM11]; exact nu_i (by omega)
      have g11_2 : M11 103 1 = M5 103 1 := by rw [eM11]; exact nu_i (by omega)
      have g11_3 : M11 103 2 = z9 := by rw [eM11]; exact nu_s _ _ _ _
      refine n_iconst c_62_43 ?_
      refine n_istore_n (L2 := [some (2, 15), some (2, 103), some (0, 0)]) c_62_44 rfl rfl ?_
      refine n_fg (le_s (le_s (le_s le_0))) ?_
      exact (endX_1_3_c hS hK hmt hIt hVS hCL 1044).1 _ M11 hS11 (by omega) hK11 (by exact hI.of hS.p9 (by rw [eM11, nu_a (by omega), eM5, nu_a (by omega), eM1, nu_a (by omega)]) (by rw [eM11, nu_a (by omega), eM5, nu_a (by omega), eM1, nu_a (by omega)]) (fun a i h => by rw [eM11, nu_a (by omega), eM5, nu_a (by omega), eM1, nu_a (by omega)])) (by rw [eM11, nu_a (by omega), eM5, nu_a (by omega), eM1, nu_a (by omega)]; exact hm10) (by rw [eM11, nu_i (by omega), eM5, nu_i (by omega), eM1, nu_s]) (by have y1 : M11 103 1 = 0 := (by rw [eM11, nu_i (by omega), eM5, nu_s]); have y2 : M11 103 2 = z9 := (by rw [eM11, nu_s]); unfold KQ; rw [y1, y2]; omega) (by rw [← hmt]; exact FMQ.u (FMQ.u (FMQ.u (fun _ _ _ _ _ _ _ _ => rfl) (by omega) eM1) (by omega) eM5) (by omega) eM11) (by exact VS.e (show VS 3 3 1 ac Ms M by rw [hmt]; exact hVS) (((E15.mk eM1 (by omega)).tr (E15.mk eM5 (by omega))).tr (E15.mk eM11 (by omega)))) (by exact CLp.e (show CLp 3 3 1 ac Ms M by rw [hmt]; exact hCL) (((E15.mk eM1 (by omega)).tr (E15.mk eM5 (by omega))).tr (E15.mk eM11 (by omega)))) (by exact fun i i0 i1 => by omega) (by exact fun i j i0 i1 => by omega) (by omega)
    · intro h12
      exfalso; omega
  · intro h13
    refine n_iconst c_62_16 ?_
    refine n_goto c_62_17 ?_
    refine n_putZM (bi := 1) hS1 c_62_21 made103.c0.1.n rfl rfl rfl (by omega) rfl (m_made made103 (by omega) (by omega)) ?_
    intro M14 eM14 hS14
    have hK14 := hK1.u (by unfold Kok; omega) eM14
    have g14_0 : M14 15 10 = M1 15 10 := by rw [eM14]; exact nu_a (by omega)
    have g14_1 : M14 103 0 = M1 103 0 := by rw [eM14]; exact nu_i (by omega)
    have g14_2 : M14 103 1 = 1 := by rw [eM14]; exact nu_s _ _ _ _
    refine n_aload_n c_62_24 rfl ?_
    refine n_aload_n c_62_25 rfl ?_
    refine n_getV (bi := 1) c_62_26 made103.c0.1.n rfl rfl rfl (t_made hS14 made103).2.1 ?_
    intro z15 ez15 f16
    obtain rfl : z15 = 1 := by omega
    refine n_if0_eq c_62_29 (by omega) ?_ ?_
    · intro h17
      exfalso; omega
    · intro h18
      refine n_iconst c_62_32 ?_
      refine n_goto c_62_33 ?_
      refine n_putM (bi := 2) hS14 c_62_40 made103.c0.1.n rfl rfl rfl rfl (m_made made103 (by omega) (by omega)) ?_
      intro M19 eM19 hS19
      have hK19 := hK14.u (by unfold Kok; omega) eM19
      have g19_0 : M19 15 10 = M14 15 10 := by rw [eM19]; exact nu_a (by omega)
      have g19_1 : M19 103 0 = M14 103 0 := by rw [eM19]; exact nu_i (by omega)
      have g19_2 : M19 103 1 = M14 103 1 := by rw [eM19]; exact nu_i (by omega)
      have g19_3 : M19 103 2 = 0 := by rw [eM19]; exact nu_s _ _ _ _
      refine n_iconst c_62_43 ?_
      refine n_istore_n (L2 := [some (2, 15), some (2, 103), some (0, 0)]) c_62_44 rfl rfl ?_
      refine n_fg (le_s (le_s (le_s le_0))) ?_
      exact (endX_1_3_c hS hK hmt hIt hVS hCL 1044).1 _ M19 hS19 (by omega) hK19 (by exact hI.of hS.p9 (by rw [eM19, nu_a (by omega), eM14, nu_a (by omega), eM1, nu_a (by omega)]) (by rw [eM19, nu_a (by omega), eM14, nu_a (by omega), eM1, nu_a (by omega)]) (fun a i h => by rw [eM19, nu_a (by omega), eM14, nu_a (by omega), eM1, nu_a (by omega)])) (by rw [eM19, nu_a (by omega), eM14, nu_a (by omega), eM1, nu_a (by omega)]; exact hm10) (by rw [eM19, nu_i (by omega), eM14, nu_i (by omega), eM1, nu_s]) (by have y1 : M19 103 1 = 1 := (by rw [eM19, nu_i (by omega), eM14, nu_s]); have y2 : M19 103 2 = 0 := (by rw [eM19, nu_s]); unfold KQ; rw [y1, y2]; omega) (by rw [← hmt]; exact FMQ.u (FMQ.u (FMQ.u (fun _ _ _ _ _ _ _ _ => rfl) (by omega) eM1) (by omega) eM14) (by omega) eM19) (by exact VS.e (show VS 3 3 1 ac Ms M by rw [hmt]; exact hVS) (((E15.mk eM1 (by omega)).tr (E15.mk eM14 (by omega))).tr (E15.mk eM19 (by omega)))) (by exact CLp.e (show CLp 3 3 1 ac Ms M by rw [hmt]; exact hCL) (((E15.mk eM1 (by omega)).tr (E15.mk eM14 (by omega))).tr (E15.mk eM19 (by omega)))) (by exact fun i i0 i1 => by omega) (by exact fun i j i0 i1 => by omega) (by omega)

set_option maxHeartbeats 4000000 in
theorem codeOfX7_1_3 {xs : List Int32} {e : Nat} {ac : Int} {M0 M : nM} (hS : Sf 3 ac M0 M) (hB : M 15 0 = 4) : nW xs e 53 0 [some (2, 15), some (2, 7), some (0, 3), none, none] [] M (nPI fun z M1 => M = M1 ∧ (21 ≤ z ∧ z ≤ 21)) := by
  have hd : (3 : Int) = 2 ∨ (3 : Int) = 3 := by decide
  have hac := hS.2.2.2.2
  refine n_iconst c_53_0 ?_
  refine n_istore_n (L2 := [some (2, 15), some (2, 7), some (0, 3), some (0, 0), none]) c_53_1 rfl rfl ?_
  refine n_iload_n c_53_2 rfl ?_
  refine n_iconst c_53_3 ?_
  refine n_isub c_53_4 rfl ?_
  refine n_istore (L2 := [some (2, 15), some (2, 7), some (0, 3), some (0, 0), some (0, (3 - 1))]) c_53_5 rfl rfl ?_
  refine n_iload c_53_7 rfl ?_
  refine n_if0_lt c_53_9 (by omega) ?_ ?_
  · intro h1
    exfalso; omega
  · intro h2
    refine n_iload_n c_53_12 rfl ?_
    refine n_aload_n c_53_13 rfl ?_
    refine n_getB c_53_14 hB ?_
    refine n_getV (bi := 0) c_53_17 sc_4.n rfl rfl rfl (t_4_0 hS) ?_
    intro z3 ez3 f4
    obtain rfl : z3 = 3 := by omega
    refine n_imul c_53_20 rfl ?_
    refine n_aload_n c_53_21 rfl ?_
    refine n_iload c_53_22 rfl ?_
    refine n_ialoadV c_53_24 sc_7.n rfl rfl rfl (by omega) (t_7k (z := 2) hS (by omega) (by omega) (by omega)) ?_
    intro z5 ez5 f6
    refine n_iadd c_53_25 rfl ?_
    refine n_istore_n (L2 := [some (2, 15), some (2, 7), some (0, 3), some (0, ((0 * 3) + z5)), some (0, (3 - 1))]) c_53_26 rfl rfl ?_
    refine n_iinc (L2 := [some (2, 15), some (2, 7), some (0, 3), some (0, ((0 * 3) + z5)), some (0, ((3 - 1) + (-1)))]) c_53_27 rfl rfl rfl ?_
    refine n_goto c_53_30 ?_
    refine n_iload c_53_7 rfl ?_
    refine n_if0_lt c_53_9 (by omega) ?_ ?_
    · intro h7
      exfalso; omega
    · intro h8
      refine n_iload_n c_53_12 rfl ?_
      refine n_aload_n c_53_13 rfl ?_
      refine n_getB c_53_14 hB ?_
      refine n_getV (bi := 0) c_53_17 sc_4.n rfl rfl rfl (t_4_0 hS) ?_
      intro z9 ez9 f10
      obtain rfl : z9 = 3 := by omega
      refine n_imul c_53_20 rfl ?_
      refine n_aload_n c_53_21 rfl ?_
      refine n_iload c_53_22 rfl ?_
      refine n_ialoadV c_53_24 sc_7.n rfl rfl rfl (by omega) (t_7k (z := 1) hS (by omega) (by omega) (by omega)) ?_
      intro z11 ez11 f12
      refine n_iadd c_53_25 rfl ?_
      refine n_istore_n (L2 := [some (2, 15), some (2, 7), some (0, 3), some (0, ((((0 * 3) + z5) * 3) + z11)), some (0, ((3 - 1) + (-1)))]) c_53_26 rfl rfl ?_
      refine n_iinc (L2 := [some (2, 15), some (2, 7), some (0, 3), some (0, ((((0 * 3) + z5) * 3) + z11)), some (0, (((3 - 1) + (-1)) + (-1)))]) c_53_27 rfl rfl rfl ?_
      refine n_goto c_53_30 ?_
      refine n_iload c_53_7 rfl ?_
      refine n_if0_lt c_53_9 (by omega) ?_ ?_
      · intro h13
        exfalso; omega
      · intro h14
        refine n_iload_n c_53_12 rfl ?_
        refine n_aload_n c_53_13 rfl ?_
        refine n_getB c_53_14 hB ?_
        refine n_getV (bi := 0) c_53_17 sc_4.n rfl rfl rfl (t_4_0 hS) ?_
        intro z15 ez15 f16
        obtain rfl : z15 = 3 := by omega
        refine n_imul c_53_20 rfl ?_
        refine n_aload_n c_53_21 rfl ?_
        refine n_iload c_53_22 rfl ?_
        refine n_ialoadV c_53_24 sc_7.n rfl rfl rfl (by omega) (t_7k (z := 0) hS (by omega) (by omega) (by omega)) ?_
        intro z17 ez17 f18
        refine n_iadd c_53_25 rfl ?_
        refine n_istore_n (L2 := [some (2, 15), some (2, 7), some (0, 3), some (0, ((((((0 * 3) + z5) * 3) + z11) * 3) + z17)), some (0, (((3 - 1) + (-1)) + (-1)))]) c_53_26 rfl rfl ?_
        refine n_iinc (L2 := [some (2, 15), some (2, 7), some (0, 3), some (0, ((((((0 * 3) + z5) * 3) + z11) * 3) + z17)), some (0, ((((3 - 1) + (-1)) + (-1)) + (-1)))]) c_53_27 rfl rfl rfl ?_
        refine n_goto c_53_30 ?_
        refine n_iload c_53_7 rfl ?_
        refine n_if0_lt c_53_9 (by omega) ?_ ?_
        · intro h19
          refine n_iload_n c_53_33 rfl ?_
          exact n_rI c_53_34 rfl ⟨rfl, by omega⟩
        · intro h20
          exfalso; omega
