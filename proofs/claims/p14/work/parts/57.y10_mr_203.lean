/-! What the methods tell. -/
set_option maxHeartbeats 4000000 in
theorem mmakesX_3_2_c {xs : List Int32} {e : Nat} {ac : Int} {M : nM} {Ms : nM} (hS : Sf 2 ac M M) (hdm : M 112 0 = 2) (hms : M = Ms) (hac4 : Ms 112 4 = ac) (hwr : ∀ a : Int, 0 ≤ a → a < ac → WR 2 a Ms) (hkr : Ms 124 3 ≠ -1 → cMd (NCl 2 8 3 ac (Tm Ms)) (Ms 124 3)) (hpm : ∀ a : Int, 0 ≤ a → a < ac → Pm Ms a = Ms 116 a) (hkl : Ms 124 3 ≠ -1 → Ms 124 3 ≠ -8 → LOr 2 8 3 ac Ms (Ms 124 3) Ms) : ∀ nn : Nat, (∀ (x2 x3 x4 : Int) (M : nM), Sf 2 ac M M → (8 ≤ x2 ∧ x2 ≤ 8) → (256 ≤ x3 ∧ x3 ≤ 256) → (0 ≤ x4 ∧ x4 ≤ 256) → (M 112 0 = 2) → (F5 3 Ms M) → (∀ c : Int, 0 ≤ c → c < x4 → M 125 c = 0) → (F6 3 Ms M) → (256 - x4) * 1 + 135967 < (nn : Int) → nW xs (e + 2) 167 29 [some (2, 112), some (0, 3), some (0, x2), some (0, x3), some (0, x4), none, none, none] [] M (nPV fun M1 => Sf 2 ac M1 M1 ∧ (cMd (NCl 2 8 3 ac (Tm Ms)) (M1 124 3)) ∧ (F5 3 Ms M1) ∧ (M1 124 3 ≠ -8 → LOr 2 8 3 ac Ms (M1 124 3) M1) ∧ (F6 3 Ms M1))) ∧ (∀ (x2 x3 x4 : Int) (M : nM), Sf 2 ac M M → (8 ≤ x2 ∧ x2 ≤ 8) → (256 ≤ x3 ∧ x3 ≤ 256) → (0 ≤ x4 ∧ x4 ≤ 256) → (M 112 0 = 2) → (F5 3 Ms M) → (RSw 2 8 256 3 ac M M) → (RDn 2 8 256 3 ac x4 M M) → (PDr 2 8 3 ac x4 M M ∨ 256 ≤ x4) → (ZR 2 8 256 3 ac x4 M) → (F6 3 Ms M) → (256 - x4) * 527 + 527 < (nn : Int) → nW xs (e + 2) 167 113 [some (2, 112), some (0, 3), some (0, x2), some (0, x3), some (0, x4), none, none, none] [] M (nPV fun M1 => Sf 2 ac M1 M1 ∧ (cMd (NCl 2 8 3 ac (Tm Ms)) (M1 124 3)) ∧ (F5 3 Ms M1) ∧ (M1 124 3 ≠ -8 → LOr 2 8 3 ac Ms (M1 124 3) M1) ∧ (F6 3 Ms M1))) ∧ (∀ (x2 x3 x4 x5 x6 : Int) (M : nM), Sf 2 ac M M → (8 ≤ x2 ∧ x2 ≤ 8) → (256 ≤ x3 ∧ x3 ≤ 256) → (0 ≤ x4 ∧ x4 ≤ 256) → (-1 ≤ x5 ∧ x5 ≤ 255) → (0 ≤ x6 ∧ x6 ≤ 256) → (M 112 0 = 2) → (F5 3 Ms M) → (RSw 2 8 256 3 ac M M) → (RDn 2 8 256 3 ac x4 M M) → (PDr 2 8 3 ac x4 M M ∨ 256 ≤ x4) → (x5 = -1 → ∀ c : Int, 0 ≤ c → c < x6 → M 125 c ≤ 0) → (x5 = -1 ∨ (0 ≤ x5 ∧ 1 ≤ M 125 x5)) → (ZR 2 8 256 3 ac x4 M) → (x5 ≠ -1 → (∀ c : Int, 0 ≤ c → c < x6 → 0 < M 125 c → M 125 x5 ≤ M 125 c)) → (F6 3 Ms M) → (256 - x4) * 527 + (256 - x6) * 1 + 269 < (nn : Int) → nW xs (e + 2) 167 119 [some (2, 112), some (0, 3), some (0, x2), some (0, x3), some (0, x4), some (0, x5), some (0, x6), none] [] M (nPV fun M1 => Sf 2 ac M1 M1 ∧ (cMd (NCl 2 8 3 ac (Tm Ms)) (M1 124 3)) ∧ (F5 3 Ms M1) ∧ (M1 124 3 ≠ -8 → LOr 2 8 3 ac Ms (M1 124 3) M1) ∧ (F6 3 Ms M1))) ∧ (∀ (x2 x3 x4 x6 x7 : Int) (M : nM), Sf 2 ac M M → (8 ≤ x2 ∧ x2 ≤ 8) → (256 ≤ x3 ∧ x3 ≤ 256) → (0 ≤ x4 ∧ x4 ≤ 255) → (0 ≤ x6 ∧ x6 ≤ 255) → (0 ≤ x7 ∧ x7 ≤ 8) → (M 112 0 = 2) → (∃ (Mm : nM) (bq : Int), F5 3 Ms Mm ∧ RSw 2 8 256 3 ac Mm Mm ∧ RDn 2 8 256 3 ac x4 Mm Mm ∧ (PDr 2 8 3 ac x4 Mm Mm ∨ 256 ≤ x4) ∧ NEW 2 8 3 x4 bq x7 Mm M ∧ (1 ≤ Mm 125 bq ∧ 0 ≤ bq ∧ bq < 256) ∧ x6 = bq / dpn 2 x7.toNat ∧ ZR 2 8 256 3 ac x4 Mm ∧ NEWz 3 x4 bq Mm M ∧ (∀ c : Int, 0 ≤ c → c < 256 → 0 < Mm 125 c → Mm 125 bq ≤ Mm 125 c) ∧ F6 3 Ms Mm) → (256 - x4) * 527 + (8 - x7) * 1 + 259 < (nn : Int) → nW xs (e + 2) 167 251 [some (2, 112), some (0, 3), some (0, x2), some (0, x3), some (0, x4), none, some (0, x6), some (0, x7)] [] M (nPV fun M1 => Sf 2 ac M1 M1 ∧ (cMd (NCl 2 8 3 ac (Tm Ms)) (M1 124 3)) ∧ (F5 3 Ms M1) ∧ (M1 124 3 ≠ -8 → LOr 2 8 3 ac Ms (M1 124 3) M1) ∧ (F6 3 Ms M1))) ∧ (∀ (x2 x3 x4 x7 : Int) (M : nM), Sf 2 ac M M → (8 ≤ x2 ∧ x2 ≤ 8) → (256 ≤ x3 ∧ x3 ≤ 256) → (1 ≤ x4 ∧ x4 ≤ 256) → (0 ≤ x7 ∧ x7 ≤ 256) → (M 112 0 = 2) → (F5 3 Ms M) → (RSw 2 8 256 3 ac M M) → (RE 2 8 256 3 ac x4 x7 M M) → (PDr 2 8 3 ac x4 M M ∨ 256 ≤ x4) → (∃ M1 M2 : nM, ZJ 2 8 256 3 ac (x4 - 1) M1 M2 ∧ (∀ a i : Int, a ≠ 125 → M2 a i = M1 a i) ∧ MRK 3 x7 M2 M ∧ (∀ i : Int, 0 ≤ i → i < x4 - 1 → M2 125 (cdr 3 M1 i) = -1) ∧ ∀ i : Int, 0 ≤ i → i < x4 → 0 ≤ cdr 3 M1 i ∧ cdr 3 M1 i < 256) → (x7 ≤ x4) → (F6 3 Ms M) → (256 - (x4 - 1)) * 527 + (256 - x7) * 1 + 1 < (nn : Int) → nW xs (e + 2) 167 314 [some (2, 112), some (0, 3), some (0, x2), some (0, x3), some (0, x4), none, none, some (0, x7)] [] M (nPV fun M1 => Sf 2 ac M1 M1 ∧ (cMd (NCl 2 8 3 ac (Tm Ms)) (M1 124 3)) ∧ (F5 3 Ms M1) ∧ (M1 124 3 ≠ -8 → LOr 2 8 3 ac Ms (M1 124 3) M1) ∧ (F6 3 Ms M1))) := by
  have hd : (2 : Int) = 2 ∨ (2 : Int) = 3 := by decide
  have hac := hS.2.2.2.2
  have hT := Tm_r hS
  rw [hms] at hT
  intro nn
  induction nn with
  | zero => refine ⟨?_, ?_, ?_, ?_, ?_⟩ <;> (intros; omega)
  | succ nn ih =>
    refine ⟨?_, ?_, ?_, ?_, ?_⟩
    · intro x2 x3 x4 M hS k2 k3 k4 hdm v0 v1 v2 hnn
      refine n_iload c_167_29 rfl ?_
      refine n_iload_n c_167_31 rfl ?_
      refine n_if2_ge c_167_32 (by omega) (by omega) ?_ ?_
      · intro h1
        refine n_iconst c_167_49 ?_
        refine n_istore (L2 := [some (2, 112), some (0, 3), some (0, x2), some (0, x3), some (0, 0), none, none, none]) c_167_50 rfl rfl ?_
        refine n_iload c_167_52 rfl ?_
        refine n_iload_n c_167_54 rfl ?_
        refine n_if2_ge c_167_55 (by omega) (by omega) ?_ ?_
        · intro h2
          exfalso; omega
        · intro h3
          refine n_iconst c_167_58 ?_
          refine n_istore (L2 := [some (2, 112), some (0, 3), some (0, x2), some (0, x3), some (0, 0), some (0, 0), none, none]) c_167_59 rfl rfl ?_
          refine n_iload_n c_167_61 rfl ?_
          refine n_iconst c_167_62 ?_
          refine n_isub c_167_63 rfl ?_
          refine n_istore (L2 := [some (2, 112), some (0, 3), some (0, x2), some (0, x3), some (0, 0), some (0, 0), some (0, (x2 - 1)), none]) c_167_64 rfl rfl ?_
          refine n_iload c_167_66 rfl ?_
          refine n_if0_lt c_167_68 (by omega) ?_ ?_
          · intro h4
            exfalso; omega
          · intro h5
            refine n_iload c_167_71 rfl ?_
            refine n_aload_n c_167_73 rfl ?_
            refine n_getV (bi := 0) c_167_74 sc_112.n rfl rfl rfl (show 2 ≤ M 112 0 ∧ M 112 0 ≤ 2 by omega) ?_
            intro z6 ez6 f7
            obtain rfl : z6 = 2 := by omega
            refine n_imul c_167_77 rfl ?_
            refine n_aload_n c_167_78 rfl ?_
            refine n_iload c_167_79 rfl ?_
            refine n_iload_n c_167_81 rfl ?_
            refine n_iload c_167_82 rfl ?_
            have hcst : ((x2 - 1) : Int) = 7 := by omega
            rw [hcst]
            refine n_v3I c_167_84 rfl sc_112.n rfl rfl rfl rfl (mdigK_3_7_0_2  hS (by omega)) ?_
            intro z8 M9 hP10
            obtain ⟨eM, f10⟩ := hP10
            subst eM
            obtain rfl : z8 = 1 := by omega
            refine n_iadd c_167_87 rfl ?_
            refine n_istore (L2 := [some (2, 112), some (0, 3), some (0, x2), some (0, x3), some (0, 0), some (0, ((0 * 2) + 1)), some (0, 7), none]) c_167_88 rfl rfl ?_
            refine n_iinc (L2 := [some (2, 112), some (0, 3), some (0, x2), some (0, x3), some (0, 0), some (0, ((0 * 2) + 1)), some (0, (7 + (-1))), none]) c_167_90 rfl rfl rfl ?_
            refine n_goto c_167_93 ?_
            refine n_iload c_167_66 rfl ?_
            refine n_if0_lt c_167_68 (by omega) ?_ ?_
            · intro h11
              exfalso; omega
            · intro h12
              refine n_iload c_167_71 rfl ?_
              refine n_aload_n c_167_73 rfl ?_
              refine n_getV (bi := 0) c_167_74 sc_112.n rfl rfl rfl (show 2 ≤ M 112 0 ∧ M 112 0 ≤ 2 by omega) ?_
              intro z13 ez13 f14
              obtain rfl : z13 = 2 := by omega
              refine n_imul c_167_77 rfl ?_
              refine n_aload_n c_167_78 rfl ?_
              refine n_iload c_167_79 rfl ?_
              refine n_iload_n c_167_81 rfl ?_
              refine n_iload c_167_82 rfl ?_
              have hcst : ((7 + (-1)) : Int) = 6 := by omega
              rw [hcst]
              refine n_v3I c_167_84 rfl sc_112.n rfl rfl rfl rfl (mdigK_3_6_0_2  hS (by omega)) ?_
              intro z15 M16 hP17
              obtain ⟨eM, f17⟩ := hP17
              subst eM
              obtain rfl : z15 = 1 := by omega
              refine n_iadd c_167_87 rfl ?_
              refine n_istore (L2 := [some (2, 112), some (0, 3), some (0, x2), some (0, x3), some (0, 0), some (0, ((((0 * 2) + 1) * 2) + 1)), some (0, 6), none]) c_167_88 rfl rfl ?_
              refine n_iinc (L2 := [some (2, 112), some (0, 3), some (0, x2), some (0, x3), some (0, 0), some (0, ((((0 * 2) + 1) * 2) + 1)), some (0, (6 + (-1))), none]) c_167_90 rfl rfl rfl ?_
              refine n_goto c_167_93 ?_
              refine n_iload c_167_66 rfl ?_
              refine n_if0_lt c_167_68 (by omega) ?_ ?_
              · intro h18
                exfalso; omega
              · intro h19
                refine n_iload c_167_71 rfl ?_
                refine n_aload_n c_167_73 rfl ?_
                refine n_getV (bi := 0) c_167_74 sc_112.n rfl rfl rfl (show 2 ≤ M 112 0 ∧ M 112 0 ≤ 2 by omega) ?_
                intro z20 ez20 f21
                obtain rfl : z20 = 2 := by omega
                refine n_imul c_167_77 rfl ?_
                refine n_aload_n c_167_78 rfl ?_
                refine n_iload c_167_79 rfl ?_
                refine n_iload_n c_167_81 rfl ?_
                refine n_iload c_167_82 rfl ?_
                have hcst : ((6 + (-1)) : Int) = 5 := by omega
                rw [hcst]
                refine n_v3I c_167_84 rfl sc_112.n rfl rfl rfl rfl (mdigK_3_5_0_2  hS (by omega)) ?_
                intro z22 M23 hP24
                obtain ⟨eM, f24⟩ := hP24
                subst eM
                obtain rfl : z22 = 1 := by omega
                refine n_iadd c_167_87 rfl ?_
                refine n_istore (L2 := [some (2, 112), some (0, 3), some (0, x2), some (0, x3), some (0, 0), some (0, ((((((0 * 2) + 1) * 2) + 1) * 2) + 1)), some (0, 5), none]) c_167_88 rfl rfl ?_
                refine n_iinc (L2 := [some (2, 112), some (0, 3), some (0, x2), some (0, x3), some (0, 0), some (0, ((((((0 * 2) + 1) * 2) + 1) * 2) + 1)), some (0, (5 + (-1))), none]) c_167_90 rfl rfl rfl ?_
                refine n_goto c_167_93 ?_
                refine n_iload c_167_66 rfl ?_
                refine n_if0_lt c_167_68 (by omega) ?_ ?_
                · intro h25
                  exfalso; omega
                · intro h26
                  refine n_iload c_167_71 rfl ?_
                  refine n_aload_n c_167_73 rfl ?_
                  refine n_getV (bi := 0) c_167_74 sc_112.n rfl rfl rfl (show 2 ≤ M 112 0 ∧ M 112 0 ≤ 2 by omega) ?_
                  intro z27 ez27 f28
                  obtain rfl : z27 = 2 := by omega
                  refine n_imul c_167_77 rfl ?_
                  refine n_aload_n c_167_78 rfl ?_
                  refine n_iload c_167_79 rfl ?_
                  refine n_iload_n c_167_81 rfl ?_
                  refine n_iload c_167_82 rfl ?_
                  have hcst : ((5 + (-1)) : Int) = 4 := by omega
                  rw [hcst]
                  refine n_v3I c_167_84 rfl sc_112.n rfl rfl rfl rfl (mdigK_3_4_0_2  hS (by omega)) ?_
                  intro z29 M30 hP31
                  obtain ⟨eM, f31⟩ := hP31
                  subst eM
                  obtain rfl : z29 = 1 := by omega
                  refine n_iadd c_167_87 rfl ?_
                  refine n_istore (L2 := [some (2, 112), some (0, 3), some (0, x2), some (0, x3), some (0, 0), some (0, ((((((((0 * 2) + 1) * 2) + 1) * 2) + 1) * 2) + 1)), some (0, 4), none]) c_167_88 rfl rfl ?_
                  refine n_iinc (L2 := [some (2, 112), some (0, 3), some (0, x2), some (0, x3), some (0, 0), some (0, ((((((((0 * 2) + 1) * 2) + 1) * 2) + 1) * 2) + 1)), some (0, (4 + (-1))), none]) c_167_90 rfl rfl rfl ?_
                  refine n_goto c_167_93 ?_
                  refine n_iload c_167_66 rfl ?_
                  refine n_if0_lt c_167_68 (by omega) ?_ ?_
                  · intro h32
                    exfalso; omega
                  · intro h33
                    refine n_iload c_167_71 rfl ?_
                    refine n_aload_n c_167_73 rfl ?_
                    refine n_getV (bi := 0) c_167_74 sc_112.n rfl rfl rfl (show 2 ≤ M 112 0 ∧ M 112 0 ≤ 2 by omega) ?_
                    intro z34 ez34 f35
                    obtain rfl : z34 = 2 := by omega
                    refine n_imul c_167_77 rfl ?_
                    refine n_aload_n c_167_78 rfl ?_
                    refine n_iload c_167_79 rfl ?_
                    refine n_iload_n c_167_81 rfl ?_
                    refine n_iload c_167_82 rfl ?_
                    have hcst : ((4 + (-1)) : Int) = 3 := by omega
                    rw [hcst]
                    refine n_v3I c_167_84 rfl sc_112.n rfl rfl rfl rfl (mdigK_3_3_0_2  hS (by omega)) ?_
                    intro z36 M37 hP38
                    obtain ⟨eM, f38⟩ := hP38
                    subst eM
                    obtain rfl : z36 = 0 := by omega
                    refine n_iadd c_167_87 rfl ?_
                    refine n_istore (L2 := [some (2, 112), some (0, 3), some (0, x2), some (0, x3), some (0, 0), some (0, ((((((((((0 * 2) + 1) * 2) + 1) * 2) + 1) * 2) + 1) * 2) + 0)), some (0, 3), none]) c_167_88 rfl rfl ?_
                    refine n_iinc (L2 := [some (2, 112), some (0, 3), some (0, x2), some (0, x3), some (0, 0), some (0, ((((((((((0 * 2) + 1) * 2) + 1) * 2) + 1) * 2) + 1) * 2) + 0)), some (0, (3 + (-1))), none]) c_167_90 rfl rfl rfl ?_
                    refine n_goto c_167_93 ?_
                    refine n_iload c_167_66 rfl ?_
                    refine n_if0_lt c_167_68 (by omega) ?_ ?_
                    · intro h39
                      exfalso; omega
                    · intro h40
                      refine n_iload c_167_71 rfl ?_
                      refine n_aload_n c_167_73 rfl ?_
                      refine n_getV (bi := 0) c_167_74 sc_112.n rfl rfl rfl (show 2 ≤ M 112 0 ∧ M 112 0 ≤ 2 by omega) ?_
                      intro z41 ez41 f42
                      obtain rfl : z41 = 2 := by omega
                      refine n_imul c_167_77 rfl ?_
                      refine n_aload_n c_167_78 rfl ?_
                      refine n_iload c_167_79 rfl ?_
                      refine n_iload_n c_167_81 rfl ?_
                      refine n_iload c_167_82 rfl ?_
                      have hcst : ((3 + (-1)) : Int) = 2 := by omega
                      rw [hcst]
                      refine n_v3I c_167_84 rfl sc_112.n rfl rfl rfl rfl (mdigK_3_2_0_2  hS (by omega)) ?_
                      intro z43 M44 hP45
                      obtain ⟨eM, f45⟩ := hP45
                      subst eM
                      obtain rfl : z43 = 0 := by omega
                      refine n_iadd c_167_87 rfl ?_
                      refine n_istore (L2 := [some (2, 112), some (0, 3), some (0, x2), some (0, x3), some (0, 0), some (0, ((((((((((((0 * 2) + 1) * 2) + 1) * 2) + 1) * 2) + 1) * 2) + 0) * 2) + 0)), some (0, 2), none]) c_167_88 rfl rfl ?_
                      refine n_iinc (L2 := [some (2, 112), some (0, 3), some (0, x2), some (0, x3), some (0, 0), some (0, ((((((((((((0 * 2) + 1) * 2) + 1) * 2) + 1) * 2) + 1) * 2) + 0) * 2) + 0)), some (0, (2 + (-1))), none]) c_167_90 rfl rfl rfl ?_
                      refine n_goto c_167_93 ?_
                      refine n_iload c_167_66 rfl ?_
                      refine n_if0_lt c_167_68 (by omega) ?_ ?_
                      · intro h46
                        exfalso; omega
                      · intro h47
                        refine n_iload c_167_71 rfl ?_
                        refine n_aload_n c_167_73 rfl ?_
                        refine n_getV (bi := 0) c_167_74 sc_112.n rfl rfl rfl (show 2 ≤ M 112 0 ∧ M 112 0 ≤ 2 by omega) ?_
                        intro z48 ez48 f49
                        obtain rfl : z48 = 2 := by omega
                        refine n_imul c_167_77 rfl ?_
                        refine n_aload_n c_167_78 rfl ?_
                        refine n_iload c_167_79 rfl ?_
                        refine n_iload_n c_167_81 rfl ?_
                        refine n_iload c_167_82 rfl ?_
                        have hcst : ((2 + (-1)) : Int) = 1 := by omega
                        rw [hcst]
                        refine n_v3I c_167_84 rfl sc_112.n rfl rfl rfl rfl (mdigK_3_1_0_2  hS (by omega)) ?_
                        intro z50 M51 hP52
                        obtain ⟨eM, f52⟩ := hP52
                        subst eM
                        obtain rfl : z50 = 0 := by omega
                        refine n_iadd c_167_87 rfl ?_
                        refine n_istore (L2 := [some (2, 112), some (0, 3), some (0, x2), some (0, x3), some (0, 0), some (0, ((((((((((((((0 * 2) + 1) * 2) + 1) * 2) + 1) * 2) + 1) * 2) + 0) * 2) + 0) * 2) + 0)), some (0, 1), none]) c_167_88 rfl rfl ?_
                        refine n_iinc (L2 := [some (2, 112), some (0, 3), some (0, x2), some (0, x3), some (0, 0), some (0, ((((((((((((((0 * 2) + 1) * 2) + 1) * 2) + 1) * 2) + 1) * 2) + 0) * 2) + 0) * 2) + 0)), some (0, (1 + (-1))), none]) c_167_90 rfl rfl rfl ?_
                        refine n_goto c_167_93 ?_
                        refine n_iload c_167_66 rfl ?_
                        refine n_if0_lt c_167_68 (by omega) ?_ ?_
                        · intro h53
                          exfalso; omega
                        · intro h54
                          refine n_iload c_167_71 rfl ?_
                          refine n_aload_n c_167_73 rfl ?_
                          refine n_getV (bi := 0) c_167_74 sc_112.n rfl rfl rfl (show 2 ≤ M 112 0 ∧ M 112 0 ≤ 2 by omega) ?_
                          intro z55 ez55 f56
                          obtain rfl : z55 = 2 := by omega
                          refine n_imul c_167_77 rfl ?_
                          refine n_aload_n c_167_78 rfl ?_
                          refine n_iload c_167_79 rfl ?_
                          refine n_iload_n c_167_81 rfl ?_
                          refine n_iload c_167_82 rfl ?_
                          have hcst : ((1 + (-1)) : Int) = 0 := by omega
                          rw [hcst]
                          refine n_v3I c_167_84 rfl sc_112.n rfl rfl rfl rfl (mdigK_3_0_0_2  hS (by omega)) ?_
                          intro z57 M58 hP59
                          obtain ⟨eM, f59⟩ := hP59
                          subst eM
                          obtain rfl : z57 = 0 := by omega
                          refine n_iadd c_167_87 rfl ?_
                          refine n_istore (L2 := [some (2, 112), some (0, 3), some (0, x2), some (0, x3), some (0, 0), some (0, ((((((((((((((((0 * 2) + 1) * 2) + 1) * 2) + 1) * 2) + 1) * 2) + 0) * 2) + 0) * 2) + 0) * 2) + 0)), some (0, 0), none]) c_167_88 rfl rfl ?_
                          refine n_iinc (L2 := [some (2, 112), some (0, 3), some (0, x2), some (0, x3), some (0, 0), some (0, ((((((((((((((((0 * 2) + 1) * 2) + 1) * 2) + 1) * 2) + 1) * 2) + 0) * 2) + 0) * 2) + 0) * 2) + 0)), some (0, (0 + (-1))), none]) c_167_90 rfl rfl rfl ?_
                          refine n_goto c_167_93 ?_
                          refine n_iload c_167_66 rfl ?_
                          refine n_if0_lt c_167_68 (by omega) ?_ ?_
                          · intro h60
                            refine n_aload_n c_167_96 rfl ?_
                            refine n_getR c_167_97 sc_112.n rfl rfl rfl r_112_17 ?_
                            refine n_iload c_167_100 rfl ?_
                            refine n_iconst c_167_102 ?_
                            refine n_iastoreM hS c_167_103 sc_125.n rfl (by omega) (m_125 (by omega) (by omega)) ?_
                            intro M61 eM61 hS61
                            have g61_0 : M61 112 0 = M 112 0 := by rw [eM61]; exact nu_a (by omega)
                            have pr1 := PRj.st (p := 0) (PRj.ini (fun c c0 c1 => v1 c c0 (by omega)) : PRj 2 8 256 3 ac 0 M M) (by omega) (show mpj 2 8 (3 - 1 - 0) = ((((((((((((((((0 * 2) + 1) * 2) + 1) * 2) + 1) * 2) + 1) * 2) + 0) * 2) + 0) * 2) + 0) * 2) + 0) from by decide +kernel) eM61
                            have fp1 : F5 3 Ms M61 := fun a i q1 q2 q3 q4 q5 => by rw [eM61, nu_a q3]; exact v0 a i q1 q2 q3 q4 q5
                            have fq1 : F6 3 Ms M61 := fun a i q1 q2 => by rw [eM61, nu_a (by omega)]; exact v2 a i q1 q2
                            refine n_iinc (L2 := [some (2, 112), some (0, 3), some (0, x2), some (0, x3), some (0, (0 + 1)), some (0, ((((((((((((((((0 * 2) + 1) * 2) + 1) * 2) + 1) * 2) + 1) * 2) + 0) * 2) + 0) * 2) + 0) * 2) + 0)), some (0, (0 + (-1))), none]) c_167_104 rfl rfl rfl ?_
                            refine n_goto c_167_107 ?_
                            refine n_iload c_167_52 rfl ?_
                            refine n_iload_n c_167_54 rfl ?_
                            refine n_if2_ge c_167_55 (by omega) (by omega) ?_ ?_
                            · intro h62
                              exfalso; omega
                            · intro h63
                              refine n_iconst c_167_58 ?_
                              refine n_istore (L2 := [some (2, 112), some (0, 3), some (0, x2), some (0, x3), some (0, (0 + 1)), some (0, 0), some (0, (0 + (-1))), none]) c_167_59 rfl rfl ?_
                              refine n_iload_n c_167_61 rfl ?_
                              refine n_iconst c_167_62 ?_
                              refine n_isub c_167_63 rfl ?_
                              refine n_istore (L2 := [some (2, 112), some (0, 3), some (0, x2), some (0, x3), some (0, (0 + 1)), some (0, 0), some (0, (x2 - 1)), none]) c_167_64 rfl rfl ?_
                              refine n_iload c_167_66 rfl ?_
                              refine n_if0_lt c_167_68 (by omega) ?_ ?_
                              · intro h64
                                exfalso; omega
                              · intro h65
                                refine n_iload c_167_71 rfl ?_
                                refine n_aload_n c_167_73 rfl ?_
                                refine n_getV (bi := 0) c_167_74 sc_112.n rfl rfl rfl (show 2 ≤ M61 112 0 ∧ M61 112 0 ≤ 2 by omega) ?_
                                intro z66 ez66 f67
                                obtain rfl : z66 = 2 := by omega
                                refine n_imul c_167_77 rfl ?_
                                refine n_aload_n c_167_78 rfl ?_
                                refine n_iload c_167_79 rfl ?_
                                refine n_iload_n c_167_81 rfl ?_
                                refine n_iload c_167_82 rfl ?_
                                have hcst : ((x2 - 1) : Int) = 7 := by omega
                                rw [hcst]
                                have hcst : ((0 + 1) : Int) = 1 := by omega
                                rw [hcst]
                                refine n_v3I c_167_84 rfl sc_112.n rfl rfl rfl rfl (mdigK_3_7_1_2  hS61 (by omega)) ?_
                                intro z68 M69 hP70
                                obtain ⟨eM, f70⟩ := hP70
                                subst eM
                                obtain rfl : z68 = 1 := by omega
                                refine n_iadd c_167_87 rfl ?_
                                refine n_istore (L2 := [some (2, 112), some (0, 3), some (0, x2), some (0, x3), some (0, 1), some (0, ((0 * 2) + 1)), some (0, 7), none]) c_167_88 rfl rfl ?_
                                refine n_iinc (L2 := [some (2, 112), some (0, 3), some (0, x2), some (0, x3), some (0, 1), some (0, ((0 * 2) + 1)), some (0, (7 + (-1))), none]) c_167_90 rfl rfl rfl ?_
                                refine n_goto c_167_93 ?_
                                refine n_iload c_167_66 rfl ?_
                                refine n_if0_lt c_167_68 (by omega) ?_ ?_
                                · intro h71
                                  exfalso; omega
                                · intro h72
                                  refine n_iload c_167_71 rfl ?_
                                  refine n_aload_n c_167_73 rfl ?_
                                  refine n_getV (bi := 0) c_167_74 sc_112.n rfl rfl rfl (show 2 ≤ M61 112 0 ∧ M61 112 0 ≤ 2 by omega) ?_
                                  intro z73 ez73 f74
                                  obtain rfl : z73 = 2 := by omega
                                  refine n_imul c_167_77 rfl ?_
                                  refine n_aload_n c_167_78 rfl ?_
                                  refine n_iload c_167_79 rfl ?_
                                  refine n_iload_n c_167_81 rfl ?_
                                  refine n_iload c_167_82 rfl ?_
                                  have hcst : ((7 + (-1)) : Int) = 6 := by omega
                                  rw [hcst]
                                  refine n_v3I c_167_84 rfl sc_112.n rfl rfl rfl rfl (mdigK_3_6_1_2  hS61 (by omega)) ?_
                                  intro z75 M76 hP77
                                  obtain ⟨eM, f77⟩ := hP77
                                  subst eM
                                  obtain rfl : z75 = 1 := by omega
                                  refine n_iadd c_167_87 rfl ?_
                                  refine n_istore (L2 := [some (2, 112), some (0, 3), some (0, x2), some (0, x3), some (0, 1), some (0, ((((0 * 2) + 1) * 2) + 1)), some (0, 6), none]) c_167_88 rfl rfl ?_
                                  refine n_iinc (L2 := [some (2, 112), some (0, 3), some (0, x2), some (0, x3), some (0, 1), some (0, ((((0 * 2) + 1) * 2) + 1)), some (0, (6 + (-1))), none]) c_167_90 rfl rfl rfl ?_
                                  refine n_goto c_167_93 ?_
                                  refine n_iload c_167_66 rfl ?_
                                  refine n_if0_lt c_167_68 (by omega) ?_ ?_
                                  · intro h78
                                    exfalso; omega
                                  · intro h79
                                    refine n_iload c_167_71 rfl ?_
                                    refine n_aload_n c_167_73 rfl ?_
                                    refine n_getV (bi := 0) c_167_74 sc_112.n rfl rfl rfl (show 2 ≤ M61 112 0 ∧ M61 112 0 ≤ 2 by omega) ?_
                                    intro z80 ez80 f81
                                    obtain rfl : z80 = 2 := by omega
                                    refine n_imul c_167_77 rfl ?_
                                    refine n_aload_n c_167_78 rfl ?_
                                    refine n_iload c_167_79 rfl ?_
                                    refine n_iload_n c_167_81 rfl ?_
                                    refine n_iload c_167_82 rfl ?_
                                    have hcst : ((6 + (-1)) : Int) = 5 := by omega
                                    rw [hcst]
                                    refine n_v3I c_167_84 rfl sc_112.n rfl rfl rfl rfl (mdigK_3_5_1_2  hS61 (by omega)) ?_
                                    intro z82 M83 hP84
                                    obtain ⟨eM, f84⟩ := hP84
                                    subst eM
                                    obtain rfl : z82 = 0 := by omega
                                    refine n_iadd c_167_87 rfl ?_
                                    refine n_istore (L2 := [some (2, 112), some (0, 3), some (0, x2), some (0, x3), some (0, 1), some (0, ((((((0 * 2) + 1) * 2) + 1) * 2) + 0)), some (0, 5), none]) c_167_88 rfl rfl ?_
                                    refine n_iinc (L2 := [some (2, 112), some (0, 3), some (0, x2), some (0, x3), some (0, 1), some (0, ((((((0 * 2) + 1) * 2) + 1) * 2) + 0)), some (0, (5 + (-1))), none]) c_167_90 rfl rfl rfl ?_
                                    refine n_goto c_167_93 ?_
                                    refine n_iload c_167_66 rfl ?_
                                    refine n_if0_lt c_167_68 (by omega) ?_ ?_
                                    · intro h85
                                      exfalso; omega
                                    · intro h86
                                      refine n_iload c_167_71 rfl ?_
                                      refine n_aload_n c_167_73 rfl ?_
                                      refine n_getV (bi := 0) c_167_74 sc_112.n rfl rfl rfl (show 2 ≤ M61 112 0 ∧ M61 112 0 ≤ 2 by omega) ?_
                                      intro z87 ez87 f88
                                      obtain rfl : z87 = 2 := by omega
                                      refine n_imul c_167_77 rfl ?_
                                      refine n_aload_n c_167_78 rfl ?_
                                      refine n_iload c_167_79 rfl ?_
                                      refine n_iload_n c_167_81 rfl ?_
                                      refine n_iload c_167_82 rfl ?_
                                      have hcst : ((5 + (-1)) : Int) = 4 := by omega
                                      rw [hcst]
                                      refine n_v3I c_167_84 rfl sc_112.n rfl rfl rfl rfl (mdigK_3_4_1_2  hS61 (by omega)) ?_
                                      intro z89 M90 hP91
                                      obtain ⟨eM, f91⟩ := hP91
                                      subst eM
                                      obtain rfl : z89 = 0 := by omega
                                      refine n_iadd c_167_87 rfl ?_
                                      refine n_istore (L2 := [some (2, 112), some (0, 3), some (0, x2), some (0, x3), some (0, 1), some (0, ((((((((0 * 2) + 1) * 2) + 1) * 2) + 0) * 2) + 0)), some (0, 4), none]) c_167_88 rfl rfl ?_
                                      refine n_iinc (L2 := [some (2, 112), some (0, 3), some (0, x2), some (0, x3), some (0, 1), some (0, ((((((((0 * 2) + 1) * 2) + 1) * 2) + 0) * 2) + 0)), some (0, (4 + (-1))), none]) c_167_90 rfl rfl rfl ?_
                                      refine n_goto c_167_93 ?_
                                      refine n_iload c_167_66 rfl ?_
                                      refine n_if0_lt c_167_68 (by omega) ?_ ?_
                                      · intro h92
                                        exfalso; omega
                                      · intro h93
                                        refine n_iload c_167_71 rfl ?_
                                        refine n_aload_n c_167_73 rfl ?_
                                        refine n_getV (bi := 0) c_167_74 sc_112.n rfl rfl rfl (show 2 ≤ M61 112 0 ∧ M61 112 0 ≤ 2 by omega) ?_
                                        intro z94 ez94 f95
                                        obtain rfl : z94 = 2 := by omega
                                        refine n_imul c_167_77 rfl ?_
                                        refine n_aload_n c_167_78 rfl ?_
                                        refine n_iload c_167_79 rfl ?_
                                        refine n_iload_n c_167_81 rfl ?_
                                        refine n_iload c_167_82 rfl ?_
                                        have hcst : ((4 + (-1)) : Int) = 3 := by omega
                                        rw [hcst]
                                        refine n_v3I c_167_84 rfl sc_112.n rfl rfl rfl rfl (mdigK_3_3_1_2  hS61 (by omega)) ?_
                                        intro z96 M97 hP98
                                        obtain ⟨eM, f98⟩ := hP98
                                        subst eM
                                        obtain rfl : z96 = 1 := by omega
                                        refine n_iadd c_167_87 rfl ?_
                                        refine n_istore (L2 := [some (2, 112), some (0, 3), some (0, x2), some (0, x3), some (0, 1), some (0, ((((((((((0 * 2) + 1) * 2) + 1) * 2) + 0) * 2) + 0) * 2) + 1)), some (0, 3), none]) c_167_88 rfl rfl ?_
                                        refine n_iinc (L2 := [some (2, 112), some (0, 3), some (0, x2), some (0, x3), some (0, 1), some (0, ((((((((((0 * 2) + 1) * 2) + 1) * 2) + 0) * 2) + 0) * 2) + 1)), some (0, (3 + (-1))), none]) c_167_90 rfl rfl rfl ?_
                                        refine n_goto c_167_93 ?_
                                        refine n_iload c_167_66 rfl ?_
                                        refine n_if0_lt c_167_68 (by omega) ?_ ?_
                                        · intro h99
                                          exfalso; omega
                                        · intro h100
                                          refine n_iload c_167_71 rfl ?_
                                          refine n_aload_n c_167_73 rfl ?_
                                          refine n_getV (bi := 0) c_167_74 sc_112.n rfl rfl rfl (show 2 ≤ M61 112 0 ∧ M61 112 0 ≤ 2 by omega) ?_
                                          intro z101 ez101 f102
                                          obtain rfl : z101 = 2 := by omega
                                          refine n_imul c_167_77 rfl ?_
                                          refine n_aload_n c_167_78 rfl ?_
                                          refine n_iload c_167_79 rfl ?_
                                          refine n_iload_n c_167_81 rfl ?_
                                          refine n_iload c_167_82 rfl ?_
                                          have hcst : ((3 + (-1)) : Int) = 2 := by omega
                                          rw [hcst]
                                          refine n_v3I c_167_84 rfl sc_112.n rfl rfl rfl rfl (mdigK_3_2_1_2  hS61 (by omega)) ?_
                                          intro z103 M104 hP105
                                          obtain ⟨eM, f105⟩ := hP105
                                          subst eM
                                          obtain rfl : z103 = 1 := by omega
                                          refine n_iadd c_167_87 rfl ?_
                                          refine n_istore (L2 := [some (2, 112), some (0, 3), some (0, x2), some (0, x3), some (0, 1), some (0, ((((((((((((0 * 2) + 1) * 2) + 1) * 2) + 0) * 2) + 0) * 2) + 1) * 2) + 1)), some (0, 2), none]) c_167_88 rfl rfl ?_
                                          refine n_iinc (L2 := [some (2, 112), some (0, 3), some (0, x2), some (0, x3), some (0, 1), some (0, ((((((((((((0 * 2) + 1) * 2) + 1) * 2) + 0) * 2) + 0) * 2) + 1) * 2) + 1)), some (0, (2 + (-1))), none]) c_167_90 rfl rfl rfl ?_
                                          refine n_goto c_167_93 ?_
                                          refine n_iload c_167_66 rfl ?_
                                          refine n_if0_lt c_167_68 (by omega) ?_ ?_
                                          · intro h106
                                            exfalso; omega
                                          · intro h107
                                            refine n_iload c_167_71 rfl ?_
                                            refine n_aload_n c_167_73 rfl ?_
                                            refine n_getV (bi := 0) c_167_74 sc_112.n rfl rfl rfl (show 2 ≤ M61 112 0 ∧ M61 112 0 ≤ 2 by omega) ?_
                                            intro z108 ez108 f109
                                            obtain rfl : z108 = 2 := by omega
                                            refine n_imul c_167_77 rfl ?_
                                            refine n_aload_n c_167_78 rfl ?_
                                            refine n_iload c_167_79 rfl ?_
                                            refine n_iload_n c_167_81 rfl ?_
                                            refine n_iload c_167_82 rfl ?_
                                            have hcst : ((2 + (-1)) : Int) = 1 := by omega
                                            rw [hcst]
                                            refine n_v3I c_167_84 rfl sc_112.n rfl rfl rfl rfl (mdigK_3_1_1_2  hS61 (by omega)) ?_
                                            intro z110 M111 hP112
                                            obtain ⟨eM, f112⟩ := hP112
                                            subst eM
                                            obtain rfl : z110 = 0 := by omega
                                            refine n_iadd c_167_87 rfl ?_
                                            refine n_istore (L2 := [some (2, 112), some (0, 3), some (0, x2), some (0, x3), some (0, 1), some (0, ((((((((((((((0 * 2) + 1) * 2) + 1) * 2) + 0) * 2) + 0) * 2) + 1) * 2) + 1) * 2) + 0)), some (0, 1), none]) c_167_88 rfl rfl ?_
                                            refine n_iinc (L2 := [some (2, 112), some (0, 3), some (0, x2), some (0, x3), some (0, 1), some (0, ((((((((((((((0 * 2) + 1) * 2) + 1) * 2) + 0) * 2) + 0) * 2) + 1) * 2) + 1) * 2) + 0)), some (0, (1 + (-1))), none]) c_167_90 rfl rfl rfl ?_
                                            refine n_goto c_167_93 ?_
                                            refine n_iload c_167_66 rfl ?_
                                            refine n_if0_lt c_167_68 (by omega) ?_ ?_
                                            · intro h113
                                              exfalso; omega
                                            · intro h114
                                              refine n_iload c_167_71 rfl ?_
                                              refine n_aload_n c_167_73 rfl ?_
                                              refine n_getV (bi := 0) c_167_74 sc_112.n rfl rfl rfl (show 2 ≤ M61 112 0 ∧ M61 112 0 ≤ 2 by omega) ?_
                                              intro z115 ez115 f116
                                              obtain rfl : z115 = 2 := by omega
                                              refine n_imul c_167_77 rfl ?_
                                              refine n_aload_n c_167_78 rfl ?_
                                              refine n_iload c_167_79 rfl ?_
                                              refine n_iload_n c_167_81 rfl ?_
                                              refine n_iload c_167_82 rfl ?_
                                              have hcst : ((1 + (-1)) : Int) = 0 := by omega
                                              rw [hcst]
                                              refine n_v3I c_167_84 rfl sc_112.n rfl rfl rfl rfl (mdigK_3_0_1_2  hS61 (by omega)) ?_
                                              intro z117 M118 hP119
                                              obtain ⟨eM, f119⟩ := hP119
                                              subst eM
                                              obtain rfl : z117 = 0 := by omega
                                              refine n_iadd c_167_87 rfl ?_
                                              refine n_istore (L2 := [some (2, 112), some (0, 3), some (0, x2), some (0, x3), some (0, 1), some (0, ((((((((((((((((0 * 2) + 1) * 2) + 1) * 2) + 0) * 2) + 0) * 2) + 1) * 2) + 1) * 2) + 0) * 2) + 0)), some (0, 0), none]) c_167_88 rfl rfl ?_
                                              refine n_iinc (L2 := [some (2, 112), some (0, 3), some (0, x2), some (0, x3), some (0, 1), some (0, ((((((((((((((((0 * 2) + 1) * 2) + 1) * 2) + 0) * 2) + 0) * 2) + 1) * 2) + 1) * 2) + 0) * 2) + 0)), some (0, (0 + (-1))), none]) c_167_90 rfl rfl rfl ?_
                                              refine n_goto c_167_93 ?_
                                              refine n_iload c_167_66 rfl ?_
                                              refine n_if0_lt c_167_68 (by omega) ?_ ?_
                                              · intro h120
                                                refine n_aload_n c_167_96 rfl ?_
                                                refine n_getR c_167_97 sc_112.n rfl rfl rfl r_112_17 ?_
                                                refine n_iload c_167_100 rfl ?_
                                                refine n_iconst c_167_102 ?_
                                                refine n_iastoreM hS61 c_167_103 sc_125.n rfl (by omega) (m_125 (by omega) (by omega)) ?_
                                                intro M121 eM121 hS121
                                                have g121_0 : M121 112 0 = M61 112 0 := by rw [eM121]; exact nu_a (by omega)
                                                have pr2 := PRj.st (p := 1) pr1 (by omega) (show mpj 2 8 (3 - 1 - 1) = ((((((((((((((((0 * 2) + 1) * 2) + 1) * 2) + 0) * 2) + 0) * 2) + 1) * 2) + 1) * 2) + 0) * 2) + 0) from by decide +kernel) eM121
                                                have fp2 : F5 3 Ms M121 := fun a i q1 q2 q3 q4 q5 => by rw [eM121, nu_a q3]; exact fp1 a i q1 q2 q3 q4 q5
                                                have fq2 : F6 3 Ms M121 := fun a i q1 q2 => by rw [eM121, nu_a (by omega)]; exact fq1 a i q1 q2
                                                refine n_iinc (L2 := [some (2, 112), some (0, 3), some (0, x2), some (0, x3), some (0, (1 + 1)), some (0, ((((((((((((((((0 * 2) + 1) * 2) + 1) * 2) + 0) * 2) + 0) * 2) + 1) * 2) + 1) * 2) + 0) * 2) + 0)), some (0, (0 + (-1))), none]) c_167_104 rfl rfl rfl ?_
                                                refine n_goto c_167_107 ?_
                                                refine n_iload c_167_52 rfl ?_
                                                refine n_iload_n c_167_54 rfl ?_
                                                refine n_if2_ge c_167_55 (by omega) (by omega) ?_ ?_
                                                · intro h122
                                                  exfalso; omega
                                                · intro h123
                                                  refine n_iconst c_167_58 ?_
                                                  refine n_istore (L2 := [some (2, 112), some (0, 3), some (0, x2), some (0, x3), some (0, (1 + 1)), some (0, 0), some (0, (0 + (-1))), none]) c_167_59 rfl rfl ?_
                                                  refine n_iload_n c_167_61 rfl ?_
                                                  refine n_iconst c_167_62 ?_
                                                  refine n_isub c_167_63 rfl ?_
                                                  refine n_istore (L2 := [some (2, 112), some (0, 3), some (0, x2), some (0, x3), some (0, (1 + 1)), some (0, 0), some (0, (x2 - 1)), none]) c_167_64 rfl rfl ?_
                                                  refine n_iload c_167_66 rfl ?_
                                                  refine n_if0_lt c_167_68 (by omega) ?_ ?_
                                                  · intro h124
                                                    exfalso; omega
                                                  · intro h125
                                                    refine n_iload c_167_71 rfl ?_
                                                    refine n_aload_n c_167_73 rfl ?_
                                                    refine n_getV (bi := 0) c_167_74 sc_112.n rfl rfl rfl (show 2 ≤ M121 112 0 ∧ M121 112 0 ≤ 2 by omega) ?_
                                                    intro z126 ez126 f127
                                                    obtain rfl : z126 = 2 := by omega
                                                    refine n_imul c_167_77 rfl ?_
                                                    refine n_aload_n c_167_78 rfl ?_
                                                    refine n_iload c_167_79 rfl ?_
                                                    refine n_iload_n c_167_81 rfl ?_
                                                    refine n_iload c_167_82 rfl ?_
                                                    have hcst : ((x2 - 1) : Int) = 7 := by omega
                                                    rw [hcst]
                                                    have hcst : ((1 + 1) : Int) = 2 := by omega
                                                    rw [hcst]
                                                    refine n_v3I c_167_84 rfl sc_112.n rfl rfl rfl rfl (mdigK_3_7_2_2  hS121 (by omega)) ?_
                                                    intro z128 M129 hP130
                                                    obtain ⟨eM, f130⟩ := hP130
                                                    subst eM
                                                    obtain rfl : z128 = 1 := by omega
                                                    refine n_iadd c_167_87 rfl ?_
                                                    refine n_istore (L2 := [some (2, 112), some (0, 3), some (0, x2), some (0, x3), some (0, 2), some (0, ((0 * 2) + 1)), some (0, 7), none]) c_167_88 rfl rfl ?_
                                                    refine n_iinc (L2 := [some (2, 112), some (0, 3), some (0, x2), some (0, x3), some (0, 2), some (0, ((0 * 2) + 1)), some (0, (7 + (-1))), none]) c_167_90 rfl rfl rfl ?_
                                                    refine n_goto c_167_93 ?_
                                                    refine n_iload c_167_66 rfl ?_
                                                    refine n_if0_lt c_167_68 (by omega) ?_ ?_
                                                    · intro h131
                                                      exfalso; omega
                                                    · intro h132
                                                      refine n_iload c_167_71 rfl ?_
                                                      refine n_aload_n c_167_73 rfl ?_
                                                      refine n_getV (bi := 0) c_167_74 sc_112.n rfl rfl rfl (show 2 ≤ M121 112 0 ∧ M121 112 0 ≤ 2 by omega) ?_
                                                      intro z133 ez133 f134
                                                      obtain rfl : z133 = 2 := by omega
                                                      refine n_imul c_167_77 rfl ?_
                                                      refine n_aload_n c_167_78 rfl ?_
                                                      refine n_iload c_167_79 rfl ?_
                                                      refine n_iload_n c_167_81 rfl ?_
                                                      refine n_iload c_167_82 rfl ?_
                                                      have hcst : ((7 + (-1)) : Int) = 6 := by omega
                                                      rw [hcst]
                                                      refine n_v3I c_167_84 rfl sc_112.n rfl rfl rfl rfl (mdigK_3_6_2_2  hS121 (by omega)) ?_
                                                      intro z135 M136 hP137
                                                      obtain ⟨eM, f137⟩ := hP137
                                                      subst eM
                                                      obtain rfl : z135 = 0 := by omega
                                                      refine n_iadd c_167_87 rfl ?_
                                                      refine n_istore (L2 := [some (2, 112), some (0, 3), some (0, x2), some (0, x3), some (0, 2), some (0, ((((0 * 2) + 1) * 2) + 0)), some (0, 6), none]) c_167_88 rfl rfl ?_
                                                      refine n_iinc (L2 := [some (2, 112), some (0, 3), some (0, x2), some (0, x3), some (0, 2), some (0, ((((0 * 2) + 1) * 2) + 0)), some (0, (6 + (-1))), none]) c_167_90 rfl rfl rfl ?_
                                                      refine n_goto c_167_93 ?_
                                                      refine n_iload c_167_66 rfl ?_
                                                      refine n_if0_lt c_167_68 (by omega) ?_ ?_
                                                      · intro h138
                                                        exfalso; omega
                                                      · intro h139
                                                        refine n_iload c_167_71 rfl ?_
                                                        refine n_aload_n c_167_73 rfl ?_
                                                        refine n_getV (bi := 0) c_167_74 sc_112.n rfl rfl rfl (show 2 ≤ M121 112 0 ∧ M121 112 0 ≤ 2 by omega) ?_
                                                        intro z140 ez140 f141
                                                        obtain rfl : z140 = 2 := by omega
                                                        refine n_imul c_167_77 rfl ?_
                                                        refine n_aload_n c_167_78 rfl ?_
                                                        refine n_iload c_167_79 rfl ?_
                                                        refine n_iload_n c_167_81 rfl ?_
                                                        refine n_iload c_167_82 rfl ?_
                                                        have hcst : ((6 + (-1)) : Int) = 5 := by omega
                                                        rw [hcst]
                                                        refine n_v3I c_167_84 rfl sc_112.n rfl rfl rfl rfl (mdigK_3_5_2_2  hS121 (by omega)) ?_
                                                        intro z142 M143 hP144
                                                        obtain ⟨eM, f144⟩ := hP144
                                                        subst eM
                                                        obtain rfl : z142 = 1 := by omega
                                                        refine n_iadd c_167_87 rfl ?_
                                                        refine n_istore (L2 := [some (2, 112), some (0, 3), some (0, x2), some (0, x3), some (0, 2), some (0, ((((((0 * 2) + 1) * 2) + 0) * 2) + 1)), some (0, 5), none]) c_167_88 rfl rfl ?_
                                                        refine n_iinc (L2 := [some (2, 112), some (0, 3), some (0, x2), some (0, x3), some (0, 2), some (0, ((((((0 * 2) + 1) * 2) + 0) * 2) + 1)), some (0, (5 + (-1))), none]) c_167_90 rfl rfl rfl ?_
                                                        refine n_goto c_167_93 ?_
                                                        refine n_iload c_167_66 rfl ?_
                                                        refine n_if0_lt c_167_68 (by omega) ?_ ?_
                                                        · intro h145
                                                          exfalso; omega
                                                        · intro h146
                                                          refine n_iload c_167_71 rfl ?_
                                                          refine n_aload_n c_167_73 rfl ?_
                                                          refine n_getV (bi := 0) c_167_74 sc_112.n rfl rfl rfl (show 2 ≤ M121 112 0 ∧ M121 112 0 ≤ 2 by omega) ?_
                                                          intro z147 ez147 f148
                                                          obtain rfl : z147 = 2 := by omega
                                                          refine n_imul c_167_77 rfl ?_
                                                          refine n_aload_n c_167_78 rfl ?_
                                                          refine n_iload c_167_79 rfl ?_
                                                          refine n_iload_n c_167_81 rfl ?_
                                                          refine n_iload c_167_82 rfl ?_
                                                          have hcst : ((5 + (-1)) : Int) = 4 := by omega
                                                          rw [hcst]
                                                          refine n_v3I c_167_84 rfl sc_112.n rfl rfl rfl rfl (mdigK_3_4_2_2  hS121 (by omega)) ?_
                                                          intro z149 M150 hP151
                                                          obtain ⟨eM, f151⟩ := hP151
                                                          subst eM
                                                          obtain rfl : z149 = 0 := by omega
                                                          refine n_iadd c_167_87 rfl ?_
                                                          refine n_istore (L2 := [some (2, 112), some (0, 3), some (0, x2), some (0, x3), some (0, 2), some (0, ((((((((0 * 2) + 1) * 2) + 0) * 2) + 1) * 2) + 0)), some (0, 4), none]) c_167_88 rfl rfl ?_
                                                          refine n_iinc (L2 := [some (2, 112), some (0, 3), some (0, x2), some (0, x3), some (0, 2), some (0, ((((((((0 * 2) + 1) * 2) + 0) * 2) + 1) * 2) + 0)), some (0, (4 + (-1))), none]) c_167_90 rfl rfl rfl ?_
                                                          refine n_goto c_167_93 ?_
                                                          refine n_iload c_167_66 rfl ?_
                                                          refine n_if0_lt c_167_68 (by omega) ?_ ?_
                                                          · intro h152
                                                            exfalso; omega
                                                          · intro h153
                                                            refine n_iload c_167_71 rfl ?_
                                                            refine n_aload_n c_167_73 rfl ?_
                                                            refine n_getV (bi := 0) c_167_74 sc_112.n rfl rfl rfl (show 2 ≤ M121 112 0 ∧ M121 112 0 ≤ 2 by omega) ?_
                                                            intro z154 ez154 f155
                                                            obtain rfl : z154 = 2 := by omega
                                                            refine n_imul c_167_77 rfl ?_
                                                            refine n_aload_n c_167_78 rfl ?_
                                                            refine n_iload c_167_79 rfl ?_
                                                            refine n_iload_n c_167_81 rfl ?_
                                                            refine n_iload c_167_82 rfl ?_
                                                            have hcst : ((4 + (-1)) : Int) = 3 := by omega
                                                            rw [hcst]
                                                            refine n_v3I c_167_84 rfl sc_112.n rfl rfl rfl rfl (mdigK_3_3_2_2  hS121 (by omega)) ?_
                                                            intro z156 M157 hP158
                                                            obtain ⟨eM, f158⟩ := hP158
                                                            subst eM
                                                            obtain rfl : z156 = 1 := by omega
                                                            refine n_iadd c_167_87 rfl ?_
                                                            refine n_istore (L2 := [some (2, 112), some (0, 3), some (0, x2), some (0, x3), some (0, 2), some (0, ((((((((((0 * 2) + 1) * 2) + 0) * 2) + 1) * 2) + 0) * 2) + 1)), some (0, 3), none]) c_167_88 rfl rfl ?_
                                                            refine n_iinc (L2 := [some (2, 112), some (0, 3), some (0, x2), some (0, x3), some (0, 2), some (0, ((((((((((0 * 2) + 1) * 2) + 0) * 2) + 1) * 2) + 0) * 2) + 1)), some (0, (3 + (-1))), none]) c_167_90 rfl rfl rfl ?_
                                                            refine n_goto c_167_93 ?_
                                                            refine n_iload c_167_66 rfl ?_
                                                            refine n_if0_lt c_167_68 (by omega) ?_ ?_
                                                            · intro h159
                                                              exfalso; omega
                                                            · intro h160
                                                              refine n_iload c_167_71 rfl ?_
                                                              refine n_aload_n c_167_73 rfl ?_
                                                              refine n_getV (bi := 0) c_167_74 sc_112.n rfl rfl rfl (show 2 ≤ M121 112 0 ∧ M121 112 0 ≤ 2 by omega) ?_
                                                              intro z161 ez161 f162
                                                              obtain rfl : z161 = 2 := by omega
                                                              refine n_imul c_167_77 rfl ?_
                                                              refine n_aload_n c_167_78 rfl ?_
                                                              refine n_iload c_167_79 rfl ?_
                                                              refine n_iload_n c_167_81 rfl ?_
                                                              refine n_iload c_167_82 rfl ?_
                                                              have hcst : ((3 + (-1)) : Int) = 2 := by omega
                                                              rw [hcst]
                                                              refine n_v3I c_167_84 rfl sc_112.n rfl rfl rfl rfl (mdigK_3_2_2_2  hS121 (by omega)) ?_
                                                              intro z163 M164 hP165
                                                              obtain ⟨eM, f165⟩ := hP165
                                                              subst eM
                                                              obtain rfl : z163 = 0 := by omega
                                                              refine n_iadd c_167_87 rfl ?_
                                                              refine n_istore (L2 := [some (2, 112), some (0, 3), some (0, x2), some (0, x3), some (0, 2), some (0, ((((((((((((0 * 2) + 1) * 2) + 0) * 2) + 1) * 2) + 0) * 2) + 1) * 2) + 0)), some (0, 2), none]) c_167_88 rfl rfl ?_
                                                              refine n_iinc (L2 := [some (2, 112), some (0, 3), some (0, x2), some (0, x3), some (0, 2), some (0, ((((((((((((0 * 2) + 1) * 2) + 0) * 2) + 1) * 2) + 0) * 2) + 1) * 2) + 0)), some (0, (2 + (-1))), none]) c_167_90 rfl rfl rfl ?_
                                                              refine n_goto c_167_93 ?_
                                                              refine n_iload c_167_66 rfl ?_
                                                              refine n_if0_lt c_167_68 (by omega) ?_ ?_
                                                              · intro h166
                                                                exfalso; omega
                                                              · intro h167
                                                                refine n_iload c_167_71 rfl ?_
                                                                refine n_aload_n c_167_73 rfl ?_
                                                                refine n_getV (bi := 0) c_167_74 sc_112.n rfl rfl rfl (show 2 ≤ M121 112 0 ∧ M121 112 0 ≤ 2 by omega) ?_
                                                                intro z168 ez168 f169
                                                                obtain rfl : z168 = 2 := by omega
                                                                refine n_imul c_167_77 rfl ?_
                                                                refine n_aload_n c_167_78 rfl ?_
                                                                refine n_iload c_167_79 rfl ?_
                                                                refine n_iload_n c_167_81 rfl ?_
                                                                refine n_iload c_167_82 rfl ?_
                                                                have hcst : ((2 + (-1)) : Int) = 1 := by omega
                                                                rw [hcst]
                                                                refine n_v3I c_167_84 rfl sc_112.n rfl rfl rfl rfl (mdigK_3_1_2_2  hS121 (by omega)) ?_
                                                                intro z170 M171 hP172
                                                                obtain ⟨eM, f172⟩ := hP172
                                                                subst eM
                                                                obtain rfl : z170 = 1 := by omega
                                                                refine n_iadd c_167_87 rfl ?_
                                                                refine n_istore (L2 := [some (2, 112), some (0, 3), some (0, x2), some (0, x3), some (0, 2), some (0, ((((((((((((((0 * 2) + 1) * 2) + 0) * 2) + 1) * 2) + 0) * 2) + 1) * 2) + 0) * 2) + 1)), some (0, 1), none]) c_167_88 rfl rfl ?_
                                                                refine n_iinc (L2 := [some (2, 112), some (0, 3), some (0, x2), some (0, x3), some (0, 2), some (0, ((((((((((((((0 * 2) + 1) * 2) + 0) * 2) + 1) * 2) + 0) * 2) + 1) * 2) + 0) * 2) + 1)), some (0, (1 + (-1))), none]) c_167_90 rfl rfl rfl ?_
                                                                refine n_goto c_167_93 ?_
                                                                refine n_iload c_167_66 rfl ?_
                                                                refine n_if0_lt c_167_68 (by omega) ?_ ?_
                                                                · intro h173
                                                                  exfalso; omega
                                                                · intro h174
                                                                  refine n_iload c_167_71 rfl ?_
                                                                  refine n_aload_n c_167_73 rfl ?_
                                                                  refine n_getV (bi := 0) c_167_74 sc_112.n rfl rfl rfl (show 2 ≤ M121 112 0 ∧ M121 112 0 ≤ 2 by omega) ?_
                                                                  intro z175 ez175 f176
                                                                  obtain rfl : z175 = 2 := by omega
                                                                  refine n_imul c_167_77 rfl ?_
                                                                  refine n_aload_n c_167_78 rfl ?_
                                                                  refine n_iload c_167_79 rfl ?_
                                                                  refine n_iload_n c_167_81 rfl ?_
                                                                  refine n_iload c_167_82 rfl ?_
                                                                  have hcst : ((1 + (-1)) : Int) = 0 := by omega
                                                                  rw [hcst]
                                                                  refine n_v3I c_167_84 rfl sc_112.n rfl rfl rfl rfl (mdigK_3_0_2_2  hS121 (by omega)) ?_
                                                                  intro z177 M178 hP179
                                                                  obtain ⟨eM, f179⟩ := hP179
                                                                  subst eM
                                                                  obtain rfl : z177 = 0 := by omega
                                                                  refine n_iadd c_167_87 rfl ?_
                                                                  refine n_istore (L2 := [some (2, 112), some (0, 3), some (0, x2), some (0, x3), some (0, 2), some (0, ((((((((((((((((0 * 2) + 1) * 2) + 0) * 2) + 1) * 2) + 0) * 2) + 1) * 2) + 0) * 2) + 1) * 2) + 0)), some (0, 0), none]) c_167_88 rfl rfl ?_
                                                                  refine n_iinc (L2 := [some (2, 112), some (0, 3), some (0, x2), some (0, x3), some (0, 2), some (0, ((((((((((((((((0 * 2) + 1) * 2) + 0) * 2) + 1) * 2) + 0) * 2) + 1) * 2) + 0) * 2) + 1) * 2) + 0)), some (0, (0 + (-1))), none]) c_167_90 rfl rfl rfl ?_
                                                                  refine n_goto c_167_93 ?_
                                                                  refine n_iload c_167_66 rfl ?_
                                                                  refine n_if0_lt c_167_68 (by omega) ?_ ?_
                                                                  · intro h180
                                                                    refine n_aload_n c_167_96 rfl ?_
                                                                    refine n_getR c_167_97 sc_112.n rfl rfl rfl r_112_17 ?_
                                                                    refine n_iload c_167_100 rfl ?_
                                                                    refine n_iconst c_167_102 ?_
                                                                    refine n_iastoreM hS121 c_167_103 sc_125.n rfl (by omega) (m_125 (by omega) (by omega)) ?_
                                                                    intro M181 eM181 hS181
                                                                    have g181_0 : M181 112 0 = M121 112 0 := by rw [eM181]; exact nu_a (by omega)
                                                                    have pr3 := PRj.st (p := 2) pr2 (by omega) (show mpj 2 8 (3 - 1 - 2) = ((((((((((((((((0 * 2) + 1) * 2) + 0) * 2) + 1) * 2) + 0) * 2) + 1) * 2) + 0) * 2) + 1) * 2) + 0) from by decide +kernel) eM181
                                                                    have fp3 : F5 3 Ms M181 := fun a i q1 q2 q3 q4 q5 => by rw [eM181, nu_a q3]; exact fp2 a i q1 q2 q3 q4 q5
                                                                    have fq3 : F6 3 Ms M181 := fun a i q1 q2 => by rw [eM181, nu_a (by omega)]; exact fq2 a i q1 q2
                                                                    refine n_iinc (L2 := [some (2, 112), some (0, 3), some (0, x2), some (0, x3), some (0, (2 + 1)), some (0, ((((((((((((((((0 * 2) + 1) * 2) + 0) * 2) + 1) * 2) + 0) * 2) + 1) * 2) + 0) * 2) + 1) * 2) + 0)), some (0, (0 + (-1))), none]) c_167_104 rfl rfl rfl ?_
                                                                    refine n_goto c_167_107 ?_
                                                                    refine n_iload c_167_52 rfl ?_
                                                                    refine n_iload_n c_167_54 rfl ?_
                                                                    refine n_if2_ge c_167_55 (by omega) (by omega) ?_ ?_
                                                                    · intro h182
                                                                      refine n_iconst c_167_110 ?_
                                                                      refine n_istore (L2 := [some (2, 112), some (0, 3), some (0, x2), some (0, x3), some (0, 0), some (0, ((((((((((((((((0 * 2) + 1) * 2) + 0) * 2) + 1) * 2) + 0) * 2) + 1) * 2) + 0) * 2) + 1) * 2) + 0)), some (0, (0 + (-1))), none]) c_167_111 rfl rfl ?_
                                                                      refine n_fg (le_s (le_s (le_s (le_s (le_s (le_n (le_n (le_n le_0)))))))) ?_
                                                                      exact ih.2.1 _ _ _ M181 hS181 (by omega) (by omega) (by omega) (by omega) (by exact fp3) (by exact pr3.fin.ch (show Tm M181 = Tm M from (Tm_f5 fp3).trans (Tm_f5 v0).symm)) (by exact pr3.rd.ch (show Tm M181 = Tm M from (Tm_f5 fp3).trans (Tm_f5 v0).symm)) (by exact Or.inl (fun a x y z _ _ hx => by omega)) (by exact ZR.ini (show PRj 2 8 256 3 ac 3 M181 M181 from pr3)) (by exact fq3) (by omega)
                                                                    · intro h183
                                                                      exfalso; omega
                                                                  · intro h184
                                                                    exfalso; omega
                                              · intro h185
                                                exfalso; omega
                          · intro h186
                            exfalso; omega
      · intro h187
        refine n_aload_n c_167_35 rfl ?_
        refine n_getR c_167_36 sc_112.n rfl rfl rfl r_112_17 ?_
        refine n_iload c_167_39 rfl ?_
        refine n_iconst c_167_41 ?_
        refine n_iastoreM hS c_167_42 sc_125.n rfl (by omega) (m_125 (by omega) (by omega)) ?_
        intro M188 eM188 hS188
        have g188_0 : M188 112 0 = M 112 0 := by rw [eM188]; exact nu_a (by omega)
        refine n_iinc (L2 := [some (2, 112), some (0, 3), some (0, x2), some (0, x3), some (0, (x4 + 1)), none, none, none]) c_167_43 rfl rfl rfl ?_
        refine n_goto c_167_46 ?_
        refine n_fg (le_s (le_s (le_s (le_s (le_s (le_n (le_n (le_n le_0)))))))) ?_
        exact ih.1 _ _ _ M188 hS188 (by omega) (by omega) (by omega) (by omega) (by exact fun a i q1 q2 q3 q4 q5 => by rw [eM188, nu_a q3]; exact v0 a i q1 q2 q3 q4 q5) (by exact fun c c0 c1 => by rw [eM188, nu_e]; split; (rfl); (exact v1 c c0 (by omega))) (by exact fun a i q1 q2 => by rw [eM188, nu_a (by omega)]; exact v2 a i q1 q2) (by omega)
    · intro x2 x3 x4 M hS k2 k3 k4 hdm v0 v1 v2 v3 v4 v5 hnn
      refine n_iconst c_167_113 ?_
      refine n_istore (L2 := [some (2, 112), some (0, 3), some (0, x2), some (0, x3), some (0, x4), some (0, (-1)), none, none]) c_167_114 rfl rfl ?_
      refine n_iconst c_167_116 ?_
      refine n_istore (L2 := [some (2, 112), some (0, 3), some (0, x2), some (0, x3), some (0, x4), some (0, (-1)), some (0, 0), none]) c_167_117 rfl rfl ?_
      refine n_fg (le_s (le_s (le_s (le_s (le_s (le_s (le_s (le_n le_0)))))))) ?_
      exact ih.2.2.1 _ _ _ _ _ M hS (by omega) (by omega) (by omega) (by omega) (by omega) (by omega) (by exact v0) (by exact v1) (by exact v2) (by exact v3) (by exact fun _ c c0 c1 => by omega) (by omega) (by exact v4) (by exact fun q => absurd rfl q) (by exact v5) (by omega)
    · intro x2 x3 x4 x5 x6 M hS k2 k3 k4 k5 k6 hdm v0 v1 v2 v3 v4 v5 v6 v7 v8 hnn
      refine n_iload c_167_119 rfl ?_
      refine n_iload_n c_167_121 rfl ?_
      refine n_if2_ge c_167_122 (by omega) (by omega) ?_ ?_
      · intro h1
        refine n_iload c_167_168 rfl ?_
        refine n_iconst c_167_170 ?_
        refine n_if2_ne c_167_171 (by omega) (by omega) ?_ ?_
        · intro h2
          refine n_iload c_167_190 rfl ?_
          refine n_sipush c_167_192 rfl ?_
          refine n_if2_ne c_167_195 (by omega) (by omega) ?_ ?_
          · intro h3
            refine n_aload_n c_167_207 rfl ?_
            refine n_getR c_167_208 sc_112.n rfl rfl rfl r_112_14 ?_
            refine n_sipush c_167_211 rfl ?_
            refine n_iload_n c_167_214 rfl ?_
            refine n_imul c_167_215 rfl ?_
            refine n_iload c_167_216 rfl ?_
            refine n_iadd c_167_218 rfl ?_
            refine n_iload c_167_219 rfl ?_
            refine n_iastoreM hS c_167_221 sc_122.n rfl (by omega) (m_122 (by omega) (by omega)) ?_
            intro M4 eM4 hS4
            have g4_0 : M4 112 0 = M 112 0 := by rw [eM4]; exact nu_a (by omega)
            have g4_1 : M4 125 x5 = M 125 x5 := by rw [eM4]; exact nu_a (by omega)
            refine n_aload_n c_167_222 rfl ?_
            refine n_getR c_167_223 sc_112.n rfl rfl rfl r_112_15 ?_
            refine n_sipush c_167_226 rfl ?_
            refine n_iload_n c_167_229 rfl ?_
            refine n_imul c_167_230 rfl ?_
            refine n_iload c_167_231 rfl ?_
            refine n_iadd c_167_233 rfl ?_
            refine n_aload_n c_167_234 rfl ?_
            refine n_getR c_167_235 sc_112.n rfl rfl rfl r_112_17 ?_
            refine n_iload c_167_238 rfl ?_
            refine n_ialoadV c_167_240 sc_125.n rfl rfl rfl (by omega) (t_125 hS4 (by omega)) ?_
            intro z5 ez5 f6
            refine n_iconst c_167_241 ?_
            refine n_isub c_167_242 rfl ?_
            refine n_iastoreM hS4 c_167_243 sc_123.n rfl (by omega) (m_123 (by omega) (by omega)) ?_
            intro M7 eM7 hS7
            have g7_0 : M7 112 0 = M4 112 0 := by rw [eM7]; exact nu_a (by omega)
            have g7_1 : M7 125 x5 = M4 125 x5 := by rw [eM7]; exact nu_a (by omega)
            refine n_iload c_167_244 rfl ?_
            refine n_istore (L2 := [some (2, 112), some (0, 3), some (0, x2), some (0, x3), some (0, x4), some (0, x5), some (0, x5), none]) c_167_246 rfl rfl ?_
            refine n_iconst c_167_248 ?_
            refine n_istore (L2 := [some (2, 112), some (0, 3), some (0, x2), some (0, x3), some (0, x4), some (0, x5), some (0, x5), some (0, 0)]) c_167_249 rfl rfl ?_
            refine n_fg (le_s (le_s (le_s (le_s (le_s (le_n (le_s (le_s le_0)))))))) ?_
            exact ih.2.2.2.1 _ _ _ _ _ M7 hS7 (by omega) (by omega) (by omega) (by omega) (by omega) (by omega) (by exact ⟨M, x5, v0, v1, v2, v3, NEW.ini (M1 := M4) (v := (z5 - 1)) eM4 eM7, by omega, by show x5 = x5 / 1; rw [Int.ediv_one], v6, NEWz.mk (M1 := M4) eM4 eM7 (by omega), fun c c0 c1 u => v7 (by omega) c c0 (by omega) u, v8⟩) (by omega)
          · intro h8
            refine n_aload_n c_167_198 rfl ?_
            refine n_getR c_167_199 sc_112.n rfl rfl rfl r_112_16 ?_
            refine n_iload_n c_167_202 rfl ?_
            refine n_bipush c_167_203 rfl ?_
            refine n_iastoreM hS c_167_205 sc_124.n rfl (by omega) (m_124 (by omega) (by omega)) ?_
            intro M9 eM9 hS9
            have g9_0 : M9 112 0 = M 112 0 := by rw [eM9]; exact nu_a (by omega)
            have g9_1 : M9 125 x5 = M 125 x5 := by rw [eM9]; exact nu_a (by omega)
            exact n_rV c_167_206 rfl ⟨hS9, by have al := RF.many (R := 8) (C := 256) (b := x5) hd (by rw [Tm_f5 v0]; exact hT) v1 (by have y9 := v2; rw [show x4 = (256 : Int) by omega] at y9; exact y9) (by omega) (by omega); rw [Tm_f5 v0] at al; have y2 : M9 124 3 = -8 := (by rw [eM9]; exact nu_s _ _ _ _); exact cMd.a al y2, by exact fun a i q1 q2 q3 q4 q5 => by rw [eM9, nu_e, if_neg q5]; exact v0 a i q1 q2 q3 q4 q5, by exact fun q => absurd (by rw [eM9]; exact nu_s _ _ _ _) q, by exact fun a i q1 q2 => by rw [eM9, nu_a (by omega)]; exact v8 a i q1 q2⟩
        · intro h10
          refine n_aload_n c_167_174 rfl ?_
          refine n_getR c_167_175 sc_112.n rfl rfl rfl r_112_16 ?_
          refine n_iload_n c_167_178 rfl ?_
          refine n_iload c_167_179 rfl ?_
          refine n_iastoreM hS c_167_181 sc_124.n rfl (by omega) (m_124 (by omega) (by omega)) ?_
          intro M11 eM11 hS11
          have g11_0 : M11 112 0 = M 112 0 := by rw [eM11]; exact nu_a (by omega)
          have g11_1 : M11 125 x5 = M 125 x5 := by rw [eM11]; exact nu_a (by omega)
          refine n_aload_n c_167_182 rfl ?_
          refine n_iload_n c_167_183 rfl ?_
          refine n_iload c_167_184 rfl ?_
          refine n_v2V c_167_186 rfl sc_112.n rfl rfl rfl rfl (morderedZ_3_2 (m := x4) (Ms := M11) hS11 (by omega) (by omega) (by rfl) (by rw [show cdr 3 M11 = cdr 3 M from funext (fun i => by unfold cdr; rw [eM11, nu_a (by omega)])]; exact v2.2.2)) ?_
          intro  M12 hP13
          obtain ⟨hS12, f13p0, f13p1, f13p2, f13p3⟩ := hP13
          exact n_rV c_167_189 rfl ⟨hS12, by have q6 : x6 = 256 := (by omega); have q7 : x4 ≤ 256 := (by omega); rw [q6] at v4; have al := RF.all (R := 8) (C := 256) (k := x4) hd (by rw [Tm_f5 v0]; exact hT) (by decide +kernel) (by omega) v1 v2 v3 (v4 (by omega)) (fun c c0 => (t_125 hS c0).1); rw [Tm_f5 v0] at al; have y := f13p0 124 3 (by omega) (by omega); have y2 : M11 124 3 = x4 := (by rw [eM11]; exact nu_s _ _ _ _); exact cMd.b al q7 (y.trans y2), by exact fun a i q1 q2 q3 q4 q5 => by rw [f13p0 a i q1 q2, eM11, nu_e, if_neg q5]; exact v0 a i q1 q2 q3 q4 q5, by have q6 : x6 = 256 := (by omega); rw [q6] at v4; have cl := ZR.cl v6 hd (by rw [Tm_f5 v0]; exact hT) (by decide +kernel) v2 (v4 (by omega)); have ew1 : cdr 3 M11 = cdr 3 M := funext (fun i => by unfold cdr; rw [eM11, nu_a (by omega)]); have ew2 : szr 3 M11 = szr 3 M := funext (fun i => by unfold szr; rw [eM11, nu_a (by omega)]); have y := f13p0 124 3 (by omega) (by omega); have y2 : M11 124 3 = x4 := (by rw [eM11]; exact nu_s _ _ _ _); rw [y, y2]; exact fun _ => (LOr.mk cl (f13p1.l ew1 ew2) f13p2).ch (Tm_f5 v0) (Pm_f5 v0), by exact fun a i q1 q2 => by rw [f13p3 a i q1 q2, eM11, nu_a (by omega)]; exact v8 a i q1 q2⟩
      · intro h14
        refine n_aload_n c_167_125 rfl ?_
        refine n_getR c_167_126 sc_112.n rfl rfl rfl r_112_17 ?_
        refine n_iload c_167_129 rfl ?_
        refine n_ialoadV c_167_131 sc_125.n rfl rfl rfl (by omega) (t_125 hS (by omega)) ?_
        intro z15 ez15 f16
        refine n_if0_le c_167_132 (by omega) ?_ ?_
        · intro h17
          refine n_iinc (L2 := [some (2, 112), some (0, 3), some (0, x2), some (0, x3), some (0, x4), some (0, x5), some (0, (x6 + 1)), none]) c_167_162 rfl rfl rfl ?_
          refine n_goto c_167_165 ?_
          refine n_fg (le_s (le_s (le_s (le_s (le_s (le_s (le_s (le_n le_0)))))))) ?_
          exact ih.2.2.1 _ _ _ _ _ M hS (by omega) (by omega) (by omega) (by omega) (by omega) (by omega) (by exact v0) (by exact v1) (by exact v2) (by exact v3) (by exact fun q c c0 c1 => by by_cases u : c = x6; (rw [u]; omega); (exact v4 (by omega) c c0 (by omega))) (by omega) (by exact v6) (by exact fun q c c0 c1 u => by by_cases w : c = x6; (rw [w] at u ⊢; omega); (exact v7 q c c0 (by omega) u)) (by exact v8) (by omega)
        · intro h18
          refine n_iload c_167_135 rfl ?_
          refine n_iconst c_167_137 ?_
          refine n_if2_eq c_167_138 (by omega) (by omega) ?_ ?_
          · intro h19
            refine n_iload c_167_158 rfl ?_
            refine n_istore (L2 := [some (2, 112), some (0, 3), some (0, x2), some (0, x3), some (0, x4), some (0, x6), some (0, x6), none]) c_167_160 rfl rfl ?_
            refine n_iinc (L2 := [some (2, 112), some (0, 3), some (0, x2), some (0, x3), some (0, x4), some (0, x6), some (0, (x6 + 1)), none]) c_167_162 rfl rfl rfl ?_
            refine n_goto c_167_165 ?_
            refine n_fg (le_s (le_s (le_s (le_s (le_s (le_s (le_s (le_n le_0)))))))) ?_
            exact ih.2.2.1 _ _ _ _ _ M hS (by omega) (by omega) (by omega) (by omega) (by omega) (by omega) (by exact v0) (by exact v1) (by exact v2) (by exact v3) (by exact fun q c c0 c1 => by by_cases u : c = x6; (rw [u]; omega); (exact v4 (by omega) c c0 (by omega))) (by omega) (by exact v6) (by exact fun q c c0 c1 u => by by_cases w : c = x6; (rw [w]; exact Int.le_refl _); (by_cases r : x5 = -1; (have y := v4 r c c0 (by omega); omega); (have y := v7 r c c0 (by omega) u; omega))) (by exact v8) (by omega)
          · intro h20
            refine n_aload_n c_167_141 rfl ?_
            refine n_getR c_167_142 sc_112.n rfl rfl rfl r_112_17 ?_
            refine n_iload c_167_145 rfl ?_
            refine n_ialoadV c_167_147 sc_125.n rfl rfl rfl (by omega) (t_125 hS (by omega)) ?_
            intro z21 ez21 f22
            refine n_aload_n c_167_148 rfl ?_
            refine n_getR c_167_149 sc_112.n rfl rfl rfl r_112_17 ?_
            refine n_iload c_167_152 rfl ?_
            refine n_ialoadV c_167_154 sc_125.n rfl rfl rfl (by omega) (t_125 hS (by omega)) ?_
            intro z23 ez23 f24
            refine n_if2_ge c_167_155 (by omega) (by omega) ?_ ?_
            · intro h25
              refine n_iinc (L2 := [some (2, 112), some (0, 3), some (0, x2), some (0, x3), some (0, x4), some (0, x5), some (0, (x6 + 1)), none]) c_167_162 rfl rfl rfl ?_
              refine n_goto c_167_165 ?_
              refine n_fg (le_s (le_s (le_s (le_s (le_s (le_s (le_s (le_n le_0)))))))) ?_
              exact ih.2.2.1 _ _ _ _ _ M hS (by omega) (by omega) (by omega) (by omega) (by omega) (by omega) (by exact v0) (by exact v1) (by exact v2) (by exact v3) (by exact fun q c c0 c1 => by by_cases u : c = x6; (rw [u]; omega); (exact v4 (by omega) c c0 (by omega))) (by omega) (by exact v6) (by exact fun q c c0 c1 u => by by_cases w : c = x6; (rw [w] at u ⊢; omega); (exact v7 q c c0 (by omega) u)) (by exact v8) (by omega)
            · intro h26
              refine n_iload c_167_158 rfl ?_
              refine n_istore (L2 := [some (2, 112), some (0, 3), some (0, x2), some (0, x3), some (0, x4), some (0, x6), some (0, x6), none]) c_167_160 rfl rfl ?_
              refine n_iinc (L2 := [some (2, 112), some (0, 3), some (0, x2), some (0, x3), some (0, x4), some (0, x6), some (0, (x6 + 1)), none]) c_167_162 rfl rfl rfl ?_
              refine n_goto c_167_165 ?_
              refine n_fg (le_s (le_s (le_s (le_s (le_s (le_s (le_s (le_n le_0)))))))) ?_
              exact ih.2.2.1 _ _ _ _ _ M hS (by omega) (by omega) (by omega) (by omega) (by omega) (by omega) (by exact v0) (by exact v1) (by exact v2) (by exact v3) (by exact fun q c c0 c1 => by by_cases u : c = x6; (rw [u]; omega); (exact v4 (by omega) c c0 (by omega))) (by omega) (by exact v6) (by exact fun q c c0 c1 u => by by_cases w : c = x6; (rw [w]; exact Int.le_refl _); (by_cases r : x5 = -1; (have y := v4 r c c0 (by omega); omega); (have y := v7 r c c0 (by omega) u; omega))) (by exact v8) (by omega)
    · intro x2 x3 x4 x6 x7 M hS k2 k3 k4 k6 k7 hdm v0 hnn
      obtain ⟨Mm, bq, w0, w1, w2, w3, w4, w6, w7, w8⟩ := v0
      refine n_iload c_167_251 rfl ?_
      refine n_iload_n c_167_253 rfl ?_
      refine n_if2_ge c_167_254 (by omega) (by omega) ?_ ?_
      · intro h1
        refine n_iload c_167_292 rfl ?_
        have x7e : x7 = ((8 : Nat) : Int) := by omega
        rw [x7e] at w4
        have hTm : ∀ a i : Int, 0 ≤ a → a < ac → 0 ≤ i → i < 2 * 2 * 2 → 0 ≤ Tm Mm a i ∧ Tm Mm a i < 2 := by rw [Tm_f5 w0]; exact hT
        have hCm : ∀ i : Int, 0 ≤ i → i < x4 → 0 ≤ cdr 3 Mm i ∧ cdr 3 Mm i < 256 := fun i i0 i1 => Clo.r (R := 8) hd hTm (w2.1 i i0 i1).1
        obtain ⟨nd1, nd2, nd3, nd4, nd5⟩ := w4.dg (by omega) (by omega) w2 w1 (by omega) (by omega) hCm
        have f5n : F5 3 Ms M := fun a i q1 q2 q3 q4 q5 => (w4.2.2.2.2 a i q1 q2 q4).trans (w0 a i q1 q2 q3 q4 q5)
        obtain ⟨zP, zT, zrv, zvs, zi2, zlw, zpd, zhj⟩ := w8.1.new hd (by omega) w4 w8.2.1 (by omega) (by omega) w8.2.2.1
        have hwq : ∀ a : Int, 0 ≤ a → a < ac → WR 2 a M := by exact fun a a0 a1 => by have y := hwr a a0 a1; unfold WR at y ⊢; rw [Tm_f5 f5n, f5n 116 a (by omega) (by omega) (by omega) (by omega) (by omega)]; exact ⟨y.1, fun i i0 i1 => by rw [f5n 117 _ (by omega) (by omega) (by omega) (by omega) (by omega)]; exact y.2 i i0 i1⟩
        have hpq : ∀ a : Int, 0 ≤ a → a < ac → Pm M a = M 116 a := fun a a0 a1 => by rw [Pm_f5 f5n, f5n 116 a (by omega) (by omega) (by omega) (by omega) (by omega)]; exact hpm a a0 a1
        have hTq : ∀ a i : Int, 0 ≤ a → a < ac → 0 ≤ i → i < 2 * 2 * 2 → 0 ≤ Tm M a i ∧ Tm M a i < 2 := by rw [Tm_f5 f5n]; exact hT
        refine n_iconst c_167_294 ?_
        refine n_iadd c_167_295 rfl ?_
        refine n_iload_n c_167_296 rfl ?_
        refine n_if2_ge c_167_297 (by omega) (by omega) ?_ ?_
        · intro h2
          refine n_iinc (L2 := [some (2, 112), some (0, 3), some (0, x2), some (0, x3), some (0, (x4 + 1)), none, some (0, x6), some (0, x7)]) c_167_308 rfl rfl rfl ?_
          refine n_iconst c_167_311 ?_
          refine n_istore (L2 := [some (2, 112), some (0, 3), some (0, x2), some (0, x3), some (0, (x4 + 1)), none, some (0, x6), some (0, 0)]) c_167_312 rfl rfl ?_
          refine n_fg (le_s (le_s (le_s (le_s (le_s (le_n (le_n (le_s le_0)))))))) ?_
          exact ih.2.2.2.2 _ _ _ _ M hS (by omega) (by omega) (by omega) (by omega) (by omega) (by exact f5n) (by exact nd3) (by exact nd2) (by exact Or.inr (by omega)) (by exact ⟨M, M, by rw [show x4 + 1 - 1 = x4 by omega]; exact ⟨zrv, zvs, zi2, zlw, fun a a0 a1 => JAz.all hd (hwq a a0 a1) (hpq a a0 a1) ⟨a0, a1⟩ (by omega) zpd zvs zi2 (fun c cl => RE.al nd2 hd hTq (by decide +kernel) (by omega) cl) (fun i i0 i1 => by rw [nd4 i i0 (by omega), w4.2.2.2.2 125 _ (by omega) (by omega) (by omega)]; exact (w2.1 i i0 (by omega)).2.1) (by rw [nd5, w4.2.2.2.2 125 bq (by omega) (by omega) (by omega), w8.2.1.1]; omega), zhj⟩, fun _ _ _ => rfl, MRK.ini, fun i i0 i1 => by rw [nd4 i i0 (by omega), w4.2.2.2.2 125 _ (by omega) (by omega) (by omega)]; exact (w2.1 i i0 (by omega)).2.1, fun i i0 i1 => (nd2.1 i i0 i1).1.2⟩) (by omega) (by exact (fun a i q1 q2 => by rcases q1 with rfl | rfl; (rw [w4.2.1 i (by omega)]; exact w8.2.2.2 122 i (by omega) q2); (rw [w8.2.1.2 i (by omega)]; exact w8.2.2.2 123 i (by omega) q2))) (by omega)
        · intro h3
          refine n_aload_n c_167_300 rfl ?_
          refine n_iload_n c_167_301 rfl ?_
          refine n_iload_n c_167_302 rfl ?_
          refine n_iload c_167_303 rfl ?_
          have hcst : (x2 : Int) = 8 := by omega
          rw [hcst]
          refine n_v3V c_167_305 rfl sc_112.n rfl rfl rfl rfl (mjoinsX_3_2 (t := x4) (Ms := M) hS (by omega) (by omega) (by rfl) (by rw [f5n 112 4 (by omega) (by omega) (by omega) (by omega) (by omega)]; exact hac4) (by exact fun a a0 a1 => by have y := hwr a a0 a1; unfold WR at y ⊢; rw [Tm_f5 f5n, f5n 116 a (by omega) (by omega) (by omega) (by omega) (by omega)]; exact ⟨y.1, fun i i0 i1 => by rw [f5n 117 _ (by omega) (by omega) (by omega) (by omega) (by omega)]; exact y.2 i i0 i1⟩) (by rw [Tm_f5 f5n]; exact hT) (by exact fun i r i0 i1 r0 r1 => (nd2.1 i i0 (by omega)).2 r r0 (by omega)) (by exact fun i i0 i1 => (nd2.1 i i0 (by omega)).1.1) (by rcases w3 with u | u; (exact w4.pd nd1 nd4 u); (exfalso; omega)) (by exact zpd) (by exact fun i i0 i1 => zvs i i0 (by omega)) (by exact fun i i0 i1 => zi2 i x4 i0 i1 (by omega)) (by exact fun c c0 c1 q => by obtain ⟨i, i0, i1, e⟩ := nd2.2.2.1 c c0 c1 q; refine ⟨i, i0, ?_, e⟩; by_cases u : i = x4; (rw [u, nd5] at e; rw [← e, w4.2.2.2.2 125 bq (by omega) (by omega) (by omega)] at q; omega); (omega)) (by exact zrv) (by exact zlw) (by exact hpq)) ?_
          intro  M4 hP5
          obtain ⟨hS4, f5p0, f5p1, f5p2, f5p3, f5p4, f5p5⟩ := hP5
          have hS4c := hS4.2.2.2.1.1
          have hS4 := hS4.refl
          have hS4k0 := hS4c 112 0 (by unfold core; omega)
          obtain ⟨je1, je2, je3, je4⟩ := f5p0.re nd2 nd3 rfl
          have zj : ZJ 2 8 256 3 ac x4 M M4 := ⟨f5p3, zvs, zi2, f5p4, f5p5, fun j j0 j1 => f5p2 _ _ (zhj j j0 j1)⟩
          refine n_iinc (L2 := [some (2, 112), some (0, 3), some (0, 8), some (0, x3), some (0, (x4 + 1)), none, some (0, x6), some (0, x7)]) c_167_308 rfl rfl rfl ?_
          refine n_iconst c_167_311 ?_
          refine n_istore (L2 := [some (2, 112), some (0, 3), some (0, 8), some (0, x3), some (0, (x4 + 1)), none, some (0, x6), some (0, 0)]) c_167_312 rfl rfl ?_
          refine n_fg (le_s (le_s (le_s (le_s (le_s (le_n (le_n (le_s le_0)))))))) ?_
          exact ih.2.2.2.2 _ _ _ _ M4 hS4 (by omega) (by omega) (by omega) (by omega) (by omega) (by exact fun a i q1 q2 q3 q4 q5 => (f5p0.1 a i q3).trans (f5n a i q1 q2 q3 q4 q5)) (by exact je4) (by exact je3) (by exact Or.inl (f5p1.fr je1 je2)) (by exact ⟨M, M4, by rw [show x4 + 1 - 1 = x4 by omega]; exact zj, f5p0.1, MRK.ini, fun i i0 i1 => (f5p0.2.2.1 _).mpr (by rw [nd4 i i0 (by omega), w4.2.2.2.2 125 _ (by omega) (by omega) (by omega)]; exact (w2.1 i i0 (by omega)).2.1), fun i i0 i1 => (nd2.1 i i0 i1).1.2⟩) (by omega) (by exact fun a i q1 q2 => (f5p0.1 a i (by omega)).trans (by rcases q1 with rfl | rfl; (rw [w4.2.1 i (by omega)]; exact w8.2.2.2 122 i (by omega) q2); (rw [w8.2.1.2 i (by omega)]; exact w8.2.2.2 123 i (by omega) q2))) (by omega)
      · intro h6
        refine n_aload_n c_167_257 rfl ?_
        refine n_getR c_167_258 sc_112.n rfl rfl rfl r_112_18 ?_
        refine n_bipush c_167_261 rfl ?_
        refine n_iload c_167_263 rfl ?_
        refine n_imul c_167_265 rfl ?_
        refine n_iload c_167_266 rfl ?_
        refine n_iadd c_167_268 rfl ?_
        refine n_iload c_167_269 rfl ?_
        refine n_aload_n c_167_271 rfl ?_
        refine n_getV (bi := 0) c_167_272 sc_112.n rfl rfl rfl (show 2 ≤ M 112 0 ∧ M 112 0 ≤ 2 by omega) ?_
        intro z7 ez7 f8
        obtain rfl : z7 = 2 := by omega
        refine n_iremV c_167_275 (by omega) (by omega) ?_
        intro z9 ez9 f10
        refine n_iastoreM hS c_167_276 sc_126.n rfl (by omega) (m_126 (by omega) (by omega)) ?_
        intro M11 eM11 hS11
        have g11_0 : M11 112 0 = M 112 0 := by rw [eM11]; exact nu_a (by omega)
        refine n_iload c_167_277 rfl ?_
        refine n_aload_n c_167_279 rfl ?_
        refine n_getV (bi := 0) c_167_280 sc_112.n rfl rfl rfl (show 2 ≤ M11 112 0 ∧ M11 112 0 ≤ 2 by omega) ?_
        intro z12 ez12 f13
        obtain rfl : z12 = 2 := by omega
        refine n_idivV c_167_283 (by omega) (by omega) ?_
        intro z14 ez14 f15
        refine n_istore (L2 := [some (2, 112), some (0, 3), some (0, x2), some (0, x3), some (0, x4), none, some (0, z14), some (0, x7)]) c_167_284 rfl rfl ?_
        refine n_iinc (L2 := [some (2, 112), some (0, 3), some (0, x2), some (0, x3), some (0, x4), none, some (0, z14), some (0, (x7 + 1))]) c_167_286 rfl rfl rfl ?_
        refine n_goto c_167_289 ?_
        refine n_fg (le_s (le_s (le_s (le_s (le_s (le_n (le_s (le_s le_0)))))))) ?_
        exact ih.2.2.2.1 _ _ _ _ _ M11 hS11 (by omega) (by omega) (by omega) (by omega) (by omega) (by omega) (by exact ⟨Mm, bq, w0, w1, w2, w3, w4.st (M2 := M11) (j := ((9 * x4) + x7)) (v := z9) (by omega) (by omega) (by rw [ez9, w7]; rfl) eM11, w6, by rw [ez14, w7, show (x7 + 1).toNat = x7.toNat + 1 by omega]; show _ = bq / (2 * dpn 2 x7.toNat); rw [Int.mul_comm, ← Int.ediv_ediv_of_nonneg (by have y := dpn_pos hd x7.toNat; omega)], w8.1, w8.2.1.st eM11, w8.2.2⟩) (by omega)
    · intro x2 x3 x4 x7 M hS k2 k3 k4 k7 hdm v0 v1 v2 v3 v4 v5 v6 hnn
      obtain ⟨M1, M2, a1, a2, a3, a4, a5⟩ := v4
      refine n_iload c_167_314 rfl ?_
      refine n_iload c_167_316 rfl ?_
      refine n_if2_ge c_167_318 (by omega) (by omega) ?_ ?_
      · intro h1
        refine n_goto c_167_346 ?_
        have zfin := ZJ.fin a1 a2 a3 (by omega) (by omega) (fun i i0 i1 => a5 i i0 (by omega)) a4
        rw [show x4 - 1 + 1 = x4 by omega] at zfin
        refine n_fg (le_s (le_s (le_s (le_s (le_s (le_n (le_n (le_n le_0)))))))) ?_
        exact ih.2.1 _ _ _ M hS (by omega) (by omega) (by omega) (by omega) (by exact v0) (by exact v1) (by exact v2.fin (by omega)) (by exact v3) (by exact zfin) (by exact v6) (by omega)
      · intro h2
        refine n_aload_n c_167_321 rfl ?_
        refine n_getR c_167_322 sc_112.n rfl rfl rfl r_112_17 ?_
        refine n_aload_n c_167_325 rfl ?_
        refine n_getR c_167_326 sc_112.n rfl rfl rfl r_112_14 ?_
        refine n_sipush c_167_329 rfl ?_
        refine n_iload_n c_167_332 rfl ?_
        refine n_imul c_167_333 rfl ?_
        refine n_iload c_167_334 rfl ?_
        refine n_iadd c_167_336 rfl ?_
        refine n_ialoadV c_167_337 sc_122.n rfl rfl rfl (by omega) (t_122 hS (by omega)) ?_
        intro z3 ez3 f4
        have zce : z3 = cdr 3 M x7 := by rw [ez3]; rfl
        refine n_iconst c_167_338 ?_
        refine n_iastoreM hS c_167_339 sc_125.n rfl (by omega) (m_125 (by omega) (by omega)) ?_
        intro M5 eM5 hS5
        have g5_0 : M5 112 0 = M 112 0 := by rw [eM5]; exact nu_a (by omega)
        refine n_iinc (L2 := [some (2, 112), some (0, 3), some (0, x2), some (0, x3), some (0, x4), none, none, some (0, (x7 + 1))]) c_167_340 rfl rfl rfl ?_
        refine n_goto c_167_343 ?_
        refine n_fg (le_s (le_s (le_s (le_s (le_s (le_n (le_n (le_s le_0)))))))) ?_
        exact ih.2.2.2.2 _ _ _ _ M5 hS5 (by omega) (by omega) (by omega) (by omega) (by omega) (by exact fun a i q1 q2 q3 q4 q5 => by rw [eM5, nu_a q3]; exact v0 a i q1 q2 q3 q4 q5) (by exact (v1.mk eM5 (by rw [zce]; exact (v2.1 x7 (by omega) (by omega)).1.1)).ch (Tm_mk eM5)) (by exact (v2.st (by omega) zce eM5).ch (Tm_mk eM5)) (by rcases v3 with u | u; (exact Or.inl (u.mk eM5)); (exact Or.inr u)) (by exact ⟨M1, M2, a1, a2, a3.st (by omega) zce eM5, a4, a5⟩) (by omega) (by exact fun a i q1 q2 => by rw [eM5, nu_a (by omega)]; exact v6 a i q1 q2) (by omega)
set_option maxHeartbeats 4000000 in
theorem mmakesX_3_2 {xs : List Int32} {e : Nat} {ac : Int} {M : nM} {Ms : nM} (hS : Sf 2 ac M M) (hdm : M 112 0 = 2) (hms : M = Ms) (hac4 : Ms 112 4 = ac) (hwr : ∀ a : Int, 0 ≤ a → a < ac → WR 2 a Ms) (hkr : Ms 124 3 ≠ -1 → cMd (NCl 2 8 3 ac (Tm Ms)) (Ms 124 3)) (hpm : ∀ a : Int, 0 ≤ a → a < ac → Pm Ms a = Ms 116 a) (hkl : Ms 124 3 ≠ -1 → Ms 124 3 ≠ -8 → LOr 2 8 3 ac Ms (Ms 124 3) Ms) : nW xs (e + 2) 167 0 [some (2, 112), some (0, 3), none, none, none, none, none, none] [] M (nPV fun M1 => Sf 2 ac M1 M1 ∧ (cMd (NCl 2 8 3 ac (Tm Ms)) (M1 124 3)) ∧ (F5 3 Ms M1) ∧ (M1 124 3 ≠ -8 → LOr 2 8 3 ac Ms (M1 124 3) M1) ∧ (F6 3 Ms M1)) := by
  have hd : (2 : Int) = 2 ∨ (2 : Int) = 3 := by decide
  have hac := hS.2.2.2.2
  have hT := Tm_r hS
  rw [hms] at hT
  refine n_aload_n c_167_0 rfl ?_
  refine n_getR c_167_1 sc_112.n rfl rfl rfl r_112_16 ?_
  refine n_iload_n c_167_4 rfl ?_
  refine n_ialoadV c_167_5 sc_124.n rfl rfl rfl (by omega) (t_124 hS (by omega)) ?_
  intro z1 ez1 f2
  refine n_iconst c_167_6 ?_
  refine n_if2_eq c_167_7 (by omega) (by omega) ?_ ?_
  · intro h3
    refine n_aload_n c_167_11 rfl ?_
    refine n_iload_n c_167_12 rfl ?_
    refine n_v1I c_167_13 rfl sc_112.n rfl rfl rfl rfl (mrowsOf3_2  hS (by omega)) ?_
    intro z4 M5 hP6
    obtain ⟨eM, f6⟩ := hP6
    subst eM
    obtain rfl : z4 = 8 := by omega
    refine n_istore_n (L2 := [some (2, 112), some (0, 3), some (0, 8), none, none, none, none, none]) c_167_16 rfl rfl ?_
    refine n_aload_n c_167_17 rfl ?_
    refine n_getV (bi := 0) c_167_18 sc_112.n rfl rfl rfl (show 2 ≤ M 112 0 ∧ M 112 0 ≤ 2 by omega) ?_
    intro z7 ez7 f8
    obtain rfl : z7 = 2 := by omega
    refine n_iload_n c_167_21 rfl ?_
    refine n_s2I c_167_22 rfl rfl rfl rfl (mpower8_2  hS ) ?_
    intro z9 M10 hP11
    obtain ⟨eM, f11⟩ := hP11
    subst eM
    obtain rfl : z9 = 256 := by omega
    refine n_istore_n (L2 := [some (2, 112), some (0, 3), some (0, 8), some (0, 256), none, none, none, none]) c_167_25 rfl rfl ?_
    refine n_iconst c_167_26 ?_
    refine n_istore (L2 := [some (2, 112), some (0, 3), some (0, 8), some (0, 256), some (0, 0), none, none, none]) c_167_27 rfl rfl ?_
    refine n_fg (le_s (le_s (le_s (le_s (le_s (le_n (le_n (le_n le_0)))))))) ?_
    exact (mmakesX_3_2_c hS hdm hms hac4 hwr hkr hpm hkl 272458).1 _ _ _ M hS (by omega) (by omega) (by omega) (by omega) (by rw [hms]; exact fun _ _ _ _ _ _ _ => rfl) (by exact fun c c0 c1 => by omega) (by rw [hms]; exact fun _ _ _ _ => rfl) (by omega)
  · intro h12
    exact n_rV c_167_10 rfl ⟨hS, by have y : M 124 3 ≠ -1 := (by omega); rw [hms] at y ⊢; exact hkr y, by rw [hms]; exact fun _ _ _ _ _ _ _ => rfl, by have y : M 124 3 ≠ -1 := (by omega); rw [hms] at y ⊢; exact hkl y, by rw [hms]; exact fun _ _ _ _ => rfl⟩

set_option maxHeartbeats 4000000 in
theorem misMakX3_2 {xs : List Int32} {e : Nat} {ac : Int} {M0 M : nM} (hS : Sf 2 ac M0 M) (hdm : M0 112 0 = 2) : nW xs e 161 0 [some (2, 112), some (0, 3)] [] M (nPI fun z M1 => M = M1 ∧ (1 ≤ z ∧ z ≤ 1)) := by
  have hd : (2 : Int) = 2 ∨ (2 : Int) = 3 := by decide
  have hac := hS.2.2.2.2
  refine n_iload_n c_161_0 rfl ?_
  refine n_iconst c_161_1 ?_
  refine n_if2_lt c_161_2 (by omega) (by omega) ?_ ?_
  · intro h1
    exfalso; omega
  · intro h2
    refine n_iload_n c_161_5 rfl ?_
    refine n_aload_n c_161_6 rfl ?_
    refine n_getV (bi := 0) c_161_7 sc_112.n rfl rfl rfl (t_dm hS hdm) ?_
    intro z3 ez3 f4
    obtain rfl : z3 = 2 := by omega
    refine n_iconst c_161_10 ?_
    refine n_if2_ne c_161_11 (by omega) (by omega) ?_ ?_
    · intro h5
      exfalso; omega
    · intro h6
      refine n_iconst c_161_14 ?_
      refine n_goto c_161_15 ?_
      refine n_if2_gt c_161_19 (by omega) (by omega) ?_ ?_
      · intro h7
        exfalso; omega
      · intro h8
        refine n_iconst c_161_22 ?_
        refine n_goto c_161_23 ?_
        exact n_rZ c_161_27 rfl (by omega) ⟨rfl, by omega⟩

set_option maxHeartbeats 4000000 in
theorem mmadeX_3_2 {xs : List Int32} {e : Nat} {ac : Int} {M : nM} {gd : Int} {Ms : nM} (hS : Sf 2 ac M M) (hdm : M 112 0 = 2) (hgd : M 112 0 = gd) (hms : M = Ms) (hac4 : Ms 112 4 = ac) (hwr : ∀ a : Int, 0 ≤ a → a < ac → WR 2 a Ms) (hkr : Ms 124 3 ≠ -1 → cMd (NCl 2 8 3 ac (Tm Ms)) (Ms 124 3)) (hpm : ∀ a : Int, 0 ≤ a → a < ac → Pm Ms a = Ms 116 a) (hkl : Ms 124 3 ≠ -1 → Ms 124 3 ≠ -8 → LOr 2 8 3 ac Ms (Ms 124 3) Ms) : nW xs (e + 3) 168 0 [some (2, 112), some (0, 3)] [] M (nPI fun z M1 => Sf 2 ac M1 M1 ∧ (-2147483648 ≤ z ∧ z ≤ 2147483647) ∧ (M1 112 0 = gd) ∧ ((M1 124 3 ≠ -1 → cMd (NCl 2 8 3 ac (Tm Ms)) (M1 124 3)) ∧ F5 3 Ms M1) ∧ (M1 124 3 ≠ -1 → M1 124 3 ≠ -8 → LOr 2 8 3 ac Ms (M1 124 3) M1) ∧ (F6 3 Ms M1) ∧ (cMd (NCl 2 8 3 ac (Tm Ms)) z)) := by
  have hd : (2 : Int) = 2 ∨ (2 : Int) = 3 := by decide
  have hac := hS.2.2.2.2
  refine n_aload_n c_168_0 rfl ?_
  refine n_iload_n c_168_1 rfl ?_
  refine n_v1I c_168_2 rfl sc_112.n rfl rfl rfl rfl (misMakX3_2  hS (by omega)) ?_
  intro z1 M2 hP3
  obtain ⟨eM, f3⟩ := hP3
  subst eM
  obtain rfl : z1 = 1 := by omega
  refine n_if0_ne c_168_5 (by omega) ?_ ?_
  · intro h4
    refine n_aload_n c_168_10 rfl ?_
    refine n_iload_n c_168_11 rfl ?_
    refine n_v1V c_168_12 rfl sc_112.n rfl rfl rfl rfl (mmakesX_3_2 (Ms := M) hS (by omega) (by rfl) (by rw [hms]; exact hac4) (by rw [hms]; exact hwr) (by rw [hms]; exact hkr) (by rw [hms]; exact hpm) (by rw [hms]; exact hkl)) ?_
    intro  M5 hP6
    obtain ⟨hS5, f6p0, f6p1, f6p2, f6p3⟩ := hP6
    have g112 := f6p1 112 0 (by omega) (by omega) (by omega) (by omega) (by omega)
    refine n_aload_n c_168_15 rfl ?_
    refine n_getR c_168_16 sc_112.n rfl rfl rfl r_112_16 ?_
    refine n_iload_n c_168_19 rfl ?_
    refine n_ialoadV c_168_20 sc_124.n rfl rfl rfl (by omega) (t_124 hS5 (by omega)) ?_
    intro z7 ez7 f8
    exact n_rI c_168_21 rfl ⟨hS5, by omega, by omega, by have y := f6p0; have u := f6p1; rw [hms] at y u; exact ⟨fun _ => y, u⟩, by have u := f6p2; rw [hms] at u; exact fun _ => u, by have u := f6p3; rw [hms] at u; exact u, by have y := f6p0; rw [hms] at y; rw [ez7]; exact y⟩
  · intro h9
    exfalso; omega

set_option maxHeartbeats 4000000 in
theorem mmadeOfX_3_2 {xs : List Int32} {e : Nat} {ac : Int} {M : nM} {i w gd : Int} {Ms : nM} (hS : Sf 2 ac M M) (hdm : M 112 0 = 2) (hi : -2147483648 ≤ i ∧ i ≤ 2147483647) (hw : -2147483648 ≤ w ∧ w ≤ 2147483647) (hgd : M 112 0 = gd) (hms : M = Ms) (hac4 : Ms 112 4 = ac) (hwr : ∀ a : Int, 0 ≤ a → a < ac → WR 2 a Ms) (hkr : Ms 124 3 ≠ -1 → cMd (NCl 2 8 3 ac (Tm Ms)) (Ms 124 3)) (hpm : ∀ a : Int, 0 ≤ a → a < ac → Pm Ms a = Ms 116 a) (hkl : Ms 124 3 ≠ -1 → Ms 124 3 ≠ -8 → LOr 2 8 3 ac Ms (Ms 124 3) Ms) : nW xs (e + 3) 169 0 [some (2, 112), some (0, 3), some (0, i), some (0, w)] [] M (nPI fun z M1 => Sf 2 ac M1 M1 ∧ (-2147483648 ≤ z ∧ z ≤ 2147483647) ∧ (M1 112 0 = gd) ∧ ((M1 124 3 ≠ -1 → cMd (NCl 2 8 3 ac (Tm Ms)) (M1 124 3)) ∧ F5 3 Ms M1) ∧ (M1 124 3 ≠ -1 → M1 124 3 ≠ -8 → LOr 2 8 3 ac Ms (M1 124 3) M1) ∧ (F6 3 Ms M1) ∧ (mMO 3 i w z M1) ∧ (cMd (NCl 2 8 3 ac (Tm Ms)) (M1 124 3))) := by
  have hd : (2 : Int) = 2 ∨ (2 : Int) = 3 := by decide
  have hac := hS.2.2.2.2
  refine n_aload_n c_169_0 rfl ?_
  refine n_iload_n c_169_1 rfl ?_
  refine n_v1I c_169_2 rfl sc_112.n rfl rfl rfl rfl (misMakX3_2  hS (by omega)) ?_
  intro z1 M2 hP3
  obtain ⟨eM, f3⟩ := hP3
  subst eM
  obtain rfl : z1 = 1 := by omega
  refine n_if0_ne c_169_5 (by omega) ?_ ?_
  · intro h4
    refine n_aload_n c_169_10 rfl ?_
    refine n_iload_n c_169_11 rfl ?_
    refine n_v1V c_169_12 rfl sc_112.n rfl rfl rfl rfl (mmakesX_3_2 (Ms := M) hS (by omega) (by rfl) (by rw [hms]; exact hac4) (by rw [hms]; exact hwr) (by rw [hms]; exact hkr) (by rw [hms]; exact hpm) (by rw [hms]; exact hkl)) ?_
    intro  M5 hP6
    obtain ⟨hS5, f6p0, f6p1, f6p2, f6p3⟩ := hP6
    have g112 := f6p1 112 0 (by omega) (by omega) (by omega) (by omega) (by omega)
    refine n_iload_n c_169_15 rfl ?_
    refine n_if0_lt c_169_16 (by omega) ?_ ?_
    · intro h7
      refine n_iconst c_169_29 ?_
      exact n_rI c_169_30 rfl ⟨hS5, by omega, by omega, by have y := f6p0; have u := f6p1; rw [hms] at y u; exact ⟨fun _ => y, u⟩, by have u := f6p2; rw [hms] at u; exact fun _ => u, by have u := f6p3; rw [hms] at u; exact u, by unfold mMO; omega, by have y := f6p0; rw [hms] at y; exact y⟩
    · intro h8
      refine n_iload_n c_169_19 rfl ?_
      refine n_aload_n c_169_20 rfl ?_
      refine n_getR c_169_21 sc_112.n rfl rfl rfl r_112_16 ?_
      refine n_iload_n c_169_24 rfl ?_
      refine n_ialoadV c_169_25 sc_124.n rfl rfl rfl (by omega) (t_124 hS5 (by omega)) ?_
      intro z9 ez9 f10
      refine n_if2_lt c_169_26 (by omega) (by omega) ?_ ?_
      · intro h11
        refine n_iload_n c_169_31 rfl ?_
        refine n_if0_ne c_169_32 (by omega) ?_ ?_
        · intro h12
          refine n_iload_n c_169_50 rfl ?_
          refine n_iconst c_169_51 ?_
          refine n_if2_ne c_169_52 (by omega) (by omega) ?_ ?_
          · intro h13
            refine n_iconst c_169_64 ?_
            exact n_rI c_169_65 rfl ⟨hS5, by omega, by omega, by have y := f6p0; have u := f6p1; rw [hms] at y u; exact ⟨fun _ => y, u⟩, by have u := f6p2; rw [hms] at u; exact fun _ => u, by have u := f6p3; rw [hms] at u; exact u, by unfold mMO; omega, by have y := f6p0; rw [hms] at y; exact y⟩
          · intro h14
            refine n_aload_n c_169_55 rfl ?_
            refine n_iload_n c_169_56 rfl ?_
            refine n_iload_n c_169_57 rfl ?_
            refine n_v2I c_169_58 rfl sc_112.n rfl rfl rfl rfl (msizeOfX_3_2 (i := i) hS5 (by omega) (by omega)) ?_
            intro z15 M16 hP17
            obtain ⟨eM, f17, f17p0⟩ := hP17
            subst eM
            refine n_goto c_169_61 ?_
            exact n_rI c_169_65 rfl ⟨hS5, by omega, by omega, by have y := f6p0; have u := f6p1; rw [hms] at y u; exact ⟨fun _ => y, u⟩, by have u := f6p2; rw [hms] at u; exact fun _ => u, by have u := f6p3; rw [hms] at u; exact u, by unfold mMO; omega, by have y := f6p0; rw [hms] at y; exact y⟩
        · intro h18
          refine n_aload_n c_169_35 rfl ?_
          refine n_getR c_169_36 sc_112.n rfl rfl rfl r_112_14 ?_
          refine n_sipush c_169_39 rfl ?_
          refine n_iload_n c_169_42 rfl ?_
          refine n_imul c_169_43 rfl ?_
          refine n_iload_n c_169_44 rfl ?_
          refine n_iadd c_169_45 rfl ?_
          refine n_ialoadV c_169_46 sc_122.n rfl rfl rfl (by omega) (t_122 hS5 (by omega)) ?_
          intro z19 ez19 f20
          refine n_goto c_169_47 ?_
          exact n_rI c_169_65 rfl ⟨hS5, by omega, by omega, by have y := f6p0; have u := f6p1; rw [hms] at y u; exact ⟨fun _ => y, u⟩, by have u := f6p2; rw [hms] at u; exact fun _ => u, by have u := f6p3; rw [hms] at u; exact u, by unfold mMO; omega, by have y := f6p0; rw [hms] at y; exact y⟩
      · intro h21
        refine n_iconst c_169_29 ?_
        exact n_rI c_169_30 rfl ⟨hS5, by omega, by omega, by have y := f6p0; have u := f6p1; rw [hms] at y u; exact ⟨fun _ => y, u⟩, by have u := f6p2; rw [hms] at u; exact fun _ => u, by have u := f6p3; rw [hms] at u; exact u, by unfold mMO; omega, by have y := f6p0; rw [hms] at y; exact y⟩
  · intro h22
    exfalso; omega

set_option maxHeartbeats 4000000 in
theorem msizeX_3_2_c {xs : List Int32} {e : Nat} {ac : Int} {M : nM} {c gd : Int} {Ms : nM} (hS : Sf 2 ac M M) (hdm : M 112 0 = 2) (hc : -2147483648 ≤ c ∧ c ≤ 2147483647) (hgd : M 112 0 = gd) (hms : M = Ms) (hac4 : Ms 112 4 = ac) (hwr : ∀ a : Int, 0 ≤ a → a < ac → WR 2 a Ms) (hkr : Ms 124 3 ≠ -1 → cMd (NCl 2 8 3 ac (Tm Ms)) (Ms 124 3)) (hpm : ∀ a : Int, 0 ≤ a → a < ac → Pm Ms a = Ms 116 a) (hkl : Ms 124 3 ≠ -1 → Ms 124 3 ≠ -8 → LOr 2 8 3 ac Ms (Ms 124 3) Ms) : ∀ nn : Nat, (∀ (x3 : Int) (M : nM), Sf 2 ac M M → (0 ≤ c ∧ c ≤ 255) → (0 ≤ x3 ∧ x3 ≤ 256) → (M 112 0 = 2) → (M 112 0 = gd) → ((M 124 3 ≠ -1 → cMd (NCl 2 8 3 ac (Tm Ms)) (M 124 3)) ∧ F5 3 Ms M) → (M 124 3 ≠ -1 → M 124 3 ≠ -8 → LOr 2 8 3 ac Ms (M 124 3) M) → (F6 3 Ms M) → (256 - x3) * 1 + 1 < (nn : Int) → nW xs (e + 3) 170 51 [some (2, 112), some (0, 3), some (0, c), some (0, x3)] [] M (nPI fun z M1 => Sf 2 ac M1 M1 ∧ (-2147483648 ≤ z ∧ z ≤ 2147483647) ∧ (M1 112 0 = gd) ∧ ((M1 124 3 ≠ -1 → cMd (NCl 2 8 3 ac (Tm Ms)) (M1 124 3)) ∧ F5 3 Ms M1) ∧ (M1 124 3 ≠ -1 → M1 124 3 ≠ -8 → LOr 2 8 3 ac Ms (M1 124 3) M1) ∧ (F6 3 Ms M1))) := by
  have hd : (2 : Int) = 2 ∨ (2 : Int) = 3 := by decide
  have hac := hS.2.2.2.2
  intro nn
  induction nn with
  | zero => intros; omega
  | succ nn ih =>
    intro x3 M hS k2 k3 hdm hggd v0 v1 v2 hnn
    refine n_iload_n c_170_51 rfl ?_
    refine n_aload_n c_170_52 rfl ?_
    refine n_getR c_170_53 sc_112.n rfl rfl rfl r_112_16 ?_
    refine n_iload_n c_170_56 rfl ?_
    refine n_ialoadV c_170_57 sc_124.n rfl rfl rfl (by omega) (t_124 hS (by omega)) ?_
    intro z1 ez1 f2
    refine n_if2_ge c_170_58 (by omega) (by omega) ?_ ?_
    · intro h3
      refine n_bipush c_170_90 rfl ?_
      exact n_rI c_170_92 rfl ⟨hS, by omega, by omega, by exact v0, by exact v1, by exact v2⟩
    · intro h4
      refine n_aload_n c_170_61 rfl ?_
      refine n_getR c_170_62 sc_112.n rfl rfl rfl r_112_14 ?_
      refine n_sipush c_170_65 rfl ?_
      refine n_iload_n c_170_68 rfl ?_
      refine n_imul c_170_69 rfl ?_
      refine n_iload_n c_170_70 rfl ?_
      refine n_iadd c_170_71 rfl ?_
      refine n_ialoadV c_170_72 sc_122.n rfl rfl rfl (by omega) (t_122 hS (by omega)) ?_
      intro z5 ez5 f6
      refine n_iload_n c_170_73 rfl ?_
      refine n_if2_ne c_170_74 (by omega) (by omega) ?_ ?_
      · intro h7
        refine n_iinc (L2 := [some (2, 112), some (0, 3), some (0, c), some (0, (x3 + 1))]) c_170_84 rfl rfl rfl ?_
        refine n_goto c_170_87 ?_
        refine n_fg (le_s (le_s (le_s (le_s le_0)))) ?_
        exact ih _ M hS (by omega) (by omega) (by omega) (by omega) (by exact v0) (by exact v1) (by exact v2) (by omega)
      · intro h8
        refine n_aload_n c_170_77 rfl ?_
        refine n_iload_n c_170_78 rfl ?_
        refine n_iload_n c_170_79 rfl ?_
        refine n_v2I c_170_80 rfl sc_112.n rfl rfl rfl rfl (msizeOf_2 (n := 3) (i := x3) hS (by omega) (by omega) (by omega)) ?_
        intro z9 M10 hP11
        obtain ⟨eM, f11⟩ := hP11
        subst eM
        exact n_rI c_170_83 rfl ⟨hS, by omega, by omega, by exact v0, by exact v1, by exact v2⟩
set_option maxHeartbeats 4000000 in
theorem msizeX_3_2 {xs : List Int32} {e : Nat} {ac : Int} {M : nM} {c gd : Int} {Ms : nM} (hS : Sf 2 ac M M) (hdm : M 112 0 = 2) (hc : -2147483648 ≤ c ∧ c ≤ 2147483647) (hgd : M 112 0 = gd) (hms : M = Ms) (hac4 : Ms 112 4 = ac) (hwr : ∀ a : Int, 0 ≤ a → a < ac → WR 2 a Ms) (hkr : Ms 124 3 ≠ -1 → cMd (NCl 2 8 3 ac (Tm Ms)) (Ms 124 3)) (hpm : ∀ a : Int, 0 ≤ a → a < ac → Pm Ms a = Ms 116 a) (hkl : Ms 124 3 ≠ -1 → Ms 124 3 ≠ -8 → LOr 2 8 3 ac Ms (Ms 124 3) Ms) : nW xs (e + 3) 170 0 [some (2, 112), some (0, 3), some (0, c), none] [] M (nPI fun z M1 => Sf 2 ac M1 M1 ∧ (-2147483648 ≤ z ∧ z ≤ 2147483647) ∧ (M1 112 0 = gd) ∧ ((M1 124 3 ≠ -1 → cMd (NCl 2 8 3 ac (Tm Ms)) (M1 124 3)) ∧ F5 3 Ms M1) ∧ (M1 124 3 ≠ -1 → M1 124 3 ≠ -8 → LOr 2 8 3 ac Ms (M1 124 3) M1) ∧ (F6 3 Ms M1)) := by
  have hd : (2 : Int) = 2 ∨ (2 : Int) = 3 := by decide
  have hac := hS.2.2.2.2
  refine n_aload_n c_170_0 rfl ?_
  refine n_iload_n c_170_1 rfl ?_
  refine n_v1I c_170_2 rfl sc_112.n rfl rfl rfl rfl (misMakX3_2  hS (by omega)) ?_
  intro z1 M2 hP3
  obtain ⟨eM, f3⟩ := hP3
  subst eM
  obtain rfl : z1 = 1 := by omega
  refine n_if0_eq c_170_5 (by omega) ?_ ?_
  · intro h4
    exfalso; omega
  · intro h5
    refine n_iload_n c_170_8 rfl ?_
    refine n_if0_lt c_170_9 (by omega) ?_ ?_
    · intro h6
      refine n_iconst c_170_28 ?_
      exact n_rI c_170_29 rfl ⟨hS, by omega, by omega, by rw [hms]; exact ⟨hkr, fun _ _ _ _ _ _ _ => rfl⟩, by rw [hms]; exact hkl, by rw [hms]; exact fun _ _ _ _ => rfl⟩
    · intro h7
      refine n_iload_n c_170_12 rfl ?_
      refine n_aload_n c_170_13 rfl ?_
      refine n_getV (bi := 0) c_170_14 sc_112.n rfl rfl rfl (show 2 ≤ M 112 0 ∧ M 112 0 ≤ 2 by omega) ?_
      intro z8 ez8 f9
      obtain rfl : z8 = 2 := by omega
      refine n_aload_n c_170_17 rfl ?_
      refine n_iload_n c_170_18 rfl ?_
      refine n_v1I c_170_19 rfl sc_112.n rfl rfl rfl rfl (mrowsOf3_2  hS (by omega)) ?_
      intro z10 M11 hP12
      obtain ⟨eM, f12⟩ := hP12
      subst eM
      obtain rfl : z10 = 8 := by omega
      refine n_s2I c_170_22 rfl rfl rfl rfl (mpower8_2  hS ) ?_
      intro z13 M14 hP15
      obtain ⟨eM, f15⟩ := hP15
      subst eM
      obtain rfl : z13 = 256 := by omega
      refine n_if2_lt c_170_25 (by omega) (by omega) ?_ ?_
      · intro h16
        refine n_aload_n c_170_30 rfl ?_
        refine n_iload_n c_170_31 rfl ?_
        refine n_v1V c_170_32 rfl sc_112.n rfl rfl rfl rfl (mmakesX_3_2 (Ms := M) hS (by omega) (by rfl) (by rw [hms]; exact hac4) (by rw [hms]; exact hwr) (by rw [hms]; exact hkr) (by rw [hms]; exact hpm) (by rw [hms]; exact hkl)) ?_
        intro  M17 hP18
        obtain ⟨hS17, f18p0, f18p1, f18p2, f18p3⟩ := hP18
        have g112 := f18p1 112 0 (by omega) (by omega) (by omega) (by omega) (by omega)
        refine n_aload_n c_170_35 rfl ?_
        refine n_getR c_170_36 sc_112.n rfl rfl rfl r_112_16 ?_
        refine n_iload_n c_170_39 rfl ?_
        refine n_ialoadV c_170_40 sc_124.n rfl rfl rfl (by omega) (t_124 hS17 (by omega)) ?_
        intro z19 ez19 f20
        refine n_bipush c_170_41 rfl ?_
        refine n_if2_ne c_170_43 (by omega) (by omega) ?_ ?_
        · intro h21
          refine n_iconst c_170_49 ?_
          refine n_istore_n (L2 := [some (2, 112), some (0, 3), some (0, c), some (0, 0)]) c_170_50 rfl rfl ?_
          refine n_fg (le_s (le_s (le_s (le_s le_0)))) ?_
          exact (msizeX_3_2_c hS hdm hc hgd hms hac4 hwr hkr hpm hkl 526) _ M17 hS17 (by omega) (by omega) (by omega) (by omega) (by have y := f18p0; have u := f18p1; rw [hms] at y u; exact ⟨fun _ => y, u⟩) (by have u := f18p2; rw [hms] at u; exact fun _ => u) (by have u := f18p3; rw [hms] at u; exact u) (by omega)
        · intro h22
          refine n_bipush c_170_46 rfl ?_
          exact n_rI c_170_48 rfl ⟨hS17, by omega, by omega, by have y := f18p0; have u := f18p1; rw [hms] at y u; exact ⟨fun _ => y, u⟩, by have u := f18p2; rw [hms] at u; exact fun _ => u, by have u := f18p3; rw [hms] at u; exact u⟩
      · intro h23
        refine n_iconst c_170_28 ?_
        exact n_rI c_170_29 rfl ⟨hS, by omega, by omega, by rw [hms]; exact ⟨hkr, fun _ _ _ _ _ _ _ => rfl⟩, by rw [hms]; exact hkl, by rw [hms]; exact fun _ _ _ _ => rfl⟩
