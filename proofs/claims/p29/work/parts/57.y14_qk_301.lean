/-! What the methods tell. -/
set_option maxHeartbeats 4000000 in
theorem lawMaskX_3_c {xs : List Int32} {e : Nat} {ac : Int} {M0 M : nM} (hS : Sf 3 ac M0 M)  : ∀ nn : Nat, (∀ (x1 x2 : Int), (0 ≤ x1 ∧ x1 ≤ 4095) → (0 ≤ x2 ∧ x2 ≤ 30) → (LMk x1 x2 (fun i => M 33 i)) → (x2 ≤ M 32 1) → (30 - x2) * 1 + 1 < (nn : Int) → nW xs e 77 4 [some (2, 32), some (0, x1), some (0, x2)] [] M (nPI fun z M1 => M = M1 ∧ (0 ≤ z ∧ z ≤ 4095) ∧ (LMk z (M 32 1) (fun i => M 33 i)))) := by
  have hd : (3 : Int) = 2 ∨ (3 : Int) = 3 := by decide
  have hac := hS.2.2.2.2
  intro nn
  induction nn with
  | zero => intros; omega
  | succ nn ih =>
    intro x1 x2 k1 k2 v0 v1 hnn
    refine n_iload_n c_77_4 rfl (n_aload_n c_77_5 rfl (n_getV (bi := 1) c_77_6 sc_32.n rfl rfl rfl (t_32_1 hS) ?_))
    intro z1 ez1 f2
    refine n_if2_ge c_77_9 (by omega) (by omega) ?_ ?_
    · intro h3
      refine n_iload_n c_77_29 rfl ?_
      exact n_rI c_77_30 rfl ⟨rfl, by omega, by have e : x2 = M 32 1 := (by omega); rw [← e]; exact v0⟩
    · intro h4
      refine n_iload_n c_77_12 rfl (n_iconst c_77_13 (n_aload_n c_77_14 rfl (n_getR c_77_15 sc_32.n rfl rfl rfl r_32_2 (n_iload_n c_77_18 rfl (n_ialoadV c_77_19 sc_33.n rfl rfl rfl (by omega) (t_33 hS (by omega)) ?_)))))
      intro z5 ez5 f6
      refine n_i_ishl c_77_20 rfl ?_
      have f7 := n_shl_1 (y := z5) (a := 0) (b := 11) (by decide) (by omega)
      generalize gz8 : (n_shl 1 z5) = z8 at f7 ⊢
      refine n_i_ior c_77_21 rfl ?_
      have f9 := n_or_k (x := x1) (y := z8) (n := 12) (by decide) (by omega) (by omega)
      generalize gz10 : (n_or x1 z8) = z10 at f9 ⊢
      refine n_istore_n (L2 := [some (2, 32), some (0, z10), some (0, x2)]) c_77_22 rfl rfl (n_iinc (L2 := [some (2, 32), some (0, z10), some (0, (x2 + 1))]) c_77_23 rfl rfl rfl (n_goto c_77_26 (n_fg (le_s (le_s (le_s le_0))) ?_)))
      exact ih _ _ (by omega) (by omega) (by rw [← gz10, ← gz8]; exact LMk.add v0 (by omega) (by omega) ez5) (by have y := t_32_1 hS; omega) (by omega)
set_option maxHeartbeats 4000000 in
theorem lawMaskX_3 {xs : List Int32} {e : Nat} {ac : Int} {M0 M : nM} (hS : Sf 3 ac M0 M)  : nW xs e 77 0 [some (2, 32), none, none] [] M (nPI fun z M1 => M = M1 ∧ (0 ≤ z ∧ z ≤ 4095) ∧ (LMk z (M 32 1) (fun i => M 33 i))) := by
  have hd : (3 : Int) = 2 ∨ (3 : Int) = 3 := by decide
  have hac := hS.2.2.2.2
  refine n_iconst c_77_0 (n_istore_n (L2 := [some (2, 32), some (0, 0), none]) c_77_1 rfl rfl (n_iconst c_77_2 (n_istore_n (L2 := [some (2, 32), some (0, 0), some (0, 0)]) c_77_3 rfl rfl (n_fg (le_s (le_s (le_s le_0))) ?_))))
  exact (lawMaskX_3_c hS  74) _ _ (by omega) (by omega) (by exact LMk.init) (by have y := t_32_1 hS; omega) (by omega)

set_option maxHeartbeats 4000000 in
theorem quickX0_3 {xs : List Int32} {e : Nat} {ac : Int} {M0 M : nM} {Ms : nM} (hS : Sf 3 ac M0 M) (hms : M = Ms) (hxl : ∀ l : Int, 0 ≤ l → l < Ms 3 15 → LawOk 3 (79 + 2 * l) Ms) : nW xs (e + 31) 120 0 [some (2, 3), some (0, 0)] [] M (nPJ fun z M1 => Sf 3 ac M0 M1 ∧ (-9223372036854775808 ≤ z ∧ z ≤ 9223372036854775807) ∧ (cQ 0 3 z 9 Ms)) := by
  have hd : (3 : Int) = 2 ∨ (3 : Int) = 3 := by decide
  have hac := hS.2.2.2.2
  have t15 := t_3_15 (hms ▸ hS)
  refine n_iload_n c_120_0 rfl ?_
  refine n_if0_ne c_120_1 (by omega) ?_ ?_
  · intro h1
    exfalso; omega
  · intro h2
    refine n_aload_n c_120_4 rfl (n_getR c_120_5 sc_3.n rfl rfl rfl r_3_8 (n_aload_n c_120_8 rfl (n_getR c_120_9 sc_3.n rfl rfl rfl r_3_0 (n_v1V c_120_12 rfl sc_44.n rfl rfl rfl rfl (beHalfX_3 (Mz := M) hS (by rfl)) ?_))))
    intro  M3 hP4
    obtain ⟨hS3, f4p0, f4p1, f4p2⟩ := hP4
    have fqb : FQk 0 3 M3 := ⟨f4p0.1, f4p0.2.1, f4p0.2.2.1, f4p0.2.2.2.1, f4p0.2.2.2.2, f4p1⟩
    have bfr : ∀ a i : Int, a ≠ 44 → a ≠ 45 → M3 a i = Ms a i := fun a i h1 h2 => by rw [f4p2 a i h1 h2, hms]
    refine n_goto c_120_15 (n_aload_n c_120_60 rfl (n_getR c_120_61 sc_3.n rfl rfl rfl r_3_7 (n_aload_n c_120_64 rfl (n_getR c_120_65 sc_3.n rfl rfl rfl r_3_0 (n_getV (bi := 0) c_120_68 sc_4.n rfl rfl rfl (t_4_0 hS3) ?_)))))
    intro z5 ez5 f6
    obtain rfl : z5 = 3 := by omega
    refine n_aload_n c_120_71 rfl (n_getR c_120_72 sc_3.n rfl rfl rfl r_3_8 (n_getV (bi := 2) c_120_75 sc_44.n rfl rfl rfl (t_44_2 hS3) ?_))
    intro z7 ez7 f8
    obtain rfl : z7 = 6 := by omega
    refine n_v2V c_120_78 rfl sc_38.n rfl rfl rfl rfl (nstartX_3 (c := 6) hS3 (by omega)) ?_
    intro  M9 hP10
    obtain ⟨hS9, f10p0, f10p1, f10p2, f10p3, f10p4⟩ := hP10
    have nfr : ∀ a i : Int, a ≠ 38 → a ≠ 40 → a ≠ 44 → a ≠ 45 → M9 a i = Ms a i := fun a i h1 h2 h3 h4 => by rw [f10p4 a i h1 h2]; exact bfr a i h3 h4
    have fqn : FQk 0 3 M9 := fqb.of (fun a i u => f10p4 a i (by omega) (by omega))
    have n40 : ∀ i : Int, 0 ≤ i → i < 729 → M9 40 i = ARd 3 := fun i h0 h1 => by rw [f10p3 i h0 h1]; rfl
    have n6 : M9 38 6 = 6 := by have y := f10p1; omega
    refine n_aload_n c_120_81 rfl (n_aload_n c_120_82 rfl (n_getR c_120_83 sc_3.n rfl rfl rfl r_3_6 (n_v0I c_120_86 rfl sc_32.n rfl rfl rfl rfl (lawMaskX_3  hS9 ) ?_)))
    intro z11 M12 hP13
    obtain ⟨eM, f13, f13p0⟩ := hP13
    subst eM
    have lm : LMk z11 (Ms 32 1) (fun i => Ms 33 i) := by have y := f13p0; rw [nfr 32 1 (by omega) (by omega) (by omega) (by omega), show (fun i => M9 33 i) = fun i => Ms 33 i from funext fun i => nfr 33 i (by omega) (by omega) (by omega) (by omega)] at y; exact y
    refine n_v1V c_120_89 rfl sc_3.n rfl rfl rfl rfl (restrainFormX_3 (m := z11) (Ms := M9) (V := 6) hS9 (by omega) (by rfl) (by exact fun l h0 h1 => (hxl l h0 (by have y := nfr 3 15 (by omega) (by omega) (by omega) (by omega); omega)).of (fun a i u1 u2 => nfr a i (by omega) (by omega) (by omega) (by omega))) (by exact FQk.fm (by decide) (by decide) fqn) (by omega) (by exact Aok.init (by decide) n40) (by exact fqn.2.2.2.2.1)) ?_
    intro  M14 hP15
    obtain ⟨hS14, f15p0⟩ := hP15
    have rf : RSM 3 (kV 0 3) z11 (M9 3 15) M9 M14 := f15p0
    refine n_aload_n c_120_92 rfl (n_getR c_120_93 sc_3.n rfl rfl rfl r_3_7 ?_)
    refine n_v0V c_120_96 rfl sc_38.n rfl rfl rfl rfl (orderX_3 (Ms := M14) hS14 (by rfl) (by rw [rf.2 38 7 (by omega)]; exact f10p2) (by have y := rf.2 38 6 (by omega); omega)) ?_
    intro  M16 hP17
    obtain ⟨hS16, f17p0, f17p1⟩ := hP17
    have nst : NST 3 6 M16 := NST.mk3 (by omega) (by rw [rf.2 38 5 (by omega)]; exact f10p0) (by rw [rf.2 38 6 (by omega)]; exact n6) rf.1 f17p1 f17p0
    have ofr : ∀ a i : Int, a = 44 ∨ a = 45 → M16 a i = M9 a i := fun a i u => by rw [f17p1 a i (by omega) (by omega) (by omega)]; exact rf.2 a i (by omega)
    refine n_aload_n c_120_99 rfl (n_getR c_120_100 sc_3.n rfl rfl rfl r_3_7 (n_aload_n c_120_103 rfl (n_getR c_120_104 sc_3.n rfl rfl rfl r_3_8 ?_)))
    refine n_v1I c_120_107 rfl sc_38.n rfl rfl rfl rfl (findFirstX_3 (Ms := M16) (V := 6) hS16 (by rfl) (by exact nst) (by omega) (by rw [ofr 44 1 (by omega)]; exact fqn.2.1) (by exact fun i i0 i1 => by rw [ofr 45 i (by omega)]; exact FQk.b (by decide) (by decide) fqn i0 (by omega)) (by rw [ofr 44 5 (by omega)]; exact fqn.2.2.2.2.1)) ?_
    intro z18 M19 hP20
    obtain ⟨hS19, f20, f20p0⟩ := hP20
    have ffp : FFP 3 (kV 0 3) (kN 3) z18 M16 M19 := f20p0
    have cl := cQk.cls (q := 0) (d := 3) (N := 9) (by decide) (by decide) (by decide) fqn rf n40 (fun a i u => f17p1 a i (by omega) (by omega) (by omega)) ffp
    refine n_if0_eq c_120_110 (by omega) ?_ ?_
    · intro h21
      refine n_ldc2 (n := (-7)) c_120_134 rfl ?_
      exact n_rJ c_120_137 rfl ⟨hS19, by omega, by exact ⟨z11, lm, cQk.congr (by rcases cl with ⟨-, y⟩ | ⟨y, -⟩; exact y; omega) (fun k => Gc.of (fun a i u => nfr a i (by omega) (by omega) (by omega) (by omega)))⟩⟩
    · intro h22
      refine n_aload_n c_120_113 rfl (n_getR c_120_114 sc_3.n rfl rfl rfl r_3_8 (n_aload_n c_120_117 rfl (n_getR c_120_118 sc_3.n rfl rfl rfl r_3_7 (n_getR c_120_121 sc_38.n rfl rfl rfl r_38_0 (n_aload_n c_120_124 rfl (n_getR c_120_125 sc_3.n rfl rfl rfl r_3_0 ?_))))))
      refine n_v2J c_120_128 rfl sc_44.n rfl rfl rfl rfl (codeX2_3  hS19 (by rw [ffp.1 44 0 (by omega), ofr 44 0 (by omega)]; exact fqn.1)) ?_
      intro z23 M24 hP25
      obtain ⟨eM, f25, f25p0⟩ := hP25
      subst eM
      refine n_goto c_120_131 ?_
      exact n_rJ c_120_137 rfl ⟨hS19, by omega, by exact ⟨z11, lm, cQk.congr (by rcases cl with ⟨y, -⟩ | ⟨-, y⟩; omega; rw [f25p0]; exact y) (fun k => Gc.of (fun a i u => nfr a i (by omega) (by omega) (by omega) (by omega)))⟩⟩

set_option maxHeartbeats 4000000 in
theorem quickX1_3 {xs : List Int32} {e : Nat} {ac : Int} {M0 M : nM} {Ms : nM} (hS : Sf 3 ac M0 M) (hms : M = Ms) (hxl : ∀ l : Int, 0 ≤ l → l < Ms 3 15 → LawOk 3 (79 + 2 * l) Ms) : nW xs (e + 31) 120 0 [some (2, 3), some (0, 1)] [] M (nPJ fun z M1 => Sf 3 ac M0 M1 ∧ (-9223372036854775808 ≤ z ∧ z ≤ 9223372036854775807) ∧ (cQ 1 3 z 27 Ms)) := by
  have hd : (3 : Int) = 2 ∨ (3 : Int) = 3 := by decide
  have hac := hS.2.2.2.2
  have t15 := t_3_15 (hms ▸ hS)
  refine n_iload_n c_120_0 rfl ?_
  refine n_if0_ne c_120_1 (by omega) ?_ ?_
  · intro h1
    refine n_iload_n c_120_18 rfl (n_iconst c_120_19 ?_)
    refine n_if2_ne c_120_20 (by omega) (by omega) ?_ ?_
    · intro h2
      exfalso; omega
    · intro h3
      refine n_aload_n c_120_23 rfl (n_getR c_120_24 sc_3.n rfl rfl rfl r_3_8 (n_aload_n c_120_27 rfl (n_getR c_120_28 sc_3.n rfl rfl rfl r_3_0 (n_v1V c_120_31 rfl sc_44.n rfl rfl rfl rfl (beMostX_3 (Mz := M) hS (by rfl)) ?_))))
      intro  M4 hP5
      obtain ⟨hS4, f5p0, f5p1, f5p2⟩ := hP5
      have fqb : FQk 1 3 M4 := ⟨f5p0.1, f5p0.2.1, f5p0.2.2.1, f5p0.2.2.2.1, f5p0.2.2.2.2, f5p1⟩
      have bfr : ∀ a i : Int, a ≠ 44 → a ≠ 45 → M4 a i = Ms a i := fun a i h1 h2 => by rw [f5p2 a i h1 h2, hms]
      refine n_goto c_120_34 (n_aload_n c_120_60 rfl (n_getR c_120_61 sc_3.n rfl rfl rfl r_3_7 (n_aload_n c_120_64 rfl (n_getR c_120_65 sc_3.n rfl rfl rfl r_3_0 (n_getV (bi := 0) c_120_68 sc_4.n rfl rfl rfl (t_4_0 hS4) ?_)))))
      intro z6 ez6 f7
      obtain rfl : z6 = 3 := by omega
      refine n_aload_n c_120_71 rfl (n_getR c_120_72 sc_3.n rfl rfl rfl r_3_8 (n_getV (bi := 2) c_120_75 sc_44.n rfl rfl rfl (t_44_2 hS4) ?_))
      intro z8 ez8 f9
      obtain rfl : z8 = 9 := by omega
      refine n_v2V c_120_78 rfl sc_38.n rfl rfl rfl rfl (nstartX_3 (c := 9) hS4 (by omega)) ?_
      intro  M10 hP11
      obtain ⟨hS10, f11p0, f11p1, f11p2, f11p3, f11p4⟩ := hP11
      have nfr : ∀ a i : Int, a ≠ 38 → a ≠ 40 → a ≠ 44 → a ≠ 45 → M10 a i = Ms a i := fun a i h1 h2 h3 h4 => by rw [f11p4 a i h1 h2]; exact bfr a i h3 h4
      have fqn : FQk 1 3 M10 := fqb.of (fun a i u => f11p4 a i (by omega) (by omega))
      have n40 : ∀ i : Int, 0 ≤ i → i < 729 → M10 40 i = ARd 3 := fun i h0 h1 => by rw [f11p3 i h0 h1]; rfl
      have n6 : M10 38 6 = 9 := by have y := f11p1; omega
      refine n_aload_n c_120_81 rfl (n_aload_n c_120_82 rfl (n_getR c_120_83 sc_3.n rfl rfl rfl r_3_6 (n_v0I c_120_86 rfl sc_32.n rfl rfl rfl rfl (lawMaskX_3  hS10 ) ?_)))
      intro z12 M13 hP14
      obtain ⟨eM, f14, f14p0⟩ := hP14
      subst eM
      have lm : LMk z12 (Ms 32 1) (fun i => Ms 33 i) := by have y := f14p0; rw [nfr 32 1 (by omega) (by omega) (by omega) (by omega), show (fun i => M10 33 i) = fun i => Ms 33 i from funext fun i => nfr 33 i (by omega) (by omega) (by omega) (by omega)] at y; exact y
      refine n_v1V c_120_89 rfl sc_3.n rfl rfl rfl rfl (restrainFormX_3 (m := z12) (Ms := M10) (V := 9) hS10 (by omega) (by rfl) (by exact fun l h0 h1 => (hxl l h0 (by have y := nfr 3 15 (by omega) (by omega) (by omega) (by omega); omega)).of (fun a i u1 u2 => nfr a i (by omega) (by omega) (by omega) (by omega))) (by exact FQk.fm (by decide) (by decide) fqn) (by omega) (by exact Aok.init (by decide) n40) (by exact fqn.2.2.2.2.1)) ?_
      intro  M15 hP16
      obtain ⟨hS15, f16p0⟩ := hP16
      have rf : RSM 3 (kV 1 3) z12 (M10 3 15) M10 M15 := f16p0
      refine n_aload_n c_120_92 rfl (n_getR c_120_93 sc_3.n rfl rfl rfl r_3_7 ?_)
      refine n_v0V c_120_96 rfl sc_38.n rfl rfl rfl rfl (orderX_3 (Ms := M15) hS15 (by rfl) (by rw [rf.2 38 7 (by omega)]; exact f11p2) (by have y := rf.2 38 6 (by omega); omega)) ?_
      intro  M17 hP18
      obtain ⟨hS17, f18p0, f18p1⟩ := hP18
      have nst : NST 3 9 M17 := NST.mk3 (by omega) (by rw [rf.2 38 5 (by omega)]; exact f11p0) (by rw [rf.2 38 6 (by omega)]; exact n6) rf.1 f18p1 f18p0
      have ofr : ∀ a i : Int, a = 44 ∨ a = 45 → M17 a i = M10 a i := fun a i u => by rw [f18p1 a i (by omega) (by omega) (by omega)]; exact rf.2 a i (by omega)
      refine n_aload_n c_120_99 rfl (n_getR c_120_100 sc_3.n rfl rfl rfl r_3_7 (n_aload_n c_120_103 rfl (n_getR c_120_104 sc_3.n rfl rfl rfl r_3_8 ?_)))
      refine n_v1I c_120_107 rfl sc_38.n rfl rfl rfl rfl (findFirstX_3 (Ms := M17) (V := 9) hS17 (by rfl) (by exact nst) (by omega) (by rw [ofr 44 1 (by omega)]; exact fqn.2.1) (by exact fun i i0 i1 => by rw [ofr 45 i (by omega)]; exact FQk.b (by decide) (by decide) fqn i0 (by omega)) (by rw [ofr 44 5 (by omega)]; exact fqn.2.2.2.2.1)) ?_
      intro z19 M20 hP21
      obtain ⟨hS20, f21, f21p0⟩ := hP21
      have ffp : FFP 3 (kV 1 3) (kN 3) z19 M17 M20 := f21p0
      have cl := cQk.cls (q := 1) (d := 3) (N := 27) (by decide) (by decide) (by decide) fqn rf n40 (fun a i u => f18p1 a i (by omega) (by omega) (by omega)) ffp
      refine n_if0_eq c_120_110 (by omega) ?_ ?_
      · intro h22
        refine n_ldc2 (n := (-7)) c_120_134 rfl ?_
        exact n_rJ c_120_137 rfl ⟨hS20, by omega, by exact ⟨z12, lm, cQk.congr (by rcases cl with ⟨-, y⟩ | ⟨y, -⟩; exact y; omega) (fun k => Gc.of (fun a i u => nfr a i (by omega) (by omega) (by omega) (by omega)))⟩⟩
      · intro h23
        refine n_aload_n c_120_113 rfl (n_getR c_120_114 sc_3.n rfl rfl rfl r_3_8 (n_aload_n c_120_117 rfl (n_getR c_120_118 sc_3.n rfl rfl rfl r_3_7 (n_getR c_120_121 sc_38.n rfl rfl rfl r_38_0 (n_aload_n c_120_124 rfl (n_getR c_120_125 sc_3.n rfl rfl rfl r_3_0 ?_))))))
        refine n_v2J c_120_128 rfl sc_44.n rfl rfl rfl rfl (codeX3_3  hS20 (by rw [ffp.1 44 0 (by omega), ofr 44 0 (by omega)]; exact fqn.1)) ?_
        intro z24 M25 hP26
        obtain ⟨eM, f26, f26p0⟩ := hP26
        subst eM
        refine n_goto c_120_131 ?_
        exact n_rJ c_120_137 rfl ⟨hS20, by omega, by exact ⟨z12, lm, cQk.congr (by rcases cl with ⟨y, -⟩ | ⟨-, y⟩; omega; rw [f26p0]; exact y) (fun k => Gc.of (fun a i u => nfr a i (by omega) (by omega) (by omega) (by omega)))⟩⟩
  · intro h27
    exfalso; omega

set_option maxHeartbeats 4000000 in
theorem quickX2_3 {xs : List Int32} {e : Nat} {ac : Int} {M0 M : nM} {Ms : nM} (hS : Sf 3 ac M0 M) (hms : M = Ms) (hxl : ∀ l : Int, 0 ≤ l → l < Ms 3 15 → LawOk 3 (79 + 2 * l) Ms) : nW xs (e + 31) 120 0 [some (2, 3), some (0, 2)] [] M (nPJ fun z M1 => Sf 3 ac M0 M1 ∧ (-9223372036854775808 ≤ z ∧ z ≤ 9223372036854775807) ∧ (cQ 2 3 z 27 Ms)) := by
  have hd : (3 : Int) = 2 ∨ (3 : Int) = 3 := by decide
  have hac := hS.2.2.2.2
  have t15 := t_3_15 (hms ▸ hS)
  refine n_iload_n c_120_0 rfl ?_
  refine n_if0_ne c_120_1 (by omega) ?_ ?_
  · intro h1
    refine n_iload_n c_120_18 rfl (n_iconst c_120_19 ?_)
    refine n_if2_ne c_120_20 (by omega) (by omega) ?_ ?_
    · intro h2
      refine n_iload_n c_120_37 rfl (n_iconst c_120_38 ?_)
      refine n_if2_ne c_120_39 (by omega) (by omega) ?_ ?_
      · intro h3
        exfalso; omega
      · intro h4
        refine n_aload_n c_120_42 rfl (n_getR c_120_43 sc_3.n rfl rfl rfl r_3_8 (n_aload_n c_120_46 rfl (n_getR c_120_47 sc_3.n rfl rfl rfl r_3_0 (n_v1V c_120_50 rfl sc_44.n rfl rfl rfl rfl (beSumX_3 (Mz := M) hS (by rfl)) ?_))))
        intro  M5 hP6
        obtain ⟨hS5, f6p0, f6p1, f6p2⟩ := hP6
        have fqb : FQk 2 3 M5 := ⟨f6p0.1, f6p0.2.1, f6p0.2.2.1, f6p0.2.2.2.1, f6p0.2.2.2.2, f6p1⟩
        have bfr : ∀ a i : Int, a ≠ 44 → a ≠ 45 → M5 a i = Ms a i := fun a i h1 h2 => by rw [f6p2 a i h1 h2, hms]
        refine n_goto c_120_53 (n_aload_n c_120_60 rfl (n_getR c_120_61 sc_3.n rfl rfl rfl r_3_7 (n_aload_n c_120_64 rfl (n_getR c_120_65 sc_3.n rfl rfl rfl r_3_0 (n_getV (bi := 0) c_120_68 sc_4.n rfl rfl rfl (t_4_0 hS5) ?_)))))
        intro z7 ez7 f8
        obtain rfl : z7 = 3 := by omega
        refine n_aload_n c_120_71 rfl (n_getR c_120_72 sc_3.n rfl rfl rfl r_3_8 (n_getV (bi := 2) c_120_75 sc_44.n rfl rfl rfl (t_44_2 hS5) ?_))
        intro z9 ez9 f10
        obtain rfl : z9 = 3 := by omega
        refine n_v2V c_120_78 rfl sc_38.n rfl rfl rfl rfl (nstartX_3 (c := 3) hS5 (by omega)) ?_
        intro  M11 hP12
        obtain ⟨hS11, f12p0, f12p1, f12p2, f12p3, f12p4⟩ := hP12
        have nfr : ∀ a i : Int, a ≠ 38 → a ≠ 40 → a ≠ 44 → a ≠ 45 → M11 a i = Ms a i := fun a i h1 h2 h3 h4 => by rw [f12p4 a i h1 h2]; exact bfr a i h3 h4
        have fqn : FQk 2 3 M11 := fqb.of (fun a i u => f12p4 a i (by omega) (by omega))
        have n40 : ∀ i : Int, 0 ≤ i → i < 729 → M11 40 i = ARd 3 := fun i h0 h1 => by rw [f12p3 i h0 h1]; rfl
        have n6 : M11 38 6 = 3 := by have y := f12p1; omega
        refine n_aload_n c_120_81 rfl (n_aload_n c_120_82 rfl (n_getR c_120_83 sc_3.n rfl rfl rfl r_3_6 (n_v0I c_120_86 rfl sc_32.n rfl rfl rfl rfl (lawMaskX_3  hS11 ) ?_)))
        intro z13 M14 hP15
        obtain ⟨eM, f15, f15p0⟩ := hP15
        subst eM
        have lm : LMk z13 (Ms 32 1) (fun i => Ms 33 i) := by have y := f15p0; rw [nfr 32 1 (by omega) (by omega) (by omega) (by omega), show (fun i => M11 33 i) = fun i => Ms 33 i from funext fun i => nfr 33 i (by omega) (by omega) (by omega) (by omega)] at y; exact y
        refine n_v1V c_120_89 rfl sc_3.n rfl rfl rfl rfl (restrainFormX_3 (m := z13) (Ms := M11) (V := 3) hS11 (by omega) (by rfl) (by exact fun l h0 h1 => (hxl l h0 (by have y := nfr 3 15 (by omega) (by omega) (by omega) (by omega); omega)).of (fun a i u1 u2 => nfr a i (by omega) (by omega) (by omega) (by omega))) (by exact FQk.fm (by decide) (by decide) fqn) (by omega) (by exact Aok.init (by decide) n40) (by exact fqn.2.2.2.2.1)) ?_
        intro  M16 hP17
        obtain ⟨hS16, f17p0⟩ := hP17
        have rf : RSM 3 (kV 2 3) z13 (M11 3 15) M11 M16 := f17p0
        refine n_aload_n c_120_92 rfl (n_getR c_120_93 sc_3.n rfl rfl rfl r_3_7 ?_)
        refine n_v0V c_120_96 rfl sc_38.n rfl rfl rfl rfl (orderX_3 (Ms := M16) hS16 (by rfl) (by rw [rf.2 38 7 (by omega)]; exact f12p2) (by have y := rf.2 38 6 (by omega); omega)) ?_
        intro  M18 hP19
        obtain ⟨hS18, f19p0, f19p1⟩ := hP19
        have nst : NST 3 3 M18 := NST.mk3 (by omega) (by rw [rf.2 38 5 (by omega)]; exact f12p0) (by rw [rf.2 38 6 (by omega)]; exact n6) rf.1 f19p1 f19p0
        have ofr : ∀ a i : Int, a = 44 ∨ a = 45 → M18 a i = M11 a i := fun a i u => by rw [f19p1 a i (by omega) (by omega) (by omega)]; exact rf.2 a i (by omega)
        refine n_aload_n c_120_99 rfl (n_getR c_120_100 sc_3.n rfl rfl rfl r_3_7 (n_aload_n c_120_103 rfl (n_getR c_120_104 sc_3.n rfl rfl rfl r_3_8 ?_)))
        refine n_v1I c_120_107 rfl sc_38.n rfl rfl rfl rfl (findFirstX_3 (Ms := M18) (V := 3) hS18 (by rfl) (by exact nst) (by omega) (by rw [ofr 44 1 (by omega)]; exact fqn.2.1) (by exact fun i i0 i1 => by rw [ofr 45 i (by omega)]; exact FQk.b (by decide) (by decide) fqn i0 (by omega)) (by rw [ofr 44 5 (by omega)]; exact fqn.2.2.2.2.1)) ?_
        intro z20 M21 hP22
        obtain ⟨hS21, f22, f22p0⟩ := hP22
        have ffp : FFP 3 (kV 2 3) (kN 3) z20 M18 M21 := f22p0
        have cl := cQk.cls (q := 2) (d := 3) (N := 27) (by decide) (by decide) (by decide) fqn rf n40 (fun a i u => f19p1 a i (by omega) (by omega) (by omega)) ffp
        refine n_if0_eq c_120_110 (by omega) ?_ ?_
        · intro h23
          refine n_ldc2 (n := (-7)) c_120_134 rfl ?_
          exact n_rJ c_120_137 rfl ⟨hS21, by omega, by exact ⟨z13, lm, cQk.congr (by rcases cl with ⟨-, y⟩ | ⟨y, -⟩; exact y; omega) (fun k => Gc.of (fun a i u => nfr a i (by omega) (by omega) (by omega) (by omega)))⟩⟩
        · intro h24
          refine n_aload_n c_120_113 rfl (n_getR c_120_114 sc_3.n rfl rfl rfl r_3_8 (n_aload_n c_120_117 rfl (n_getR c_120_118 sc_3.n rfl rfl rfl r_3_7 (n_getR c_120_121 sc_38.n rfl rfl rfl r_38_0 (n_aload_n c_120_124 rfl (n_getR c_120_125 sc_3.n rfl rfl rfl r_3_0 ?_))))))
          refine n_v2J c_120_128 rfl sc_44.n rfl rfl rfl rfl (codeX3_3  hS21 (by rw [ffp.1 44 0 (by omega), ofr 44 0 (by omega)]; exact fqn.1)) ?_
          intro z25 M26 hP27
          obtain ⟨eM, f27, f27p0⟩ := hP27
          subst eM
          refine n_goto c_120_131 ?_
          exact n_rJ c_120_137 rfl ⟨hS21, by omega, by exact ⟨z13, lm, cQk.congr (by rcases cl with ⟨y, -⟩ | ⟨-, y⟩; omega; rw [f27p0]; exact y) (fun k => Gc.of (fun a i u => nfr a i (by omega) (by omega) (by omega) (by omega)))⟩⟩
    · intro h28
      exfalso; omega
  · intro h29
    exfalso; omega

set_option maxHeartbeats 4000000 in
theorem quickXL_3 {xs : List Int32} {e : Nat} {ac : Int} {M0 M : nM} {k : Int} (hS : Sf 3 ac M0 M) (hk : -2147483648 ≤ k ∧ k ≤ -1) : nW xs (e + 31) 120 0 [some (2, 3), some (0, k)] [] M (nPJ fun z M1 => M = M1 ∧ (-1 ≤ z ∧ z ≤ -1)) := by
  have hd : (3 : Int) = 2 ∨ (3 : Int) = 3 := by decide
  have hac := hS.2.2.2.2
  refine n_iload_n c_120_0 rfl ?_
  refine n_if0_ne c_120_1 (by omega) ?_ ?_
  · intro h1
    refine n_iload_n c_120_18 rfl (n_iconst c_120_19 ?_)
    refine n_if2_ne c_120_20 (by omega) (by omega) ?_ ?_
    · intro h2
      refine n_iload_n c_120_37 rfl (n_iconst c_120_38 ?_)
      refine n_if2_ne c_120_39 (by omega) (by omega) ?_ ?_
      · intro h3
        refine n_ldc2 (n := (-1)) c_120_56 rfl ?_
        exact n_rJ c_120_59 rfl ⟨rfl, by omega⟩
      · intro h4
        exfalso; omega
    · intro h5
      exfalso; omega
  · intro h6
    exfalso; omega

set_option maxHeartbeats 4000000 in
theorem quickXH_3 {xs : List Int32} {e : Nat} {ac : Int} {M0 M : nM} {k : Int} (hS : Sf 3 ac M0 M) (hk : 3 ≤ k ∧ k ≤ 2147483647) : nW xs (e + 31) 120 0 [some (2, 3), some (0, k)] [] M (nPJ fun z M1 => M = M1 ∧ (-1 ≤ z ∧ z ≤ -1)) := by
  have hd : (3 : Int) = 2 ∨ (3 : Int) = 3 := by decide
  have hac := hS.2.2.2.2
  refine n_iload_n c_120_0 rfl ?_
  refine n_if0_ne c_120_1 (by omega) ?_ ?_
  · intro h1
    refine n_iload_n c_120_18 rfl (n_iconst c_120_19 ?_)
    refine n_if2_ne c_120_20 (by omega) (by omega) ?_ ?_
    · intro h2
      refine n_iload_n c_120_37 rfl (n_iconst c_120_38 ?_)
      refine n_if2_ne c_120_39 (by omega) (by omega) ?_ ?_
      · intro h3
        refine n_ldc2 (n := (-1)) c_120_56 rfl ?_
        exact n_rJ c_120_59 rfl ⟨rfl, by omega⟩
      · intro h4
        exfalso; omega
    · intro h5
      exfalso; omega
  · intro h6
    exfalso; omega

set_option maxHeartbeats 4000000 in
theorem maskedX_3_c {xs : List Int32} {e : Nat} {ac : Int} {M0 M : nM} (hS : Sf 3 ac M0 M) (hdm : M0 112 0 = 3) : ∀ nn : Nat, (∀ (x1 x2 : Int), (0 ≤ x1 ∧ x1 ≤ 4095) → (0 ≤ x2 ∧ x2 ≤ 30) → (LMk x1 x2 (fun i => M 120 i)) → (x2 ≤ M 112 11) → (30 - x2) * 1 + 1 < (nn : Int) → nW xs e 196 4 [some (2, 112), some (0, x1), some (0, x2)] [] M (nPI fun z M1 => M = M1 ∧ (0 ≤ z ∧ z ≤ 4095) ∧ (LMk z (M 112 11) (fun i => M 120 i)))) := by
  have hd : (3 : Int) = 2 ∨ (3 : Int) = 3 := by decide
  have hac := hS.2.2.2.2
  intro nn
  induction nn with
  | zero => intros; omega
  | succ nn ih =>
    intro x1 x2 k1 k2 v0 v1 hnn
    refine n_iload_n c_196_4 rfl (n_aload_n c_196_5 rfl (n_getV (bi := 11) c_196_6 sc_112.n rfl rfl rfl (t_112_11 hS) ?_))
    intro z1 ez1 f2
    refine n_if2_ge c_196_9 (by omega) (by omega) ?_ ?_
    · intro h3
      refine n_iload_n c_196_29 rfl ?_
      exact n_rI c_196_30 rfl ⟨rfl, by omega, by have e : x2 = M 112 11 := (by omega); rw [← e]; exact v0⟩
    · intro h4
      refine n_iload_n c_196_12 rfl (n_iconst c_196_13 (n_aload_n c_196_14 rfl (n_getR c_196_15 sc_112.n rfl rfl rfl r_112_12 (n_iload_n c_196_18 rfl (n_ialoadV c_196_19 sc_120.n rfl rfl rfl (by omega) (t_120 hS (by omega)) ?_)))))
      intro z5 ez5 f6
      refine n_i_ishl c_196_20 rfl ?_
      have f7 := n_shl_1 (y := z5) (a := 0) (b := 11) (by decide) (by omega)
      generalize gz8 : (n_shl 1 z5) = z8 at f7 ⊢
      refine n_i_ior c_196_21 rfl ?_
      have f9 := n_or_k (x := x1) (y := z8) (n := 12) (by decide) (by omega) (by omega)
      generalize gz10 : (n_or x1 z8) = z10 at f9 ⊢
      refine n_istore_n (L2 := [some (2, 112), some (0, z10), some (0, x2)]) c_196_22 rfl rfl (n_iinc (L2 := [some (2, 112), some (0, z10), some (0, (x2 + 1))]) c_196_23 rfl rfl rfl (n_goto c_196_26 (n_fg (le_s (le_s (le_s le_0))) ?_)))
      exact ih _ _ (by omega) (by omega) (by rw [← gz10, ← gz8]; exact LMk.add v0 (by omega) (by omega) ez5) (by have y := t_112_11 hS; omega) (by omega)
set_option maxHeartbeats 4000000 in
theorem maskedX_3 {xs : List Int32} {e : Nat} {ac : Int} {M0 M : nM} (hS : Sf 3 ac M0 M) (hdm : M0 112 0 = 3) : nW xs e 196 0 [some (2, 112), none, none] [] M (nPI fun z M1 => M = M1 ∧ (0 ≤ z ∧ z ≤ 4095) ∧ (LMk z (M 112 11) (fun i => M 120 i))) := by
  have hd : (3 : Int) = 2 ∨ (3 : Int) = 3 := by decide
  have hac := hS.2.2.2.2
  refine n_iconst c_196_0 (n_istore_n (L2 := [some (2, 112), some (0, 0), none]) c_196_1 rfl rfl (n_iconst c_196_2 (n_istore_n (L2 := [some (2, 112), some (0, 0), some (0, 0)]) c_196_3 rfl rfl (n_fg (le_s (le_s (le_s le_0))) ?_))))
  exact (maskedX_3_c hS hdm 74) _ _ (by omega) (by omega) (by exact LMk.init) (by have y := t_112_11 hS; omega) (by omega)

set_option maxHeartbeats 4000000 in
theorem misHalfX_3_c {xs : List Int32} {e : Nat} {ac : Int} {M0 M : nM} (hS : Sf 3 ac M0 M) (hdm : M0 112 0 = 3) (hh : ∀ i : Int, 0 ≤ i → i < 9 → 0 ≤ M 127 i ∧ M 127 i < 3) : ∀ nn : Nat, (∀ (x1 : Int), (0 ≤ x1 ∧ x1 ≤ 3) → (∀ a : Int, 0 ≤ a → a < x1 → M 127 (a * 3 + a) = a) → (∀ a b : Int, 0 ≤ a → a < x1 → (0 ≤ b ∧ b < 3) → M 127 (a * 3 + b) = M 127 (b * 3 + a)) → (∀ a b c : Int, 0 ≤ a → a < x1 → (0 ≤ b ∧ b < 3) → (0 ≤ c ∧ c < 3) → M 127 (M 127 (a * 3 + b) * 3 + c) = M 127 (a * 3 + M 127 (b * 3 + c))) → (3 - x1) * 31 + 31 < (nn : Int) → nW xs e 197 2 [some (2, 112), some (0, x1), none, none] [] M (nPI fun z M1 => M = M1 ∧ (0 ≤ z ∧ z ≤ 1) ∧ (z = bb (HFm 3 (fun x => M 127 x))))) ∧ (∀ (x1 x2 : Int), (0 ≤ x1 ∧ x1 ≤ 2) → (0 ≤ x2 ∧ x2 ≤ 3) → (∀ a : Int, 0 ≤ a → a < x1 → M 127 (a * 3 + a) = a) → (∀ a b : Int, 0 ≤ a → a < x1 → (0 ≤ b ∧ b < 3) → M 127 (a * 3 + b) = M 127 (b * 3 + a)) → (∀ a b c : Int, 0 ≤ a → a < x1 → (0 ≤ b ∧ b < 3) → (0 ≤ c ∧ c < 3) → M 127 (M 127 (a * 3 + b) * 3 + c) = M 127 (a * 3 + M 127 (b * 3 + c))) → (M 127 (x1 * 3 + x1) = x1) → (∀ b : Int, 0 ≤ b → b < x2 → M 127 (x1 * 3 + b) = M 127 (b * 3 + x1)) → (∀ b c : Int, 0 ≤ b → b < x2 → (0 ≤ c ∧ c < 3) → M 127 (M 127 (x1 * 3 + b) * 3 + c) = M 127 (x1 * 3 + M 127 (b * 3 + c))) → (3 - x1) * 31 + (3 - x2) * 6 + 6 < (nn : Int) → nW xs e 197 31 [some (2, 112), some (0, x1), some (0, x2), none] [] M (nPI fun z M1 => M = M1 ∧ (0 ≤ z ∧ z ≤ 1) ∧ (z = bb (HFm 3 (fun x => M 127 x))))) ∧ (∀ (x1 x2 x3 : Int), (0 ≤ x1 ∧ x1 ≤ 2) → (0 ≤ x2 ∧ x2 ≤ 2) → (0 ≤ x3 ∧ x3 ≤ 3) → (∀ a : Int, 0 ≤ a → a < x1 → M 127 (a * 3 + a) = a) → (∀ a b : Int, 0 ≤ a → a < x1 → (0 ≤ b ∧ b < 3) → M 127 (a * 3 + b) = M 127 (b * 3 + a)) → (∀ a b c : Int, 0 ≤ a → a < x1 → (0 ≤ b ∧ b < 3) → (0 ≤ c ∧ c < 3) → M 127 (M 127 (a * 3 + b) * 3 + c) = M 127 (a * 3 + M 127 (b * 3 + c))) → (M 127 (x1 * 3 + x1) = x1) → (∀ b : Int, 0 ≤ b → b < x2 → M 127 (x1 * 3 + b) = M 127 (b * 3 + x1)) → (∀ b c : Int, 0 ≤ b → b < x2 → (0 ≤ c ∧ c < 3) → M 127 (M 127 (x1 * 3 + b) * 3 + c) = M 127 (x1 * 3 + M 127 (b * 3 + c))) → (M 127 (x1 * 3 + x2) = M 127 (x2 * 3 + x1)) → (∀ c : Int, 0 ≤ c → c < x3 → M 127 (M 127 (x1 * 3 + x2) * 3 + c) = M 127 (x1 * 3 + M 127 (x2 * 3 + c))) → (3 - x1) * 31 + (3 - x2) * 6 + (3 - x3) * 1 + 1 < (nn : Int) → nW xs e 197 72 [some (2, 112), some (0, x1), some (0, x2), some (0, x3)] [] M (nPI fun z M1 => M = M1 ∧ (0 ≤ z ∧ z ≤ 1) ∧ (z = bb (HFm 3 (fun x => M 127 x))))) := by
  have hd : (3 : Int) = 2 ∨ (3 : Int) = 3 := by decide
  have hac := hS.2.2.2.2
  intro nn
  induction nn with
  | zero => refine ⟨?_, ?_, ?_⟩ <;> (intros; omega)
  | succ nn ih =>
    refine ⟨?_, ?_, ?_⟩
    · intro x1 k1 v0 v1 v2 hnn
      refine n_iload_n c_197_2 rfl (n_aload_n c_197_3 rfl (n_getV (bi := 0) c_197_4 sc_112.n rfl rfl rfl (t_dm hS hdm) ?_))
      intro z1 ez1 f2
      obtain rfl : z1 = 3 := by omega
      refine n_if2_ge c_197_7 (by omega) (by omega) ?_ ?_
      · intro h3
        refine n_iconst c_197_153 ?_
        exact n_rZ c_197_154 rfl (by omega) ⟨rfl, by omega, by exact (bb_t ⟨fun a a0 a1 => v0 a a0 (by omega), fun a b ha hb => v1 a b ha.1 (by omega) hb, fun a b c ha hb hc => v2 a b c ha.1 (by omega) hb hc⟩).symm⟩
      · intro h4
        refine n_aload_n c_197_10 rfl (n_getR c_197_11 sc_112.n rfl rfl rfl r_112_19 (n_iload_n c_197_14 rfl (n_aload_n c_197_15 rfl (n_getV (bi := 0) c_197_16 sc_112.n rfl rfl rfl (t_dm hS hdm) ?_))))
        intro z5 ez5 f6
        obtain rfl : z5 = 3 := by omega
        refine n_imul c_197_19 rfl (n_iload_n c_197_20 rfl (n_iadd c_197_21 rfl (n_ialoadV c_197_22 sc_127.n rfl rfl rfl (by omega) (t_127 hS (by omega)) ?_)))
        intro z7 ez7 f8
        refine n_iload_n c_197_23 rfl ?_
        refine n_if2_eq c_197_24 (by omega) (by omega) ?_ ?_
        · intro h9
          refine n_iconst c_197_29 (n_istore_n (L2 := [some (2, 112), some (0, x1), some (0, 0), none]) c_197_30 rfl rfl (n_fg (le_s (le_s (le_s (le_n le_0)))) ?_))
          exact ih.2.1 _ _ (by omega) (by omega) (by exact v0) (by exact v1) (by exact v2) (by omega) (by exact fun b b0 b1 => by omega) (by exact fun b c b0 b1 => by omega) (by omega)
        · intro h10
          refine n_iconst c_197_27 ?_
          exact n_rZ c_197_28 rfl (by omega) ⟨rfl, by omega, by exact (bb_f (fun q => by have y : M 127 (x1 * 3 + x1) = x1 := q.1 x1 (by omega) (by omega); omega)).symm⟩
    · intro x1 x2 k1 k2 v0 v1 v2 v3 v4 v5 hnn
      refine n_iload_n c_197_31 rfl (n_aload_n c_197_32 rfl (n_getV (bi := 0) c_197_33 sc_112.n rfl rfl rfl (t_dm hS hdm) ?_))
      intro z1 ez1 f2
      obtain rfl : z1 = 3 := by omega
      refine n_if2_ge c_197_36 (by omega) (by omega) ?_ ?_
      · intro h3
        refine n_iinc (L2 := [some (2, 112), some (0, (x1 + 1)), some (0, x2), none]) c_197_147 rfl rfl rfl (n_goto c_197_150 (n_fg (le_s (le_s (le_n (le_n le_0)))) ?_))
        exact ih.1 _ (by omega) (by exact fun a a0 a1 => by by_cases y : a = x1; (rw [y]; exact v3); exact v0 a a0 (by omega)) (by exact fun a b a0 a1 hb => by by_cases y : a = x1; (rw [y]; exact v4 b hb.1 (by omega)); exact v1 a b a0 (by omega) hb) (by exact fun a b c a0 a1 hb hc => by by_cases y : a = x1; (rw [y]; exact v5 b c hb.1 (by omega) hc); exact v2 a b c a0 (by omega) hb hc) (by omega)
      · intro h4
        refine n_aload_n c_197_39 rfl (n_getR c_197_40 sc_112.n rfl rfl rfl r_112_19 (n_iload_n c_197_43 rfl (n_aload_n c_197_44 rfl (n_getV (bi := 0) c_197_45 sc_112.n rfl rfl rfl (t_dm hS hdm) ?_))))
        intro z5 ez5 f6
        obtain rfl : z5 = 3 := by omega
        refine n_imul c_197_48 rfl (n_iload_n c_197_49 rfl (n_iadd c_197_50 rfl (n_ialoadV c_197_51 sc_127.n rfl rfl rfl (by omega) (t_127 hS (by omega)) ?_)))
        intro z7 ez7 f8
        refine n_aload_n c_197_52 rfl (n_getR c_197_53 sc_112.n rfl rfl rfl r_112_19 (n_iload_n c_197_56 rfl (n_aload_n c_197_57 rfl (n_getV (bi := 0) c_197_58 sc_112.n rfl rfl rfl (t_dm hS hdm) ?_))))
        intro z9 ez9 f10
        obtain rfl : z9 = 3 := by omega
        refine n_imul c_197_61 rfl (n_iload_n c_197_62 rfl (n_iadd c_197_63 rfl (n_ialoadV c_197_64 sc_127.n rfl rfl rfl (by omega) (t_127 hS (by omega)) ?_)))
        intro z11 ez11 f12
        refine n_if2_eq c_197_65 (by omega) (by omega) ?_ ?_
        · intro h13
          refine n_iconst c_197_70 (n_istore_n (L2 := [some (2, 112), some (0, x1), some (0, x2), some (0, 0)]) c_197_71 rfl rfl (n_fg (le_s (le_s (le_s (le_s le_0)))) ?_))
          exact ih.2.2 _ _ _ (by omega) (by omega) (by omega) (by exact v0) (by exact v1) (by exact v2) (by exact v3) (by exact v4) (by exact v5) (by omega) (by exact fun c c0 c1 => by omega) (by omega)
        · intro h14
          refine n_iconst c_197_68 ?_
          exact n_rZ c_197_69 rfl (by omega) ⟨rfl, by omega, by exact (bb_f (fun q => by have y : M 127 (x1 * 3 + x2) = M 127 (x2 * 3 + x1) := q.2.1 x1 x2 (by omega) (by omega); omega)).symm⟩
    · intro x1 x2 x3 k1 k2 k3 v0 v1 v2 v3 v4 v5 v6 v7 hnn
      refine n_iload_n c_197_72 rfl (n_aload_n c_197_73 rfl (n_getV (bi := 0) c_197_74 sc_112.n rfl rfl rfl (t_dm hS hdm) ?_))
      intro z1 ez1 f2
      obtain rfl : z1 = 3 := by omega
      refine n_if2_ge c_197_77 (by omega) (by omega) ?_ ?_
      · intro h3
        refine n_iinc (L2 := [some (2, 112), some (0, x1), some (0, (x2 + 1)), some (0, x3)]) c_197_141 rfl rfl rfl (n_goto c_197_144 (n_fg (le_s (le_s (le_s (le_n le_0)))) ?_))
        exact ih.2.1 _ _ (by omega) (by omega) (by exact v0) (by exact v1) (by exact v2) (by exact v3) (by exact fun b b0 b1 => by by_cases y : b = x2; (rw [y]; exact v6); exact v4 b b0 (by omega)) (by exact fun b c b0 b1 hc => by by_cases y : b = x2; (rw [y]; exact v7 c hc.1 (by omega)); exact v5 b c b0 (by omega) hc) (by omega)
      · intro h4
        refine n_aload_n c_197_80 rfl (n_getR c_197_81 sc_112.n rfl rfl rfl r_112_19 (n_aload_n c_197_84 rfl (n_getR c_197_85 sc_112.n rfl rfl rfl r_112_19 (n_iload_n c_197_88 rfl (n_aload_n c_197_89 rfl (n_getV (bi := 0) c_197_90 sc_112.n rfl rfl rfl (t_dm hS hdm) ?_))))))
        intro z5 ez5 f6
        obtain rfl : z5 = 3 := by omega
        refine n_imul c_197_93 rfl (n_iload_n c_197_94 rfl (n_iadd c_197_95 rfl (n_ialoadV c_197_96 sc_127.n rfl rfl rfl (by omega) (t_127 hS (by omega)) ?_)))
        intro z7 ez7 f8
        have rzu := hh (x1 * 3 + x2) (by omega) (by omega)
        have qzu : z7 = M 127 (x1 * 3 + x2) := ez7
        refine n_aload_n c_197_97 rfl (n_getV (bi := 0) c_197_98 sc_112.n rfl rfl rfl (t_dm hS hdm) ?_)
        intro z9 ez9 f10
        obtain rfl : z9 = 3 := by omega
        refine n_imul c_197_101 rfl (n_iload_n c_197_102 rfl (n_iadd c_197_103 rfl (n_ialoadV c_197_104 sc_127.n rfl rfl rfl (by omega) (t_127 hS (by omega)) ?_)))
        intro z11 ez11 f12
        have ql : z11 = M 127 (M 127 (x1 * 3 + x2) * 3 + x3) := by rw [ez11, qzu]
        refine n_aload_n c_197_105 rfl (n_getR c_197_106 sc_112.n rfl rfl rfl r_112_19 (n_iload_n c_197_109 rfl (n_aload_n c_197_110 rfl (n_getV (bi := 0) c_197_111 sc_112.n rfl rfl rfl (t_dm hS hdm) ?_))))
        intro z13 ez13 f14
        obtain rfl : z13 = 3 := by omega
        refine n_imul c_197_114 rfl (n_aload_n c_197_115 rfl (n_getR c_197_116 sc_112.n rfl rfl rfl r_112_19 (n_iload_n c_197_119 rfl (n_aload_n c_197_120 rfl (n_getV (bi := 0) c_197_121 sc_112.n rfl rfl rfl (t_dm hS hdm) ?_)))))
        intro z15 ez15 f16
        obtain rfl : z15 = 3 := by omega
        refine n_imul c_197_124 rfl (n_iload_n c_197_125 rfl (n_iadd c_197_126 rfl (n_ialoadV c_197_127 sc_127.n rfl rfl rfl (by omega) (t_127 hS (by omega)) ?_)))
        intro z17 ez17 f18
        have rzw := hh (x2 * 3 + x3) (by omega) (by omega)
        have qzw : z17 = M 127 (x2 * 3 + x3) := ez17
        refine n_iadd c_197_128 rfl (n_ialoadV c_197_129 sc_127.n rfl rfl rfl (by omega) (t_127 hS (by omega)) ?_)
        intro z19 ez19 f20
        have qr : z19 = M 127 (x1 * 3 + M 127 (x2 * 3 + x3)) := by rw [ez19, qzw]
        refine n_if2_eq c_197_130 (by omega) (by omega) ?_ ?_
        · intro h21
          refine n_iinc (L2 := [some (2, 112), some (0, x1), some (0, x2), some (0, (x3 + 1))]) c_197_135 rfl rfl rfl (n_goto c_197_138 (n_fg (le_s (le_s (le_s (le_s le_0)))) ?_))
          exact ih.2.2 _ _ _ (by omega) (by omega) (by omega) (by exact v0) (by exact v1) (by exact v2) (by exact v3) (by exact v4) (by exact v5) (by exact v6) (by exact fun c c0 c1 => by by_cases y : c = x3; (rw [y]; omega); exact v7 c c0 (by omega)) (by omega)
        · intro h22
          refine n_iconst c_197_133 ?_
          exact n_rZ c_197_134 rfl (by omega) ⟨rfl, by omega, by exact (bb_f (fun q => by have y : M 127 (M 127 (x1 * 3 + x2) * 3 + x3) = M 127 (x1 * 3 + M 127 (x2 * 3 + x3)) := q.2.2 x1 x2 x3 (by omega) (by omega) (by omega); omega)).symm⟩
set_option maxHeartbeats 4000000 in
theorem misHalfX_3 {xs : List Int32} {e : Nat} {ac : Int} {M0 M : nM} (hS : Sf 3 ac M0 M) (hdm : M0 112 0 = 3) (hh : ∀ i : Int, 0 ≤ i → i < 9 → 0 ≤ M 127 i ∧ M 127 i < 3) : nW xs e 197 0 [some (2, 112), none, none, none] [] M (nPI fun z M1 => M = M1 ∧ (0 ≤ z ∧ z ≤ 1) ∧ (z = bb (HFm 3 (fun x => M 127 x)))) := by
  have hd : (3 : Int) = 2 ∨ (3 : Int) = 3 := by decide
  have hac := hS.2.2.2.2
  refine n_iconst c_197_0 (n_istore_n (L2 := [some (2, 112), some (0, 0), none, none]) c_197_1 rfl rfl (n_fg (le_s (le_s (le_n (le_n le_0)))) ?_))
  exact (misHalfX_3_c hS hdm hh 320).1 _ (by omega) (by exact fun a a0 a1 => by omega) (by exact fun a b a0 a1 => by omega) (by exact fun a b c a0 a1 => by omega) (by omega)

set_option maxHeartbeats 4000000 in
theorem mlayMostX_3_c {xs : List Int32} {e : Nat} {ac : Int} {M0 M : nM} {k : Int} {Ms : nM} (hS : Sf 3 ac M0 M) (hdm : M0 112 0 = 3) (hk : 0 ≤ k ∧ k ≤ 728) (hms : M = Ms) : ∀ nn : Nat, (∀ (x2 x3 : Int) (M : nM), Sf 3 ac M0 M → (0 ≤ x2 ∧ x2 ≤ 728) → (0 ≤ x3 ∧ x3 ≤ 27) → (x2 = k / pn 3 (kV 1 3 - tbl (tVn 3) x3).toNat) → (∀ r : Int, 0 ≤ r → r < x3 → M 127 r = fq 1 3 k r) → (FC 127 Ms M) → (27 - x3) * 1 + 1 < (nn : Int) → nW xs (e + 2) 199 4 [some (2, 112), none, some (0, x2), some (0, x3), none, none, none] [] M (nPV fun M1 => Sf 3 ac M0 M1 ∧ (∀ r : Int, 0 ≤ r → r < 27 → M1 127 r = fq 1 3 k r) ∧ (FC 127 Ms M1))) := by
  have hd : (3 : Int) = 2 ∨ (3 : Int) = 3 := by decide
  have hac := hS.2.2.2.2
  intro nn
  induction nn with
  | zero => intros; omega
  | succ nn ih =>
    intro x2 x3 M hS k2 k3 v0 v1 v2 hnn
    refine n_iload_n c_199_4 rfl (n_aload_n c_199_5 rfl (n_getV (bi := 0) c_199_6 sc_112.n rfl rfl rfl (t_dm hS hdm) ?_))
    intro z1 ez1 f2
    obtain rfl : z1 = 3 := by omega
    refine n_iconst c_199_9 (n_s2I c_199_10 rfl rfl rfl rfl (mpower3_3  hS ) ?_)
    intro z3 M4 hP5
    obtain ⟨eM, f5⟩ := hP5
    subst eM
    obtain rfl : z3 = 27 := by omega
    refine n_if2_ge c_199_13 (by omega) (by omega) ?_ ?_
    · intro h6
      exact n_rV c_199_111 rfl ⟨hS, by exact fun r h0 h1 => v1 r h0 (by omega), by exact v2⟩
    · intro h7
      refine n_aload_n c_199_16 rfl (n_iload_n c_199_17 rfl (n_iconst c_199_18 (n_iconst c_199_19 (n_v3I c_199_20 rfl sc_112.n rfl rfl rfl rfl (mdigitX_3 (r := x3) (k := 3) (j := 0) hS hdm (by omega) (by omega) (by omega) (by omega)) ?_))))
      intro z8 M9 hP10
      obtain ⟨eM, f10, f10p0⟩ := hP10
      subst eM
      have kza : z8 = x3 / (3 * 3) := by rw [f10p0]; exact (dgt3 (d := 3) (by decide) (by omega)).1
      refine n_istore (L2 := [some (2, 112), none, some (0, x2), some (0, x3), some (0, z8), none, none]) c_199_23 rfl rfl (n_aload_n c_199_25 rfl (n_iload_n c_199_26 rfl (n_iconst c_199_27 (n_iconst c_199_28 (n_v3I c_199_29 rfl sc_112.n rfl rfl rfl rfl (mdigitX_3 (r := x3) (k := 3) (j := 1) hS hdm (by omega) (by omega) (by omega) (by omega)) ?_)))))
      intro z11 M12 hP13
      obtain ⟨eM, f13, f13p0⟩ := hP13
      subst eM
      have kzb : z11 = x3 / 3 % 3 := by rw [f13p0]; exact (dgt3 (d := 3) (by decide) (by omega)).2.1
      refine n_istore (L2 := [some (2, 112), none, some (0, x2), some (0, x3), some (0, z8), some (0, z11), none]) c_199_32 rfl rfl (n_aload_n c_199_34 rfl (n_iload_n c_199_35 rfl (n_iconst c_199_36 (n_iconst c_199_37 (n_v3I c_199_38 rfl sc_112.n rfl rfl rfl rfl (mdigitX_3 (r := x3) (k := 3) (j := 2) hS hdm (by omega) (by omega) (by omega) (by omega)) ?_)))))
      intro z14 M15 hP16
      obtain ⟨eM, f16, f16p0⟩ := hP16
      subst eM
      have kzc : z14 = x3 % 3 := by rw [f16p0]; exact (dgt3 (d := 3) (by decide) (by omega)).2.2
      have mo := mo_i (d := 3) (r := x3) (by decide) (by omega) kza kzb kzc
      have tvr := tv_r (d := 3) (r := x3 + 1) (by decide) (by omega)
      have tv0 := tv_r (d := 3) (r := x3) (by decide) (by omega)
      have kv : kV 1 3 = 9 := rfl
      refine n_istore (L2 := [some (2, 112), none, some (0, x2), some (0, x3), some (0, z8), some (0, z11), some (0, z14)]) c_199_41 rfl rfl (n_iload c_199_43 rfl (n_iload c_199_45 rfl ?_))
      refine n_if2_eq c_199_47 (by omega) (by omega) ?_ ?_
      · intro h17
        refine n_aload_n c_199_57 rfl (n_getR c_199_58 sc_112.n rfl rfl rfl r_112_19 (n_iload_n c_199_61 rfl (n_iload c_199_62 rfl (n_iastoreV hS c_199_64 sc_127.n rfl (by omega) (w_127 (by omega) (by omega)) ?_))))
        intro M18 eM18 hS18
        have ms := mo.1 (by omega)
        refine n_goto c_199_65 (n_iinc (L2 := [some (2, 112), none, some (0, x2), some (0, (x3 + 1)), some (0, z8), some (0, z11), some (0, z14)]) c_199_105 rfl rfl rfl (n_goto c_199_108 (n_fg (le_s (le_n (le_s (le_s (le_n (le_n (le_n le_0))))))) ?_)))
        exact ih _ _ M18 hS18 (by omega) (by omega) (by have y : tbl (tVn 3) (x3 + 1) = tbl (tVn 3) x3 := ms.2.symm; rw [y]; exact v0) (by exact fun r h0 h1 => by rw [eM18, nu_e]; by_cases y : r = x3; (rw [if_pos ⟨rfl, y⟩, y]; rw [fq_mo (by omega), ms.1]); (rw [if_neg (fun q => y q.2)]; exact v1 r h0 (by omega))) (by exact fun a i ha => by rw [eM18, nu_a ha]; exact v2 a i ha) (by omega)
      · intro h19
        refine n_iload c_199_50 rfl (n_iload c_199_52 rfl ?_)
        refine n_if2_ne c_199_54 (by omega) (by omega) ?_ ?_
        · intro h20
          refine n_iload c_199_68 rfl (n_iload c_199_70 rfl ?_)
          refine n_if2_ne c_199_72 (by omega) (by omega) ?_ ?_
          · intro h21
            refine n_aload_n c_199_86 rfl (n_getR c_199_87 sc_112.n rfl rfl rfl r_112_19 (n_iload_n c_199_90 rfl (n_iload_n c_199_91 rfl (n_aload_n c_199_92 rfl (n_getV (bi := 0) c_199_93 sc_112.n rfl rfl rfl (t_dm hS hdm) ?_)))))
            intro z22 ez22 f23
            obtain rfl : z22 = 3 := by omega
            refine n_iremV c_199_96 (by omega) (by omega) ?_
            intro z24 ez24 f25
            have ms := mo.2.2 (by omega) (by omega) (by omega)
            refine n_iastoreV hS c_199_97 sc_127.n rfl (by omega) (w_127 (by omega) (by omega)) ?_
            intro M26 eM26 hS26
            refine n_iload_n c_199_98 rfl (n_aload_n c_199_99 rfl (n_getV (bi := 0) c_199_100 sc_112.n rfl rfl rfl (t_dm hS26 hdm) ?_))
            intro z27 ez27 f28
            obtain rfl : z27 = 3 := by omega
            refine n_idivV c_199_103 (by omega) (by omega) ?_
            intro z29 ez29 f30
            refine n_istore_n (L2 := [some (2, 112), none, some (0, z29), some (0, x3), some (0, z8), some (0, z11), some (0, z14)]) c_199_104 rfl rfl (n_iinc (L2 := [some (2, 112), none, some (0, z29), some (0, (x3 + 1)), some (0, z8), some (0, z11), some (0, z14)]) c_199_105 rfl rfl rfl (n_goto c_199_108 (n_fg (le_s (le_n (le_s (le_s (le_n (le_n (le_n le_0))))))) ?_)))
            exact ih _ _ M26 hS26 (by omega) (by omega) (by have y : (kV 1 3 - tbl (tVn 3) (x3 + 1)).toNat = (kV 1 3 - tbl (tVn 3) x3).toNat + 1 := (by omega); rw [y, ez29, v0, Int.ediv_ediv_of_nonneg (by have := pn_pos (d := 3) (by decide) (kV 1 3 - tbl (tVn 3) x3).toNat; omega)]; show _ = k / (3 * pn 3 _); rw [Int.mul_comm]) (by exact fun r h0 h1 => by rw [eM26, nu_e]; by_cases y : r = x3; (rw [if_pos ⟨rfl, y⟩, y]; rw [ez24]; exact (fq_mv (by omega) (by omega) v0).symm); (rw [if_neg (fun q => y q.2)]; exact v1 r h0 (by omega))) (by exact fun a i ha => by rw [eM26, nu_a ha]; exact v2 a i ha) (by omega)
          · intro h31
            refine n_aload_n c_199_75 rfl (n_getR c_199_76 sc_112.n rfl rfl rfl r_112_19 (n_iload_n c_199_79 rfl (n_iload c_199_80 rfl (n_iastoreV hS c_199_82 sc_127.n rfl (by omega) (w_127 (by omega) (by omega)) ?_))))
            intro M32 eM32 hS32
            have ms := mo.2.1 (by omega)
            refine n_goto c_199_83 (n_iinc (L2 := [some (2, 112), none, some (0, x2), some (0, (x3 + 1)), some (0, z8), some (0, z11), some (0, z14)]) c_199_105 rfl rfl rfl (n_goto c_199_108 (n_fg (le_s (le_n (le_s (le_s (le_n (le_n (le_n le_0))))))) ?_)))
            exact ih _ _ M32 hS32 (by omega) (by omega) (by have y : tbl (tVn 3) (x3 + 1) = tbl (tVn 3) x3 := ms.2.symm; rw [y]; exact v0) (by exact fun r h0 h1 => by rw [eM32, nu_e]; by_cases y : r = x3; (rw [if_pos ⟨rfl, y⟩, y]; rw [fq_mo (by omega), ms.1]); (rw [if_neg (fun q => y q.2)]; exact v1 r h0 (by omega))) (by exact fun a i ha => by rw [eM32, nu_a ha]; exact v2 a i ha) (by omega)
        · intro h33
          refine n_aload_n c_199_57 rfl (n_getR c_199_58 sc_112.n rfl rfl rfl r_112_19 (n_iload_n c_199_61 rfl (n_iload c_199_62 rfl (n_iastoreV hS c_199_64 sc_127.n rfl (by omega) (w_127 (by omega) (by omega)) ?_))))
          intro M34 eM34 hS34
          have ms := mo.1 (by omega)
          refine n_goto c_199_65 (n_iinc (L2 := [some (2, 112), none, some (0, x2), some (0, (x3 + 1)), some (0, z8), some (0, z11), some (0, z14)]) c_199_105 rfl rfl rfl (n_goto c_199_108 (n_fg (le_s (le_n (le_s (le_s (le_n (le_n (le_n le_0))))))) ?_)))
          exact ih _ _ M34 hS34 (by omega) (by omega) (by have y : tbl (tVn 3) (x3 + 1) = tbl (tVn 3) x3 := ms.2.symm; rw [y]; exact v0) (by exact fun r h0 h1 => by rw [eM34, nu_e]; by_cases y : r = x3; (rw [if_pos ⟨rfl, y⟩, y]; rw [fq_mo (by omega), ms.1]); (rw [if_neg (fun q => y q.2)]; exact v1 r h0 (by omega))) (by exact fun a i ha => by rw [eM34, nu_a ha]; exact v2 a i ha) (by omega)
set_option maxHeartbeats 4000000 in
theorem mlayMostX_3 {xs : List Int32} {e : Nat} {ac : Int} {M0 M : nM} {k : Int} {Ms : nM} (hS : Sf 3 ac M0 M) (hdm : M0 112 0 = 3) (hk : 0 ≤ k ∧ k ≤ 728) (hms : M = Ms) : nW xs (e + 2) 199 0 [some (2, 112), some (0, k), none, none, none, none, none] [] M (nPV fun M1 => Sf 3 ac M0 M1 ∧ (∀ r : Int, 0 ≤ r → r < 27 → M1 127 r = fq 1 3 k r) ∧ (FC 127 Ms M1)) := by
  have hd : (3 : Int) = 2 ∨ (3 : Int) = 3 := by decide
  have hac := hS.2.2.2.2
  refine n_iload_n c_199_0 rfl (n_istore_n (L2 := [some (2, 112), some (0, k), some (0, k), none, none, none, none]) c_199_1 rfl rfl (n_iconst c_199_2 (n_istore_n (L2 := [some (2, 112), some (0, k), some (0, k), some (0, 0), none, none, none]) c_199_3 rfl rfl (n_fg (le_s (le_n (le_s (le_s (le_n (le_n (le_n le_0))))))) ?_))))
  exact (mlayMostX_3_c hS hdm hk hms 68) _ _ M hS (by omega) (by omega) (by have y : pn 3 (kV 1 3 - tbl (tVn 3) 0).toNat = 1 := (by decide); rw [y]; omega) (by exact fun r h0 h1 => by omega) (by exact fun a i _ => by rw [hms]) (by omega)

set_option maxHeartbeats 4000000 in
theorem mhandCodeX_3 {xs : List Int32} {e : Nat} {ac : Int} {M0 M : nM} (hS : Sf 3 ac M0 M) (hdm : M0 112 0 = 3) : nW xs (e + 1) 198 0 [some (2, 112), none, none, none] [] M (nPJ fun z M1 => M = M1 ∧ (-9223372036854775808 ≤ z ∧ z ≤ 9223372036854775807) ∧ (z = cdN 3 (fun x => M 127 x) 0 27)) := by
  have hd : (3 : Int) = 2 ∨ (3 : Int) = 3 := by decide
  have hac := hS.2.2.2.2
  refine n_lconst (n := 0) c_198_0 rfl (n_lstore_n (L2 := [some (2, 112), some (1, 0), none, none]) c_198_1 rfl rfl (n_aload_n c_198_2 rfl (n_getV (bi := 0) c_198_3 sc_112.n rfl rfl rfl (t_dm hS hdm) ?_)))
  intro z1 ez1 f2
  obtain rfl : z1 = 3 := by omega
  refine n_iconst c_198_6 (n_s2I c_198_7 rfl rfl rfl rfl (mpower3_3  hS ) ?_)
  intro z3 M4 hP5
  obtain ⟨eM, f5⟩ := hP5
  subst eM
  obtain rfl : z3 = 27 := by omega
  refine n_iconst c_198_10 (n_isub c_198_11 rfl (n_istore_n (L2 := [some (2, 112), some (1, 0), none, some (0, (27 - 1))]) c_198_12 rfl rfl (n_iload_n c_198_13 rfl ?_)))
  refine n_if0_lt c_198_14 (by omega) ?_ ?_
  · intro h6
    exfalso; omega
  · intro h7
    refine n_lload_n c_198_17 rfl (n_aload_n c_198_18 rfl (n_getV (bi := 0) c_198_19 sc_112.n rfl rfl rfl (t_dm hS hdm) ?_))
    intro z8 ez8 f9
    obtain rfl : z8 = 3 := by omega
    refine n_i2l c_198_22 (by omega) ?_
    refine n_lmul c_198_23 rfl (n_aload_n c_198_24 rfl (n_getR c_198_25 sc_112.n rfl rfl rfl r_112_19 (n_iload_n c_198_28 rfl (n_ialoadV c_198_29 sc_127.n rfl rfl rfl (by omega) (t_127 hS (by omega)) ?_))))
    intro z10 ez10 f11
    have kr26 : z10 = M 127 26 := ez10
    refine n_i2l c_198_30 (by omega) ?_
    refine n_ladd c_198_31 rfl (n_lstore_n (L2 := [some (2, 112), some (1, ((0 * 3) + z10)), none, some (0, (27 - 1))]) c_198_32 rfl rfl (n_iinc (L2 := [some (2, 112), some (1, ((0 * 3) + z10)), none, some (0, ((27 - 1) + (-1)))]) c_198_33 rfl rfl rfl (n_goto c_198_36 (n_iload_n c_198_13 rfl ?_))))
    refine n_if0_lt c_198_14 (by omega) ?_ ?_
    · intro h12
      exfalso; omega
    · intro h13
      refine n_lload_n c_198_17 rfl (n_aload_n c_198_18 rfl (n_getV (bi := 0) c_198_19 sc_112.n rfl rfl rfl (t_dm hS hdm) ?_))
      intro z14 ez14 f15
      obtain rfl : z14 = 3 := by omega
      refine n_i2l c_198_22 (by omega) ?_
      refine n_lmul c_198_23 rfl (n_aload_n c_198_24 rfl (n_getR c_198_25 sc_112.n rfl rfl rfl r_112_19 (n_iload_n c_198_28 rfl (n_ialoadV c_198_29 sc_127.n rfl rfl rfl (by omega) (t_127 hS (by omega)) ?_))))
      intro z16 ez16 f17
      have kr25 : z16 = M 127 25 := ez16
      refine n_i2l c_198_30 (by omega) ?_
      refine n_ladd c_198_31 rfl (n_lstore_n (L2 := [some (2, 112), some (1, ((((0 * 3) + z10) * 3) + z16)), none, some (0, ((27 - 1) + (-1)))]) c_198_32 rfl rfl (n_iinc (L2 := [some (2, 112), some (1, ((((0 * 3) + z10) * 3) + z16)), none, some (0, (((27 - 1) + (-1)) + (-1)))]) c_198_33 rfl rfl rfl (n_goto c_198_36 (n_iload_n c_198_13 rfl ?_))))
      refine n_if0_lt c_198_14 (by omega) ?_ ?_
      · intro h18
        exfalso; omega
      · intro h19
        refine n_lload_n c_198_17 rfl (n_aload_n c_198_18 rfl (n_getV (bi := 0) c_198_19 sc_112.n rfl rfl rfl (t_dm hS hdm) ?_))
        intro z20 ez20 f21
        obtain rfl : z20 = 3 := by omega
        refine n_i2l c_198_22 (by omega) ?_
        refine n_lmul c_198_23 rfl (n_aload_n c_198_24 rfl (n_getR c_198_25 sc_112.n rfl rfl rfl r_112_19 (n_iload_n c_198_28 rfl (n_ialoadV c_198_29 sc_127.n rfl rfl rfl (by omega) (t_127 hS (by omega)) ?_))))
        intro z22 ez22 f23
        have kr24 : z22 = M 127 24 := ez22
        refine n_i2l c_198_30 (by omega) ?_
        refine n_ladd c_198_31 rfl (n_lstore_n (L2 := [some (2, 112), some (1, ((((((0 * 3) + z10) * 3) + z16) * 3) + z22)), none, some (0, (((27 - 1) + (-1)) + (-1)))]) c_198_32 rfl rfl (n_iinc (L2 := [some (2, 112), some (1, ((((((0 * 3) + z10) * 3) + z16) * 3) + z22)), none, some (0, ((((27 - 1) + (-1)) + (-1)) + (-1)))]) c_198_33 rfl rfl rfl (n_goto c_198_36 (n_iload_n c_198_13 rfl ?_))))
        refine n_if0_lt c_198_14 (by omega) ?_ ?_
        · intro h24
          exfalso; omega
        · intro h25
          refine n_lload_n c_198_17 rfl (n_aload_n c_198_18 rfl (n_getV (bi := 0) c_198_19 sc_112.n rfl rfl rfl (t_dm hS hdm) ?_))
          intro z26 ez26 f27
          obtain rfl : z26 = 3 := by omega
          refine n_i2l c_198_22 (by omega) ?_
          refine n_lmul c_198_23 rfl (n_aload_n c_198_24 rfl (n_getR c_198_25 sc_112.n rfl rfl rfl r_112_19 (n_iload_n c_198_28 rfl (n_ialoadV c_198_29 sc_127.n rfl rfl rfl (by omega) (t_127 hS (by omega)) ?_))))
          intro z28 ez28 f29
          have kr23 : z28 = M 127 23 := ez28
          refine n_i2l c_198_30 (by omega) ?_
          refine n_ladd c_198_31 rfl (n_lstore_n (L2 := [some (2, 112), some (1, ((((((((0 * 3) + z10) * 3) + z16) * 3) + z22) * 3) + z28)), none, some (0, ((((27 - 1) + (-1)) + (-1)) + (-1)))]) c_198_32 rfl rfl (n_iinc (L2 := [some (2, 112), some (1, ((((((((0 * 3) + z10) * 3) + z16) * 3) + z22) * 3) + z28)), none, some (0, (((((27 - 1) + (-1)) + (-1)) + (-1)) + (-1)))]) c_198_33 rfl rfl rfl (n_goto c_198_36 (n_iload_n c_198_13 rfl ?_))))
          refine n_if0_lt c_198_14 (by omega) ?_ ?_
          · intro h30
            exfalso; omega
          · intro h31
            refine n_lload_n c_198_17 rfl (n_aload_n c_198_18 rfl (n_getV (bi := 0) c_198_19 sc_112.n rfl rfl rfl (t_dm hS hdm) ?_))
            intro z32 ez32 f33
            obtain rfl : z32 = 3 := by omega
            refine n_i2l c_198_22 (by omega) ?_
            refine n_lmul c_198_23 rfl (n_aload_n c_198_24 rfl (n_getR c_198_25 sc_112.n rfl rfl rfl r_112_19 (n_iload_n c_198_28 rfl (n_ialoadV c_198_29 sc_127.n rfl rfl rfl (by omega) (t_127 hS (by omega)) ?_))))
            intro z34 ez34 f35
            have kr22 : z34 = M 127 22 := ez34
            refine n_i2l c_198_30 (by omega) ?_
            refine n_ladd c_198_31 rfl (n_lstore_n (L2 := [some (2, 112), some (1, ((((((((((0 * 3) + z10) * 3) + z16) * 3) + z22) * 3) + z28) * 3) + z34)), none, some (0, (((((27 - 1) + (-1)) + (-1)) + (-1)) + (-1)))]) c_198_32 rfl rfl (n_iinc (L2 := [some (2, 112), some (1, ((((((((((0 * 3) + z10) * 3) + z16) * 3) + z22) * 3) + z28) * 3) + z34)), none, some (0, ((((((27 - 1) + (-1)) + (-1)) + (-1)) + (-1)) + (-1)))]) c_198_33 rfl rfl rfl (n_goto c_198_36 (n_iload_n c_198_13 rfl ?_))))
            refine n_if0_lt c_198_14 (by omega) ?_ ?_
            · intro h36
              exfalso; omega
            · intro h37
              refine n_lload_n c_198_17 rfl (n_aload_n c_198_18 rfl (n_getV (bi := 0) c_198_19 sc_112.n rfl rfl rfl (t_dm hS hdm) ?_))
              intro z38 ez38 f39
              obtain rfl : z38 = 3 := by omega
              refine n_i2l c_198_22 (by omega) ?_
              refine n_lmul c_198_23 rfl (n_aload_n c_198_24 rfl (n_getR c_198_25 sc_112.n rfl rfl rfl r_112_19 (n_iload_n c_198_28 rfl (n_ialoadV c_198_29 sc_127.n rfl rfl rfl (by omega) (t_127 hS (by omega)) ?_))))
              intro z40 ez40 f41
              have kr21 : z40 = M 127 21 := ez40
              refine n_i2l c_198_30 (by omega) ?_
              refine n_ladd c_198_31 rfl (n_lstore_n (L2 := [some (2, 112), some (1, ((((((((((((0 * 3) + z10) * 3) + z16) * 3) + z22) * 3) + z28) * 3) + z34) * 3) + z40)), none, some (0, ((((((27 - 1) + (-1)) + (-1)) + (-1)) + (-1)) + (-1)))]) c_198_32 rfl rfl (n_iinc (L2 := [some (2, 112), some (1, ((((((((((((0 * 3) + z10) * 3) + z16) * 3) + z22) * 3) + z28) * 3) + z34) * 3) + z40)), none, some (0, (((((((27 - 1) + (-1)) + (-1)) + (-1)) + (-1)) + (-1)) + (-1)))]) c_198_33 rfl rfl rfl (n_goto c_198_36 (n_iload_n c_198_13 rfl ?_))))
              refine n_if0_lt c_198_14 (by omega) ?_ ?_
              · intro h42
                exfalso; omega
              · intro h43
                refine n_lload_n c_198_17 rfl (n_aload_n c_198_18 rfl (n_getV (bi := 0) c_198_19 sc_112.n rfl rfl rfl (t_dm hS hdm) ?_))
                intro z44 ez44 f45
                obtain rfl : z44 = 3 := by omega
                refine n_i2l c_198_22 (by omega) ?_
                refine n_lmul c_198_23 rfl (n_aload_n c_198_24 rfl (n_getR c_198_25 sc_112.n rfl rfl rfl r_112_19 (n_iload_n c_198_28 rfl (n_ialoadV c_198_29 sc_127.n rfl rfl rfl (by omega) (t_127 hS (by omega)) ?_))))
                intro z46 ez46 f47
                have kr20 : z46 = M 127 20 := ez46
                refine n_i2l c_198_30 (by omega) ?_
                refine n_ladd c_198_31 rfl (n_lstore_n (L2 := [some (2, 112), some (1, ((((((((((((((0 * 3) + z10) * 3) + z16) * 3) + z22) * 3) + z28) * 3) + z34) * 3) + z40) * 3) + z46)), none, some (0, (((((((27 - 1) + (-1)) + (-1)) + (-1)) + (-1)) + (-1)) + (-1)))]) c_198_32 rfl rfl (n_iinc (L2 := [some (2, 112), some (1, ((((((((((((((0 * 3) + z10) * 3) + z16) * 3) + z22) * 3) + z28) * 3) + z34) * 3) + z40) * 3) + z46)), none, some (0, ((((((((27 - 1) + (-1)) + (-1)) + (-1)) + (-1)) + (-1)) + (-1)) + (-1)))]) c_198_33 rfl rfl rfl (n_goto c_198_36 (n_iload_n c_198_13 rfl ?_))))
                refine n_if0_lt c_198_14 (by omega) ?_ ?_
                · intro h48
                  exfalso; omega
                · intro h49
                  refine n_lload_n c_198_17 rfl (n_aload_n c_198_18 rfl (n_getV (bi := 0) c_198_19 sc_112.n rfl rfl rfl (t_dm hS hdm) ?_))
                  intro z50 ez50 f51
                  obtain rfl : z50 = 3 := by omega
                  refine n_i2l c_198_22 (by omega) ?_
                  refine n_lmul c_198_23 rfl (n_aload_n c_198_24 rfl (n_getR c_198_25 sc_112.n rfl rfl rfl r_112_19 (n_iload_n c_198_28 rfl (n_ialoadV c_198_29 sc_127.n rfl rfl rfl (by omega) (t_127 hS (by omega)) ?_))))
                  intro z52 ez52 f53
                  have kr19 : z52 = M 127 19 := ez52
                  refine n_i2l c_198_30 (by omega) ?_
                  refine n_ladd c_198_31 rfl (n_lstore_n (L2 := [some (2, 112), some (1, ((((((((((((((((0 * 3) + z10) * 3) + z16) * 3) + z22) * 3) + z28) * 3) + z34) * 3) + z40) * 3) + z46) * 3) + z52)), none, some (0, ((((((((27 - 1) + (-1)) + (-1)) + (-1)) + (-1)) + (-1)) + (-1)) + (-1)))]) c_198_32 rfl rfl (n_iinc (L2 := [some (2, 112), some (1, ((((((((((((((((0 * 3) + z10) * 3) + z16) * 3) + z22) * 3) + z28) * 3) + z34) * 3) + z40) * 3) + z46) * 3) + z52)), none, some (0, (((((((((27 - 1) + (-1)) + (-1)) + (-1)) + (-1)) + (-1)) + (-1)) + (-1)) + (-1)))]) c_198_33 rfl rfl rfl (n_goto c_198_36 (n_iload_n c_198_13 rfl ?_))))
                  refine n_if0_lt c_198_14 (by omega) ?_ ?_
                  · intro h54
                    exfalso; omega
                  · intro h55
                    refine n_lload_n c_198_17 rfl (n_aload_n c_198_18 rfl (n_getV (bi := 0) c_198_19 sc_112.n rfl rfl rfl (t_dm hS hdm) ?_))
                    intro z56 ez56 f57
                    obtain rfl : z56 = 3 := by omega
                    refine n_i2l c_198_22 (by omega) ?_
                    refine n_lmul c_198_23 rfl (n_aload_n c_198_24 rfl (n_getR c_198_25 sc_112.n rfl rfl rfl r_112_19 (n_iload_n c_198_28 rfl (n_ialoadV c_198_29 sc_127.n rfl rfl rfl (by omega) (t_127 hS (by omega)) ?_))))
                    intro z58 ez58 f59
                    have kr18 : z58 = M 127 18 := ez58
                    refine n_i2l c_198_30 (by omega) ?_
                    refine n_ladd c_198_31 rfl (n_lstore_n (L2 := [some (2, 112), some (1, ((((((((((((((((((0 * 3) + z10) * 3) + z16) * 3) + z22) * 3) + z28) * 3) + z34) * 3) + z40) * 3) + z46) * 3) + z52) * 3) + z58)), none, some (0, (((((((((27 - 1) + (-1)) + (-1)) + (-1)) + (-1)) + (-1)) + (-1)) + (-1)) + (-1)))]) c_198_32 rfl rfl (n_iinc (L2 := [some (2, 112), some (1, ((((((((((((((((((0 * 3) + z10) * 3) + z16) * 3) + z22) * 3) + z28) * 3) + z34) * 3) + z40) * 3) + z46) * 3) + z52) * 3) + z58)), none, some (0, ((((((((((27 - 1) + (-1)) + (-1)) + (-1)) + (-1)) + (-1)) + (-1)) + (-1)) + (-1)) + (-1)))]) c_198_33 rfl rfl rfl (n_goto c_198_36 (n_iload_n c_198_13 rfl ?_))))
                    refine n_if0_lt c_198_14 (by omega) ?_ ?_
                    · intro h60
                      exfalso; omega
                    · intro h61
                      refine n_lload_n c_198_17 rfl (n_aload_n c_198_18 rfl (n_getV (bi := 0) c_198_19 sc_112.n rfl rfl rfl (t_dm hS hdm) ?_))
                      intro z62 ez62 f63
                      obtain rfl : z62 = 3 := by omega
                      refine n_i2l c_198_22 (by omega) ?_
                      refine n_lmul c_198_23 rfl (n_aload_n c_198_24 rfl (n_getR c_198_25 sc_112.n rfl rfl rfl r_112_19 (n_iload_n c_198_28 rfl (n_ialoadV c_198_29 sc_127.n rfl rfl rfl (by omega) (t_127 hS (by omega)) ?_))))
                      intro z64 ez64 f65
                      have kr17 : z64 = M 127 17 := ez64
                      refine n_i2l c_198_30 (by omega) ?_
                      refine n_ladd c_198_31 rfl (n_lstore_n (L2 := [some (2, 112), some (1, ((((((((((((((((((((0 * 3) + z10) * 3) + z16) * 3) + z22) * 3) + z28) * 3) + z34) * 3) + z40) * 3) + z46) * 3) + z52) * 3) + z58) * 3) + z64)), none, some (0, ((((((((((27 - 1) + (-1)) + (-1)) + (-1)) + (-1)) + (-1)) + (-1)) + (-1)) + (-1)) + (-1)))]) c_198_32 rfl rfl (n_iinc (L2 := [some (2, 112), some (1, ((((((((((((((((((((0 * 3) + z10) * 3) + z16) * 3) + z22) * 3) + z28) * 3) + z34) * 3) + z40) * 3) + z46) * 3) + z52) * 3) + z58) * 3) + z64)), none, some (0, (((((((((((27 - 1) + (-1)) + (-1)) + (-1)) + (-1)) + (-1)) + (-1)) + (-1)) + (-1)) + (-1)) + (-1)))]) c_198_33 rfl rfl rfl (n_goto c_198_36 (n_iload_n c_198_13 rfl ?_))))
                      refine n_if0_lt c_198_14 (by omega) ?_ ?_
                      · intro h66
                        exfalso; omega
                      · intro h67
                        refine n_lload_n c_198_17 rfl (n_aload_n c_198_18 rfl (n_getV (bi := 0) c_198_19 sc_112.n rfl rfl rfl (t_dm hS hdm) ?_))
                        intro z68 ez68 f69
                        obtain rfl : z68 = 3 := by omega
                        refine n_i2l c_198_22 (by omega) ?_
                        refine n_lmul c_198_23 rfl (n_aload_n c_198_24 rfl (n_getR c_198_25 sc_112.n rfl rfl rfl r_112_19 (n_iload_n c_198_28 rfl (n_ialoadV c_198_29 sc_127.n rfl rfl rfl (by omega) (t_127 hS (by omega)) ?_))))
                        intro z70 ez70 f71
                        have kr16 : z70 = M 127 16 := ez70
                        refine n_i2l c_198_30 (by omega) ?_
                        refine n_ladd c_198_31 rfl (n_lstore_n (L2 := [some (2, 112), some (1, ((((((((((((((((((((((0 * 3) + z10) * 3) + z16) * 3) + z22) * 3) + z28) * 3) + z34) * 3) + z40) * 3) + z46) * 3) + z52) * 3) + z58) * 3) + z64) * 3) + z70)), none, some (0, (((((((((((27 - 1) + (-1)) + (-1)) + (-1)) + (-1)) + (-1)) + (-1)) + (-1)) + (-1)) + (-1)) + (-1)))]) c_198_32 rfl rfl (n_iinc (L2 := [some (2, 112), some (1, ((((((((((((((((((((((0 * 3) + z10) * 3) + z16) * 3) + z22) * 3) + z28) * 3) + z34) * 3) + z40) * 3) + z46) * 3) + z52) * 3) + z58) * 3) + z64) * 3) + z70)), none, some (0, ((((((((((((27 - 1) + (-1)) + (-1)) + (-1)) + (-1)) + (-1)) + (-1)) + (-1)) + (-1)) + (-1)) + (-1)) + (-1)))]) c_198_33 rfl rfl rfl (n_goto c_198_36 (n_iload_n c_198_13 rfl ?_))))
                        refine n_if0_lt c_198_14 (by omega) ?_ ?_
                        · intro h72
                          exfalso; omega
                        · intro h73
                          refine n_lload_n c_198_17 rfl (n_aload_n c_198_18 rfl (n_getV (bi := 0) c_198_19 sc_112.n rfl rfl rfl (t_dm hS hdm) ?_))
                          intro z74 ez74 f75
                          obtain rfl : z74 = 3 := by omega
                          refine n_i2l c_198_22 (by omega) ?_
                          refine n_lmul c_198_23 rfl (n_aload_n c_198_24 rfl (n_getR c_198_25 sc_112.n rfl rfl rfl r_112_19 (n_iload_n c_198_28 rfl (n_ialoadV c_198_29 sc_127.n rfl rfl rfl (by omega) (t_127 hS (by omega)) ?_))))
                          intro z76 ez76 f77
                          have kr15 : z76 = M 127 15 := ez76
                          refine n_i2l c_198_30 (by omega) ?_
                          refine n_ladd c_198_31 rfl (n_lstore_n (L2 := [some (2, 112), some (1, ((((((((((((((((((((((((0 * 3) + z10) * 3) + z16) * 3) + z22) * 3) + z28) * 3) + z34) * 3) + z40) * 3) + z46) * 3) + z52) * 3) + z58) * 3) + z64) * 3) + z70) * 3) + z76)), none, some (0, ((((((((((((27 - 1) + (-1)) + (-1)) + (-1)) + (-1)) + (-1)) + (-1)) + (-1)) + (-1)) + (-1)) + (-1)) + (-1)))]) c_198_32 rfl rfl (n_iinc (L2 := [some (2, 112), some (1, ((((((((((((((((((((((((0 * 3) + z10) * 3) + z16) * 3) + z22) * 3) + z28) * 3) + z34) * 3) + z40) * 3) + z46) * 3) + z52) * 3) + z58) * 3) + z64) * 3) + z70) * 3) + z76)), none, some (0, (((((((((((((27 - 1) + (-1)) + (-1)) + (-1)) + (-1)) + (-1)) + (-1)) + (-1)) + (-1)) + (-1)) + (-1)) + (-1)) + (-1)))]) c_198_33 rfl rfl rfl (n_goto c_198_36 (n_iload_n c_198_13 rfl ?_))))
                          refine n_if0_lt c_198_14 (by omega) ?_ ?_
                          · intro h78
                            exfalso; omega
                          · intro h79
                            refine n_lload_n c_198_17 rfl (n_aload_n c_198_18 rfl (n_getV (bi := 0) c_198_19 sc_112.n rfl rfl rfl (t_dm hS hdm) ?_))
                            intro z80 ez80 f81
                            obtain rfl : z80 = 3 := by omega
                            refine n_i2l c_198_22 (by omega) ?_
                            refine n_lmul c_198_23 rfl (n_aload_n c_198_24 rfl (n_getR c_198_25 sc_112.n rfl rfl rfl r_112_19 (n_iload_n c_198_28 rfl (n_ialoadV c_198_29 sc_127.n rfl rfl rfl (by omega) (t_127 hS (by omega)) ?_))))
                            intro z82 ez82 f83
                            have kr14 : z82 = M 127 14 := ez82
                            refine n_i2l c_198_30 (by omega) ?_
                            refine n_ladd c_198_31 rfl (n_lstore_n (L2 := [some (2, 112), some (1, ((((((((((((((((((((((((((0 * 3) + z10) * 3) + z16) * 3) + z22) * 3) + z28) * 3) + z34) * 3) + z40) * 3) + z46) * 3) + z52) * 3) + z58) * 3) + z64) * 3) + z70) * 3) + z76) * 3) + z82)), none, some (0, (((((((((((((27 - 1) + (-1)) + (-1)) + (-1)) + (-1)) + (-1)) + (-1)) + (-1)) + (-1)) + (-1)) + (-1)) + (-1)) + (-1)))]) c_198_32 rfl rfl (n_iinc (L2 := [some (2, 112), some (1, ((((((((((((((((((((((((((0 * 3) + z10) * 3) + z16) * 3) + z22) * 3) + z28) * 3) + z34) * 3) + z40) * 3) + z46) * 3) + z52) * 3) + z58) * 3) + z64) * 3) + z70) * 3) + z76) * 3) + z82)), none, some (0, ((((((((((((((27 - 1) + (-1)) + (-1)) + (-1)) + (-1)) + (-1)) + (-1)) + (-1)) + (-1)) + (-1)) + (-1)) + (-1)) + (-1)) + (-1)))]) c_198_33 rfl rfl rfl (n_goto c_198_36 (n_iload_n c_198_13 rfl ?_))))
                            refine n_if0_lt c_198_14 (by omega) ?_ ?_
                            · intro h84
                              exfalso; omega
                            · intro h85
                              refine n_lload_n c_198_17 rfl (n_aload_n c_198_18 rfl (n_getV (bi := 0) c_198_19 sc_112.n rfl rfl rfl (t_dm hS hdm) ?_))
                              intro z86 ez86 f87
                              obtain rfl : z86 = 3 := by omega
                              refine n_i2l c_198_22 (by omega) ?_
                              refine n_lmul c_198_23 rfl (n_aload_n c_198_24 rfl (n_getR c_198_25 sc_112.n rfl rfl rfl r_112_19 (n_iload_n c_198_28 rfl (n_ialoadV c_198_29 sc_127.n rfl rfl rfl (by omega) (t_127 hS (by omega)) ?_))))
                              intro z88 ez88 f89
                              have kr13 : z88 = M 127 13 := ez88
                              refine n_i2l c_198_30 (by omega) ?_
                              refine n_ladd c_198_31 rfl (n_lstore_n (L2 := [some (2, 112), some (1, ((((((((((((((((((((((((((((0 * 3) + z10) * 3) + z16) * 3) + z22) * 3) + z28) * 3) + z34) * 3) + z40) * 3) + z46) * 3) + z52) * 3) + z58) * 3) + z64) * 3) + z70) * 3) + z76) * 3) + z82) * 3) + z88)), none, some (0, ((((((((((((((27 - 1) + (-1)) + (-1)) + (-1)) + (-1)) + (-1)) + (-1)) + (-1)) + (-1)) + (-1)) + (-1)) + (-1)) + (-1)) + (-1)))]) c_198_32 rfl rfl (n_iinc (L2 := [some (2, 112), some (1, ((((((((((((((((((((((((((((0 * 3) + z10) * 3) + z16) * 3) + z22) * 3) + z28) * 3) + z34) * 3) + z40) * 3) + z46) * 3) + z52) * 3) + z58) * 3) + z64) * 3) + z70) * 3) + z76) * 3) + z82) * 3) + z88)), none, some (0, (((((((((((((((27 - 1) + (-1)) + (-1)) + (-1)) + (-1)) + (-1)) + (-1)) + (-1)) + (-1)) + (-1)) + (-1)) + (-1)) + (-1)) + (-1)) + (-1)))]) c_198_33 rfl rfl rfl (n_goto c_198_36 (n_iload_n c_198_13 rfl ?_))))
                              refine n_if0_lt c_198_14 (by omega) ?_ ?_
                              · intro h90
                                exfalso; omega
                              · intro h91
                                refine n_lload_n c_198_17 rfl (n_aload_n c_198_18 rfl (n_getV (bi := 0) c_198_19 sc_112.n rfl rfl rfl (t_dm hS hdm) ?_))
                                intro z92 ez92 f93
                                obtain rfl : z92 = 3 := by omega
                                refine n_i2l c_198_22 (by omega) ?_
                                refine n_lmul c_198_23 rfl (n_aload_n c_198_24 rfl (n_getR c_198_25 sc_112.n rfl rfl rfl r_112_19 (n_iload_n c_198_28 rfl (n_ialoadV c_198_29 sc_127.n rfl rfl rfl (by omega) (t_127 hS (by omega)) ?_))))
                                intro z94 ez94 f95
                                have kr12 : z94 = M 127 12 := ez94
                                refine n_i2l c_198_30 (by omega) ?_
                                refine n_ladd c_198_31 rfl (n_lstore_n (L2 := [some (2, 112), some (1, ((((((((((((((((((((((((((((((0 * 3) + z10) * 3) + z16) * 3) + z22) * 3) + z28) * 3) + z34) * 3) + z40) * 3) + z46) * 3) + z52) * 3) + z58) * 3) + z64) * 3) + z70) * 3) + z76) * 3) + z82) * 3) + z88) * 3) + z94)), none, some (0, (((((((((((((((27 - 1) + (-1)) + (-1)) + (-1)) + (-1)) + (-1)) + (-1)) + (-1)) + (-1)) + (-1)) + (-1)) + (-1)) + (-1)) + (-1)) + (-1)))]) c_198_32 rfl rfl (n_iinc (L2 := [some (2, 112), some (1, ((((((((((((((((((((((((((((((0 * 3) + z10) * 3) + z16) * 3) + z22) * 3) + z28) * 3) + z34) * 3) + z40) * 3) + z46) * 3) + z52) * 3) + z58) * 3) + z64) * 3) + z70) * 3) + z76) * 3) + z82) * 3) + z88) * 3) + z94)), none, some (0, ((((((((((((((((27 - 1) + (-1)) + (-1)) + (-1)) + (-1)) + (-1)) + (-1)) + (-1)) + (-1)) + (-1)) + (-1)) + (-1)) + (-1)) + (-1)) + (-1)) + (-1)))]) c_198_33 rfl rfl rfl (n_goto c_198_36 (n_iload_n c_198_13 rfl ?_))))
                                refine n_if0_lt c_198_14 (by omega) ?_ ?_
                                · intro h96
                                  exfalso; omega
                                · intro h97
                                  refine n_lload_n c_198_17 rfl (n_aload_n c_198_18 rfl (n_getV (bi := 0) c_198_19 sc_112.n rfl rfl rfl (t_dm hS hdm) ?_))
                                  intro z98 ez98 f99
                                  obtain rfl : z98 = 3 := by omega
                                  refine n_i2l c_198_22 (by omega) ?_
                                  refine n_lmul c_198_23 rfl (n_aload_n c_198_24 rfl (n_getR c_198_25 sc_112.n rfl rfl rfl r_112_19 (n_iload_n c_198_28 rfl (n_ialoadV c_198_29 sc_127.n rfl rfl rfl (by omega) (t_127 hS (by omega)) ?_))))
                                  intro z100 ez100 f101
                                  have kr11 : z100 = M 127 11 := ez100
                                  refine n_i2l c_198_30 (by omega) ?_
                                  refine n_ladd c_198_31 rfl (n_lstore_n (L2 := [some (2, 112), some (1, ((((((((((((((((((((((((((((((((0 * 3) + z10) * 3) + z16) * 3) + z22) * 3) + z28) * 3) + z34) * 3) + z40) * 3) + z46) * 3) + z52) * 3) + z58) * 3) + z64) * 3) + z70) * 3) + z76) * 3) + z82) * 3) + z88) * 3) + z94) * 3) + z100)), none, some (0, ((((((((((((((((27 - 1) + (-1)) + (-1)) + (-1)) + (-1)) + (-1)) + (-1)) + (-1)) + (-1)) + (-1)) + (-1)) + (-1)) + (-1)) + (-1)) + (-1)) + (-1)))]) c_198_32 rfl rfl (n_iinc (L2 := [some (2, 112), some (1, ((((((((((((((((((((((((((((((((0 * 3) + z10) * 3) + z16) * 3) + z22) * 3) + z28) * 3) + z34) * 3) + z40) * 3) + z46) * 3) + z52) * 3) + z58) * 3) + z64) * 3) + z70) * 3) + z76) * 3) + z82) * 3) + z88) * 3) + z94) * 3) + z100)), none, some (0, (((((((((((((((((27 - 1) + (-1)) + (-1)) + (-1)) + (-1)) + (-1)) + (-1)) + (-1)) + (-1)) + (-1)) + (-1)) + (-1)) + (-1)) + (-1)) + (-1)) + (-1)) + (-1)))]) c_198_33 rfl rfl rfl (n_goto c_198_36 (n_iload_n c_198_13 rfl ?_))))
                                  refine n_if0_lt c_198_14 (by omega) ?_ ?_
                                  · intro h102
                                    exfalso; omega
                                  · intro h103
                                    refine n_lload_n c_198_17 rfl (n_aload_n c_198_18 rfl (n_getV (bi := 0) c_198_19 sc_112.n rfl rfl rfl (t_dm hS hdm) ?_))
                                    intro z104 ez104 f105
                                    obtain rfl : z104 = 3 := by omega
                                    refine n_i2l c_198_22 (by omega) ?_
                                    refine n_lmul c_198_23 rfl (n_aload_n c_198_24 rfl (n_getR c_198_25 sc_112.n rfl rfl rfl r_112_19 (n_iload_n c_198_28 rfl (n_ialoadV c_198_29 sc_127.n rfl rfl rfl (by omega) (t_127 hS (by omega)) ?_))))
                                    intro z106 ez106 f107
                                    have kr10 : z106 = M 127 10 := ez106
                                    refine n_i2l c_198_30 (by omega) ?_
                                    refine n_ladd c_198_31 rfl (n_lstore_n (L2 := [some (2, 112), some (1, ((((((((((((((((((((((((((((((((((0 * 3) + z10) * 3) + z16) * 3) + z22) * 3) + z28) * 3) + z34) * 3) + z40) * 3) + z46) * 3) + z52) * 3) + z58) * 3) + z64) * 3) + z70) * 3) + z76) * 3) + z82) * 3) + z88) * 3) + z94) * 3) + z100) * 3) + z106)), none, some (0, (((((((((((((((((27 - 1) + (-1)) + (-1)) + (-1)) + (-1)) + (-1)) + (-1)) + (-1)) + (-1)) + (-1)) + (-1)) + (-1)) + (-1)) + (-1)) + (-1)) + (-1)) + (-1)))]) c_198_32 rfl rfl (n_iinc (L2 := [some (2, 112), some (1, ((((((((((((((((((((((((((((((((((0 * 3) + z10) * 3) + z16) * 3) + z22) * 3) + z28) * 3) + z34) * 3) + z40) * 3) + z46) * 3) + z52) * 3) + z58) * 3) + z64) * 3) + z70) * 3) + z76) * 3) + z82) * 3) + z88) * 3) + z94) * 3) + z100) * 3) + z106)), none, some (0, ((((((((((((((((((27 - 1) + (-1)) + (-1)) + (-1)) + (-1)) + (-1)) + (-1)) + (-1)) + (-1)) + (-1)) + (-1)) + (-1)) + (-1)) + (-1)) + (-1)) + (-1)) + (-1)) + (-1)))]) c_198_33 rfl rfl rfl (n_goto c_198_36 (n_iload_n c_198_13 rfl ?_))))
                                    refine n_if0_lt c_198_14 (by omega) ?_ ?_
                                    · intro h108
                                      exfalso; omega
                                    · intro h109
                                      refine n_lload_n c_198_17 rfl (n_aload_n c_198_18 rfl (n_getV (bi := 0) c_198_19 sc_112.n rfl rfl rfl (t_dm hS hdm) ?_))
                                      intro z110 ez110 f111
                                      obtain rfl : z110 = 3 := by omega
                                      refine n_i2l c_198_22 (by omega) ?_
                                      refine n_lmul c_198_23 rfl (n_aload_n c_198_24 rfl (n_getR c_198_25 sc_112.n rfl rfl rfl r_112_19 (n_iload_n c_198_28 rfl (n_ialoadV c_198_29 sc_127.n rfl rfl rfl (by omega) (t_127 hS (by omega)) ?_))))
                                      intro z112 ez112 f113
                                      have kr9 : z112 = M 127 9 := ez112
                                      refine n_i2l c_198_30 (by omega) ?_
                                      refine n_ladd c_198_31 rfl (n_lstore_n (L2 := [some (2, 112), some (1, ((((((((((((((((((((((((((((((((((((0 * 3) + z10) * 3) + z16) * 3) + z22) * 3) + z28) * 3) + z34) * 3) + z40) * 3) + z46) * 3) + z52) * 3) + z58) * 3) + z64) * 3) + z70) * 3) + z76) * 3) + z82) * 3) + z88) * 3) + z94) * 3) + z100) * 3) + z106) * 3) + z112)), none, some (0, ((((((((((((((((((27 - 1) + (-1)) + (-1)) + (-1)) + (-1)) + (-1)) + (-1)) + (-1)) + (-1)) + (-1)) + (-1)) + (-1)) + (-1)) + (-1)) + (-1)) + (-1)) + (-1)) + (-1)))]) c_198_32 rfl rfl (n_iinc (L2 := [some (2, 112), some (1, ((((((((((((((((((((((((((((((((((((0 * 3) + z10) * 3) + z16) * 3) + z22) * 3) + z28) * 3) + z34) * 3) + z40) * 3) + z46) * 3) + z52) * 3) + z58) * 3) + z64) * 3) + z70) * 3) + z76) * 3) + z82) * 3) + z88) * 3) + z94) * 3) + z100) * 3) + z106) * 3) + z112)), none, some (0, (((((((((((((((((((27 - 1) + (-1)) + (-1)) + (-1)) + (-1)) + (-1)) + (-1)) + (-1)) + (-1)) + (-1)) + (-1)) + (-1)) + (-1)) + (-1)) + (-1)) + (-1)) + (-1)) + (-1)) + (-1)))]) c_198_33 rfl rfl rfl (n_goto c_198_36 (n_iload_n c_198_13 rfl ?_))))
                                      refine n_if0_lt c_198_14 (by omega) ?_ ?_
                                      · intro h114
                                        exfalso; omega
                                      · intro h115
                                        refine n_lload_n c_198_17 rfl (n_aload_n c_198_18 rfl (n_getV (bi := 0) c_198_19 sc_112.n rfl rfl rfl (t_dm hS hdm) ?_))
                                        intro z116 ez116 f117
                                        obtain rfl : z116 = 3 := by omega
                                        refine n_i2l c_198_22 (by omega) ?_
                                        refine n_lmul c_198_23 rfl (n_aload_n c_198_24 rfl (n_getR c_198_25 sc_112.n rfl rfl rfl r_112_19 (n_iload_n c_198_28 rfl (n_ialoadV c_198_29 sc_127.n rfl rfl rfl (by omega) (t_127 hS (by omega)) ?_))))
                                        intro z118 ez118 f119
                                        have kr8 : z118 = M 127 8 := ez118
                                        refine n_i2l c_198_30 (by omega) ?_
                                        refine n_ladd c_198_31 rfl (n_lstore_n (L2 := [some (2, 112), some (1, ((((((((((((((((((((((((((((((((((((((0 * 3) + z10) * 3) + z16) * 3) + z22) * 3) + z28) * 3) + z34) * 3) + z40) * 3) + z46) * 3) + z52) * 3) + z58) * 3) + z64) * 3) + z70) * 3) + z76) * 3) + z82) * 3) + z88) * 3) + z94) * 3) + z100) * 3) + z106) * 3) + z112) * 3) + z118)), none, some (0, (((((((((((((((((((27 - 1) + (-1)) + (-1)) + (-1)) + (-1)) + (-1)) + (-1)) + (-1)) + (-1)) + (-1)) + (-1)) + (-1)) + (-1)) + (-1)) + (-1)) + (-1)) + (-1)) + (-1)) + (-1)))]) c_198_32 rfl rfl (n_iinc (L2 := [some (2, 112), some (1, ((((((((((((((((((((((((((((((((((((((0 * 3) + z10) * 3) + z16) * 3) + z22) * 3) + z28) * 3) + z34) * 3) + z40) * 3) + z46) * 3) + z52) * 3) + z58) * 3) + z64) * 3) + z70) * 3) + z76) * 3) + z82) * 3) + z88) * 3) + z94) * 3) + z100) * 3) + z106) * 3) + z112) * 3) + z118)), none, some (0, ((((((((((((((((((((27 - 1) + (-1)) + (-1)) + (-1)) + (-1)) + (-1)) + (-1)) + (-1)) + (-1)) + (-1)) + (-1)) + (-1)) + (-1)) + (-1)) + (-1)) + (-1)) + (-1)) + (-1)) + (-1)) + (-1)))]) c_198_33 rfl rfl rfl (n_goto c_198_36 (n_iload_n c_198_13 rfl ?_))))
                                        refine n_if0_lt c_198_14 (by omega) ?_ ?_
                                        · intro h120
                                          exfalso; omega
                                        · intro h121
                                          refine n_lload_n c_198_17 rfl (n_aload_n c_198_18 rfl (n_getV (bi := 0) c_198_19 sc_112.n rfl rfl rfl (t_dm hS hdm) ?_))
                                          intro z122 ez122 f123
                                          obtain rfl : z122 = 3 := by omega
                                          refine n_i2l c_198_22 (by omega) ?_
                                          refine n_lmul c_198_23 rfl (n_aload_n c_198_24 rfl (n_getR c_198_25 sc_112.n rfl rfl rfl r_112_19 (n_iload_n c_198_28 rfl (n_ialoadV c_198_29 sc_127.n rfl rfl rfl (by omega) (t_127 hS (by omega)) ?_))))
                                          intro z124 ez124 f125
                                          have kr7 : z124 = M 127 7 := ez124
                                          refine n_i2l c_198_30 (by omega) ?_
                                          refine n_ladd c_198_31 rfl (n_lstore_n (L2 := [some (2, 112), some (1, ((((((((((((((((((((((((((((((((((((((((0 * 3) + z10) * 3) + z16) * 3) + z22) * 3) + z28) * 3) + z34) * 3) + z40) * 3) + z46) * 3) + z52) * 3) + z58) * 3) + z64) * 3) + z70) * 3) + z76) * 3) + z82) * 3) + z88) * 3) + z94) * 3) + z100) * 3) + z106) * 3) + z112) * 3) + z118) * 3) + z124)), none, some (0, ((((((((((((((((((((27 - 1) + (-1)) + (-1)) + (-1)) + (-1)) + (-1)) + (-1)) + (-1)) + (-1)) + (-1)) + (-1)) + (-1)) + (-1)) + (-1)) + (-1)) + (-1)) + (-1)) + (-1)) + (-1)) + (-1)))]) c_198_32 rfl rfl (n_iinc (L2 := [some (2, 112), some (1, ((((((((((((((((((((((((((((((((((((((((0 * 3) + z10) * 3) + z16) * 3) + z22) * 3) + z28) * 3) + z34) * 3) + z40) * 3) + z46) * 3) + z52) * 3) + z58) * 3) + z64) * 3) + z70) * 3) + z76) * 3) + z82) * 3) + z88) * 3) + z94) * 3) + z100) * 3) + z106) * 3) + z112) * 3) + z118) * 3) + z124)), none, some (0, (((((((((((((((((((((27 - 1) + (-1)) + (-1)) + (-1)) + (-1)) + (-1)) + (-1)) + (-1)) + (-1)) + (-1)) + (-1)) + (-1)) + (-1)) + (-1)) + (-1)) + (-1)) + (-1)) + (-1)) + (-1)) + (-1)) + (-1)))]) c_198_33 rfl rfl rfl (n_goto c_198_36 (n_iload_n c_198_13 rfl ?_))))
                                          refine n_if0_lt c_198_14 (by omega) ?_ ?_
                                          · intro h126
                                            exfalso; omega
                                          · intro h127
                                            refine n_lload_n c_198_17 rfl (n_aload_n c_198_18 rfl (n_getV (bi := 0) c_198_19 sc_112.n rfl rfl rfl (t_dm hS hdm) ?_))
                                            intro z128 ez128 f129
                                            obtain rfl : z128 = 3 := by omega
                                            refine n_i2l c_198_22 (by omega) ?_
                                            refine n_lmul c_198_23 rfl (n_aload_n c_198_24 rfl (n_getR c_198_25 sc_112.n rfl rfl rfl r_112_19 (n_iload_n c_198_28 rfl (n_ialoadV c_198_29 sc_127.n rfl rfl rfl (by omega) (t_127 hS (by omega)) ?_))))
                                            intro z130 ez130 f131
                                            have kr6 : z130 = M 127 6 := ez130
                                            refine n_i2l c_198_30 (by omega) ?_
                                            refine n_ladd c_198_31 rfl (n_lstore_n (L2 := [some (2, 112), some (1, ((((((((((((((((((((((((((((((((((((((((((0 * 3) + z10) * 3) + z16) * 3) + z22) * 3) + z28) * 3) + z34) * 3) + z40) * 3) + z46) * 3) + z52) * 3) + z58) * 3) + z64) * 3) + z70) * 3) + z76) * 3) + z82) * 3) + z88) * 3) + z94) * 3) + z100) * 3) + z106) * 3) + z112) * 3) + z118) * 3) + z124) * 3) + z130)), none, some (0, (((((((((((((((((((((27 - 1) + (-1)) + (-1)) + (-1)) + (-1)) + (-1)) + (-1)) + (-1)) + (-1)) + (-1)) + (-1)) + (-1)) + (-1)) + (-1)) + (-1)) + (-1)) + (-1)) + (-1)) + (-1)) + (-1)) + (-1)))]) c_198_32 rfl rfl (n_iinc (L2 := [some (2, 112), some (1, ((((((((((((((((((((((((((((((((((((((((((0 * 3) + z10) * 3) + z16) * 3) + z22) * 3) + z28) * 3) + z34) * 3) + z40) * 3) + z46) * 3) + z52) * 3) + z58) * 3) + z64) * 3) + z70) * 3) + z76) * 3) + z82) * 3) + z88) * 3) + z94) * 3) + z100) * 3) + z106) * 3) + z112) * 3) + z118) * 3) + z124) * 3) + z130)), none, some (0, ((((((((((((((((((((((27 - 1) + (-1)) + (-1)) + (-1)) + (-1)) + (-1)) + (-1)) + (-1)) + (-1)) + (-1)) + (-1)) + (-1)) + (-1)) + (-1)) + (-1)) + (-1)) + (-1)) + (-1)) + (-1)) + (-1)) + (-1)) + (-1)))]) c_198_33 rfl rfl rfl (n_goto c_198_36 (n_iload_n c_198_13 rfl ?_))))
                                            refine n_if0_lt c_198_14 (by omega) ?_ ?_
                                            · intro h132
                                              exfalso; omega
                                            · intro h133
                                              refine n_lload_n c_198_17 rfl (n_aload_n c_198_18 rfl (n_getV (bi := 0) c_198_19 sc_112.n rfl rfl rfl (t_dm hS hdm) ?_))
                                              intro z134 ez134 f135
                                              obtain rfl : z134 = 3 := by omega
                                              refine n_i2l c_198_22 (by omega) ?_
                                              refine n_lmul c_198_23 rfl (n_aload_n c_198_24 rfl (n_getR c_198_25 sc_112.n rfl rfl rfl r_112_19 (n_iload_n c_198_28 rfl (n_ialoadV c_198_29 sc_127.n rfl rfl rfl (by omega) (t_127 hS (by omega)) ?_))))
                                              intro z136 ez136 f137
                                              have kr5 : z136 = M 127 5 := ez136
                                              refine n_i2l c_198_30 (by omega) ?_
                                              refine n_ladd c_198_31 rfl (n_lstore_n (L2 := [some (2, 112), some (1, ((((((((((((((((((((((((((((((((((((((((((((0 * 3) + z10) * 3) + z16) * 3) + z22) * 3) + z28) * 3) + z34) * 3) + z40) * 3) + z46) * 3) + z52) * 3) + z58) * 3) + z64) * 3) + z70) * 3) + z76) * 3) + z82) * 3) + z88) * 3) + z94) * 3) + z100) * 3) + z106) * 3) + z112) * 3) + z118) * 3) + z124) * 3) + z130) * 3) + z136)), none, some (0, ((((((((((((((((((((((27 - 1) + (-1)) + (-1)) + (-1)) + (-1)) + (-1)) + (-1)) + (-1)) + (-1)) + (-1)) + (-1)) + (-1)) + (-1)) + (-1)) + (-1)) + (-1)) + (-1)) + (-1)) + (-1)) + (-1)) + (-1)) + (-1)))]) c_198_32 rfl rfl (n_iinc (L2 := [some (2, 112), some (1, ((((((((((((((((((((((((((((((((((((((((((((0 * 3) + z10) * 3) + z16) * 3) + z22) * 3) + z28) * 3) + z34) * 3) + z40) * 3) + z46) * 3) + z52) * 3) + z58) * 3) + z64) * 3) + z70) * 3) + z76) * 3) + z82) * 3) + z88) * 3) + z94) * 3) + z100) * 3) + z106) * 3) + z112) * 3) + z118) * 3) + z124) * 3) + z130) * 3) + z136)), none, some (0, (((((((((((((((((((((((27 - 1) + (-1)) + (-1)) + (-1)) + (-1)) + (-1)) + (-1)) + (-1)) + (-1)) + (-1)) + (-1)) + (-1)) + (-1)) + (-1)) + (-1)) + (-1)) + (-1)) + (-1)) + (-1)) + (-1)) + (-1)) + (-1)) + (-1)))]) c_198_33 rfl rfl rfl (n_goto c_198_36 (n_iload_n c_198_13 rfl ?_))))
                                              refine n_if0_lt c_198_14 (by omega) ?_ ?_
                                              · intro h138
                                                exfalso; omega
                                              · intro h139
                                                refine n_lload_n c_198_17 rfl (n_aload_n c_198_18 rfl (n_getV (bi := 0) c_198_19 sc_112.n rfl rfl rfl (t_dm hS hdm) ?_))
                                                intro z140 ez140 f141
                                                obtain rfl : z140 = 3 := by omega
                                                refine n_i2l c_198_22 (by omega) ?_
                                                refine n_lmul c_198_23 rfl (n_aload_n c_198_24 rfl (n_getR c_198_25 sc_112.n rfl rfl rfl r_112_19 (n_iload_n c_198_28 rfl (n_ialoadV c_198_29 sc_127.n rfl rfl rfl (by omega) (t_127 hS (by omega)) ?_))))
                                                intro z142 ez142 f143
                                                have kr4 : z142 = M 127 4 := ez142
                                                refine n_i2l c_198_30 (by omega) ?_
                                                refine n_ladd c_198_31 rfl (n_lstore_n (L2 := [some (2, 112), some (1, ((((((((((((((((((((((((((((((((((((((((((((((0 * 3) + z10) * 3) + z16) * 3) + z22) * 3) + z28) * 3) + z34) * 3) + z40) * 3) + z46) * 3) + z52) * 3) + z58) * 3) + z64) * 3) + z70) * 3) + z76) * 3) + z82) * 3) + z88) * 3) + z94) * 3) + z100) * 3) + z106) * 3) + z112) * 3) + z118) * 3) + z124) * 3) + z130) * 3) + z136) * 3) + z142)), none, some (0, (((((((((((((((((((((((27 - 1) + (-1)) + (-1)) + (-1)) + (-1)) + (-1)) + (-1)) + (-1)) + (-1)) + (-1)) + (-1)) + (-1)) + (-1)) + (-1)) + (-1)) + (-1)) + (-1)) + (-1)) + (-1)) + (-1)) + (-1)) + (-1)) + (-1)))]) c_198_32 rfl rfl (n_iinc (L2 := [some (2, 112), some (1, ((((((((((((((((((((((((((((((((((((((((((((((0 * 3) + z10) * 3) + z16) * 3) + z22) * 3) + z28) * 3) + z34) * 3) + z40) * 3) + z46) * 3) + z52) * 3) + z58) * 3) + z64) * 3) + z70) * 3) + z76) * 3) + z82) * 3) + z88) * 3) + z94) * 3) + z100) * 3) + z106) * 3) + z112) * 3) + z118) * 3) + z124) * 3) + z130) * 3) + z136) * 3) + z142)), none, some (0, ((((((((((((((((((((((((27 - 1) + (-1)) + (-1)) + (-1)) + (-1)) + (-1)) + (-1)) + (-1)) + (-1)) + (-1)) + (-1)) + (-1)) + (-1)) + (-1)) + (-1)) + (-1)) + (-1)) + (-1)) + (-1)) + (-1)) + (-1)) + (-1)) + (-1)) + (-1)))]) c_198_33 rfl rfl rfl (n_goto c_198_36 (n_iload_n c_198_13 rfl ?_))))
                                                refine n_if0_lt c_198_14 (by omega) ?_ ?_
                                                · intro h144
                                                  exfalso; omega
                                                · intro h145
                                                  refine n_lload_n c_198_17 rfl (n_aload_n c_198_18 rfl (n_getV (bi := 0) c_198_19 sc_112.n rfl rfl rfl (t_dm hS hdm) ?_))
                                                  intro z146 ez146 f147
                                                  obtain rfl : z146 = 3 := by omega
                                                  refine n_i2l c_198_22 (by omega) ?_
                                                  refine n_lmul c_198_23 rfl (n_aload_n c_198_24 rfl (n_getR c_198_25 sc_112.n rfl rfl rfl r_112_19 (n_iload_n c_198_28 rfl (n_ialoadV c_198_29 sc_127.n rfl rfl rfl (by omega) (t_127 hS (by omega)) ?_))))
                                                  intro z148 ez148 f149
                                                  have kr3 : z148 = M 127 3 := ez148
                                                  refine n_i2l c_198_30 (by omega) ?_
                                                  refine n_ladd c_198_31 rfl (n_lstore_n (L2 := [some (2, 112), some (1, ((((((((((((((((((((((((((((((((((((((((((((((((0 * 3) + z10) * 3) + z16) * 3) + z22) * 3) + z28) * 3) + z34) * 3) + z40) * 3) + z46) * 3) + z52) * 3) + z58) * 3) + z64) * 3) + z70) * 3) + z76) * 3) + z82) * 3) + z88) * 3) + z94) * 3) + z100) * 3) + z106) * 3) + z112) * 3) + z118) * 3) + z124) * 3) + z130) * 3) + z136) * 3) + z142) * 3) + z148)), none, some (0, ((((((((((((((((((((((((27 - 1) + (-1)) + (-1)) + (-1)) + (-1)) + (-1)) + (-1)) + (-1)) + (-1)) + (-1)) + (-1)) + (-1)) + (-1)) + (-1)) + (-1)) + (-1)) + (-1)) + (-1)) + (-1)) + (-1)) + (-1)) + (-1)) + (-1)) + (-1)))]) c_198_32 rfl rfl (n_iinc (L2 := [some (2, 112), some (1, ((((((((((((((((((((((((((((((((((((((((((((((((0 * 3) + z10) * 3) + z16) * 3) + z22) * 3) + z28) * 3) + z34) * 3) + z40) * 3) + z46) * 3) + z52) * 3) + z58) * 3) + z64) * 3) + z70) * 3) + z76) * 3) + z82) * 3) + z88) * 3) + z94) * 3) + z100) * 3) + z106) * 3) + z112) * 3) + z118) * 3) + z124) * 3) + z130) * 3) + z136) * 3) + z142) * 3) + z148)), none, some (0, (((((((((((((((((((((((((27 - 1) + (-1)) + (-1)) + (-1)) + (-1)) + (-1)) + (-1)) + (-1)) + (-1)) + (-1)) + (-1)) + (-1)) + (-1)) + (-1)) + (-1)) + (-1)) + (-1)) + (-1)) + (-1)) + (-1)) + (-1)) + (-1)) + (-1)) + (-1)) + (-1)))]) c_198_33 rfl rfl rfl (n_goto c_198_36 (n_iload_n c_198_13 rfl ?_))))
                                                  refine n_if0_lt c_198_14 (by omega) ?_ ?_
                                                  · intro h150
                                                    exfalso; omega
                                                  · intro h151
                                                    refine n_lload_n c_198_17 rfl (n_aload_n c_198_18 rfl (n_getV (bi := 0) c_198_19 sc_112.n rfl rfl rfl (t_dm hS hdm) ?_))
                                                    intro z152 ez152 f153
                                                    obtain rfl : z152 = 3 := by omega
                                                    refine n_i2l c_198_22 (by omega) ?_
                                                    refine n_lmul c_198_23 rfl (n_aload_n c_198_24 rfl (n_getR c_198_25 sc_112.n rfl rfl rfl r_112_19 (n_iload_n c_198_28 rfl (n_ialoadV c_198_29 sc_127.n rfl rfl rfl (by omega) (t_127 hS (by omega)) ?_))))
                                                    intro z154 ez154 f155
                                                    have kr2 : z154 = M 127 2 := ez154
                                                    refine n_i2l c_198_30 (by omega) ?_
                                                    refine n_ladd c_198_31 rfl (n_lstore_n (L2 := [some (2, 112), some (1, ((((((((((((((((((((((((((((((((((((((((((((((((((0 * 3) + z10) * 3) + z16) * 3) + z22) * 3) + z28) * 3) + z34) * 3) + z40) * 3) + z46) * 3) + z52) * 3) + z58) * 3) + z64) * 3) + z70) * 3) + z76) * 3) + z82) * 3) + z88) * 3) + z94) * 3) + z100) * 3) + z106) * 3) + z112) * 3) + z118) * 3) + z124) * 3) + z130) * 3) + z136) * 3) + z142) * 3) + z148) * 3) + z154)), none, some (0, (((((((((((((((((((((((((27 - 1) + (-1)) + (-1)) + (-1)) + (-1)) + (-1)) + (-1)) + (-1)) + (-1)) + (-1)) + (-1)) + (-1)) + (-1)) + (-1)) + (-1)) + (-1)) + (-1)) + (-1)) + (-1)) + (-1)) + (-1)) + (-1)) + (-1)) + (-1)) + (-1)))]) c_198_32 rfl rfl (n_iinc (L2 := [some (2, 112), some (1, ((((((((((((((((((((((((((((((((((((((((((((((((((0 * 3) + z10) * 3) + z16) * 3) + z22) * 3) + z28) * 3) + z34) * 3) + z40) * 3) + z46) * 3) + z52) * 3) + z58) * 3) + z64) * 3) + z70) * 3) + z76) * 3) + z82) * 3) + z88) * 3) + z94) * 3) + z100) * 3) + z106) * 3) + z112) * 3) + z118) * 3) + z124) * 3) + z130) * 3) + z136) * 3) + z142) * 3) + z148) * 3) + z154)), none, some (0, ((((((((((((((((((((((((((27 - 1) + (-1)) + (-1)) + (-1)) + (-1)) + (-1)) + (-1)) + (-1)) + (-1)) + (-1)) + (-1)) + (-1)) + (-1)) + (-1)) + (-1)) + (-1)) + (-1)) + (-1)) + (-1)) + (-1)) + (-1)) + (-1)) + (-1)) + (-1)) + (-1)) + (-1)))]) c_198_33 rfl rfl rfl (n_goto c_198_36 (n_iload_n c_198_13 rfl ?_))))
                                                    refine n_if0_lt c_198_14 (by omega) ?_ ?_
                                                    · intro h156
                                                      exfalso; omega
                                                    · intro h157
                                                      refine n_lload_n c_198_17 rfl (n_aload_n c_198_18 rfl (n_getV (bi := 0) c_198_19 sc_112.n rfl rfl rfl (t_dm hS hdm) ?_))
                                                      intro z158 ez158 f159
                                                      obtain rfl : z158 = 3 := by omega
                                                      refine n_i2l c_198_22 (by omega) ?_
                                                      refine n_lmul c_198_23 rfl (n_aload_n c_198_24 rfl (n_getR c_198_25 sc_112.n rfl rfl rfl r_112_19 (n_iload_n c_198_28 rfl (n_ialoadV c_198_29 sc_127.n rfl rfl rfl (by omega) (t_127 hS (by omega)) ?_))))
                                                      intro z160 ez160 f161
                                                      have kr1 : z160 = M 127 1 := ez160
                                                      refine n_i2l c_198_30 (by omega) ?_
                                                      refine n_ladd c_198_31 rfl (n_lstore_n (L2 := [some (2, 112), some (1, ((((((((((((((((((((((((((((((((((((((((((((((((((((0 * 3) + z10) * 3) + z16) * 3) + z22) * 3) + z28) * 3) + z34) * 3) + z40) * 3) + z46) * 3) + z52) * 3) + z58) * 3) + z64) * 3) + z70) * 3) + z76) * 3) + z82) * 3) + z88) * 3) + z94) * 3) + z100) * 3) + z106) * 3) + z112) * 3) + z118) * 3) + z124) * 3) + z130) * 3) + z136) * 3) + z142) * 3) + z148) * 3) + z154) * 3) + z160)), none, some (0, ((((((((((((((((((((((((((27 - 1) + (-1)) + (-1)) + (-1)) + (-1)) + (-1)) + (-1)) + (-1)) + (-1)) + (-1)) + (-1)) + (-1)) + (-1)) + (-1)) + (-1)) + (-1)) + (-1)) + (-1)) + (-1)) + (-1)) + (-1)) + (-1)) + (-1)) + (-1)) + (-1)) + (-1)))]) c_198_32 rfl rfl (n_iinc (L2 := [some (2, 112), some (1, ((((((((((((((((((((((((((((((((((((((((((((((((((((0 * 3) + z10) * 3) + z16) * 3) + z22) * 3) + z28) * 3) + z34) * 3) + z40) * 3) + z46) * 3) + z52) * 3) + z58) * 3) + z64) * 3) + z70) * 3) + z76) * 3) + z82) * 3) + z88) * 3) + z94) * 3) + z100) * 3) + z106) * 3) + z112) * 3) + z118) * 3) + z124) * 3) + z130) * 3) + z136) * 3) + z142) * 3) + z148) * 3) + z154) * 3) + z160)), none, some (0, (((((((((((((((((((((((((((27 - 1) + (-1)) + (-1)) + (-1)) + (-1)) + (-1)) + (-1)) + (-1)) + (-1)) + (-1)) + (-1)) + (-1)) + (-1)) + (-1)) + (-1)) + (-1)) + (-1)) + (-1)) + (-1)) + (-1)) + (-1)) + (-1)) + (-1)) + (-1)) + (-1)) + (-1)) + (-1)))]) c_198_33 rfl rfl rfl (n_goto c_198_36 (n_iload_n c_198_13 rfl ?_))))
                                                      refine n_if0_lt c_198_14 (by omega) ?_ ?_
                                                      · intro h162
                                                        exfalso; omega
                                                      · intro h163
                                                        refine n_lload_n c_198_17 rfl (n_aload_n c_198_18 rfl (n_getV (bi := 0) c_198_19 sc_112.n rfl rfl rfl (t_dm hS hdm) ?_))
                                                        intro z164 ez164 f165
                                                        obtain rfl : z164 = 3 := by omega
                                                        refine n_i2l c_198_22 (by omega) ?_
                                                        refine n_lmul c_198_23 rfl (n_aload_n c_198_24 rfl (n_getR c_198_25 sc_112.n rfl rfl rfl r_112_19 (n_iload_n c_198_28 rfl (n_ialoadV c_198_29 sc_127.n rfl rfl rfl (by omega) (t_127 hS (by omega)) ?_))))
                                                        intro z166 ez166 f167
                                                        have kr0 : z166 = M 127 0 := ez166
                                                        refine n_i2l c_198_30 (by omega) ?_
                                                        refine n_ladd c_198_31 rfl (n_lstore_n (L2 := [some (2, 112), some (1, ((((((((((((((((((((((((((((((((((((((((((((((((((((((0 * 3) + z10) * 3) + z16) * 3) + z22) * 3) + z28) * 3) + z34) * 3) + z40) * 3) + z46) * 3) + z52) * 3) + z58) * 3) + z64) * 3) + z70) * 3) + z76) * 3) + z82) * 3) + z88) * 3) + z94) * 3) + z100) * 3) + z106) * 3) + z112) * 3) + z118) * 3) + z124) * 3) + z130) * 3) + z136) * 3) + z142) * 3) + z148) * 3) + z154) * 3) + z160) * 3) + z166)), none, some (0, (((((((((((((((((((((((((((27 - 1) + (-1)) + (-1)) + (-1)) + (-1)) + (-1)) + (-1)) + (-1)) + (-1)) + (-1)) + (-1)) + (-1)) + (-1)) + (-1)) + (-1)) + (-1)) + (-1)) + (-1)) + (-1)) + (-1)) + (-1)) + (-1)) + (-1)) + (-1)) + (-1)) + (-1)) + (-1)))]) c_198_32 rfl rfl (n_iinc (L2 := [some (2, 112), some (1, ((((((((((((((((((((((((((((((((((((((((((((((((((((((0 * 3) + z10) * 3) + z16) * 3) + z22) * 3) + z28) * 3) + z34) * 3) + z40) * 3) + z46) * 3) + z52) * 3) + z58) * 3) + z64) * 3) + z70) * 3) + z76) * 3) + z82) * 3) + z88) * 3) + z94) * 3) + z100) * 3) + z106) * 3) + z112) * 3) + z118) * 3) + z124) * 3) + z130) * 3) + z136) * 3) + z142) * 3) + z148) * 3) + z154) * 3) + z160) * 3) + z166)), none, some (0, ((((((((((((((((((((((((((((27 - 1) + (-1)) + (-1)) + (-1)) + (-1)) + (-1)) + (-1)) + (-1)) + (-1)) + (-1)) + (-1)) + (-1)) + (-1)) + (-1)) + (-1)) + (-1)) + (-1)) + (-1)) + (-1)) + (-1)) + (-1)) + (-1)) + (-1)) + (-1)) + (-1)) + (-1)) + (-1)) + (-1)))]) c_198_33 rfl rfl rfl (n_goto c_198_36 (n_iload_n c_198_13 rfl ?_))))
                                                        refine n_if0_lt c_198_14 (by omega) ?_ ?_
                                                        · intro h168
                                                          refine n_lload_n c_198_39 rfl ?_
                                                          exact n_rJ c_198_40 rfl ⟨rfl, by omega, by show _ = M 127 0 + 3 * (M 127 1 + 3 * (M 127 2 + 3 * (M 127 3 + 3 * (M 127 4 + 3 * (M 127 5 + 3 * (M 127 6 + 3 * (M 127 7 + 3 * (M 127 8 + 3 * (M 127 9 + 3 * (M 127 10 + 3 * (M 127 11 + 3 * (M 127 12 + 3 * (M 127 13 + 3 * (M 127 14 + 3 * (M 127 15 + 3 * (M 127 16 + 3 * (M 127 17 + 3 * (M 127 18 + 3 * (M 127 19 + 3 * (M 127 20 + 3 * (M 127 21 + 3 * (M 127 22 + 3 * (M 127 23 + 3 * (M 127 24 + 3 * (M 127 25 + 3 * (M 127 26 + 3 * (0))))))))))))))))))))))))))); omega⟩
                                                        · intro h169
                                                          exfalso; omega

set_option maxHeartbeats 4000000 in
theorem mquickX0_3_c {xs : List Int32} {e : Nat} {ac : Int} {M0 M : nM} {Ms : nM} (hS : Sf 3 ac M0 M) (hdm : M0 112 0 = 3) (hms : M = Ms) (hl2 : ∀ l : Int, 0 ≤ l → l < Ms 112 7 → 1 ≤ Ms 118 l) : ∀ nn : Nat, (∀ (x2 x3 : Int) (M : nM), Sf 3 ac M0 M → (0 ≤ x2 ∧ x2 ≤ 4095) → (0 ≤ x3 ∧ x3 ≤ 19683) → (LMk x2 (Ms 112 11) (fun i => Ms 120 i)) → (FC 127 Ms M) → (∀ c : Int, 0 ≤ c → c < x3 → ¬ Gh 3 x2 Ms c) → (19683 - x3) * 1 + 1 < (nn : Int) → nW xs (e + 4) 200 34 [some (2, 112), none, some (0, x2), some (0, x3)] [] M (nPJ fun z M1 => Sf 3 ac M0 M1 ∧ (-9223372036854775808 ≤ z ∧ z ≤ 9223372036854775807) ∧ (mQ 0 3 z 9 Ms))) := by
  have hd : (3 : Int) = 2 ∨ (3 : Int) = 3 := by decide
  have hac := hS.2.2.2.2
  have pc : pn 3 (3 * 3 : Int).toNat = 19683 := by decide +kernel
  intro nn
  induction nn with
  | zero => intros; omega
  | succ nn ih =>
    intro x2 x3 M hS k2 k3 v0 v1 v2 hnn
    have pc2 : pn 3 (3 * 3 : Int).toNat = 19683 := by decide +kernel
    refine n_iload_n c_200_34 rfl (n_aload_n c_200_35 rfl (n_getV (bi := 0) c_200_36 sc_112.n rfl rfl rfl (t_dm hS hdm) ?_))
    intro z1 ez1 f2
    obtain rfl : z1 = 3 := by omega
    refine n_aload_n c_200_39 rfl (n_iconst c_200_40 (n_v1I c_200_41 rfl sc_112.n rfl rfl rfl rfl (mrowsOf2_3  hS hdm) ?_))
    intro z3 M4 hP5
    obtain ⟨eM, f5⟩ := hP5
    subst eM
    obtain rfl : z3 = 9 := by omega
    refine n_s2I c_200_44 rfl rfl rfl rfl (mpower9_3  hS ) ?_
    intro z6 M7 hP8
    obtain ⟨eM, f8⟩ := hP8
    subst eM
    obtain rfl : z6 = 19683 := by omega
    refine n_if2_ge c_200_47 (by omega) (by omega) ?_ ?_
    · intro h9
      refine n_ldc2 (n := (-7)) c_200_86 rfl ?_
      exact n_rJ c_200_89 rfl ⟨hS, by omega, by exact ⟨x2, v0, mHq.q_3 (Or.inl ⟨rfl, fun c c0 c1 => v2 c c0 (by omega)⟩)⟩⟩
    · intro h10
      refine n_aload_n c_200_50 rfl (n_iload_n c_200_51 rfl (n_i2l c_200_52 (by omega) ?_))
      refine n_aload_n c_200_53 rfl (n_iconst c_200_54 (n_v1I c_200_55 rfl sc_112.n rfl rfl rfl rfl (mrowsOf2_3  hS hdm) ?_))
      intro z11 M12 hP13
      obtain ⟨eM, f13⟩ := hP13
      subst eM
      obtain rfl : z11 = 9 := by omega
      refine n_v2V c_200_58 rfl sc_112.n rfl rfl rfl rfl (mlayX_3 (c := x3) (r := 9) (Ms := M) hS hdm (by omega) (by omega) (by rfl)) ?_
      intro  M14 hP15
      obtain ⟨hS14, f15p0, f15p1⟩ := hP15
      have lfr : FC 127 Ms M14 := fun a i ha => by rw [f15p1 a i ha]; exact v1 a i ha
      have la : ∀ r : Int, 0 ≤ r → r < 3 * 3 → M14 127 r = cdg 3 x3 r := fun r h0 h1 => f15p0 r h0 (by omega)
      refine n_aload_n c_200_61 rfl ?_
      refine n_v0I c_200_62 rfl sc_112.n rfl rfl rfl rfl (misHalfX_3  hS14 hdm (by exact fun i i0 i1 => by rw [la i i0 (by omega)]; unfold cdg; omega)) ?_
      intro z16 M17 hP18
      obtain ⟨eM, f18, f18p0⟩ := hP18
      subst eM
      have ihf : z16 = bb (HFm 3 (fun x => cdg 3 x3 x)) := by rw [f18p0]; exact bb_c (HFm_congr (by decide) la)
      refine n_if0_eq c_200_65 (by omega) ?_ ?_
      · intro h19
        refine n_iinc (L2 := [some (2, 112), none, some (0, x2), some (0, (x3 + 1))]) c_200_80 rfl rfl rfl (n_goto c_200_83 (n_fg (le_s (le_n (le_s (le_s le_0)))) ?_))
        exact ih _ _ M14 hS14 (by omega) (by omega) (by exact v0) (by exact lfr) (by exact fun c c0 c1 => by by_cases y : c = x3; (rw [y]; exact (fun y => (bb_z (by omega)) y.1)); exact v2 c c0 (by omega)) (by omega)
      · intro h20
        refine n_aload_n c_200_68 rfl (n_iconst c_200_69 (n_iload_n c_200_70 rfl ?_))
        refine n_v2I c_200_71 rfl sc_112.n rfl rfl rfl rfl (mhandKeepsX_3 (m := 2) (k := x2) hS14 hdm (by omega) (by omega) (by exact fun l l0 l1 => by rw [lfr 118 l (by omega)]; exact hl2 l l0 (by have y := lfr 112 7 (by omega); omega))) ?_
        intro z21 M22 hP23
        obtain ⟨eM, f23, f23p0⟩ := hP23
        subst eM
        have hk : z21 = bb (KMm 3 2 (fun x => cdg 3 x3 x) x2 Ms) := by rw [f23p0]; exact bb_c ((KMm.of (fun a i u => lfr a i (by omega))).trans (KMm_congr (by decide) (by decide) (fun i i0 i1 => la i i0 (by have y : pw 3 2 = 3 * 3 := (by decide); omega))))
        refine n_if0_eq c_200_74 (by omega) ?_ ?_
        · intro h24
          refine n_iinc (L2 := [some (2, 112), none, some (0, x2), some (0, (x3 + 1))]) c_200_80 rfl rfl rfl (n_goto c_200_83 (n_fg (le_s (le_n (le_s (le_s le_0)))) ?_))
          exact ih _ _ M14 hS14 (by omega) (by omega) (by exact v0) (by exact lfr) (by exact fun c c0 c1 => by by_cases y : c = x3; (rw [y]; exact (fun y => (bb_z (by omega)) y.2)); exact v2 c c0 (by omega)) (by omega)
        · intro h25
          refine n_iload_n c_200_77 rfl (n_i2l c_200_78 (by omega) ?_)
          exact n_rJ c_200_79 rfl ⟨hS14, by omega, by exact ⟨x2, v0, mHq.q_3 (Or.inr ⟨by omega, by omega, ⟨bb_n (by omega), bb_n (by omega)⟩, v2⟩)⟩⟩
set_option maxHeartbeats 4000000 in
theorem mquickX0_3 {xs : List Int32} {e : Nat} {ac : Int} {M0 M : nM} {Ms : nM} (hS : Sf 3 ac M0 M) (hdm : M0 112 0 = 3) (hms : M = Ms) (hl2 : ∀ l : Int, 0 ≤ l → l < Ms 112 7 → 1 ≤ Ms 118 l) : nW xs (e + 4) 200 0 [some (2, 112), some (0, 0), none, none] [] M (nPJ fun z M1 => Sf 3 ac M0 M1 ∧ (-9223372036854775808 ≤ z ∧ z ≤ 9223372036854775807) ∧ (mQ 0 3 z 9 Ms)) := by
  have hd : (3 : Int) = 2 ∨ (3 : Int) = 3 := by decide
  have hac := hS.2.2.2.2
  have pc : pn 3 (3 * 3 : Int).toNat = 19683 := by decide +kernel
  refine n_aload_n c_200_0 rfl (n_v0I c_200_1 rfl sc_112.n rfl rfl rfl rfl (maskedX_3  hS hdm) ?_)
  intro z1 M2 hP3
  obtain ⟨eM, f3, f3p0⟩ := hP3
  subst eM
  have lm : LMk z1 (Ms 112 11) (fun i => Ms 120 i) := by have y := f3p0; rw [hms] at y; exact y
  refine n_istore_n (L2 := [some (2, 112), some (0, 0), some (0, z1), none]) c_200_4 rfl rfl (n_iload_n c_200_5 rfl ?_)
  refine n_sw c_200_6 (by omega) (by decide) ?_ ?_
  · intro h4
    refine n_pc (k2 := 219) rfl ?_
    exfalso; omega
  · intro h5 h5b
    refine ⟨_, rfl, by decide, ?_⟩
    refine n_pc (k2 := 32) rfl (n_iconst c_200_32 (n_istore_n (L2 := [some (2, 112), some (0, 0), some (0, z1), some (0, 0)]) c_200_33 rfl rfl (n_fg (le_s (le_n (le_s (le_s le_0)))) ?_)))
    exact (mquickX0_3_c hS hdm hms hl2 39380) _ _ M hS (by omega) (by omega) (by exact lm) (by exact fun a i _ => by rw [hms]) (by exact fun c c0 c1 => by omega) (by omega)

set_option maxHeartbeats 4000000 in
theorem mquickX1_3_c {xs : List Int32} {e : Nat} {ac : Int} {M0 M : nM} {Ms : nM} (hS : Sf 3 ac M0 M) (hdm : M0 112 0 = 3) (hms : M = Ms) (hl2 : ∀ l : Int, 0 ≤ l → l < Ms 112 7 → 1 ≤ Ms 118 l) : ∀ nn : Nat, (∀ (x2 x3 : Int) (M : nM), Sf 3 ac M0 M → (0 ≤ x2 ∧ x2 ≤ 4095) → (0 ≤ x3 ∧ x3 ≤ 729) → (LMk x2 (Ms 112 11) (fun i => Ms 120 i)) → (FC 127 Ms M) → (∀ c : Int, 0 ≤ c → c < x3 → ¬ Gm 1 3 x2 Ms c) → (729 - x3) * 1 + 1 < (nn : Int) → nW xs (e + 4) 200 92 [some (2, 112), none, some (0, x2), some (0, x3)] [] M (nPJ fun z M1 => Sf 3 ac M0 M1 ∧ (-9223372036854775808 ≤ z ∧ z ≤ 9223372036854775807) ∧ (mQ 1 3 z 27 Ms))) := by
  have hd : (3 : Int) = 2 ∨ (3 : Int) = 3 := by decide
  have hac := hS.2.2.2.2
  have pk : pn 3 (kV 1 3 - 3).toNat = 729 := by decide
  intro nn
  induction nn with
  | zero => intros; omega
  | succ nn ih =>
    intro x2 x3 M hS k2 k3 v0 v1 v2 hnn
    have pk2 : pn 3 (kV 1 3 - 3).toNat = 729 := by decide
    refine n_iload_n c_200_92 rfl (n_aload_n c_200_93 rfl (n_getV (bi := 0) c_200_94 sc_112.n rfl rfl rfl (t_dm hS hdm) ?_))
    intro z1 ez1 f2
    obtain rfl : z1 = 3 := by omega
    refine n_iconst c_200_97 ?_
    refine n_if2_ne c_200_98 (by omega) (by omega) ?_ ?_
    · intro h3
      refine n_sipush c_200_105 rfl ?_
      refine n_if2_ge c_200_108 (by omega) (by omega) ?_ ?_
      · intro h4
        refine n_ldc2 (n := (-7)) c_200_136 rfl ?_
        exact n_rJ c_200_139 rfl ⟨hS, by omega, by exact ⟨x2, v0, Or.inl ⟨rfl, fun c c0 c1 => v2 c c0 (by omega)⟩⟩⟩
      · intro h5
        refine n_aload_n c_200_111 rfl (n_iload_n c_200_112 rfl (n_v1V c_200_113 rfl sc_112.n rfl rfl rfl rfl (mlayMostX_3 (k := x3) (Ms := M) hS hdm (by omega) (by rfl)) ?_))
        intro  M6 hP7
        obtain ⟨hS6, f7p0, f7p1⟩ := hP7
        have lfr : FC 127 Ms M6 := fun a i ha => by rw [f7p1 a i ha]; exact v1 a i ha
        have la : ∀ r : Int, 0 ≤ r → r < 27 → M6 127 r = fq 1 3 x3 r := f7p0
        refine n_aload_n c_200_116 rfl (n_iconst c_200_117 (n_iload_n c_200_118 rfl ?_))
        refine n_v2I c_200_119 rfl sc_112.n rfl rfl rfl rfl (mhandKeepsX_3 (m := 3) (k := x2) hS6 hdm (by omega) (by omega) (by exact fun l l0 l1 => by rw [lfr 118 l (by omega)]; exact hl2 l l0 (by have y := lfr 112 7 (by omega); omega))) ?_
        intro z8 M9 hP10
        obtain ⟨eM, f10, f10p0⟩ := hP10
        subst eM
        have hk : z8 = bb (KMm 3 (km 1) (fq 1 3 x3) x2 Ms) := by rw [f10p0]; exact bb_c ((KMm.of (fun a i u => lfr a i (by omega))).trans (KMm_congr (by decide) (by decide) (fun i i0 i1 => la i i0 (by have y : pw 3 3 = 27 := (by decide); omega))))
        refine n_if0_eq c_200_122 (by omega) ?_ ?_
        · intro h11
          refine n_iinc (L2 := [some (2, 112), none, some (0, x2), some (0, (x3 + 1))]) c_200_130 rfl rfl rfl (n_goto c_200_133 (n_fg (le_s (le_n (le_s (le_s le_0)))) ?_))
          exact ih _ _ M6 hS6 (by omega) (by omega) (by exact v0) (by exact lfr) (by exact fun c c0 c1 => by by_cases y : c = x3; (rw [y]; exact fun y => (bb_z (by omega)) y.2); exact v2 c c0 (by omega)) (by omega)
        · intro h12
          refine n_aload_n c_200_125 rfl (n_v0J c_200_126 rfl sc_112.n rfl rfl rfl rfl (mhandCodeX_3  hS6 hdm) ?_)
          intro z13 M14 hP15
          obtain ⟨eM, f15, f15p0⟩ := hP15
          subst eM
          exact n_rJ c_200_129 rfl ⟨hS6, by omega, by exact ⟨x2, v0, Or.inr ⟨x3, by omega, by omega, ⟨fun u => by omega, bb_n (by omega)⟩, v2, by rw [f15p0]; exact cdN_congr 27 0 (fun i i0 i1 => la i i0 (by omega))⟩⟩⟩
    · intro h16
      exfalso; omega
set_option maxHeartbeats 4000000 in
theorem mquickX1_3 {xs : List Int32} {e : Nat} {ac : Int} {M0 M : nM} {Ms : nM} (hS : Sf 3 ac M0 M) (hdm : M0 112 0 = 3) (hms : M = Ms) (hl2 : ∀ l : Int, 0 ≤ l → l < Ms 112 7 → 1 ≤ Ms 118 l) : nW xs (e + 4) 200 0 [some (2, 112), some (0, 1), none, none] [] M (nPJ fun z M1 => Sf 3 ac M0 M1 ∧ (-9223372036854775808 ≤ z ∧ z ≤ 9223372036854775807) ∧ (mQ 1 3 z 27 Ms)) := by
  have hd : (3 : Int) = 2 ∨ (3 : Int) = 3 := by decide
  have hac := hS.2.2.2.2
  have pk : pn 3 (kV 1 3 - 3).toNat = 729 := by decide
  refine n_aload_n c_200_0 rfl (n_v0I c_200_1 rfl sc_112.n rfl rfl rfl rfl (maskedX_3  hS hdm) ?_)
  intro z1 M2 hP3
  obtain ⟨eM, f3, f3p0⟩ := hP3
  subst eM
  have lm : LMk z1 (Ms 112 11) (fun i => Ms 120 i) := by have y := f3p0; rw [hms] at y; exact y
  refine n_istore_n (L2 := [some (2, 112), some (0, 1), some (0, z1), none]) c_200_4 rfl rfl (n_iload_n c_200_5 rfl ?_)
  refine n_sw c_200_6 (by omega) (by decide) ?_ ?_
  · intro h4
    refine n_pc (k2 := 219) rfl ?_
    exfalso; omega
  · intro h5 h5b
    refine ⟨_, rfl, by decide, ?_⟩
    refine n_pc (k2 := 90) rfl (n_iconst c_200_90 (n_istore_n (L2 := [some (2, 112), some (0, 1), some (0, z1), some (0, 0)]) c_200_91 rfl rfl (n_fg (le_s (le_n (le_s (le_s le_0)))) ?_)))
    exact (mquickX1_3_c hS hdm hms hl2 1472) _ _ M hS (by omega) (by omega) (by exact lm) (by exact fun a i _ => by rw [hms]) (by exact fun c c0 c1 => by omega) (by omega)
