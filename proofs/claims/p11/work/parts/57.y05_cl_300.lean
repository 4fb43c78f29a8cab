/-! What the methods tell. -/
set_option maxHeartbeats 4000000 in
theorem growsByX_3_c {xs : List Int32} {e : Nat} {ac : Int} {M0 M : nM} {p : Int} {Ms : nM} {cu : Int} (hS : Sf 3 ac M0 M) (hp : ActAt p) (hpl : p < 55 + 3 * ac) (hms : M = Ms) (hC : CuOk 3 (Ms 50 0) cu Ms) (hA : ActOk 3 p Ms) : ∀ nn : Nat, (∀ (x4 x5 x6 x7 : Int) (M : nM), Sf 3 ac M0 M → (0 ≤ x4 ∧ x4 ≤ 27) → (0 ≤ x5 ∧ x5 ≤ 27) → (0 ≤ x6 ∧ x6 ≤ 27) → (0 ≤ x7 ∧ x7 ≤ 27) → (x4 = Ms 50 3) → (x5 = tf (Ms p 0) 3 (Ms 50 3)) → (x6 = tf (Ms p 0) 2 (Ms 50 3)) → (GI 3 (Ms p 0) (Ms 50 0) (fun i => Ms (p + 1) i) cu Ms M) → (KC1 3 (Ms p 0) (fun i => Ms (p + 1) i) (M 50 2) (Ms 50 3) (fun i => Ms 51 i) x7) → (27 - x7) * 871 + 871 < (nn : Int) → nW xs (e + 2) 39 31 [some (2, 50), some (2, p), some (2, 4), some (2, 52), some (0, x4), some (0, x5), some (0, x6), some (0, x7), none, none] [] M (nPI fun z M1 => Sf 3 ac M0 M1 ∧ (0 ≤ z ∧ z ≤ 1) ∧ (GP 3 (Ms p 0) (Ms 50 0) (fun i => Ms (p + 1) i) cu z Ms M1))) ∧ (∀ (x4 x5 x6 x7 x8 : Int) (M : nM), Sf 3 ac M0 M → (0 ≤ x4 ∧ x4 ≤ 27) → (1 ≤ x5 ∧ x5 ≤ 27) → (0 ≤ x6 ∧ x6 ≤ 27) → (0 ≤ x7 ∧ x7 ≤ 26) → (0 ≤ x8 ∧ x8 ≤ 27) → (x4 = Ms 50 3) → (x5 = tf (Ms p 0) 3 (Ms 50 3)) → (x6 = tf (Ms p 0) 2 (Ms 50 3)) → (GI 3 (Ms p 0) (Ms 50 0) (fun i => Ms (p + 1) i) cu Ms M) → (KC1 3 (Ms p 0) (fun i => Ms (p + 1) i) (M 50 2) (Ms 50 3) (fun i => Ms 51 i) x7) → (x7 < x5) → (KC2 3 (fun i => Ms (p + 1) i) (M 50 2) (Ms 50 3) (fun i => Ms 51 i) x7 x8) → (27 - x7) * 871 + (27 - x8) * 30 + 30 < (nn : Int) → nW xs (e + 2) 39 41 [some (2, 50), some (2, p), some (2, 4), some (2, 52), some (0, x4), some (0, x5), some (0, x6), some (0, x7), some (0, x8), none] [] M (nPI fun z M1 => Sf 3 ac M0 M1 ∧ (0 ≤ z ∧ z ≤ 1) ∧ (GP 3 (Ms p 0) (Ms 50 0) (fun i => Ms (p + 1) i) cu z Ms M1))) ∧ (∀ (x4 x5 x6 x7 x8 x9 : Int) (M : nM), Sf 3 ac M0 M → (0 ≤ x4 ∧ x4 ≤ 27) → (1 ≤ x5 ∧ x5 ≤ 27) → (1 ≤ x6 ∧ x6 ≤ 27) → (0 ≤ x7 ∧ x7 ≤ 26) → (0 ≤ x8 ∧ x8 ≤ 26) → (0 ≤ x9 ∧ x9 ≤ 27) → (x4 = Ms 50 3) → (x5 = tf (Ms p 0) 3 (Ms 50 3)) → (x6 = tf (Ms p 0) 2 (Ms 50 3)) → (GI 3 (Ms p 0) (Ms 50 0) (fun i => Ms (p + 1) i) cu Ms M) → (KC1 3 (Ms p 0) (fun i => Ms (p + 1) i) (M 50 2) (Ms 50 3) (fun i => Ms 51 i) x7) → (x7 < x5) → (KC2 3 (fun i => Ms (p + 1) i) (M 50 2) (Ms 50 3) (fun i => Ms 51 i) x7 x8) → (x8 < x6) → (∀ c : Int, 0 ≤ c → c < 27 → M 53 c = lin 3 (fun i => Ms (p + 1) i) (Ms 51 x7) (Ms 51 x8) c) → (KC3 3 (fun i => Ms (p + 1) i) (M 50 2) (fun i => Ms 51 i) x7 x8 x9) → (27 - x7) * 871 + (27 - x8) * 30 + (27 - x9) * 1 + 1 < (nn : Int) → nW xs (e + 2) 39 74 [some (2, 50), some (2, p), some (2, 4), some (2, 52), some (0, x4), some (0, x5), some (0, x6), some (0, x7), some (0, x8), some (0, x9)] [] M (nPI fun z M1 => Sf 3 ac M0 M1 ∧ (0 ≤ z ∧ z ≤ 1) ∧ (GP 3 (Ms p 0) (Ms 50 0) (fun i => Ms (p + 1) i) cu z Ms M1))) := by
  have hd : (3 : Int) = 2 ∨ (3 : Int) = 3 := by decide
  have hac := hS.2.2.2.2
  have hpb : 55 ≤ p ∧ p ≤ 76 := by unfold ActAt at hp; omega
  have hm3 := (t_actl (hms ▸ hS : Sf 3 ac M0 Ms) hp hpl).1
  have hT : ∀ i : Int, 0 ≤ i → i < 3 * 3 * 3 → (fun i => Ms (p + 1) i) i = (fun i => Ms (p + 1) i) (i % pw 3 (Ms p 0)) := hA
  have hf : ∀ i : Int, 0 ≤ i → i < pw 3 (Ms p 0) → 0 ≤ (fun i => Ms (p + 1) i) i ∧ (fun i => Ms (p + 1) i) i < 3 := fun i h0 h1 => by have u := t_actrl (hms ▸ hS : Sf 3 ac M0 Ms) hp hpl (Or.inl rfl) (i := i) h0 (by have := (pw_r (d := 3) (k := Ms p 0) (by decide) hm3).2.1; omega); exact ⟨u.1, by have := u.2; show Ms (p + 1) i < 3; omega⟩
  have hl := LR26.mk (by decide) hm3 hC.1 hC.2.2.2 hT hf
  have hr : ∀ i : Int, 0 ≤ i → i < Ms 50 3 → Ms 51 i < 27 := fun i h0 h1 => by obtain ⟨_, _, _, _, u⟩ := LRn.row (by decide) hC.1 hC.2.2.2 h0 h1; exact u
  intro nn
  induction nn with
  | zero => refine ⟨?_, ?_, ?_⟩ <;> (intros; omega)
  | succ nn ih =>
    refine ⟨?_, ?_, ?_⟩
    · intro x4 x5 x6 x7 M hS k4 k5 k6 k7 v0 v1 v2 v3 v4 hnn
      refine n_iload c_39_31 rfl ?_
      refine n_iload c_39_33 rfl ?_
      refine n_if2_ge c_39_35 (by omega) (by omega) ?_ ?_
      · intro h1
        refine n_aload_n c_39_115 rfl ?_
        refine n_getV (bi := 3) c_39_116 law50.c0.1.n rfl rfl rfl (t_law hS law50).2.2.2 ?_
        intro z2 ez2 f3
        refine n_iload c_39_119 rfl ?_
        refine n_if2_le c_39_121 (by omega) (by omega) ?_ ?_
        · intro h4
          refine n_iconst c_39_128 ?_
          exact n_rZ c_39_129 rfl (by omega) ⟨hS, by omega, by rcases GI.done (by decide) hm3 hC hT hf v3 (KC1.all v4 (by omega)) with ⟨u1, u2⟩ | ⟨u1, u2⟩ <;> first | exact u2 | (exfalso; omega)⟩
        · intro h5
          refine n_iconst c_39_124 ?_
          refine n_goto c_39_125 ?_
          exact n_rZ c_39_129 rfl (by omega) ⟨hS, by omega, by rcases GI.done (by decide) hm3 hC hT hf v3 (KC1.all v4 (by omega)) with ⟨u1, u2⟩ | ⟨u1, u2⟩ <;> first | exact u2 | (exfalso; omega)⟩
      · intro h6
        refine n_iconst c_39_38 ?_
        refine n_istore (L2 := [some (2, 50), some (2, p), some (2, 4), some (2, 52), some (0, x4), some (0, x5), some (0, x6), some (0, x7), some (0, 0), none]) c_39_39 rfl rfl ?_
        refine n_fg (le_s (le_s (le_s (le_s (le_s (le_s (le_s (le_s (le_s (le_n le_0)))))))))) ?_
        exact ih.2.1 _ _ _ _ _ M hS (by omega) (by omega) (by omega) (by omega) (by omega) (by exact v0) (by exact v1) (by exact v2) (by exact v3) (by exact v4) (by omega) (by exact fun j k h0 h1 => by omega) (by omega)
    · intro x4 x5 x6 x7 x8 M hS k4 k5 k6 k7 k8 v0 v1 v2 v3 v4 v5 v6 hnn
      refine n_iload c_39_41 rfl ?_
      refine n_iload c_39_43 rfl ?_
      refine n_if2_ge c_39_45 (by omega) (by omega) ?_ ?_
      · intro h1
        refine n_iinc (L2 := [some (2, 50), some (2, p), some (2, 4), some (2, 52), some (0, x4), some (0, x5), some (0, x6), some (0, (x7 + 1)), some (0, x8), none]) c_39_109 rfl rfl rfl ?_
        refine n_goto c_39_112 ?_
        refine n_fg (le_s (le_s (le_s (le_s (le_s (le_s (le_s (le_s (le_n (le_n le_0)))))))))) ?_
        exact ih.1 _ _ _ _ M hS (by omega) (by omega) (by omega) (by omega) (by exact v0) (by exact v1) (by exact v2) (by exact v3) (by exact KC1.step v4 v6 (by omega)) (by omega)
      · intro h2
        refine n_aload_n c_39_48 rfl ?_
        refine n_aload_n c_39_49 rfl ?_
        refine n_aload_n c_39_50 rfl ?_
        refine n_getR c_39_51 hp.c0.1.n rfl rfl rfl hp.r.1 ?_
        refine n_aload_n c_39_54 rfl ?_
        refine n_getR c_39_55 law50.c0.1.n rfl rfl rfl law50.r ?_
        refine n_iload c_39_58 rfl ?_
        refine n_ialoadV c_39_60 law50.c0.2.n rfl rfl rfl (by omega) (t_lawr hS law50 (by omega)) ?_
        intro z3 ez3 f4
        have yz3 : z3 = M 51 x7 := ez3
        have t54 := tf_le (show x7 < tf (Ms p 0) 3 (Ms 50 3) by omega)
        have u54 := v3.r.1 x7 (by omega) t54
        have w54 := hr x7 (by omega) t54
        refine n_aload_n c_39_61 rfl ?_
        refine n_getR c_39_62 law50.c0.1.n rfl rfl rfl law50.r ?_
        refine n_iload c_39_65 rfl ?_
        refine n_ialoadV c_39_67 law50.c0.2.n rfl rfl rfl (by omega) (t_lawr hS law50 (by omega)) ?_
        intro z5 ez5 f6
        have yz5 : z5 = M 51 x8 := ez5
        have t61 := tf_le (show x8 < tf (Ms p 0) 2 (Ms 50 3) by omega)
        have u61 := v3.r.1 x8 (by omega) t61
        have w61 := hr x8 (by omega) t61
        refine n_v4V c_39_68 rfl sc_52.n rfl rfl rfl rfl (fillXT_3 (p := p) (i := z3) (j := z5) (Ms := M) hS hp hpl (by omega) (by omega) (by rfl)) ?_
        intro  M7 hP8
        obtain ⟨hS7, f8p0, f8p1⟩ := hP8
        refine n_iconst c_39_71 ?_
        refine n_istore (L2 := [some (2, 50), some (2, p), some (2, 4), some (2, 52), some (0, x4), some (0, x5), some (0, x6), some (0, x7), some (0, x8), some (0, 0)]) c_39_72 rfl rfl ?_
        refine n_fg (le_s (le_s (le_s (le_s (le_s (le_s (le_s (le_s (le_s (le_s le_0)))))))))) ?_
        exact ih.2.2 _ _ _ _ _ _ M7 hS7 (by omega) (by omega) (by omega) (by omega) (by omega) (by omega) (by exact v0) (by exact v1) (by exact v2) (by exact GI.c v3 f8p0) (by rw [f8p0 50 2 (by omega)]; exact v4) (by omega) (by rw [f8p0 50 2 (by omega)]; exact v6) (by omega) (by exact fun c h0 h1 => by have y := f8p1 c h0 h1; rw [y, yz3, yz5, u54, u61]; congr 1; funext n; exact v3.r.2 (p + 1) n (by omega)) (by exact fun k h0 h1 => by omega) (by omega)
    · intro x4 x5 x6 x7 x8 x9 M hS k4 k5 k6 k7 k8 k9 v0 v1 v2 v3 v4 v5 v6 v7 v8 v9 hnn
      refine n_iload c_39_74 rfl ?_
      refine n_iload c_39_76 rfl ?_
      refine n_if2_ge c_39_78 (by omega) (by omega) ?_ ?_
      · intro h1
        refine n_iinc (L2 := [some (2, 50), some (2, p), some (2, 4), some (2, 52), some (0, x4), some (0, x5), some (0, x6), some (0, x7), some (0, (x8 + 1)), some (0, x9)]) c_39_103 rfl rfl rfl ?_
        refine n_goto c_39_106 ?_
        refine n_fg (le_s (le_s (le_s (le_s (le_s (le_s (le_s (le_s (le_s (le_n le_0)))))))))) ?_
        exact ih.2.1 _ _ _ _ _ M hS (by omega) (by omega) (by omega) (by omega) (by omega) (by exact v0) (by exact v1) (by exact v2) (by exact v3) (by exact v4) (by omega) (by exact KC2.step v6 v9 (by omega)) (by omega)
      · intro h2
        refine n_aload_n c_39_81 rfl ?_
        refine n_aload_n c_39_82 rfl ?_
        refine n_getR c_39_83 sc_52.n rfl rfl rfl r_52_0 ?_
        refine n_aload_n c_39_86 rfl ?_
        refine n_getR c_39_87 law50.c0.1.n rfl rfl rfl law50.r ?_
        refine n_iload c_39_90 rfl ?_
        refine n_ialoadV c_39_92 law50.c0.2.n rfl rfl rfl (by omega) (t_lawr hS law50 (by omega)) ?_
        intro z3 ez3 f4
        have yz3 : z3 = M 51 x9 := ez3
        have u91 := v3.r.1 x9 (by omega) (by omega)
        have w91 := hr x9 (by omega) (by omega)
        refine n_ialoadV c_39_93 sc_53.n rfl rfl rfl (by omega) (t_53 hS (by omega)) ?_
        intro z5 ez5 f6
        have q92 : z5 = lin 3 (fun i => Ms (p + 1) i) (Ms 51 x7) (Ms 51 x8) (Ms 51 x9) := by rw [ez5, yz3, u91]; exact v8 _ (by omega) w91
        have hww := v3.w
        refine n_v1V c_39_94 rfl law50.c0.1.n rfl rfl rfl rfl (addWideS_3 (r := z5) hS (by omega) (by omega)) ?_
        intro  M7 hP8
        obtain ⟨hS7, f8p0⟩ := hP8
        obtain ⟨gi2, sb2, bt2⟩ := GI.put (by decide) hm3 hC hT hf v3 f8p0 (i := x7) (j := x8) (l := x9) (by omega) (by omega) (by omega) (by omega) (by omega) (by omega) q92
        refine n_iinc (L2 := [some (2, 50), some (2, p), some (2, 4), some (2, 52), some (0, x4), some (0, x5), some (0, x6), some (0, x7), some (0, x8), some (0, (x9 + 1))]) c_39_97 rfl rfl rfl ?_
        refine n_goto c_39_100 ?_
        refine n_fg (le_s (le_s (le_s (le_s (le_s (le_s (le_s (le_s (le_s (le_s le_0)))))))))) ?_
        exact ih.2.2 _ _ _ _ _ _ M7 hS7 (by omega) (by omega) (by omega) (by omega) (by omega) (by omega) (by exact v0) (by exact v1) (by exact v2) (by exact gi2) (by exact KC1.mono v4 sb2 hl (by omega)) (by omega) (by exact KC2.mono v6 sb2 hl (by omega) (by omega)) (by omega) (by exact fun c h0 h1 => by rw [f8p0.2.2.2 53 c (by omega)]; exact v8 c h0 h1) (by exact KC3.step (KC3.mono v9 sb2 hl (by omega) (by omega) (by omega)) bt2) (by omega)
set_option maxHeartbeats 4000000 in
theorem growsByX_3 {xs : List Int32} {e : Nat} {ac : Int} {M0 M : nM} {p : Int} {Ms : nM} {cu : Int} (hS : Sf 3 ac M0 M) (hp : ActAt p) (hpl : p < 55 + 3 * ac) (hms : M = Ms) (hC : CuOk 3 (Ms 50 0) cu Ms) (hA : ActOk 3 p Ms) : nW xs (e + 2) 39 0 [some (2, 50), some (2, p), some (2, 4), some (2, 52), none, none, none, none, none, none] [] M (nPI fun z M1 => Sf 3 ac M0 M1 ∧ (0 ≤ z ∧ z ≤ 1) ∧ (GP 3 (Ms p 0) (Ms 50 0) (fun i => Ms (p + 1) i) cu z Ms M1)) := by
  have hd : (3 : Int) = 2 ∨ (3 : Int) = 3 := by decide
  have hac := hS.2.2.2.2
  have hpb : 55 ≤ p ∧ p ≤ 76 := by unfold ActAt at hp; omega
  have hm3 := (t_actl (hms ▸ hS : Sf 3 ac M0 Ms) hp hpl).1
  have hT : ∀ i : Int, 0 ≤ i → i < 3 * 3 * 3 → (fun i => Ms (p + 1) i) i = (fun i => Ms (p + 1) i) (i % pw 3 (Ms p 0)) := hA
  have hf : ∀ i : Int, 0 ≤ i → i < pw 3 (Ms p 0) → 0 ≤ (fun i => Ms (p + 1) i) i ∧ (fun i => Ms (p + 1) i) i < 3 := fun i h0 h1 => by have u := t_actrl (hms ▸ hS : Sf 3 ac M0 Ms) hp hpl (Or.inl rfl) (i := i) h0 (by have := (pw_r (d := 3) (k := Ms p 0) (by decide) hm3).2.1; omega); exact ⟨u.1, by have := u.2; show Ms (p + 1) i < 3; omega⟩
  have hl := LR26.mk (by decide) hm3 hC.1 hC.2.2.2 hT hf
  have hr : ∀ i : Int, 0 ≤ i → i < Ms 50 3 → Ms 51 i < 27 := fun i h0 h1 => by obtain ⟨_, _, _, _, u⟩ := LRn.row (by decide) hC.1 hC.2.2.2 h0 h1; exact u
  refine n_aload_n c_39_0 rfl ?_
  refine n_getV (bi := 3) c_39_1 law50.c0.1.n rfl rfl rfl (t_law hS law50).2.2.2 ?_
  intro z1 ez1 f2
  refine n_istore (L2 := [some (2, 50), some (2, p), some (2, 4), some (2, 52), some (0, z1), none, none, none, none, none]) c_39_4 rfl rfl ?_
  refine n_aload_n c_39_6 rfl ?_
  refine n_aload_n c_39_7 rfl ?_
  refine n_getV (bi := 0) c_39_8 hp.c0.1.n rfl rfl rfl (t_actl hS hp hpl).1 ?_
  intro z3 ez3 f4
  refine n_iconst c_39_11 ?_
  refine n_v2I c_39_12 rfl law50.c0.1.n rfl rfl rfl rfl (triedX_3 (q := 50) (a := z3) (n := 3) hS law50 (by omega) (by omega)) ?_
  intro z5 M6 hP7
  obtain ⟨eM, f7, f7p0⟩ := hP7
  subst eM
  refine n_istore (L2 := [some (2, 50), some (2, p), some (2, 4), some (2, 52), some (0, z1), some (0, z5), none, none, none, none]) c_39_15 rfl rfl ?_
  refine n_aload_n c_39_17 rfl ?_
  refine n_aload_n c_39_18 rfl ?_
  refine n_getV (bi := 0) c_39_19 hp.c0.1.n rfl rfl rfl (t_actl hS hp hpl).1 ?_
  intro z8 ez8 f9
  refine n_iconst c_39_22 ?_
  refine n_v2I c_39_23 rfl law50.c0.1.n rfl rfl rfl rfl (triedX_3 (q := 50) (a := z8) (n := 2) hS law50 (by omega) (by omega)) ?_
  intro z10 M11 hP12
  obtain ⟨eM, f12, f12p0⟩ := hP12
  subst eM
  refine n_istore (L2 := [some (2, 50), some (2, p), some (2, 4), some (2, 52), some (0, z1), some (0, z5), some (0, z10), none, none, none]) c_39_26 rfl rfl ?_
  refine n_iconst c_39_28 ?_
  refine n_istore (L2 := [some (2, 50), some (2, p), some (2, 4), some (2, 52), some (0, z1), some (0, z5), some (0, z10), some (0, 0), none, none]) c_39_29 rfl rfl ?_
  refine n_fg (le_s (le_s (le_s (le_s (le_s (le_s (le_s (le_s (le_n (le_n le_0)))))))))) ?_
  exact (growsByX_3_c hS hp hpl hms hC hA 50528).1 _ _ _ _ M hS (by omega) (by omega) (by omega) (by omega) (by subst hms; omega) (by subst hms; have u := f7p0; rw [ez3] at u; exact u) (by subst hms; have u := f12p0; rw [ez8] at u; exact u) (by subst hms; exact GI.init hC) (by exact fun i j k h0 h1 => by omega) (by omega)

set_option maxHeartbeats 4000000 in
theorem narrowSetX1_3_c {xs : List Int32} {e : Nat} {ac : Int} {M0 M : nM} {cu : Int} (hS : Sf 3 ac M0 M) (hk0 : M 50 0 = 1) (hC : CuOk 3 1 cu M) : ∀ nn : Nat, (∀ (x2 x3 x4 : Int), (0 ≤ x2 ∧ x2 ≤ 134217727) → (3 ≤ x3 ∧ x3 ≤ 3) → (0 ≤ x4 ∧ x4 ≤ 3) → (∀ y : Int, 0 ≤ y → y ≤ 26 → (bt x2 y ↔ y < x4 ∧ bt cu y)) → (3 - x4) * 1 + 1 < (nn : Int) → nW xs (e + 1) 40 14 [some (2, 50), some (2, 4), some (0, x2), some (0, x3), some (0, x4)] [] M (nPI fun z M1 => M = M1 ∧ (0 ≤ z ∧ z ≤ 134217727) ∧ (z = cu))) := by
  have hd : (3 : Int) = 2 ∨ (3 : Int) = 3 := by decide
  have hac := hS.2.2.2.2
  have hwr := hC.2.2.2.2.1
  intro nn
  induction nn with
  | zero => intros; omega
  | succ nn ih =>
    intro x2 x3 x4 k2 k3 k4 v0 hnn
    refine n_iload c_40_14 rfl ?_
    refine n_iload_n c_40_16 rfl ?_
    refine n_if2_ge c_40_17 (by omega) (by omega) ?_ ?_
    · intro h1
      refine n_iload_n c_40_53 rfl ?_
      exact n_rI c_40_54 rfl ⟨rfl, by omega, by exact bt_ext (by omega) hC.2.1 (fun y y0 y1 => by rw [v0 y y0 y1]; exact ⟨fun q => q.2, fun q => ⟨by by_cases u : y < x4; exact u; exact absurd q (hC.2.2.1 y (by show 3 ≤ y; omega) y1), q⟩⟩)⟩
    · intro h2
      refine n_aload_n c_40_20 rfl ?_
      refine n_getV (bi := 2) c_40_21 law50.c0.1.n rfl rfl rfl (t_law hS law50).2.2.1 ?_
      intro z3 ez3 f4
      refine n_aload_n c_40_24 rfl ?_
      refine n_iload c_40_25 rfl ?_
      refine n_aload_n c_40_27 rfl ?_
      refine n_getV (bi := 0) c_40_28 law50.c0.1.n rfl rfl rfl (t_law hS law50).1 ?_
      intro z5 ez5 f6
      obtain rfl : z5 = 1 := by omega
      refine n_v2I c_40_31 rfl sc_4.n rfl rfl rfl rfl (widenX1_3 (n := x4) hS (by omega)) ?_
      intro z7 M8 hP9
      obtain ⟨eM, f9, f9p0⟩ := hP9
      subst eM
      refine n_i_ishr c_40_34 rfl ?_
      have f10 := n_shr_r z3 z7
      generalize gz11 : (n_shr z3 z7) = z11 at f10 ⊢
      refine n_iconst c_40_35 ?_
      refine n_i_iand c_40_36 rfl ?_
      have f12 := n_and_y (x := z11) (y := 1) (by omega)
      generalize gz13 : (n_and z11 1) = z13 at f12 ⊢
      have hb36 : z13 = z3 / 2 ^ (z7).toNat % 2 := by rw [← gz13, ← gz11]; exact ib_v (by omega) (by omega)
      refine n_if0_eq c_40_37 (by omega) ?_ ?_
      · intro h14
        refine n_iinc (L2 := [some (2, 50), some (2, 4), some (0, x2), some (0, x3), some (0, (x4 + 1))]) c_40_47 rfl rfl rfl ?_
        refine n_goto c_40_50 ?_
        refine n_fg (le_s (le_s (le_s (le_s (le_s le_0))))) ?_
        exact ih _ _ _ (by omega) (by omega) (by omega) (by have hw1 : bt (M 50 2) (wd 3 1 x4) ↔ bt cu x4 := LRn.bit (by decide) (by decide) hC.2.2.2 (n := x4) ⟨by omega, by show x4 < 3; omega⟩; have eb : bt (M 50 2) (wd 3 1 x4) ↔ z13 = 1 := (by unfold bt; rw [← f9p0]; subst_vars; omega); exact fun y y0 y1 => by rw [v0 y y0 y1]; by_cases u : y = x4; (rw [u]; exact ⟨fun q => by omega, fun q => by have := eb.mp (hw1.mpr q.2); omega⟩); exact ⟨fun q => ⟨by omega, q.2⟩, fun q => ⟨by omega, q.2⟩⟩) (by omega)
      · intro h15
        refine n_iload_n c_40_40 rfl ?_
        refine n_iconst c_40_41 ?_
        refine n_iload c_40_42 rfl ?_
        refine n_i_ishl c_40_44 rfl ?_
        have f16 := n_shl_1 (y := x4) (a := 0) (b := 2) (by decide) (by omega)
        generalize gz17 : (n_shl 1 x4) = z17 at f16 ⊢
        refine n_i_ior c_40_45 rfl ?_
        have f18 := n_or_r x2 z17
        generalize gz19 : (n_or x2 z17) = z19 at f18 ⊢
        have hor := (n_or_bit27 (s := x2) (r := x4) (by omega) (by omega)).1
        rw [gz17, gz19] at hor
        refine n_istore_n (L2 := [some (2, 50), some (2, 4), some (0, z19), some (0, x3), some (0, x4)]) c_40_46 rfl rfl ?_
        refine n_iinc (L2 := [some (2, 50), some (2, 4), some (0, z19), some (0, x3), some (0, (x4 + 1))]) c_40_47 rfl rfl rfl ?_
        refine n_goto c_40_50 ?_
        refine n_fg (le_s (le_s (le_s (le_s (le_s le_0))))) ?_
        exact ih _ _ _ (by omega) (by omega) (by omega) (by have hw1 : bt (M 50 2) (wd 3 1 x4) ↔ bt cu x4 := LRn.bit (by decide) (by decide) hC.2.2.2 (n := x4) ⟨by omega, by show x4 < 3; omega⟩; have eb : bt (M 50 2) (wd 3 1 x4) ↔ z13 = 1 := (by unfold bt; rw [← f9p0]; subst_vars; omega); exact fun y y0 y1 => by rw [← gz19, ← gz17, bt_or (by omega) (by omega) y0, v0 y y0 y1]; by_cases u : y = x4; (rw [u]; exact ⟨fun _ => ⟨by omega, hw1.mp (eb.mpr (by omega))⟩, fun _ => Or.inr rfl⟩); exact ⟨fun q => by rcases q with q | q; exact ⟨by omega, q.2⟩; exact absurd q u, fun q => Or.inl ⟨by omega, q.2⟩⟩) (by omega)
set_option maxHeartbeats 4000000 in
theorem narrowSetX1_3 {xs : List Int32} {e : Nat} {ac : Int} {M0 M : nM} {cu : Int} (hS : Sf 3 ac M0 M) (hk0 : M 50 0 = 1) (hC : CuOk 3 1 cu M) : nW xs (e + 1) 40 0 [some (2, 50), some (2, 4), none, none, none] [] M (nPI fun z M1 => M = M1 ∧ (0 ≤ z ∧ z ≤ 134217727) ∧ (z = cu)) := by
  have hd : (3 : Int) = 2 ∨ (3 : Int) = 3 := by decide
  have hac := hS.2.2.2.2
  have hwr := hC.2.2.2.2.1
  refine n_iconst c_40_0 ?_
  refine n_istore_n (L2 := [some (2, 50), some (2, 4), some (0, 0), none, none]) c_40_1 rfl rfl ?_
  refine n_aload_n c_40_2 rfl ?_
  refine n_aload_n c_40_3 rfl ?_
  refine n_getV (bi := 0) c_40_4 law50.c0.1.n rfl rfl rfl (t_law hS law50).1 ?_
  intro z1 ez1 f2
  obtain rfl : z1 = 1 := by omega
  refine n_v1I c_40_7 rfl sc_4.n rfl rfl rfl rfl (power1_3  hS ) ?_
  intro z3 M4 hP5
  obtain ⟨eM, f5⟩ := hP5
  subst eM
  obtain rfl : z3 = 3 := by omega
  refine n_istore_n (L2 := [some (2, 50), some (2, 4), some (0, 0), some (0, 3), none]) c_40_10 rfl rfl ?_
  refine n_iconst c_40_11 ?_
  refine n_istore (L2 := [some (2, 50), some (2, 4), some (0, 0), some (0, 3), some (0, 0)]) c_40_12 rfl rfl ?_
  refine n_fg (le_s (le_s (le_s (le_s (le_s le_0))))) ?_
  exact (narrowSetX1_3_c hS hk0 hC 20) _ _ _ (by omega) (by omega) (by omega) (by exact fun y y0 y1 => ⟨fun u => absurd u (bt_0 y), fun u => by omega⟩) (by omega)

set_option maxHeartbeats 4000000 in
theorem closedX1_3_c {xs : List Int32} {e : Nat} {ac : Int} {M0 M : nM} {l : Int} {Ms : nM} (hS : Sf 3 ac M0 M) (hl : -2147483648 ≤ l ∧ l ≤ 2147483647) (hms : M = Ms) (hx : ∀ l : Int, 0 ≤ l → l < Ms 3 15 → LawOk 3 (79 + 2 * l) Ms ∧ ∀ y : Int, pw 3 (Ms (79 + 2 * l) 0) ≤ y → y ≤ 26 → ¬ bt (Ms (79 + 2 * l) 1) y) (ha : ∀ a : Int, 0 ≤ a → a < Ms 3 14 → ActOk 3 (55 + 3 * a) Ms) (hkk : 0 ≤ l → l < Ms 3 15 → Ms (79 + 2 * l) 0 = 1) (hsb : ∀ l : Int, 0 ≤ l → l < Ms 3 15 → 0 ≤ Ms (79 + 2 * l) 1 ∧ Ms (79 + 2 * l) 1 ≤ 134217727) : ∀ nn : Nat, (∀ (x2 x3 : Int) (M : nM), Sf 3 ac M0 M → (0 ≤ x2 ∧ x2 ≤ 1) → (0 ≤ x3 ∧ x3 ≤ 28) → (CI 3 1 (Ms (79 + 2 * l) 1) Ms M (fun cu => (x2 = 0 → KPn 3 Ms 1 (Ms 3 14) cu) ∧ (x2 = 1 → x3 ≤ M 50 3))) → (0 ≤ l ∧ l < Ms 3 15) → (28 - x3) * 11 + 11 < (nn : Int) → nW xs (e + 3) 102 45 [some (2, 3), none, some (0, x2), some (0, x3), none] [] M (nPJ fun z M1 => Sf 3 ac M0 M1 ∧ (-9223372036854775808 ≤ z ∧ z ≤ 9223372036854775807) ∧ (cCl 3 l z Ms))) ∧ (∀ (x2 x3 x4 : Int) (M : nM), Sf 3 ac M0 M → (0 ≤ x2 ∧ x2 ≤ 1) → (0 ≤ x3 ∧ x3 ≤ 27) → (0 ≤ x4 ∧ x4 ≤ 8) → (CI 3 1 (Ms (79 + 2 * l) 1) Ms M (fun cu => (x2 = 0 → KPn 3 Ms 1 x4 cu) ∧ x3 ≤ M 50 3 ∧ (x2 = 1 → x3 + 1 ≤ M 50 3))) → (0 ≤ l ∧ l < Ms 3 15) → (28 - x3) * 11 + (8 - x4) * 1 + 1 < (nn : Int) → nW xs (e + 3) 102 60 [some (2, 3), none, some (0, x2), some (0, x3), some (0, x4)] [] M (nPJ fun z M1 => Sf 3 ac M0 M1 ∧ (-9223372036854775808 ≤ z ∧ z ≤ 9223372036854775807) ∧ (cCl 3 l z Ms))) := by
  have hd : (3 : Int) = 2 ∨ (3 : Int) = 3 := by decide
  have hac := hS.2.2.2.2
  intro nn
  induction nn with
  | zero => refine ⟨?_, ?_⟩ <;> (intros; omega)
  | succ nn ih =>
    refine ⟨?_, ?_⟩
    · intro x2 x3 M hS k2 k3 v0 v1 hnn
      obtain ⟨cu, c1, c2, c3, c4, c5, c6, c7⟩ := v0
      refine n_iload_n c_102_45 rfl ?_
      refine n_bipush c_102_46 rfl ?_
      refine n_if2_gt c_102_48 (by omega) (by omega) ?_ ?_
      · intro h1
        refine n_aload_n c_102_106 rfl ?_
        refine n_getR c_102_107 sc_3.n rfl rfl rfl r_3_11 ?_
        refine n_aload_n c_102_110 rfl ?_
        refine n_getR c_102_111 sc_3.n rfl rfl rfl r_3_0 ?_
        refine n_v1I c_102_114 rfl law50.c0.1.n rfl rfl rfl rfl (narrowSetX1_3 (cu := cu) hS (by omega) (by exact c1)) ?_
        intro z2 M3 hP4
        obtain ⟨eM, f4, f4p0⟩ := hP4
        subst eM
        refine n_i2l c_102_117 (by omega) ?_
        exact n_rJ c_102_118 rfl ⟨hS, by omega, by have x0 : x2 = 0 := (by by_cases u : x2 = 0; exact u; have := c7 (by omega); have := (t_law hS law50).2.2.2; omega); have ez := f4p0; rw [ez]; exact Or.inr ⟨v1.1, v1.2, c1.2.1, fun y y0 y1 => c1.2.2.1 y (by rw [hkk v1.1 v1.2] at y0; exact y0) y1, c2, by rw [hkk v1.1 v1.2]; exact c6 x0, by rw [hkk v1.1 v1.2]; exact c3⟩⟩
      · intro h5
        refine n_iload_n c_102_51 rfl ?_
        refine n_if0_eq c_102_52 (by omega) ?_ ?_
        · intro h6
          refine n_aload_n c_102_106 rfl ?_
          refine n_getR c_102_107 sc_3.n rfl rfl rfl r_3_11 ?_
          refine n_aload_n c_102_110 rfl ?_
          refine n_getR c_102_111 sc_3.n rfl rfl rfl r_3_0 ?_
          refine n_v1I c_102_114 rfl law50.c0.1.n rfl rfl rfl rfl (narrowSetX1_3 (cu := cu) hS (by omega) (by exact c1)) ?_
          intro z7 M8 hP9
          obtain ⟨eM, f9, f9p0⟩ := hP9
          subst eM
          refine n_i2l c_102_117 (by omega) ?_
          exact n_rJ c_102_118 rfl ⟨hS, by omega, by have x0 : x2 = 0 := (by by_cases u : x2 = 0; exact u; have := c7 (by omega); have := (t_law hS law50).2.2.2; omega); have ez := f9p0; rw [ez]; exact Or.inr ⟨v1.1, v1.2, c1.2.1, fun y y0 y1 => c1.2.2.1 y (by rw [hkk v1.1 v1.2] at y0; exact y0) y1, c2, by rw [hkk v1.1 v1.2]; exact c6 x0, by rw [hkk v1.1 v1.2]; exact c3⟩⟩
        · intro h10
          refine n_iconst c_102_55 ?_
          refine n_istore_n (L2 := [some (2, 3), none, some (0, 0), some (0, x3), none]) c_102_56 rfl rfl ?_
          refine n_iconst c_102_57 ?_
          refine n_istore (L2 := [some (2, 3), none, some (0, 0), some (0, x3), some (0, 0)]) c_102_58 rfl rfl ?_
          refine n_fg (le_s (le_n (le_s (le_s (le_s le_0))))) ?_
          exact ih.2 _ _ _ M hS (by omega) (by omega) (by omega) (by exact ⟨cu, c1, c2, c3, c4, c5, fun u a a0 a1 => by omega, by have := c7 (by omega); omega, fun u => by omega⟩) (by exact v1) (by omega)
    · intro x2 x3 x4 M hS k2 k3 k4 v0 v1 hnn
      obtain ⟨cu, c1, c2, c3, c4, c5, c6, c7, c8⟩ := v0
      refine n_iload c_102_60 rfl ?_
      refine n_aload_n c_102_62 rfl ?_
      refine n_getV (bi := 14) c_102_63 sc_3.n rfl rfl rfl (t_3_14x hS) ?_
      intro z1 ez1 f2
      have f2a := t_ac hS
      refine n_if2_ge c_102_66 (by omega) (by omega) ?_ ?_
      · intro h3
        refine n_iinc (L2 := [some (2, 3), none, some (0, x2), some (0, (x3 + 1)), some (0, x4)]) c_102_100 rfl rfl rfl ?_
        refine n_goto c_102_103 ?_
        refine n_fg (le_s (le_n (le_s (le_s (le_n le_0))))) ?_
        exact ih.1 _ _ M hS (by omega) (by omega) (by exact ⟨cu, c1, c2, c3, c4, c5, fun u a a0 a1 => c6 u a a0 (by have n14 := c4 3 14 (by omega); have t14 := t_ac hS; omega), fun u => by have := c8 u; omega⟩) (by exact v1) (by omega)
      · intro h4
        refine n_iload_n c_102_69 rfl ?_
        refine n_aload_n c_102_70 rfl ?_
        refine n_getR c_102_71 sc_3.n rfl rfl rfl r_3_11 ?_
        refine n_aload_n c_102_74 rfl ?_
        refine n_getR c_102_75 sc_3.n rfl rfl rfl r_3_2 ?_
        refine n_iload c_102_78 rfl ?_
        refine n_aaload c_102_80 sc_12.n rfl rfl rfl (by omega) (r_acts _) ?_
        have q5 : ActAt (55 + 3 * x4) := by unfold ActAt; omega
        have q5l : (55 + 3 * x4) < 55 + 3 * ac := by omega
        refine n_aload_n c_102_81 rfl ?_
        refine n_getR c_102_82 sc_3.n rfl rfl rfl r_3_0 ?_
        refine n_aload_n c_102_85 rfl ?_
        refine n_getR c_102_86 sc_3.n rfl rfl rfl r_3_12 ?_
        refine n_v3I c_102_89 rfl law50.c0.1.n rfl rfl rfl rfl (growsByX_3 (p := (55 + 3 * x4)) (Ms := M) (cu := cu) hS q5 q5l (by rfl) (by rw [c5]; exact c1) (by exact ActOk.of (ha x4 (by omega) (by have n14 := c4 3 14 (by omega); have t14 := t_ac hS; omega)) (fun a i u1 u2 => c4 a i (by omega)))) ?_
        intro z6 M7 hP8
        obtain ⟨hS7, f8, f8p0⟩ := hP8
        refine n_i_ior c_102_92 rfl ?_
        have f9 := n_or_1 (x := x2) (y := z6) (by omega) (by omega)
        generalize gz10 : (n_or x2 z6) = z10 at f9 ⊢
        refine n_istore_n (L2 := [some (2, 3), none, some (0, z10), some (0, x3), some (0, x4)]) c_102_93 rfl rfl ?_
        refine n_iinc (L2 := [some (2, 3), none, some (0, z10), some (0, x3), some (0, (x4 + 1))]) c_102_94 rfl rfl rfl ?_
        refine n_goto c_102_97 ?_
        refine n_fg (le_s (le_n (le_s (le_s (le_s le_0))))) ?_
        exact ih.2 _ _ _ M7 hS7 (by omega) (by omega) (by omega) (by rw [← gz10]; exact CI.grow (a := x4) (by have n14 := c4 3 14 (by omega); have t14 := t_ac hS; omega) (by have n14 := c4 3 14 (by omega); have t14 := t_3_14x hS; omega) (by omega) (by omega) c1 c2 c3 c4 c5 c6 c7 c8 f8p0) (by exact v1) (by omega)
set_option maxHeartbeats 4000000 in
theorem closedX1_3 {xs : List Int32} {e : Nat} {ac : Int} {M0 M : nM} {l : Int} {Ms : nM} (hS : Sf 3 ac M0 M) (hl : -2147483648 ≤ l ∧ l ≤ 2147483647) (hms : M = Ms) (hx : ∀ l : Int, 0 ≤ l → l < Ms 3 15 → LawOk 3 (79 + 2 * l) Ms ∧ ∀ y : Int, pw 3 (Ms (79 + 2 * l) 0) ≤ y → y ≤ 26 → ¬ bt (Ms (79 + 2 * l) 1) y) (ha : ∀ a : Int, 0 ≤ a → a < Ms 3 14 → ActOk 3 (55 + 3 * a) Ms) (hkk : 0 ≤ l → l < Ms 3 15 → Ms (79 + 2 * l) 0 = 1) (hsb : ∀ l : Int, 0 ≤ l → l < Ms 3 15 → 0 ≤ Ms (79 + 2 * l) 1 ∧ Ms (79 + 2 * l) 1 ≤ 134217727) : nW xs (e + 3) 102 0 [some (2, 3), some (0, l), none, none, none] [] M (nPJ fun z M1 => Sf 3 ac M0 M1 ∧ (-9223372036854775808 ≤ z ∧ z ≤ 9223372036854775807) ∧ (cCl 3 l z Ms)) := by
  have hd : (3 : Int) = 2 ∨ (3 : Int) = 3 := by decide
  have hac := hS.2.2.2.2
  refine n_aload_n c_102_0 rfl ?_
  refine n_iload_n c_102_1 rfl ?_
  refine n_v1I c_102_2 rfl sc_3.n rfl rfl rfl rfl (isLawF_3 (l := l) hS (by omega)) ?_
  intro z1 M2 hP3
  obtain ⟨eM, f3, f3p0⟩ := hP3
  subst eM
  refine n_if0_ne c_102_5 (by omega) ?_ ?_
  · intro h4
    refine n_aload_n c_102_12 rfl ?_
    refine n_getR c_102_13 sc_3.n rfl rfl rfl r_3_11 ?_
    refine n_aload_n c_102_16 rfl ?_
    refine n_getR c_102_17 sc_3.n rfl rfl rfl r_3_3 ?_
    refine n_iload_n c_102_20 rfl ?_
    refine n_aaload c_102_21 sc_13.n rfl rfl rfl (by omega) (r_laws _) ?_
    have q5 : LawAt (79 + 2 * l) := by unfold LawAt; omega
    refine n_getV (bi := 0) c_102_22 q5.c0.1.n rfl rfl rfl (t_law hS q5).1 ?_
    intro z6 ez6 f7
    have q22 : M (79 + 2 * l) 0 = 1 := by rw [hms]; exact hkk (by omega) (by rw [← hms]; omega)
    obtain rfl : z6 = 1 := by omega
    refine n_aload_n c_102_25 rfl ?_
    refine n_getR c_102_26 sc_3.n rfl rfl rfl r_3_3 ?_
    refine n_iload_n c_102_29 rfl ?_
    refine n_aaload c_102_30 sc_13.n rfl rfl rfl (by omega) (r_laws _) ?_
    have q8 : LawAt (79 + 2 * l) := by unfold LawAt; omega
    refine n_getV (bi := 1) c_102_31 q8.c0.1.n rfl rfl rfl (t_law hS q8).2.1 ?_
    intro z9 ez9 f10
    have q31 : z9 = Ms (79 + 2 * l) 1 := by rw [ez9, hms]
    have hst := hsb l (by omega) (by rw [← hms]; omega)
    have hl0 : 0 ≤ l ∧ l < Ms 3 15 := ⟨by omega, by rw [← hms]; omega⟩
    refine n_aload_n c_102_34 rfl ?_
    refine n_getR c_102_35 sc_3.n rfl rfl rfl r_3_0 ?_
    refine n_v3V c_102_38 rfl law50.c0.1.n rfl rfl rfl rfl (takeSY1_3 (s := z9) (Ms := M) hS (by omega) (by rfl)) ?_
    intro  M11 hP12
    obtain ⟨hS11, f12p0, f12p1, f12p2⟩ := hP12
    refine n_iconst c_102_41 ?_
    refine n_istore_n (L2 := [some (2, 3), some (0, l), some (0, 1), none, none]) c_102_42 rfl rfl ?_
    refine n_iconst c_102_43 ?_
    refine n_istore_n (L2 := [some (2, 3), some (0, l), some (0, 1), some (0, 0), none]) c_102_44 rfl rfl ?_
    refine n_fg (le_s (le_n (le_s (le_s (le_n le_0))))) ?_
    exact (closedX1_3_c hS hl hms hx ha hkk hsb 670).1 _ _ M11 hS11 (by omega) (by omega) (by exact ⟨z9, ⟨by decide, by omega, fun y y0 y1 => by rw [q31]; exact (hx l hl0.1 hl0.2).2 y (by rw [hkk hl0.1 hl0.2]; exact y0) y1, f12p1⟩, fun _ _ _ q => by rw [q31]; exact q, fun t t1 _ => by rw [q31]; exact t1, fun a i u => by rw [f12p2 a i (by omega), hms], f12p0.1, fun u => by omega, fun _ => by have := (t_law hS11 law50).2.2.2; omega⟩) (by exact hl0) (by omega)
  · intro h13
    refine n_ldc2 (n := (-1)) c_102_8 rfl ?_
    exact n_rJ c_102_11 rfl ⟨hS, by omega, by exact Or.inl ⟨by rw [← hms]; omega, rfl⟩⟩

set_option maxHeartbeats 4000000 in
theorem narrowSetX2_3_c {xs : List Int32} {e : Nat} {ac : Int} {M0 M : nM} {cu : Int} (hS : Sf 3 ac M0 M) (hk0 : M 50 0 = 2) (hC : CuOk 3 2 cu M) : ∀ nn : Nat, (∀ (x2 x3 x4 : Int), (0 ≤ x2 ∧ x2 ≤ 134217727) → (9 ≤ x3 ∧ x3 ≤ 9) → (0 ≤ x4 ∧ x4 ≤ 9) → (∀ y : Int, 0 ≤ y → y ≤ 26 → (bt x2 y ↔ y < x4 ∧ bt cu y)) → (9 - x4) * 1 + 1 < (nn : Int) → nW xs (e + 1) 40 14 [some (2, 50), some (2, 4), some (0, x2), some (0, x3), some (0, x4)] [] M (nPI fun z M1 => M = M1 ∧ (0 ≤ z ∧ z ≤ 134217727) ∧ (z = cu))) := by
  have hd : (3 : Int) = 2 ∨ (3 : Int) = 3 := by decide
  have hac := hS.2.2.2.2
  have hwr := hC.2.2.2.2.1
  intro nn
  induction nn with
  | zero => intros; omega
  | succ nn ih =>
    intro x2 x3 x4 k2 k3 k4 v0 hnn
    refine n_iload c_40_14 rfl ?_
    refine n_iload_n c_40_16 rfl ?_
    refine n_if2_ge c_40_17 (by omega) (by omega) ?_ ?_
    · intro h1
      refine n_iload_n c_40_53 rfl ?_
      exact n_rI c_40_54 rfl ⟨rfl, by omega, by exact bt_ext (by omega) hC.2.1 (fun y y0 y1 => by rw [v0 y y0 y1]; exact ⟨fun q => q.2, fun q => ⟨by by_cases u : y < x4; exact u; exact absurd q (hC.2.2.1 y (by show 9 ≤ y; omega) y1), q⟩⟩)⟩
    · intro h2
      refine n_aload_n c_40_20 rfl ?_
      refine n_getV (bi := 2) c_40_21 law50.c0.1.n rfl rfl rfl (t_law hS law50).2.2.1 ?_
      intro z3 ez3 f4
      refine n_aload_n c_40_24 rfl ?_
      refine n_iload c_40_25 rfl ?_
      refine n_aload_n c_40_27 rfl ?_
      refine n_getV (bi := 0) c_40_28 law50.c0.1.n rfl rfl rfl (t_law hS law50).1 ?_
      intro z5 ez5 f6
      obtain rfl : z5 = 2 := by omega
      refine n_v2I c_40_31 rfl sc_4.n rfl rfl rfl rfl (widenX2_3 (n := x4) hS (by omega)) ?_
      intro z7 M8 hP9
      obtain ⟨eM, f9, f9p0⟩ := hP9
      subst eM
      refine n_i_ishr c_40_34 rfl ?_
      have f10 := n_shr_r z3 z7
      generalize gz11 : (n_shr z3 z7) = z11 at f10 ⊢
      refine n_iconst c_40_35 ?_
      refine n_i_iand c_40_36 rfl ?_
      have f12 := n_and_y (x := z11) (y := 1) (by omega)
      generalize gz13 : (n_and z11 1) = z13 at f12 ⊢
      have hb36 : z13 = z3 / 2 ^ (z7).toNat % 2 := by rw [← gz13, ← gz11]; exact ib_v (by omega) (by omega)
      refine n_if0_eq c_40_37 (by omega) ?_ ?_
      · intro h14
        refine n_iinc (L2 := [some (2, 50), some (2, 4), some (0, x2), some (0, x3), some (0, (x4 + 1))]) c_40_47 rfl rfl rfl ?_
        refine n_goto c_40_50 ?_
        refine n_fg (le_s (le_s (le_s (le_s (le_s le_0))))) ?_
        exact ih _ _ _ (by omega) (by omega) (by omega) (by have hw1 : bt (M 50 2) (wd 3 2 x4) ↔ bt cu x4 := LRn.bit (by decide) (by decide) hC.2.2.2 (n := x4) ⟨by omega, by show x4 < 9; omega⟩; have eb : bt (M 50 2) (wd 3 2 x4) ↔ z13 = 1 := (by unfold bt; rw [← f9p0]; subst_vars; omega); exact fun y y0 y1 => by rw [v0 y y0 y1]; by_cases u : y = x4; (rw [u]; exact ⟨fun q => by omega, fun q => by have := eb.mp (hw1.mpr q.2); omega⟩); exact ⟨fun q => ⟨by omega, q.2⟩, fun q => ⟨by omega, q.2⟩⟩) (by omega)
      · intro h15
        refine n_iload_n c_40_40 rfl ?_
        refine n_iconst c_40_41 ?_
        refine n_iload c_40_42 rfl ?_
        refine n_i_ishl c_40_44 rfl ?_
        have f16 := n_shl_1 (y := x4) (a := 0) (b := 8) (by decide) (by omega)
        generalize gz17 : (n_shl 1 x4) = z17 at f16 ⊢
        refine n_i_ior c_40_45 rfl ?_
        have f18 := n_or_r x2 z17
        generalize gz19 : (n_or x2 z17) = z19 at f18 ⊢
        have hor := (n_or_bit27 (s := x2) (r := x4) (by omega) (by omega)).1
        rw [gz17, gz19] at hor
        refine n_istore_n (L2 := [some (2, 50), some (2, 4), some (0, z19), some (0, x3), some (0, x4)]) c_40_46 rfl rfl ?_
        refine n_iinc (L2 := [some (2, 50), some (2, 4), some (0, z19), some (0, x3), some (0, (x4 + 1))]) c_40_47 rfl rfl rfl ?_
        refine n_goto c_40_50 ?_
        refine n_fg (le_s (le_s (le_s (le_s (le_s le_0))))) ?_
        exact ih _ _ _ (by omega) (by omega) (by omega) (by have hw1 : bt (M 50 2) (wd 3 2 x4) ↔ bt cu x4 := LRn.bit (by decide) (by decide) hC.2.2.2 (n := x4) ⟨by omega, by show x4 < 9; omega⟩; have eb : bt (M 50 2) (wd 3 2 x4) ↔ z13 = 1 := (by unfold bt; rw [← f9p0]; subst_vars; omega); exact fun y y0 y1 => by rw [← gz19, ← gz17, bt_or (by omega) (by omega) y0, v0 y y0 y1]; by_cases u : y = x4; (rw [u]; exact ⟨fun _ => ⟨by omega, hw1.mp (eb.mpr (by omega))⟩, fun _ => Or.inr rfl⟩); exact ⟨fun q => by rcases q with q | q; exact ⟨by omega, q.2⟩; exact absurd q u, fun q => Or.inl ⟨by omega, q.2⟩⟩) (by omega)
set_option maxHeartbeats 4000000 in
theorem narrowSetX2_3 {xs : List Int32} {e : Nat} {ac : Int} {M0 M : nM} {cu : Int} (hS : Sf 3 ac M0 M) (hk0 : M 50 0 = 2) (hC : CuOk 3 2 cu M) : nW xs (e + 1) 40 0 [some (2, 50), some (2, 4), none, none, none] [] M (nPI fun z M1 => M = M1 ∧ (0 ≤ z ∧ z ≤ 134217727) ∧ (z = cu)) := by
  have hd : (3 : Int) = 2 ∨ (3 : Int) = 3 := by decide
  have hac := hS.2.2.2.2
  have hwr := hC.2.2.2.2.1
  refine n_iconst c_40_0 ?_
  refine n_istore_n (L2 := [some (2, 50), some (2, 4), some (0, 0), none, none]) c_40_1 rfl rfl ?_
  refine n_aload_n c_40_2 rfl ?_
  refine n_aload_n c_40_3 rfl ?_
  refine n_getV (bi := 0) c_40_4 law50.c0.1.n rfl rfl rfl (t_law hS law50).1 ?_
  intro z1 ez1 f2
  obtain rfl : z1 = 2 := by omega
  refine n_v1I c_40_7 rfl sc_4.n rfl rfl rfl rfl (power2_3  hS ) ?_
  intro z3 M4 hP5
  obtain ⟨eM, f5⟩ := hP5
  subst eM
  obtain rfl : z3 = 9 := by omega
  refine n_istore_n (L2 := [some (2, 50), some (2, 4), some (0, 0), some (0, 9), none]) c_40_10 rfl rfl ?_
  refine n_iconst c_40_11 ?_
  refine n_istore (L2 := [some (2, 50), some (2, 4), some (0, 0), some (0, 9), some (0, 0)]) c_40_12 rfl rfl ?_
  refine n_fg (le_s (le_s (le_s (le_s (le_s le_0))))) ?_
  exact (narrowSetX2_3_c hS hk0 hC 32) _ _ _ (by omega) (by omega) (by omega) (by exact fun y y0 y1 => ⟨fun u => absurd u (bt_0 y), fun u => by omega⟩) (by omega)

set_option maxHeartbeats 4000000 in
theorem closedX2_3_c {xs : List Int32} {e : Nat} {ac : Int} {M0 M : nM} {l : Int} {Ms : nM} (hS : Sf 3 ac M0 M) (hl : -2147483648 ≤ l ∧ l ≤ 2147483647) (hms : M = Ms) (hx : ∀ l : Int, 0 ≤ l → l < Ms 3 15 → LawOk 3 (79 + 2 * l) Ms ∧ ∀ y : Int, pw 3 (Ms (79 + 2 * l) 0) ≤ y → y ≤ 26 → ¬ bt (Ms (79 + 2 * l) 1) y) (ha : ∀ a : Int, 0 ≤ a → a < Ms 3 14 → ActOk 3 (55 + 3 * a) Ms) (hkk : 0 ≤ l → l < Ms 3 15 → Ms (79 + 2 * l) 0 = 2) (hsb : ∀ l : Int, 0 ≤ l → l < Ms 3 15 → 0 ≤ Ms (79 + 2 * l) 1 ∧ Ms (79 + 2 * l) 1 ≤ 134217727) : ∀ nn : Nat, (∀ (x2 x3 : Int) (M : nM), Sf 3 ac M0 M → (0 ≤ x2 ∧ x2 ≤ 1) → (0 ≤ x3 ∧ x3 ≤ 28) → (CI 3 2 (Ms (79 + 2 * l) 1) Ms M (fun cu => (x2 = 0 → KPn 3 Ms 2 (Ms 3 14) cu) ∧ (x2 = 1 → x3 ≤ M 50 3))) → (0 ≤ l ∧ l < Ms 3 15) → (28 - x3) * 11 + 11 < (nn : Int) → nW xs (e + 3) 102 45 [some (2, 3), none, some (0, x2), some (0, x3), none] [] M (nPJ fun z M1 => Sf 3 ac M0 M1 ∧ (-9223372036854775808 ≤ z ∧ z ≤ 9223372036854775807) ∧ (cCl 3 l z Ms))) ∧ (∀ (x2 x3 x4 : Int) (M : nM), Sf 3 ac M0 M → (0 ≤ x2 ∧ x2 ≤ 1) → (0 ≤ x3 ∧ x3 ≤ 27) → (0 ≤ x4 ∧ x4 ≤ 8) → (CI 3 2 (Ms (79 + 2 * l) 1) Ms M (fun cu => (x2 = 0 → KPn 3 Ms 2 x4 cu) ∧ x3 ≤ M 50 3 ∧ (x2 = 1 → x3 + 1 ≤ M 50 3))) → (0 ≤ l ∧ l < Ms 3 15) → (28 - x3) * 11 + (8 - x4) * 1 + 1 < (nn : Int) → nW xs (e + 3) 102 60 [some (2, 3), none, some (0, x2), some (0, x3), some (0, x4)] [] M (nPJ fun z M1 => Sf 3 ac M0 M1 ∧ (-9223372036854775808 ≤ z ∧ z ≤ 9223372036854775807) ∧ (cCl 3 l z Ms))) := by
  have hd : (3 : Int) = 2 ∨ (3 : Int) = 3 := by decide
  have hac := hS.2.2.2.2
  intro nn
  induction nn with
  | zero => refine ⟨?_, ?_⟩ <;> (intros; omega)
  | succ nn ih =>
    refine ⟨?_, ?_⟩
    · intro x2 x3 M hS k2 k3 v0 v1 hnn
      obtain ⟨cu, c1, c2, c3, c4, c5, c6, c7⟩ := v0
      refine n_iload_n c_102_45 rfl ?_
      refine n_bipush c_102_46 rfl ?_
      refine n_if2_gt c_102_48 (by omega) (by omega) ?_ ?_
      · intro h1
        refine n_aload_n c_102_106 rfl ?_
        refine n_getR c_102_107 sc_3.n rfl rfl rfl r_3_11 ?_
        refine n_aload_n c_102_110 rfl ?_
        refine n_getR c_102_111 sc_3.n rfl rfl rfl r_3_0 ?_
        refine n_v1I c_102_114 rfl law50.c0.1.n rfl rfl rfl rfl (narrowSetX2_3 (cu := cu) hS (by omega) (by exact c1)) ?_
        intro z2 M3 hP4
        obtain ⟨eM, f4, f4p0⟩ := hP4
        subst eM
        refine n_i2l c_102_117 (by omega) ?_
        exact n_rJ c_102_118 rfl ⟨hS, by omega, by have x0 : x2 = 0 := (by by_cases u : x2 = 0; exact u; have := c7 (by omega); have := (t_law hS law50).2.2.2; omega); have ez := f4p0; rw [ez]; exact Or.inr ⟨v1.1, v1.2, c1.2.1, fun y y0 y1 => c1.2.2.1 y (by rw [hkk v1.1 v1.2] at y0; exact y0) y1, c2, by rw [hkk v1.1 v1.2]; exact c6 x0, by rw [hkk v1.1 v1.2]; exact c3⟩⟩
      · intro h5
        refine n_iload_n c_102_51 rfl ?_
        refine n_if0_eq c_102_52 (by omega) ?_ ?_
        · intro h6
          refine n_aload_n c_102_106 rfl ?_
          refine n_getR c_102_107 sc_3.n rfl rfl rfl r_3_11 ?_
          refine n_aload_n c_102_110 rfl ?_
          refine n_getR c_102_111 sc_3.n rfl rfl rfl r_3_0 ?_
          refine n_v1I c_102_114 rfl law50.c0.1.n rfl rfl rfl rfl (narrowSetX2_3 (cu := cu) hS (by omega) (by exact c1)) ?_
          intro z7 M8 hP9
          obtain ⟨eM, f9, f9p0⟩ := hP9
          subst eM
          refine n_i2l c_102_117 (by omega) ?_
          exact n_rJ c_102_118 rfl ⟨hS, by omega, by have x0 : x2 = 0 := (by by_cases u : x2 = 0; exact u; have := c7 (by omega); have := (t_law hS law50).2.2.2; omega); have ez := f9p0; rw [ez]; exact Or.inr ⟨v1.1, v1.2, c1.2.1, fun y y0 y1 => c1.2.2.1 y (by rw [hkk v1.1 v1.2] at y0; exact y0) y1, c2, by rw [hkk v1.1 v1.2]; exact c6 x0, by rw [hkk v1.1 v1.2]; exact c3⟩⟩
        · intro h10
          refine n_iconst c_102_55 ?_
          refine n_istore_n (L2 := [some (2, 3), none, some (0, 0), some (0, x3), none]) c_102_56 rfl rfl ?_
          refine n_iconst c_102_57 ?_
          refine n_istore (L2 := [some (2, 3), none, some (0, 0), some (0, x3), some (0, 0)]) c_102_58 rfl rfl ?_
          refine n_fg (le_s (le_n (le_s (le_s (le_s le_0))))) ?_
          exact ih.2 _ _ _ M hS (by omega) (by omega) (by omega) (by exact ⟨cu, c1, c2, c3, c4, c5, fun u a a0 a1 => by omega, by have := c7 (by omega); omega, fun u => by omega⟩) (by exact v1) (by omega)
    · intro x2 x3 x4 M hS k2 k3 k4 v0 v1 hnn
      obtain ⟨cu, c1, c2, c3, c4, c5, c6, c7, c8⟩ := v0
      refine n_iload c_102_60 rfl ?_
      refine n_aload_n c_102_62 rfl ?_
      refine n_getV (bi := 14) c_102_63 sc_3.n rfl rfl rfl (t_3_14x hS) ?_
      intro z1 ez1 f2
      have f2a := t_ac hS
      refine n_if2_ge c_102_66 (by omega) (by omega) ?_ ?_
      · intro h3
        refine n_iinc (L2 := [some (2, 3), none, some (0, x2), some (0, (x3 + 1)), some (0, x4)]) c_102_100 rfl rfl rfl ?_
        refine n_goto c_102_103 ?_
        refine n_fg (le_s (le_n (le_s (le_s (le_n le_0))))) ?_
        exact ih.1 _ _ M hS (by omega) (by omega) (by exact ⟨cu, c1, c2, c3, c4, c5, fun u a a0 a1 => c6 u a a0 (by have n14 := c4 3 14 (by omega); have t14 := t_ac hS; omega), fun u => by have := c8 u; omega⟩) (by exact v1) (by omega)
      · intro h4
        refine n_iload_n c_102_69 rfl ?_
        refine n_aload_n c_102_70 rfl ?_
        refine n_getR c_102_71 sc_3.n rfl rfl rfl r_3_11 ?_
        refine n_aload_n c_102_74 rfl ?_
        refine n_getR c_102_75 sc_3.n rfl rfl rfl r_3_2 ?_
        refine n_iload c_102_78 rfl ?_
        refine n_aaload c_102_80 sc_12.n rfl rfl rfl (by omega) (r_acts _) ?_
        have q5 : ActAt (55 + 3 * x4) := by unfold ActAt; omega
        have q5l : (55 + 3 * x4) < 55 + 3 * ac := by omega
        refine n_aload_n c_102_81 rfl ?_
        refine n_getR c_102_82 sc_3.n rfl rfl rfl r_3_0 ?_
        refine n_aload_n c_102_85 rfl ?_
        refine n_getR c_102_86 sc_3.n rfl rfl rfl r_3_12 ?_
        refine n_v3I c_102_89 rfl law50.c0.1.n rfl rfl rfl rfl (growsByX_3 (p := (55 + 3 * x4)) (Ms := M) (cu := cu) hS q5 q5l (by rfl) (by rw [c5]; exact c1) (by exact ActOk.of (ha x4 (by omega) (by have n14 := c4 3 14 (by omega); have t14 := t_ac hS; omega)) (fun a i u1 u2 => c4 a i (by omega)))) ?_
        intro z6 M7 hP8
        obtain ⟨hS7, f8, f8p0⟩ := hP8
        refine n_i_ior c_102_92 rfl ?_
        have f9 := n_or_1 (x := x2) (y := z6) (by omega) (by omega)
        generalize gz10 : (n_or x2 z6) = z10 at f9 ⊢
        refine n_istore_n (L2 := [some (2, 3), none, some (0, z10), some (0, x3), some (0, x4)]) c_102_93 rfl rfl ?_
        refine n_iinc (L2 := [some (2, 3), none, some (0, z10), some (0, x3), some (0, (x4 + 1))]) c_102_94 rfl rfl rfl ?_
        refine n_goto c_102_97 ?_
        refine n_fg (le_s (le_n (le_s (le_s (le_s le_0))))) ?_
        exact ih.2 _ _ _ M7 hS7 (by omega) (by omega) (by omega) (by rw [← gz10]; exact CI.grow (a := x4) (by have n14 := c4 3 14 (by omega); have t14 := t_ac hS; omega) (by have n14 := c4 3 14 (by omega); have t14 := t_3_14x hS; omega) (by omega) (by omega) c1 c2 c3 c4 c5 c6 c7 c8 f8p0) (by exact v1) (by omega)
set_option maxHeartbeats 4000000 in
theorem closedX2_3 {xs : List Int32} {e : Nat} {ac : Int} {M0 M : nM} {l : Int} {Ms : nM} (hS : Sf 3 ac M0 M) (hl : -2147483648 ≤ l ∧ l ≤ 2147483647) (hms : M = Ms) (hx : ∀ l : Int, 0 ≤ l → l < Ms 3 15 → LawOk 3 (79 + 2 * l) Ms ∧ ∀ y : Int, pw 3 (Ms (79 + 2 * l) 0) ≤ y → y ≤ 26 → ¬ bt (Ms (79 + 2 * l) 1) y) (ha : ∀ a : Int, 0 ≤ a → a < Ms 3 14 → ActOk 3 (55 + 3 * a) Ms) (hkk : 0 ≤ l → l < Ms 3 15 → Ms (79 + 2 * l) 0 = 2) (hsb : ∀ l : Int, 0 ≤ l → l < Ms 3 15 → 0 ≤ Ms (79 + 2 * l) 1 ∧ Ms (79 + 2 * l) 1 ≤ 134217727) : nW xs (e + 3) 102 0 [some (2, 3), some (0, l), none, none, none] [] M (nPJ fun z M1 => Sf 3 ac M0 M1 ∧ (-9223372036854775808 ≤ z ∧ z ≤ 9223372036854775807) ∧ (cCl 3 l z Ms)) := by
  have hd : (3 : Int) = 2 ∨ (3 : Int) = 3 := by decide
  have hac := hS.2.2.2.2
  refine n_aload_n c_102_0 rfl ?_
  refine n_iload_n c_102_1 rfl ?_
  refine n_v1I c_102_2 rfl sc_3.n rfl rfl rfl rfl (isLawF_3 (l := l) hS (by omega)) ?_
  intro z1 M2 hP3
  obtain ⟨eM, f3, f3p0⟩ := hP3
  subst eM
  refine n_if0_ne c_102_5 (by omega) ?_ ?_
  · intro h4
    refine n_aload_n c_102_12 rfl ?_
    refine n_getR c_102_13 sc_3.n rfl rfl rfl r_3_11 ?_
    refine n_aload_n c_102_16 rfl ?_
    refine n_getR c_102_17 sc_3.n rfl rfl rfl r_3_3 ?_
    refine n_iload_n c_102_20 rfl ?_
    refine n_aaload c_102_21 sc_13.n rfl rfl rfl (by omega) (r_laws _) ?_
    have q5 : LawAt (79 + 2 * l) := by unfold LawAt; omega
    refine n_getV (bi := 0) c_102_22 q5.c0.1.n rfl rfl rfl (t_law hS q5).1 ?_
    intro z6 ez6 f7
    have q22 : M (79 + 2 * l) 0 = 2 := by rw [hms]; exact hkk (by omega) (by rw [← hms]; omega)
    obtain rfl : z6 = 2 := by omega
    refine n_aload_n c_102_25 rfl ?_
    refine n_getR c_102_26 sc_3.n rfl rfl rfl r_3_3 ?_
    refine n_iload_n c_102_29 rfl ?_
    refine n_aaload c_102_30 sc_13.n rfl rfl rfl (by omega) (r_laws _) ?_
    have q8 : LawAt (79 + 2 * l) := by unfold LawAt; omega
    refine n_getV (bi := 1) c_102_31 q8.c0.1.n rfl rfl rfl (t_law hS q8).2.1 ?_
    intro z9 ez9 f10
    have q31 : z9 = Ms (79 + 2 * l) 1 := by rw [ez9, hms]
    have hst := hsb l (by omega) (by rw [← hms]; omega)
    have hl0 : 0 ≤ l ∧ l < Ms 3 15 := ⟨by omega, by rw [← hms]; omega⟩
    refine n_aload_n c_102_34 rfl ?_
    refine n_getR c_102_35 sc_3.n rfl rfl rfl r_3_0 ?_
    refine n_v3V c_102_38 rfl law50.c0.1.n rfl rfl rfl rfl (takeSY2_3 (s := z9) (Ms := M) hS (by omega) (by rfl)) ?_
    intro  M11 hP12
    obtain ⟨hS11, f12p0, f12p1, f12p2⟩ := hP12
    refine n_iconst c_102_41 ?_
    refine n_istore_n (L2 := [some (2, 3), some (0, l), some (0, 1), none, none]) c_102_42 rfl rfl ?_
    refine n_iconst c_102_43 ?_
    refine n_istore_n (L2 := [some (2, 3), some (0, l), some (0, 1), some (0, 0), none]) c_102_44 rfl rfl ?_
    refine n_fg (le_s (le_n (le_s (le_s (le_n le_0))))) ?_
    exact (closedX2_3_c hS hl hms hx ha hkk hsb 670).1 _ _ M11 hS11 (by omega) (by omega) (by exact ⟨z9, ⟨by decide, by omega, fun y y0 y1 => by rw [q31]; exact (hx l hl0.1 hl0.2).2 y (by rw [hkk hl0.1 hl0.2]; exact y0) y1, f12p1⟩, fun _ _ _ q => by rw [q31]; exact q, fun t t1 _ => by rw [q31]; exact t1, fun a i u => by rw [f12p2 a i (by omega), hms], f12p0.1, fun u => by omega, fun _ => by have := (t_law hS11 law50).2.2.2; omega⟩) (by exact hl0) (by omega)
  · intro h13
    refine n_ldc2 (n := (-1)) c_102_8 rfl ?_
    exact n_rJ c_102_11 rfl ⟨hS, by omega, by exact Or.inl ⟨by rw [← hms]; omega, rfl⟩⟩

set_option maxHeartbeats 4000000 in
theorem narrowSetX3_3_c {xs : List Int32} {e : Nat} {ac : Int} {M0 M : nM} {cu : Int} (hS : Sf 3 ac M0 M) (hk0 : M 50 0 = 3) (hC : CuOk 3 3 cu M) : ∀ nn : Nat, (∀ (x2 x3 x4 : Int), (0 ≤ x2 ∧ x2 ≤ 134217727) → (27 ≤ x3 ∧ x3 ≤ 27) → (0 ≤ x4 ∧ x4 ≤ 27) → (∀ y : Int, 0 ≤ y → y ≤ 26 → (bt x2 y ↔ y < x4 ∧ bt cu y)) → (27 - x4) * 1 + 1 < (nn : Int) → nW xs (e + 1) 40 14 [some (2, 50), some (2, 4), some (0, x2), some (0, x3), some (0, x4)] [] M (nPI fun z M1 => M = M1 ∧ (0 ≤ z ∧ z ≤ 134217727) ∧ (z = cu))) := by
  have hd : (3 : Int) = 2 ∨ (3 : Int) = 3 := by decide
  have hac := hS.2.2.2.2
  have hwr := hC.2.2.2.2.1
  intro nn
  induction nn with
  | zero => intros; omega
  | succ nn ih =>
    intro x2 x3 x4 k2 k3 k4 v0 hnn
    refine n_iload c_40_14 rfl ?_
    refine n_iload_n c_40_16 rfl ?_
    refine n_if2_ge c_40_17 (by omega) (by omega) ?_ ?_
    · intro h1
      refine n_iload_n c_40_53 rfl ?_
      exact n_rI c_40_54 rfl ⟨rfl, by omega, by exact bt_ext (by omega) hC.2.1 (fun y y0 y1 => by rw [v0 y y0 y1]; exact ⟨fun q => q.2, fun q => ⟨by by_cases u : y < x4; exact u; exact absurd q (hC.2.2.1 y (by show 27 ≤ y; omega) y1), q⟩⟩)⟩
    · intro h2
      refine n_aload_n c_40_20 rfl ?_
      refine n_getV (bi := 2) c_40_21 law50.c0.1.n rfl rfl rfl (t_law hS law50).2.2.1 ?_
      intro z3 ez3 f4
      refine n_aload_n c_40_24 rfl ?_
      refine n_iload c_40_25 rfl ?_
      refine n_aload_n c_40_27 rfl ?_
      refine n_getV (bi := 0) c_40_28 law50.c0.1.n rfl rfl rfl (t_law hS law50).1 ?_
      intro z5 ez5 f6
      obtain rfl : z5 = 3 := by omega
      refine n_v2I c_40_31 rfl sc_4.n rfl rfl rfl rfl (widenX3_3 (n := x4) hS (by omega)) ?_
      intro z7 M8 hP9
      obtain ⟨eM, f9, f9p0⟩ := hP9
      subst eM
      refine n_i_ishr c_40_34 rfl ?_
      have f10 := n_shr_r z3 z7
      generalize gz11 : (n_shr z3 z7) = z11 at f10 ⊢
      refine n_iconst c_40_35 ?_
      refine n_i_iand c_40_36 rfl ?_
      have f12 := n_and_y (x := z11) (y := 1) (by omega)
      generalize gz13 : (n_and z11 1) = z13 at f12 ⊢
      have hb36 : z13 = z3 / 2 ^ (z7).toNat % 2 := by rw [← gz13, ← gz11]; exact ib_v (by omega) (by omega)
      refine n_if0_eq c_40_37 (by omega) ?_ ?_
      · intro h14
        refine n_iinc (L2 := [some (2, 50), some (2, 4), some (0, x2), some (0, x3), some (0, (x4 + 1))]) c_40_47 rfl rfl rfl ?_
        refine n_goto c_40_50 ?_
        refine n_fg (le_s (le_s (le_s (le_s (le_s le_0))))) ?_
        exact ih _ _ _ (by omega) (by omega) (by omega) (by have hw1 : bt (M 50 2) (wd 3 3 x4) ↔ bt cu x4 := LRn.bit (by decide) (by decide) hC.2.2.2 (n := x4) ⟨by omega, by show x4 < 27; omega⟩; have eb : bt (M 50 2) (wd 3 3 x4) ↔ z13 = 1 := (by unfold bt; rw [← f9p0]; subst_vars; omega); exact fun y y0 y1 => by rw [v0 y y0 y1]; by_cases u : y = x4; (rw [u]; exact ⟨fun q => by omega, fun q => by have := eb.mp (hw1.mpr q.2); omega⟩); exact ⟨fun q => ⟨by omega, q.2⟩, fun q => ⟨by omega, q.2⟩⟩) (by omega)
      · intro h15
        refine n_iload_n c_40_40 rfl ?_
        refine n_iconst c_40_41 ?_
        refine n_iload c_40_42 rfl ?_
        refine n_i_ishl c_40_44 rfl ?_
        have f16 := n_shl_1 (y := x4) (a := 0) (b := 26) (by decide) (by omega)
        generalize gz17 : (n_shl 1 x4) = z17 at f16 ⊢
        refine n_i_ior c_40_45 rfl ?_
        have f18 := n_or_r x2 z17
        generalize gz19 : (n_or x2 z17) = z19 at f18 ⊢
        have hor := (n_or_bit27 (s := x2) (r := x4) (by omega) (by omega)).1
        rw [gz17, gz19] at hor
        refine n_istore_n (L2 := [some (2, 50), some (2, 4), some (0, z19), some (0, x3), some (0, x4)]) c_40_46 rfl rfl ?_
        refine n_iinc (L2 := [some (2, 50), some (2, 4), some (0, z19), some (0, x3), some (0, (x4 + 1))]) c_40_47 rfl rfl rfl ?_
        refine n_goto c_40_50 ?_
        refine n_fg (le_s (le_s (le_s (le_s (le_s le_0))))) ?_
        exact ih _ _ _ (by omega) (by omega) (by omega) (by have hw1 : bt (M 50 2) (wd 3 3 x4) ↔ bt cu x4 := LRn.bit (by decide) (by decide) hC.2.2.2 (n := x4) ⟨by omega, by show x4 < 27; omega⟩; have eb : bt (M 50 2) (wd 3 3 x4) ↔ z13 = 1 := (by unfold bt; rw [← f9p0]; subst_vars; omega); exact fun y y0 y1 => by rw [← gz19, ← gz17, bt_or (by omega) (by omega) y0, v0 y y0 y1]; by_cases u : y = x4; (rw [u]; exact ⟨fun _ => ⟨by omega, hw1.mp (eb.mpr (by omega))⟩, fun _ => Or.inr rfl⟩); exact ⟨fun q => by rcases q with q | q; exact ⟨by omega, q.2⟩; exact absurd q u, fun q => Or.inl ⟨by omega, q.2⟩⟩) (by omega)
set_option maxHeartbeats 4000000 in
theorem narrowSetX3_3 {xs : List Int32} {e : Nat} {ac : Int} {M0 M : nM} {cu : Int} (hS : Sf 3 ac M0 M) (hk0 : M 50 0 = 3) (hC : CuOk 3 3 cu M) : nW xs (e + 1) 40 0 [some (2, 50), some (2, 4), none, none, none] [] M (nPI fun z M1 => M = M1 ∧ (0 ≤ z ∧ z ≤ 134217727) ∧ (z = cu)) := by
  have hd : (3 : Int) = 2 ∨ (3 : Int) = 3 := by decide
  have hac := hS.2.2.2.2
  have hwr := hC.2.2.2.2.1
  refine n_iconst c_40_0 ?_
  refine n_istore_n (L2 := [some (2, 50), some (2, 4), some (0, 0), none, none]) c_40_1 rfl rfl ?_
  refine n_aload_n c_40_2 rfl ?_
  refine n_aload_n c_40_3 rfl ?_
  refine n_getV (bi := 0) c_40_4 law50.c0.1.n rfl rfl rfl (t_law hS law50).1 ?_
  intro z1 ez1 f2
  obtain rfl : z1 = 3 := by omega
  refine n_v1I c_40_7 rfl sc_4.n rfl rfl rfl rfl (power3_3  hS ) ?_
  intro z3 M4 hP5
  obtain ⟨eM, f5⟩ := hP5
  subst eM
  obtain rfl : z3 = 27 := by omega
  refine n_istore_n (L2 := [some (2, 50), some (2, 4), some (0, 0), some (0, 27), none]) c_40_10 rfl rfl ?_
  refine n_iconst c_40_11 ?_
  refine n_istore (L2 := [some (2, 50), some (2, 4), some (0, 0), some (0, 27), some (0, 0)]) c_40_12 rfl rfl ?_
  refine n_fg (le_s (le_s (le_s (le_s (le_s le_0))))) ?_
  exact (narrowSetX3_3_c hS hk0 hC 68) _ _ _ (by omega) (by omega) (by omega) (by exact fun y y0 y1 => ⟨fun u => absurd u (bt_0 y), fun u => by omega⟩) (by omega)

set_option maxHeartbeats 4000000 in
theorem closedX3_3_c {xs : List Int32} {e : Nat} {ac : Int} {M0 M : nM} {l : Int} {Ms : nM} (hS : Sf 3 ac M0 M) (hl : -2147483648 ≤ l ∧ l ≤ 2147483647) (hms : M = Ms) (hx : ∀ l : Int, 0 ≤ l → l < Ms 3 15 → LawOk 3 (79 + 2 * l) Ms ∧ ∀ y : Int, pw 3 (Ms (79 + 2 * l) 0) ≤ y → y ≤ 26 → ¬ bt (Ms (79 + 2 * l) 1) y) (ha : ∀ a : Int, 0 ≤ a → a < Ms 3 14 → ActOk 3 (55 + 3 * a) Ms) (hkk : 0 ≤ l → l < Ms 3 15 → Ms (79 + 2 * l) 0 = 3) (hsb : ∀ l : Int, 0 ≤ l → l < Ms 3 15 → 0 ≤ Ms (79 + 2 * l) 1 ∧ Ms (79 + 2 * l) 1 ≤ 134217727) : ∀ nn : Nat, (∀ (x2 x3 : Int) (M : nM), Sf 3 ac M0 M → (0 ≤ x2 ∧ x2 ≤ 1) → (0 ≤ x3 ∧ x3 ≤ 28) → (CI 3 3 (Ms (79 + 2 * l) 1) Ms M (fun cu => (x2 = 0 → KPn 3 Ms 3 (Ms 3 14) cu) ∧ (x2 = 1 → x3 ≤ M 50 3))) → (0 ≤ l ∧ l < Ms 3 15) → (28 - x3) * 11 + 11 < (nn : Int) → nW xs (e + 3) 102 45 [some (2, 3), none, some (0, x2), some (0, x3), none] [] M (nPJ fun z M1 => Sf 3 ac M0 M1 ∧ (-9223372036854775808 ≤ z ∧ z ≤ 9223372036854775807) ∧ (cCl 3 l z Ms))) ∧ (∀ (x2 x3 x4 : Int) (M : nM), Sf 3 ac M0 M → (0 ≤ x2 ∧ x2 ≤ 1) → (0 ≤ x3 ∧ x3 ≤ 27) → (0 ≤ x4 ∧ x4 ≤ 8) → (CI 3 3 (Ms (79 + 2 * l) 1) Ms M (fun cu => (x2 = 0 → KPn 3 Ms 3 x4 cu) ∧ x3 ≤ M 50 3 ∧ (x2 = 1 → x3 + 1 ≤ M 50 3))) → (0 ≤ l ∧ l < Ms 3 15) → (28 - x3) * 11 + (8 - x4) * 1 + 1 < (nn : Int) → nW xs (e + 3) 102 60 [some (2, 3), none, some (0, x2), some (0, x3), some (0, x4)] [] M (nPJ fun z M1 => Sf 3 ac M0 M1 ∧ (-9223372036854775808 ≤ z ∧ z ≤ 9223372036854775807) ∧ (cCl 3 l z Ms))) := by
  have hd : (3 : Int) = 2 ∨ (3 : Int) = 3 := by decide
  have hac := hS.2.2.2.2
  intro nn
  induction nn with
  | zero => refine ⟨?_, ?_⟩ <;> (intros; omega)
  | succ nn ih =>
    refine ⟨?_, ?_⟩
    · intro x2 x3 M hS k2 k3 v0 v1 hnn
      obtain ⟨cu, c1, c2, c3, c4, c5, c6, c7⟩ := v0
      refine n_iload_n c_102_45 rfl ?_
      refine n_bipush c_102_46 rfl ?_
      refine n_if2_gt c_102_48 (by omega) (by omega) ?_ ?_
      · intro h1
        refine n_aload_n c_102_106 rfl ?_
        refine n_getR c_102_107 sc_3.n rfl rfl rfl r_3_11 ?_
        refine n_aload_n c_102_110 rfl ?_
        refine n_getR c_102_111 sc_3.n rfl rfl rfl r_3_0 ?_
        refine n_v1I c_102_114 rfl law50.c0.1.n rfl rfl rfl rfl (narrowSetX3_3 (cu := cu) hS (by omega) (by exact c1)) ?_
        intro z2 M3 hP4
        obtain ⟨eM, f4, f4p0⟩ := hP4
        subst eM
        refine n_i2l c_102_117 (by omega) ?_
        exact n_rJ c_102_118 rfl ⟨hS, by omega, by have x0 : x2 = 0 := (by by_cases u : x2 = 0; exact u; have := c7 (by omega); have := (t_law hS law50).2.2.2; omega); have ez := f4p0; rw [ez]; exact Or.inr ⟨v1.1, v1.2, c1.2.1, fun y y0 y1 => c1.2.2.1 y (by rw [hkk v1.1 v1.2] at y0; exact y0) y1, c2, by rw [hkk v1.1 v1.2]; exact c6 x0, by rw [hkk v1.1 v1.2]; exact c3⟩⟩
      · intro h5
        refine n_iload_n c_102_51 rfl ?_
        refine n_if0_eq c_102_52 (by omega) ?_ ?_
        · intro h6
          refine n_aload_n c_102_106 rfl ?_
          refine n_getR c_102_107 sc_3.n rfl rfl rfl r_3_11 ?_
          refine n_aload_n c_102_110 rfl ?_
          refine n_getR c_102_111 sc_3.n rfl rfl rfl r_3_0 ?_
          refine n_v1I c_102_114 rfl law50.c0.1.n rfl rfl rfl rfl (narrowSetX3_3 (cu := cu) hS (by omega) (by exact c1)) ?_
          intro z7 M8 hP9
          obtain ⟨eM, f9, f9p0⟩ := hP9
          subst eM
          refine n_i2l c_102_117 (by omega) ?_
          exact n_rJ c_102_118 rfl ⟨hS, by omega, by have x0 : x2 = 0 := (by by_cases u : x2 = 0; exact u; have := c7 (by omega); have := (t_law hS law50).2.2.2; omega); have ez := f9p0; rw [ez]; exact Or.inr ⟨v1.1, v1.2, c1.2.1, fun y y0 y1 => c1.2.2.1 y (by rw [hkk v1.1 v1.2] at y0; exact y0) y1, c2, by rw [hkk v1.1 v1.2]; exact c6 x0, by rw [hkk v1.1 v1.2]; exact c3⟩⟩
        · intro h10
          refine n_iconst c_102_55 ?_
          refine n_istore_n (L2 := [some (2, 3), none, some (0, 0), some (0, x3), none]) c_102_56 rfl rfl ?_
          refine n_iconst c_102_57 ?_
          refine n_istore (L2 := [some (2, 3), none, some (0, 0), some (0, x3), some (0, 0)]) c_102_58 rfl rfl ?_
          refine n_fg (le_s (le_n (le_s (le_s (le_s le_0))))) ?_
          exact ih.2 _ _ _ M hS (by omega) (by omega) (by omega) (by exact ⟨cu, c1, c2, c3, c4, c5, fun u a a0 a1 => by omega, by have := c7 (by omega); omega, fun u => by omega⟩) (by exact v1) (by omega)
    · intro x2 x3 x4 M hS k2 k3 k4 v0 v1 hnn
      obtain ⟨cu, c1, c2, c3, c4, c5, c6, c7, c8⟩ := v0
      refine n_iload c_102_60 rfl ?_
      refine n_aload_n c_102_62 rfl ?_
      refine n_getV (bi := 14) c_102_63 sc_3.n rfl rfl rfl (t_3_14x hS) ?_
      intro z1 ez1 f2
      have f2a := t_ac hS
      refine n_if2_ge c_102_66 (by omega) (by omega) ?_ ?_
      · intro h3
        refine n_iinc (L2 := [some (2, 3), none, some (0, x2), some (0, (x3 + 1)), some (0, x4)]) c_102_100 rfl rfl rfl ?_
        refine n_goto c_102_103 ?_
        refine n_fg (le_s (le_n (le_s (le_s (le_n le_0))))) ?_
        exact ih.1 _ _ M hS (by omega) (by omega) (by exact ⟨cu, c1, c2, c3, c4, c5, fun u a a0 a1 => c6 u a a0 (by have n14 := c4 3 14 (by omega); have t14 := t_ac hS; omega), fun u => by have := c8 u; omega⟩) (by exact v1) (by omega)
      · intro h4
        refine n_iload_n c_102_69 rfl ?_
        refine n_aload_n c_102_70 rfl ?_
        refine n_getR c_102_71 sc_3.n rfl rfl rfl r_3_11 ?_
        refine n_aload_n c_102_74 rfl ?_
        refine n_getR c_102_75 sc_3.n rfl rfl rfl r_3_2 ?_
        refine n_iload c_102_78 rfl ?_
        refine n_aaload c_102_80 sc_12.n rfl rfl rfl (by omega) (r_acts _) ?_
        have q5 : ActAt (55 + 3 * x4) := by unfold ActAt; omega
        have q5l : (55 + 3 * x4) < 55 + 3 * ac := by omega
        refine n_aload_n c_102_81 rfl ?_
        refine n_getR c_102_82 sc_3.n rfl rfl rfl r_3_0 ?_
        refine n_aload_n c_102_85 rfl ?_
        refine n_getR c_102_86 sc_3.n rfl rfl rfl r_3_12 ?_
        refine n_v3I c_102_89 rfl law50.c0.1.n rfl rfl rfl rfl (growsByX_3 (p := (55 + 3 * x4)) (Ms := M) (cu := cu) hS q5 q5l (by rfl) (by rw [c5]; exact c1) (by exact ActOk.of (ha x4 (by omega) (by have n14 := c4 3 14 (by omega); have t14 := t_ac hS; omega)) (fun a i u1 u2 => c4 a i (by omega)))) ?_
        intro z6 M7 hP8
        obtain ⟨hS7, f8, f8p0⟩ := hP8
        refine n_i_ior c_102_92 rfl ?_
        have f9 := n_or_1 (x := x2) (y := z6) (by omega) (by omega)
        generalize gz10 : (n_or x2 z6) = z10 at f9 ⊢
        refine n_istore_n (L2 := [some (2, 3), none, some (0, z10), some (0, x3), some (0, x4)]) c_102_93 rfl rfl ?_
        refine n_iinc (L2 := [some (2, 3), none, some (0, z10), some (0, x3), some (0, (x4 + 1))]) c_102_94 rfl rfl rfl ?_
        refine n_goto c_102_97 ?_
        refine n_fg (le_s (le_n (le_s (le_s (le_s le_0))))) ?_
        exact ih.2 _ _ _ M7 hS7 (by omega) (by omega) (by omega) (by rw [← gz10]; exact CI.grow (a := x4) (by have n14 := c4 3 14 (by omega); have t14 := t_ac hS; omega) (by have n14 := c4 3 14 (by omega); have t14 := t_3_14x hS; omega) (by omega) (by omega) c1 c2 c3 c4 c5 c6 c7 c8 f8p0) (by exact v1) (by omega)
set_option maxHeartbeats 4000000 in
theorem closedX3_3 {xs : List Int32} {e : Nat} {ac : Int} {M0 M : nM} {l : Int} {Ms : nM} (hS : Sf 3 ac M0 M) (hl : -2147483648 ≤ l ∧ l ≤ 2147483647) (hms : M = Ms) (hx : ∀ l : Int, 0 ≤ l → l < Ms 3 15 → LawOk 3 (79 + 2 * l) Ms ∧ ∀ y : Int, pw 3 (Ms (79 + 2 * l) 0) ≤ y → y ≤ 26 → ¬ bt (Ms (79 + 2 * l) 1) y) (ha : ∀ a : Int, 0 ≤ a → a < Ms 3 14 → ActOk 3 (55 + 3 * a) Ms) (hkk : 0 ≤ l → l < Ms 3 15 → Ms (79 + 2 * l) 0 = 3) (hsb : ∀ l : Int, 0 ≤ l → l < Ms 3 15 → 0 ≤ Ms (79 + 2 * l) 1 ∧ Ms (79 + 2 * l) 1 ≤ 134217727) : nW xs (e + 3) 102 0 [some (2, 3), some (0, l), none, none, none] [] M (nPJ fun z M1 => Sf 3 ac M0 M1 ∧ (-9223372036854775808 ≤ z ∧ z ≤ 9223372036854775807) ∧ (cCl 3 l z Ms)) := by
  have hd : (3 : Int) = 2 ∨ (3 : Int) = 3 := by decide
  have hac := hS.2.2.2.2
  refine n_aload_n c_102_0 rfl ?_
  refine n_iload_n c_102_1 rfl ?_
  refine n_v1I c_102_2 rfl sc_3.n rfl rfl rfl rfl (isLawF_3 (l := l) hS (by omega)) ?_
  intro z1 M2 hP3
  obtain ⟨eM, f3, f3p0⟩ := hP3
  subst eM
  refine n_if0_ne c_102_5 (by omega) ?_ ?_
  · intro h4
    refine n_aload_n c_102_12 rfl ?_
    refine n_getR c_102_13 sc_3.n rfl rfl rfl r_3_11 ?_
    refine n_aload_n c_102_16 rfl ?_
    refine n_getR c_102_17 sc_3.n rfl rfl rfl r_3_3 ?_
    refine n_iload_n c_102_20 rfl ?_
    refine n_aaload c_102_21 sc_13.n rfl rfl rfl (by omega) (r_laws _) ?_
    have q5 : LawAt (79 + 2 * l) := by unfold LawAt; omega
    refine n_getV (bi := 0) c_102_22 q5.c0.1.n rfl rfl rfl (t_law hS q5).1 ?_
    intro z6 ez6 f7
    have q22 : M (79 + 2 * l) 0 = 3 := by rw [hms]; exact hkk (by omega) (by rw [← hms]; omega)
    obtain rfl : z6 = 3 := by omega
    refine n_aload_n c_102_25 rfl ?_
    refine n_getR c_102_26 sc_3.n rfl rfl rfl r_3_3 ?_
    refine n_iload_n c_102_29 rfl ?_
    refine n_aaload c_102_30 sc_13.n rfl rfl rfl (by omega) (r_laws _) ?_
    have q8 : LawAt (79 + 2 * l) := by unfold LawAt; omega
    refine n_getV (bi := 1) c_102_31 q8.c0.1.n rfl rfl rfl (t_law hS q8).2.1 ?_
    intro z9 ez9 f10
    have q31 : z9 = Ms (79 + 2 * l) 1 := by rw [ez9, hms]
    have hst := hsb l (by omega) (by rw [← hms]; omega)
    have hl0 : 0 ≤ l ∧ l < Ms 3 15 := ⟨by omega, by rw [← hms]; omega⟩
    refine n_aload_n c_102_34 rfl ?_
    refine n_getR c_102_35 sc_3.n rfl rfl rfl r_3_0 ?_
    refine n_v3V c_102_38 rfl law50.c0.1.n rfl rfl rfl rfl (takeSY3_3 (s := z9) (Ms := M) hS (by omega) (by rfl)) ?_
    intro  M11 hP12
    obtain ⟨hS11, f12p0, f12p1, f12p2⟩ := hP12
    refine n_iconst c_102_41 ?_
    refine n_istore_n (L2 := [some (2, 3), some (0, l), some (0, 1), none, none]) c_102_42 rfl rfl ?_
    refine n_iconst c_102_43 ?_
    refine n_istore_n (L2 := [some (2, 3), some (0, l), some (0, 1), some (0, 0), none]) c_102_44 rfl rfl ?_
    refine n_fg (le_s (le_n (le_s (le_s (le_n le_0))))) ?_
    exact (closedX3_3_c hS hl hms hx ha hkk hsb 670).1 _ _ M11 hS11 (by omega) (by omega) (by exact ⟨z9, ⟨by decide, by omega, fun y y0 y1 => by rw [q31]; exact (hx l hl0.1 hl0.2).2 y (by rw [hkk hl0.1 hl0.2]; exact y0) y1, f12p1⟩, fun _ _ _ q => by rw [q31]; exact q, fun t t1 _ => by rw [q31]; exact t1, fun a i u => by rw [f12p2 a i (by omega), hms], f12p0.1, fun u => by omega, fun _ => by have := (t_law hS11 law50).2.2.2; omega⟩) (by exact hl0) (by omega)
  · intro h13
    refine n_ldc2 (n := (-1)) c_102_8 rfl ?_
    exact n_rJ c_102_11 rfl ⟨hS, by omega, by exact Or.inl ⟨by rw [← hms]; omega, rfl⟩⟩

set_option maxHeartbeats 4000000 in
theorem mclosedX_3 {xs : List Int32} {e : Nat} {ac : Int} {M0 M : nM} {l : Int} (hS : Sf 3 ac M0 M) (hdm : M0 112 0 = 3) (hl : -2147483648 ≤ l ∧ l ≤ 2147483647) (hp : ∀ a : Int, 0 ≤ a → a < M 112 4 → 1 ≤ M 116 a) (hlp : ∀ l : Int, 0 ≤ l → l < M 112 7 → 1 ≤ M 118 l) : nW xs (e + 4) 159 0 [some (2, 112), some (0, l)] [] M (nPJ fun z M1 => M = M1 ∧ (-9223372036854775808 ≤ z ∧ z ≤ 9223372036854775807) ∧ (mCl 3 l z M)) := by
  have hd : (3 : Int) = 2 ∨ (3 : Int) = 3 := by decide
  have hac := hS.2.2.2.2
  refine n_iload_n c_159_0 rfl ?_
  refine n_if0_lt c_159_1 (by omega) ?_ ?_
  · intro h1
    refine n_ldc2 (n := (-1)) c_159_12 rfl ?_
    refine n_goto c_159_15 ?_
    exact n_rJ c_159_34 rfl ⟨rfl, by omega, by exact Or.inl ⟨by omega, rfl⟩⟩
  · intro h2
    refine n_iload_n c_159_4 rfl ?_
    refine n_aload_n c_159_5 rfl ?_
    refine n_getV (bi := 7) c_159_6 sc_112.n rfl rfl rfl (t_112_7 hS) ?_
    intro z3 ez3 f4
    refine n_if2_lt c_159_9 (by omega) (by omega) ?_ ?_
    · intro h5
      refine n_aload_n c_159_18 rfl ?_
      refine n_aload_n c_159_19 rfl ?_
      refine n_getR c_159_20 sc_112.n rfl rfl rfl r_112_8 ?_
      refine n_iload_n c_159_23 rfl ?_
      refine n_ialoadV c_159_24 sc_118.n rfl rfl rfl (by omega) (t_118 hS (by omega)) ?_
      intro z6 ez6 f7
      have hl1 := hlp l (by omega) (by omega)
      refine n_aload_n c_159_25 rfl ?_
      refine n_getR c_159_26 sc_112.n rfl rfl rfl r_112_9 ?_
      refine n_iload_n c_159_29 rfl ?_
      refine n_laloadV c_159_30 sc_119.n rfl rfl rfl (by omega) (t_119 hS (by omega)) ?_
      intro z8 ez8 f9
      refine n_v2J c_159_31 rfl sc_112.n rfl rfl rfl rfl (mclosedSetX_3 (k := z6) (f := z8) hS hdm (by omega) (by omega) (by exact hp)) ?_
      intro z10 M11 hP12
      obtain ⟨eM, f12, f12p0⟩ := hP12
      subst eM
      exact n_rJ c_159_34 rfl ⟨rfl, by omega, by have u := f12p0; subst_vars; exact Or.inr ⟨by omega, by omega, by omega, u⟩⟩
    · intro h13
      refine n_ldc2 (n := (-1)) c_159_12 rfl ?_
      refine n_goto c_159_15 ?_
      exact n_rJ c_159_34 rfl ⟨rfl, by omega, by exact Or.inl ⟨by omega, rfl⟩⟩
