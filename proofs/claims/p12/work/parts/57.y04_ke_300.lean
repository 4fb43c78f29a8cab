/-! What the methods tell. -/
set_option maxHeartbeats 4000000 in
theorem isKeptByX_3_c {xs : List Int32} {e : Nat} {ac : Int} {M0 M : nM} {q p : Int} {Ms : nM} (hS : Sf 3 ac M0 M) (hq : LawAt q) (hp : ActAt p) (hpl : p < 55 + 3 * ac) (hms : M = Ms) (hL : LawOk 3 q Ms) (hA : ActOk 3 p Ms) : ∀ nn : Nat, (∀ (x4 x5 x6 : Int) (M : nM), Sf 3 ac M0 M → (0 ≤ x4 ∧ x4 ≤ 27) → (0 ≤ x5 ∧ x5 ≤ 27) → (0 ≤ x6 ∧ x6 ≤ 27) → (FC 53 Ms M) → (x4 = tf (Ms p 0) 3 (Ms q 3)) → (x5 = tf (Ms p 0) 2 (Ms q 3)) → (KC1 3 (Ms p 0) (fun n => Ms (p + 1) n) (Ms q 2) (Ms q 3) (fun i => Ms (q + 1) i) x6) → (27 - x6) * 871 + 871 < (nn : Int) → nW xs (e + 2) 38 25 [some (2, q), some (2, p), some (2, 4), some (2, 52), some (0, x4), some (0, x5), some (0, x6), none, none] [] M (nPI fun z M1 => Sf 3 ac M0 M1 ∧ (0 ≤ z ∧ z ≤ 1) ∧ (FC 53 Ms M1) ∧ (z = bb (KP 3 (Ms p 0) (fun i => Ms (p + 1) i) (Ms q 0) (Ms q 1))))) ∧ (∀ (x4 x5 x6 x7 : Int) (M : nM), Sf 3 ac M0 M → (1 ≤ x4 ∧ x4 ≤ 27) → (0 ≤ x5 ∧ x5 ≤ 27) → (0 ≤ x6 ∧ x6 ≤ 26) → (0 ≤ x7 ∧ x7 ≤ 27) → (FC 53 Ms M) → (x4 = tf (Ms p 0) 3 (Ms q 3)) → (x5 = tf (Ms p 0) 2 (Ms q 3)) → (KC1 3 (Ms p 0) (fun n => Ms (p + 1) n) (Ms q 2) (Ms q 3) (fun i => Ms (q + 1) i) x6) → (x6 < x4) → (KC2 3 (fun n => Ms (p + 1) n) (Ms q 2) (Ms q 3) (fun i => Ms (q + 1) i) x6 x7) → (27 - x6) * 871 + (27 - x7) * 30 + 30 < (nn : Int) → nW xs (e + 2) 38 35 [some (2, q), some (2, p), some (2, 4), some (2, 52), some (0, x4), some (0, x5), some (0, x6), some (0, x7), none] [] M (nPI fun z M1 => Sf 3 ac M0 M1 ∧ (0 ≤ z ∧ z ≤ 1) ∧ (FC 53 Ms M1) ∧ (z = bb (KP 3 (Ms p 0) (fun i => Ms (p + 1) i) (Ms q 0) (Ms q 1))))) ∧ (∀ (x4 x5 x6 x7 x8 : Int) (M : nM), Sf 3 ac M0 M → (1 ≤ x4 ∧ x4 ≤ 27) → (1 ≤ x5 ∧ x5 ≤ 27) → (0 ≤ x6 ∧ x6 ≤ 26) → (0 ≤ x7 ∧ x7 ≤ 26) → (0 ≤ x8 ∧ x8 ≤ 27) → (FC 53 Ms M) → (x4 = tf (Ms p 0) 3 (Ms q 3)) → (x5 = tf (Ms p 0) 2 (Ms q 3)) → (KC1 3 (Ms p 0) (fun n => Ms (p + 1) n) (Ms q 2) (Ms q 3) (fun i => Ms (q + 1) i) x6) → (x6 < x4) → (KC2 3 (fun n => Ms (p + 1) n) (Ms q 2) (Ms q 3) (fun i => Ms (q + 1) i) x6 x7) → (x7 < x5) → (∀ c : Int, 0 ≤ c → c < 27 → M 53 c = lin 3 (fun n => Ms (p + 1) n) (Ms (q + 1) x6) (Ms (q + 1) x7) c) → (KC3 3 (fun n => Ms (p + 1) n) (Ms q 2) (fun i => Ms (q + 1) i) x6 x7 x8) → (27 - x6) * 871 + (27 - x7) * 30 + (27 - x8) * 1 + 1 < (nn : Int) → nW xs (e + 2) 38 68 [some (2, q), some (2, p), some (2, 4), some (2, 52), some (0, x4), some (0, x5), some (0, x6), some (0, x7), some (0, x8)] [] M (nPI fun z M1 => Sf 3 ac M0 M1 ∧ (0 ≤ z ∧ z ≤ 1) ∧ (FC 53 Ms M1) ∧ (z = bb (KP 3 (Ms p 0) (fun i => Ms (p + 1) i) (Ms q 0) (Ms q 1))))) := by
  have hd : (3 : Int) = 2 ∨ (3 : Int) = 3 := by decide
  have hac := hS.2.2.2.2
  have hS0 := hS
  have hqb : q = 50 ∨ (79 ≤ q ∧ q ≤ 101) := by unfold LawAt at hq; omega
  have hpb : 55 ≤ p ∧ p ≤ 76 := by unfold ActAt at hp; omega
  have hw := hL.2.2.1
  have hr : ∀ i : Int, 0 ≤ i → i < Ms q 3 → Ms (q + 1) i < 27 := fun i h0 h1 => by obtain ⟨_, _, _, _, u⟩ := LRn.row (by decide) hL.1 hL.2 h0 h1; exact u
  intro nn
  induction nn with
  | zero => refine ⟨?_, ?_, ?_⟩ <;> (intros; omega)
  | succ nn ih =>
    refine ⟨?_, ?_, ?_⟩
    · intro x4 x5 x6 M hS k4 k5 k6 v0 v1 v2 v3 hnn
      refine n_iload c_38_25 rfl ?_
      refine n_iload c_38_27 rfl ?_
      refine n_if2_ge c_38_29 (by omega) (by omega) ?_ ?_
      · intro h1
        refine n_iconst c_38_119 ?_
        exact n_rZ c_38_120 rfl (by omega) ⟨hS, by omega, by exact v0, by have u := keeps_e (by decide) (hms ▸ hS0) hp hpl hL hA; rw [← u]; exact (bb_t (KC1.all v3 (by rw [← v1]; omega))).symm⟩
      · intro h2
        refine n_iconst c_38_32 ?_
        refine n_istore (L2 := [some (2, q), some (2, p), some (2, 4), some (2, 52), some (0, x4), some (0, x5), some (0, x6), some (0, 0), none]) c_38_33 rfl rfl ?_
        refine n_fg (le_s (le_s (le_s (le_s (le_s (le_s (le_s (le_s (le_n le_0))))))))) ?_
        exact ih.2.1 _ _ _ _ M hS (by omega) (by omega) (by omega) (by omega) (by exact v0) (by exact v1) (by exact v2) (by exact v3) (by omega) (by exact fun j k h0 h1 => by omega) (by omega)
    · intro x4 x5 x6 x7 M hS k4 k5 k6 k7 v0 v1 v2 v3 v4 v5 hnn
      refine n_iload c_38_35 rfl ?_
      refine n_iload c_38_37 rfl ?_
      refine n_if2_ge c_38_39 (by omega) (by omega) ?_ ?_
      · intro h1
        refine n_iinc (L2 := [some (2, q), some (2, p), some (2, 4), some (2, 52), some (0, x4), some (0, x5), some (0, (x6 + 1)), some (0, x7), none]) c_38_113 rfl rfl rfl ?_
        refine n_goto c_38_116 ?_
        refine n_fg (le_s (le_s (le_s (le_s (le_s (le_s (le_s (le_n (le_n le_0))))))))) ?_
        exact ih.1 _ _ _ M hS (by omega) (by omega) (by omega) (by exact v0) (by exact v1) (by exact v2) (by exact KC1.step v3 v5 (by rw [← v2]; omega)) (by omega)
      · intro h2
        refine n_aload_n c_38_42 rfl ?_
        refine n_aload_n c_38_43 rfl ?_
        refine n_aload_n c_38_44 rfl ?_
        refine n_getR c_38_45 hp.c0.1.n rfl rfl rfl hp.r.1 ?_
        refine n_aload_n c_38_48 rfl ?_
        refine n_getR c_38_49 hq.c0.1.n rfl rfl rfl hq.r ?_
        refine n_iload c_38_52 rfl ?_
        refine n_ialoadV c_38_54 hq.c0.2.n rfl rfl rfl (by omega) (t_lawr hS hq (by omega)) ?_
        intro z3 ez3 f4
        have u54 := v0 (q + 1) x6 (by omega)
        have t54 := tf_le (show x6 < tf (Ms p 0) 3 (Ms q 3) by omega)
        have w54 := hr x6 (by omega) t54
        refine n_aload_n c_38_55 rfl ?_
        refine n_getR c_38_56 hq.c0.1.n rfl rfl rfl hq.r ?_
        refine n_iload c_38_59 rfl ?_
        refine n_ialoadV c_38_61 hq.c0.2.n rfl rfl rfl (by omega) (t_lawr hS hq (by omega)) ?_
        intro z5 ez5 f6
        have u61 := v0 (q + 1) x7 (by omega)
        have t61 := tf_le (show x7 < tf (Ms p 0) 2 (Ms q 3) by omega)
        have w61 := hr x7 (by omega) t61
        refine n_v4V c_38_62 rfl sc_52.n rfl rfl rfl rfl (fillXT_3 (p := p) (i := z3) (j := z5) (Ms := M) hS hp hpl (by omega) (by omega) (by rfl)) ?_
        intro  M7 hP8
        obtain ⟨hS7, f8p0, f8p1⟩ := hP8
        refine n_iconst c_38_65 ?_
        refine n_istore (L2 := [some (2, q), some (2, p), some (2, 4), some (2, 52), some (0, x4), some (0, x5), some (0, x6), some (0, x7), some (0, 0)]) c_38_66 rfl rfl ?_
        refine n_fg (le_s (le_s (le_s (le_s (le_s (le_s (le_s (le_s (le_s le_0))))))))) ?_
        exact ih.2.2 _ _ _ _ _ M7 hS7 (by omega) (by omega) (by omega) (by omega) (by omega) (by exact fun a i u => (f8p0 a i u).trans (v0 a i u)) (by exact v1) (by exact v2) (by exact v3) (by omega) (by exact v5) (by omega) (by exact fun c h0 h1 => by have y := f8p1 c h0 h1; rw [y, ez3, ez5, u54, u61]; congr 1; funext n; exact v0 (p + 1) n (by omega)) (by exact fun k h0 h1 => by omega) (by omega)
    · intro x4 x5 x6 x7 x8 M hS k4 k5 k6 k7 k8 v0 v1 v2 v3 v4 v5 v6 v7 v8 hnn
      refine n_iload c_38_68 rfl ?_
      refine n_aload_n c_38_70 rfl ?_
      refine n_getV (bi := 3) c_38_71 hq.c0.1.n rfl rfl rfl (t_law hS hq).2.2.2 ?_
      intro z1 ez1 f2
      have u71 := v0 q 3 (by omega)
      refine n_if2_ge c_38_74 (by omega) (by omega) ?_ ?_
      · intro h3
        refine n_iinc (L2 := [some (2, q), some (2, p), some (2, 4), some (2, 52), some (0, x4), some (0, x5), some (0, x6), some (0, (x7 + 1)), some (0, x8)]) c_38_107 rfl rfl rfl ?_
        refine n_goto c_38_110 ?_
        refine n_fg (le_s (le_s (le_s (le_s (le_s (le_s (le_s (le_s (le_n le_0))))))))) ?_
        exact ih.2.1 _ _ _ _ M hS (by omega) (by omega) (by omega) (by omega) (by exact v0) (by exact v1) (by exact v2) (by exact v3) (by omega) (by have u71 := v0 q 3 (by omega); exact KC2.step v5 v8 (by omega)) (by omega)
      · intro h4
        refine n_aload_n c_38_77 rfl ?_
        refine n_getV (bi := 2) c_38_78 hq.c0.1.n rfl rfl rfl (t_law hS hq).2.2.1 ?_
        intro z5 ez5 f6
        have u78 := v0 q 2 (by omega)
        refine n_aload_n c_38_81 rfl ?_
        refine n_getR c_38_82 sc_52.n rfl rfl rfl r_52_0 ?_
        refine n_aload_n c_38_85 rfl ?_
        refine n_getR c_38_86 hq.c0.1.n rfl rfl rfl hq.r ?_
        refine n_iload c_38_89 rfl ?_
        refine n_ialoadV c_38_91 hq.c0.2.n rfl rfl rfl (by omega) (t_lawr hS hq (by omega)) ?_
        intro z7 ez7 f8
        have u91 := v0 (q + 1) x8 (by omega)
        have w91 := hr x8 (by omega) (by omega)
        refine n_ialoadV c_38_92 sc_53.n rfl rfl rfl (by omega) (t_53 hS (by omega)) ?_
        intro z9 ez9 f10
        refine n_i_ishr c_38_93 rfl ?_
        have f11 := n_shr_r z5 z9
        generalize gz12 : (n_shr z5 z9) = z12 at f11 ⊢
        refine n_iconst c_38_94 ?_
        refine n_i_iand c_38_95 rfl ?_
        have f13 := n_and_y (x := z12) (y := 1) (by omega)
        generalize gz14 : (n_and z12 1) = z14 at f13 ⊢
        have hb95 : z14 = z5 / 2 ^ (z9).toNat % 2 := by rw [← gz14, ← gz12]; exact ib_v (by omega) (by omega)
        refine n_if0_ne c_38_96 (by omega) ?_ ?_
        · intro h15
          refine n_iinc (L2 := [some (2, q), some (2, p), some (2, 4), some (2, 52), some (0, x4), some (0, x5), some (0, x6), some (0, x7), some (0, (x8 + 1))]) c_38_101 rfl rfl rfl ?_
          refine n_goto c_38_104 ?_
          refine n_fg (le_s (le_s (le_s (le_s (le_s (le_s (le_s (le_s (le_s le_0))))))))) ?_
          exact ih.2.2 _ _ _ _ _ M hS (by omega) (by omega) (by omega) (by omega) (by omega) (by exact v0) (by exact v1) (by exact v2) (by exact v3) (by omega) (by exact v5) (by omega) (by exact v7) (by have q92 : z9 = lin 3 (fun n => Ms (p + 1) n) (Ms (q + 1) x6) (Ms (q + 1) x7) (Ms (q + 1) x8) := (by rw [ez9, ez7, u91]; exact v7 _ (by have := t_lawr hS hq (i := x8) (by omega); omega) w91); have q78 : z5 = Ms q 2 := (by omega); rw [q92, q78] at hb95; exact KC3.step v8 (by unfold bt; omega)) (by omega)
        · intro h16
          refine n_iconst c_38_99 ?_
          exact n_rZ c_38_100 rfl (by omega) ⟨hS, by omega, by exact v0, by have q92 : z9 = lin 3 (fun n => Ms (p + 1) n) (Ms (q + 1) x6) (Ms (q + 1) x7) (Ms (q + 1) x8) := (by rw [ez9, ez7, u91]; exact v7 _ (by have := t_lawr hS hq (i := x8) (by omega); omega) w91); have q78 : z5 = Ms q 2 := (by omega); rw [q92, q78] at hb95; have u := keeps_e (by decide) (hms ▸ hS0) hp hpl hL hA; rw [← u]; exact (bb_f (fun y => by have y1 : bt (Ms q 2) (lin 3 (fun n => Ms (p + 1) n) (Ms (q + 1) x6) (Ms (q + 1) x7) (Ms (q + 1) x8)) := y x6 x7 x8 (by omega) (by rw [← v1]; omega) (by omega) (by rw [← v2]; omega) (by omega) (by omega); unfold bt at y1; omega)).symm⟩
set_option maxHeartbeats 4000000 in
theorem isKeptByX_3 {xs : List Int32} {e : Nat} {ac : Int} {M0 M : nM} {q p : Int} {Ms : nM} (hS : Sf 3 ac M0 M) (hq : LawAt q) (hp : ActAt p) (hpl : p < 55 + 3 * ac) (hms : M = Ms) (hL : LawOk 3 q Ms) (hA : ActOk 3 p Ms) : nW xs (e + 2) 38 0 [some (2, q), some (2, p), some (2, 4), some (2, 52), none, none, none, none, none] [] M (nPI fun z M1 => Sf 3 ac M0 M1 ∧ (0 ≤ z ∧ z ≤ 1) ∧ (FC 53 Ms M1) ∧ (z = bb (KP 3 (Ms p 0) (fun i => Ms (p + 1) i) (Ms q 0) (Ms q 1)))) := by
  have hd : (3 : Int) = 2 ∨ (3 : Int) = 3 := by decide
  have hac := hS.2.2.2.2
  have hS0 := hS
  have hqb : q = 50 ∨ (79 ≤ q ∧ q ≤ 101) := by unfold LawAt at hq; omega
  have hpb : 55 ≤ p ∧ p ≤ 76 := by unfold ActAt at hp; omega
  have hw := hL.2.2.1
  have hr : ∀ i : Int, 0 ≤ i → i < Ms q 3 → Ms (q + 1) i < 27 := fun i h0 h1 => by obtain ⟨_, _, _, _, u⟩ := LRn.row (by decide) hL.1 hL.2 h0 h1; exact u
  refine n_aload_n c_38_0 rfl ?_
  refine n_aload_n c_38_1 rfl ?_
  refine n_getV (bi := 0) c_38_2 hp.c0.1.n rfl rfl rfl (t_actl hS hp hpl).1 ?_
  intro z1 ez1 f2
  refine n_iconst c_38_5 ?_
  refine n_v2I c_38_6 rfl hq.c0.1.n rfl rfl rfl rfl (triedX_3 (q := q) (a := z1) (n := 3) hS hq (by omega) (by omega)) ?_
  intro z3 M4 hP5
  obtain ⟨eM, f5, f5p0⟩ := hP5
  subst eM
  refine n_istore (L2 := [some (2, q), some (2, p), some (2, 4), some (2, 52), some (0, z3), none, none, none, none]) c_38_9 rfl rfl ?_
  refine n_aload_n c_38_11 rfl ?_
  refine n_aload_n c_38_12 rfl ?_
  refine n_getV (bi := 0) c_38_13 hp.c0.1.n rfl rfl rfl (t_actl hS hp hpl).1 ?_
  intro z6 ez6 f7
  refine n_iconst c_38_16 ?_
  refine n_v2I c_38_17 rfl hq.c0.1.n rfl rfl rfl rfl (triedX_3 (q := q) (a := z6) (n := 2) hS hq (by omega) (by omega)) ?_
  intro z8 M9 hP10
  obtain ⟨eM, f10, f10p0⟩ := hP10
  subst eM
  refine n_istore (L2 := [some (2, q), some (2, p), some (2, 4), some (2, 52), some (0, z3), some (0, z8), none, none, none]) c_38_20 rfl rfl ?_
  refine n_iconst c_38_22 ?_
  refine n_istore (L2 := [some (2, q), some (2, p), some (2, 4), some (2, 52), some (0, z3), some (0, z8), some (0, 0), none, none]) c_38_23 rfl rfl ?_
  refine n_fg (le_s (le_s (le_s (le_s (le_s (le_s (le_s (le_n (le_n le_0))))))))) ?_
  exact (isKeptByX_3_c hS hq hp hpl hms hL hA 50528).1 _ _ _ M hS (by omega) (by omega) (by omega) (by subst hms; exact fun _ _ _ => rfl) (by subst hms; have u := f5p0; rw [ez1] at u; exact u) (by subst hms; have u := f10p0; rw [ez6] at u; exact u) (by exact fun i j k h0 h1 => by omega) (by omega)

set_option maxHeartbeats 4000000 in
theorem keepsX_3 {xs : List Int32} {e : Nat} {ac : Int} {M0 M : nM} {a l : Int} (hS : Sf 3 ac M0 M) (ha : -2147483648 ≤ a ∧ a ≤ 2147483647) (hl : -2147483648 ≤ l ∧ l ≤ 2147483647) (hx : ∀ l : Int, 0 ≤ l → l < M 3 15 → LawOk 3 (79 + 2 * l) M) (ha : ∀ a : Int, 0 ≤ a → a < M 3 14 → ActOk 3 (55 + 3 * a) M) : nW xs (e + 3) 101 0 [some (2, 3), some (0, a), some (0, l)] [] M (nPI fun z M1 => Sf 3 ac M0 M1 ∧ (-2147483648 ≤ z ∧ z ≤ 2147483647) ∧ (cKe 3 a l z M)) := by
  have hd : (3 : Int) = 2 ∨ (3 : Int) = 3 := by decide
  have hac := hS.2.2.2.2
  refine n_aload_n c_101_0 rfl ?_
  refine n_iload_n c_101_1 rfl ?_
  refine n_v1I c_101_2 rfl sc_3.n rfl rfl rfl rfl (isActF_3 (a := a) hS (by omega)) ?_
  intro z1 M2 hP3
  obtain ⟨eM, f3, f3p0⟩ := hP3
  subst eM
  refine n_if0_eq c_101_5 (by omega) ?_ ?_
  · intro h4
    refine n_iconst c_101_16 ?_
    exact n_rI c_101_17 rfl ⟨hS, by omega, by have t14 := t_ac hS; exact Or.inl ⟨by omega, rfl⟩⟩
  · intro h5
    refine n_aload_n c_101_8 rfl ?_
    refine n_iload_n c_101_9 rfl ?_
    refine n_v1I c_101_10 rfl sc_3.n rfl rfl rfl rfl (isLawF_3 (l := l) hS (by omega)) ?_
    intro z6 M7 hP8
    obtain ⟨eM, f8, f8p0⟩ := hP8
    subst eM
    refine n_if0_ne c_101_13 (by omega) ?_ ?_
    · intro h9
      refine n_aload_n c_101_18 rfl ?_
      refine n_getR c_101_19 sc_3.n rfl rfl rfl r_3_3 ?_
      refine n_iload_n c_101_22 rfl ?_
      refine n_aaload c_101_23 sc_13.n rfl rfl rfl (by omega) (r_laws _) ?_
      have q10 : LawAt (79 + 2 * l) := by unfold LawAt; omega
      refine n_aload_n c_101_24 rfl ?_
      refine n_getR c_101_25 sc_3.n rfl rfl rfl r_3_2 ?_
      refine n_iload_n c_101_28 rfl ?_
      refine n_aaload c_101_29 sc_12.n rfl rfl rfl (by omega) (r_acts _) ?_
      have q11 : ActAt (55 + 3 * a) := by unfold ActAt; omega
      have q11l : (55 + 3 * a) < 55 + 3 * ac := by omega
      refine n_aload_n c_101_30 rfl ?_
      refine n_getR c_101_31 sc_3.n rfl rfl rfl r_3_0 ?_
      refine n_aload_n c_101_34 rfl ?_
      refine n_getR c_101_35 sc_3.n rfl rfl rfl r_3_12 ?_
      refine n_v3I c_101_38 rfl q10.c0.1.n rfl rfl rfl rfl (isKeptByX_3 (q := (79 + 2 * l)) (p := (55 + 3 * a)) (Ms := M) hS q10 q11 q11l (by rfl) (by exact hx l (by omega) (by omega)) (by have t14 := t_ac hS; exact ha a (by omega) (by omega))) ?_
      intro z12 M13 hP14
      obtain ⟨hS13, f14, f14p0, f14p1⟩ := hP14
      refine n_if0_eq c_101_41 (by omega) ?_ ?_
      · intro h15
        refine n_iconst c_101_48 ?_
        exact n_rI c_101_49 rfl ⟨hS13, by omega, by have t14 := t_ac hS; have u := f14p1; exact Or.inr ⟨by omega, by omega, by omega, by omega, by rw [← u] <;> omega⟩⟩
      · intro h16
        refine n_iconst c_101_44 ?_
        refine n_goto c_101_45 ?_
        exact n_rI c_101_49 rfl ⟨hS13, by omega, by have t14 := t_ac hS; have u := f14p1; exact Or.inr ⟨by omega, by omega, by omega, by omega, by rw [← u] <;> omega⟩⟩
    · intro h17
      refine n_iconst c_101_16 ?_
      exact n_rI c_101_17 rfl ⟨hS, by omega, by have t14 := t_ac hS; exact Or.inl ⟨by omega, rfl⟩⟩

set_option maxHeartbeats 4000000 in
theorem aaksX_3_c {xs : List Int32} {e : Nat} {ac : Int} {M0 M : nM} {Ms : nM} (hS : Sf 3 ac M0 M) (hms : M = Ms) (hL : LawOk 3 50 Ms) (ha : ∀ a : Int, 0 ≤ a → a < Ms 3 14 → ActOk 3 (55 + 3 * a) Ms) : ∀ nn : Nat, (∀ (x1 : Int) (M : nM), Sf 3 ac M0 M → (0 ≤ x1 ∧ x1 ≤ 8) → (FC 53 Ms M) → (∀ a : Int, 0 ≤ a → a < x1 → KP 3 (Ms (55 + 3 * a) 0) (fun i => Ms (55 + 3 * a + 1) i) (Ms 50 0) (Ms 50 1)) → (8 - x1) * 1 + 1 < (nn : Int) → nW xs (e + 3) 129 2 [some (2, 3), some (0, x1)] [] M (nPI fun z M1 => Sf 3 ac M0 M1 ∧ (0 ≤ z ∧ z ≤ 1) ∧ (FC 53 Ms M1) ∧ (z = bb (CKP 3 Ms (Ms 50 0) (Ms 50 1))))) := by
  have hd : (3 : Int) = 2 ∨ (3 : Int) = 3 := by decide
  have hac := hS.2.2.2.2
  intro nn
  induction nn with
  | zero => intros; omega
  | succ nn ih =>
    intro x1 M hS k1 v0 v1 hnn
    refine n_iload_n c_129_2 rfl ?_
    refine n_aload_n c_129_3 rfl ?_
    refine n_getV (bi := 14) c_129_4 sc_3.n rfl rfl rfl (t_3_14x hS) ?_
    intro z1 ez1 f2
    have f2a := t_ac hS
    refine n_if2_ge c_129_7 (by omega) (by omega) ?_ ?_
    · intro h3
      refine n_iconst c_129_42 ?_
      exact n_rZ c_129_43 rfl (by omega) ⟨hS, by omega, by exact v0, by have n14 := v0 3 14 (by omega); have t14 := t_ac hS; exact (bb_t (fun a h0 h1 => v1 a h0 (by omega))).symm⟩
    · intro h4
      refine n_aload_n c_129_10 rfl ?_
      refine n_getR c_129_11 sc_3.n rfl rfl rfl r_3_11 ?_
      refine n_aload_n c_129_14 rfl ?_
      refine n_getR c_129_15 sc_3.n rfl rfl rfl r_3_2 ?_
      refine n_iload_n c_129_18 rfl ?_
      refine n_aaload c_129_19 sc_12.n rfl rfl rfl (by omega) (r_acts _) ?_
      have q5 : ActAt (55 + 3 * x1) := by unfold ActAt; omega
      have q5l : (55 + 3 * x1) < 55 + 3 * ac := by omega
      refine n_aload_n c_129_20 rfl ?_
      refine n_getR c_129_21 sc_3.n rfl rfl rfl r_3_0 ?_
      refine n_aload_n c_129_24 rfl ?_
      refine n_getR c_129_25 sc_3.n rfl rfl rfl r_3_12 ?_
      refine n_v3I c_129_28 rfl law50.c0.1.n rfl rfl rfl rfl (isKeptByX_3 (q := 50) (p := (55 + 3 * x1)) (Ms := M) hS law50 q5 q5l (by rfl) (by exact LawOk.of hL (fun a i u1 u2 => v0 a i (by omega))) (by have n14 := v0 3 14 (by omega); have t14 := t_ac hS; exact ActOk.of (ha x1 (by omega) (by omega)) (fun a i u1 u2 => v0 a i (by omega)))) ?_
      intro z6 M7 hP8
      obtain ⟨hS7, f8, f8p0, f8p1⟩ := hP8
      refine n_if0_ne c_129_31 (by omega) ?_ ?_
      · intro h9
        refine n_iinc (L2 := [some (2, 3), some (0, (x1 + 1))]) c_129_36 rfl rfl rfl ?_
        refine n_goto c_129_39 ?_
        refine n_fg (le_s (le_s le_0)) ?_
        exact ih _ M7 hS7 (by omega) (by exact fun a i u => (f8p0 a i u).trans (v0 a i u)) (by exact fun a h0 h1 => by by_cases y : a = x1; (rw [y]; have u := f8p1; rw [keeps_fr v0 (by omega)] at u; exact bb_n (by rw [← u]; omega)); exact v1 a h0 (by omega)) (by omega)
      · intro h10
        refine n_iconst c_129_34 ?_
        exact n_rZ c_129_35 rfl (by omega) ⟨hS7, by omega, by exact fun a i u => (f8p0 a i u).trans (v0 a i u), by have n14 := v0 3 14 (by omega); have t14 := t_ac hS; have u := f8p1; exact (bb_f (fun y => by have y1 := y x1 (by omega) (by omega); rw [keeps_fr v0 (by omega)] at u; rw [bb_t y1] at u; omega)).symm⟩
set_option maxHeartbeats 4000000 in
theorem aaksX_3 {xs : List Int32} {e : Nat} {ac : Int} {M0 M : nM} {Ms : nM} (hS : Sf 3 ac M0 M) (hms : M = Ms) (hL : LawOk 3 50 Ms) (ha : ∀ a : Int, 0 ≤ a → a < Ms 3 14 → ActOk 3 (55 + 3 * a) Ms) : nW xs (e + 3) 129 0 [some (2, 3), none] [] M (nPI fun z M1 => Sf 3 ac M0 M1 ∧ (0 ≤ z ∧ z ≤ 1) ∧ (FC 53 Ms M1) ∧ (z = bb (CKP 3 Ms (Ms 50 0) (Ms 50 1)))) := by
  have hd : (3 : Int) = 2 ∨ (3 : Int) = 3 := by decide
  have hac := hS.2.2.2.2
  refine n_iconst c_129_0 ?_
  refine n_istore_n (L2 := [some (2, 3), some (0, 0)]) c_129_1 rfl rfl ?_
  refine n_fg (le_s (le_s le_0)) ?_
  exact (aaksX_3_c hS hms hL ha 30) _ M hS (by omega) (by subst hms; exact fun _ _ _ => rfl) (by exact fun a h0 h1 => by omega) (by omega)

set_option maxHeartbeats 4000000 in
theorem lawsX1_3_c {xs : List Int32} {e : Nat} {ac : Int} {M0 M : nM} {Ms : nM} (hS : Sf 3 ac M0 M) (hms : M = Ms) (ha : ∀ a : Int, 0 ≤ a → a < Ms 3 14 → ActOk 3 (55 + 3 * a) Ms) : ∀ nn : Nat, (∀ (x2 x3 x4 : Int) (M : nM), Sf 3 ac M0 M → (8 ≤ x2 ∧ x2 ≤ 8) → (0 ≤ x3 ∧ x3 ≤ 8) → (0 ≤ x4 ∧ x4 ≤ 8) → (FB Ms M) → (x3 = cf (fun s => bb (CKP 3 Ms 1 s)) x4.toNat) → (x3 ≤ x4) → (8 - x4) * 1 + 1 < (nn : Int) → nW xs (e + 4) 103 28 [some (2, 3), some (0, 1), some (0, x2), some (0, x3), some (0, x4)] [] M (nPI fun z M1 => Sf 3 ac M0 M1 ∧ (-2147483648 ≤ z ∧ z ≤ 2147483647) ∧ (cLs 3 1 z Ms))) := by
  have hd : (3 : Int) = 2 ∨ (3 : Int) = 3 := by decide
  have hac := hS.2.2.2.2
  have hb14 : 0 ≤ Ms 3 14 ∧ Ms 3 14 ≤ 8 := by rw [← hms]; exact t_3_14x hS
  intro nn
  induction nn with
  | zero => intros; omega
  | succ nn ih =>
    intro x2 x3 x4 M hS k2 k3 k4 v0 v1 v2 hnn
    refine n_iload c_103_28 rfl ?_
    refine n_iload_n c_103_30 rfl ?_
    refine n_if2_ge c_103_31 (by omega) (by omega) ?_ ?_
    · intro h1
      refine n_iload_n c_103_64 rfl ?_
      exact n_rI c_103_65 rfl ⟨hS, by omega, by have q4 : x4 = 8 := (by omega); rw [q4] at v1; exact Or.inr ⟨by omega, by omega, v1⟩⟩
    · intro h2
      refine n_aload_n c_103_34 rfl ?_
      refine n_getR c_103_35 sc_3.n rfl rfl rfl r_3_11 ?_
      refine n_iload_n c_103_38 rfl ?_
      refine n_iload c_103_39 rfl ?_
      refine n_aload_n c_103_41 rfl ?_
      refine n_getR c_103_42 sc_3.n rfl rfl rfl r_3_0 ?_
      refine n_v3V c_103_45 rfl law50.c0.1.n rfl rfl rfl rfl (takeSY1_3 (s := x4) (Ms := M) hS (by omega) (by rfl)) ?_
      intro  M3 hP4
      obtain ⟨hS3, f4p0, f4p1, f4p2⟩ := hP4
      refine n_aload_n c_103_48 rfl ?_
      refine n_v0I c_103_49 rfl sc_3.n rfl rfl rfl rfl (aaksX_3 (Ms := M3) hS3 (by rfl) (by refine ⟨by rw [f4p0.1]; decide, ?_⟩; rw [f4p0.1, f4p0.2]; exact f4p1) (by exact fun a h0 h1 => by have f0 := FB.q v0 f4p2; rw [f0 3 14 (by omega)] at h1; exact ActOk.of (ha a h0 h1) (fun b i u1 u2 => f0 b i (by omega)))) ?_
      intro z5 M6 hP7
      obtain ⟨hS6, f7, f7p0, f7p1⟩ := hP7
      refine n_if0_eq c_103_52 (by omega) ?_ ?_
      · intro h8
        refine n_iinc (L2 := [some (2, 3), some (0, 1), some (0, x2), some (0, x3), some (0, (x4 + 1))]) c_103_58 rfl rfl rfl ?_
        refine n_goto c_103_61 ?_
        refine n_fg (le_s (le_s (le_s (le_s (le_s le_0))))) ?_
        exact ih _ _ _ M6 hS6 (by omega) (by omega) (by omega) (by exact FB.c (FB.q v0 f4p2) f7p0) (by rw [cf_step (by omega), ← v1]; show _ = _ + bb (CKP 3 Ms 1 x4); have u := f7p1; rw [f4p0.1, f4p0.2, bb_c (CKP.of hb14 (FB.q v0 f4p2))] at u; omega) (by omega) (by omega)
      · intro h9
        refine n_iinc (L2 := [some (2, 3), some (0, 1), some (0, x2), some (0, (x3 + 1)), some (0, x4)]) c_103_55 rfl rfl rfl ?_
        refine n_iinc (L2 := [some (2, 3), some (0, 1), some (0, x2), some (0, (x3 + 1)), some (0, (x4 + 1))]) c_103_58 rfl rfl rfl ?_
        refine n_goto c_103_61 ?_
        refine n_fg (le_s (le_s (le_s (le_s (le_s le_0))))) ?_
        exact ih _ _ _ M6 hS6 (by omega) (by omega) (by omega) (by exact FB.c (FB.q v0 f4p2) f7p0) (by rw [cf_step (by omega), ← v1]; show _ = _ + bb (CKP 3 Ms 1 x4); have u := f7p1; rw [f4p0.1, f4p0.2, bb_c (CKP.of hb14 (FB.q v0 f4p2))] at u; omega) (by omega) (by omega)
set_option maxHeartbeats 4000000 in
theorem lawsX1_3 {xs : List Int32} {e : Nat} {ac : Int} {M0 M : nM} {Ms : nM} (hS : Sf 3 ac M0 M) (hms : M = Ms) (ha : ∀ a : Int, 0 ≤ a → a < Ms 3 14 → ActOk 3 (55 + 3 * a) Ms) : nW xs (e + 4) 103 0 [some (2, 3), some (0, 1), none, none, none] [] M (nPI fun z M1 => Sf 3 ac M0 M1 ∧ (-2147483648 ≤ z ∧ z ≤ 2147483647) ∧ (cLs 3 1 z Ms)) := by
  have hd : (3 : Int) = 2 ∨ (3 : Int) = 3 := by decide
  have hac := hS.2.2.2.2
  have hb14 : 0 ≤ Ms 3 14 ∧ Ms 3 14 ≤ 8 := by rw [← hms]; exact t_3_14x hS
  refine n_iload_n c_103_0 rfl ?_
  refine n_iconst c_103_1 ?_
  refine n_if2_eq c_103_2 (by omega) (by omega) ?_ ?_
  · intro h1
    refine n_iconst c_103_12 ?_
    refine n_aload_n c_103_13 rfl ?_
    refine n_getR c_103_14 sc_3.n rfl rfl rfl r_3_0 ?_
    refine n_iload_n c_103_17 rfl ?_
    refine n_v1I c_103_18 rfl sc_4.n rfl rfl rfl rfl (power1_3  hS ) ?_
    intro z2 M3 hP4
    obtain ⟨eM, f4⟩ := hP4
    subst eM
    obtain rfl : z2 = 3 := by omega
    refine n_i_ishl (z := 8) c_103_21 (by decide) ?_
    refine n_istore_n (L2 := [some (2, 3), some (0, 1), some (0, 8), none, none]) c_103_22 rfl rfl ?_
    refine n_iconst c_103_23 ?_
    refine n_istore_n (L2 := [some (2, 3), some (0, 1), some (0, 8), some (0, 0), none]) c_103_24 rfl rfl ?_
    refine n_iconst c_103_25 ?_
    refine n_istore (L2 := [some (2, 3), some (0, 1), some (0, 8), some (0, 0), some (0, 0)]) c_103_26 rfl rfl ?_
    refine n_fg (le_s (le_s (le_s (le_s (le_s le_0))))) ?_
    exact (lawsX1_3_c hS hms ha 30) _ _ _ M hS (by omega) (by omega) (by omega) (by subst hms; exact fun _ _ _ => rfl) (by rfl) (by omega) (by omega)
  · intro h5
    exfalso; omega

set_option maxHeartbeats 4000000 in
theorem lawsX2_3_c {xs : List Int32} {e : Nat} {ac : Int} {M0 M : nM} {Ms : nM} (hS : Sf 3 ac M0 M) (hms : M = Ms) (ha : ∀ a : Int, 0 ≤ a → a < Ms 3 14 → ActOk 3 (55 + 3 * a) Ms) : ∀ nn : Nat, (∀ (x2 x3 x4 : Int) (M : nM), Sf 3 ac M0 M → (512 ≤ x2 ∧ x2 ≤ 512) → (0 ≤ x3 ∧ x3 ≤ 512) → (0 ≤ x4 ∧ x4 ≤ 512) → (FB Ms M) → (x3 = cf (fun s => bb (CKP 3 Ms 2 s)) x4.toNat) → (x3 ≤ x4) → (512 - x4) * 1 + 1 < (nn : Int) → nW xs (e + 4) 103 28 [some (2, 3), some (0, 2), some (0, x2), some (0, x3), some (0, x4)] [] M (nPI fun z M1 => Sf 3 ac M0 M1 ∧ (-2147483648 ≤ z ∧ z ≤ 2147483647) ∧ (cLs 3 2 z Ms))) := by
  have hd : (3 : Int) = 2 ∨ (3 : Int) = 3 := by decide
  have hac := hS.2.2.2.2
  have hb14 : 0 ≤ Ms 3 14 ∧ Ms 3 14 ≤ 8 := by rw [← hms]; exact t_3_14x hS
  intro nn
  induction nn with
  | zero => intros; omega
  | succ nn ih =>
    intro x2 x3 x4 M hS k2 k3 k4 v0 v1 v2 hnn
    refine n_iload c_103_28 rfl ?_
    refine n_iload_n c_103_30 rfl ?_
    refine n_if2_ge c_103_31 (by omega) (by omega) ?_ ?_
    · intro h1
      refine n_iload_n c_103_64 rfl ?_
      exact n_rI c_103_65 rfl ⟨hS, by omega, by have q4 : x4 = 512 := (by omega); rw [q4] at v1; exact Or.inr ⟨by omega, by omega, v1⟩⟩
    · intro h2
      refine n_aload_n c_103_34 rfl ?_
      refine n_getR c_103_35 sc_3.n rfl rfl rfl r_3_11 ?_
      refine n_iload_n c_103_38 rfl ?_
      refine n_iload c_103_39 rfl ?_
      refine n_aload_n c_103_41 rfl ?_
      refine n_getR c_103_42 sc_3.n rfl rfl rfl r_3_0 ?_
      refine n_v3V c_103_45 rfl law50.c0.1.n rfl rfl rfl rfl (takeSY2_3 (s := x4) (Ms := M) hS (by omega) (by rfl)) ?_
      intro  M3 hP4
      obtain ⟨hS3, f4p0, f4p1, f4p2⟩ := hP4
      refine n_aload_n c_103_48 rfl ?_
      refine n_v0I c_103_49 rfl sc_3.n rfl rfl rfl rfl (aaksX_3 (Ms := M3) hS3 (by rfl) (by refine ⟨by rw [f4p0.1]; decide, ?_⟩; rw [f4p0.1, f4p0.2]; exact f4p1) (by exact fun a h0 h1 => by have f0 := FB.q v0 f4p2; rw [f0 3 14 (by omega)] at h1; exact ActOk.of (ha a h0 h1) (fun b i u1 u2 => f0 b i (by omega)))) ?_
      intro z5 M6 hP7
      obtain ⟨hS6, f7, f7p0, f7p1⟩ := hP7
      refine n_if0_eq c_103_52 (by omega) ?_ ?_
      · intro h8
        refine n_iinc (L2 := [some (2, 3), some (0, 2), some (0, x2), some (0, x3), some (0, (x4 + 1))]) c_103_58 rfl rfl rfl ?_
        refine n_goto c_103_61 ?_
        refine n_fg (le_s (le_s (le_s (le_s (le_s le_0))))) ?_
        exact ih _ _ _ M6 hS6 (by omega) (by omega) (by omega) (by exact FB.c (FB.q v0 f4p2) f7p0) (by rw [cf_step (by omega), ← v1]; show _ = _ + bb (CKP 3 Ms 2 x4); have u := f7p1; rw [f4p0.1, f4p0.2, bb_c (CKP.of hb14 (FB.q v0 f4p2))] at u; omega) (by omega) (by omega)
      · intro h9
        refine n_iinc (L2 := [some (2, 3), some (0, 2), some (0, x2), some (0, (x3 + 1)), some (0, x4)]) c_103_55 rfl rfl rfl ?_
        refine n_iinc (L2 := [some (2, 3), some (0, 2), some (0, x2), some (0, (x3 + 1)), some (0, (x4 + 1))]) c_103_58 rfl rfl rfl ?_
        refine n_goto c_103_61 ?_
        refine n_fg (le_s (le_s (le_s (le_s (le_s le_0))))) ?_
        exact ih _ _ _ M6 hS6 (by omega) (by omega) (by omega) (by exact FB.c (FB.q v0 f4p2) f7p0) (by rw [cf_step (by omega), ← v1]; show _ = _ + bb (CKP 3 Ms 2 x4); have u := f7p1; rw [f4p0.1, f4p0.2, bb_c (CKP.of hb14 (FB.q v0 f4p2))] at u; omega) (by omega) (by omega)
set_option maxHeartbeats 4000000 in
theorem lawsX2_3 {xs : List Int32} {e : Nat} {ac : Int} {M0 M : nM} {Ms : nM} (hS : Sf 3 ac M0 M) (hms : M = Ms) (ha : ∀ a : Int, 0 ≤ a → a < Ms 3 14 → ActOk 3 (55 + 3 * a) Ms) : nW xs (e + 4) 103 0 [some (2, 3), some (0, 2), none, none, none] [] M (nPI fun z M1 => Sf 3 ac M0 M1 ∧ (-2147483648 ≤ z ∧ z ≤ 2147483647) ∧ (cLs 3 2 z Ms)) := by
  have hd : (3 : Int) = 2 ∨ (3 : Int) = 3 := by decide
  have hac := hS.2.2.2.2
  have hb14 : 0 ≤ Ms 3 14 ∧ Ms 3 14 ≤ 8 := by rw [← hms]; exact t_3_14x hS
  refine n_iload_n c_103_0 rfl ?_
  refine n_iconst c_103_1 ?_
  refine n_if2_eq c_103_2 (by omega) (by omega) ?_ ?_
  · intro h1
    exfalso; omega
  · intro h2
    refine n_iload_n c_103_5 rfl ?_
    refine n_iconst c_103_6 ?_
    refine n_if2_eq c_103_7 (by omega) (by omega) ?_ ?_
    · intro h3
      refine n_iconst c_103_12 ?_
      refine n_aload_n c_103_13 rfl ?_
      refine n_getR c_103_14 sc_3.n rfl rfl rfl r_3_0 ?_
      refine n_iload_n c_103_17 rfl ?_
      refine n_v1I c_103_18 rfl sc_4.n rfl rfl rfl rfl (power2_3  hS ) ?_
      intro z4 M5 hP6
      obtain ⟨eM, f6⟩ := hP6
      subst eM
      obtain rfl : z4 = 9 := by omega
      refine n_i_ishl (z := 512) c_103_21 (by decide) ?_
      refine n_istore_n (L2 := [some (2, 3), some (0, 2), some (0, 512), none, none]) c_103_22 rfl rfl ?_
      refine n_iconst c_103_23 ?_
      refine n_istore_n (L2 := [some (2, 3), some (0, 2), some (0, 512), some (0, 0), none]) c_103_24 rfl rfl ?_
      refine n_iconst c_103_25 ?_
      refine n_istore (L2 := [some (2, 3), some (0, 2), some (0, 512), some (0, 0), some (0, 0)]) c_103_26 rfl rfl ?_
      refine n_fg (le_s (le_s (le_s (le_s (le_s le_0))))) ?_
      exact (lawsX2_3_c hS hms ha 1038) _ _ _ M hS (by omega) (by omega) (by omega) (by subst hms; exact fun _ _ _ => rfl) (by rfl) (by omega) (by omega)
    · intro h7
      exfalso; omega

set_option maxHeartbeats 4000000 in
theorem lawsXL_3 {xs : List Int32} {e : Nat} {ac : Int} {M0 M : nM} {k : Int} (hS : Sf 3 ac M0 M) (hk : -2147483648 ≤ k ∧ k ≤ 0) : nW xs (e + 4) 103 0 [some (2, 3), some (0, k), none, none, none] [] M (nPI fun z M1 => M = M1 ∧ (-1 ≤ z ∧ z ≤ -1) ∧ (cLs 3 k z M)) := by
  have hd : (3 : Int) = 2 ∨ (3 : Int) = 3 := by decide
  have hac := hS.2.2.2.2
  refine n_iload_n c_103_0 rfl ?_
  refine n_iconst c_103_1 ?_
  refine n_if2_eq c_103_2 (by omega) (by omega) ?_ ?_
  · intro h1
    exfalso; omega
  · intro h2
    refine n_iload_n c_103_5 rfl ?_
    refine n_iconst c_103_6 ?_
    refine n_if2_eq c_103_7 (by omega) (by omega) ?_ ?_
    · intro h3
      exfalso; omega
    · intro h4
      refine n_iconst c_103_10 ?_
      exact n_rI c_103_11 rfl ⟨rfl, by omega, by exact Or.inl ⟨by omega, rfl⟩⟩

set_option maxHeartbeats 4000000 in
theorem lawsXH_3 {xs : List Int32} {e : Nat} {ac : Int} {M0 M : nM} {k : Int} (hS : Sf 3 ac M0 M) (hk : 3 ≤ k ∧ k ≤ 2147483647) : nW xs (e + 4) 103 0 [some (2, 3), some (0, k), none, none, none] [] M (nPI fun z M1 => M = M1 ∧ (-1 ≤ z ∧ z ≤ -1) ∧ (cLs 3 k z M)) := by
  have hd : (3 : Int) = 2 ∨ (3 : Int) = 3 := by decide
  have hac := hS.2.2.2.2
  refine n_iload_n c_103_0 rfl ?_
  refine n_iconst c_103_1 ?_
  refine n_if2_eq c_103_2 (by omega) (by omega) ?_ ?_
  · intro h1
    exfalso; omega
  · intro h2
    refine n_iload_n c_103_5 rfl ?_
    refine n_iconst c_103_6 ?_
    refine n_if2_eq c_103_7 (by omega) (by omega) ?_ ?_
    · intro h3
      exfalso; omega
    · intro h4
      refine n_iconst c_103_10 ?_
      exact n_rI c_103_11 rfl ⟨rfl, by omega, by exact Or.inl ⟨by omega, rfl⟩⟩

set_option maxHeartbeats 4000000 in
theorem mkeepsX_3 {xs : List Int32} {e : Nat} {ac : Int} {M0 M : nM} {a l : Int} (hS : Sf 3 ac M0 M) (hdm : M0 112 0 = 3) (ha : -2147483648 ≤ a ∧ a ≤ 2147483647) (hl : -2147483648 ≤ l ∧ l ≤ 2147483647) (hp : ∀ a : Int, 0 ≤ a → a < M 112 4 → 1 ≤ M 116 a) (hlp : ∀ l : Int, 0 ≤ l → l < M 112 7 → 1 ≤ M 118 l) : nW xs (e + 4) 158 0 [some (2, 112), some (0, a), some (0, l)] [] M (nPI fun z M1 => M = M1 ∧ (-2147483648 ≤ z ∧ z ≤ 2147483647) ∧ (mKe 3 a l z M)) := by
  have hd : (3 : Int) = 2 ∨ (3 : Int) = 3 := by decide
  have hac := hS.2.2.2.2
  refine n_iload_n c_158_0 rfl ?_
  refine n_if0_lt c_158_1 (by omega) ?_ ?_
  · intro h1
    refine n_iconst c_158_24 ?_
    refine n_goto c_158_25 ?_
    exact n_rI c_158_53 rfl ⟨rfl, by omega, by exact Or.inl ⟨by omega, rfl⟩⟩
  · intro h2
    refine n_iload_n c_158_4 rfl ?_
    refine n_aload_n c_158_5 rfl ?_
    refine n_getV (bi := 4) c_158_6 sc_112.n rfl rfl rfl (t_112_4 hS) ?_
    intro z3 ez3 f4
    refine n_if2_ge c_158_9 (by omega) (by omega) ?_ ?_
    · intro h5
      refine n_iconst c_158_24 ?_
      refine n_goto c_158_25 ?_
      exact n_rI c_158_53 rfl ⟨rfl, by omega, by exact Or.inl ⟨by omega, rfl⟩⟩
    · intro h6
      refine n_iload_n c_158_12 rfl ?_
      refine n_if0_lt c_158_13 (by omega) ?_ ?_
      · intro h7
        refine n_iconst c_158_24 ?_
        refine n_goto c_158_25 ?_
        exact n_rI c_158_53 rfl ⟨rfl, by omega, by exact Or.inl ⟨by omega, rfl⟩⟩
      · intro h8
        refine n_iload_n c_158_16 rfl ?_
        refine n_aload_n c_158_17 rfl ?_
        refine n_getV (bi := 7) c_158_18 sc_112.n rfl rfl rfl (t_112_7 hS) ?_
        intro z9 ez9 f10
        refine n_if2_lt c_158_21 (by omega) (by omega) ?_ ?_
        · intro h11
          refine n_aload_n c_158_28 rfl ?_
          refine n_iload_n c_158_29 rfl ?_
          refine n_aload_n c_158_30 rfl ?_
          refine n_getR c_158_31 sc_112.n rfl rfl rfl r_112_8 ?_
          refine n_iload_n c_158_34 rfl ?_
          refine n_ialoadV c_158_35 sc_118.n rfl rfl rfl (by omega) (t_118 hS (by omega)) ?_
          intro z12 ez12 f13
          have hl1 := hlp l (by omega) (by omega)
          refine n_aload_n c_158_36 rfl ?_
          refine n_getR c_158_37 sc_112.n rfl rfl rfl r_112_9 ?_
          refine n_iload_n c_158_40 rfl ?_
          refine n_laloadV c_158_41 sc_119.n rfl rfl rfl (by omega) (t_119 hS (by omega)) ?_
          intro z14 ez14 f15
          refine n_v3I c_158_42 rfl sc_112.n rfl rfl rfl rfl (mkeepsSetX_3 (a := a) (k := z12) (s := z14) hS hdm (by omega) (by omega) (by omega) (by exact hp _ (by omega) (by omega))) ?_
          intro z16 M17 hP18
          obtain ⟨eM, f18, f18p0⟩ := hP18
          subst eM
          refine n_if0_eq c_158_45 (by omega) ?_ ?_
          · intro h19
            refine n_iconst c_158_52 ?_
            exact n_rI c_158_53 rfl ⟨rfl, by omega, by have u := f18p0; subst_vars; exact Or.inr ⟨by omega, by omega, by omega, by omega, by rw [← u] <;> omega⟩⟩
          · intro h20
            refine n_iconst c_158_48 ?_
            refine n_goto c_158_49 ?_
            exact n_rI c_158_53 rfl ⟨rfl, by omega, by have u := f18p0; subst_vars; exact Or.inr ⟨by omega, by omega, by omega, by omega, by rw [← u] <;> omega⟩⟩
        · intro h21
          refine n_iconst c_158_24 ?_
          refine n_goto c_158_25 ?_
          exact n_rI c_158_53 rfl ⟨rfl, by omega, by exact Or.inl ⟨by omega, rfl⟩⟩

set_option maxHeartbeats 4000000 in
theorem mlawsX1_3_c {xs : List Int32} {e : Nat} {ac : Int} {M0 M : nM} (hS : Sf 3 ac M0 M) (hdm : M0 112 0 = 3) (hp : ∀ a : Int, 0 ≤ a → a < M 112 4 → 1 ≤ M 116 a) : ∀ nn : Nat, (∀ (x2 x3 : Int), (0 ≤ x2 ∧ x2 ≤ 8) → (0 ≤ x3 ∧ x3 ≤ 8) → (x2 = cf (fun s => bb (AKP 3 M 1 s)) x3.toNat) → (x2 ≤ x3) → (8 - x3) * 1 + 1 < (nn : Int) → nW xs (e + 5) 160 16 [some (2, 112), some (0, 1), some (0, x2), some (1, x3), none] [] M (nPI fun z M1 => M = M1 ∧ (-2147483648 ≤ z ∧ z ≤ 2147483647) ∧ (mLs 3 1 z M))) := by
  have hd : (3 : Int) = 2 ∨ (3 : Int) = 3 := by decide
  have hac := hS.2.2.2.2
  intro nn
  induction nn with
  | zero => intros; omega
  | succ nn ih =>
    intro x2 x3 k2 k3 v0 v1 hnn
    refine n_lload_n c_160_16 rfl ?_
    refine n_lconst (n := 1) c_160_17 rfl ?_
    refine n_aload_n c_160_18 rfl ?_
    refine n_getV (bi := 0) c_160_19 sc_112.n rfl rfl rfl (t_dm hS hdm) ?_
    intro z1 ez1 f2
    obtain rfl : z1 = 3 := by omega
    refine n_iload_n c_160_22 rfl ?_
    refine n_s2I c_160_23 rfl rfl rfl rfl (mpower1_3  hS ) ?_
    intro z3 M4 hP5
    obtain ⟨eM, f5⟩ := hP5
    subst eM
    obtain rfl : z3 = 3 := by omega
    refine n_i_lshl (z := 8) c_160_26 (by decide) ?_
    refine n_lcmp c_160_27 ?_
    refine n_lif_ge c_160_28 (by omega) (by omega) ?_ ?_
    · intro h6
      refine n_iload_n c_160_55 rfl ?_
      exact n_rI c_160_56 rfl ⟨rfl, by omega, by have q4 : x3 = 8 := (by omega); rw [q4] at v0; exact Or.inr ⟨by omega, by omega, v0⟩⟩
    · intro h7
      refine n_iload_n c_160_31 rfl ?_
      refine n_aload_n c_160_32 rfl ?_
      refine n_iload_n c_160_33 rfl ?_
      refine n_lload_n c_160_34 rfl ?_
      refine n_v2I c_160_35 rfl sc_112.n rfl rfl rfl rfl (mallKeepX_3 (k := 1) (s := x3) hS hdm (by omega) (by omega) (by exact hp)) ?_
      intro z8 M9 hP10
      obtain ⟨eM, f10, f10p0⟩ := hP10
      subst eM
      refine n_if0_eq c_160_38 (by omega) ?_ ?_
      · intro h11
        refine n_iconst c_160_45 ?_
        refine n_iadd c_160_46 rfl ?_
        refine n_istore_n (L2 := [some (2, 112), some (0, 1), some (0, (x2 + 0)), some (1, x3), none]) c_160_47 rfl rfl ?_
        refine n_lload_n c_160_48 rfl ?_
        refine n_lconst (n := 1) c_160_49 rfl ?_
        refine n_ladd c_160_50 rfl ?_
        refine n_lstore_n (L2 := [some (2, 112), some (0, 1), some (0, (x2 + 0)), some (1, (x3 + 1)), none]) c_160_51 rfl rfl ?_
        refine n_goto c_160_52 ?_
        refine n_fg (le_s (le_s (le_s (le_s (le_n le_0))))) ?_
        exact ih _ _ (by omega) (by omega) (by rw [cf_step (by omega), ← v0]; show _ = _ + bb (AKP 3 M 1 x3); have u := f10p0; omega) (by omega) (by omega)
      · intro h12
        refine n_iconst c_160_41 ?_
        refine n_goto c_160_42 ?_
        refine n_iadd c_160_46 rfl ?_
        refine n_istore_n (L2 := [some (2, 112), some (0, 1), some (0, (x2 + 1)), some (1, x3), none]) c_160_47 rfl rfl ?_
        refine n_lload_n c_160_48 rfl ?_
        refine n_lconst (n := 1) c_160_49 rfl ?_
        refine n_ladd c_160_50 rfl ?_
        refine n_lstore_n (L2 := [some (2, 112), some (0, 1), some (0, (x2 + 1)), some (1, (x3 + 1)), none]) c_160_51 rfl rfl ?_
        refine n_goto c_160_52 ?_
        refine n_fg (le_s (le_s (le_s (le_s (le_n le_0))))) ?_
        exact ih _ _ (by omega) (by omega) (by rw [cf_step (by omega), ← v0]; show _ = _ + bb (AKP 3 M 1 x3); have u := f10p0; omega) (by omega) (by omega)
set_option maxHeartbeats 4000000 in
theorem mlawsX1_3 {xs : List Int32} {e : Nat} {ac : Int} {M0 M : nM} (hS : Sf 3 ac M0 M) (hdm : M0 112 0 = 3) (hp : ∀ a : Int, 0 ≤ a → a < M 112 4 → 1 ≤ M 116 a) : nW xs (e + 5) 160 0 [some (2, 112), some (0, 1), none, none, none] [] M (nPI fun z M1 => M = M1 ∧ (-2147483648 ≤ z ∧ z ≤ 2147483647) ∧ (mLs 3 1 z M)) := by
  have hd : (3 : Int) = 2 ∨ (3 : Int) = 3 := by decide
  have hac := hS.2.2.2.2
  refine n_iload_n c_160_0 rfl ?_
  refine n_iconst c_160_1 ?_
  refine n_if2_lt c_160_2 (by omega) (by omega) ?_ ?_
  · intro h1
    exfalso; omega
  · intro h2
    refine n_iload_n c_160_5 rfl ?_
    refine n_iconst c_160_6 ?_
    refine n_if2_le c_160_7 (by omega) (by omega) ?_ ?_
    · intro h3
      refine n_iconst c_160_12 ?_
      refine n_istore_n (L2 := [some (2, 112), some (0, 1), some (0, 0), none, none]) c_160_13 rfl rfl ?_
      refine n_lconst (n := 0) c_160_14 rfl ?_
      refine n_lstore_n (L2 := [some (2, 112), some (0, 1), some (0, 0), some (1, 0), none]) c_160_15 rfl rfl ?_
      refine n_fg (le_s (le_s (le_s (le_s (le_n le_0))))) ?_
      exact (mlawsX1_3_c hS hdm hp 30) _ _ (by omega) (by omega) (by rfl) (by omega) (by omega)
    · intro h4
      exfalso; omega

set_option maxHeartbeats 4000000 in
theorem mlawsX2_3_c {xs : List Int32} {e : Nat} {ac : Int} {M0 M : nM} (hS : Sf 3 ac M0 M) (hdm : M0 112 0 = 3) (hp : ∀ a : Int, 0 ≤ a → a < M 112 4 → 1 ≤ M 116 a) : ∀ nn : Nat, (∀ (x2 x3 : Int), (0 ≤ x2 ∧ x2 ≤ 512) → (0 ≤ x3 ∧ x3 ≤ 512) → (x2 = cf (fun s => bb (AKP 3 M 2 s)) x3.toNat) → (x2 ≤ x3) → (512 - x3) * 1 + 1 < (nn : Int) → nW xs (e + 5) 160 16 [some (2, 112), some (0, 2), some (0, x2), some (1, x3), none] [] M (nPI fun z M1 => M = M1 ∧ (-2147483648 ≤ z ∧ z ≤ 2147483647) ∧ (mLs 3 2 z M))) := by
  have hd : (3 : Int) = 2 ∨ (3 : Int) = 3 := by decide
  have hac := hS.2.2.2.2
  intro nn
  induction nn with
  | zero => intros; omega
  | succ nn ih =>
    intro x2 x3 k2 k3 v0 v1 hnn
    refine n_lload_n c_160_16 rfl ?_
    refine n_lconst (n := 1) c_160_17 rfl ?_
    refine n_aload_n c_160_18 rfl ?_
    refine n_getV (bi := 0) c_160_19 sc_112.n rfl rfl rfl (t_dm hS hdm) ?_
    intro z1 ez1 f2
    obtain rfl : z1 = 3 := by omega
    refine n_iload_n c_160_22 rfl ?_
    refine n_s2I c_160_23 rfl rfl rfl rfl (mpower2_3  hS ) ?_
    intro z3 M4 hP5
    obtain ⟨eM, f5⟩ := hP5
    subst eM
    obtain rfl : z3 = 9 := by omega
    refine n_i_lshl (z := 512) c_160_26 (by decide) ?_
    refine n_lcmp c_160_27 ?_
    refine n_lif_ge c_160_28 (by omega) (by omega) ?_ ?_
    · intro h6
      refine n_iload_n c_160_55 rfl ?_
      exact n_rI c_160_56 rfl ⟨rfl, by omega, by have q4 : x3 = 512 := (by omega); rw [q4] at v0; exact Or.inr ⟨by omega, by omega, v0⟩⟩
    · intro h7
      refine n_iload_n c_160_31 rfl ?_
      refine n_aload_n c_160_32 rfl ?_
      refine n_iload_n c_160_33 rfl ?_
      refine n_lload_n c_160_34 rfl ?_
      refine n_v2I c_160_35 rfl sc_112.n rfl rfl rfl rfl (mallKeepX_3 (k := 2) (s := x3) hS hdm (by omega) (by omega) (by exact hp)) ?_
      intro z8 M9 hP10
      obtain ⟨eM, f10, f10p0⟩ := hP10
      subst eM
      refine n_if0_eq c_160_38 (by omega) ?_ ?_
      · intro h11
        refine n_iconst c_160_45 ?_
        refine n_iadd c_160_46 rfl ?_
        refine n_istore_n (L2 := [some (2, 112), some (0, 2), some (0, (x2 + 0)), some (1, x3), none]) c_160_47 rfl rfl ?_
        refine n_lload_n c_160_48 rfl ?_
        refine n_lconst (n := 1) c_160_49 rfl ?_
        refine n_ladd c_160_50 rfl ?_
        refine n_lstore_n (L2 := [some (2, 112), some (0, 2), some (0, (x2 + 0)), some (1, (x3 + 1)), none]) c_160_51 rfl rfl ?_
        refine n_goto c_160_52 ?_
        refine n_fg (le_s (le_s (le_s (le_s (le_n le_0))))) ?_
        exact ih _ _ (by omega) (by omega) (by rw [cf_step (by omega), ← v0]; show _ = _ + bb (AKP 3 M 2 x3); have u := f10p0; omega) (by omega) (by omega)
      · intro h12
        refine n_iconst c_160_41 ?_
        refine n_goto c_160_42 ?_
        refine n_iadd c_160_46 rfl ?_
        refine n_istore_n (L2 := [some (2, 112), some (0, 2), some (0, (x2 + 1)), some (1, x3), none]) c_160_47 rfl rfl ?_
        refine n_lload_n c_160_48 rfl ?_
        refine n_lconst (n := 1) c_160_49 rfl ?_
        refine n_ladd c_160_50 rfl ?_
        refine n_lstore_n (L2 := [some (2, 112), some (0, 2), some (0, (x2 + 1)), some (1, (x3 + 1)), none]) c_160_51 rfl rfl ?_
        refine n_goto c_160_52 ?_
        refine n_fg (le_s (le_s (le_s (le_s (le_n le_0))))) ?_
        exact ih _ _ (by omega) (by omega) (by rw [cf_step (by omega), ← v0]; show _ = _ + bb (AKP 3 M 2 x3); have u := f10p0; omega) (by omega) (by omega)
set_option maxHeartbeats 4000000 in
theorem mlawsX2_3 {xs : List Int32} {e : Nat} {ac : Int} {M0 M : nM} (hS : Sf 3 ac M0 M) (hdm : M0 112 0 = 3) (hp : ∀ a : Int, 0 ≤ a → a < M 112 4 → 1 ≤ M 116 a) : nW xs (e + 5) 160 0 [some (2, 112), some (0, 2), none, none, none] [] M (nPI fun z M1 => M = M1 ∧ (-2147483648 ≤ z ∧ z ≤ 2147483647) ∧ (mLs 3 2 z M)) := by
  have hd : (3 : Int) = 2 ∨ (3 : Int) = 3 := by decide
  have hac := hS.2.2.2.2
  refine n_iload_n c_160_0 rfl ?_
  refine n_iconst c_160_1 ?_
  refine n_if2_lt c_160_2 (by omega) (by omega) ?_ ?_
  · intro h1
    exfalso; omega
  · intro h2
    refine n_iload_n c_160_5 rfl ?_
    refine n_iconst c_160_6 ?_
    refine n_if2_le c_160_7 (by omega) (by omega) ?_ ?_
    · intro h3
      refine n_iconst c_160_12 ?_
      refine n_istore_n (L2 := [some (2, 112), some (0, 2), some (0, 0), none, none]) c_160_13 rfl rfl ?_
      refine n_lconst (n := 0) c_160_14 rfl ?_
      refine n_lstore_n (L2 := [some (2, 112), some (0, 2), some (0, 0), some (1, 0), none]) c_160_15 rfl rfl ?_
      refine n_fg (le_s (le_s (le_s (le_s (le_n le_0))))) ?_
      exact (mlawsX2_3_c hS hdm hp 1038) _ _ (by omega) (by omega) (by rfl) (by omega) (by omega)
    · intro h4
      exfalso; omega

set_option maxHeartbeats 4000000 in
theorem mlawsXL_3 {xs : List Int32} {e : Nat} {ac : Int} {M0 M : nM} {k : Int} (hS : Sf 3 ac M0 M) (hdm : M0 112 0 = 3) (hk : -2147483648 ≤ k ∧ k ≤ 0) : nW xs (e + 5) 160 0 [some (2, 112), some (0, k), none, none, none] [] M (nPI fun z M1 => M = M1 ∧ (-1 ≤ z ∧ z ≤ -1) ∧ (mLs 3 k z M)) := by
  have hd : (3 : Int) = 2 ∨ (3 : Int) = 3 := by decide
  have hac := hS.2.2.2.2
  refine n_iload_n c_160_0 rfl ?_
  refine n_iconst c_160_1 ?_
  refine n_if2_lt c_160_2 (by omega) (by omega) ?_ ?_
  · intro h1
    refine n_iconst c_160_10 ?_
    exact n_rI c_160_11 rfl ⟨rfl, by omega, by exact Or.inl ⟨by omega, rfl⟩⟩
  · intro h2
    exfalso; omega

set_option maxHeartbeats 4000000 in
theorem mlawsXH_3 {xs : List Int32} {e : Nat} {ac : Int} {M0 M : nM} {k : Int} (hS : Sf 3 ac M0 M) (hdm : M0 112 0 = 3) (hk : 3 ≤ k ∧ k ≤ 2147483647) : nW xs (e + 5) 160 0 [some (2, 112), some (0, k), none, none, none] [] M (nPI fun z M1 => M = M1 ∧ (-1 ≤ z ∧ z ≤ -1) ∧ (mLs 3 k z M)) := by
  have hd : (3 : Int) = 2 ∨ (3 : Int) = 3 := by decide
  have hac := hS.2.2.2.2
  refine n_iload_n c_160_0 rfl ?_
  refine n_iconst c_160_1 ?_
  refine n_if2_lt c_160_2 (by omega) (by omega) ?_ ?_
  · intro h1
    exfalso; omega
  · intro h2
    refine n_iload_n c_160_5 rfl ?_
    refine n_iconst c_160_6 ?_
    refine n_if2_le c_160_7 (by omega) (by omega) ?_ ?_
    · intro h3
      exfalso; omega
    · intro h4
      refine n_iconst c_160_10 ?_
      exact n_rI c_160_11 rfl ⟨rfl, by omega, by exact Or.inl ⟨by omega, rfl⟩⟩

set_option maxHeartbeats 4000000 in
theorem lawY1_3 {xs : List Int32} {e : Nat} {ac : Int} {M : nM} {s gd : Int} (hS : Sf 3 ac M M) (hs : -2147483648 ≤ s ∧ s ≤ 2147483647) (hgd : M 112 0 = gd) : nW xs (e + 2) 98 0 [some (2, 3), some (0, 1), some (0, s), none] [] M (nPI fun z M1 => Sf 3 ac M1 M1 ∧ (-2147483648 ≤ z ∧ z ≤ 2147483647) ∧ (M1 112 0 = gd) ∧ (cLaw 3 1 s z M M1) ∧ (cLawR 3 z M1)) := by
  have hd : (3 : Int) = 2 ∨ (3 : Int) = 3 := by decide
  have hac := hS.2.2.2.2
  refine n_aload_n c_98_0 rfl ?_
  refine n_getR c_98_1 sc_3.n rfl rfl rfl r_3_1 ?_
  refine n_iload_n c_98_4 rfl ?_
  refine n_v1I c_98_5 rfl sc_8.n rfl rfl rfl rfl (isSlotF_3 (s := s) hS (by omega)) ?_
  intro z1 M2 hP3
  obtain ⟨eM, f3, f3p0⟩ := hP3
  subst eM
  refine n_if0_eq c_98_8 (by omega) ?_ ?_
  · intro h4
    refine n_bipush c_98_19 rfl ?_
    exact n_rI c_98_21 rfl ⟨hS, by omega, by omega, by exact Or.inl ⟨by omega, rfl, fun _ _ _ => rfl⟩, by exact fun u => by omega⟩
  · intro h5
    refine n_aload_n c_98_11 rfl ?_
    refine n_iload_n c_98_12 rfl ?_
    refine n_v1I c_98_13 rfl sc_3.n rfl rfl rfl rfl (isPlaceCountF_3 (k := 1) hS (by omega)) ?_
    intro z6 M7 hP8
    obtain ⟨eM, f8, f8p0⟩ := hP8
    subst eM
    refine n_if0_ne c_98_16 (by omega) ?_ ?_
    · intro h9
      refine n_aload_n c_98_22 rfl ?_
      refine n_getV (bi := 15) c_98_23 sc_3.n rfl rfl rfl (t_3_15 hS) ?_
      intro z10 ez10 f11
      refine n_bipush c_98_26 rfl ?_
      refine n_if2_lt c_98_28 (by omega) (by omega) ?_ ?_
      · intro h12
        refine n_aload_n c_98_34 rfl ?_
        refine n_getR c_98_35 sc_3.n rfl rfl rfl r_3_1 ?_
        refine n_iload_n c_98_38 rfl ?_
        refine n_v1I c_98_39 rfl sc_8.n rfl rfl rfl rfl (hasRowF_3 (s := s) hS (by omega)) ?_
        intro z13 M14 hP15
        obtain ⟨eM, f15, f15p0⟩ := hP15
        subst eM
        refine n_if0_ne c_98_42 (by omega) ?_ ?_
        · intro h16
          refine n_aload_n c_98_48 rfl ?_
          refine n_iload_n c_98_49 rfl ?_
          refine n_iload_n c_98_50 rfl ?_
          refine n_v2I c_98_51 rfl sc_3.n rfl rfl rfl rfl (readLawX1_3 (s := s) hS (by omega)) ?_
          intro z17 M18 hP19
          obtain ⟨eM, f19, f19p0⟩ := hP19
          subst eM
          refine n_istore_n (L2 := [some (2, 3), some (0, 1), some (0, s), some (0, z17)]) c_98_54 rfl rfl ?_
          refine n_iload_n c_98_55 rfl ?_
          refine n_if0_ge c_98_56 (by omega) ?_ ?_
          · intro h20
            refine n_aload_n c_98_61 rfl ?_
            refine n_getR c_98_62 sc_3.n rfl rfl rfl r_3_3 ?_
            refine n_aload_n c_98_65 rfl ?_
            refine n_getV (bi := 15) c_98_66 sc_3.n rfl rfl rfl (t_3_15 hS) ?_
            intro z21 ez21 f22
            refine n_aaload c_98_69 sc_13.n rfl rfl rfl (by omega) (r_laws _) ?_
            have q23 : LawAt (79 + 2 * z21) := by unfold LawAt; omega
            refine n_iload_n c_98_70 rfl ?_
            refine n_iload_n c_98_71 rfl ?_
            refine n_aload_n c_98_72 rfl ?_
            refine n_getR c_98_73 sc_3.n rfl rfl rfl r_3_0 ?_
            refine n_v3V c_98_76 rfl q23.c0.1.n rfl rfl rfl rfl (takeLY1_3 (q := (79 + 2 * z21)) (s := z17) (g := (M 3 15)) (gd := (M 112 0)) (Ms := M) hS q23 (by omega) rfl rfl (by rfl)) ?_
            intro  M24 hP25
            obtain ⟨hS24, f25g0, f25g1, f25p0, f25p1, f25p2⟩ := hP25
            refine n_aload_n c_98_79 rfl ?_
            refine n_dup2 c_98_80 ?_
            refine n_getV (bi := 15) c_98_81 sc_3.n rfl rfl rfl (t_3_15 hS24) ?_
            intro z26 ez26 f27
            refine n_dup_x102 c_98_84 ?_
            refine n_iconst c_98_85 ?_
            refine n_iadd c_98_86 rfl ?_
            refine n_putM (bi := 15) hS24 c_98_87 sc_3.n rfl rfl rfl rfl (m_3_15 (by omega)) ?_
            intro M28 eM28 hS28
            have g28_0 : M28 112 0 = M24 112 0 := by rw [eM28]; exact nu_a (by omega)
            have g28_1 : M28 3 15 = (z26 + 1) := by rw [eM28]; exact nu_s _ _ _ _
            exact n_rI c_98_90 rfl ⟨hS28, by omega, by omega, by exact cLaw_ok (n := z21) (by omega) (by omega) (by omega) (by omega) (by omega) (by omega) (by rcases f19p0 with q | q; exact absurd q.neg (by omega); exact q) (fun a i hc u => f25p2 a i u) f25p0.1 f25p0.2 eM28 (by omega) (by omega) (by omega), by exact fun _ => by have y : LawOk 3 (79 + 2 * z21) M24 := (⟨by rw [f25p0.1]; decide, by rw [f25p0.1, f25p0.2]; exact f25p1⟩); have y2 := y.of (M2 := M28) (fun a i u1 u2 => by rw [eM28, nu_a (by omega)]); have ez : z26 = z21 := (by omega); rw [ez]; exact y2⟩
          · intro h29
            refine n_iload_n c_98_59 rfl ?_
            exact n_rI c_98_60 rfl ⟨hS, by omega, by omega, by exact Or.inr (Or.inr (Or.inr (Or.inl ⟨by omega, by omega, by omega, by omega, by omega, by omega, (by rcases f19p0 with q | q; exact q; have := q.2.2; omega), fun _ _ _ => rfl⟩))), by exact fun u => by rcases f19p0 with q | q; (have := q.neg; omega); (have := q.2.2; omega)⟩
        · intro h30
          refine n_bipush c_98_45 rfl ?_
          exact n_rI c_98_47 rfl ⟨hS, by omega, by omega, by exact Or.inr (Or.inr (Or.inl ⟨by omega, by omega, by omega, by omega, by omega, by omega, rfl, fun _ _ _ => rfl⟩)), by exact fun u => by omega⟩
      · intro h31
        refine n_bipush c_98_31 rfl ?_
        exact n_rI c_98_33 rfl ⟨hS, by omega, by omega, by exact Or.inr (Or.inl ⟨by omega, by omega, by omega, by omega, by omega, rfl, fun _ _ _ => rfl⟩), by exact fun u => by omega⟩
    · intro h32
      refine n_bipush c_98_19 rfl ?_
      exact n_rI c_98_21 rfl ⟨hS, by omega, by omega, by exact Or.inl ⟨by omega, rfl, fun _ _ _ => rfl⟩, by exact fun u => by omega⟩

set_option maxHeartbeats 4000000 in
theorem lawY2_3 {xs : List Int32} {e : Nat} {ac : Int} {M : nM} {s gd : Int} (hS : Sf 3 ac M M) (hs : -2147483648 ≤ s ∧ s ≤ 2147483647) (hgd : M 112 0 = gd) : nW xs (e + 2) 98 0 [some (2, 3), some (0, 2), some (0, s), none] [] M (nPI fun z M1 => Sf 3 ac M1 M1 ∧ (-2147483648 ≤ z ∧ z ≤ 2147483647) ∧ (M1 112 0 = gd) ∧ (cLaw 3 2 s z M M1) ∧ (cLawR 3 z M1)) := by
  have hd : (3 : Int) = 2 ∨ (3 : Int) = 3 := by decide
  have hac := hS.2.2.2.2
  refine n_aload_n c_98_0 rfl ?_
  refine n_getR c_98_1 sc_3.n rfl rfl rfl r_3_1 ?_
  refine n_iload_n c_98_4 rfl ?_
  refine n_v1I c_98_5 rfl sc_8.n rfl rfl rfl rfl (isSlotF_3 (s := s) hS (by omega)) ?_
  intro z1 M2 hP3
  obtain ⟨eM, f3, f3p0⟩ := hP3
  subst eM
  refine n_if0_eq c_98_8 (by omega) ?_ ?_
  · intro h4
    refine n_bipush c_98_19 rfl ?_
    exact n_rI c_98_21 rfl ⟨hS, by omega, by omega, by exact Or.inl ⟨by omega, rfl, fun _ _ _ => rfl⟩, by exact fun u => by omega⟩
  · intro h5
    refine n_aload_n c_98_11 rfl ?_
    refine n_iload_n c_98_12 rfl ?_
    refine n_v1I c_98_13 rfl sc_3.n rfl rfl rfl rfl (isPlaceCountF_3 (k := 2) hS (by omega)) ?_
    intro z6 M7 hP8
    obtain ⟨eM, f8, f8p0⟩ := hP8
    subst eM
    refine n_if0_ne c_98_16 (by omega) ?_ ?_
    · intro h9
      refine n_aload_n c_98_22 rfl ?_
      refine n_getV (bi := 15) c_98_23 sc_3.n rfl rfl rfl (t_3_15 hS) ?_
      intro z10 ez10 f11
      refine n_bipush c_98_26 rfl ?_
      refine n_if2_lt c_98_28 (by omega) (by omega) ?_ ?_
      · intro h12
        refine n_aload_n c_98_34 rfl ?_
        refine n_getR c_98_35 sc_3.n rfl rfl rfl r_3_1 ?_
        refine n_iload_n c_98_38 rfl ?_
        refine n_v1I c_98_39 rfl sc_8.n rfl rfl rfl rfl (hasRowF_3 (s := s) hS (by omega)) ?_
        intro z13 M14 hP15
        obtain ⟨eM, f15, f15p0⟩ := hP15
        subst eM
        refine n_if0_ne c_98_42 (by omega) ?_ ?_
        · intro h16
          refine n_aload_n c_98_48 rfl ?_
          refine n_iload_n c_98_49 rfl ?_
          refine n_iload_n c_98_50 rfl ?_
          refine n_v2I c_98_51 rfl sc_3.n rfl rfl rfl rfl (readLawX2_3 (s := s) hS (by omega)) ?_
          intro z17 M18 hP19
          obtain ⟨eM, f19, f19p0⟩ := hP19
          subst eM
          refine n_istore_n (L2 := [some (2, 3), some (0, 2), some (0, s), some (0, z17)]) c_98_54 rfl rfl ?_
          refine n_iload_n c_98_55 rfl ?_
          refine n_if0_ge c_98_56 (by omega) ?_ ?_
          · intro h20
            refine n_aload_n c_98_61 rfl ?_
            refine n_getR c_98_62 sc_3.n rfl rfl rfl r_3_3 ?_
            refine n_aload_n c_98_65 rfl ?_
            refine n_getV (bi := 15) c_98_66 sc_3.n rfl rfl rfl (t_3_15 hS) ?_
            intro z21 ez21 f22
            refine n_aaload c_98_69 sc_13.n rfl rfl rfl (by omega) (r_laws _) ?_
            have q23 : LawAt (79 + 2 * z21) := by unfold LawAt; omega
            refine n_iload_n c_98_70 rfl ?_
            refine n_iload_n c_98_71 rfl ?_
            refine n_aload_n c_98_72 rfl ?_
            refine n_getR c_98_73 sc_3.n rfl rfl rfl r_3_0 ?_
            refine n_v3V c_98_76 rfl q23.c0.1.n rfl rfl rfl rfl (takeLY2_3 (q := (79 + 2 * z21)) (s := z17) (g := (M 3 15)) (gd := (M 112 0)) (Ms := M) hS q23 (by omega) rfl rfl (by rfl)) ?_
            intro  M24 hP25
            obtain ⟨hS24, f25g0, f25g1, f25p0, f25p1, f25p2⟩ := hP25
            refine n_aload_n c_98_79 rfl ?_
            refine n_dup2 c_98_80 ?_
            refine n_getV (bi := 15) c_98_81 sc_3.n rfl rfl rfl (t_3_15 hS24) ?_
            intro z26 ez26 f27
            refine n_dup_x102 c_98_84 ?_
            refine n_iconst c_98_85 ?_
            refine n_iadd c_98_86 rfl ?_
            refine n_putM (bi := 15) hS24 c_98_87 sc_3.n rfl rfl rfl rfl (m_3_15 (by omega)) ?_
            intro M28 eM28 hS28
            have g28_0 : M28 112 0 = M24 112 0 := by rw [eM28]; exact nu_a (by omega)
            have g28_1 : M28 3 15 = (z26 + 1) := by rw [eM28]; exact nu_s _ _ _ _
            exact n_rI c_98_90 rfl ⟨hS28, by omega, by omega, by exact cLaw_ok (n := z21) (by omega) (by omega) (by omega) (by omega) (by omega) (by omega) (by rcases f19p0 with q | q; exact absurd q.neg (by omega); exact q) (fun a i hc u => f25p2 a i u) f25p0.1 f25p0.2 eM28 (by omega) (by omega) (by omega), by exact fun _ => by have y : LawOk 3 (79 + 2 * z21) M24 := (⟨by rw [f25p0.1]; decide, by rw [f25p0.1, f25p0.2]; exact f25p1⟩); have y2 := y.of (M2 := M28) (fun a i u1 u2 => by rw [eM28, nu_a (by omega)]); have ez : z26 = z21 := (by omega); rw [ez]; exact y2⟩
          · intro h29
            refine n_iload_n c_98_59 rfl ?_
            exact n_rI c_98_60 rfl ⟨hS, by omega, by omega, by exact Or.inr (Or.inr (Or.inr (Or.inl ⟨by omega, by omega, by omega, by omega, by omega, by omega, (by rcases f19p0 with q | q; exact q; have := q.2.2; omega), fun _ _ _ => rfl⟩))), by exact fun u => by rcases f19p0 with q | q; (have := q.neg; omega); (have := q.2.2; omega)⟩
        · intro h30
          refine n_bipush c_98_45 rfl ?_
          exact n_rI c_98_47 rfl ⟨hS, by omega, by omega, by exact Or.inr (Or.inr (Or.inl ⟨by omega, by omega, by omega, by omega, by omega, by omega, rfl, fun _ _ _ => rfl⟩)), by exact fun u => by omega⟩
      · intro h31
        refine n_bipush c_98_31 rfl ?_
        exact n_rI c_98_33 rfl ⟨hS, by omega, by omega, by exact Or.inr (Or.inl ⟨by omega, by omega, by omega, by omega, by omega, rfl, fun _ _ _ => rfl⟩), by exact fun u => by omega⟩
    · intro h32
      refine n_bipush c_98_19 rfl ?_
      exact n_rI c_98_21 rfl ⟨hS, by omega, by omega, by exact Or.inl ⟨by omega, rfl, fun _ _ _ => rfl⟩, by exact fun u => by omega⟩

set_option maxHeartbeats 4000000 in
theorem lawY3_3 {xs : List Int32} {e : Nat} {ac : Int} {M : nM} {s gd : Int} (hS : Sf 3 ac M M) (hs : -2147483648 ≤ s ∧ s ≤ 2147483647) (hgd : M 112 0 = gd) : nW xs (e + 2) 98 0 [some (2, 3), some (0, 3), some (0, s), none] [] M (nPI fun z M1 => Sf 3 ac M1 M1 ∧ (-2147483648 ≤ z ∧ z ≤ 2147483647) ∧ (M1 112 0 = gd) ∧ (cLaw 3 3 s z M M1) ∧ (cLawR 3 z M1)) := by
  have hd : (3 : Int) = 2 ∨ (3 : Int) = 3 := by decide
  have hac := hS.2.2.2.2
  refine n_aload_n c_98_0 rfl ?_
  refine n_getR c_98_1 sc_3.n rfl rfl rfl r_3_1 ?_
  refine n_iload_n c_98_4 rfl ?_
  refine n_v1I c_98_5 rfl sc_8.n rfl rfl rfl rfl (isSlotF_3 (s := s) hS (by omega)) ?_
  intro z1 M2 hP3
  obtain ⟨eM, f3, f3p0⟩ := hP3
  subst eM
  refine n_if0_eq c_98_8 (by omega) ?_ ?_
  · intro h4
    refine n_bipush c_98_19 rfl ?_
    exact n_rI c_98_21 rfl ⟨hS, by omega, by omega, by exact Or.inl ⟨by omega, rfl, fun _ _ _ => rfl⟩, by exact fun u => by omega⟩
  · intro h5
    refine n_aload_n c_98_11 rfl ?_
    refine n_iload_n c_98_12 rfl ?_
    refine n_v1I c_98_13 rfl sc_3.n rfl rfl rfl rfl (isPlaceCountF_3 (k := 3) hS (by omega)) ?_
    intro z6 M7 hP8
    obtain ⟨eM, f8, f8p0⟩ := hP8
    subst eM
    refine n_if0_ne c_98_16 (by omega) ?_ ?_
    · intro h9
      refine n_aload_n c_98_22 rfl ?_
      refine n_getV (bi := 15) c_98_23 sc_3.n rfl rfl rfl (t_3_15 hS) ?_
      intro z10 ez10 f11
      refine n_bipush c_98_26 rfl ?_
      refine n_if2_lt c_98_28 (by omega) (by omega) ?_ ?_
      · intro h12
        refine n_aload_n c_98_34 rfl ?_
        refine n_getR c_98_35 sc_3.n rfl rfl rfl r_3_1 ?_
        refine n_iload_n c_98_38 rfl ?_
        refine n_v1I c_98_39 rfl sc_8.n rfl rfl rfl rfl (hasRowF_3 (s := s) hS (by omega)) ?_
        intro z13 M14 hP15
        obtain ⟨eM, f15, f15p0⟩ := hP15
        subst eM
        refine n_if0_ne c_98_42 (by omega) ?_ ?_
        · intro h16
          refine n_aload_n c_98_48 rfl ?_
          refine n_iload_n c_98_49 rfl ?_
          refine n_iload_n c_98_50 rfl ?_
          refine n_v2I c_98_51 rfl sc_3.n rfl rfl rfl rfl (readLawX3_3 (s := s) hS (by omega)) ?_
          intro z17 M18 hP19
          obtain ⟨eM, f19, f19p0⟩ := hP19
          subst eM
          refine n_istore_n (L2 := [some (2, 3), some (0, 3), some (0, s), some (0, z17)]) c_98_54 rfl rfl ?_
          refine n_iload_n c_98_55 rfl ?_
          refine n_if0_ge c_98_56 (by omega) ?_ ?_
          · intro h20
            refine n_aload_n c_98_61 rfl ?_
            refine n_getR c_98_62 sc_3.n rfl rfl rfl r_3_3 ?_
            refine n_aload_n c_98_65 rfl ?_
            refine n_getV (bi := 15) c_98_66 sc_3.n rfl rfl rfl (t_3_15 hS) ?_
            intro z21 ez21 f22
            refine n_aaload c_98_69 sc_13.n rfl rfl rfl (by omega) (r_laws _) ?_
            have q23 : LawAt (79 + 2 * z21) := by unfold LawAt; omega
            refine n_iload_n c_98_70 rfl ?_
            refine n_iload_n c_98_71 rfl ?_
            refine n_aload_n c_98_72 rfl ?_
            refine n_getR c_98_73 sc_3.n rfl rfl rfl r_3_0 ?_
            refine n_v3V c_98_76 rfl q23.c0.1.n rfl rfl rfl rfl (takeLY3_3 (q := (79 + 2 * z21)) (s := z17) (g := (M 3 15)) (gd := (M 112 0)) (Ms := M) hS q23 (by omega) rfl rfl (by rfl)) ?_
            intro  M24 hP25
            obtain ⟨hS24, f25g0, f25g1, f25p0, f25p1, f25p2⟩ := hP25
            refine n_aload_n c_98_79 rfl ?_
            refine n_dup2 c_98_80 ?_
            refine n_getV (bi := 15) c_98_81 sc_3.n rfl rfl rfl (t_3_15 hS24) ?_
            intro z26 ez26 f27
            refine n_dup_x102 c_98_84 ?_
            refine n_iconst c_98_85 ?_
            refine n_iadd c_98_86 rfl ?_
            refine n_putM (bi := 15) hS24 c_98_87 sc_3.n rfl rfl rfl rfl (m_3_15 (by omega)) ?_
            intro M28 eM28 hS28
            have g28_0 : M28 112 0 = M24 112 0 := by rw [eM28]; exact nu_a (by omega)
            have g28_1 : M28 3 15 = (z26 + 1) := by rw [eM28]; exact nu_s _ _ _ _
            exact n_rI c_98_90 rfl ⟨hS28, by omega, by omega, by exact cLaw_ok (n := z21) (by omega) (by omega) (by omega) (by omega) (by omega) (by omega) (by rcases f19p0 with q | q; exact absurd q.neg (by omega); exact q) (fun a i hc u => f25p2 a i u) f25p0.1 f25p0.2 eM28 (by omega) (by omega) (by omega), by exact fun _ => by have y : LawOk 3 (79 + 2 * z21) M24 := (⟨by rw [f25p0.1]; decide, by rw [f25p0.1, f25p0.2]; exact f25p1⟩); have y2 := y.of (M2 := M28) (fun a i u1 u2 => by rw [eM28, nu_a (by omega)]); have ez : z26 = z21 := (by omega); rw [ez]; exact y2⟩
          · intro h29
            refine n_iload_n c_98_59 rfl ?_
            exact n_rI c_98_60 rfl ⟨hS, by omega, by omega, by exact Or.inr (Or.inr (Or.inr (Or.inl ⟨by omega, by omega, by omega, by omega, by omega, by omega, (by rcases f19p0 with q | q; exact q; have := q.2.2; omega), fun _ _ _ => rfl⟩))), by exact fun u => by rcases f19p0 with q | q; (have := q.neg; omega); (have := q.2.2; omega)⟩
        · intro h30
          refine n_bipush c_98_45 rfl ?_
          exact n_rI c_98_47 rfl ⟨hS, by omega, by omega, by exact Or.inr (Or.inr (Or.inl ⟨by omega, by omega, by omega, by omega, by omega, by omega, rfl, fun _ _ _ => rfl⟩)), by exact fun u => by omega⟩
      · intro h31
        refine n_bipush c_98_31 rfl ?_
        exact n_rI c_98_33 rfl ⟨hS, by omega, by omega, by exact Or.inr (Or.inl ⟨by omega, by omega, by omega, by omega, by omega, rfl, fun _ _ _ => rfl⟩), by exact fun u => by omega⟩
    · intro h32
      refine n_bipush c_98_19 rfl ?_
      exact n_rI c_98_21 rfl ⟨hS, by omega, by omega, by exact Or.inl ⟨by omega, rfl, fun _ _ _ => rfl⟩, by exact fun u => by omega⟩

set_option maxHeartbeats 4000000 in
theorem lawYA_3 {xs : List Int32} {e : Nat} {ac : Int} {M : nM} {k s gd : Int} (hS : Sf 3 ac M M) (hk : -2147483648 ≤ k ∧ k ≤ 2147483647) (hs : -2147483648 ≤ s ∧ s ≤ 2147483647) (hgd : M 112 0 = gd) : nW xs (e + 2) 98 0 [some (2, 3), some (0, k), some (0, s), none] [] M (nPI fun z M1 => Sf 3 ac M1 M1 ∧ (-2147483648 ≤ z ∧ z ≤ 2147483647) ∧ (M1 112 0 = gd) ∧ (cLaw 3 k s z M M1) ∧ (cLawR 3 z M1)) := by
  rcases (show (-2147483648 ≤ k ∧ k ≤ 0) ∨ k = 1 ∨ k = 2 ∨ k = 3 ∨ (4 ≤ k ∧ k ≤ 2147483647) by omega) with hx | rfl | rfl | rfl | hx
  · exact n_post (lawXL_3 hS (by omega) (by omega)) (fun w M1 h => by obtain ⟨z, rfl, rfl, h2⟩ := h; exact ⟨z, rfl, hS, by omega, hgd, Or.inl ⟨by omega, by omega, fun _ _ _ => rfl⟩, fun u => by omega⟩)
  · exact lawY1_3 hS (by omega) hgd
  · exact lawY2_3 hS (by omega) hgd
  · exact lawY3_3 hS (by omega) hgd
  · exact n_post (lawXH_3 hS (by omega) (by omega)) (fun w M1 h => by obtain ⟨z, rfl, rfl, h2⟩ := h; exact ⟨z, rfl, hS, by omega, hgd, Or.inl ⟨by omega, by omega, fun _ _ _ => rfl⟩, fun u => by omega⟩)
