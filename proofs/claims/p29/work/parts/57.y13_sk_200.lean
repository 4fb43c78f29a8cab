/-! What the methods tell. -/
set_option maxHeartbeats 4000000 in
theorem toldX_2 {xs : List Int32} {e : Nat} {ac : Int} {M0 M : nM} {a b : Int} (hS : Sf 2 ac M0 M) (ha : 0 ≤ a ∧ a ≤ 1) (hb : 0 ≤ b ∧ b ≤ 1) (h5 : M 44 5 = 2) (hvv : ∀ x : Int, 0 ≤ x → x < 4 → 0 ≤ M 39 (M 45 x) ∧ M 39 (M 45 x) < 2) : nW xs e 29 0 [some (2, 44), some (2, 39), some (0, a), some (0, b)] [] M (nPI fun z M1 => M = M1 ∧ (0 ≤ z ∧ z ≤ 1) ∧ (z = M 39 (M 45 (a * 2 + b)))) := by
  have hd : (2 : Int) = 2 ∨ (2 : Int) = 3 := by decide
  have hac := hS.2.2.2.2
  refine n_aload_n c_29_0 rfl (n_aload_n c_29_1 rfl (n_getR c_29_2 sc_44.n rfl rfl rfl r_44_4 (n_iload_n c_29_5 rfl (n_aload_n c_29_6 rfl (n_getV (bi := 5) c_29_7 sc_44.n rfl rfl rfl (t_44_5 hS) ?_)))))
  intro z1 ez1 f2
  obtain rfl : z1 = 2 := by omega
  refine n_imul c_29_10 rfl (n_iload_n c_29_11 rfl (n_iadd c_29_12 rfl (n_ialoadV c_29_13 sc_45.n rfl rfl rfl (by omega) (t_45 hS (by omega)) ?_)))
  intro z3 ez3 f4
  refine n_ialoadV c_29_14 sc_39.n rfl rfl rfl (by omega) (t_39 hS (by omega)) ?_
  intro z5 ez5 f6
  have kz : z5 = M 39 (M 45 (a * 2 + b)) := by rw [ez5, ez3]
  have rz := hvv (a * 2 + b) (by omega) (by omega)
  exact n_rI c_29_15 rfl ⟨rfl, by omega, by exact kz⟩

set_option maxHeartbeats 4000000 in
theorem suitsX_2_c {xs : List Int32} {e : Nat} {ac : Int} {M0 M : nM} (hS : Sf 2 ac M0 M) (h5 : M 44 5 = 2) (hvv : ∀ x : Int, 0 ≤ x → x < 4 → 0 ≤ M 39 (M 45 x) ∧ M 39 (M 45 x) < 2) : ∀ nn : Nat, (∀ (x3 : Int), (0 ≤ x3 ∧ x3 ≤ 2) → (M 44 3 ≠ 0) → (∀ a b c : Int, 0 ≤ a → a < x3 → (0 ≤ b ∧ b < 2) → (0 ≤ c ∧ c < 2) → M 39 (M 45 (M 39 (M 45 (a * 2 + b)) * 2 + c)) = M 39 (M 45 (a * 2 + M 39 (M 45 (b * 2 + c))))) → (2 - x3) * 21 + 21 < (nn : Int) → nW xs (e + 1) 25 11 [some (2, 44), some (2, 39), some (0, 2), some (0, x3), none, none, none] [] M (nPI fun z M1 => M = M1 ∧ (0 ≤ z ∧ z ≤ 1) ∧ (z = bb (SUIT 2 (M 44 3) (fun x => M 45 x) (fun u => M 39 u))))) ∧ (∀ (x3 x4 : Int), (0 ≤ x3 ∧ x3 ≤ 1) → (0 ≤ x4 ∧ x4 ≤ 2) → (M 44 3 ≠ 0) → (∀ a b c : Int, 0 ≤ a → a < x3 → (0 ≤ b ∧ b < 2) → (0 ≤ c ∧ c < 2) → M 39 (M 45 (M 39 (M 45 (a * 2 + b)) * 2 + c)) = M 39 (M 45 (a * 2 + M 39 (M 45 (b * 2 + c))))) → (∀ b c : Int, 0 ≤ b → b < x4 → (0 ≤ c ∧ c < 2) → M 39 (M 45 (M 39 (M 45 (x3 * 2 + b)) * 2 + c)) = M 39 (M 45 (x3 * 2 + M 39 (M 45 (b * 2 + c))))) → (2 - x3) * 21 + (2 - x4) * 5 + 5 < (nn : Int) → nW xs (e + 1) 25 19 [some (2, 44), some (2, 39), some (0, 2), some (0, x3), some (0, x4), none, none] [] M (nPI fun z M1 => M = M1 ∧ (0 ≤ z ∧ z ≤ 1) ∧ (z = bb (SUIT 2 (M 44 3) (fun x => M 45 x) (fun u => M 39 u))))) ∧ (∀ (x3 x4 x5 : Int), (0 ≤ x3 ∧ x3 ≤ 1) → (0 ≤ x4 ∧ x4 ≤ 1) → (0 ≤ x5 ∧ x5 ≤ 2) → (M 44 3 ≠ 0) → (∀ a b c : Int, 0 ≤ a → a < x3 → (0 ≤ b ∧ b < 2) → (0 ≤ c ∧ c < 2) → M 39 (M 45 (M 39 (M 45 (a * 2 + b)) * 2 + c)) = M 39 (M 45 (a * 2 + M 39 (M 45 (b * 2 + c))))) → (∀ b c : Int, 0 ≤ b → b < x4 → (0 ≤ c ∧ c < 2) → M 39 (M 45 (M 39 (M 45 (x3 * 2 + b)) * 2 + c)) = M 39 (M 45 (x3 * 2 + M 39 (M 45 (b * 2 + c))))) → (∀ c : Int, 0 ≤ c → c < x5 → M 39 (M 45 (M 39 (M 45 (x3 * 2 + x4)) * 2 + c)) = M 39 (M 45 (x3 * 2 + M 39 (M 45 (x4 * 2 + c))))) → (2 - x3) * 21 + (2 - x4) * 5 + (2 - x5) * 1 + 1 < (nn : Int) → nW xs (e + 1) 25 28 [some (2, 44), some (2, 39), some (0, 2), some (0, x3), some (0, x4), some (0, x5), none] [] M (nPI fun z M1 => M = M1 ∧ (0 ≤ z ∧ z ≤ 1) ∧ (z = bb (SUIT 2 (M 44 3) (fun x => M 45 x) (fun u => M 39 u))))) := by
  have hd : (2 : Int) = 2 ∨ (2 : Int) = 3 := by decide
  have hac := hS.2.2.2.2
  intro nn
  induction nn with
  | zero => refine ⟨?_, ?_, ?_⟩ <;> (intros; omega)
  | succ nn ih =>
    refine ⟨?_, ?_, ?_⟩
    · intro x3 k3 v0 v1 hnn
      refine n_iload_n c_25_11 rfl (n_iload_n c_25_12 rfl ?_)
      refine n_if2_ge c_25_13 (by omega) (by omega) ?_ ?_
      · intro h1
        refine n_iconst c_25_91 ?_
        exact n_rZ c_25_92 rfl (by omega) ⟨rfl, by omega, by exact (bb_t (Or.inr (fun a b c ha hb hc => v1 a b c ha.1 (by omega) hb hc))).symm⟩
      · intro h2
        refine n_iconst c_25_16 (n_istore (L2 := [some (2, 44), some (2, 39), some (0, 2), some (0, x3), some (0, 0), none, none]) c_25_17 rfl rfl (n_fg (le_s (le_s (le_s (le_s (le_s (le_n (le_n le_0))))))) ?_))
        exact ih.2.1 _ _ (by omega) (by omega) (by omega) (by exact v1) (by exact fun b c h0 h1 => by omega) (by omega)
    · intro x3 x4 k3 k4 v0 v1 v2 hnn
      refine n_iload c_25_19 rfl (n_iload_n c_25_21 rfl ?_)
      refine n_if2_ge c_25_22 (by omega) (by omega) ?_ ?_
      · intro h1
        refine n_iinc (L2 := [some (2, 44), some (2, 39), some (0, 2), some (0, (x3 + 1)), some (0, x4), none, none]) c_25_85 rfl rfl rfl (n_goto c_25_88 (n_fg (le_s (le_s (le_s (le_s (le_n (le_n (le_n le_0))))))) ?_))
        exact ih.1 _ (by omega) (by omega) (by exact fun a b c h0 h1 hb hc => by by_cases y : a = x3; (rw [y]; exact v2 b c hb.1 (by omega) hc); exact v1 a b c h0 (by omega) hb hc) (by omega)
      · intro h2
        refine n_iconst c_25_25 (n_istore (L2 := [some (2, 44), some (2, 39), some (0, 2), some (0, x3), some (0, x4), some (0, 0), none]) c_25_26 rfl rfl (n_fg (le_s (le_s (le_s (le_s (le_s (le_s (le_n le_0))))))) ?_))
        exact ih.2.2 _ _ _ (by omega) (by omega) (by omega) (by omega) (by exact v1) (by exact v2) (by exact fun c h0 h1 => by omega) (by omega)
    · intro x3 x4 x5 k3 k4 k5 v0 v1 v2 v3 hnn
      refine n_iload c_25_28 rfl (n_iload_n c_25_30 rfl ?_)
      refine n_if2_ge c_25_31 (by omega) (by omega) ?_ ?_
      · intro h1
        refine n_iinc (L2 := [some (2, 44), some (2, 39), some (0, 2), some (0, x3), some (0, (x4 + 1)), some (0, x5), none]) c_25_79 rfl rfl rfl (n_goto c_25_82 (n_fg (le_s (le_s (le_s (le_s (le_s (le_n (le_n le_0))))))) ?_))
        exact ih.2.1 _ _ (by omega) (by omega) (by omega) (by exact v1) (by exact fun b c h0 h1 hc => by by_cases y : b = x4; (rw [y]; exact v3 c hc.1 (by omega)); exact v2 b c h0 (by omega) hc) (by omega)
      · intro h2
        refine n_aload_n c_25_34 rfl (n_aload_n c_25_35 rfl (n_aload_n c_25_36 rfl (n_aload_n c_25_37 rfl (n_iload_n c_25_38 rfl (n_iload c_25_39 rfl (n_v3I c_25_41 rfl sc_44.n rfl rfl rfl rfl (toldX_2 (a := x3) (b := x4) hS (by omega) (by omega) (by omega) (by exact hvv)) ?_))))))
        intro z3 M4 hP5
        obtain ⟨eM, f5, f5p0⟩ := hP5
        subst eM
        refine n_iload c_25_44 rfl (n_v3I c_25_46 rfl sc_44.n rfl rfl rfl rfl (toldX_2 (a := z3) (b := x5) hS (by omega) (by omega) (by omega) (by exact hvv)) ?_)
        intro z6 M7 hP8
        obtain ⟨eM, f8, f8p0⟩ := hP8
        subst eM
        refine n_istore (L2 := [some (2, 44), some (2, 39), some (0, 2), some (0, x3), some (0, x4), some (0, x5), some (0, z6)]) c_25_49 rfl rfl (n_iload c_25_51 rfl (n_aload_n c_25_53 rfl (n_aload_n c_25_54 rfl (n_iload_n c_25_55 rfl (n_aload_n c_25_56 rfl (n_aload_n c_25_57 rfl (n_iload c_25_58 rfl (n_iload c_25_60 rfl (n_v3I c_25_62 rfl sc_44.n rfl rfl rfl rfl (toldX_2 (a := x4) (b := x5) hS (by omega) (by omega) (by omega) (by exact hvv)) ?_)))))))))
        intro z9 M10 hP11
        obtain ⟨eM, f11, f11p0⟩ := hP11
        subst eM
        refine n_v3I c_25_65 rfl sc_44.n rfl rfl rfl rfl (toldX_2 (a := x3) (b := z9) hS (by omega) (by omega) (by omega) (by exact hvv)) ?_
        intro z12 M13 hP14
        obtain ⟨eM, f14, f14p0⟩ := hP14
        subst eM
        have k1 : z6 = M 39 (M 45 (M 39 (M 45 (x3 * 2 + x4)) * 2 + x5)) := by rw [f8p0, f5p0]
        have k2 : z12 = M 39 (M 45 (x3 * 2 + M 39 (M 45 (x4 * 2 + x5)))) := by rw [f14p0, f11p0]
        refine n_if2_eq c_25_68 (by omega) (by omega) ?_ ?_
        · intro h15
          refine n_iinc (L2 := [some (2, 44), some (2, 39), some (0, 2), some (0, x3), some (0, x4), some (0, (x5 + 1)), some (0, z6)]) c_25_73 rfl rfl rfl (n_goto c_25_76 (n_fg (le_s (le_s (le_s (le_s (le_s (le_s (le_n le_0))))))) ?_))
          exact ih.2.2 _ _ _ (by omega) (by omega) (by omega) (by omega) (by exact v1) (by exact v2) (by exact fun c h0 h1 => by by_cases y : c = x5; (rw [y]; omega); exact v3 c h0 (by omega)) (by omega)
        · intro h16
          refine n_iconst c_25_71 ?_
          exact n_rZ c_25_72 rfl (by omega) ⟨rfl, by omega, by exact (bb_f (fun q => by rcases q with q | q; omega; exact absurd (q x3 x4 x5 (by omega) (by omega) (by omega)) (by show ¬ (M 39 (M 45 (M 39 (M 45 (x3 * 2 + x4)) * 2 + x5)) = M 39 (M 45 (x3 * 2 + M 39 (M 45 (x4 * 2 + x5))))); omega))).symm⟩
set_option maxHeartbeats 4000000 in
theorem suitsX_2 {xs : List Int32} {e : Nat} {ac : Int} {M0 M : nM} (hS : Sf 2 ac M0 M) (h5 : M 44 5 = 2) (hvv : ∀ x : Int, 0 ≤ x → x < 4 → 0 ≤ M 39 (M 45 x) ∧ M 39 (M 45 x) < 2) : nW xs (e + 1) 25 0 [some (2, 44), some (2, 39), some (0, 2), none, none, none, none] [] M (nPI fun z M1 => M = M1 ∧ (0 ≤ z ∧ z ≤ 1) ∧ (z = bb (SUIT 2 (M 44 3) (fun x => M 45 x) (fun u => M 39 u)))) := by
  have hd : (2 : Int) = 2 ∨ (2 : Int) = 3 := by decide
  have hac := hS.2.2.2.2
  refine n_aload_n c_25_0 rfl (n_getV (bi := 3) c_25_1 sc_44.n rfl rfl rfl (t_44_3 hS) ?_)
  intro z1 ez1 f2
  refine n_if0_ne c_25_4 (by omega) ?_ ?_
  · intro h3
    refine n_iconst c_25_9 (n_istore_n (L2 := [some (2, 44), some (2, 39), some (0, 2), some (0, 0), none, none, none]) c_25_10 rfl rfl (n_fg (le_s (le_s (le_s (le_s (le_n (le_n (le_n le_0))))))) ?_))
    exact (suitsX_2_c hS h5 hvv 178).1 _ (by omega) (by omega) (by exact fun a b c h0 h1 => by omega) (by omega)
  · intro h4
    refine n_iconst c_25_7 ?_
    exact n_rZ c_25_8 rfl (by omega) ⟨rfl, by omega, by exact (bb_t (Or.inl (by omega))).symm⟩

set_option maxHeartbeats 4000000 in
theorem seekX_9_2 {xs : List Int32} {e : Nat} {ac : Int} {M0 M : nM} {Ms : nM} {V : Int} {n : Int} (hS : Sf 2 ac M0 M) (hms : M = Ms) (hN : NST 2 V Ms) (hkV : 9 ≤ V ∧ V ≤ 9) (hP : PF 2 9 n (fun i => Ms 40 i) (fun i => Ms 39 i)) (hF : ∀ i : Int, 0 ≤ i → i < 2 * 2 → 0 ≤ Ms 45 i ∧ Ms 45 i < V) (h45 : Ms 44 5 = 2) : nW xs (e + 3) 71 0 [some (2, 38), some (0, 9), some (2, 44), none] [] M (nPI fun z M1 => Sf 2 ac M0 M1 ∧ (0 ≤ z ∧ z ≤ 1) ∧ (SKP 2 V 9 n z Ms M1)) := by
  have hd : (2 : Int) = 2 ∨ (2 : Int) = 3 := by decide
  have hac := hS.2.2.2.2
  have q50 : M 38 5 = 2 := by rw [hms]; exact hN.1
  have q60 : M 38 6 = V := by rw [hms]; exact hN.2.1
  have q45 : M 44 5 = 2 := by rw [hms]; exact h45
  refine n_iload_n c_71_0 rfl (n_aload_n c_71_1 rfl (n_getV (bi := 6) c_71_2 sc_38.n rfl rfl rfl (t_38_6 hS) ?_))
  intro z1 ez1 f2
  obtain rfl : z1 = 9 := by omega
  refine n_if2_lt c_71_5 (by omega) (by omega) ?_ ?_
  · intro h3
    exfalso; omega
  · intro h4
    refine n_aload_n c_71_8 rfl (n_aload_n c_71_9 rfl (n_getR c_71_10 sc_38.n rfl rfl rfl r_38_0 (n_aload_n c_71_13 rfl (n_getV (bi := 5) c_71_14 sc_38.n rfl rfl rfl (t_38_5 hS) ?_))))
    intro z5 ez5 f6
    obtain rfl : z5 = 2 := by omega
    refine n_v2I c_71_17 rfl sc_44.n rfl rfl rfl rfl (suitsX_2  hS (by omega) (by rw [hms]; exact fun x x0 x1 => PF.vr (by decide) hP (by have y := hF x x0 (by omega); omega))) ?_
    intro z7 M8 hP9
    obtain ⟨eM, f9, f9p0⟩ := hP9
    subst eM
    exact n_rZ c_71_20 rfl (by omega) ⟨hS, by omega, by have e := f9p0; rw [hms] at e ⊢; exact SKP.leaf (by decide) (by omega) hP hF e⟩

set_option maxHeartbeats 4000000 in
theorem seekX_8_2_c {xs : List Int32} {e : Nat} {ac : Int} {M0 M : nM} {Ms : nM} {V : Int} {n : Int} (hS : Sf 2 ac M0 M) (hms : M = Ms) (hN : NST 2 V Ms) (hkV : 8 ≤ V ∧ V ≤ 9) (hP : PF 2 8 n (fun i => Ms 40 i) (fun i => Ms 39 i)) (hF : ∀ i : Int, 0 ≤ i → i < 2 * 2 → 0 ≤ Ms 45 i ∧ Ms 45 i < V) (h45 : Ms 44 5 = 2) : ∀ nn : Nat, (∀ (x3 : Int) (M : nM), Sf 2 ac M0 M → (0 ≤ x3 ∧ x3 ≤ 2) → (FV Ms M) → (∀ u : Int, 0 ≤ u → u < 8 → M 39 u = Ms 39 u) → (SKn 2 V 8 n x3 Ms) → (8 < V) → (2 - x3) * 1 + 1 < (nn : Int) → nW xs (e + 4) 71 23 [some (2, 38), some (0, 8), some (2, 44), some (0, x3)] [] M (nPI fun z M1 => Sf 2 ac M0 M1 ∧ (0 ≤ z ∧ z ≤ 1) ∧ (SKP 2 V 8 n z Ms M1))) := by
  have hd : (2 : Int) = 2 ∨ (2 : Int) = 3 := by decide
  have hac := hS.2.2.2.2
  have q50 : M 38 5 = 2 := by rw [hms]; exact hN.1
  have q60 : M 38 6 = V := by rw [hms]; exact hN.2.1
  have q45 : M 44 5 = 2 := by rw [hms]; exact h45
  intro nn
  induction nn with
  | zero => intros; omega
  | succ nn ih =>
    intro x3 M hS k3 v0 v1 v2 v3 hnn
    have q5 : M 38 5 = 2 := by rw [v0 38 5 (by omega)]; exact hN.1
    have hkV2 : 8 < V := by omega
    refine n_iload_n c_71_23 rfl (n_aload_n c_71_24 rfl (n_getV (bi := 5) c_71_25 sc_38.n rfl rfl rfl (t_38_5 hS) ?_))
    intro z1 ez1 f2
    obtain rfl : z1 = 2 := by omega
    refine n_if2_ge c_71_28 (by omega) (by omega) ?_ ?_
    · intro h3
      refine n_iconst c_71_65 ?_
      exact n_rZ c_71_66 rfl (by omega) ⟨hS, by omega, by have y := v2; rw [show x3 = 2 by omega] at y; exact SKP.none (k := 8) (by omega) v0 v1 y⟩
    · intro h4
      refine n_aload_n c_71_31 rfl (n_getR c_71_32 sc_38.n rfl rfl rfl r_38_0 (n_iload_n c_71_35 rfl (n_iload_n c_71_36 rfl (n_iastoreV hS c_71_37 sc_39.n rfl (by omega) (w_39 (by omega) (by omega)) ?_))))
      intro M5 eM5 hS5
      have g5_0 : M5 38 5 = M 38 5 := by rw [eM5]; exact nu_a (by omega)
      have g5_1 : M5 38 6 = M 38 6 := by rw [eM5]; exact nu_a (by omega)
      have fg2 := v0.u eM5
      have hn2 := fg2.nst hN
      refine n_aload_n c_71_38 rfl (n_iload_n c_71_39 rfl (n_v1I c_71_40 rfl sc_38.n rfl rfl rfl rfl (fitsX_2 (l := 8) hS5 (by omega) (by omega) (by exact fun c c0 c1 => hn2.lim (l := 8) (by omega) (by omega) c0 c1)) ?_))
      intro z6 M7 hP8
      obtain ⟨eM, f8, f8p0⟩ := hP8
      subst eM
      refine n_if0_eq c_71_43 (by omega) ?_ ?_
      · intro h9
        refine n_iinc (L2 := [some (2, 38), some (0, 8), some (2, 44), some (0, (x3 + 1))]) c_71_59 rfl rfl rfl (n_goto c_71_62 (n_fg (le_s (le_s (le_s (le_s le_0)))) ?_))
        exact ih _ M5 hS5 (by omega) (by exact fg2) (by exact (GA.w hP v1 eM5).1) (by exact SKn.no (k := 8) (by decide) hN (by omega) hP (by omega) v0 v1 eM5 (bb_z (by omega)) v2) (by omega) (by omega)
      · intro h10
        refine n_aload_n c_71_46 rfl (n_iload_n c_71_47 rfl (n_iconst c_71_48 (n_iadd c_71_49 rfl (n_aload_n c_71_50 rfl ?_))))
        have hcst : ((8 + 1) : Int) = 9 := by omega
        rw [hcst]
        refine n_s3I c_71_51 rfl rfl rfl rfl (seekX_9_2 (Ms := M5) (V := V) (n := (n * 2 + x3)) hS5 (by rfl) (by exact hn2) (by omega) (by exact SKn.pf (k := 8) (by decide) hN (by omega) hP (by omega) v0 v1 eM5 (bb_n (by omega))) (by exact fun i i0 i1 => by rw [fg2 45 i (by omega)]; exact hF i i0 i1) (by rw [fg2 44 5 (by omega)]; exact h45)) ?_
        intro z11 M12 hP13
        obtain ⟨hS12, f13, f13p0⟩ := hP13
        refine n_if0_eq c_71_54 (by omega) ?_ ?_
        · intro h14
          refine n_iinc (L2 := [some (2, 38), some (0, 8), some (2, 44), some (0, (x3 + 1))]) c_71_59 rfl rfl rfl (n_goto c_71_62 (n_fg (le_s (le_s (le_s (le_s le_0)))) ?_))
          exact ih _ M12 hS12 (by omega) (by exact fg2.tr f13p0.1) (by exact fun u u0 u1 => by rw [f13p0.2.1 u u0 (by omega), eM5, nu_i (by omega)]; exact v1 u u0 u1) (by exact SKn.go (k := 8) (by decide) (by omega) (by omega) v0 eM5 v2 f13p0 (by omega)) (by omega) (by omega)
        · intro h15
          refine n_iconst c_71_57 ?_
          exact n_rZ c_71_58 rfl (by omega) ⟨hS12, by omega, by exact SKP.found (k := 8) (by decide) (by omega) (by omega) v0 v1 eM5 v2 f13p0 (by omega)⟩
set_option maxHeartbeats 4000000 in
theorem seekX_8_2 {xs : List Int32} {e : Nat} {ac : Int} {M0 M : nM} {Ms : nM} {V : Int} {n : Int} (hS : Sf 2 ac M0 M) (hms : M = Ms) (hN : NST 2 V Ms) (hkV : 8 ≤ V ∧ V ≤ 9) (hP : PF 2 8 n (fun i => Ms 40 i) (fun i => Ms 39 i)) (hF : ∀ i : Int, 0 ≤ i → i < 2 * 2 → 0 ≤ Ms 45 i ∧ Ms 45 i < V) (h45 : Ms 44 5 = 2) : nW xs (e + 4) 71 0 [some (2, 38), some (0, 8), some (2, 44), none] [] M (nPI fun z M1 => Sf 2 ac M0 M1 ∧ (0 ≤ z ∧ z ≤ 1) ∧ (SKP 2 V 8 n z Ms M1)) := by
  have hd : (2 : Int) = 2 ∨ (2 : Int) = 3 := by decide
  have hac := hS.2.2.2.2
  have q50 : M 38 5 = 2 := by rw [hms]; exact hN.1
  have q60 : M 38 6 = V := by rw [hms]; exact hN.2.1
  have q45 : M 44 5 = 2 := by rw [hms]; exact h45
  refine n_iload_n c_71_0 rfl (n_aload_n c_71_1 rfl (n_getV (bi := 6) c_71_2 sc_38.n rfl rfl rfl (t_38_6 hS) ?_))
  intro z1 ez1 f2
  refine n_if2_lt c_71_5 (by omega) (by omega) ?_ ?_
  · intro h3
    refine n_iconst c_71_21 (n_istore_n (L2 := [some (2, 38), some (0, 8), some (2, 44), some (0, 0)]) c_71_22 rfl rfl (n_fg (le_s (le_s (le_s (le_s le_0)))) ?_))
    exact (seekX_8_2_c hS hms hN hkV hP hF h45 18) _ M hS (by omega) (by exact fun a i _ => by rw [hms]) (by exact fun u _ _ => by rw [hms]) (by exact SKn.zero) (by omega) (by omega)
  · intro h4
    refine n_aload_n c_71_8 rfl (n_aload_n c_71_9 rfl (n_getR c_71_10 sc_38.n rfl rfl rfl r_38_0 (n_aload_n c_71_13 rfl (n_getV (bi := 5) c_71_14 sc_38.n rfl rfl rfl (t_38_5 hS) ?_))))
    intro z5 ez5 f6
    obtain rfl : z5 = 2 := by omega
    refine n_v2I c_71_17 rfl sc_44.n rfl rfl rfl rfl (suitsX_2  hS (by omega) (by rw [hms]; exact fun x x0 x1 => PF.vr (by decide) hP (by have y := hF x x0 (by omega); omega))) ?_
    intro z7 M8 hP9
    obtain ⟨eM, f9, f9p0⟩ := hP9
    subst eM
    exact n_rZ c_71_20 rfl (by omega) ⟨hS, by omega, by have e := f9p0; rw [hms] at e ⊢; exact SKP.leaf (by decide) (by omega) hP hF e⟩

set_option maxHeartbeats 4000000 in
theorem seekX_7_2_c {xs : List Int32} {e : Nat} {ac : Int} {M0 M : nM} {Ms : nM} {V : Int} {n : Int} (hS : Sf 2 ac M0 M) (hms : M = Ms) (hN : NST 2 V Ms) (hkV : 7 ≤ V ∧ V ≤ 9) (hP : PF 2 7 n (fun i => Ms 40 i) (fun i => Ms 39 i)) (hF : ∀ i : Int, 0 ≤ i → i < 2 * 2 → 0 ≤ Ms 45 i ∧ Ms 45 i < V) (h45 : Ms 44 5 = 2) : ∀ nn : Nat, (∀ (x3 : Int) (M : nM), Sf 2 ac M0 M → (0 ≤ x3 ∧ x3 ≤ 2) → (FV Ms M) → (∀ u : Int, 0 ≤ u → u < 7 → M 39 u = Ms 39 u) → (SKn 2 V 7 n x3 Ms) → (7 < V) → (2 - x3) * 1 + 1 < (nn : Int) → nW xs (e + 5) 71 23 [some (2, 38), some (0, 7), some (2, 44), some (0, x3)] [] M (nPI fun z M1 => Sf 2 ac M0 M1 ∧ (0 ≤ z ∧ z ≤ 1) ∧ (SKP 2 V 7 n z Ms M1))) := by
  have hd : (2 : Int) = 2 ∨ (2 : Int) = 3 := by decide
  have hac := hS.2.2.2.2
  have q50 : M 38 5 = 2 := by rw [hms]; exact hN.1
  have q60 : M 38 6 = V := by rw [hms]; exact hN.2.1
  have q45 : M 44 5 = 2 := by rw [hms]; exact h45
  intro nn
  induction nn with
  | zero => intros; omega
  | succ nn ih =>
    intro x3 M hS k3 v0 v1 v2 v3 hnn
    have q5 : M 38 5 = 2 := by rw [v0 38 5 (by omega)]; exact hN.1
    have hkV2 : 7 < V := by omega
    refine n_iload_n c_71_23 rfl (n_aload_n c_71_24 rfl (n_getV (bi := 5) c_71_25 sc_38.n rfl rfl rfl (t_38_5 hS) ?_))
    intro z1 ez1 f2
    obtain rfl : z1 = 2 := by omega
    refine n_if2_ge c_71_28 (by omega) (by omega) ?_ ?_
    · intro h3
      refine n_iconst c_71_65 ?_
      exact n_rZ c_71_66 rfl (by omega) ⟨hS, by omega, by have y := v2; rw [show x3 = 2 by omega] at y; exact SKP.none (k := 7) (by omega) v0 v1 y⟩
    · intro h4
      refine n_aload_n c_71_31 rfl (n_getR c_71_32 sc_38.n rfl rfl rfl r_38_0 (n_iload_n c_71_35 rfl (n_iload_n c_71_36 rfl (n_iastoreV hS c_71_37 sc_39.n rfl (by omega) (w_39 (by omega) (by omega)) ?_))))
      intro M5 eM5 hS5
      have g5_0 : M5 38 5 = M 38 5 := by rw [eM5]; exact nu_a (by omega)
      have g5_1 : M5 38 6 = M 38 6 := by rw [eM5]; exact nu_a (by omega)
      have fg2 := v0.u eM5
      have hn2 := fg2.nst hN
      refine n_aload_n c_71_38 rfl (n_iload_n c_71_39 rfl (n_v1I c_71_40 rfl sc_38.n rfl rfl rfl rfl (fitsX_2 (l := 7) hS5 (by omega) (by omega) (by exact fun c c0 c1 => hn2.lim (l := 7) (by omega) (by omega) c0 c1)) ?_))
      intro z6 M7 hP8
      obtain ⟨eM, f8, f8p0⟩ := hP8
      subst eM
      refine n_if0_eq c_71_43 (by omega) ?_ ?_
      · intro h9
        refine n_iinc (L2 := [some (2, 38), some (0, 7), some (2, 44), some (0, (x3 + 1))]) c_71_59 rfl rfl rfl (n_goto c_71_62 (n_fg (le_s (le_s (le_s (le_s le_0)))) ?_))
        exact ih _ M5 hS5 (by omega) (by exact fg2) (by exact (GA.w hP v1 eM5).1) (by exact SKn.no (k := 7) (by decide) hN (by omega) hP (by omega) v0 v1 eM5 (bb_z (by omega)) v2) (by omega) (by omega)
      · intro h10
        refine n_aload_n c_71_46 rfl (n_iload_n c_71_47 rfl (n_iconst c_71_48 (n_iadd c_71_49 rfl (n_aload_n c_71_50 rfl ?_))))
        have hcst : ((7 + 1) : Int) = 8 := by omega
        rw [hcst]
        refine n_s3I c_71_51 rfl rfl rfl rfl (seekX_8_2 (Ms := M5) (V := V) (n := (n * 2 + x3)) hS5 (by rfl) (by exact hn2) (by omega) (by exact SKn.pf (k := 7) (by decide) hN (by omega) hP (by omega) v0 v1 eM5 (bb_n (by omega))) (by exact fun i i0 i1 => by rw [fg2 45 i (by omega)]; exact hF i i0 i1) (by rw [fg2 44 5 (by omega)]; exact h45)) ?_
        intro z11 M12 hP13
        obtain ⟨hS12, f13, f13p0⟩ := hP13
        refine n_if0_eq c_71_54 (by omega) ?_ ?_
        · intro h14
          refine n_iinc (L2 := [some (2, 38), some (0, 7), some (2, 44), some (0, (x3 + 1))]) c_71_59 rfl rfl rfl (n_goto c_71_62 (n_fg (le_s (le_s (le_s (le_s le_0)))) ?_))
          exact ih _ M12 hS12 (by omega) (by exact fg2.tr f13p0.1) (by exact fun u u0 u1 => by rw [f13p0.2.1 u u0 (by omega), eM5, nu_i (by omega)]; exact v1 u u0 u1) (by exact SKn.go (k := 7) (by decide) (by omega) (by omega) v0 eM5 v2 f13p0 (by omega)) (by omega) (by omega)
        · intro h15
          refine n_iconst c_71_57 ?_
          exact n_rZ c_71_58 rfl (by omega) ⟨hS12, by omega, by exact SKP.found (k := 7) (by decide) (by omega) (by omega) v0 v1 eM5 v2 f13p0 (by omega)⟩
set_option maxHeartbeats 4000000 in
theorem seekX_7_2 {xs : List Int32} {e : Nat} {ac : Int} {M0 M : nM} {Ms : nM} {V : Int} {n : Int} (hS : Sf 2 ac M0 M) (hms : M = Ms) (hN : NST 2 V Ms) (hkV : 7 ≤ V ∧ V ≤ 9) (hP : PF 2 7 n (fun i => Ms 40 i) (fun i => Ms 39 i)) (hF : ∀ i : Int, 0 ≤ i → i < 2 * 2 → 0 ≤ Ms 45 i ∧ Ms 45 i < V) (h45 : Ms 44 5 = 2) : nW xs (e + 5) 71 0 [some (2, 38), some (0, 7), some (2, 44), none] [] M (nPI fun z M1 => Sf 2 ac M0 M1 ∧ (0 ≤ z ∧ z ≤ 1) ∧ (SKP 2 V 7 n z Ms M1)) := by
  have hd : (2 : Int) = 2 ∨ (2 : Int) = 3 := by decide
  have hac := hS.2.2.2.2
  have q50 : M 38 5 = 2 := by rw [hms]; exact hN.1
  have q60 : M 38 6 = V := by rw [hms]; exact hN.2.1
  have q45 : M 44 5 = 2 := by rw [hms]; exact h45
  refine n_iload_n c_71_0 rfl (n_aload_n c_71_1 rfl (n_getV (bi := 6) c_71_2 sc_38.n rfl rfl rfl (t_38_6 hS) ?_))
  intro z1 ez1 f2
  refine n_if2_lt c_71_5 (by omega) (by omega) ?_ ?_
  · intro h3
    refine n_iconst c_71_21 (n_istore_n (L2 := [some (2, 38), some (0, 7), some (2, 44), some (0, 0)]) c_71_22 rfl rfl (n_fg (le_s (le_s (le_s (le_s le_0)))) ?_))
    exact (seekX_7_2_c hS hms hN hkV hP hF h45 18) _ M hS (by omega) (by exact fun a i _ => by rw [hms]) (by exact fun u _ _ => by rw [hms]) (by exact SKn.zero) (by omega) (by omega)
  · intro h4
    refine n_aload_n c_71_8 rfl (n_aload_n c_71_9 rfl (n_getR c_71_10 sc_38.n rfl rfl rfl r_38_0 (n_aload_n c_71_13 rfl (n_getV (bi := 5) c_71_14 sc_38.n rfl rfl rfl (t_38_5 hS) ?_))))
    intro z5 ez5 f6
    obtain rfl : z5 = 2 := by omega
    refine n_v2I c_71_17 rfl sc_44.n rfl rfl rfl rfl (suitsX_2  hS (by omega) (by rw [hms]; exact fun x x0 x1 => PF.vr (by decide) hP (by have y := hF x x0 (by omega); omega))) ?_
    intro z7 M8 hP9
    obtain ⟨eM, f9, f9p0⟩ := hP9
    subst eM
    exact n_rZ c_71_20 rfl (by omega) ⟨hS, by omega, by have e := f9p0; rw [hms] at e ⊢; exact SKP.leaf (by decide) (by omega) hP hF e⟩

set_option maxHeartbeats 4000000 in
theorem seekX_6_2_c {xs : List Int32} {e : Nat} {ac : Int} {M0 M : nM} {Ms : nM} {V : Int} {n : Int} (hS : Sf 2 ac M0 M) (hms : M = Ms) (hN : NST 2 V Ms) (hkV : 6 ≤ V ∧ V ≤ 9) (hP : PF 2 6 n (fun i => Ms 40 i) (fun i => Ms 39 i)) (hF : ∀ i : Int, 0 ≤ i → i < 2 * 2 → 0 ≤ Ms 45 i ∧ Ms 45 i < V) (h45 : Ms 44 5 = 2) : ∀ nn : Nat, (∀ (x3 : Int) (M : nM), Sf 2 ac M0 M → (0 ≤ x3 ∧ x3 ≤ 2) → (FV Ms M) → (∀ u : Int, 0 ≤ u → u < 6 → M 39 u = Ms 39 u) → (SKn 2 V 6 n x3 Ms) → (6 < V) → (2 - x3) * 1 + 1 < (nn : Int) → nW xs (e + 6) 71 23 [some (2, 38), some (0, 6), some (2, 44), some (0, x3)] [] M (nPI fun z M1 => Sf 2 ac M0 M1 ∧ (0 ≤ z ∧ z ≤ 1) ∧ (SKP 2 V 6 n z Ms M1))) := by
  have hd : (2 : Int) = 2 ∨ (2 : Int) = 3 := by decide
  have hac := hS.2.2.2.2
  have q50 : M 38 5 = 2 := by rw [hms]; exact hN.1
  have q60 : M 38 6 = V := by rw [hms]; exact hN.2.1
  have q45 : M 44 5 = 2 := by rw [hms]; exact h45
  intro nn
  induction nn with
  | zero => intros; omega
  | succ nn ih =>
    intro x3 M hS k3 v0 v1 v2 v3 hnn
    have q5 : M 38 5 = 2 := by rw [v0 38 5 (by omega)]; exact hN.1
    have hkV2 : 6 < V := by omega
    refine n_iload_n c_71_23 rfl (n_aload_n c_71_24 rfl (n_getV (bi := 5) c_71_25 sc_38.n rfl rfl rfl (t_38_5 hS) ?_))
    intro z1 ez1 f2
    obtain rfl : z1 = 2 := by omega
    refine n_if2_ge c_71_28 (by omega) (by omega) ?_ ?_
    · intro h3
      refine n_iconst c_71_65 ?_
      exact n_rZ c_71_66 rfl (by omega) ⟨hS, by omega, by have y := v2; rw [show x3 = 2 by omega] at y; exact SKP.none (k := 6) (by omega) v0 v1 y⟩
    · intro h4
      refine n_aload_n c_71_31 rfl (n_getR c_71_32 sc_38.n rfl rfl rfl r_38_0 (n_iload_n c_71_35 rfl (n_iload_n c_71_36 rfl (n_iastoreV hS c_71_37 sc_39.n rfl (by omega) (w_39 (by omega) (by omega)) ?_))))
      intro M5 eM5 hS5
      have g5_0 : M5 38 5 = M 38 5 := by rw [eM5]; exact nu_a (by omega)
      have g5_1 : M5 38 6 = M 38 6 := by rw [eM5]; exact nu_a (by omega)
      have fg2 := v0.u eM5
      have hn2 := fg2.nst hN
      refine n_aload_n c_71_38 rfl (n_iload_n c_71_39 rfl (n_v1I c_71_40 rfl sc_38.n rfl rfl rfl rfl (fitsX_2 (l := 6) hS5 (by omega) (by omega) (by exact fun c c0 c1 => hn2.lim (l := 6) (by omega) (by omega) c0 c1)) ?_))
      intro z6 M7 hP8
      obtain ⟨eM, f8, f8p0⟩ := hP8
      subst eM
      refine n_if0_eq c_71_43 (by omega) ?_ ?_
      · intro h9
        refine n_iinc (L2 := [some (2, 38), some (0, 6), some (2, 44), some (0, (x3 + 1))]) c_71_59 rfl rfl rfl (n_goto c_71_62 (n_fg (le_s (le_s (le_s (le_s le_0)))) ?_))
        exact ih _ M5 hS5 (by omega) (by exact fg2) (by exact (GA.w hP v1 eM5).1) (by exact SKn.no (k := 6) (by decide) hN (by omega) hP (by omega) v0 v1 eM5 (bb_z (by omega)) v2) (by omega) (by omega)
      · intro h10
        refine n_aload_n c_71_46 rfl (n_iload_n c_71_47 rfl (n_iconst c_71_48 (n_iadd c_71_49 rfl (n_aload_n c_71_50 rfl ?_))))
        have hcst : ((6 + 1) : Int) = 7 := by omega
        rw [hcst]
        refine n_s3I c_71_51 rfl rfl rfl rfl (seekX_7_2 (Ms := M5) (V := V) (n := (n * 2 + x3)) hS5 (by rfl) (by exact hn2) (by omega) (by exact SKn.pf (k := 6) (by decide) hN (by omega) hP (by omega) v0 v1 eM5 (bb_n (by omega))) (by exact fun i i0 i1 => by rw [fg2 45 i (by omega)]; exact hF i i0 i1) (by rw [fg2 44 5 (by omega)]; exact h45)) ?_
        intro z11 M12 hP13
        obtain ⟨hS12, f13, f13p0⟩ := hP13
        refine n_if0_eq c_71_54 (by omega) ?_ ?_
        · intro h14
          refine n_iinc (L2 := [some (2, 38), some (0, 6), some (2, 44), some (0, (x3 + 1))]) c_71_59 rfl rfl rfl (n_goto c_71_62 (n_fg (le_s (le_s (le_s (le_s le_0)))) ?_))
          exact ih _ M12 hS12 (by omega) (by exact fg2.tr f13p0.1) (by exact fun u u0 u1 => by rw [f13p0.2.1 u u0 (by omega), eM5, nu_i (by omega)]; exact v1 u u0 u1) (by exact SKn.go (k := 6) (by decide) (by omega) (by omega) v0 eM5 v2 f13p0 (by omega)) (by omega) (by omega)
        · intro h15
          refine n_iconst c_71_57 ?_
          exact n_rZ c_71_58 rfl (by omega) ⟨hS12, by omega, by exact SKP.found (k := 6) (by decide) (by omega) (by omega) v0 v1 eM5 v2 f13p0 (by omega)⟩
set_option maxHeartbeats 4000000 in
theorem seekX_6_2 {xs : List Int32} {e : Nat} {ac : Int} {M0 M : nM} {Ms : nM} {V : Int} {n : Int} (hS : Sf 2 ac M0 M) (hms : M = Ms) (hN : NST 2 V Ms) (hkV : 6 ≤ V ∧ V ≤ 9) (hP : PF 2 6 n (fun i => Ms 40 i) (fun i => Ms 39 i)) (hF : ∀ i : Int, 0 ≤ i → i < 2 * 2 → 0 ≤ Ms 45 i ∧ Ms 45 i < V) (h45 : Ms 44 5 = 2) : nW xs (e + 6) 71 0 [some (2, 38), some (0, 6), some (2, 44), none] [] M (nPI fun z M1 => Sf 2 ac M0 M1 ∧ (0 ≤ z ∧ z ≤ 1) ∧ (SKP 2 V 6 n z Ms M1)) := by
  have hd : (2 : Int) = 2 ∨ (2 : Int) = 3 := by decide
  have hac := hS.2.2.2.2
  have q50 : M 38 5 = 2 := by rw [hms]; exact hN.1
  have q60 : M 38 6 = V := by rw [hms]; exact hN.2.1
  have q45 : M 44 5 = 2 := by rw [hms]; exact h45
  refine n_iload_n c_71_0 rfl (n_aload_n c_71_1 rfl (n_getV (bi := 6) c_71_2 sc_38.n rfl rfl rfl (t_38_6 hS) ?_))
  intro z1 ez1 f2
  refine n_if2_lt c_71_5 (by omega) (by omega) ?_ ?_
  · intro h3
    refine n_iconst c_71_21 (n_istore_n (L2 := [some (2, 38), some (0, 6), some (2, 44), some (0, 0)]) c_71_22 rfl rfl (n_fg (le_s (le_s (le_s (le_s le_0)))) ?_))
    exact (seekX_6_2_c hS hms hN hkV hP hF h45 18) _ M hS (by omega) (by exact fun a i _ => by rw [hms]) (by exact fun u _ _ => by rw [hms]) (by exact SKn.zero) (by omega) (by omega)
  · intro h4
    refine n_aload_n c_71_8 rfl (n_aload_n c_71_9 rfl (n_getR c_71_10 sc_38.n rfl rfl rfl r_38_0 (n_aload_n c_71_13 rfl (n_getV (bi := 5) c_71_14 sc_38.n rfl rfl rfl (t_38_5 hS) ?_))))
    intro z5 ez5 f6
    obtain rfl : z5 = 2 := by omega
    refine n_v2I c_71_17 rfl sc_44.n rfl rfl rfl rfl (suitsX_2  hS (by omega) (by rw [hms]; exact fun x x0 x1 => PF.vr (by decide) hP (by have y := hF x x0 (by omega); omega))) ?_
    intro z7 M8 hP9
    obtain ⟨eM, f9, f9p0⟩ := hP9
    subst eM
    exact n_rZ c_71_20 rfl (by omega) ⟨hS, by omega, by have e := f9p0; rw [hms] at e ⊢; exact SKP.leaf (by decide) (by omega) hP hF e⟩

set_option maxHeartbeats 4000000 in
theorem seekX_5_2_c {xs : List Int32} {e : Nat} {ac : Int} {M0 M : nM} {Ms : nM} {V : Int} {n : Int} (hS : Sf 2 ac M0 M) (hms : M = Ms) (hN : NST 2 V Ms) (hkV : 5 ≤ V ∧ V ≤ 9) (hP : PF 2 5 n (fun i => Ms 40 i) (fun i => Ms 39 i)) (hF : ∀ i : Int, 0 ≤ i → i < 2 * 2 → 0 ≤ Ms 45 i ∧ Ms 45 i < V) (h45 : Ms 44 5 = 2) : ∀ nn : Nat, (∀ (x3 : Int) (M : nM), Sf 2 ac M0 M → (0 ≤ x3 ∧ x3 ≤ 2) → (FV Ms M) → (∀ u : Int, 0 ≤ u → u < 5 → M 39 u = Ms 39 u) → (SKn 2 V 5 n x3 Ms) → (5 < V) → (2 - x3) * 1 + 1 < (nn : Int) → nW xs (e + 7) 71 23 [some (2, 38), some (0, 5), some (2, 44), some (0, x3)] [] M (nPI fun z M1 => Sf 2 ac M0 M1 ∧ (0 ≤ z ∧ z ≤ 1) ∧ (SKP 2 V 5 n z Ms M1))) := by
  have hd : (2 : Int) = 2 ∨ (2 : Int) = 3 := by decide
  have hac := hS.2.2.2.2
  have q50 : M 38 5 = 2 := by rw [hms]; exact hN.1
  have q60 : M 38 6 = V := by rw [hms]; exact hN.2.1
  have q45 : M 44 5 = 2 := by rw [hms]; exact h45
  intro nn
  induction nn with
  | zero => intros; omega
  | succ nn ih =>
    intro x3 M hS k3 v0 v1 v2 v3 hnn
    have q5 : M 38 5 = 2 := by rw [v0 38 5 (by omega)]; exact hN.1
    have hkV2 : 5 < V := by omega
    refine n_iload_n c_71_23 rfl (n_aload_n c_71_24 rfl (n_getV (bi := 5) c_71_25 sc_38.n rfl rfl rfl (t_38_5 hS) ?_))
    intro z1 ez1 f2
    obtain rfl : z1 = 2 := by omega
    refine n_if2_ge c_71_28 (by omega) (by omega) ?_ ?_
    · intro h3
      refine n_iconst c_71_65 ?_
      exact n_rZ c_71_66 rfl (by omega) ⟨hS, by omega, by have y := v2; rw [show x3 = 2 by omega] at y; exact SKP.none (k := 5) (by omega) v0 v1 y⟩
    · intro h4
      refine n_aload_n c_71_31 rfl (n_getR c_71_32 sc_38.n rfl rfl rfl r_38_0 (n_iload_n c_71_35 rfl (n_iload_n c_71_36 rfl (n_iastoreV hS c_71_37 sc_39.n rfl (by omega) (w_39 (by omega) (by omega)) ?_))))
      intro M5 eM5 hS5
      have g5_0 : M5 38 5 = M 38 5 := by rw [eM5]; exact nu_a (by omega)
      have g5_1 : M5 38 6 = M 38 6 := by rw [eM5]; exact nu_a (by omega)
      have fg2 := v0.u eM5
      have hn2 := fg2.nst hN
      refine n_aload_n c_71_38 rfl (n_iload_n c_71_39 rfl (n_v1I c_71_40 rfl sc_38.n rfl rfl rfl rfl (fitsX_2 (l := 5) hS5 (by omega) (by omega) (by exact fun c c0 c1 => hn2.lim (l := 5) (by omega) (by omega) c0 c1)) ?_))
      intro z6 M7 hP8
      obtain ⟨eM, f8, f8p0⟩ := hP8
      subst eM
      refine n_if0_eq c_71_43 (by omega) ?_ ?_
      · intro h9
        refine n_iinc (L2 := [some (2, 38), some (0, 5), some (2, 44), some (0, (x3 + 1))]) c_71_59 rfl rfl rfl (n_goto c_71_62 (n_fg (le_s (le_s (le_s (le_s le_0)))) ?_))
        exact ih _ M5 hS5 (by omega) (by exact fg2) (by exact (GA.w hP v1 eM5).1) (by exact SKn.no (k := 5) (by decide) hN (by omega) hP (by omega) v0 v1 eM5 (bb_z (by omega)) v2) (by omega) (by omega)
      · intro h10
        refine n_aload_n c_71_46 rfl (n_iload_n c_71_47 rfl (n_iconst c_71_48 (n_iadd c_71_49 rfl (n_aload_n c_71_50 rfl ?_))))
        have hcst : ((5 + 1) : Int) = 6 := by omega
        rw [hcst]
        refine n_s3I c_71_51 rfl rfl rfl rfl (seekX_6_2 (Ms := M5) (V := V) (n := (n * 2 + x3)) hS5 (by rfl) (by exact hn2) (by omega) (by exact SKn.pf (k := 5) (by decide) hN (by omega) hP (by omega) v0 v1 eM5 (bb_n (by omega))) (by exact fun i i0 i1 => by rw [fg2 45 i (by omega)]; exact hF i i0 i1) (by rw [fg2 44 5 (by omega)]; exact h45)) ?_
        intro z11 M12 hP13
        obtain ⟨hS12, f13, f13p0⟩ := hP13
        refine n_if0_eq c_71_54 (by omega) ?_ ?_
        · intro h14
          refine n_iinc (L2 := [some (2, 38), some (0, 5), some (2, 44), some (0, (x3 + 1))]) c_71_59 rfl rfl rfl (n_goto c_71_62 (n_fg (le_s (le_s (le_s (le_s le_0)))) ?_))
          exact ih _ M12 hS12 (by omega) (by exact fg2.tr f13p0.1) (by exact fun u u0 u1 => by rw [f13p0.2.1 u u0 (by omega), eM5, nu_i (by omega)]; exact v1 u u0 u1) (by exact SKn.go (k := 5) (by decide) (by omega) (by omega) v0 eM5 v2 f13p0 (by omega)) (by omega) (by omega)
        · intro h15
          refine n_iconst c_71_57 ?_
          exact n_rZ c_71_58 rfl (by omega) ⟨hS12, by omega, by exact SKP.found (k := 5) (by decide) (by omega) (by omega) v0 v1 eM5 v2 f13p0 (by omega)⟩
set_option maxHeartbeats 4000000 in
theorem seekX_5_2 {xs : List Int32} {e : Nat} {ac : Int} {M0 M : nM} {Ms : nM} {V : Int} {n : Int} (hS : Sf 2 ac M0 M) (hms : M = Ms) (hN : NST 2 V Ms) (hkV : 5 ≤ V ∧ V ≤ 9) (hP : PF 2 5 n (fun i => Ms 40 i) (fun i => Ms 39 i)) (hF : ∀ i : Int, 0 ≤ i → i < 2 * 2 → 0 ≤ Ms 45 i ∧ Ms 45 i < V) (h45 : Ms 44 5 = 2) : nW xs (e + 7) 71 0 [some (2, 38), some (0, 5), some (2, 44), none] [] M (nPI fun z M1 => Sf 2 ac M0 M1 ∧ (0 ≤ z ∧ z ≤ 1) ∧ (SKP 2 V 5 n z Ms M1)) := by
  have hd : (2 : Int) = 2 ∨ (2 : Int) = 3 := by decide
  have hac := hS.2.2.2.2
  have q50 : M 38 5 = 2 := by rw [hms]; exact hN.1
  have q60 : M 38 6 = V := by rw [hms]; exact hN.2.1
  have q45 : M 44 5 = 2 := by rw [hms]; exact h45
  refine n_iload_n c_71_0 rfl (n_aload_n c_71_1 rfl (n_getV (bi := 6) c_71_2 sc_38.n rfl rfl rfl (t_38_6 hS) ?_))
  intro z1 ez1 f2
  refine n_if2_lt c_71_5 (by omega) (by omega) ?_ ?_
  · intro h3
    refine n_iconst c_71_21 (n_istore_n (L2 := [some (2, 38), some (0, 5), some (2, 44), some (0, 0)]) c_71_22 rfl rfl (n_fg (le_s (le_s (le_s (le_s le_0)))) ?_))
    exact (seekX_5_2_c hS hms hN hkV hP hF h45 18) _ M hS (by omega) (by exact fun a i _ => by rw [hms]) (by exact fun u _ _ => by rw [hms]) (by exact SKn.zero) (by omega) (by omega)
  · intro h4
    refine n_aload_n c_71_8 rfl (n_aload_n c_71_9 rfl (n_getR c_71_10 sc_38.n rfl rfl rfl r_38_0 (n_aload_n c_71_13 rfl (n_getV (bi := 5) c_71_14 sc_38.n rfl rfl rfl (t_38_5 hS) ?_))))
    intro z5 ez5 f6
    obtain rfl : z5 = 2 := by omega
    refine n_v2I c_71_17 rfl sc_44.n rfl rfl rfl rfl (suitsX_2  hS (by omega) (by rw [hms]; exact fun x x0 x1 => PF.vr (by decide) hP (by have y := hF x x0 (by omega); omega))) ?_
    intro z7 M8 hP9
    obtain ⟨eM, f9, f9p0⟩ := hP9
    subst eM
    exact n_rZ c_71_20 rfl (by omega) ⟨hS, by omega, by have e := f9p0; rw [hms] at e ⊢; exact SKP.leaf (by decide) (by omega) hP hF e⟩

set_option maxHeartbeats 4000000 in
theorem seekX_4_2_c {xs : List Int32} {e : Nat} {ac : Int} {M0 M : nM} {Ms : nM} {V : Int} {n : Int} (hS : Sf 2 ac M0 M) (hms : M = Ms) (hN : NST 2 V Ms) (hkV : 4 ≤ V ∧ V ≤ 9) (hP : PF 2 4 n (fun i => Ms 40 i) (fun i => Ms 39 i)) (hF : ∀ i : Int, 0 ≤ i → i < 2 * 2 → 0 ≤ Ms 45 i ∧ Ms 45 i < V) (h45 : Ms 44 5 = 2) : ∀ nn : Nat, (∀ (x3 : Int) (M : nM), Sf 2 ac M0 M → (0 ≤ x3 ∧ x3 ≤ 2) → (FV Ms M) → (∀ u : Int, 0 ≤ u → u < 4 → M 39 u = Ms 39 u) → (SKn 2 V 4 n x3 Ms) → (4 < V) → (2 - x3) * 1 + 1 < (nn : Int) → nW xs (e + 8) 71 23 [some (2, 38), some (0, 4), some (2, 44), some (0, x3)] [] M (nPI fun z M1 => Sf 2 ac M0 M1 ∧ (0 ≤ z ∧ z ≤ 1) ∧ (SKP 2 V 4 n z Ms M1))) := by
  have hd : (2 : Int) = 2 ∨ (2 : Int) = 3 := by decide
  have hac := hS.2.2.2.2
  have q50 : M 38 5 = 2 := by rw [hms]; exact hN.1
  have q60 : M 38 6 = V := by rw [hms]; exact hN.2.1
  have q45 : M 44 5 = 2 := by rw [hms]; exact h45
  intro nn
  induction nn with
  | zero => intros; omega
  | succ nn ih =>
    intro x3 M hS k3 v0 v1 v2 v3 hnn
    have q5 : M 38 5 = 2 := by rw [v0 38 5 (by omega)]; exact hN.1
    have hkV2 : 4 < V := by omega
    refine n_iload_n c_71_23 rfl (n_aload_n c_71_24 rfl (n_getV (bi := 5) c_71_25 sc_38.n rfl rfl rfl (t_38_5 hS) ?_))
    intro z1 ez1 f2
    obtain rfl : z1 = 2 := by omega
    refine n_if2_ge c_71_28 (by omega) (by omega) ?_ ?_
    · intro h3
      refine n_iconst c_71_65 ?_
      exact n_rZ c_71_66 rfl (by omega) ⟨hS, by omega, by have y := v2; rw [show x3 = 2 by omega] at y; exact SKP.none (k := 4) (by omega) v0 v1 y⟩
    · intro h4
      refine n_aload_n c_71_31 rfl (n_getR c_71_32 sc_38.n rfl rfl rfl r_38_0 (n_iload_n c_71_35 rfl (n_iload_n c_71_36 rfl (n_iastoreV hS c_71_37 sc_39.n rfl (by omega) (w_39 (by omega) (by omega)) ?_))))
      intro M5 eM5 hS5
      have g5_0 : M5 38 5 = M 38 5 := by rw [eM5]; exact nu_a (by omega)
      have g5_1 : M5 38 6 = M 38 6 := by rw [eM5]; exact nu_a (by omega)
      have fg2 := v0.u eM5
      have hn2 := fg2.nst hN
      refine n_aload_n c_71_38 rfl (n_iload_n c_71_39 rfl (n_v1I c_71_40 rfl sc_38.n rfl rfl rfl rfl (fitsX_2 (l := 4) hS5 (by omega) (by omega) (by exact fun c c0 c1 => hn2.lim (l := 4) (by omega) (by omega) c0 c1)) ?_))
      intro z6 M7 hP8
      obtain ⟨eM, f8, f8p0⟩ := hP8
      subst eM
      refine n_if0_eq c_71_43 (by omega) ?_ ?_
      · intro h9
        refine n_iinc (L2 := [some (2, 38), some (0, 4), some (2, 44), some (0, (x3 + 1))]) c_71_59 rfl rfl rfl (n_goto c_71_62 (n_fg (le_s (le_s (le_s (le_s le_0)))) ?_))
        exact ih _ M5 hS5 (by omega) (by exact fg2) (by exact (GA.w hP v1 eM5).1) (by exact SKn.no (k := 4) (by decide) hN (by omega) hP (by omega) v0 v1 eM5 (bb_z (by omega)) v2) (by omega) (by omega)
      · intro h10
        refine n_aload_n c_71_46 rfl (n_iload_n c_71_47 rfl (n_iconst c_71_48 (n_iadd c_71_49 rfl (n_aload_n c_71_50 rfl ?_))))
        have hcst : ((4 + 1) : Int) = 5 := by omega
        rw [hcst]
        refine n_s3I c_71_51 rfl rfl rfl rfl (seekX_5_2 (Ms := M5) (V := V) (n := (n * 2 + x3)) hS5 (by rfl) (by exact hn2) (by omega) (by exact SKn.pf (k := 4) (by decide) hN (by omega) hP (by omega) v0 v1 eM5 (bb_n (by omega))) (by exact fun i i0 i1 => by rw [fg2 45 i (by omega)]; exact hF i i0 i1) (by rw [fg2 44 5 (by omega)]; exact h45)) ?_
        intro z11 M12 hP13
        obtain ⟨hS12, f13, f13p0⟩ := hP13
        refine n_if0_eq c_71_54 (by omega) ?_ ?_
        · intro h14
          refine n_iinc (L2 := [some (2, 38), some (0, 4), some (2, 44), some (0, (x3 + 1))]) c_71_59 rfl rfl rfl (n_goto c_71_62 (n_fg (le_s (le_s (le_s (le_s le_0)))) ?_))
          exact ih _ M12 hS12 (by omega) (by exact fg2.tr f13p0.1) (by exact fun u u0 u1 => by rw [f13p0.2.1 u u0 (by omega), eM5, nu_i (by omega)]; exact v1 u u0 u1) (by exact SKn.go (k := 4) (by decide) (by omega) (by omega) v0 eM5 v2 f13p0 (by omega)) (by omega) (by omega)
        · intro h15
          refine n_iconst c_71_57 ?_
          exact n_rZ c_71_58 rfl (by omega) ⟨hS12, by omega, by exact SKP.found (k := 4) (by decide) (by omega) (by omega) v0 v1 eM5 v2 f13p0 (by omega)⟩
set_option maxHeartbeats 4000000 in
theorem seekX_4_2 {xs : List Int32} {e : Nat} {ac : Int} {M0 M : nM} {Ms : nM} {V : Int} {n : Int} (hS : Sf 2 ac M0 M) (hms : M = Ms) (hN : NST 2 V Ms) (hkV : 4 ≤ V ∧ V ≤ 9) (hP : PF 2 4 n (fun i => Ms 40 i) (fun i => Ms 39 i)) (hF : ∀ i : Int, 0 ≤ i → i < 2 * 2 → 0 ≤ Ms 45 i ∧ Ms 45 i < V) (h45 : Ms 44 5 = 2) : nW xs (e + 8) 71 0 [some (2, 38), some (0, 4), some (2, 44), none] [] M (nPI fun z M1 => Sf 2 ac M0 M1 ∧ (0 ≤ z ∧ z ≤ 1) ∧ (SKP 2 V 4 n z Ms M1)) := by
  have hd : (2 : Int) = 2 ∨ (2 : Int) = 3 := by decide
  have hac := hS.2.2.2.2
  have q50 : M 38 5 = 2 := by rw [hms]; exact hN.1
  have q60 : M 38 6 = V := by rw [hms]; exact hN.2.1
  have q45 : M 44 5 = 2 := by rw [hms]; exact h45
  refine n_iload_n c_71_0 rfl (n_aload_n c_71_1 rfl (n_getV (bi := 6) c_71_2 sc_38.n rfl rfl rfl (t_38_6 hS) ?_))
  intro z1 ez1 f2
  refine n_if2_lt c_71_5 (by omega) (by omega) ?_ ?_
  · intro h3
    refine n_iconst c_71_21 (n_istore_n (L2 := [some (2, 38), some (0, 4), some (2, 44), some (0, 0)]) c_71_22 rfl rfl (n_fg (le_s (le_s (le_s (le_s le_0)))) ?_))
    exact (seekX_4_2_c hS hms hN hkV hP hF h45 18) _ M hS (by omega) (by exact fun a i _ => by rw [hms]) (by exact fun u _ _ => by rw [hms]) (by exact SKn.zero) (by omega) (by omega)
  · intro h4
    refine n_aload_n c_71_8 rfl (n_aload_n c_71_9 rfl (n_getR c_71_10 sc_38.n rfl rfl rfl r_38_0 (n_aload_n c_71_13 rfl (n_getV (bi := 5) c_71_14 sc_38.n rfl rfl rfl (t_38_5 hS) ?_))))
    intro z5 ez5 f6
    obtain rfl : z5 = 2 := by omega
    refine n_v2I c_71_17 rfl sc_44.n rfl rfl rfl rfl (suitsX_2  hS (by omega) (by rw [hms]; exact fun x x0 x1 => PF.vr (by decide) hP (by have y := hF x x0 (by omega); omega))) ?_
    intro z7 M8 hP9
    obtain ⟨eM, f9, f9p0⟩ := hP9
    subst eM
    exact n_rZ c_71_20 rfl (by omega) ⟨hS, by omega, by have e := f9p0; rw [hms] at e ⊢; exact SKP.leaf (by decide) (by omega) hP hF e⟩

set_option maxHeartbeats 4000000 in
theorem seekX_3_2_c {xs : List Int32} {e : Nat} {ac : Int} {M0 M : nM} {Ms : nM} {V : Int} {n : Int} (hS : Sf 2 ac M0 M) (hms : M = Ms) (hN : NST 2 V Ms) (hkV : 3 ≤ V ∧ V ≤ 9) (hP : PF 2 3 n (fun i => Ms 40 i) (fun i => Ms 39 i)) (hF : ∀ i : Int, 0 ≤ i → i < 2 * 2 → 0 ≤ Ms 45 i ∧ Ms 45 i < V) (h45 : Ms 44 5 = 2) : ∀ nn : Nat, (∀ (x3 : Int) (M : nM), Sf 2 ac M0 M → (0 ≤ x3 ∧ x3 ≤ 2) → (FV Ms M) → (∀ u : Int, 0 ≤ u → u < 3 → M 39 u = Ms 39 u) → (SKn 2 V 3 n x3 Ms) → (3 < V) → (2 - x3) * 1 + 1 < (nn : Int) → nW xs (e + 9) 71 23 [some (2, 38), some (0, 3), some (2, 44), some (0, x3)] [] M (nPI fun z M1 => Sf 2 ac M0 M1 ∧ (0 ≤ z ∧ z ≤ 1) ∧ (SKP 2 V 3 n z Ms M1))) := by
  have hd : (2 : Int) = 2 ∨ (2 : Int) = 3 := by decide
  have hac := hS.2.2.2.2
  have q50 : M 38 5 = 2 := by rw [hms]; exact hN.1
  have q60 : M 38 6 = V := by rw [hms]; exact hN.2.1
  have q45 : M 44 5 = 2 := by rw [hms]; exact h45
  intro nn
  induction nn with
  | zero => intros; omega
  | succ nn ih =>
    intro x3 M hS k3 v0 v1 v2 v3 hnn
    have q5 : M 38 5 = 2 := by rw [v0 38 5 (by omega)]; exact hN.1
    have hkV2 : 3 < V := by omega
    refine n_iload_n c_71_23 rfl (n_aload_n c_71_24 rfl (n_getV (bi := 5) c_71_25 sc_38.n rfl rfl rfl (t_38_5 hS) ?_))
    intro z1 ez1 f2
    obtain rfl : z1 = 2 := by omega
    refine n_if2_ge c_71_28 (by omega) (by omega) ?_ ?_
    · intro h3
      refine n_iconst c_71_65 ?_
      exact n_rZ c_71_66 rfl (by omega) ⟨hS, by omega, by have y := v2; rw [show x3 = 2 by omega] at y; exact SKP.none (k := 3) (by omega) v0 v1 y⟩
    · intro h4
      refine n_aload_n c_71_31 rfl (n_getR c_71_32 sc_38.n rfl rfl rfl r_38_0 (n_iload_n c_71_35 rfl (n_iload_n c_71_36 rfl (n_iastoreV hS c_71_37 sc_39.n rfl (by omega) (w_39 (by omega) (by omega)) ?_))))
      intro M5 eM5 hS5
      have g5_0 : M5 38 5 = M 38 5 := by rw [eM5]; exact nu_a (by omega)
      have g5_1 : M5 38 6 = M 38 6 := by rw [eM5]; exact nu_a (by omega)
      have fg2 := v0.u eM5
      have hn2 := fg2.nst hN
      refine n_aload_n c_71_38 rfl (n_iload_n c_71_39 rfl (n_v1I c_71_40 rfl sc_38.n rfl rfl rfl rfl (fitsX_2 (l := 3) hS5 (by omega) (by omega) (by exact fun c c0 c1 => hn2.lim (l := 3) (by omega) (by omega) c0 c1)) ?_))
      intro z6 M7 hP8
      obtain ⟨eM, f8, f8p0⟩ := hP8
      subst eM
      refine n_if0_eq c_71_43 (by omega) ?_ ?_
      · intro h9
        refine n_iinc (L2 := [some (2, 38), some (0, 3), some (2, 44), some (0, (x3 + 1))]) c_71_59 rfl rfl rfl (n_goto c_71_62 (n_fg (le_s (le_s (le_s (le_s le_0)))) ?_))
        exact ih _ M5 hS5 (by omega) (by exact fg2) (by exact (GA.w hP v1 eM5).1) (by exact SKn.no (k := 3) (by decide) hN (by omega) hP (by omega) v0 v1 eM5 (bb_z (by omega)) v2) (by omega) (by omega)
      · intro h10
        refine n_aload_n c_71_46 rfl (n_iload_n c_71_47 rfl (n_iconst c_71_48 (n_iadd c_71_49 rfl (n_aload_n c_71_50 rfl ?_))))
        have hcst : ((3 + 1) : Int) = 4 := by omega
        rw [hcst]
        refine n_s3I c_71_51 rfl rfl rfl rfl (seekX_4_2 (Ms := M5) (V := V) (n := (n * 2 + x3)) hS5 (by rfl) (by exact hn2) (by omega) (by exact SKn.pf (k := 3) (by decide) hN (by omega) hP (by omega) v0 v1 eM5 (bb_n (by omega))) (by exact fun i i0 i1 => by rw [fg2 45 i (by omega)]; exact hF i i0 i1) (by rw [fg2 44 5 (by omega)]; exact h45)) ?_
        intro z11 M12 hP13
        obtain ⟨hS12, f13, f13p0⟩ := hP13
        refine n_if0_eq c_71_54 (by omega) ?_ ?_
        · intro h14
          refine n_iinc (L2 := [some (2, 38), some (0, 3), some (2, 44), some (0, (x3 + 1))]) c_71_59 rfl rfl rfl (n_goto c_71_62 (n_fg (le_s (le_s (le_s (le_s le_0)))) ?_))
          exact ih _ M12 hS12 (by omega) (by exact fg2.tr f13p0.1) (by exact fun u u0 u1 => by rw [f13p0.2.1 u u0 (by omega), eM5, nu_i (by omega)]; exact v1 u u0 u1) (by exact SKn.go (k := 3) (by decide) (by omega) (by omega) v0 eM5 v2 f13p0 (by omega)) (by omega) (by omega)
        · intro h15
          refine n_iconst c_71_57 ?_
          exact n_rZ c_71_58 rfl (by omega) ⟨hS12, by omega, by exact SKP.found (k := 3) (by decide) (by omega) (by omega) v0 v1 eM5 v2 f13p0 (by omega)⟩
set_option maxHeartbeats 4000000 in
theorem seekX_3_2 {xs : List Int32} {e : Nat} {ac : Int} {M0 M : nM} {Ms : nM} {V : Int} {n : Int} (hS : Sf 2 ac M0 M) (hms : M = Ms) (hN : NST 2 V Ms) (hkV : 3 ≤ V ∧ V ≤ 9) (hP : PF 2 3 n (fun i => Ms 40 i) (fun i => Ms 39 i)) (hF : ∀ i : Int, 0 ≤ i → i < 2 * 2 → 0 ≤ Ms 45 i ∧ Ms 45 i < V) (h45 : Ms 44 5 = 2) : nW xs (e + 9) 71 0 [some (2, 38), some (0, 3), some (2, 44), none] [] M (nPI fun z M1 => Sf 2 ac M0 M1 ∧ (0 ≤ z ∧ z ≤ 1) ∧ (SKP 2 V 3 n z Ms M1)) := by
  have hd : (2 : Int) = 2 ∨ (2 : Int) = 3 := by decide
  have hac := hS.2.2.2.2
  have q50 : M 38 5 = 2 := by rw [hms]; exact hN.1
  have q60 : M 38 6 = V := by rw [hms]; exact hN.2.1
  have q45 : M 44 5 = 2 := by rw [hms]; exact h45
  refine n_iload_n c_71_0 rfl (n_aload_n c_71_1 rfl (n_getV (bi := 6) c_71_2 sc_38.n rfl rfl rfl (t_38_6 hS) ?_))
  intro z1 ez1 f2
  refine n_if2_lt c_71_5 (by omega) (by omega) ?_ ?_
  · intro h3
    refine n_iconst c_71_21 (n_istore_n (L2 := [some (2, 38), some (0, 3), some (2, 44), some (0, 0)]) c_71_22 rfl rfl (n_fg (le_s (le_s (le_s (le_s le_0)))) ?_))
    exact (seekX_3_2_c hS hms hN hkV hP hF h45 18) _ M hS (by omega) (by exact fun a i _ => by rw [hms]) (by exact fun u _ _ => by rw [hms]) (by exact SKn.zero) (by omega) (by omega)
  · intro h4
    refine n_aload_n c_71_8 rfl (n_aload_n c_71_9 rfl (n_getR c_71_10 sc_38.n rfl rfl rfl r_38_0 (n_aload_n c_71_13 rfl (n_getV (bi := 5) c_71_14 sc_38.n rfl rfl rfl (t_38_5 hS) ?_))))
    intro z5 ez5 f6
    obtain rfl : z5 = 2 := by omega
    refine n_v2I c_71_17 rfl sc_44.n rfl rfl rfl rfl (suitsX_2  hS (by omega) (by rw [hms]; exact fun x x0 x1 => PF.vr (by decide) hP (by have y := hF x x0 (by omega); omega))) ?_
    intro z7 M8 hP9
    obtain ⟨eM, f9, f9p0⟩ := hP9
    subst eM
    exact n_rZ c_71_20 rfl (by omega) ⟨hS, by omega, by have e := f9p0; rw [hms] at e ⊢; exact SKP.leaf (by decide) (by omega) hP hF e⟩

set_option maxHeartbeats 4000000 in
theorem seekX_2_2_c {xs : List Int32} {e : Nat} {ac : Int} {M0 M : nM} {Ms : nM} {V : Int} {n : Int} (hS : Sf 2 ac M0 M) (hms : M = Ms) (hN : NST 2 V Ms) (hkV : 2 ≤ V ∧ V ≤ 9) (hP : PF 2 2 n (fun i => Ms 40 i) (fun i => Ms 39 i)) (hF : ∀ i : Int, 0 ≤ i → i < 2 * 2 → 0 ≤ Ms 45 i ∧ Ms 45 i < V) (h45 : Ms 44 5 = 2) : ∀ nn : Nat, (∀ (x3 : Int) (M : nM), Sf 2 ac M0 M → (0 ≤ x3 ∧ x3 ≤ 2) → (FV Ms M) → (∀ u : Int, 0 ≤ u → u < 2 → M 39 u = Ms 39 u) → (SKn 2 V 2 n x3 Ms) → (2 < V) → (2 - x3) * 1 + 1 < (nn : Int) → nW xs (e + 10) 71 23 [some (2, 38), some (0, 2), some (2, 44), some (0, x3)] [] M (nPI fun z M1 => Sf 2 ac M0 M1 ∧ (0 ≤ z ∧ z ≤ 1) ∧ (SKP 2 V 2 n z Ms M1))) := by
  have hd : (2 : Int) = 2 ∨ (2 : Int) = 3 := by decide
  have hac := hS.2.2.2.2
  have q50 : M 38 5 = 2 := by rw [hms]; exact hN.1
  have q60 : M 38 6 = V := by rw [hms]; exact hN.2.1
  have q45 : M 44 5 = 2 := by rw [hms]; exact h45
  intro nn
  induction nn with
  | zero => intros; omega
  | succ nn ih =>
    intro x3 M hS k3 v0 v1 v2 v3 hnn
    have q5 : M 38 5 = 2 := by rw [v0 38 5 (by omega)]; exact hN.1
    have hkV2 : 2 < V := by omega
    refine n_iload_n c_71_23 rfl (n_aload_n c_71_24 rfl (n_getV (bi := 5) c_71_25 sc_38.n rfl rfl rfl (t_38_5 hS) ?_))
    intro z1 ez1 f2
    obtain rfl : z1 = 2 := by omega
    refine n_if2_ge c_71_28 (by omega) (by omega) ?_ ?_
    · intro h3
      refine n_iconst c_71_65 ?_
      exact n_rZ c_71_66 rfl (by omega) ⟨hS, by omega, by have y := v2; rw [show x3 = 2 by omega] at y; exact SKP.none (k := 2) (by omega) v0 v1 y⟩
    · intro h4
      refine n_aload_n c_71_31 rfl (n_getR c_71_32 sc_38.n rfl rfl rfl r_38_0 (n_iload_n c_71_35 rfl (n_iload_n c_71_36 rfl (n_iastoreV hS c_71_37 sc_39.n rfl (by omega) (w_39 (by omega) (by omega)) ?_))))
      intro M5 eM5 hS5
      have g5_0 : M5 38 5 = M 38 5 := by rw [eM5]; exact nu_a (by omega)
      have g5_1 : M5 38 6 = M 38 6 := by rw [eM5]; exact nu_a (by omega)
      have fg2 := v0.u eM5
      have hn2 := fg2.nst hN
      refine n_aload_n c_71_38 rfl (n_iload_n c_71_39 rfl (n_v1I c_71_40 rfl sc_38.n rfl rfl rfl rfl (fitsX_2 (l := 2) hS5 (by omega) (by omega) (by exact fun c c0 c1 => hn2.lim (l := 2) (by omega) (by omega) c0 c1)) ?_))
      intro z6 M7 hP8
      obtain ⟨eM, f8, f8p0⟩ := hP8
      subst eM
      refine n_if0_eq c_71_43 (by omega) ?_ ?_
      · intro h9
        refine n_iinc (L2 := [some (2, 38), some (0, 2), some (2, 44), some (0, (x3 + 1))]) c_71_59 rfl rfl rfl (n_goto c_71_62 (n_fg (le_s (le_s (le_s (le_s le_0)))) ?_))
        exact ih _ M5 hS5 (by omega) (by exact fg2) (by exact (GA.w hP v1 eM5).1) (by exact SKn.no (k := 2) (by decide) hN (by omega) hP (by omega) v0 v1 eM5 (bb_z (by omega)) v2) (by omega) (by omega)
      · intro h10
        refine n_aload_n c_71_46 rfl (n_iload_n c_71_47 rfl (n_iconst c_71_48 (n_iadd c_71_49 rfl (n_aload_n c_71_50 rfl ?_))))
        have hcst : ((2 + 1) : Int) = 3 := by omega
        rw [hcst]
        refine n_s3I c_71_51 rfl rfl rfl rfl (seekX_3_2 (Ms := M5) (V := V) (n := (n * 2 + x3)) hS5 (by rfl) (by exact hn2) (by omega) (by exact SKn.pf (k := 2) (by decide) hN (by omega) hP (by omega) v0 v1 eM5 (bb_n (by omega))) (by exact fun i i0 i1 => by rw [fg2 45 i (by omega)]; exact hF i i0 i1) (by rw [fg2 44 5 (by omega)]; exact h45)) ?_
        intro z11 M12 hP13
        obtain ⟨hS12, f13, f13p0⟩ := hP13
        refine n_if0_eq c_71_54 (by omega) ?_ ?_
        · intro h14
          refine n_iinc (L2 := [some (2, 38), some (0, 2), some (2, 44), some (0, (x3 + 1))]) c_71_59 rfl rfl rfl (n_goto c_71_62 (n_fg (le_s (le_s (le_s (le_s le_0)))) ?_))
          exact ih _ M12 hS12 (by omega) (by exact fg2.tr f13p0.1) (by exact fun u u0 u1 => by rw [f13p0.2.1 u u0 (by omega), eM5, nu_i (by omega)]; exact v1 u u0 u1) (by exact SKn.go (k := 2) (by decide) (by omega) (by omega) v0 eM5 v2 f13p0 (by omega)) (by omega) (by omega)
        · intro h15
          refine n_iconst c_71_57 ?_
          exact n_rZ c_71_58 rfl (by omega) ⟨hS12, by omega, by exact SKP.found (k := 2) (by decide) (by omega) (by omega) v0 v1 eM5 v2 f13p0 (by omega)⟩
set_option maxHeartbeats 4000000 in
theorem seekX_2_2 {xs : List Int32} {e : Nat} {ac : Int} {M0 M : nM} {Ms : nM} {V : Int} {n : Int} (hS : Sf 2 ac M0 M) (hms : M = Ms) (hN : NST 2 V Ms) (hkV : 2 ≤ V ∧ V ≤ 9) (hP : PF 2 2 n (fun i => Ms 40 i) (fun i => Ms 39 i)) (hF : ∀ i : Int, 0 ≤ i → i < 2 * 2 → 0 ≤ Ms 45 i ∧ Ms 45 i < V) (h45 : Ms 44 5 = 2) : nW xs (e + 10) 71 0 [some (2, 38), some (0, 2), some (2, 44), none] [] M (nPI fun z M1 => Sf 2 ac M0 M1 ∧ (0 ≤ z ∧ z ≤ 1) ∧ (SKP 2 V 2 n z Ms M1)) := by
  have hd : (2 : Int) = 2 ∨ (2 : Int) = 3 := by decide
  have hac := hS.2.2.2.2
  have q50 : M 38 5 = 2 := by rw [hms]; exact hN.1
  have q60 : M 38 6 = V := by rw [hms]; exact hN.2.1
  have q45 : M 44 5 = 2 := by rw [hms]; exact h45
  refine n_iload_n c_71_0 rfl (n_aload_n c_71_1 rfl (n_getV (bi := 6) c_71_2 sc_38.n rfl rfl rfl (t_38_6 hS) ?_))
  intro z1 ez1 f2
  refine n_if2_lt c_71_5 (by omega) (by omega) ?_ ?_
  · intro h3
    refine n_iconst c_71_21 (n_istore_n (L2 := [some (2, 38), some (0, 2), some (2, 44), some (0, 0)]) c_71_22 rfl rfl (n_fg (le_s (le_s (le_s (le_s le_0)))) ?_))
    exact (seekX_2_2_c hS hms hN hkV hP hF h45 18) _ M hS (by omega) (by exact fun a i _ => by rw [hms]) (by exact fun u _ _ => by rw [hms]) (by exact SKn.zero) (by omega) (by omega)
  · intro h4
    refine n_aload_n c_71_8 rfl (n_aload_n c_71_9 rfl (n_getR c_71_10 sc_38.n rfl rfl rfl r_38_0 (n_aload_n c_71_13 rfl (n_getV (bi := 5) c_71_14 sc_38.n rfl rfl rfl (t_38_5 hS) ?_))))
    intro z5 ez5 f6
    obtain rfl : z5 = 2 := by omega
    refine n_v2I c_71_17 rfl sc_44.n rfl rfl rfl rfl (suitsX_2  hS (by omega) (by rw [hms]; exact fun x x0 x1 => PF.vr (by decide) hP (by have y := hF x x0 (by omega); omega))) ?_
    intro z7 M8 hP9
    obtain ⟨eM, f9, f9p0⟩ := hP9
    subst eM
    exact n_rZ c_71_20 rfl (by omega) ⟨hS, by omega, by have e := f9p0; rw [hms] at e ⊢; exact SKP.leaf (by decide) (by omega) hP hF e⟩

set_option maxHeartbeats 4000000 in
theorem findFirstX_2 {xs : List Int32} {e : Nat} {ac : Int} {M0 M : nM} {Ms : nM} {V : Int} (hS : Sf 2 ac M0 M) (hms : M = Ms) (hN : NST 2 V Ms) (hV : 2 ≤ V ∧ V ≤ 9) (h41 : Ms 44 1 = 2) (hF : ∀ i : Int, 0 ≤ i → i < 2 * 2 → 0 ≤ Ms 45 i ∧ Ms 45 i < V) (h45 : Ms 44 5 = 2) : nW xs (e + 15) 69 0 [some (2, 38), some (2, 44), none] [] M (nPI fun z M1 => Sf 2 ac M0 M1 ∧ (0 ≤ z ∧ z ≤ 1) ∧ (FFP 2 V 1 z Ms M1)) := by
  have hd : (2 : Int) = 2 ∨ (2 : Int) = 3 := by decide
  have hac := hS.2.2.2.2
  have q50 : M 38 5 = 2 := by rw [hms]; exact hN.1
  have q41 : M 44 1 = 2 := by rw [hms]; exact h41
  refine n_iconst c_69_0 (n_istore_n (L2 := [some (2, 38), some (2, 44), some (0, 0)]) c_69_1 rfl rfl (n_iload_n c_69_2 rfl (n_aload_n c_69_3 rfl (n_getV (bi := 1) c_69_4 sc_44.n rfl rfl rfl (t_44_1 hS) ?_))))
  intro z1 ez1 f2
  obtain rfl : z1 = 2 := by omega
  refine n_if2_ge c_69_7 (by omega) (by omega) ?_ ?_
  · intro h3
    exfalso; omega
  · intro h4
    refine n_aload_n c_69_10 rfl (n_getR c_69_11 sc_38.n rfl rfl rfl r_38_0 (n_iload_n c_69_14 rfl (n_iload_n c_69_15 rfl (n_iastoreV hS c_69_16 sc_39.n rfl (by omega) (w_39 (by omega) (by omega)) ?_))))
    intro M5 eM5 hS5
    have g5_0 : M5 44 1 = M 44 1 := by rw [eM5]; exact nu_a (by omega)
    have g5_1 : M5 38 5 = M 38 5 := by rw [eM5]; exact nu_a (by omega)
    have fv1 : FV Ms M5 := FV.u (fun a i _ => by rw [hms]) eM5
    have ns1 := fv1.nst hN
    have w1 : ∀ u : Int, 0 ≤ u → u ≤ 0 → M5 39 u = u := fun u u0 u1 => by rw [eM5, nu_e]; by_cases y : u = 0; (rw [if_pos ⟨rfl, y⟩]; omega); (rw [if_neg (fun q => y q.2)]; omega)
    have q5_1 : M5 38 5 = 2 := by rw [fv1 38 5 (by omega)]; exact hN.1
    refine n_aload_n c_69_17 rfl (n_iload_n c_69_18 rfl (n_v1I c_69_19 rfl sc_38.n rfl rfl rfl rfl (fitsX_2 (l := 0) hS5 (by omega) (by omega) (by exact fun c c0 c1 => ns1.lim (l := 0) (by omega) (by omega) c0 c1)) ?_))
    intro z6 M7 hP8
    obtain ⟨eM, f8, f8p0⟩ := hP8
    subst eM
    have fe0 : z6 = bb (∀ c : Int, M5 43 0 ≤ c → c < M5 43 (0 + 1) → CHK 2 (fun i => M5 41 i) (fun i => M5 42 i) (fun i => M5 39 i) c) := f8p0
    refine n_if0_ne c_69_22 (by omega) ?_ ?_
    · intro h9
      refine n_iinc (L2 := [some (2, 38), some (2, 44), some (0, (0 + 1))]) c_69_27 rfl rfl rfl ?_
      have fq0 := (NST.fit (l := 0) (by decide) ns1 (by omega) (by omega) (fun u u0 u1 => by rw [w1 u u0 u1]; omega)).mp (bb_n (by omega))
      refine n_goto c_69_30 (n_iload_n c_69_2 rfl (n_aload_n c_69_3 rfl (n_getV (bi := 1) c_69_4 sc_44.n rfl rfl rfl (t_44_1 hS5) ?_)))
      intro z10 ez10 f11
      obtain rfl : z10 = 2 := by omega
      refine n_if2_ge c_69_7 (by omega) (by omega) ?_ ?_
      · intro h12
        exfalso; omega
      · intro h13
        refine n_aload_n c_69_10 rfl (n_getR c_69_11 sc_38.n rfl rfl rfl r_38_0 (n_iload_n c_69_14 rfl (n_iload_n c_69_15 rfl (n_iastoreV hS5 c_69_16 sc_39.n rfl (by omega) (w_39 (by omega) (by omega)) ?_))))
        intro M14 eM14 hS14
        have g14_0 : M14 44 1 = M5 44 1 := by rw [eM14]; exact nu_a (by omega)
        have g14_1 : M14 38 5 = M5 38 5 := by rw [eM14]; exact nu_a (by omega)
        have fv2 : FV Ms M14 := fv1.u eM14
        have ns2 := fv2.nst hN
        have w2 : ∀ u : Int, 0 ≤ u → u ≤ 1 → M14 39 u = u := fun u u0 u1 => by rw [eM14, nu_e]; by_cases y : u = 1; (rw [if_pos ⟨rfl, y⟩]; omega); (rw [if_neg (fun q => y q.2)]; exact w1 u u0 (by omega))
        have q5_2 : M14 38 5 = 2 := by rw [fv2 38 5 (by omega)]; exact hN.1
        refine n_aload_n c_69_17 rfl (n_iload_n c_69_18 rfl (n_v1I c_69_19 rfl sc_38.n rfl rfl rfl rfl (fitsX_2 (l := (0 + 1)) hS14 (by omega) (by omega) (by exact fun c c0 c1 => ns2.lim (l := 1) (by omega) (by omega) c0 c1)) ?_))
        intro z15 M16 hP17
        obtain ⟨eM, f17, f17p0⟩ := hP17
        subst eM
        have fe1 : z15 = bb (∀ c : Int, M14 43 1 ≤ c → c < M14 43 (1 + 1) → CHK 2 (fun i => M14 41 i) (fun i => M14 42 i) (fun i => M14 39 i) c) := f17p0
        refine n_if0_ne c_69_22 (by omega) ?_ ?_
        · intro h18
          refine n_iinc (L2 := [some (2, 38), some (2, 44), some (0, ((0 + 1) + 1))]) c_69_27 rfl rfl rfl ?_
          have fq1 := (NST.fit (l := 1) (by decide) ns2 (by omega) (by omega) (fun u u0 u1 => by rw [w2 u u0 u1]; omega)).mp (bb_n (by omega))
          refine n_goto c_69_30 (n_iload_n c_69_2 rfl (n_aload_n c_69_3 rfl (n_getV (bi := 1) c_69_4 sc_44.n rfl rfl rfl (t_44_1 hS14) ?_)))
          intro z19 ez19 f20
          obtain rfl : z19 = 2 := by omega
          refine n_if2_ge c_69_7 (by omega) (by omega) ?_ ?_
          · intro h21
            refine n_aload_n c_69_33 rfl (n_aload_n c_69_34 rfl (n_getV (bi := 1) c_69_35 sc_44.n rfl rfl rfl (t_44_1 hS14) ?_))
            intro z22 ez22 f23
            obtain rfl : z22 = 2 := by omega
            have ft0 : FIT 2 (fun i => M14 40 i) (fun i => M14 39 i) 0 := by rw [show (fun i => M14 40 i) = fun i => M5 40 i from funext fun i => by rw [fv2 40 i (by omega), fv1 40 i (by omega)]]; exact fq0.congr (fun u u0 u1 => by show M5 39 u = M14 39 u; rw [w1 u u0 u1, w2 u u0 (by omega)])
            have ft1 : FIT 2 (fun i => M14 40 i) (fun i => M14 39 i) 1 := fq1
            refine n_aload_n c_69_38 rfl ?_
            refine n_s3I c_69_39 rfl rfl rfl rfl (seekX_2_2 (Ms := M14) (V := V) (n := 1) hS14 (by rfl) (by exact ns2) (by omega) (by exact ⟨fun u u0 u1 => by show M14 39 u = 1 / pn 2 (2 - 1 - u).toNat % 2; rw [w2 u u0 (by omega)]; rcases (show u = 0 ∨ u = 1 by omega) with rfl | rfl <;> decide, fun l l0 l1 => by rcases (show l = 0 ∨ l = 1 by omega) with rfl | rfl; exact ft0; exact ft1⟩) (by exact fun i i0 i1 => by rw [fv2 45 i (by omega)]; exact hF i i0 i1) (by rw [fv2 44 5 (by omega)]; exact h45)) ?_
            intro z24 M25 hP26
            obtain ⟨hS25, f26, f26p0⟩ := hP26
            exact n_rZ c_69_42 rfl (by omega) ⟨hS25, by omega, by exact FFP.of fv2 f26p0⟩
          · intro h27
            exfalso; omega
        · intro h28
          refine n_iconst c_69_25 ?_
          exact n_rZ c_69_26 rfl (by omega) ⟨hS14, by omega, by exact FFP.fail (k := 1) (by decide) hN (by omega) (by omega) (fun u u0 u1 => by rcases (show u = 0 ∨ u = 1 by omega) with rfl | rfl <;> decide) fv2 w2 (bb_z (by omega))⟩
    · intro h29
      refine n_iconst c_69_25 ?_
      exact n_rZ c_69_26 rfl (by omega) ⟨hS5, by omega, by exact FFP.fail (k := 0) (by decide) hN (by omega) (by omega) (fun u u0 u1 => by rcases (show u = 0 by omega) with rfl <;> decide) fv1 w1 (bb_z (by omega))⟩
