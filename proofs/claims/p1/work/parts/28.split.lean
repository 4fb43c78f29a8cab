/-! A call taken apart: the called method by itself, then the caller with its answer. -/
noncomputable def ma_kp (T : ma_T8) (a n : Nat) (t0 : ma_T8) : ma_T8 := Nat.rec (motive := fun _ => ma_T8) t0 (fun m t => match ma_g8 T (Nat.add a m) with
  | none => t
  | some x => ma_p8 t (Nat.add a m) x) n
theorem ma_kp_get {T t0 : ma_T8} {a i : Nat} {x : ma_C} : ∀ (n : Nat), ma_g8 (ma_kp T a n t0) i = some x → i < 256 → a + n ≤ 256 → (a ≤ i ∧ i < a + n ∧ ma_g8 T i = some x) ∨ ma_g8 t0 i = some x := by
  intro n
  induction n with
  | zero => intro h _ _; exact Or.inr h
  | succ n ih =>
    intro h hi hn
    have e : ma_kp T a (n + 1) t0 = match ma_g8 T (Nat.add a n) with
      | none => ma_kp T a n t0
      | some x => ma_p8 (ma_kp T a n t0) (Nat.add a n) x := rfl
    rw [e] at h
    cases hq : ma_g8 T (Nat.add a n) with
    | none =>
      rw [hq] at h
      rcases ih h hi (by omega) with ⟨h1, h2, h3⟩ | h1
      · exact Or.inl ⟨h1, by omega, h3⟩
      · exact Or.inr h1
    | some y =>
      rw [hq] at h
      have h : ma_g8 (ma_p8 (ma_kp T a n t0) (Nat.add a n) y) i = some x := h
      by_cases hia : i = a + n
      · subst hia
        rw [ma_g_hit8 (ma_kp T a n t0) (Nat.add a n) y (a + n) rfl] at h
        cases h
        exact Or.inl ⟨by omega, by omega, hq⟩
      · rw [ma_g_miss8 _ _ _ _ (by show ¬ (a + n) % 256 = i % 256; omega)] at h
        rcases ih h hi (by omega) with ⟨h1, h2, h3⟩ | h1
        · exact Or.inl ⟨h1, by omega, h3⟩
        · exact Or.inr h1
noncomputable def mp_one (w : ma_R) : Option ma_S := match w with
  | none => none
  | some l => (match l with
    | [] => none
    | c :: t => (match t with
      | [] => some c
      | _ :: _ => none))
theorem mp_one_eq {w : ma_R} {c : ma_S} (h : mp_one w = some c) : w = some [c] := by
  cases w with
  | none => cases h
  | some l =>
    cases l with
    | nil => cases h
    | cons a t =>
      cases t with
      | nil => cases h; rfl
      | cons _ _ => cases h
noncomputable def mp_kA (T : ma_T8) : ma_T8 := ma_kp T 3 109 (ma_kp T 0 2 ma_n8)
noncomputable def mp_kB (T : ma_T8) : ma_T8 := ma_kp T 112 18 (ma_kp T 2 1 ma_n8)
theorem mp_kA_get {T : ma_T8} {i : Nat} {x : ma_C} (h : ma_g8 (mp_kA T) i = some x) (hi : i < 256) : i < 112 ∧ i ≠ 2 ∧ ma_g8 T i = some x := by
  rcases ma_kp_get _ h hi (by decide) with ⟨h1, h2, h3⟩ | h
  · exact ⟨by omega, by omega, h3⟩
  · rcases ma_kp_get _ h hi (by decide) with ⟨h1, h2, h3⟩ | h
    · exact ⟨by omega, by omega, h3⟩
    · rw [ma_g_nil8] at h
      cases h
theorem mp_kB_get {T : ma_T8} {i : Nat} {x : ma_C} (h : ma_g8 (mp_kB T) i = some x) (hi : i < 256) : (i = 2 ∨ (112 ≤ i ∧ i < 130)) ∧ ma_g8 T i = some x := by
  rcases ma_kp_get _ h hi (by decide) with ⟨h1, h2, h3⟩ | h
  · exact ⟨by omega, h3⟩
  · rcases ma_kp_get _ h hi (by decide) with ⟨h1, h2, h3⟩ | h
    · exact ⟨by omega, h3⟩
    · rw [ma_g_nil8] at h
      cases h
noncomputable def mp_A1 (x : ma_V) (c : ma_S) : ma_R := match c.2.2 with
  | [] => none
  | f :: _ => ma_b (Nat.beq c.2.1.1 130 && Nat.beq (ma_len c.1) 5) (some [(c.1, (c.2.1.1, (x, 130), mp_kA c.2.1.2.2), [f])]) none
noncomputable def mp_B1 (x : ma_V) (c : ma_S) : ma_R := match c.2.2 with
  | [] => none
  | _ :: K => (match K with
    | [] => none
    | f :: K => some [(c.1, (c.2.1.1, c.2.1.2.1, mp_kB c.2.1.2.2), (f.1, f.2.1, f.2.2.1, f.2.2.2.1, x :: f.2.2.2.2) :: K)])
noncomputable def mp_A (x : ma_V) (w : ma_R) : ma_R := match mp_one w with
  | none => none
  | some c => mp_A1 x c
noncomputable def mp_B (x : ma_V) (w : ma_R) : ma_R := match mp_one w with
  | none => none
  | some c => mp_B1 x c
def mp_less (x : ma_V) : Prop := ∀ (rs t : List Int) (w : Value), rs.length = 5 → mo_v (rs ++ t) x w → mo_v rs x w
theorem mp_less_c (z : Int) : mp_less (ma_ci z) := fun _ _ _ _ h => h
theorem mp_less_u {v : Nat} (hv : v < 5) (o : Int) : mp_less (ma_uv v o) := fun rs t w hl h => by
  obtain ⟨r, z, h1, h2, h3⟩ := h
  exact ⟨r, z, by rw [List.getElem?_append_left (by omega)] at h1; exact h1, h2, h3⟩
def mp_U (i : Nat) : Prop := i = 2 ∨ (112 ≤ i ∧ i < 130)
theorem mp_split1 {X : mo_X} (hU : ∀ i, ¬ X.2.2.2.1 i) {c : ma_S} {x : ma_V} (hx : mp_less x) (hA : ∀ X1, mo_Gs X1 (mp_A1 x c)) (hB : mo_Gs X (mp_B1 x c)) : mo_G X c := by
  obtain ⟨E, H, fr⟩ := c
  cases fr with
  | nil => exact (hB : False).elim
  | cons f1 K =>
    cases K with
    | nil => exact (hB : False).elim
    | cons f2 K =>
      have hB : mo_Gs X (some [(E, (H.1, H.2.1, mp_kB H.2.2), (f2.1, f2.2.1, f2.2.2.1, f2.2.2.2.1, x :: f2.2.2.2.2) :: K)]) := hB
      have hA : ∀ X1, mo_Gs X1 (ma_b (Nat.beq H.1 130 && Nat.beq (ma_len E) 5) (some [(E, (H.1, (x, 130), mp_kA H.2.2), [f1])]) none) := hA
      have hb := (ma_b_n (hA X)).1
      rw [Bool.and_eq_true] at hb
      have b1 := Nat.eq_of_beq_eq_true hb.1
      have b2 := Nat.eq_of_beq_eq_true hb.2
      rw [ma_len_eq] at b2
      intro rs hp fs hR hF
      obtain ⟨hX, hE, hH, hev, -⟩ := hR
      have hE : mo_E rs E := hE
      have hH : mo_H rs H hp := hH
      have hrl : rs.length = 5 := by rw [hE.1, b2]
      cases fs with
      | nil => exact (hF : False).elim
      | cons g1 fs =>
        cases fs with
        | nil => exact (hF.2 : False).elim
        | cons g2 gs =>
          obtain ⟨hf1, hf2, hfs⟩ : mo_f rs f1 g1 ∧ mo_f rs f2 g2 ∧ mo_fs rs K gs := hF
          let Q : mo_Q := fun v hp1 => (∃ w, v = some w ∧ mo_v rs x w) ∧ hp1.length = 130 ∧ ∀ i, mp_U i → hp1[i]? = hp[i]?
          have a := (ma_b_n (hA (rs, (x, 130), hp, mp_U, Q))).2 _ (List.mem_singleton.mpr rfl) rs hp [g1] ⟨⟨[], by rw [List.append_nil]⟩, hE, ⟨hH.1, hH.2.1, fun i y hi hy => hH.2.2 i y hi (mp_kA_get hy hi).2.2⟩, ⟨rfl, fun v hp1 q => by
            obtain ⟨⟨w, t, q1, q2⟩, q3, q4⟩ := q
            exact ⟨⟨w, q1, hx _ _ _ hrl q2⟩, q3, q4⟩⟩, fun i hi => by
            have hi : mp_U i := hi
            have h130 : i < 130 := by rcases hi with h | h <;> omega
            refine ⟨by show i < H.1; omega, ?_, rfl⟩
            show ma_g8 (mp_kA H.2.2) i = none
            cases hk : ma_g8 (mp_kA H.2.2) i with
            | none => rfl
            | some y =>
              have := mp_kA_get hk (by omega)
              rcases hi with h | h <;> omega⟩ ⟨hf1, trivial⟩
          obtain ⟨d1, j1, k1, L1, st1⟩ := g1
          obtain ⟨d2, j2, k2, L2, st2⟩ := g2
          obtain ⟨n, r, hp1, a1, ⟨w, rfl, a2⟩, a3, a4⟩ := a
          refine ⟨n, some w, hp1, a1, ?_⟩
          exact hB _ (List.mem_singleton.mpr rfl) rs hp1 ((d2, j2, k2, L2, w :: st2) :: gs) ⟨hX, hE, ⟨by show hp1.length = H.1; omega, by show H.1 ≤ 252; omega, fun i y hi hy => by
            obtain ⟨q1, q2⟩ := mp_kB_get hy hi
            obtain ⟨vs, q3, q4⟩ := hH.2.2 i y hi q2
            exact ⟨vs, by rw [a4 i q1]; exact q3, q4⟩⟩, hev, fun i hi => (hU i hi).elim⟩ ⟨⟨hf2.1, hf2.2.1, hf2.2.2.1, hf2.2.2.2.1, a2, hf2.2.2.2.2⟩, hfs⟩
theorem mp_split {X : mo_X} (hU : ∀ i, ¬ X.2.2.2.1 i) {w : ma_R} {x : ma_V} (hx : mp_less x) (hA : ∀ X1, mo_Gs X1 (mp_A x w)) (hB : mo_Gs X (mp_B x w)) : mo_Gs X w := by
  unfold mp_A at hA
  unfold mp_B at hB
  cases hq : mp_one w with
  | none => rw [hq] at hB; exact (hB : False).elim
  | some c =>
    rw [hq] at hB
    have hA : ∀ X1, mo_Gs X1 (mp_A1 x c) := fun X1 => by have := hA X1; rw [hq] at this; exact this
    rw [mp_one_eq hq]
    intro c' hc
    cases List.mem_singleton.mp hc
    exact mp_split1 hU hx hA hB
/-- the unknowns, three of them more narrowly -/
def mp_Ea (a b c : Int × Int) : ma_E := [(mp_lo, mp_hi), a, b, c, (mp_lo, mp_hi)]
def mp_a : Int × Int := (mp_lo, mp_hi)
theorem mp_Ea_ok (xs : List Int32) {a b c : Int × Int} (ha : a.1 ≤ (xs.getD 1 0).toInt ∧ (xs.getD 1 0).toInt ≤ a.2) (hb : b.1 ≤ (xs.getD 2 0).toInt ∧ (xs.getD 2 0).toInt ≤ b.2) (hc : c.1 ≤ (xs.getD 3 0).toInt ∧ (xs.getD 3 0).toInt ≤ c.2) : mo_E (mp_rs xs) (mp_Ea a b c) := by
  refine ⟨rfl, fun i lo hi r h1 h2 => ?_⟩
  have hi5 : i < 5 := (List.getElem?_eq_some_iff.mp h1).1
  revert h1 h2
  refine mp_five (P := fun i => (mp_Ea a b c)[i]? = some (lo, hi) → (mp_rs xs)[i]? = some r → lo ≤ r ∧ r ≤ hi) ?_ ?_ ?_ ?_ ?_ i hi5
  · intro h1 h2; cases h1; cases h2; exact mp_i32 _
  · intro h1 h2; cases h1; cases h2; exact ha
  · intro h1 h2; cases h1; cases h2; exact hb
  · intro h1 h2; cases h1; cases h2; exact hc
  · intro h1 h2; cases h1; cases h2; exact mp_i32 _
