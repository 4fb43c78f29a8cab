/-! One call on a fresh object: the start, the runs, how they come together. -/
noncomputable def mp_t2 : ma_A15 := ma_as15 (ma_as15 (ma_a15 (ma_ci (.ofNat 0))) 0 (ma_ci (.ofNat 0))) 1 (ma_ci (.ofNat 4))
noncomputable def mp_t3 : ma_A15 := ma_as15 (ma_as15 (ma_as15 (ma_as15 (ma_as15 (ma_a15 (ma_ci (.ofNat 0))) 0 (ma_ci (.ofNat 0))) 1 (ma_ci (.ofNat 4))) 2 (ma_ci (.ofNat 20))) 3 (ma_ci (.ofNat 32))) 4 (ma_ci (.ofNat 36))
noncomputable def mp_ts : ma_A15 := ma_as15 (ma_as15 (ma_as15 (ma_as15 (ma_as15 (ma_a15 (ma_ci (.ofNat 0))) 0 (ma_uv 0 (.ofNat 0))) 1 (ma_uv 1 (.ofNat 0))) 2 (ma_uv 2 (.ofNat 0))) 3 (ma_uv 3 (.ofNat 0))) 4 (ma_uv 4 (.ofNat 0))
noncomputable def mp_H (l : Nat) : ma_H := (3, (ma_null, 0), ma_p8 (ma_p8 (ma_p8 ma_n8 0 (18, .inr (2, mp_t2))) 1 (18, .inr (5, mp_t3))) 2 (18, .inr (l, mp_ts)))
def mp_lo : Int := .negSucc 2147483647
def mp_hi : Int := .ofNat 2147483647
def mp_E : ma_E := [(mp_lo, mp_hi), (mp_lo, mp_hi), (mp_lo, mp_hi), (mp_lo, mp_hi), (mp_lo, mp_hi)]
noncomputable def mp_c0 (l : Nat) : ma_S := (mp_E, mp_H l, [(60, 0, 0, [some (ma_cr 2), none, none, none], [])])
def mp_rs (xs : List Int32) : List Int := [(xs.getD 0 0).toInt, (xs.getD 1 0).toInt, (xs.getD 2 0).toInt, (xs.getD 3 0).toInt, (xs.getD 4 0).toInt]
theorem mp_i32 (x : Int32) : mp_lo ≤ x.toInt ∧ x.toInt ≤ mp_hi := by
  have h1 := Int32.le_toInt x
  have h2 := Int32.toInt_lt x
  have e1 : mp_lo = -2147483648 := rfl
  have e2 : mp_hi = 2147483647 := rfl
  rw [e1, e2]
  constructor <;> omega
theorem mp_five {P : Nat → Prop} (h0 : P 0) (h1 : P 1) (h2 : P 2) (h3 : P 3) (h4 : P 4) (i : Nat) (hi : i < 5) : P i := by
  rcases (show i = 0 ∨ i = 1 ∨ i = 2 ∨ i = 3 ∨ i = 4 by omega) with rfl | rfl | rfl | rfl | rfl <;> assumption
theorem mp_Eok (xs : List Int32) : mo_E (mp_rs xs) mp_E := by
  refine ⟨rfl, fun i lo hi r h1 h2 => ?_⟩
  have hi5 : i < 5 := (List.getElem?_eq_some_iff.mp h1).1
  revert h1 h2
  refine mp_five (P := fun i => mp_E[i]? = some (lo, hi) → (mp_rs xs)[i]? = some r → lo ≤ r ∧ r ≤ hi) ?_ ?_ ?_ ?_ ?_ i hi5 <;>
    (intro h1 h2; cases h1; cases h2; exact mp_i32 _)
theorem mp_r2 (rs : List Int) : mo_c rs (.inr (2, mp_t2)) mj_p2 := by
  have h0 := mo_c.rep (rs := rs) (z := ma_ci (.ofNat 0)) (v := .int 0) ⟨0, rfl, rfl⟩ (n := 2) (by decide)
  have h1 := h0.set (n := 0) (by decide) (x := ma_ci (.ofNat 0)) (v := .int 0) ⟨0, rfl, rfl⟩
  exact h1.set (n := 1) (by decide) (x := ma_ci (.ofNat 4)) (v := .int 4) ⟨4, rfl, rfl⟩
theorem mp_r3 (rs : List Int) : mo_c rs (.inr (5, mp_t3)) mj_p3 := by
  have h0 := mo_c.rep (rs := rs) (z := ma_ci (.ofNat 0)) (v := .int 0) ⟨0, rfl, rfl⟩ (n := 5) (by decide)
  have h1 := h0.set (n := 0) (by decide) (x := ma_ci (.ofNat 0)) (v := .int 0) ⟨0, rfl, rfl⟩
  have h2 := h1.set (n := 1) (by decide) (x := ma_ci (.ofNat 4)) (v := .int 4) ⟨4, rfl, rfl⟩
  have h3 := h2.set (n := 2) (by decide) (x := ma_ci (.ofNat 20)) (v := .int 20) ⟨20, rfl, rfl⟩
  have h4 := h3.set (n := 3) (by decide) (x := ma_ci (.ofNat 32)) (v := .int 32) ⟨32, rfl, rfl⟩
  exact h4.set (n := 4) (by decide) (x := ma_ci (.ofNat 36)) (v := .int 36) ⟨36, rfl, rfl⟩
theorem mp_tsg : ∀ i, i < 5 → ma_ag15 mp_ts i = ma_uv i (.ofNat 0) := mp_five rfl rfl rfl rfl rfl
theorem mp_rsg (xs : List Int32) : ∀ i, i < 5 → (mp_rs xs)[i]? = some (xs.getD i 0).toInt := mp_five rfl rfl rfl rfl rfl
theorem mp_rx {xs : List Int32} (hl : xs.length ≤ 5) : mo_c (mp_rs xs) (.inr (xs.length, mp_ts)) (xs.map .int) := by
  refine ⟨by rw [List.length_map], by omega, fun n v hn => ?_⟩
  have hlt : n < xs.length := by have := (List.getElem?_eq_some_iff.mp hn).1; rw [List.length_map] at this; exact this
  rw [List.getElem?_map, List.getElem?_eq_getElem hlt] at hn
  have hn : Value.int xs[n] = v := Option.some.inj hn
  rw [mp_tsg n (by omega)]
  refine ⟨(xs.getD n 0).toInt, xs[n], mp_rsg xs n (by omega), hn.symm, ?_⟩
  rw [List.getD_eq_getElem?_getD, List.getElem?_eq_getElem hlt]
  show xs[n].toInt = xs[n].toInt + 0
  omega
theorem mp_Hok {xs : List Int32} (hl : xs.length ≤ 5) : mo_H (mp_rs xs) (mp_H xs.length) (mj_hp0 xs) := by
  refine ⟨rfl, by show (3 : Nat) ≤ 252; decide, fun i x hi hx => ?_⟩
  have hx : ma_g8 (ma_p8 (ma_p8 (ma_p8 ma_n8 0 (18, .inr (2, mp_t2))) 1 (18, .inr (5, mp_t3))) 2 (18, .inr (xs.length, mp_ts))) i = some x := hx
  by_cases h2 : i = 2
  · subst h2
    rw [ma_g_hit8 _ _ _ _ rfl] at hx
    cases hx
    exact ⟨_, rfl, mp_rx hl⟩
  · rw [ma_g_miss8 _ _ _ _ (by omega)] at hx
    by_cases h1 : i = 1
    · subst h1
      rw [ma_g_hit8 _ _ _ _ rfl] at hx
      cases hx
      exact ⟨_, rfl, mp_r3 _⟩
    · rw [ma_g_miss8 _ _ _ _ (by omega)] at hx
      by_cases h0 : i = 0
      · subst h0
        rw [ma_g_hit8 _ _ _ _ rfl] at hx
        cases hx
        exact ⟨_, rfl, mp_r2 _⟩
      · rw [ma_g_miss8 _ _ _ _ (by omega), ma_g_nil8] at hx
        cases hx
/-- what the law is to answer, and the room -/
def mp_Q : mo_Q := fun v hp => hp.length = 0 ∨ (v = some (.int 1) ∧ hp.length = 130 ∧ mj_sz hp ≤ 7302250)
noncomputable def mp_X (xs : List Int32) : mo_X := (mp_rs xs, (ma_null, 0), mj_hp0 xs, fun _ => False, mp_Q)
noncomputable def mp_Y (xs : List Int32) : mo_X := (mp_rs xs, (ma_ci (.ofNat 1), 130), mj_hp0 xs, fun _ => False, fun v hp => v = some (.int 1) ∧ hp.length = 130)
theorem mp_start {xs : List Int32} (hl : xs.length ≤ 5) (h : mo_G (mp_X xs) (mp_c0 xs.length)) : ∃ (n : Nat) (hp' : List mj_C), mj_exec n 60 0 0 (mj_ent 4 [.ref 2]) [] (mj_hp0 xs) = some (some (.int 1), hp') ∧ hp'.length ≤ 600000 ∧ mj_sz hp' ≤ 7302250 := by
  have hs := h (mp_rs xs) (mj_hp0 xs) [(60, 0, 0, mj_ent 4 [.ref 2], [])] ⟨⟨[], by rw [List.append_nil]; rfl⟩, mp_Eok xs, mp_Hok hl, ⟨rfl, fun v hp q => Or.inl q.2.1⟩, fun i hi => hi.elim⟩ ⟨⟨rfl, rfl, rfl, ⟨fun x hx => by cases hx; exact ⟨.ref 2, rfl, rfl, by decide⟩, fun x hx => (by cases hx), fun x hx => (by cases hx), fun x hx => (by cases hx), trivial⟩, trivial⟩, trivial⟩
  obtain ⟨n, r, hp', h1, h2⟩ := hs
  have hm := (mj_mono _ _ _ _ _ _ _ _ _ h1).1
  have e3 : (mj_hp0 xs).length = 3 := rfl
  rcases h2 with h2 | ⟨rfl, h3, h4⟩
  · omega
  · exact ⟨n, hp', h1, by omega, h4⟩
/-- how many places the first n cells have together, if all are known -/
noncomputable def ma_tot (T : ma_T8) (n : Nat) : Option Nat := Nat.rec (motive := fun _ => Option Nat) (some 0) (fun m t => match t with
  | none => none
  | some s => (match ma_g8 T m with
    | some (_, .inl vs) => some (Nat.add s (ma_len vs))
    | some (_, .inr (len, _)) => some (Nat.add s len)
    | none => none)) n
theorem ma_tot_ok {rs : List Int} {H : ma_H} {hp : List mj_C} (h : mo_H rs H hp) : ∀ (n s : Nat), n ≤ hp.length → ma_tot H.2.2 n = some s → mj_sz (hp.take n) ≤ s := by
  intro n
  induction n with
  | zero => intro s _ _; show (0 : Nat) ≤ s; exact Nat.zero_le _
  | succ n ih =>
    intro s hn ht
    have e : ma_tot H.2.2 (n + 1) = match ma_tot H.2.2 n with
      | none => none
      | some s => (match ma_g8 H.2.2 n with
        | some (_, .inl vs) => some (Nat.add s (ma_len vs))
        | some (_, .inr (len, _)) => some (Nat.add s len)
        | none => none) := rfl
    rw [e] at ht
    have hn256 : n < 256 := by have := h.1; have := h.2.1; omega
    split at ht
    · cases ht
    · rename_i s0 h0
      have hi := ih s0 (by omega) h0
      have key : ∀ (y : Nat) (vs : List Value), hp[n]? = some (y, vs) → mj_sz (hp.take (n + 1)) = mj_sz (hp.take n) + vs.length := fun y vs q => by
        rw [List.take_succ, q]
        exact mj_push_sz _ _
      split at ht
      · rename_i y vs hx
        cases ht
        obtain ⟨vs', q1, q2⟩ := h.2.2 n _ hn256 hx
        rw [key _ _ q1, ma_len_eq]
        have := mo_vs.len q2
        show _ ≤ s0 + vs.length
        omega
      · rename_i y len t hx
        cases ht
        obtain ⟨vs', q1, q2⟩ := h.2.2 n _ hn256 hx
        rw [key _ _ q1]
        have := q2.1
        show _ ≤ s0 + len
        omega
      · cases ht
noncomputable def mp_chk (c : ma_S) : Bool := Nat.beq c.2.1.1 130 && Nat.beq (ma_len c.2.2) 1 && Nat.beq (ma_len c.1) 5 && (match ma_tot c.2.1.2.2 130 with
  | some s => Nat.ble s 7302250
  | none => false)
/-- a state behind the making of the two objects, for one run: the answer waited for is 1, of the unknowns so much is known as E says -/
noncomputable def mp_re (E : ma_E) (c : ma_S) : ma_R := ma_b (mp_chk c) (some [(E, (c.2.1.1, (ma_ci (.ofNat 1), 130), c.2.1.2.2), c.2.2)]) none
theorem mp_fin {xs : List Int32} {c : ma_S} (h : ∃ E, mo_E (mp_rs xs) E ∧ mo_Gs (mp_Y xs) (mp_re E c)) : mo_G (mp_X xs) c := by
  obtain ⟨E, hE, h⟩ := h
  unfold mp_re at h
  obtain ⟨hb, h⟩ := ma_b_n h
  unfold mp_chk at hb
  rw [Bool.and_eq_true, Bool.and_eq_true, Bool.and_eq_true] at hb
  obtain ⟨⟨⟨b1, b2⟩, b3⟩, b4⟩ := hb
  have b1 := Nat.eq_of_beq_eq_true b1
  have b2 := Nat.eq_of_beq_eq_true b2
  have b3 := Nat.eq_of_beq_eq_true b3
  rw [ma_len_eq] at b2 b3
  intro rs hp fs hR hF
  obtain ⟨⟨t, ht⟩, hE0, hH, hev, hU⟩ := hR
  have hrs : rs = mp_rs xs := by
    have h1 : rs.length = 5 := by rw [hE0.1, b3]
    rw [ht, List.length_append] at h1
    have h2 : (mp_X xs).1.length = 5 := rfl
    have h3 : t = [] := List.eq_nil_of_length_eq_zero (by omega)
    rw [ht, h3, List.append_nil]
    rfl
  subst hrs
  have hg := h _ (List.mem_singleton.mpr rfl) (mp_rs xs) hp fs ⟨⟨[], by rw [List.append_nil]; rfl⟩, hE, ⟨hH.1, hH.2.1, hH.2.2⟩, ⟨rfl, fun v hp q => by
    obtain ⟨⟨w, t, q1, z, q2, q3⟩, q4, -⟩ := q
    refine ⟨?_, q4⟩
    have hz : z = 1 := Int32.toInt_inj.mp (by rw [q3]; rfl)
    rw [q1, q2, hz]⟩, fun i hi => hi.elim⟩ hF
  cases hfs : fs with
  | nil => rw [hfs] at hg; exact hg.elim
  | cons f tl =>
    rw [hfs] at hg hF
    have htl : tl = [] := by
      cases hc2 : c.2.2 with
      | nil => rw [hc2] at hF; exact hF.elim
      | cons a as =>
        rw [hc2] at hF b2
        have has : as = [] := List.eq_nil_of_length_eq_zero (by simpa using b2)
        rw [has] at hF
        cases tl with
        | nil => rfl
        | cons _ _ => exact hF.2.elim
    subst htl
    obtain ⟨d, j, k, L, st⟩ := f
    obtain ⟨n, r, hp', h1, h2, h3⟩ := hg
    refine ⟨n, r, hp', h1, Or.inr ⟨h2, h3, ?_⟩⟩
    have hlen : hp.length = 130 := by rw [hH.1, b1]
    rw [mj_exec_sz _ _ _ _ _ _ _ _ _ h1 (by rw [h3, hlen])]
    split at b4
    · rename_i s hs
      have := ma_tot_ok hH 130 s (by omega) hs
      rw [List.take_of_length_le (by omega)] at this
      exact Nat.le_trans this (Nat.le_of_ble_eq_true b4)
    · cases b4
/-- after the two objects are made -/
noncomputable def mp_W0 (l : Nat) : ma_R := ma_r2 (ma_r3 (ma_r6 (ma_r9 (ma_r10 (some [mp_c0 l])))))
/-- after the kind of the call is known -/
noncomputable def mp_W1 : ma_R := ma_r0 (ma_r3 (ma_r4 (ma_r6 (ma_r9 (ma_r10 (some [mp_c0 5]))))))
/-- the i-th of the states that a run has come to, for one run -/
noncomputable def mp_op (w : ma_R) (i : Nat) (E : ma_E) : ma_R := match w with
  | none => none
  | some l => (match ma_nth l i with
    | none => none
    | some c => mp_re E c)
noncomputable def mp_n (w : ma_R) (n : Nat) : Bool := match w with
  | none => false
  | some l => Nat.beq (ma_len l) n
noncomputable def ma_ok (w : ma_R) : Bool := match w with
  | none => false
  | some l => (match l with
    | [] => true
    | _ :: _ => false)
theorem ma_ok_s {X : mo_X} {w : ma_R} (h : ma_ok w = true) : mo_Gs X w := by
  cases w with
  | none => exact Bool.noConfusion (show false = true from h)
  | some l =>
    cases l with
    | nil => exact fun c hc => nomatch hc
    | cons a t => exact Bool.noConfusion (show false = true from h)
theorem mp_all {xs : List Int32} {w : ma_R} {n : Nat} (hn : mp_n w n = true) (h : ∀ i, i < n → ∃ E, mo_E (mp_rs xs) E ∧ mo_Gs (mp_Y xs) (mp_op w i E)) : mo_Gs (mp_X xs) w := by
  cases w with
  | none => exact Bool.noConfusion (show false = true from hn)
  | some l =>
    have hn : Nat.beq (ma_len l) n = true := hn
    have hn := Nat.eq_of_beq_eq_true hn
    rw [ma_len_eq] at hn
    intro c hc
    obtain ⟨i, hi⟩ := List.getElem?_of_mem hc
    obtain ⟨E, h1, h2⟩ := h i (by have := (List.getElem?_eq_some_iff.mp hi).1; omega)
    have e : mp_op (some l) i E = match ma_nth l i with
      | none => none
      | some c => mp_re E c := rfl
    rw [e, ma_nth_eq, hi] at h2
    exact mp_fin ⟨E, h1, h2⟩
theorem mp_start0 {xs : List Int32} (h : mo_Gs (mp_X xs) (mp_W0 xs.length)) : mo_G (mp_X xs) (mp_c0 xs.length) := (ma_r10_ok (ma_r9_ok (ma_r6_ok (ma_r3_ok (ma_r2_ok h))))) _ (List.mem_singleton.mpr rfl)
theorem mp_start1 {xs : List Int32} (h5 : xs.length = 5) (h : mo_Gs (mp_X xs) mp_W1) : mo_G (mp_X xs) (mp_c0 xs.length) := by
  rw [h5]
  exact (ma_r10_ok (ma_r9_ok (ma_r6_ok (ma_r4_ok (ma_r3_ok (ma_r0_ok h)))))) _ (List.mem_singleton.mpr rfl)
