/-! Runs of the small machine, and what a state of unknowns says of one. -/
theorem mj_call_of {E : mj_X} {d' j nx : Nat} {L : mj_L} {hp hp1 : List mj_C} {a : Nat} {as r : List Value} {v : Option Value} {R : Option Value × List mj_C} (hl : (mj_sl as).length ≤ (mj_mx a).1) (h1 : E d' a 0 (mj_ent (mj_mx a).1 as) [] hp = some (v, hp1)) (h2 : E (d' + 1) j nx L (v.toList ++ r) hp1 = some R) : mj_call E (d' + 1) j nx L hp a as r = some R := by
  have hb : Nat.ble (mj_sl as).length (mj_mx a).1 = true := Nat.ble_eq_true_of_le hl
  unfold mj_call
  simp only [hb, h1, cond_true]
  exact h2
theorem mj_cont_le {E E' : mj_X} (hE : ∀ d j k L st hp R, E d j k L st hp = some R → E' d j k L st hp = some R) {d j nx : Nat} {L : mj_L} {hp : List mj_C} {o : Option mj_Act} {R : Option Value × List mj_C} (h : mj_cont E d j nx L hp o = some R) : mj_cont E' d j nx L hp o = some R := by
  unfold mj_cont at h ⊢
  split at h
  · cases h
  · exact hE _ _ _ _ _ _ _ h
  · exact hE _ _ _ _ _ _ _ h
  · exact hE _ _ _ _ _ _ _ h
  · obtain ⟨d', v, hp1, rfl, h1, h2, h3⟩ := mj_v_call h
    exact mj_call_of h1 (hE _ _ _ _ _ _ _ h2) (hE _ _ _ _ _ _ _ h3)
  · exact h
theorem mj_exec_le : ∀ (n m d j k : Nat) (L : mj_L) (st : List Value) (hp : List mj_C) (R : Option Value × List mj_C), n ≤ m → mj_exec n d j k L st hp = some R → mj_exec m d j k L st hp = some R := by
  intro n
  induction n with
  | zero => intro m d j k L st hp R _ h; cases h
  | succ n ih =>
    intro m d j k L st hp R hm h
    obtain ⟨m, rfl⟩ : ∃ q, m = q + 1 := ⟨m - 1, by omega⟩
    obtain ⟨e, h1, h2⟩ := mj_exec_s h
    unfold mj_exec
    rw [h1]
    exact mj_cont_le (fun d j k L st hp R q => ih m d j k L st hp R (by omega) q) h2
abbrev mo_Q : Type := Option Value → List mj_C → Prop
def mo_Ok (d j k : Nat) (L : mj_L) (st : List Value) (hp : List mj_C) (P : mo_Q) : Prop := ∃ n r hp', mj_exec n d j k L st hp = some (r, hp') ∧ P r hp'
section
variable {d j k : Nat} {L : mj_L} {st : List Value} {hp : List mj_C} {P : mo_Q} {e : mj_E}
theorem mo_go (hc : mj_code j k = some e) {k2 : Nat} {L2 : mj_L} {st2 : List Value} (hs : mj_step j k e L st hp = some (.inl (k2, L2, st2))) (h : mo_Ok d j k2 L2 st2 hp P) : mo_Ok d j k L st hp P := by
  obtain ⟨n, r, hp', h1, h2⟩ := h
  refine ⟨n + 1, r, hp', ?_, h2⟩
  unfold mj_exec
  rw [hc]
  show mj_cont _ _ _ _ _ _ (mj_step j k e L st hp) = _
  rw [hs]
  exact h1
theorem mo_wr (hc : mj_code j k = some e) {i p : Nat} {v : Value} {st2 : List Value} (hs : mj_step j k e L st hp = some (.inr (.inl (i, p, v, st2)))) (h : mo_Ok d j e.2.1 L st2 (mj_wr hp i p v) P) : mo_Ok d j k L st hp P := by
  obtain ⟨n, r, hp', h1, h2⟩ := h
  refine ⟨n + 1, r, hp', ?_, h2⟩
  unfold mj_exec
  rw [hc]
  show mj_cont _ _ _ _ _ _ (mj_step j k e L st hp) = _
  rw [hs]
  exact h1
theorem mo_al (hc : mj_code j k = some e) {x : mj_C} {st2 : List Value} (hs : mj_step j k e L st hp = some (.inr (.inr (.inl (x, st2))))) (h : mo_Ok d j e.2.1 L (.ref hp.length :: st2) (hp ++ [x]) P) : mo_Ok d j k L st hp P := by
  obtain ⟨n, r, hp', h1, h2⟩ := h
  refine ⟨n + 1, r, hp', ?_, h2⟩
  unfold mj_exec
  rw [hc]
  show mj_cont _ _ _ _ _ _ (mj_step j k e L st hp) = _
  rw [hs]
  exact h1
theorem mo_ca (hc : mj_code j k = some e) {a : Nat} {as st2 : List Value} (hs : mj_step j k e L st hp = some (.inr (.inr (.inr (.inl (a, as, st2)))))) {d' : Nat} (hd : d = d' + 1) (hl : (mj_sl as).length ≤ (mj_mx a).1) (h : mo_Ok d' a 0 (mj_ent (mj_mx a).1 as) [] hp (fun v hp1 => mo_Ok d j e.2.1 L (v.toList ++ st2) hp1 P)) : mo_Ok d j k L st hp P := by
  subst hd
  obtain ⟨n, r, hp1, h1, n2, r2, hp2, h2, h3⟩ := h
  refine ⟨max n n2 + 1, r2, hp2, ?_, h3⟩
  unfold mj_exec
  rw [hc]
  show mj_cont _ _ _ _ _ _ (mj_step j k e L st hp) = _
  rw [hs]
  exact mj_call_of hl (mj_exec_le n (max n n2) _ _ _ _ _ _ _ (Nat.le_max_left _ _) h1) (mj_exec_le n2 (max n n2) _ _ _ _ _ _ _ (Nat.le_max_right _ _) h2)
theorem mo_re (hc : mj_code j k = some e) {v : Option Value} (hs : mj_step j k e L st hp = some (.inr (.inr (.inr (.inr v))))) (h : P v hp) : mo_Ok d j k L st hp P := by
  refine ⟨1, v, hp, ?_, h⟩
  unfold mj_exec
  rw [hc]
  show mj_cont _ _ _ _ _ _ (mj_step j k e L st hp) = _
  rw [hs]
  rfl
end
/-! values -/
def mo_v (rs : List Int) (a : ma_V) (v : Value) : Prop := match a with
  | .inl c => ∃ z, v = .int z ∧ z.toInt = c
  | .inr (.inl (i, o)) => ∃ r z, rs[i]? = some r ∧ v = .int z ∧ z.toInt = r + o
  | .inr (.inr (.inl 0)) => v = .null
  | .inr (.inr (.inl (n + 1))) => v = .ref n ∧ n < 256
  | .inr (.inr (.inr (.inl c))) => ∃ z, v = .long z ∧ z.toInt = c
  | .inr (.inr (.inr (.inr _))) => ∃ z, v = .long z
def mo_vs (rs : List Int) : List ma_V → List Value → Prop
  | [], [] => True
  | a :: as, v :: vs => mo_v rs a v ∧ mo_vs rs as vs
  | _, _ => False
def mo_o (rs : List Int) (a : Option ma_V) (v : Option Value) : Prop := ∀ x, a = some x → ∃ w, v = some w ∧ mo_v rs x w
def mo_L (rs : List Int) : ma_L → mj_L → Prop
  | [], [] => True
  | a :: as, v :: vs => mo_o rs a v ∧ mo_L rs as vs
  | _, _ => False
def mo_c (rs : List Int) (x : List ma_V ⊕ (Nat × ma_A15)) (vs : List Value) : Prop := match x with
  | .inl as => mo_vs rs as vs
  | .inr (len, t) => vs.length = len ∧ len ≤ 32768 ∧ ∀ (n : Nat) (v : Value), vs[n]? = some v → mo_v rs (ma_ag15 t n) v
def mo_H (rs : List Int) (H : ma_H) (hp : List mj_C) : Prop := hp.length = H.1 ∧ H.1 ≤ 252 ∧ ∀ (i : Nat) (x : ma_C), i < 256 → ma_g8 H.2.2 i = some x → ∃ vs, hp[i]? = some (x.1, vs) ∧ mo_c rs x.2 vs
def mo_E (rs : List Int) (E : ma_E) : Prop := rs.length = E.length ∧ ∀ (i : Nat) (lo hi r : Int), E[i]? = some (lo, hi) → rs[i]? = some r → lo ≤ r ∧ r ≤ hi
abbrev mo_F : Type := Nat × Nat × Nat × mj_L × List Value
def mo_f (rs : List Int) (a : ma_F) (c : mo_F) : Prop := c.1 = a.1 ∧ c.2.1 = a.2.1 ∧ c.2.2.1 = a.2.2.1 ∧ mo_L rs a.2.2.2.1 c.2.2.2.1 ∧ mo_vs rs a.2.2.2.2 c.2.2.2.2
def mo_fs (rs : List Int) : List ma_F → List mo_F → Prop
  | [], [] => True
  | a :: as, v :: vs => mo_f rs a v ∧ mo_fs rs as vs
  | _, _ => False
def mo_K : List mo_F → mo_Q → mo_Q
  | [], P => P
  | (d, j, k, L, st) :: K, P => fun v hp => mo_Ok d j k L (v.toList ++ st) hp (mo_K K P)
def mo_S : List mo_F → List mj_C → mo_Q → Prop
  | [], _, _ => False
  | (d, j, k, L, st) :: K, hp, P => mo_Ok d j k L st hp (mo_K K P)
/-- what is fixed of a run: the unknowns at its start, the answer and how many cells there are then, the heap at its start, the cells that stay, what is to hold at the end -/
abbrev mo_X : Type := List Int × (ma_V × Nat) × List mj_C × (Nat → Prop) × mo_Q
def mo_P0 (X : mo_X) : mo_Q := fun v hp => (∃ w t, v = some w ∧ mo_v (X.1 ++ t) X.2.1.1 w) ∧ hp.length = X.2.1.2 ∧ ∀ i, X.2.2.2.1 i → hp[i]? = X.2.2.1[i]?
def mo_P (X : mo_X) : mo_Q := X.2.2.2.2
def mo_R (X : mo_X) (rs : List Int) (E : ma_E) (H : ma_H) (hp : List mj_C) : Prop := (∃ t, rs = X.1 ++ t) ∧ mo_E rs E ∧ mo_H rs H hp ∧ (H.2.1 = X.2.1 ∧ ∀ v hp, mo_P0 X v hp → mo_P X v hp) ∧ ∀ i, X.2.2.2.1 i → i < H.1 ∧ ma_g8 H.2.2 i = none ∧ hp[i]? = X.2.2.1[i]?
/-- a state of unknowns is good: each state that it speaks of comes to its end -/
def mo_G (X : mo_X) (c : ma_S) : Prop := ∀ (rs : List Int) (hp : List mj_C) (fs : List mo_F), mo_R X rs c.1 c.2.1 hp → mo_fs rs c.2.2 fs → mo_S fs hp (mo_P X)
def mo_Gs (X : mo_X) (r : ma_R) : Prop := match r with
  | none => False
  | some l => ∀ c ∈ l, mo_G X c
/-- what an entry of the table does is right -/
def mo_Sim (j k : Nat) (f : ma_I) : Prop := ∀ (X : mo_X) (E : ma_E) (H : ma_H) (d : Nat) (L : ma_L) (st : List ma_V) (K : List ma_F), mo_Gs X (f E H d j L st K) → mo_G X (E, H, (d, j, k, L, st) :: K)
/-! the relations grow with the unknowns -/
theorem mo_v.more {rs : List Int} {a : ma_V} {v : Value} (h : mo_v rs a v) (t : List Int) : mo_v (rs ++ t) a v := by
  rcases a with c | ⟨i, o⟩ | n | c | u
  · exact h
  · obtain ⟨r, z, h1, h2⟩ := h
    exact ⟨r, z, by rw [List.getElem?_append_left (List.getElem?_eq_some_iff.mp h1).1]; exact h1, h2⟩
  · cases n <;> exact h
  · exact h
  · exact h
theorem mo_vs.more {rs : List Int} (t : List Int) : ∀ {as : List ma_V} {vs : List Value}, mo_vs rs as vs → mo_vs (rs ++ t) as vs
  | [], [], _ => trivial
  | _ :: _, _ :: _, h => ⟨h.1.more t, mo_vs.more t h.2⟩
  | [], _ :: _, h => h.elim
  | _ :: _, [], h => h.elim
theorem mo_L.more {rs : List Int} (t : List Int) : ∀ {as : ma_L} {vs : mj_L}, mo_L rs as vs → mo_L (rs ++ t) as vs
  | [], [], _ => trivial
  | _ :: _, _ :: _, h => ⟨fun x hx => by
      obtain ⟨w, h1, h2⟩ := h.1 x hx
      exact ⟨w, h1, h2.more t⟩, mo_L.more t h.2⟩
  | [], _ :: _, h => h.elim
  | _ :: _, [], h => h.elim
theorem mo_fs.more {rs : List Int} (t : List Int) : ∀ {as : List ma_F} {vs : List mo_F}, mo_fs rs as vs → mo_fs (rs ++ t) as vs
  | [], [], _ => trivial
  | _ :: _, _ :: _, h => ⟨⟨h.1.1, h.1.2.1, h.1.2.2.1, h.1.2.2.2.1.more t, h.1.2.2.2.2.more t⟩, mo_fs.more t h.2⟩
  | [], _ :: _, h => h.elim
  | _ :: _, [], h => h.elim
theorem mo_H.more {rs : List Int} {H : ma_H} {hp : List mj_C} (h : mo_H rs H hp) (t : List Int) : mo_H (rs ++ t) H hp := by
  refine ⟨h.1, h.2.1, fun i x hi hx => ?_⟩
  obtain ⟨vs, h1, h2⟩ := h.2.2 i x hi hx
  refine ⟨vs, h1, ?_⟩
  obtain ⟨y, q⟩ := x
  rcases q with as | ⟨len, tr⟩
  · exact mo_vs.more t h2
  · exact ⟨h2.1, h2.2.1, fun n v hn => (h2.2.2 n v hn).more t⟩
/-! reading and writing of lists -/
theorem mo_L.len {rs : List Int} : ∀ {as : ma_L} {vs : mj_L}, mo_L rs as vs → vs.length = as.length
  | [], [], _ => rfl
  | _ :: _, _ :: _, h => congrArg (· + 1) (mo_L.len h.2)
  | [], _ :: _, h => h.elim
  | _ :: _, [], h => h.elim
theorem mo_L.get {rs : List Int} : ∀ {as : ma_L} {vs : mj_L} {i : Nat} {x : ma_V}, mo_L rs as vs → as[i]? = some (some x) → ∃ w, vs[i]? = some (some w) ∧ mo_v rs x w
  | a :: as, v :: vs, 0, x, h, hx => by
    obtain ⟨w, h1, h2⟩ := h.1 x (Option.some.inj hx)
    exact ⟨w, by rw [List.getElem?_cons_zero, h1], h2⟩
  | a :: as, v :: vs, i + 1, x, h, hx => by
    rw [List.getElem?_cons_succ] at hx ⊢
    exact mo_L.get h.2 hx
  | [], [], _, _, _, hx => by simp at hx
  | [], _ :: _, _, _, h, _ => h.elim
  | _ :: _, [], _, _, h, _ => h.elim
theorem mo_L.set {rs : List Int} {a : Option ma_V} {v : Option Value} (hv : mo_o rs a v) : ∀ {as : ma_L} {vs : mj_L} {i : Nat}, mo_L rs as vs → mo_L rs (as.set i a) (vs.set i v)
  | _ :: _, _ :: _, 0, h => ⟨hv, h.2⟩
  | _ :: _, _ :: _, _ + 1, h => ⟨h.1, mo_L.set hv h.2⟩
  | [], [], _, _ => trivial
  | [], _ :: _, _, h => h.elim
  | _ :: _, [], _, h => h.elim
theorem mo_vs.len {rs : List Int} : ∀ {as : List ma_V} {vs : List Value}, mo_vs rs as vs → vs.length = as.length
  | [], [], _ => rfl
  | _ :: _, _ :: _, h => congrArg (· + 1) (mo_vs.len h.2)
  | [], _ :: _, h => h.elim
  | _ :: _, [], h => h.elim
theorem mo_vs.get {rs : List Int} : ∀ {as : List ma_V} {vs : List Value} {i : Nat} {x : ma_V}, mo_vs rs as vs → as[i]? = some x → ∃ w, vs[i]? = some w ∧ mo_v rs x w
  | a :: as, v :: vs, 0, x, h, hx => by
    have hx : a = x := Option.some.inj hx
    subst hx
    exact ⟨v, rfl, h.1⟩
  | a :: as, v :: vs, i + 1, x, h, hx => by
    rw [List.getElem?_cons_succ] at hx ⊢
    exact mo_vs.get h.2 hx
  | [], [], _, _, _, hx => by simp at hx
  | [], _ :: _, _, _, h, _ => h.elim
  | _ :: _, [], _, _, h, _ => h.elim
theorem mo_vs.set {rs : List Int} {a : ma_V} {v : Value} (hv : mo_v rs a v) : ∀ {as : List ma_V} {vs : List Value} {i : Nat}, mo_vs rs as vs → mo_vs rs (as.set i a) (vs.set i v)
  | _ :: _, _ :: _, 0, h => ⟨hv, h.2⟩
  | _ :: _, _ :: _, _ + 1, h => ⟨h.1, mo_vs.set hv h.2⟩
  | [], [], _, _ => trivial
  | [], _ :: _, _, h => h.elim
  | _ :: _, [], _, h => h.elim
theorem mo_vs.cons {rs : List Int} {a : ma_V} {as : List ma_V} : ∀ {vs : List Value}, mo_vs rs (a :: as) vs → ∃ v t, vs = v :: t ∧ mo_v rs a v ∧ mo_vs rs as t
  | v :: t, h => ⟨v, t, rfl, h.1, h.2⟩
  | [], h => h.elim
theorem mo_vs.nil {rs : List Int} : ∀ {vs : List Value}, mo_vs rs [] vs → vs = []
  | [], _ => rfl
  | _ :: _, h => h.elim
theorem mo_fs.cons {rs : List Int} {a : ma_F} {as : List ma_F} : ∀ {vs : List mo_F}, mo_fs rs (a :: as) vs → ∃ L st t, vs = (a.1, a.2.1, a.2.2.1, L, st) :: t ∧ mo_L rs a.2.2.2.1 L ∧ mo_vs rs a.2.2.2.2 st ∧ mo_fs rs as t
  | (d, j, k, L, st) :: t, h => by
    obtain ⟨⟨h1, h2, h3, h4, h5⟩, h6⟩ := h
    dsimp only at h1 h2 h3
    subst h1; subst h2; subst h3
    exact ⟨L, st, t, rfl, h4, h5, h6⟩
  | [], h => h.elim
/-! numbers -/
theorem ma_lt_iff (a b : Int) : ma_lt a b = true ↔ a < b := by
  cases a with
  | ofNat m =>
    cases b with
    | ofNat n => exact ⟨fun h => Int.ofNat_lt.mpr (Nat.le_of_ble_eq_true h), fun h => Nat.ble_eq_true_of_le (Int.ofNat_lt.mp h)⟩
    | negSucc n => exact ⟨fun h => absurd (show false = true from h) (by decide), fun h => by have : (0 : Int) ≤ Int.ofNat m := Int.natCast_nonneg m; have := Int.negSucc_lt_zero n; omega⟩
  | negSucc m =>
    cases b with
    | ofNat n => exact ⟨fun _ => by have : (0 : Int) ≤ Int.ofNat n := Int.natCast_nonneg n; have := Int.negSucc_lt_zero m; omega, fun _ => rfl⟩
    | negSucc n => exact ⟨fun h => by have : n < m := Nat.le_of_ble_eq_true h; omega, fun h => Nat.ble_eq_true_of_le (by omega)⟩
theorem ma_lt_not (a b : Int) : ma_lt a b = false ↔ b ≤ a := by
  cases h : ma_lt a b with
  | true => exact ⟨fun q => (by cases q), fun q => by have := (ma_lt_iff a b).mp h; omega⟩
  | false => exact ⟨fun _ => by
      by_cases q : a < b
      · rw [(ma_lt_iff a b).mpr q] at h; cases h
      · omega, fun _ => rfl⟩
theorem ma_le_iff (a b : Int) : ma_le a b = true ↔ a ≤ b := by
  unfold ma_le
  rw [Bool.not_eq_true']
  exact ma_lt_not b a
theorem ma_eq_iff (a b : Int) : ma_eq a b = true ↔ a = b := by
  cases a with
  | ofNat m =>
    cases b with
    | ofNat n => exact ⟨fun h => by rw [show m = n from Nat.eq_of_beq_eq_true h], fun h => by cases h; exact Nat.beq_refl m⟩
    | negSucc n => exact ⟨fun h => absurd (show false = true from h) (by decide), fun h => by cases h⟩
  | negSucc m =>
    cases b with
    | ofNat n => exact ⟨fun h => absurd (show false = true from h) (by decide), fun h => by cases h⟩
    | negSucc n => exact ⟨fun h => by rw [show m = n from Nat.eq_of_beq_eq_true h], fun h => by cases h; exact Nat.beq_refl m⟩
theorem ma_eq_not (a b : Int) : ma_eq a b = false ↔ a ≠ b := by
  cases h : ma_eq a b with
  | true => exact ⟨fun q => (by cases q), fun q => absurd ((ma_eq_iff a b).mp h) q⟩
  | false => exact ⟨fun _ q => (by rw [(ma_eq_iff a b).mpr q] at h; cases h), fun _ => rfl⟩
theorem ma_fz_eq {α : Type} (x : Int) (f : Int → α) : ma_fz x f = f x := by
  cases x with
  | ofNat n => cases n <;> rfl
  | negSucc n => cases n <;> rfl
theorem ma_b_t {X : mo_X} {c : Bool} {t e : ma_R} (h : mo_Gs X (ma_b c t e)) : (c = true ∧ mo_Gs X t) ∨ (c = false ∧ mo_Gs X e) := by
  cases c with
  | true => exact Or.inl ⟨rfl, h⟩
  | false => exact Or.inr ⟨rfl, h⟩
theorem ma_b_n {X : mo_X} {c : Bool} {t : ma_R} (h : mo_Gs X (ma_b c t none)) : c = true ∧ mo_Gs X t := by
  cases c with
  | true => exact ⟨rfl, h⟩
  | false => exact h.elim
theorem ma_in_iff (x : Int) : ma_in x = true ↔ -2147483648 ≤ x ∧ x ≤ 2147483647 := by
  unfold ma_in
  rw [Bool.and_eq_true, ma_le_iff, ma_le_iff]
  exact Iff.rfl
theorem ma_w_of {z : Int32} {x : Int} (h : z.toInt = Int.bmod x 4294967296) : z.toInt = ma_w x := by
  unfold ma_w
  cases hq : ma_in x with
  | true =>
    have := (ma_in_iff x).mp hq
    rw [h]
    show _ = x
    rw [Int.bmod_eq_of_le] <;> omega
  | false => exact h
/-- an int's number, or its unknown -/
theorem mo_num {rs : List Int} {E : ma_E} (hE : mo_E rs E) {a : ma_V} {v : Value} (h : mo_v rs a v) : match ma_num E a with
    | .inl c => ∃ z, v = .int z ∧ z.toInt = c
    | .inr none => True
    | .inr (some (i, o, lo, hi)) => ∃ r z, E[i]? = some (lo, hi) ∧ rs[i]? = some r ∧ v = .int z ∧ z.toInt = r + o ∧ lo ≤ r ∧ r ≤ hi := by
  rcases a with c | ⟨i, o⟩ | n
  · exact h
  · obtain ⟨r, z, h1, h2, h3⟩ := h
    unfold ma_num
    simp only [ma_nth_eq]
    cases he : E[i]? with
    | none => exact trivial
    | some q =>
      obtain ⟨lo, hi⟩ := q
      have hb := hE.2 i lo hi r he h1
      cases hq : ma_eq lo hi with
      | true =>
        have := (ma_eq_iff lo hi).mp hq
        simp only [hq, ma_fz_eq]
        exact ⟨z, h2, by rw [h3]; show r + o = lo + o; omega⟩
      | false =>
        simp only [hq]
        exact ⟨r, z, he, h1, h2, h3, hb⟩
  · exact trivial
