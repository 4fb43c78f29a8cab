/-! Lists and trees of the machine of unknowns. -/
theorem ma_nth_eq {α : Type} : ∀ (l : List α) (i : Nat), ma_nth l i = l[i]?
  | [], _ => rfl
  | _ :: _, 0 => rfl
  | _ :: t, i + 1 => (ma_nth_eq t i).trans (List.getElem?_cons_succ).symm
theorem ma_set_eq {α : Type} : ∀ (l : List α) (i : Nat) (x : α), ma_set l i x = l.set i x
  | [], _, _ => rfl
  | _ :: _, 0, _ => rfl
  | a :: t, i + 1, x => congrArg (a :: ·) (ma_set_eq t i x)
theorem ma_len_eq {α : Type} : ∀ l : List α, ma_len l = l.length
  | [] => rfl
  | _ :: t => congrArg Nat.succ (ma_len_eq t)
theorem ma_app_eq {α : Type} : ∀ l r : List α, ma_app l r = l ++ r
  | [], _ => rfl
  | a :: t, r => congrArg (a :: ·) (ma_app_eq t r)
theorem ma_ag_hit0 (t : ma_A0) (i : Nat) (x : ma_V) (m : Nat) (_ : i % 1 = m % 1) : ma_ag0 (ma_as0 t i x) m = x := rfl
theorem ma_ag_miss0 (t : ma_A0) (i : Nat) (x : ma_V) (m : Nat) (h : ¬ i % 1 = m % 1) : ma_ag0 (ma_as0 t i x) m = ma_ag0 t m := absurd (by omega) h
theorem ma_ag_nil0 (v : ma_V) (i : Nat) : ma_ag0 (ma_a0 v) i = v := rfl
theorem ma_g_hit0 (t : ma_T0) (i : Nat) (x : ma_C) (m : Nat) (_ : i % 1 = m % 1) : ma_g0 (ma_p0 t i x) m = some x := rfl
theorem ma_g_miss0 (t : ma_T0) (i : Nat) (x : ma_C) (m : Nat) (h : ¬ i % 1 = m % 1) : ma_g0 (ma_p0 t i x) m = ma_g0 t m := absurd (by omega) h
theorem ma_g_nil0 (i : Nat) : ma_g0 ma_n0 i = none := rfl
theorem ma_ev {i m : Nat} (h : i % 2 = m % 2) : Nat.beq (Nat.mod i 2) 0 = Nat.beq (Nat.mod m 2) 0 := by
  show Nat.beq (i % 2) 0 = Nat.beq (m % 2) 0
  rw [h]
theorem ma_evn {i m : Nat} {b : Bool} (h : ¬ i % 2 = m % 2) (e : Nat.beq (Nat.mod i 2) 0 = b) : Nat.beq (Nat.mod m 2) 0 = !b := by
  have e : Nat.beq (i % 2) 0 = b := e
  show Nat.beq (m % 2) 0 = !b
  rcases (show i % 2 = 0 ∨ i % 2 = 1 by omega) with h1 | h1 <;> rcases (show m % 2 = 0 ∨ m % 2 = 1 by omega) with h2 | h2
  · omega
  · rw [h1] at e; rw [h2, ← e]; rfl
  · rw [h1] at e; rw [h2, ← e]; rfl
  · omega

theorem ma_ag_hit1 (t : ma_A1) (i : Nat) (x : ma_V) (m : Nat) (h : i % 2 = m % 2) : ma_ag1 (ma_as1 t i x) m = x := by
  have h2 := ma_ev (show i % 2 = m % 2 by omega)
  have h3 : Nat.div i 2 % 1 = Nat.div m 2 % 1 := by show (i / 2) % 1 = (m / 2) % 1; omega
  cases hb : Nat.beq (Nat.mod i 2) 0 with
  | true =>
    rw [hb] at h2
    unfold ma_ag1 ma_as1
    rw [hb, ← h2]
    exact ma_ag_hit0 t.1 _ _ _ h3
  | false =>
    rw [hb] at h2
    unfold ma_ag1 ma_as1
    rw [hb, ← h2]
    exact ma_ag_hit0 t.2 _ _ _ h3
theorem ma_ag_miss1 (t : ma_A1) (i : Nat) (x : ma_V) (m : Nat) (h : ¬ i % 2 = m % 2) : ma_ag1 (ma_as1 t i x) m = ma_ag1 t m := by
  by_cases hp : i % 2 = m % 2
  · have h2 := ma_ev hp
    have h3 : ¬ Nat.div i 2 % 1 = Nat.div m 2 % 1 := by show ¬ (i / 2) % 1 = (m / 2) % 1; omega
    cases hb : Nat.beq (Nat.mod i 2) 0 with
    | true =>
      rw [hb] at h2
      unfold ma_ag1 ma_as1
      rw [hb, ← h2]
      exact ma_ag_miss0 _ _ _ _ h3
    | false =>
      rw [hb] at h2
      unfold ma_ag1 ma_as1
      rw [hb, ← h2]
      exact ma_ag_miss0 _ _ _ _ h3
  · cases hb : Nat.beq (Nat.mod i 2) 0 with
    | true =>
      have h2 := ma_evn hp hb
      unfold ma_ag1 ma_as1
      rw [hb, h2]
      rfl
    | false =>
      have h2 := ma_evn hp hb
      unfold ma_ag1 ma_as1
      rw [hb, h2]
      rfl
theorem ma_ag_nil1 (v : ma_V) (i : Nat) : ma_ag1 (ma_a1 v) i = v := by
  unfold ma_ag1 ma_a1
  cases Nat.beq (Nat.mod i 2) 0 <;> exact ma_ag_nil0 v _
theorem ma_ag_hit2 (t : ma_A2) (i : Nat) (x : ma_V) (m : Nat) (h : i % 4 = m % 4) : ma_ag2 (ma_as2 t i x) m = x := by
  have h2 := ma_ev (show i % 2 = m % 2 by omega)
  have h3 : Nat.div i 2 % 2 = Nat.div m 2 % 2 := by show (i / 2) % 2 = (m / 2) % 2; omega
  cases hb : Nat.beq (Nat.mod i 2) 0 with
  | true =>
    rw [hb] at h2
    unfold ma_ag2 ma_as2
    rw [hb, ← h2]
    exact ma_ag_hit1 t.1 _ _ _ h3
  | false =>
    rw [hb] at h2
    unfold ma_ag2 ma_as2
    rw [hb, ← h2]
    exact ma_ag_hit1 t.2 _ _ _ h3
theorem ma_ag_miss2 (t : ma_A2) (i : Nat) (x : ma_V) (m : Nat) (h : ¬ i % 4 = m % 4) : ma_ag2 (ma_as2 t i x) m = ma_ag2 t m := by
  by_cases hp : i % 2 = m % 2
  · have h2 := ma_ev hp
    have h3 : ¬ Nat.div i 2 % 2 = Nat.div m 2 % 2 := by show ¬ (i / 2) % 2 = (m / 2) % 2; omega
    cases hb : Nat.beq (Nat.mod i 2) 0 with
    | true =>
      rw [hb] at h2
      unfold ma_ag2 ma_as2
      rw [hb, ← h2]
      exact ma_ag_miss1 _ _ _ _ h3
    | false =>
      rw [hb] at h2
      unfold ma_ag2 ma_as2
      rw [hb, ← h2]
      exact ma_ag_miss1 _ _ _ _ h3
  · cases hb : Nat.beq (Nat.mod i 2) 0 with
    | true =>
      have h2 := ma_evn hp hb
      unfold ma_ag2 ma_as2
      rw [hb, h2]
      rfl
    | false =>
      have h2 := ma_evn hp hb
      unfold ma_ag2 ma_as2
      rw [hb, h2]
      rfl
theorem ma_ag_nil2 (v : ma_V) (i : Nat) : ma_ag2 (ma_a2 v) i = v := by
  unfold ma_ag2 ma_a2
  cases Nat.beq (Nat.mod i 2) 0 <;> exact ma_ag_nil1 v _
theorem ma_ag_hit3 (t : ma_A3) (i : Nat) (x : ma_V) (m : Nat) (h : i % 8 = m % 8) : ma_ag3 (ma_as3 t i x) m = x := by
  have h2 := ma_ev (show i % 2 = m % 2 by omega)
  have h3 : Nat.div i 2 % 4 = Nat.div m 2 % 4 := by show (i / 2) % 4 = (m / 2) % 4; omega
  cases hb : Nat.beq (Nat.mod i 2) 0 with
  | true =>
    rw [hb] at h2
    unfold ma_ag3 ma_as3
    rw [hb, ← h2]
    exact ma_ag_hit2 t.1 _ _ _ h3
  | false =>
    rw [hb] at h2
    unfold ma_ag3 ma_as3
    rw [hb, ← h2]
    exact ma_ag_hit2 t.2 _ _ _ h3
theorem ma_ag_miss3 (t : ma_A3) (i : Nat) (x : ma_V) (m : Nat) (h : ¬ i % 8 = m % 8) : ma_ag3 (ma_as3 t i x) m = ma_ag3 t m := by
  by_cases hp : i % 2 = m % 2
  · have h2 := ma_ev hp
    have h3 : ¬ Nat.div i 2 % 4 = Nat.div m 2 % 4 := by show ¬ (i / 2) % 4 = (m / 2) % 4; omega
    cases hb : Nat.beq (Nat.mod i 2) 0 with
    | true =>
      rw [hb] at h2
      unfold ma_ag3 ma_as3
      rw [hb, ← h2]
      exact ma_ag_miss2 _ _ _ _ h3
    | false =>
      rw [hb] at h2
      unfold ma_ag3 ma_as3
      rw [hb, ← h2]
      exact ma_ag_miss2 _ _ _ _ h3
  · cases hb : Nat.beq (Nat.mod i 2) 0 with
    | true =>
      have h2 := ma_evn hp hb
      unfold ma_ag3 ma_as3
      rw [hb, h2]
      rfl
    | false =>
      have h2 := ma_evn hp hb
      unfold ma_ag3 ma_as3
      rw [hb, h2]
      rfl
theorem ma_ag_nil3 (v : ma_V) (i : Nat) : ma_ag3 (ma_a3 v) i = v := by
  unfold ma_ag3 ma_a3
  cases Nat.beq (Nat.mod i 2) 0 <;> exact ma_ag_nil2 v _
theorem ma_ag_hit4 (t : ma_A4) (i : Nat) (x : ma_V) (m : Nat) (h : i % 16 = m % 16) : ma_ag4 (ma_as4 t i x) m = x := by
  have h2 := ma_ev (show i % 2 = m % 2 by omega)
  have h3 : Nat.div i 2 % 8 = Nat.div m 2 % 8 := by show (i / 2) % 8 = (m / 2) % 8; omega
  cases hb : Nat.beq (Nat.mod i 2) 0 with
  | true =>
    rw [hb] at h2
    unfold ma_ag4 ma_as4
    rw [hb, ← h2]
    exact ma_ag_hit3 t.1 _ _ _ h3
  | false =>
    rw [hb] at h2
    unfold ma_ag4 ma_as4
    rw [hb, ← h2]
    exact ma_ag_hit3 t.2 _ _ _ h3
theorem ma_ag_miss4 (t : ma_A4) (i : Nat) (x : ma_V) (m : Nat) (h : ¬ i % 16 = m % 16) : ma_ag4 (ma_as4 t i x) m = ma_ag4 t m := by
  by_cases hp : i % 2 = m % 2
  · have h2 := ma_ev hp
    have h3 : ¬ Nat.div i 2 % 8 = Nat.div m 2 % 8 := by show ¬ (i / 2) % 8 = (m / 2) % 8; omega
    cases hb : Nat.beq (Nat.mod i 2) 0 with
    | true =>
      rw [hb] at h2
      unfold ma_ag4 ma_as4
      rw [hb, ← h2]
      exact ma_ag_miss3 _ _ _ _ h3
    | false =>
      rw [hb] at h2
      unfold ma_ag4 ma_as4
      rw [hb, ← h2]
      exact ma_ag_miss3 _ _ _ _ h3
  · cases hb : Nat.beq (Nat.mod i 2) 0 with
    | true =>
      have h2 := ma_evn hp hb
      unfold ma_ag4 ma_as4
      rw [hb, h2]
      rfl
    | false =>
      have h2 := ma_evn hp hb
      unfold ma_ag4 ma_as4
      rw [hb, h2]
      rfl
theorem ma_ag_nil4 (v : ma_V) (i : Nat) : ma_ag4 (ma_a4 v) i = v := by
  unfold ma_ag4 ma_a4
  cases Nat.beq (Nat.mod i 2) 0 <;> exact ma_ag_nil3 v _
theorem ma_ag_hit5 (t : ma_A5) (i : Nat) (x : ma_V) (m : Nat) (h : i % 32 = m % 32) : ma_ag5 (ma_as5 t i x) m = x := by
  have h2 := ma_ev (show i % 2 = m % 2 by omega)
  have h3 : Nat.div i 2 % 16 = Nat.div m 2 % 16 := by show (i / 2) % 16 = (m / 2) % 16; omega
  cases hb : Nat.beq (Nat.mod i 2) 0 with
  | true =>
    rw [hb] at h2
    unfold ma_ag5 ma_as5
    rw [hb, ← h2]
    exact ma_ag_hit4 t.1 _ _ _ h3
  | false =>
    rw [hb] at h2
    unfold ma_ag5 ma_as5
    rw [hb, ← h2]
    exact ma_ag_hit4 t.2 _ _ _ h3
theorem ma_ag_miss5 (t : ma_A5) (i : Nat) (x : ma_V) (m : Nat) (h : ¬ i % 32 = m % 32) : ma_ag5 (ma_as5 t i x) m = ma_ag5 t m := by
  by_cases hp : i % 2 = m % 2
  · have h2 := ma_ev hp
    have h3 : ¬ Nat.div i 2 % 16 = Nat.div m 2 % 16 := by show ¬ (i / 2) % 16 = (m / 2) % 16; omega
    cases hb : Nat.beq (Nat.mod i 2) 0 with
    | true =>
      rw [hb] at h2
      unfold ma_ag5 ma_as5
      rw [hb, ← h2]
      exact ma_ag_miss4 _ _ _ _ h3
    | false =>
      rw [hb] at h2
      unfold ma_ag5 ma_as5
      rw [hb, ← h2]
      exact ma_ag_miss4 _ _ _ _ h3
  · cases hb : Nat.beq (Nat.mod i 2) 0 with
    | true =>
      have h2 := ma_evn hp hb
      unfold ma_ag5 ma_as5
      rw [hb, h2]
      rfl
    | false =>
      have h2 := ma_evn hp hb
      unfold ma_ag5 ma_as5
      rw [hb, h2]
      rfl
theorem ma_ag_nil5 (v : ma_V) (i : Nat) : ma_ag5 (ma_a5 v) i = v := by
  unfold ma_ag5 ma_a5
  cases Nat.beq (Nat.mod i 2) 0 <;> exact ma_ag_nil4 v _
theorem ma_ag_hit6 (t : ma_A6) (i : Nat) (x : ma_V) (m : Nat) (h : i % 64 = m % 64) : ma_ag6 (ma_as6 t i x) m = x := by
  have h2 := ma_ev (show i % 2 = m % 2 by omega)
  have h3 : Nat.div i 2 % 32 = Nat.div m 2 % 32 := by show (i / 2) % 32 = (m / 2) % 32; omega
  cases hb : Nat.beq (Nat.mod i 2) 0 with
  | true =>
    rw [hb] at h2
    unfold ma_ag6 ma_as6
    rw [hb, ← h2]
    exact ma_ag_hit5 t.1 _ _ _ h3
  | false =>
    rw [hb] at h2
    unfold ma_ag6 ma_as6
    rw [hb, ← h2]
    exact ma_ag_hit5 t.2 _ _ _ h3
theorem ma_ag_miss6 (t : ma_A6) (i : Nat) (x : ma_V) (m : Nat) (h : ¬ i % 64 = m % 64) : ma_ag6 (ma_as6 t i x) m = ma_ag6 t m := by
  by_cases hp : i % 2 = m % 2
  · have h2 := ma_ev hp
    have h3 : ¬ Nat.div i 2 % 32 = Nat.div m 2 % 32 := by show ¬ (i / 2) % 32 = (m / 2) % 32; omega
    cases hb : Nat.beq (Nat.mod i 2) 0 with
    | true =>
      rw [hb] at h2
      unfold ma_ag6 ma_as6
      rw [hb, ← h2]
      exact ma_ag_miss5 _ _ _ _ h3
    | false =>
      rw [hb] at h2
      unfold ma_ag6 ma_as6
      rw [hb, ← h2]
      exact ma_ag_miss5 _ _ _ _ h3
  · cases hb : Nat.beq (Nat.mod i 2) 0 with
    | true =>
      have h2 := ma_evn hp hb
      unfold ma_ag6 ma_as6
      rw [hb, h2]
      rfl
    | false =>
      have h2 := ma_evn hp hb
      unfold ma_ag6 ma_as6
      rw [hb, h2]
      rfl
theorem ma_ag_nil6 (v : ma_V) (i : Nat) : ma_ag6 (ma_a6 v) i = v := by
  unfold ma_ag6 ma_a6
  cases Nat.beq (Nat.mod i 2) 0 <;> exact ma_ag_nil5 v _
theorem ma_ag_hit7 (t : ma_A7) (i : Nat) (x : ma_V) (m : Nat) (h : i % 128 = m % 128) : ma_ag7 (ma_as7 t i x) m = x := by
  have h2 := ma_ev (show i % 2 = m % 2 by omega)
  have h3 : Nat.div i 2 % 64 = Nat.div m 2 % 64 := by show (i / 2) % 64 = (m / 2) % 64; omega
  cases hb : Nat.beq (Nat.mod i 2) 0 with
  | true =>
    rw [hb] at h2
    unfold ma_ag7 ma_as7
    rw [hb, ← h2]
    exact ma_ag_hit6 t.1 _ _ _ h3
  | false =>
    rw [hb] at h2
    unfold ma_ag7 ma_as7
    rw [hb, ← h2]
    exact ma_ag_hit6 t.2 _ _ _ h3
theorem ma_ag_miss7 (t : ma_A7) (i : Nat) (x : ma_V) (m : Nat) (h : ¬ i % 128 = m % 128) : ma_ag7 (ma_as7 t i x) m = ma_ag7 t m := by
  by_cases hp : i % 2 = m % 2
  · have h2 := ma_ev hp
    have h3 : ¬ Nat.div i 2 % 64 = Nat.div m 2 % 64 := by show ¬ (i / 2) % 64 = (m / 2) % 64; omega
    cases hb : Nat.beq (Nat.mod i 2) 0 with
    | true =>
      rw [hb] at h2
      unfold ma_ag7 ma_as7
      rw [hb, ← h2]
      exact ma_ag_miss6 _ _ _ _ h3
    | false =>
      rw [hb] at h2
      unfold ma_ag7 ma_as7
      rw [hb, ← h2]
      exact ma_ag_miss6 _ _ _ _ h3
  · cases hb : Nat.beq (Nat.mod i 2) 0 with
    | true =>
      have h2 := ma_evn hp hb
      unfold ma_ag7 ma_as7
      rw [hb, h2]
      rfl
    | false =>
      have h2 := ma_evn hp hb
      unfold ma_ag7 ma_as7
      rw [hb, h2]
      rfl
theorem ma_ag_nil7 (v : ma_V) (i : Nat) : ma_ag7 (ma_a7 v) i = v := by
  unfold ma_ag7 ma_a7
  cases Nat.beq (Nat.mod i 2) 0 <;> exact ma_ag_nil6 v _
theorem ma_ag_hit8 (t : ma_A8) (i : Nat) (x : ma_V) (m : Nat) (h : i % 256 = m % 256) : ma_ag8 (ma_as8 t i x) m = x := by
  have h2 := ma_ev (show i % 2 = m % 2 by omega)
  have h3 : Nat.div i 2 % 128 = Nat.div m 2 % 128 := by show (i / 2) % 128 = (m / 2) % 128; omega
  cases hb : Nat.beq (Nat.mod i 2) 0 with
  | true =>
    rw [hb] at h2
    unfold ma_ag8 ma_as8
    rw [hb, ← h2]
    exact ma_ag_hit7 t.1 _ _ _ h3
  | false =>
    rw [hb] at h2
    unfold ma_ag8 ma_as8
    rw [hb, ← h2]
    exact ma_ag_hit7 t.2 _ _ _ h3
theorem ma_ag_miss8 (t : ma_A8) (i : Nat) (x : ma_V) (m : Nat) (h : ¬ i % 256 = m % 256) : ma_ag8 (ma_as8 t i x) m = ma_ag8 t m := by
  by_cases hp : i % 2 = m % 2
  · have h2 := ma_ev hp
    have h3 : ¬ Nat.div i 2 % 128 = Nat.div m 2 % 128 := by show ¬ (i / 2) % 128 = (m / 2) % 128; omega
    cases hb : Nat.beq (Nat.mod i 2) 0 with
    | true =>
      rw [hb] at h2
      unfold ma_ag8 ma_as8
      rw [hb, ← h2]
      exact ma_ag_miss7 _ _ _ _ h3
    | false =>
      rw [hb] at h2
      unfold ma_ag8 ma_as8
      rw [hb, ← h2]
      exact ma_ag_miss7 _ _ _ _ h3
  · cases hb : Nat.beq (Nat.mod i 2) 0 with
    | true =>
      have h2 := ma_evn hp hb
      unfold ma_ag8 ma_as8
      rw [hb, h2]
      rfl
    | false =>
      have h2 := ma_evn hp hb
      unfold ma_ag8 ma_as8
      rw [hb, h2]
      rfl
theorem ma_ag_nil8 (v : ma_V) (i : Nat) : ma_ag8 (ma_a8 v) i = v := by
  unfold ma_ag8 ma_a8
  cases Nat.beq (Nat.mod i 2) 0 <;> exact ma_ag_nil7 v _
theorem ma_ag_hit9 (t : ma_A9) (i : Nat) (x : ma_V) (m : Nat) (h : i % 512 = m % 512) : ma_ag9 (ma_as9 t i x) m = x := by
  have h2 := ma_ev (show i % 2 = m % 2 by omega)
  have h3 : Nat.div i 2 % 256 = Nat.div m 2 % 256 := by show (i / 2) % 256 = (m / 2) % 256; omega
  cases hb : Nat.beq (Nat.mod i 2) 0 with
  | true =>
    rw [hb] at h2
    unfold ma_ag9 ma_as9
    rw [hb, ← h2]
    exact ma_ag_hit8 t.1 _ _ _ h3
  | false =>
    rw [hb] at h2
    unfold ma_ag9 ma_as9
    rw [hb, ← h2]
    exact ma_ag_hit8 t.2 _ _ _ h3
theorem ma_ag_miss9 (t : ma_A9) (i : Nat) (x : ma_V) (m : Nat) (h : ¬ i % 512 = m % 512) : ma_ag9 (ma_as9 t i x) m = ma_ag9 t m := by
  by_cases hp : i % 2 = m % 2
  · have h2 := ma_ev hp
    have h3 : ¬ Nat.div i 2 % 256 = Nat.div m 2 % 256 := by show ¬ (i / 2) % 256 = (m / 2) % 256; omega
    cases hb : Nat.beq (Nat.mod i 2) 0 with
    | true =>
      rw [hb] at h2
      unfold ma_ag9 ma_as9
      rw [hb, ← h2]
      exact ma_ag_miss8 _ _ _ _ h3
    | false =>
      rw [hb] at h2
      unfold ma_ag9 ma_as9
      rw [hb, ← h2]
      exact ma_ag_miss8 _ _ _ _ h3
  · cases hb : Nat.beq (Nat.mod i 2) 0 with
    | true =>
      have h2 := ma_evn hp hb
      unfold ma_ag9 ma_as9
      rw [hb, h2]
      rfl
    | false =>
      have h2 := ma_evn hp hb
      unfold ma_ag9 ma_as9
      rw [hb, h2]
      rfl
theorem ma_ag_nil9 (v : ma_V) (i : Nat) : ma_ag9 (ma_a9 v) i = v := by
  unfold ma_ag9 ma_a9
  cases Nat.beq (Nat.mod i 2) 0 <;> exact ma_ag_nil8 v _
theorem ma_ag_hit10 (t : ma_A10) (i : Nat) (x : ma_V) (m : Nat) (h : i % 1024 = m % 1024) : ma_ag10 (ma_as10 t i x) m = x := by
  have h2 := ma_ev (show i % 2 = m % 2 by omega)
  have h3 : Nat.div i 2 % 512 = Nat.div m 2 % 512 := by show (i / 2) % 512 = (m / 2) % 512; omega
  cases hb : Nat.beq (Nat.mod i 2) 0 with
  | true =>
    rw [hb] at h2
    unfold ma_ag10 ma_as10
    rw [hb, ← h2]
    exact ma_ag_hit9 t.1 _ _ _ h3
  | false =>
    rw [hb] at h2
    unfold ma_ag10 ma_as10
    rw [hb, ← h2]
    exact ma_ag_hit9 t.2 _ _ _ h3
theorem ma_ag_miss10 (t : ma_A10) (i : Nat) (x : ma_V) (m : Nat) (h : ¬ i % 1024 = m % 1024) : ma_ag10 (ma_as10 t i x) m = ma_ag10 t m := by
  by_cases hp : i % 2 = m % 2
  · have h2 := ma_ev hp
    have h3 : ¬ Nat.div i 2 % 512 = Nat.div m 2 % 512 := by show ¬ (i / 2) % 512 = (m / 2) % 512; omega
    cases hb : Nat.beq (Nat.mod i 2) 0 with
    | true =>
      rw [hb] at h2
      unfold ma_ag10 ma_as10
      rw [hb, ← h2]
      exact ma_ag_miss9 _ _ _ _ h3
    | false =>
      rw [hb] at h2
      unfold ma_ag10 ma_as10
      rw [hb, ← h2]
      exact ma_ag_miss9 _ _ _ _ h3
  · cases hb : Nat.beq (Nat.mod i 2) 0 with
    | true =>
      have h2 := ma_evn hp hb
      unfold ma_ag10 ma_as10
      rw [hb, h2]
      rfl
    | false =>
      have h2 := ma_evn hp hb
      unfold ma_ag10 ma_as10
      rw [hb, h2]
      rfl
theorem ma_ag_nil10 (v : ma_V) (i : Nat) : ma_ag10 (ma_a10 v) i = v := by
  unfold ma_ag10 ma_a10
  cases Nat.beq (Nat.mod i 2) 0 <;> exact ma_ag_nil9 v _
theorem ma_ag_hit11 (t : ma_A11) (i : Nat) (x : ma_V) (m : Nat) (h : i % 2048 = m % 2048) : ma_ag11 (ma_as11 t i x) m = x := by
  have h2 := ma_ev (show i % 2 = m % 2 by omega)
  have h3 : Nat.div i 2 % 1024 = Nat.div m 2 % 1024 := by show (i / 2) % 1024 = (m / 2) % 1024; omega
  cases hb : Nat.beq (Nat.mod i 2) 0 with
  | true =>
    rw [hb] at h2
    unfold ma_ag11 ma_as11
    rw [hb, ← h2]
    exact ma_ag_hit10 t.1 _ _ _ h3
  | false =>
    rw [hb] at h2
    unfold ma_ag11 ma_as11
    rw [hb, ← h2]
    exact ma_ag_hit10 t.2 _ _ _ h3
theorem ma_ag_miss11 (t : ma_A11) (i : Nat) (x : ma_V) (m : Nat) (h : ¬ i % 2048 = m % 2048) : ma_ag11 (ma_as11 t i x) m = ma_ag11 t m := by
  by_cases hp : i % 2 = m % 2
  · have h2 := ma_ev hp
    have h3 : ¬ Nat.div i 2 % 1024 = Nat.div m 2 % 1024 := by show ¬ (i / 2) % 1024 = (m / 2) % 1024; omega
    cases hb : Nat.beq (Nat.mod i 2) 0 with
    | true =>
      rw [hb] at h2
      unfold ma_ag11 ma_as11
      rw [hb, ← h2]
      exact ma_ag_miss10 _ _ _ _ h3
    | false =>
      rw [hb] at h2
      unfold ma_ag11 ma_as11
      rw [hb, ← h2]
      exact ma_ag_miss10 _ _ _ _ h3
  · cases hb : Nat.beq (Nat.mod i 2) 0 with
    | true =>
      have h2 := ma_evn hp hb
      unfold ma_ag11 ma_as11
      rw [hb, h2]
      rfl
    | false =>
      have h2 := ma_evn hp hb
      unfold ma_ag11 ma_as11
      rw [hb, h2]
      rfl
theorem ma_ag_nil11 (v : ma_V) (i : Nat) : ma_ag11 (ma_a11 v) i = v := by
  unfold ma_ag11 ma_a11
  cases Nat.beq (Nat.mod i 2) 0 <;> exact ma_ag_nil10 v _
theorem ma_ag_hit12 (t : ma_A12) (i : Nat) (x : ma_V) (m : Nat) (h : i % 4096 = m % 4096) : ma_ag12 (ma_as12 t i x) m = x := by
  have h2 := ma_ev (show i % 2 = m % 2 by omega)
  have h3 : Nat.div i 2 % 2048 = Nat.div m 2 % 2048 := by show (i / 2) % 2048 = (m / 2) % 2048; omega
  cases hb : Nat.beq (Nat.mod i 2) 0 with
  | true =>
    rw [hb] at h2
    unfold ma_ag12 ma_as12
    rw [hb, ← h2]
    exact ma_ag_hit11 t.1 _ _ _ h3
  | false =>
    rw [hb] at h2
    unfold ma_ag12 ma_as12
    rw [hb, ← h2]
    exact ma_ag_hit11 t.2 _ _ _ h3
theorem ma_ag_miss12 (t : ma_A12) (i : Nat) (x : ma_V) (m : Nat) (h : ¬ i % 4096 = m % 4096) : ma_ag12 (ma_as12 t i x) m = ma_ag12 t m := by
  by_cases hp : i % 2 = m % 2
  · have h2 := ma_ev hp
    have h3 : ¬ Nat.div i 2 % 2048 = Nat.div m 2 % 2048 := by show ¬ (i / 2) % 2048 = (m / 2) % 2048; omega
    cases hb : Nat.beq (Nat.mod i 2) 0 with
    | true =>
      rw [hb] at h2
      unfold ma_ag12 ma_as12
      rw [hb, ← h2]
      exact ma_ag_miss11 _ _ _ _ h3
    | false =>
      rw [hb] at h2
      unfold ma_ag12 ma_as12
      rw [hb, ← h2]
      exact ma_ag_miss11 _ _ _ _ h3
  · cases hb : Nat.beq (Nat.mod i 2) 0 with
    | true =>
      have h2 := ma_evn hp hb
      unfold ma_ag12 ma_as12
      rw [hb, h2]
      rfl
    | false =>
      have h2 := ma_evn hp hb
      unfold ma_ag12 ma_as12
      rw [hb, h2]
      rfl
theorem ma_ag_nil12 (v : ma_V) (i : Nat) : ma_ag12 (ma_a12 v) i = v := by
  unfold ma_ag12 ma_a12
  cases Nat.beq (Nat.mod i 2) 0 <;> exact ma_ag_nil11 v _
theorem ma_ag_hit13 (t : ma_A13) (i : Nat) (x : ma_V) (m : Nat) (h : i % 8192 = m % 8192) : ma_ag13 (ma_as13 t i x) m = x := by
  have h2 := ma_ev (show i % 2 = m % 2 by omega)
  have h3 : Nat.div i 2 % 4096 = Nat.div m 2 % 4096 := by show (i / 2) % 4096 = (m / 2) % 4096; omega
  cases hb : Nat.beq (Nat.mod i 2) 0 with
  | true =>
    rw [hb] at h2
    unfold ma_ag13 ma_as13
    rw [hb, ← h2]
    exact ma_ag_hit12 t.1 _ _ _ h3
  | false =>
    rw [hb] at h2
    unfold ma_ag13 ma_as13
    rw [hb, ← h2]
    exact ma_ag_hit12 t.2 _ _ _ h3
theorem ma_ag_miss13 (t : ma_A13) (i : Nat) (x : ma_V) (m : Nat) (h : ¬ i % 8192 = m % 8192) : ma_ag13 (ma_as13 t i x) m = ma_ag13 t m := by
  by_cases hp : i % 2 = m % 2
  · have h2 := ma_ev hp
    have h3 : ¬ Nat.div i 2 % 4096 = Nat.div m 2 % 4096 := by show ¬ (i / 2) % 4096 = (m / 2) % 4096; omega
    cases hb : Nat.beq (Nat.mod i 2) 0 with
    | true =>
      rw [hb] at h2
      unfold ma_ag13 ma_as13
      rw [hb, ← h2]
      exact ma_ag_miss12 _ _ _ _ h3
    | false =>
      rw [hb] at h2
      unfold ma_ag13 ma_as13
      rw [hb, ← h2]
      exact ma_ag_miss12 _ _ _ _ h3
  · cases hb : Nat.beq (Nat.mod i 2) 0 with
    | true =>
      have h2 := ma_evn hp hb
      unfold ma_ag13 ma_as13
      rw [hb, h2]
      rfl
    | false =>
      have h2 := ma_evn hp hb
      unfold ma_ag13 ma_as13
      rw [hb, h2]
      rfl
theorem ma_ag_nil13 (v : ma_V) (i : Nat) : ma_ag13 (ma_a13 v) i = v := by
  unfold ma_ag13 ma_a13
  cases Nat.beq (Nat.mod i 2) 0 <;> exact ma_ag_nil12 v _
theorem ma_ag_hit14 (t : ma_A14) (i : Nat) (x : ma_V) (m : Nat) (h : i % 16384 = m % 16384) : ma_ag14 (ma_as14 t i x) m = x := by
  have h2 := ma_ev (show i % 2 = m % 2 by omega)
  have h3 : Nat.div i 2 % 8192 = Nat.div m 2 % 8192 := by show (i / 2) % 8192 = (m / 2) % 8192; omega
  cases hb : Nat.beq (Nat.mod i 2) 0 with
  | true =>
    rw [hb] at h2
    unfold ma_ag14 ma_as14
    rw [hb, ← h2]
    exact ma_ag_hit13 t.1 _ _ _ h3
  | false =>
    rw [hb] at h2
    unfold ma_ag14 ma_as14
    rw [hb, ← h2]
    exact ma_ag_hit13 t.2 _ _ _ h3
theorem ma_ag_miss14 (t : ma_A14) (i : Nat) (x : ma_V) (m : Nat) (h : ¬ i % 16384 = m % 16384) : ma_ag14 (ma_as14 t i x) m = ma_ag14 t m := by
  by_cases hp : i % 2 = m % 2
  · have h2 := ma_ev hp
    have h3 : ¬ Nat.div i 2 % 8192 = Nat.div m 2 % 8192 := by show ¬ (i / 2) % 8192 = (m / 2) % 8192; omega
    cases hb : Nat.beq (Nat.mod i 2) 0 with
    | true =>
      rw [hb] at h2
      unfold ma_ag14 ma_as14
      rw [hb, ← h2]
      exact ma_ag_miss13 _ _ _ _ h3
    | false =>
      rw [hb] at h2
      unfold ma_ag14 ma_as14
      rw [hb, ← h2]
      exact ma_ag_miss13 _ _ _ _ h3
  · cases hb : Nat.beq (Nat.mod i 2) 0 with
    | true =>
      have h2 := ma_evn hp hb
      unfold ma_ag14 ma_as14
      rw [hb, h2]
      rfl
    | false =>
      have h2 := ma_evn hp hb
      unfold ma_ag14 ma_as14
      rw [hb, h2]
      rfl
theorem ma_ag_nil14 (v : ma_V) (i : Nat) : ma_ag14 (ma_a14 v) i = v := by
  unfold ma_ag14 ma_a14
  cases Nat.beq (Nat.mod i 2) 0 <;> exact ma_ag_nil13 v _
theorem ma_ag_hit15 (t : ma_A15) (i : Nat) (x : ma_V) (m : Nat) (h : i % 32768 = m % 32768) : ma_ag15 (ma_as15 t i x) m = x := by
  have h2 := ma_ev (show i % 2 = m % 2 by omega)
  have h3 : Nat.div i 2 % 16384 = Nat.div m 2 % 16384 := by show (i / 2) % 16384 = (m / 2) % 16384; omega
  cases hb : Nat.beq (Nat.mod i 2) 0 with
  | true =>
    rw [hb] at h2
    unfold ma_ag15 ma_as15
    rw [hb, ← h2]
    exact ma_ag_hit14 t.1 _ _ _ h3
  | false =>
    rw [hb] at h2
    unfold ma_ag15 ma_as15
    rw [hb, ← h2]
    exact ma_ag_hit14 t.2 _ _ _ h3
theorem ma_ag_miss15 (t : ma_A15) (i : Nat) (x : ma_V) (m : Nat) (h : ¬ i % 32768 = m % 32768) : ma_ag15 (ma_as15 t i x) m = ma_ag15 t m := by
  by_cases hp : i % 2 = m % 2
  · have h2 := ma_ev hp
    have h3 : ¬ Nat.div i 2 % 16384 = Nat.div m 2 % 16384 := by show ¬ (i / 2) % 16384 = (m / 2) % 16384; omega
    cases hb : Nat.beq (Nat.mod i 2) 0 with
    | true =>
      rw [hb] at h2
      unfold ma_ag15 ma_as15
      rw [hb, ← h2]
      exact ma_ag_miss14 _ _ _ _ h3
    | false =>
      rw [hb] at h2
      unfold ma_ag15 ma_as15
      rw [hb, ← h2]
      exact ma_ag_miss14 _ _ _ _ h3
  · cases hb : Nat.beq (Nat.mod i 2) 0 with
    | true =>
      have h2 := ma_evn hp hb
      unfold ma_ag15 ma_as15
      rw [hb, h2]
      rfl
    | false =>
      have h2 := ma_evn hp hb
      unfold ma_ag15 ma_as15
      rw [hb, h2]
      rfl
theorem ma_ag_nil15 (v : ma_V) (i : Nat) : ma_ag15 (ma_a15 v) i = v := by
  unfold ma_ag15 ma_a15
  cases Nat.beq (Nat.mod i 2) 0 <;> exact ma_ag_nil14 v _
theorem ma_g_hit1 (t : ma_T1) (i : Nat) (x : ma_C) (m : Nat) (h : i % 2 = m % 2) : ma_g1 (ma_p1 t i x) m = some x := by
  have h2 := ma_ev (show i % 2 = m % 2 by omega)
  have h3 : Nat.div i 2 % 1 = Nat.div m 2 % 1 := by show (i / 2) % 1 = (m / 2) % 1; omega
  cases hb : Nat.beq (Nat.mod i 2) 0 with
  | true =>
    rw [hb] at h2
    unfold ma_g1 ma_p1
    rw [hb, ← h2]
    exact ma_g_hit0 t.1 _ _ _ h3
  | false =>
    rw [hb] at h2
    unfold ma_g1 ma_p1
    rw [hb, ← h2]
    exact ma_g_hit0 t.2 _ _ _ h3
theorem ma_g_miss1 (t : ma_T1) (i : Nat) (x : ma_C) (m : Nat) (h : ¬ i % 2 = m % 2) : ma_g1 (ma_p1 t i x) m = ma_g1 t m := by
  by_cases hp : i % 2 = m % 2
  · have h2 := ma_ev hp
    have h3 : ¬ Nat.div i 2 % 1 = Nat.div m 2 % 1 := by show ¬ (i / 2) % 1 = (m / 2) % 1; omega
    cases hb : Nat.beq (Nat.mod i 2) 0 with
    | true =>
      rw [hb] at h2
      unfold ma_g1 ma_p1
      rw [hb, ← h2]
      exact ma_g_miss0 _ _ _ _ h3
    | false =>
      rw [hb] at h2
      unfold ma_g1 ma_p1
      rw [hb, ← h2]
      exact ma_g_miss0 _ _ _ _ h3
  · cases hb : Nat.beq (Nat.mod i 2) 0 with
    | true =>
      have h2 := ma_evn hp hb
      unfold ma_g1 ma_p1
      rw [hb, h2]
      rfl
    | false =>
      have h2 := ma_evn hp hb
      unfold ma_g1 ma_p1
      rw [hb, h2]
      rfl
theorem ma_g_nil1 (i : Nat) : ma_g1 ma_n1 i = none := by
  unfold ma_g1 ma_n1
  cases Nat.beq (Nat.mod i 2) 0 <;> exact ma_g_nil0 _
theorem ma_g_hit2 (t : ma_T2) (i : Nat) (x : ma_C) (m : Nat) (h : i % 4 = m % 4) : ma_g2 (ma_p2 t i x) m = some x := by
  have h2 := ma_ev (show i % 2 = m % 2 by omega)
  have h3 : Nat.div i 2 % 2 = Nat.div m 2 % 2 := by show (i / 2) % 2 = (m / 2) % 2; omega
  cases hb : Nat.beq (Nat.mod i 2) 0 with
  | true =>
    rw [hb] at h2
    unfold ma_g2 ma_p2
    rw [hb, ← h2]
    exact ma_g_hit1 t.1 _ _ _ h3
  | false =>
    rw [hb] at h2
    unfold ma_g2 ma_p2
    rw [hb, ← h2]
    exact ma_g_hit1 t.2 _ _ _ h3
theorem ma_g_miss2 (t : ma_T2) (i : Nat) (x : ma_C) (m : Nat) (h : ¬ i % 4 = m % 4) : ma_g2 (ma_p2 t i x) m = ma_g2 t m := by
  by_cases hp : i % 2 = m % 2
  · have h2 := ma_ev hp
    have h3 : ¬ Nat.div i 2 % 2 = Nat.div m 2 % 2 := by show ¬ (i / 2) % 2 = (m / 2) % 2; omega
    cases hb : Nat.beq (Nat.mod i 2) 0 with
    | true =>
      rw [hb] at h2
      unfold ma_g2 ma_p2
      rw [hb, ← h2]
      exact ma_g_miss1 _ _ _ _ h3
    | false =>
      rw [hb] at h2
      unfold ma_g2 ma_p2
      rw [hb, ← h2]
      exact ma_g_miss1 _ _ _ _ h3
  · cases hb : Nat.beq (Nat.mod i 2) 0 with
    | true =>
      have h2 := ma_evn hp hb
      unfold ma_g2 ma_p2
      rw [hb, h2]
      rfl
    | false =>
      have h2 := ma_evn hp hb
      unfold ma_g2 ma_p2
      rw [hb, h2]
      rfl
theorem ma_g_nil2 (i : Nat) : ma_g2 ma_n2 i = none := by
  unfold ma_g2 ma_n2
  cases Nat.beq (Nat.mod i 2) 0 <;> exact ma_g_nil1 _
theorem ma_g_hit3 (t : ma_T3) (i : Nat) (x : ma_C) (m : Nat) (h : i % 8 = m % 8) : ma_g3 (ma_p3 t i x) m = some x := by
  have h2 := ma_ev (show i % 2 = m % 2 by omega)
  have h3 : Nat.div i 2 % 4 = Nat.div m 2 % 4 := by show (i / 2) % 4 = (m / 2) % 4; omega
  cases hb : Nat.beq (Nat.mod i 2) 0 with
  | true =>
    rw [hb] at h2
    unfold ma_g3 ma_p3
    rw [hb, ← h2]
    exact ma_g_hit2 t.1 _ _ _ h3
  | false =>
    rw [hb] at h2
    unfold ma_g3 ma_p3
    rw [hb, ← h2]
    exact ma_g_hit2 t.2 _ _ _ h3
theorem ma_g_miss3 (t : ma_T3) (i : Nat) (x : ma_C) (m : Nat) (h : ¬ i % 8 = m % 8) : ma_g3 (ma_p3 t i x) m = ma_g3 t m := by
  by_cases hp : i % 2 = m % 2
  · have h2 := ma_ev hp
    have h3 : ¬ Nat.div i 2 % 4 = Nat.div m 2 % 4 := by show ¬ (i / 2) % 4 = (m / 2) % 4; omega
    cases hb : Nat.beq (Nat.mod i 2) 0 with
    | true =>
      rw [hb] at h2
      unfold ma_g3 ma_p3
      rw [hb, ← h2]
      exact ma_g_miss2 _ _ _ _ h3
    | false =>
      rw [hb] at h2
      unfold ma_g3 ma_p3
      rw [hb, ← h2]
      exact ma_g_miss2 _ _ _ _ h3
  · cases hb : Nat.beq (Nat.mod i 2) 0 with
    | true =>
      have h2 := ma_evn hp hb
      unfold ma_g3 ma_p3
      rw [hb, h2]
      rfl
    | false =>
      have h2 := ma_evn hp hb
      unfold ma_g3 ma_p3
      rw [hb, h2]
      rfl
theorem ma_g_nil3 (i : Nat) : ma_g3 ma_n3 i = none := by
  unfold ma_g3 ma_n3
  cases Nat.beq (Nat.mod i 2) 0 <;> exact ma_g_nil2 _
theorem ma_g_hit4 (t : ma_T4) (i : Nat) (x : ma_C) (m : Nat) (h : i % 16 = m % 16) : ma_g4 (ma_p4 t i x) m = some x := by
  have h2 := ma_ev (show i % 2 = m % 2 by omega)
  have h3 : Nat.div i 2 % 8 = Nat.div m 2 % 8 := by show (i / 2) % 8 = (m / 2) % 8; omega
  cases hb : Nat.beq (Nat.mod i 2) 0 with
  | true =>
    rw [hb] at h2
    unfold ma_g4 ma_p4
    rw [hb, ← h2]
    exact ma_g_hit3 t.1 _ _ _ h3
  | false =>
    rw [hb] at h2
    unfold ma_g4 ma_p4
    rw [hb, ← h2]
    exact ma_g_hit3 t.2 _ _ _ h3
theorem ma_g_miss4 (t : ma_T4) (i : Nat) (x : ma_C) (m : Nat) (h : ¬ i % 16 = m % 16) : ma_g4 (ma_p4 t i x) m = ma_g4 t m := by
  by_cases hp : i % 2 = m % 2
  · have h2 := ma_ev hp
    have h3 : ¬ Nat.div i 2 % 8 = Nat.div m 2 % 8 := by show ¬ (i / 2) % 8 = (m / 2) % 8; omega
    cases hb : Nat.beq (Nat.mod i 2) 0 with
    | true =>
      rw [hb] at h2
      unfold ma_g4 ma_p4
      rw [hb, ← h2]
      exact ma_g_miss3 _ _ _ _ h3
    | false =>
      rw [hb] at h2
      unfold ma_g4 ma_p4
      rw [hb, ← h2]
      exact ma_g_miss3 _ _ _ _ h3
  · cases hb : Nat.beq (Nat.mod i 2) 0 with
    | true =>
      have h2 := ma_evn hp hb
      unfold ma_g4 ma_p4
      rw [hb, h2]
      rfl
    | false =>
      have h2 := ma_evn hp hb
      unfold ma_g4 ma_p4
      rw [hb, h2]
      rfl
theorem ma_g_nil4 (i : Nat) : ma_g4 ma_n4 i = none := by
  unfold ma_g4 ma_n4
  cases Nat.beq (Nat.mod i 2) 0 <;> exact ma_g_nil3 _
theorem ma_g_hit5 (t : ma_T5) (i : Nat) (x : ma_C) (m : Nat) (h : i % 32 = m % 32) : ma_g5 (ma_p5 t i x) m = some x := by
  have h2 := ma_ev (show i % 2 = m % 2 by omega)
  have h3 : Nat.div i 2 % 16 = Nat.div m 2 % 16 := by show (i / 2) % 16 = (m / 2) % 16; omega
  cases hb : Nat.beq (Nat.mod i 2) 0 with
  | true =>
    rw [hb] at h2
    unfold ma_g5 ma_p5
    rw [hb, ← h2]
    exact ma_g_hit4 t.1 _ _ _ h3
  | false =>
    rw [hb] at h2
    unfold ma_g5 ma_p5
    rw [hb, ← h2]
    exact ma_g_hit4 t.2 _ _ _ h3
theorem ma_g_miss5 (t : ma_T5) (i : Nat) (x : ma_C) (m : Nat) (h : ¬ i % 32 = m % 32) : ma_g5 (ma_p5 t i x) m = ma_g5 t m := by
  by_cases hp : i % 2 = m % 2
  · have h2 := ma_ev hp
    have h3 : ¬ Nat.div i 2 % 16 = Nat.div m 2 % 16 := by show ¬ (i / 2) % 16 = (m / 2) % 16; omega
    cases hb : Nat.beq (Nat.mod i 2) 0 with
    | true =>
      rw [hb] at h2
      unfold ma_g5 ma_p5
      rw [hb, ← h2]
      exact ma_g_miss4 _ _ _ _ h3
    | false =>
      rw [hb] at h2
      unfold ma_g5 ma_p5
      rw [hb, ← h2]
      exact ma_g_miss4 _ _ _ _ h3
  · cases hb : Nat.beq (Nat.mod i 2) 0 with
    | true =>
      have h2 := ma_evn hp hb
      unfold ma_g5 ma_p5
      rw [hb, h2]
      rfl
    | false =>
      have h2 := ma_evn hp hb
      unfold ma_g5 ma_p5
      rw [hb, h2]
      rfl
theorem ma_g_nil5 (i : Nat) : ma_g5 ma_n5 i = none := by
  unfold ma_g5 ma_n5
  cases Nat.beq (Nat.mod i 2) 0 <;> exact ma_g_nil4 _
theorem ma_g_hit6 (t : ma_T6) (i : Nat) (x : ma_C) (m : Nat) (h : i % 64 = m % 64) : ma_g6 (ma_p6 t i x) m = some x := by
  have h2 := ma_ev (show i % 2 = m % 2 by omega)
  have h3 : Nat.div i 2 % 32 = Nat.div m 2 % 32 := by show (i / 2) % 32 = (m / 2) % 32; omega
  cases hb : Nat.beq (Nat.mod i 2) 0 with
  | true =>
    rw [hb] at h2
    unfold ma_g6 ma_p6
    rw [hb, ← h2]
    exact ma_g_hit5 t.1 _ _ _ h3
  | false =>
    rw [hb] at h2
    unfold ma_g6 ma_p6
    rw [hb, ← h2]
    exact ma_g_hit5 t.2 _ _ _ h3
theorem ma_g_miss6 (t : ma_T6) (i : Nat) (x : ma_C) (m : Nat) (h : ¬ i % 64 = m % 64) : ma_g6 (ma_p6 t i x) m = ma_g6 t m := by
  by_cases hp : i % 2 = m % 2
  · have h2 := ma_ev hp
    have h3 : ¬ Nat.div i 2 % 32 = Nat.div m 2 % 32 := by show ¬ (i / 2) % 32 = (m / 2) % 32; omega
    cases hb : Nat.beq (Nat.mod i 2) 0 with
    | true =>
      rw [hb] at h2
      unfold ma_g6 ma_p6
      rw [hb, ← h2]
      exact ma_g_miss5 _ _ _ _ h3
    | false =>
      rw [hb] at h2
      unfold ma_g6 ma_p6
      rw [hb, ← h2]
      exact ma_g_miss5 _ _ _ _ h3
  · cases hb : Nat.beq (Nat.mod i 2) 0 with
    | true =>
      have h2 := ma_evn hp hb
      unfold ma_g6 ma_p6
      rw [hb, h2]
      rfl
    | false =>
      have h2 := ma_evn hp hb
      unfold ma_g6 ma_p6
      rw [hb, h2]
      rfl
theorem ma_g_nil6 (i : Nat) : ma_g6 ma_n6 i = none := by
  unfold ma_g6 ma_n6
  cases Nat.beq (Nat.mod i 2) 0 <;> exact ma_g_nil5 _
theorem ma_g_hit7 (t : ma_T7) (i : Nat) (x : ma_C) (m : Nat) (h : i % 128 = m % 128) : ma_g7 (ma_p7 t i x) m = some x := by
  have h2 := ma_ev (show i % 2 = m % 2 by omega)
  have h3 : Nat.div i 2 % 64 = Nat.div m 2 % 64 := by show (i / 2) % 64 = (m / 2) % 64; omega
  cases hb : Nat.beq (Nat.mod i 2) 0 with
  | true =>
    rw [hb] at h2
    unfold ma_g7 ma_p7
    rw [hb, ← h2]
    exact ma_g_hit6 t.1 _ _ _ h3
  | false =>
    rw [hb] at h2
    unfold ma_g7 ma_p7
    rw [hb, ← h2]
    exact ma_g_hit6 t.2 _ _ _ h3
theorem ma_g_miss7 (t : ma_T7) (i : Nat) (x : ma_C) (m : Nat) (h : ¬ i % 128 = m % 128) : ma_g7 (ma_p7 t i x) m = ma_g7 t m := by
  by_cases hp : i % 2 = m % 2
  · have h2 := ma_ev hp
    have h3 : ¬ Nat.div i 2 % 64 = Nat.div m 2 % 64 := by show ¬ (i / 2) % 64 = (m / 2) % 64; omega
    cases hb : Nat.beq (Nat.mod i 2) 0 with
    | true =>
      rw [hb] at h2
      unfold ma_g7 ma_p7
      rw [hb, ← h2]
      exact ma_g_miss6 _ _ _ _ h3
    | false =>
      rw [hb] at h2
      unfold ma_g7 ma_p7
      rw [hb, ← h2]
      exact ma_g_miss6 _ _ _ _ h3
  · cases hb : Nat.beq (Nat.mod i 2) 0 with
    | true =>
      have h2 := ma_evn hp hb
      unfold ma_g7 ma_p7
      rw [hb, h2]
      rfl
    | false =>
      have h2 := ma_evn hp hb
      unfold ma_g7 ma_p7
      rw [hb, h2]
      rfl
theorem ma_g_nil7 (i : Nat) : ma_g7 ma_n7 i = none := by
  unfold ma_g7 ma_n7
  cases Nat.beq (Nat.mod i 2) 0 <;> exact ma_g_nil6 _
theorem ma_g_hit8 (t : ma_T8) (i : Nat) (x : ma_C) (m : Nat) (h : i % 256 = m % 256) : ma_g8 (ma_p8 t i x) m = some x := by
  have h2 := ma_ev (show i % 2 = m % 2 by omega)
  have h3 : Nat.div i 2 % 128 = Nat.div m 2 % 128 := by show (i / 2) % 128 = (m / 2) % 128; omega
  cases hb : Nat.beq (Nat.mod i 2) 0 with
  | true =>
    rw [hb] at h2
    unfold ma_g8 ma_p8
    rw [hb, ← h2]
    exact ma_g_hit7 t.1 _ _ _ h3
  | false =>
    rw [hb] at h2
    unfold ma_g8 ma_p8
    rw [hb, ← h2]
    exact ma_g_hit7 t.2 _ _ _ h3
theorem ma_g_miss8 (t : ma_T8) (i : Nat) (x : ma_C) (m : Nat) (h : ¬ i % 256 = m % 256) : ma_g8 (ma_p8 t i x) m = ma_g8 t m := by
  by_cases hp : i % 2 = m % 2
  · have h2 := ma_ev hp
    have h3 : ¬ Nat.div i 2 % 128 = Nat.div m 2 % 128 := by show ¬ (i / 2) % 128 = (m / 2) % 128; omega
    cases hb : Nat.beq (Nat.mod i 2) 0 with
    | true =>
      rw [hb] at h2
      unfold ma_g8 ma_p8
      rw [hb, ← h2]
      exact ma_g_miss7 _ _ _ _ h3
    | false =>
      rw [hb] at h2
      unfold ma_g8 ma_p8
      rw [hb, ← h2]
      exact ma_g_miss7 _ _ _ _ h3
  · cases hb : Nat.beq (Nat.mod i 2) 0 with
    | true =>
      have h2 := ma_evn hp hb
      unfold ma_g8 ma_p8
      rw [hb, h2]
      rfl
    | false =>
      have h2 := ma_evn hp hb
      unfold ma_g8 ma_p8
      rw [hb, h2]
      rfl
theorem ma_g_nil8 (i : Nat) : ma_g8 ma_n8 i = none := by
  unfold ma_g8 ma_n8
  cases Nat.beq (Nat.mod i 2) 0 <;> exact ma_g_nil7 _
