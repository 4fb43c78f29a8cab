/-! The small machine over values that may be unknown: an int is a number, or an unknown with a number added; what is known of an unknown is an interval. A state may go on as several. -/
abbrev ma_V : Type := Int ⊕ (Nat × Int) ⊕ Nat ⊕ Int ⊕ Unit
abbrev ma_A0 : Type := ma_V
abbrev ma_A1 : Type := ma_A0 × ma_A0
abbrev ma_A2 : Type := ma_A1 × ma_A1
abbrev ma_A3 : Type := ma_A2 × ma_A2
abbrev ma_A4 : Type := ma_A3 × ma_A3
abbrev ma_A5 : Type := ma_A4 × ma_A4
abbrev ma_A6 : Type := ma_A5 × ma_A5
abbrev ma_A7 : Type := ma_A6 × ma_A6
abbrev ma_A8 : Type := ma_A7 × ma_A7
abbrev ma_A9 : Type := ma_A8 × ma_A8
abbrev ma_A10 : Type := ma_A9 × ma_A9
abbrev ma_A11 : Type := ma_A10 × ma_A10
abbrev ma_A12 : Type := ma_A11 × ma_A11
abbrev ma_A13 : Type := ma_A12 × ma_A12
abbrev ma_A14 : Type := ma_A13 × ma_A13
abbrev ma_A15 : Type := ma_A14 × ma_A14
noncomputable def ma_ag0 (t : ma_A0) (_ : Nat) : ma_V := t
noncomputable def ma_ag1 (t : ma_A1) (i : Nat) : ma_V := Bool.rec (motive := fun _ => ma_V) (ma_ag0 t.2 (Nat.div i 2)) (ma_ag0 t.1 (Nat.div i 2)) (Nat.beq (Nat.mod i 2) 0)
noncomputable def ma_ag2 (t : ma_A2) (i : Nat) : ma_V := Bool.rec (motive := fun _ => ma_V) (ma_ag1 t.2 (Nat.div i 2)) (ma_ag1 t.1 (Nat.div i 2)) (Nat.beq (Nat.mod i 2) 0)
noncomputable def ma_ag3 (t : ma_A3) (i : Nat) : ma_V := Bool.rec (motive := fun _ => ma_V) (ma_ag2 t.2 (Nat.div i 2)) (ma_ag2 t.1 (Nat.div i 2)) (Nat.beq (Nat.mod i 2) 0)
noncomputable def ma_ag4 (t : ma_A4) (i : Nat) : ma_V := Bool.rec (motive := fun _ => ma_V) (ma_ag3 t.2 (Nat.div i 2)) (ma_ag3 t.1 (Nat.div i 2)) (Nat.beq (Nat.mod i 2) 0)
noncomputable def ma_ag5 (t : ma_A5) (i : Nat) : ma_V := Bool.rec (motive := fun _ => ma_V) (ma_ag4 t.2 (Nat.div i 2)) (ma_ag4 t.1 (Nat.div i 2)) (Nat.beq (Nat.mod i 2) 0)
noncomputable def ma_ag6 (t : ma_A6) (i : Nat) : ma_V := Bool.rec (motive := fun _ => ma_V) (ma_ag5 t.2 (Nat.div i 2)) (ma_ag5 t.1 (Nat.div i 2)) (Nat.beq (Nat.mod i 2) 0)
noncomputable def ma_ag7 (t : ma_A7) (i : Nat) : ma_V := Bool.rec (motive := fun _ => ma_V) (ma_ag6 t.2 (Nat.div i 2)) (ma_ag6 t.1 (Nat.div i 2)) (Nat.beq (Nat.mod i 2) 0)
noncomputable def ma_ag8 (t : ma_A8) (i : Nat) : ma_V := Bool.rec (motive := fun _ => ma_V) (ma_ag7 t.2 (Nat.div i 2)) (ma_ag7 t.1 (Nat.div i 2)) (Nat.beq (Nat.mod i 2) 0)
noncomputable def ma_ag9 (t : ma_A9) (i : Nat) : ma_V := Bool.rec (motive := fun _ => ma_V) (ma_ag8 t.2 (Nat.div i 2)) (ma_ag8 t.1 (Nat.div i 2)) (Nat.beq (Nat.mod i 2) 0)
noncomputable def ma_ag10 (t : ma_A10) (i : Nat) : ma_V := Bool.rec (motive := fun _ => ma_V) (ma_ag9 t.2 (Nat.div i 2)) (ma_ag9 t.1 (Nat.div i 2)) (Nat.beq (Nat.mod i 2) 0)
noncomputable def ma_ag11 (t : ma_A11) (i : Nat) : ma_V := Bool.rec (motive := fun _ => ma_V) (ma_ag10 t.2 (Nat.div i 2)) (ma_ag10 t.1 (Nat.div i 2)) (Nat.beq (Nat.mod i 2) 0)
noncomputable def ma_ag12 (t : ma_A12) (i : Nat) : ma_V := Bool.rec (motive := fun _ => ma_V) (ma_ag11 t.2 (Nat.div i 2)) (ma_ag11 t.1 (Nat.div i 2)) (Nat.beq (Nat.mod i 2) 0)
noncomputable def ma_ag13 (t : ma_A13) (i : Nat) : ma_V := Bool.rec (motive := fun _ => ma_V) (ma_ag12 t.2 (Nat.div i 2)) (ma_ag12 t.1 (Nat.div i 2)) (Nat.beq (Nat.mod i 2) 0)
noncomputable def ma_ag14 (t : ma_A14) (i : Nat) : ma_V := Bool.rec (motive := fun _ => ma_V) (ma_ag13 t.2 (Nat.div i 2)) (ma_ag13 t.1 (Nat.div i 2)) (Nat.beq (Nat.mod i 2) 0)
noncomputable def ma_ag15 (t : ma_A15) (i : Nat) : ma_V := Bool.rec (motive := fun _ => ma_V) (ma_ag14 t.2 (Nat.div i 2)) (ma_ag14 t.1 (Nat.div i 2)) (Nat.beq (Nat.mod i 2) 0)
noncomputable def ma_as0 (_ : ma_A0) (_ : Nat) (x : ma_V) : ma_A0 := x
noncomputable def ma_as1 (t : ma_A1) (i : Nat) (x : ma_V) : ma_A1 := Bool.rec (motive := fun _ => ma_A1) ((t.1, ma_as0 t.2 (Nat.div i 2) x)) ((ma_as0 t.1 (Nat.div i 2) x, t.2)) (Nat.beq (Nat.mod i 2) 0)
noncomputable def ma_as2 (t : ma_A2) (i : Nat) (x : ma_V) : ma_A2 := Bool.rec (motive := fun _ => ma_A2) ((t.1, ma_as1 t.2 (Nat.div i 2) x)) ((ma_as1 t.1 (Nat.div i 2) x, t.2)) (Nat.beq (Nat.mod i 2) 0)
noncomputable def ma_as3 (t : ma_A3) (i : Nat) (x : ma_V) : ma_A3 := Bool.rec (motive := fun _ => ma_A3) ((t.1, ma_as2 t.2 (Nat.div i 2) x)) ((ma_as2 t.1 (Nat.div i 2) x, t.2)) (Nat.beq (Nat.mod i 2) 0)
noncomputable def ma_as4 (t : ma_A4) (i : Nat) (x : ma_V) : ma_A4 := Bool.rec (motive := fun _ => ma_A4) ((t.1, ma_as3 t.2 (Nat.div i 2) x)) ((ma_as3 t.1 (Nat.div i 2) x, t.2)) (Nat.beq (Nat.mod i 2) 0)
noncomputable def ma_as5 (t : ma_A5) (i : Nat) (x : ma_V) : ma_A5 := Bool.rec (motive := fun _ => ma_A5) ((t.1, ma_as4 t.2 (Nat.div i 2) x)) ((ma_as4 t.1 (Nat.div i 2) x, t.2)) (Nat.beq (Nat.mod i 2) 0)
noncomputable def ma_as6 (t : ma_A6) (i : Nat) (x : ma_V) : ma_A6 := Bool.rec (motive := fun _ => ma_A6) ((t.1, ma_as5 t.2 (Nat.div i 2) x)) ((ma_as5 t.1 (Nat.div i 2) x, t.2)) (Nat.beq (Nat.mod i 2) 0)
noncomputable def ma_as7 (t : ma_A7) (i : Nat) (x : ma_V) : ma_A7 := Bool.rec (motive := fun _ => ma_A7) ((t.1, ma_as6 t.2 (Nat.div i 2) x)) ((ma_as6 t.1 (Nat.div i 2) x, t.2)) (Nat.beq (Nat.mod i 2) 0)
noncomputable def ma_as8 (t : ma_A8) (i : Nat) (x : ma_V) : ma_A8 := Bool.rec (motive := fun _ => ma_A8) ((t.1, ma_as7 t.2 (Nat.div i 2) x)) ((ma_as7 t.1 (Nat.div i 2) x, t.2)) (Nat.beq (Nat.mod i 2) 0)
noncomputable def ma_as9 (t : ma_A9) (i : Nat) (x : ma_V) : ma_A9 := Bool.rec (motive := fun _ => ma_A9) ((t.1, ma_as8 t.2 (Nat.div i 2) x)) ((ma_as8 t.1 (Nat.div i 2) x, t.2)) (Nat.beq (Nat.mod i 2) 0)
noncomputable def ma_as10 (t : ma_A10) (i : Nat) (x : ma_V) : ma_A10 := Bool.rec (motive := fun _ => ma_A10) ((t.1, ma_as9 t.2 (Nat.div i 2) x)) ((ma_as9 t.1 (Nat.div i 2) x, t.2)) (Nat.beq (Nat.mod i 2) 0)
noncomputable def ma_as11 (t : ma_A11) (i : Nat) (x : ma_V) : ma_A11 := Bool.rec (motive := fun _ => ma_A11) ((t.1, ma_as10 t.2 (Nat.div i 2) x)) ((ma_as10 t.1 (Nat.div i 2) x, t.2)) (Nat.beq (Nat.mod i 2) 0)
noncomputable def ma_as12 (t : ma_A12) (i : Nat) (x : ma_V) : ma_A12 := Bool.rec (motive := fun _ => ma_A12) ((t.1, ma_as11 t.2 (Nat.div i 2) x)) ((ma_as11 t.1 (Nat.div i 2) x, t.2)) (Nat.beq (Nat.mod i 2) 0)
noncomputable def ma_as13 (t : ma_A13) (i : Nat) (x : ma_V) : ma_A13 := Bool.rec (motive := fun _ => ma_A13) ((t.1, ma_as12 t.2 (Nat.div i 2) x)) ((ma_as12 t.1 (Nat.div i 2) x, t.2)) (Nat.beq (Nat.mod i 2) 0)
noncomputable def ma_as14 (t : ma_A14) (i : Nat) (x : ma_V) : ma_A14 := Bool.rec (motive := fun _ => ma_A14) ((t.1, ma_as13 t.2 (Nat.div i 2) x)) ((ma_as13 t.1 (Nat.div i 2) x, t.2)) (Nat.beq (Nat.mod i 2) 0)
noncomputable def ma_as15 (t : ma_A15) (i : Nat) (x : ma_V) : ma_A15 := Bool.rec (motive := fun _ => ma_A15) ((t.1, ma_as14 t.2 (Nat.div i 2) x)) ((ma_as14 t.1 (Nat.div i 2) x, t.2)) (Nat.beq (Nat.mod i 2) 0)
noncomputable def ma_a0 (v : ma_V) : ma_A0 := v
noncomputable def ma_a1 (v : ma_V) : ma_A1 := (ma_a0 v, ma_a0 v)
noncomputable def ma_a2 (v : ma_V) : ma_A2 := (ma_a1 v, ma_a1 v)
noncomputable def ma_a3 (v : ma_V) : ma_A3 := (ma_a2 v, ma_a2 v)
noncomputable def ma_a4 (v : ma_V) : ma_A4 := (ma_a3 v, ma_a3 v)
noncomputable def ma_a5 (v : ma_V) : ma_A5 := (ma_a4 v, ma_a4 v)
noncomputable def ma_a6 (v : ma_V) : ma_A6 := (ma_a5 v, ma_a5 v)
noncomputable def ma_a7 (v : ma_V) : ma_A7 := (ma_a6 v, ma_a6 v)
noncomputable def ma_a8 (v : ma_V) : ma_A8 := (ma_a7 v, ma_a7 v)
noncomputable def ma_a9 (v : ma_V) : ma_A9 := (ma_a8 v, ma_a8 v)
noncomputable def ma_a10 (v : ma_V) : ma_A10 := (ma_a9 v, ma_a9 v)
noncomputable def ma_a11 (v : ma_V) : ma_A11 := (ma_a10 v, ma_a10 v)
noncomputable def ma_a12 (v : ma_V) : ma_A12 := (ma_a11 v, ma_a11 v)
noncomputable def ma_a13 (v : ma_V) : ma_A13 := (ma_a12 v, ma_a12 v)
noncomputable def ma_a14 (v : ma_V) : ma_A14 := (ma_a13 v, ma_a13 v)
noncomputable def ma_a15 (v : ma_V) : ma_A15 := (ma_a14 v, ma_a14 v)
/-- a cell: its class; an object's fields, or a row's length and contents -/
abbrev ma_C : Type := Nat × (List ma_V ⊕ (Nat × ma_A15))
noncomputable def ma_nth {α : Type} (l : List α) (i : Nat) : Option α := List.rec (motive := fun _ => Nat → Option α) (fun _ => none) (fun a _ ih i => Nat.rec (motive := fun _ => Option α) (some a) (fun m _ => ih m) i) l i
noncomputable def ma_set {α : Type} (l : List α) (i : Nat) (x : α) : List α := List.rec (motive := fun _ => Nat → List α) (fun _ => []) (fun a t ih i => Nat.rec (motive := fun _ => List α) (x :: t) (fun m _ => a :: ih m) i) l i
noncomputable def ma_len {α : Type} (l : List α) : Nat := List.rec (motive := fun _ => Nat) 0 (fun _ _ n => Nat.succ n) l
noncomputable def ma_app {α : Type} (l r : List α) : List α := List.rec (motive := fun _ => List α) r (fun a _ t => a :: t) l
abbrev ma_L : Type := List (Option ma_V)
abbrev ma_T0 : Type := Option ma_C
abbrev ma_T1 : Type := ma_T0 × ma_T0
abbrev ma_T2 : Type := ma_T1 × ma_T1
abbrev ma_T3 : Type := ma_T2 × ma_T2
abbrev ma_T4 : Type := ma_T3 × ma_T3
abbrev ma_T5 : Type := ma_T4 × ma_T4
abbrev ma_T6 : Type := ma_T5 × ma_T5
abbrev ma_T7 : Type := ma_T6 × ma_T6
abbrev ma_T8 : Type := ma_T7 × ma_T7
noncomputable def ma_g0 (t : ma_T0) (_ : Nat) : Option ma_C := t
noncomputable def ma_g1 (t : ma_T1) (i : Nat) : Option ma_C := Bool.rec (motive := fun _ => Option ma_C) (ma_g0 t.2 (Nat.div i 2)) (ma_g0 t.1 (Nat.div i 2)) (Nat.beq (Nat.mod i 2) 0)
noncomputable def ma_g2 (t : ma_T2) (i : Nat) : Option ma_C := Bool.rec (motive := fun _ => Option ma_C) (ma_g1 t.2 (Nat.div i 2)) (ma_g1 t.1 (Nat.div i 2)) (Nat.beq (Nat.mod i 2) 0)
noncomputable def ma_g3 (t : ma_T3) (i : Nat) : Option ma_C := Bool.rec (motive := fun _ => Option ma_C) (ma_g2 t.2 (Nat.div i 2)) (ma_g2 t.1 (Nat.div i 2)) (Nat.beq (Nat.mod i 2) 0)
noncomputable def ma_g4 (t : ma_T4) (i : Nat) : Option ma_C := Bool.rec (motive := fun _ => Option ma_C) (ma_g3 t.2 (Nat.div i 2)) (ma_g3 t.1 (Nat.div i 2)) (Nat.beq (Nat.mod i 2) 0)
noncomputable def ma_g5 (t : ma_T5) (i : Nat) : Option ma_C := Bool.rec (motive := fun _ => Option ma_C) (ma_g4 t.2 (Nat.div i 2)) (ma_g4 t.1 (Nat.div i 2)) (Nat.beq (Nat.mod i 2) 0)
noncomputable def ma_g6 (t : ma_T6) (i : Nat) : Option ma_C := Bool.rec (motive := fun _ => Option ma_C) (ma_g5 t.2 (Nat.div i 2)) (ma_g5 t.1 (Nat.div i 2)) (Nat.beq (Nat.mod i 2) 0)
noncomputable def ma_g7 (t : ma_T7) (i : Nat) : Option ma_C := Bool.rec (motive := fun _ => Option ma_C) (ma_g6 t.2 (Nat.div i 2)) (ma_g6 t.1 (Nat.div i 2)) (Nat.beq (Nat.mod i 2) 0)
noncomputable def ma_g8 (t : ma_T8) (i : Nat) : Option ma_C := Bool.rec (motive := fun _ => Option ma_C) (ma_g7 t.2 (Nat.div i 2)) (ma_g7 t.1 (Nat.div i 2)) (Nat.beq (Nat.mod i 2) 0)
noncomputable def ma_p0 (_ : ma_T0) (_ : Nat) (x : ma_C) : ma_T0 := some x
noncomputable def ma_p1 (t : ma_T1) (i : Nat) (x : ma_C) : ma_T1 := Bool.rec (motive := fun _ => ma_T1) ((t.1, ma_p0 t.2 (Nat.div i 2) x)) ((ma_p0 t.1 (Nat.div i 2) x, t.2)) (Nat.beq (Nat.mod i 2) 0)
noncomputable def ma_p2 (t : ma_T2) (i : Nat) (x : ma_C) : ma_T2 := Bool.rec (motive := fun _ => ma_T2) ((t.1, ma_p1 t.2 (Nat.div i 2) x)) ((ma_p1 t.1 (Nat.div i 2) x, t.2)) (Nat.beq (Nat.mod i 2) 0)
noncomputable def ma_p3 (t : ma_T3) (i : Nat) (x : ma_C) : ma_T3 := Bool.rec (motive := fun _ => ma_T3) ((t.1, ma_p2 t.2 (Nat.div i 2) x)) ((ma_p2 t.1 (Nat.div i 2) x, t.2)) (Nat.beq (Nat.mod i 2) 0)
noncomputable def ma_p4 (t : ma_T4) (i : Nat) (x : ma_C) : ma_T4 := Bool.rec (motive := fun _ => ma_T4) ((t.1, ma_p3 t.2 (Nat.div i 2) x)) ((ma_p3 t.1 (Nat.div i 2) x, t.2)) (Nat.beq (Nat.mod i 2) 0)
noncomputable def ma_p5 (t : ma_T5) (i : Nat) (x : ma_C) : ma_T5 := Bool.rec (motive := fun _ => ma_T5) ((t.1, ma_p4 t.2 (Nat.div i 2) x)) ((ma_p4 t.1 (Nat.div i 2) x, t.2)) (Nat.beq (Nat.mod i 2) 0)
noncomputable def ma_p6 (t : ma_T6) (i : Nat) (x : ma_C) : ma_T6 := Bool.rec (motive := fun _ => ma_T6) ((t.1, ma_p5 t.2 (Nat.div i 2) x)) ((ma_p5 t.1 (Nat.div i 2) x, t.2)) (Nat.beq (Nat.mod i 2) 0)
noncomputable def ma_p7 (t : ma_T7) (i : Nat) (x : ma_C) : ma_T7 := Bool.rec (motive := fun _ => ma_T7) ((t.1, ma_p6 t.2 (Nat.div i 2) x)) ((ma_p6 t.1 (Nat.div i 2) x, t.2)) (Nat.beq (Nat.mod i 2) 0)
noncomputable def ma_p8 (t : ma_T8) (i : Nat) (x : ma_C) : ma_T8 := Bool.rec (motive := fun _ => ma_T8) ((t.1, ma_p7 t.2 (Nat.div i 2) x)) ((ma_p7 t.1 (Nat.div i 2) x, t.2)) (Nat.beq (Nat.mod i 2) 0)
noncomputable def ma_n0 : ma_T0 := none
noncomputable def ma_n1 : ma_T1 := (ma_n0, ma_n0)
noncomputable def ma_n2 : ma_T2 := (ma_n1, ma_n1)
noncomputable def ma_n3 : ma_T3 := (ma_n2, ma_n2)
noncomputable def ma_n4 : ma_T4 := (ma_n3, ma_n3)
noncomputable def ma_n5 : ma_T5 := (ma_n4, ma_n4)
noncomputable def ma_n6 : ma_T6 := (ma_n5, ma_n5)
noncomputable def ma_n7 : ma_T7 := (ma_n6, ma_n6)
noncomputable def ma_n8 : ma_T8 := (ma_n7, ma_n7)
/-- heap: how many cells; the answer that is waited for and how many cells there are then; the cells -/
abbrev ma_H : Type := Nat × (ma_V × Nat) × ma_T8
/-- what is known of the unknowns -/
abbrev ma_E : Type := List (Int × Int)
/-- a frame: depth left, method, place, locals, stack -/
abbrev ma_F : Type := Nat × Nat × Nat × ma_L × List ma_V
abbrev ma_S : Type := ma_E × ma_H × List ma_F
abbrev ma_R : Type := Option (List ma_S)
abbrev ma_I : Type := ma_E → ma_H → Nat → Nat → ma_L → List ma_V → List ma_F → ma_R
noncomputable def ma_lt (a b : Int) : Bool := match a, b with
  | .ofNat m, .ofNat n => Nat.blt m n
  | .negSucc _, .ofNat _ => true
  | .ofNat _, .negSucc _ => false
  | .negSucc m, .negSucc n => Nat.blt n m
noncomputable def ma_eq (a b : Int) : Bool := match a, b with
  | .ofNat m, .ofNat n => Nat.beq m n
  | .negSucc m, .negSucc n => Nat.beq m n
  | _, _ => false
noncomputable def ma_le (a b : Int) : Bool := !ma_lt b a
/-- the number, known to the last -/
noncomputable def ma_fz {α : Type} (x : Int) (f : Int → α) : α := match x with
  | .ofNat n => (match n with
    | 0 => f (.ofNat 0)
    | k + 1 => f (.ofNat (k + 1)))
  | .negSucc n => (match n with
    | 0 => f (.negSucc 0)
    | k + 1 => f (.negSucc (k + 1)))
noncomputable def ma_in (x : Int) : Bool := ma_le (.negSucc 2147483647) x && ma_le x (.ofNat 2147483647)
noncomputable def ma_w (x : Int) : Int := bif ma_in x then x else Int.bmod x 4294967296
noncomputable def ma_wl (x : Int) : Int := bif ma_le (.negSucc 9223372036854775807) x && ma_le x (.ofNat 9223372036854775807) then x else Int.bmod x 18446744073709551616
noncomputable def ma_ci (x : Int) : ma_V := .inl x
noncomputable def ma_uv (v : Nat) (o : Int) : ma_V := .inr (.inl (v, o))
noncomputable def ma_cr (x : Nat) : ma_V := .inr (.inr (.inl (Nat.succ x)))
noncomputable def ma_null : ma_V := .inr (.inr (.inl 0))
noncomputable def ma_cl (x : Int) : ma_V := .inr (.inr (.inr (.inl x)))
noncomputable def ma_ul : ma_V := .inr (.inr (.inr (.inr ())))
noncomputable def ma_b (c : Bool) (t e : ma_R) : ma_R := Bool.rec (motive := fun _ => ma_R) e t c
noncomputable def ma_on (k : Nat) (E : ma_E) (H : ma_H) (d j : Nat) (L : ma_L) (st : List ma_V) (K : List ma_F) : ma_R := some [(E, H, (d, j, k, L, st) :: K)]
/-- the unknown's interval cut in two: up to m, and from m + 1 on -/
noncomputable def ma_cut (m : Int) (v k : Nat) : ma_I := fun E H d j L st K => match ma_nth E v with
  | none => none
  | some (lo, hi) => ma_b (ma_le lo m && ma_lt m hi) (some [(ma_set E v (lo, m), H, (d, j, k, L, st) :: K), (ma_set E v (Int.add m 1, hi), H, (d, j, k, L, st) :: K)]) (none)
noncomputable def ma_cutL (v k : Nat) : ma_I := fun E H d j L st K => match ma_nth E v with
  | none => none
  | some (lo, hi) => ma_b (ma_lt lo hi && ma_lt hi (Int.add lo 1000)) (ma_fz lo (fun m => ma_cut m v k E H d j L st K)) (none)
/-- an int as a number, if its unknown has one value only -/
noncomputable def ma_num (E : ma_E) (x : ma_V) : Int ⊕ Option (Nat × Int × Int × Int) := match x with
  | .inl c => .inl c
  | .inr (.inl (v, o)) => (match ma_nth E v with
    | some (lo, hi) => Bool.rec (motive := fun _ => Int ⊕ Option (Nat × Int × Int × Int)) (.inr (some (v, o, lo, hi))) (ma_fz (Int.add lo o) (fun z => .inl z)) (ma_eq lo hi)
    | none => .inr none)
  | _ => .inr none
noncomputable def ma_un (L : ma_L) (i : Nat) : ma_L := match i with
  | 0 => L
  | i + 1 => match ma_nth L i with
    | some (some (.inr (.inr (.inr _)))) => ma_set L i none
    | _ => L
noncomputable def ma_s1 (L : ma_L) (i : Nat) (v : ma_V) : ma_L := ma_set (ma_un L i) i (some v)
noncomputable def ma_s2 (L : ma_L) (i : Nat) (v : ma_V) : ma_L := ma_set (ma_set (ma_un L i) i (some v)) (Nat.succ i) none
/-- the sort of a value: 0 int, 1 reference or null, 2 long -/
noncomputable def ma_srt (v : ma_V) : Nat := match v with
  | .inl _ => 0
  | .inr (.inl _) => 0
  | .inr (.inr (.inl _)) => 1
  | .inr (.inr (.inr _)) => 2
noncomputable def ma_nat (x : Int) : Option Nat := match x with
  | .ofNat n => some n
  | .negSucc _ => none
noncomputable def ma_push (v : ma_V) (nx : Nat) : ma_I := fun E H d j L st K => ma_on nx E H d j L (v :: st) K
noncomputable def ma_load (s i nx : Nat) : ma_I := fun E H d j L st K => match ma_nth L i with
  | some (some v) => ma_b (Nat.beq (ma_srt v) s) (ma_on nx E H d j L (v :: st) K) (none)
  | _ => none
noncomputable def ma_lda (i nx : Nat) : ma_I := fun E H d j L st K => match ma_nth L i with
  | some (some (.inr (.inr (.inl (q + 1))))) => ma_on nx E H d j L (.inr (.inr (.inl (q + 1))) :: st) K
  | _ => none
noncomputable def ma_sta (i nx : Nat) : ma_I := fun E H d j L st K => match st with
  | .inr (.inr (.inl (q + 1))) :: r => ma_b (Nat.blt i (ma_len L)) (ma_on nx E H d j (ma_s1 L i (.inr (.inr (.inl (q + 1))))) r K) (none)
  | _ => none
noncomputable def ma_stor (s i nx : Nat) : ma_I := fun E H d j L st K => match st with
  | v :: r => ma_b (Nat.beq (ma_srt v) s && Nat.blt i (ma_len L)) (ma_on nx E H d j (ma_s1 L i v) r K) (none)
  | _ => none
noncomputable def ma_stol (i nx : Nat) : ma_I := fun E H d j L st K => match st with
  | v :: r => ma_b (Nat.beq (ma_srt v) 2 && Nat.blt (i + 1) (ma_len L)) (ma_on nx E H d j (ma_s2 L i v) r K) (none)
  | _ => none
/-- an int and a number added: an unknown keeps its name if nothing wraps -/
noncomputable def ma_add (x : ma_V) (c : Int) (k nx : Nat) (E : ma_E) (H : ma_H) (d j : Nat) (L0 : ma_L) (st0 : List ma_V) (K : List ma_F) (go : ma_V → ma_R) : ma_R := match ma_num E x with
  | .inl a => ma_fz (ma_w (Int.add a c)) (fun z => go (ma_ci z))
  | .inr none => none
  | .inr (some (v, o, lo, hi)) => ma_b (ma_in (Int.add (Int.add lo o) c) && ma_in (Int.add (Int.add hi o) c)) (ma_fz (Int.add o c) (fun z => go (ma_uv v z))) (ma_cutL v k E H d j L0 st0 K)
noncomputable def ma_iinc (i : Nat) (c : Int) (k nx : Nat) : ma_I := fun E H d j L st K => match ma_nth L i with
  | some (some x) => ma_add x c k nx E H d j L st K (fun z => ma_on nx E H d j (ma_s1 L i z) st K)
  | _ => none
noncomputable def ma_iadd (k nx : Nat) : ma_I := fun E H d j L st K => match st with
  | y :: x :: r => (match ma_num E y with
    | .inl b => ma_add x b k nx E H d j L st K (fun z => ma_on nx E H d j L (z :: r) K)
    | .inr none => none
    | .inr (some (v, _)) => (match ma_num E x with
      | .inl a => ma_add y a k nx E H d j L st K (fun z => ma_on nx E H d j L (z :: r) K)
      | _ => ma_cutL v k E H d j L st K))
  | _ => none
noncomputable def ma_isub (k nx : Nat) : ma_I := fun E H d j L st K => match st with
  | y :: x :: r => (match ma_num E y with
    | .inl b => ma_add x (Int.neg b) k nx E H d j L st K (fun z => ma_on nx E H d j L (z :: r) K)
    | .inr none => none
    | .inr (some (v, _)) => ma_cutL v k E H d j L st K)
  | _ => none
/-- two ints, both known -/
noncomputable def ma_i2 (f : Int → Int → Option Int) (k nx : Nat) : ma_I := fun E H d j L st K => match st with
  | y :: x :: r => (match ma_num E y with
    | .inr none => none
    | .inr (some (v, _)) => ma_cutL v k E H d j L st K
    | .inl b => (match ma_num E x with
      | .inr none => none
      | .inr (some (v, _)) => ma_cutL v k E H d j L st K
      | .inl a => (match f a b with
        | none => none
        | some c => ma_fz c (fun z => ma_on nx E H d j L (ma_ci z :: r) K))))
  | _ => none
noncomputable def ma_fmul (a b : Int) : Option Int := some (ma_w (Int.mul a b))
noncomputable def ma_for (a b : Int) : Option Int := some (Int32.ofInt a ||| Int32.ofInt b).toInt
noncomputable def ma_fxor (a b : Int) : Option Int := some (Int32.ofInt a ^^^ Int32.ofInt b).toInt
noncomputable def ma_fand (a b : Int) : Option Int := some (Int32.ofInt a &&& Int32.ofInt b).toInt
noncomputable def ma_fshl (a b : Int) : Option Int := some (Int32.ofInt a <<< (Int32.ofInt b &&& 31)).toInt
noncomputable def ma_fshr (a b : Int) : Option Int := some (Int32.ofInt a >>> (Int32.ofInt b &&& 31)).toInt
noncomputable def ma_fushr (a b : Int) : Option Int := some ((Int32.ofInt a).toUInt32 >>> ((Int32.ofInt b).toUInt32 &&& Int32.toUInt32 31)).toInt32.toInt
noncomputable def ma_fdiv (a b : Int) : Option Int := Bool.rec (motive := fun _ => Option Int) (some (Int32.ofInt a / Int32.ofInt b).toInt) none (ma_eq b (.ofNat 0))
noncomputable def ma_frem (a b : Int) : Option Int := Bool.rec (motive := fun _ => Option Int) (some (Int32.ofInt a - Int32.ofInt a / Int32.ofInt b * Int32.ofInt b).toInt) none (ma_eq b (.ofNat 0))
/-- the numbers from n down to 0 -/
noncomputable def ma_all {α : Type} (n : Nat) (f : Int → α) : List α := Nat.rec (motive := fun _ => List α) [f (.ofNat 0)] (fun m t => f (.ofNat (Nat.succ m)) :: t) n
/-- and: with 0 it is 0; with a small number from 0 on it is each number up to it -/
noncomputable def ma_iand (k nx : Nat) : ma_I := fun E H d j L st K => match st with
  | y :: x :: r => (match ma_num E y with
    | .inr none => none
    | .inr (some (v, _)) => ma_cutL v k E H d j L st K
    | .inl b => (match ma_num E x with
      | .inr none => none
      | .inr (some _) => ma_b (ma_eq b 0) (ma_on nx E H d j L (ma_ci 0 :: r) K) (ma_b (ma_lt 0 b && ma_lt b 64) (some (ma_all b.toNat (fun z => (E, H, (d, j, nx, L, ma_ci z :: r) :: K)))) (none))
      | .inl a => (match ma_fand a b with
        | none => none
        | some c => ma_fz c (fun z => ma_on nx E H d j L (ma_ci z :: r) K))))
  | _ => none
noncomputable def ma_l2 (f : Int → Int → Option Int) (nx : Nat) : ma_I := fun E H d j L st K => match st with
  | y :: x :: r => (match y, x with
    | .inr (.inr (.inr (.inl b))), .inr (.inr (.inr (.inl a))) => (match f a b with
      | none => none
      | some c => ma_fz c (fun z => ma_on nx E H d j L (ma_cl z :: r) K))
    | .inr (.inr (.inr _)), .inr (.inr (.inr _)) => ma_on nx E H d j L (ma_ul :: r) K
    | _, _ => none)
  | _ => none
noncomputable def ma_gadd (a b : Int) : Option Int := some (ma_wl (Int.add a b))
noncomputable def ma_gsub (a b : Int) : Option Int := some (ma_wl (Int.sub a b))
noncomputable def ma_gmul (a b : Int) : Option Int := some (ma_wl (Int.mul a b))
noncomputable def ma_gand (a b : Int) : Option Int := some (Int64.ofInt a &&& Int64.ofInt b).toInt
noncomputable def ma_gor (a b : Int) : Option Int := some (Int64.ofInt a ||| Int64.ofInt b).toInt
/-- a long's quotient and rest: both known, the divisor not 0 -/
noncomputable def ma_ld (f : Int → Int → Option Int) (nx : Nat) : ma_I := fun E H d j L st K => match st with
  | .inr (.inr (.inr (.inl b))) :: .inr (.inr (.inr (.inl a))) :: r => (match f a b with
      | none => none
      | some c => ma_fz c (fun z => ma_on nx E H d j L (ma_cl z :: r) K))
  | _ => none
noncomputable def ma_gdiv (a b : Int) : Option Int := Bool.rec (motive := fun _ => Option Int) (some (Int64.ofInt a / Int64.ofInt b).toInt) none (ma_eq b (.ofNat 0))
noncomputable def ma_grem (a b : Int) : Option Int := Bool.rec (motive := fun _ => Option Int) (some (Int64.ofInt a - Int64.ofInt a / Int64.ofInt b * Int64.ofInt b).toInt) none (ma_eq b (.ofNat 0))
/-- a long and an int -/
noncomputable def ma_ls (f : Int → Int → Option Int) (k nx : Nat) : ma_I := fun E H d j L st K => match st with
  | y :: .inr (.inr (.inr x)) :: r => (match ma_num E y with
    | .inr none => none
    | .inr (some (v, _)) => ma_cutL v k E H d j L st K
    | .inl b => (match x with
      | .inr _ => ma_on nx E H d j L (ma_ul :: r) K
      | .inl a => (match f a b with
        | none => none
        | some c => ma_fz c (fun z => ma_on nx E H d j L (ma_cl z :: r) K))))
  | _ => none
noncomputable def ma_gshl (a b : Int) : Option Int := some (Int64.ofInt a <<< ((Int32.ofInt b).toInt64 &&& 63)).toInt
noncomputable def ma_gshr (a b : Int) : Option Int := some (Int64.ofInt a >>> ((Int32.ofInt b).toInt64 &&& 63)).toInt
noncomputable def ma_gushr (a b : Int) : Option Int := some ((Int64.ofInt a).toUInt64 >>> ((Int32.ofInt b).toInt64.toUInt64 &&& Int64.toUInt64 63)).toInt64.toInt
noncomputable def ma_c3 (x y : Bool) : Int := Bool.rec (motive := fun _ => Int) (Bool.rec (motive := fun _ => Int) (.negSucc 0) (.ofNat 0) y) (.ofNat 1) x
noncomputable def ma_lcmp (nx : Nat) : ma_I := fun E H d j L st K => match st with
  | .inr (.inr (.inr (.inl b))) :: .inr (.inr (.inr (.inl a))) :: r => ma_on nx E H d j L (ma_ci (ma_c3 (ma_lt b a) (ma_eq a b)) :: r) K
  | _ => none
noncomputable def ma_i2l (nx : Nat) : ma_I := fun E H d j L st K => match st with
  | x :: r => (match ma_num E x with
    | .inl a => ma_on nx E H d j L (ma_cl a :: r) K
    | .inr (some _) => ma_on nx E H d j L (ma_ul :: r) K
    | .inr none => none)
  | _ => none
noncomputable def ma_i1 (f : Int → Option Int) (k nx : Nat) : ma_I := fun E H d j L st K => match st with
  | x :: r => (match ma_num E x with
    | .inl a => (match f a with
      | none => none
      | some c => ma_fz c (fun z => ma_on nx E H d j L (ma_ci z :: r) K))
    | .inr (some (v, _)) => ma_cutL v k E H d j L st K
    | .inr none => none)
  | _ => none
noncomputable def ma_hb (a : Int) : Option Int := some (Int32.ofInt a).toInt8.toInt32.toInt
noncomputable def ma_hs (a : Int) : Option Int := some (Int32.ofInt a).toInt16.toInt32.toInt
noncomputable def ma_l2i (nx : Nat) : ma_I := fun E H d j L st K => match st with
  | .inr (.inr (.inr (.inl a))) :: r => ma_fz (ma_w a) (fun z => ma_on nx E H d j L (ma_ci z :: r) K)
  | _ => none
noncomputable def ma_dup (nx : Nat) : ma_I := fun E H d j L st K => match st with
  | v :: r => ma_b (Nat.blt (ma_srt v) 2) (ma_on nx E H d j L (v :: v :: r) K) (none)
  | _ => none
noncomputable def ma_dx1 (nx : Nat) : ma_I := fun E H d j L st K => match st with
  | v :: w :: r => ma_b (Nat.blt (ma_srt v) 2 && Nat.blt (ma_srt w) 2) (ma_on nx E H d j L (v :: w :: v :: r) K) (none)
  | _ => none
noncomputable def ma_d2 (nx : Nat) : ma_I := fun E H d j L st K => match st with
  | v :: w :: r => ma_b (Nat.blt (ma_srt v) 2 && Nat.blt (ma_srt w) 2) (ma_on nx E H d j L (v :: w :: v :: w :: r) K) (none)
  | _ => none
/-- a comparison of an int with a number: c says which; go on at a, or at nx, or cut -/
noncomputable def ma_cmp (c : ClassFile.Cond) (x : ma_V) (b : Int) (k a nx : Nat) (E : ma_E) (H : ma_H) (d j : Nat) (L : ma_L) (st0 r : List ma_V) (K : List ma_F) : ma_R := match ma_num E x with
  | .inr none => none
  | .inl z => (match c with
    | .eq => ma_b (ma_eq z b) (ma_on a E H d j L r K) (ma_on nx E H d j L r K)
    | .ne => ma_b (ma_eq z b) (ma_on nx E H d j L r K) (ma_on a E H d j L r K)
    | .lt => ma_b (ma_lt z b) (ma_on a E H d j L r K) (ma_on nx E H d j L r K)
    | .ge => ma_b (ma_lt z b) (ma_on nx E H d j L r K) (ma_on a E H d j L r K)
    | .gt => ma_b (ma_lt b z) (ma_on a E H d j L r K) (ma_on nx E H d j L r K)
    | .le => ma_b (ma_lt b z) (ma_on nx E H d j L r K) (ma_on a E H d j L r K))
  | .inr (some (v, o, lo, hi)) => (match c with
    | .eq => ma_b (ma_lt (Int.add hi o) b || ma_lt b (Int.add lo o)) (ma_on nx E H d j L r K) (ma_b (ma_eq (Int.add lo o) b) (ma_fz (Int.sub b o) (fun m => ma_cut m v k E H d j L st0 K)) (ma_fz (Int.sub (Int.sub b o) 1) (fun m => ma_cut m v k E H d j L st0 K)))
    | .ne => ma_b (ma_lt (Int.add hi o) b || ma_lt b (Int.add lo o)) (ma_on a E H d j L r K) (ma_b (ma_eq (Int.add lo o) b) (ma_fz (Int.sub b o) (fun m => ma_cut m v k E H d j L st0 K)) (ma_fz (Int.sub (Int.sub b o) 1) (fun m => ma_cut m v k E H d j L st0 K)))
    | .lt => ma_b (ma_lt (Int.add hi o) b) (ma_on a E H d j L r K) (ma_b (ma_le b (Int.add lo o)) (ma_on nx E H d j L r K) (ma_fz (Int.sub (Int.sub b o) 1) (fun m => ma_cut m v k E H d j L st0 K)))
    | .ge => ma_b (ma_lt (Int.add hi o) b) (ma_on nx E H d j L r K) (ma_b (ma_le b (Int.add lo o)) (ma_on a E H d j L r K) (ma_fz (Int.sub (Int.sub b o) 1) (fun m => ma_cut m v k E H d j L st0 K)))
    | .gt => ma_b (ma_le (Int.add hi o) b) (ma_on nx E H d j L r K) (ma_b (ma_lt b (Int.add lo o)) (ma_on a E H d j L r K) (ma_fz (Int.sub b o) (fun m => ma_cut m v k E H d j L st0 K)))
    | .le => ma_b (ma_le (Int.add hi o) b) (ma_on a E H d j L r K) (ma_b (ma_lt b (Int.add lo o)) (ma_on nx E H d j L r K) (ma_fz (Int.sub b o) (fun m => ma_cut m v k E H d j L st0 K))))
noncomputable def ma_if0 (c : ClassFile.Cond) (a k nx : Nat) : ma_I := fun E H d j L st K => match st with
  | x :: r => ma_cmp c x 0 k a nx E H d j L st r K
  | _ => none
/-- the comparison turned round -/
noncomputable def ma_tu (c : ClassFile.Cond) : ClassFile.Cond := match c with
  | .eq => .eq
  | .ne => .ne
  | .lt => .gt
  | .ge => .le
  | .gt => .lt
  | .le => .ge
noncomputable def ma_if2 (c : ClassFile.Cond) (a k nx : Nat) : ma_I := fun E H d j L st K => match st with
  | y :: x :: r => (match ma_num E y with
    | .inl b => ma_cmp c x b k a nx E H d j L st r K
    | .inr none => none
    | .inr (some (v, o, _)) => (match ma_num E x with
      | .inl z => ma_cmp (ma_tu c) y z k a nx E H d j L st r K
      | .inr none => none
      | .inr (some (v', o', _)) => ma_b (Nat.beq v v' && ma_eq o o') ((match c with
        | .eq => ma_on a E H d j L r K
        | .ne => ma_on nx E H d j L r K
        | .lt => ma_on nx E H d j L r K
        | .ge => ma_on a E H d j L r K
        | .gt => ma_on nx E H d j L r K
        | .le => ma_on a E H d j L r K)) (ma_cutL v k E H d j L st K)))
  | _ => none
noncomputable def ma_goto (a : Nat) : ma_I := fun E H d j L st K => ma_on a E H d j L st K
/-- tableswitch from 0 on: the places, the place of all others -/
noncomputable def ma_sw (ts : List Nat) (df k : Nat) : ma_I := fun E H d j L st K => match st with
  | x :: r => (match ma_num E x with
    | .inr none => none
    | .inr (some (v, o, lo, hi)) => ma_b (ma_lt (Int.add hi o) 0 || ma_le (.ofNat (ma_len ts)) (Int.add lo o)) (ma_on df E H d j L r K) (ma_b (ma_lt (Int.add lo o) 0) (ma_fz (Int.sub (Int.neg o) 1) (fun m => ma_cut m v k E H d j L st K)) (ma_fz lo (fun m => ma_cut m v k E H d j L st K)))
    | .inl z => (match z with
      | .negSucc _ => ma_on df E H d j L r K
      | .ofNat n => (match ma_nth ts n with
        | some t => ma_on t E H d j L r K
        | none => ma_on df E H d j L r K)))
  | _ => none
noncomputable def ma_getf (a b nx : Nat) : ma_I := fun E H d j L st K => match st with
  | .inr (.inr (.inl (q + 1))) :: r => (match ma_g8 H.2.2 q with
    | some (y, .inl vs) => ma_b (Nat.beq y a) ((match ma_nth vs b with
      | some v => ma_on nx E H d j L (v :: r) K
      | none => none)) (none)
    | _ => none)
  | _ => none
noncomputable def ma_wr (H : ma_H) (q : Nat) (x : ma_C) : ma_H := (H.1, H.2.1, ma_p8 H.2.2 q x)
/-- may the field hold it: 0 int, 1 boolean, 2 reference, 3 long -/
noncomputable def ma_fit (f : Nat) (v : ma_V) : Bool := match v with
  | .inl c => Nat.beq f 0 || (Nat.beq f 1 && (ma_eq c 0 || ma_eq c 1))
  | .inr (.inl _) => Nat.beq f 0
  | .inr (.inr (.inl _)) => Nat.beq f 2
  | .inr (.inr (.inr _)) => Nat.beq f 3
noncomputable def ma_putf (a b f nx : Nat) : ma_I := fun E H d j L st K => match st with
  | v :: .inr (.inr (.inl (q + 1))) :: r => (match ma_g8 H.2.2 q with
    | some (y, .inl vs) => ma_b (Nat.beq y a && ma_fit f v && Nat.blt b (ma_len vs)) (ma_on nx E (ma_wr H q (y, .inl (ma_set vs b v))) d j L r K) (none)
    | _ => none)
  | _ => none
/-- places m .. of a row that go up by one each -/
noncomputable def ma_aff (n : Nat) (t : ma_A15) (m : Nat) (x : Int) : Bool := match n with
  | 0 => true
  | n + 1 => (match ma_ag15 t m with
    | .inl z => ma_eq z x && ma_aff n t (Nat.succ m) (Int.add x 1)
    | _ => false)
noncomputable def ma_iald (k nx : Nat) : ma_I := fun E H d j L st K => match st with
  | i :: .inr (.inr (.inl (q + 1))) :: r => (match ma_g8 H.2.2 q with
    | some (y, .inr (len, t)) => ma_b (mj_isI y) ((match ma_num E i with
      | .inl (.ofNat n) => ma_b (Nat.blt n len) ((match ma_ag15 t n with
        | .inl z => ma_on nx E H d j L (.inl z :: r) K
        | .inr (.inl z) => ma_on nx E H d j L (.inr (.inl z) :: r) K
        | _ => none)) (none)
      | .inr (some (v, o, lo, hi)) => (match Int.add lo o, Int.sub hi lo with
        | .ofNat m, .ofNat w => (match ma_ag15 t m with
          | .inl x => ma_b (Nat.blt 2 w && Nat.blt (Nat.add m w) len && ma_aff (Nat.succ w) t m x) (ma_fz (Int.sub x lo) (fun z => ma_on nx E H d j L (ma_uv v z :: r) K)) (ma_cutL v k E H d j L st K)
          | _ => ma_cutL v k E H d j L st K)
        | _, _ => none)
      | _ => none)) (none)
    | _ => none)
  | _ => none
noncomputable def ma_lald (nx : Nat) : ma_I := fun E H d j L st K => match st with
  | .inl (.ofNat n) :: .inr (.inr (.inl (q + 1))) :: r => (match ma_g8 H.2.2 q with
    | some (y, .inr (len, t)) => ma_b (Nat.beq y 14 && Nat.blt n len) ((match ma_ag15 t n with
        | .inr (.inr (.inr z)) => ma_on nx E H d j L (.inr (.inr (.inr z)) :: r) K
        | _ => none)) (none)
    | _ => none)
  | _ => none
noncomputable def ma_aald (k nx : Nat) : ma_I := fun E H d j L st K => match st with
  | i :: .inr (.inr (.inl (q + 1))) :: r => (match ma_g8 H.2.2 q with
    | some (y, .inr (len, t)) => ma_b (mj_isR y) ((match ma_num E i with
      | .inl (.ofNat n) => ma_b (Nat.blt n len) ((match ma_ag15 t n with
        | .inr (.inr (.inl (p + 1))) => ma_on nx E H d j L (.inr (.inr (.inl (p + 1))) :: r) K
        | _ => none)) (none)
      | .inr (some (v, _)) => ma_cutL v k E H d j L st K
      | _ => none)) (none)
    | _ => none)
  | _ => none
/-- a store: c the row's class, s the value's sort -/
noncomputable def ma_ast (c s k nx : Nat) : ma_I := fun E H d j L st K => match st with
  | x :: i :: .inr (.inr (.inl (q + 1))) :: r => (match ma_g8 H.2.2 q with
    | some (y, .inr (len, t)) => ma_b (Nat.beq y c && Nat.beq (ma_srt x) s) ((match ma_num E i with
      | .inl (.ofNat n) => ma_b (Nat.blt n len) (ma_on nx E (ma_wr H q (y, .inr (len, ma_as15 t n x))) d j L r K) (none)
      | .inr (some (v, _)) => ma_cutL v k E H d j L st K
      | _ => none)) (none)
    | _ => none)
  | _ => none
noncomputable def ma_aast (nx : Nat) : ma_I := fun E H d j L st K => match st with
  | .inr (.inr (.inl (p + 1))) :: .inl (.ofNat n) :: .inr (.inr (.inl (q + 1))) :: r => (match ma_g8 H.2.2 q, ma_g8 H.2.2 p with
    | some (y, .inr (len, t)), some (yx, _) => ma_b (mj_isR y && Nat.beq yx (mj_el y) && Nat.blt n len) (ma_on nx E (ma_wr H q (y, .inr (len, ma_as15 t n (.inr (.inr (.inl (p + 1))))))) d j L r K) (none)
    | _, _ => none)
  | _ => none
noncomputable def ma_alen (nx : Nat) : ma_I := fun E H d j L st K => match st with
  | .inr (.inr (.inl (q + 1))) :: r => (match ma_g8 H.2.2 q with
    | some (y, .inr (len, _)) => ma_b (Nat.ble 13 y && Nat.ble y 18) (ma_fz (.ofNat len) (fun z => ma_on nx E H d j L (ma_ci z :: r) K)) (none)
    | _ => none)
  | _ => none
noncomputable def ma_new1 (x : ma_C) (nx : Nat) (E : ma_E) (H : ma_H) (d j : Nat) (L : ma_L) (st : List ma_V) (K : List ma_F) : ma_R := match H.1 with
  | 0 => none
  | n + 1 => ma_b (Nat.blt n 250) (ma_on nx E (Nat.succ (Nat.succ n), H.2.1, ma_p8 H.2.2 (Nat.succ n) x) d j L (ma_cr (Nat.succ n) :: st) K) (none)
noncomputable def ma_new (x : ma_C) (nx : Nat) : ma_I := fun E H d j L st K => ma_new1 x nx E H d j L st K
noncomputable def ma_newa (c : Nat) (z : ma_V) (nx : Nat) : ma_I := fun E H d j L st K => match st with
  | .inl (.ofNat n) :: r => ma_b (Nat.ble n 32768) (ma_new1 (c, .inr (n, ma_a15 z)) nx E H d j L r K) (none)
  | _ => none
noncomputable def ma_lcat (v : ma_V) : Nat := match v with
  | .inr (.inr (.inr _)) => 2
  | _ => 1
noncomputable def ma_cats (st : List ma_V) : Nat := match st with
  | [] => 0
  | v :: r => ma_lcat v + ma_cats r
noncomputable def ma_sl (as : List ma_V) : ma_L := match as with
  | [] => []
  | v :: r => (match v with
    | .inr (.inr (.inr _)) => some v :: none :: ma_sl r
    | _ => some v :: ma_sl r)
noncomputable def ma_pad (n : Nat) (L : ma_L) : ma_L := match n, L with
  | 0, _ => []
  | n + 1, [] => none :: ma_pad n []
  | n + 1, x :: r => x :: ma_pad n r
/-- the first n of the stack, turned, ahead of as; then what is behind -/
noncomputable def ma_args (n : Nat) (st as : List ma_V) : Option (List ma_V × List ma_V) := match n with
  | 0 => some (as, st)
  | n + 1 => (match st with
    | v :: r => ma_args n r (v :: as)
    | [] => none)
/-- the receiver: a reference; of class o where o is less than 13 -/
noncomputable def ma_rcv (o : Nat) (as : List ma_V) (H : ma_H) : Bool := match as with
  | .inr (.inr (.inl (q + 1))) :: _ => Nat.beq o 21 || (match ma_g8 H.2.2 q with
    | some (y, _) => Nat.beq y o
    | none => false)
  | _ => false
/-- a call: a the method, np its parameters (with the receiver), mx its locals, o the receiver's class (20: none asked) -/
noncomputable def ma_inv (a np mx o nx : Nat) : ma_I := fun E H d j L st K => match ma_args np st [] with
  | none => none
  | some (as, r) => ma_b (Nat.ble (ma_cats r) 8 && Nat.ble (ma_len (ma_sl as)) mx && (Nat.beq o 20 || ma_rcv o as H)) ((match d with
    | 0 => none
    | d' + 1 => some [(E, H, (d', a, 0, ma_pad mx (ma_sl as), []) :: (d' + 1, j, nx, L, r) :: K)])) (none)
noncomputable def ma_obj (nx : Nat) : ma_I := fun E H d j L st K => match st with
  | .inr (.inr (.inl (_ + 1))) :: r => ma_b (Nat.ble (ma_cats r) 8) (ma_on nx E H d j L r K) (none)
  | _ => none
/-- the same value, as far as is known -/
noncomputable def ma_same (E : ma_E) (x y : ma_V) : Bool := match x, y with
  | .inr (.inr (.inr (.inl a))), .inr (.inr (.inr (.inl b))) => ma_eq a b
  | .inr (.inr _), _ => false
  | _, .inr (.inr _) => false
  | x, y => (match ma_num E x, ma_num E y with
    | .inl a, .inl b => ma_eq a b
    | .inr (some (v, o, _)), .inr (some (v', o', _)) => Nat.beq v v' && ma_eq o o'
    | _, _ => false)
/-- back to the caller; at the bottom the answer is the one waited for -/
noncomputable def ma_back (v : Option ma_V) (E : ma_E) (H : ma_H) (K : List ma_F) : ma_R := match K with
  | (d, j, k, L, st) :: K' => some [(E, H, (d, j, k, L, (match v with
    | some x => x :: st
    | none => st)) :: K')]
  | [] => (match v with
    | some x => ma_b (ma_same E x H.2.1.1 && Nat.beq H.1 H.2.1.2) (some []) (none)
    | none => none)
/-- f: 0 int, 1 boolean, 2 reference, 3 long -/
noncomputable def ma_ret (f : Nat) : ma_I := fun E H d j L st K => match st with
  | [v] => ma_b (ma_fit f v) ((match v with
    | .inr (.inr (.inl 0)) => none
    | _ => ma_back (some v) E H K)) (none)
  | _ => none
noncomputable def ma_retv : ma_I := fun E H d j L st K => match st with
  | [] => ma_back none E H K
  | _ => none
noncomputable def ma_bad : ma_I := fun E H d j L st K => none
