/-! Numbers: what the small machine does, with an Int for each value; the heap is a function of a cell's place and an index. -/
abbrev nX : Type := Nat × Int
abbrev nL : Type := List (Option nX)
abbrev nM : Type := Int → Int → Int
def nv (x : nX) : Value := match x.1 with
  | 0 => .int (Int32.ofInt x.2)
  | 1 => .long (Int64.ofInt x.2)
  | _ => .ref x.2.toNat
def nvL (L : nL) : mj_L := L.map (Option.map nv)
def nvS (st : List nX) : List Value := st.map nv
/-- what a place of a cell of class c holds: 0 an int, 1 a long, 2 a reference -/
def nkd (c b : Nat) : Nat := bif Nat.ble 13 c then (bif Nat.beq c 14 then 1 else bif mj_isR c then 2 else 0) else match mj_ty c b with
  | .long => 1
  | .object _ => 2
  | .array _ => 2
  | _ => 0
def nsh : List (Nat × Nat) := [(18, 2), (18, 5), (18, 0), (11, 19), (1, 5), (13, 27), (13, 27), (13, 27), (10, 3), (14, 320), (13, 8), (13, 8), (15, 8), (16, 12), (17, 3), (7, 12), (1, 5), (13, 27), (13, 27), (13, 27), (13, 257), (13, 257), (13, 257), (13, 257), (13, 257), (5, 4), (13, 27), (5, 4), (13, 27), (5, 4), (13, 27), (13, 256), (9, 7), (13, 30), (13, 30), (13, 30), (13, 30), (13, 8), (8, 8), (13, 9), (13, 729), (13, 729), (13, 729), (13, 10), (2, 6), (13, 27), (3, 2), (14, 308), (3, 2), (14, 103), (4, 5), (13, 27), (5, 4), (13, 27), (13, 27), (0, 4), (13, 27), (13, 27), (0, 4), (13, 27), (13, 27), (0, 4), (13, 27), (13, 27), (0, 4), (13, 27), (13, 27), (0, 4), (13, 27), (13, 27), (0, 4), (13, 27), (13, 27), (0, 4), (13, 27), (13, 27), (0, 4), (13, 27), (13, 27), (4, 5), (13, 27), (4, 5), (13, 27), (4, 5), (13, 27), (4, 5), (13, 27), (4, 5), (13, 27), (4, 5), (13, 27), (4, 5), (13, 27), (4, 5), (13, 27), (4, 5), (13, 27), (4, 5), (13, 27), (4, 5), (13, 27), (4, 5), (13, 27), (6, 5), (13, 256), (13, 256), (6, 5), (13, 256), (13, 256), (6, 5), (13, 256), (13, 256), (12, 25), (13, 10), (13, 10), (14, 320), (13, 8), (13, 216), (13, 12), (14, 12), (13, 30), (13, 90), (13, 1024), (13, 1024), (13, 4), (13, 19683), (13, 2313), (13, 27), (13, 19683), (13, 8)]
/-- the references that never change, by the cell's place and the index (15, 0 and 15, 9 do change: there none) -/
def nsr (a i : Int) : Option Int :=
  if a = 12 then some (55 + 3 * i) else if a = 13 then some (79 + 2 * i) else if a = 14 then some (103 + 3 * i)
  else if 55 ≤ a ∧ a ≤ 78 then some (a + i - 1)
  else if (79 ≤ a ∧ a ≤ 102) ∨ a = 50 then some (a + 1)
  else if 103 ≤ a ∧ a ≤ 111 then some (a + i - 2)
  else if a = 4 ∨ a = 16 then some (a + i - 1)
  else if a = 25 ∨ a = 27 ∨ a = 29 ∨ a = 52 ∨ a = 46 ∨ a = 48 then some (a + 1)
  else if a = 8 then some (9 + i) else if a = 32 then some (31 + i) else if a = 38 then some (39 + i) else if a = 44 then some 45
  else if a = 15 then (if i = 0 ∨ i = 9 then none else if i ≤ 6 then some (19 + i) else some (13 + 2 * i))
  else if a = 3 then (if i ≤ 1 then some (4 + 4 * i) else if i ≤ 4 then some (10 + i) else if i = 5 then some 15 else if i ≤ 8 then some (6 * i - 4) else if i ≤ 13 then some (28 + 2 * i) else none)
  else if a = 112 then (if i ≤ 3 then some (112 + i) else if i ≤ 6 then some (111 + i) else if i ≤ 9 then some (110 + i) else if i ≤ 19 then some (108 + i) else some (105 + i))
  else none
def sC (a : Int) (c n : Nat) : Prop := 0 ≤ a ∧ a ≠ 2 ∧ nsh[a.toNat]? = some (c, n)
def nC (M : nM) (a : Int) (c n : Nat) : Prop := sC a c n ∨ (a = 130 ∧ M (-1) 0 = 1 ∧ c = 13 ∧ n = 19683)
theorem sC.n {M : nM} {a : Int} {c n : Nat} (h : sC a c n) : nC M a c n := Or.inl h
theorem nC.ge {M : nM} {a : Int} {c n : Nat} (h : nC M a c n) : 0 ≤ a ∧ a ≠ 2 := by
  rcases h with h | h
  · exact ⟨h.1, h.2.1⟩
  · omega
/-- what a place of a cell holds: a reference that never changes, or the number of M -/
def nval (M : nM) (c : Nat) (a i : Int) : Int := if nkd c i.toNat = 2 then (match nsr a i with
  | some z => z
  | none => M a i) else M a i
theorem nval_0 {M : nM} {c : Nat} {a i : Int} (h : nkd c i.toNat ≠ 2) : nval M c a i = M a i := if_neg h
theorem nval_s {M : nM} {c : Nat} {a i z : Int} (h : nkd c i.toNat = 2) (hs : nsr a i = some z) : nval M c a i = z := by
  unfold nval
  rw [if_pos h, hs]
theorem nval_d {M : nM} {c : Nat} {a i : Int} (h : nkd c i.toNat = 2) (hs : nsr a i = none) : nval M c a i = M a i := by
  unfold nval
  rw [if_pos h, hs]
theorem nval_e {M M2 : nM} {c : Nat} {a i : Int} (h : M2 a i = M a i) : nval M2 c a i = nval M c a i := by
  unfold nval
  rw [h]
/-- the heap holds the numbers M; M (-1) 0 tells whether the large row has been made -/
def nR (xs : List Int32) (M : nM) (hp : List mj_C) : Prop := hp.length = (if M (-1) 0 = 1 then 131 else 130) ∧ hp[2]? = some (18, xs.map .int) ∧ ∀ (a : Int) (c n : Nat), nC M a c n → ∃ vs : List Value, hp[a.toNat]? = some (c, vs) ∧ vs.length = n ∧ ∀ i : Nat, i < n → vs[i]? = some (nv (nkd c i, nval M c a i))
def nu (M : nM) (a i z : Int) : nM := fun a' i' => if a' = a ∧ i' = i then z else M a' i'
theorem nu_s (M : nM) (a i z : Int) : nu M a i z a i = z := if_pos ⟨rfl, rfl⟩
theorem nu_a {M : nM} {a i z a' i' : Int} (h : a' ≠ a) : nu M a i z a' i' = M a' i' := if_neg (fun q => h q.1)
theorem nu_i {M : nM} {a i z a' i' : Int} (h : i' ≠ i) : nu M a i z a' i' = M a' i' := if_neg (fun q => h q.2)
theorem nu_e (M : nM) (a i z a' i' : Int) : nu M a i z a' i' = if a' = a ∧ i' = i then z else M a' i' := rfl
/-- the locals hold what L tells -/
def nLr (L : nL) (LL : mj_L) : Prop := LL.length = L.length ∧ ∀ (i : Nat) (v : nX), L[i]? = some (some v) → LL[i]? = some (some (nv v))
def nLe (L2 L : nL) : Prop := L.length = L2.length ∧ ∀ (i : Nat) (v : nX), L2[i]? = some (some v) → L[i]? = some (some v)
theorem le_0 : nLe [] [] := ⟨rfl, fun i v h => by cases h⟩
theorem le_s {L2 L : nL} {o : Option nX} (h : nLe L2 L) : nLe (o :: L2) (o :: L) := ⟨by rw [List.length_cons, List.length_cons, h.1], fun i v q => by
  cases i with
  | zero => exact q
  | succ i => exact h.2 i v q⟩
theorem le_n {L2 L : nL} {o : Option nX} (h : nLe L2 L) : nLe (none :: L2) (o :: L) := ⟨by rw [List.length_cons, List.length_cons, h.1], fun i v q => by
  cases i with
  | zero => cases q
  | succ i => exact h.2 i v q⟩
def nW (xs : List Int32) (d j k : Nat) (L : nL) (st : List nX) (M : nM) (Q : Option nX → nM → Prop) : Prop := ∀ hp LL, nR xs M hp → nLr L LL → mo_Ok d j k LL (nvS st) hp (fun v hp' => ∃ w M', v = w.map nv ∧ nR xs M' hp' ∧ Q w M')
/-! ranges -/
theorem n_i32 {x : Int} (h : -2147483648 ≤ x ∧ x ≤ 2147483647) : (Int32.ofInt x).toInt = x := Int32.toInt_ofInt_of_le (by omega) (by omega)
theorem n_i64 {x : Int} (h : -9223372036854775808 ≤ x ∧ x ≤ 9223372036854775807) : (Int64.ofInt x).toInt = x := Int64.toInt_ofInt_of_le (by omega) (by omega)
theorem n_lt {x y : Int} (hx : -2147483648 ≤ x ∧ x ≤ 2147483647) (hy : -2147483648 ≤ y ∧ y ≤ 2147483647) : Int32.ofInt x < Int32.ofInt y ↔ x < y := by rw [Int32.lt_iff_toInt_lt, n_i32 hx, n_i32 hy]
theorem n_le {x y : Int} (hx : -2147483648 ≤ x ∧ x ≤ 2147483647) (hy : -2147483648 ≤ y ∧ y ≤ 2147483647) : Int32.ofInt x ≤ Int32.ofInt y ↔ x ≤ y := by rw [Int32.le_iff_toInt_le, n_i32 hx, n_i32 hy]
theorem n_eq {x y : Int} (hx : -2147483648 ≤ x ∧ x ≤ 2147483647) (hy : -2147483648 ≤ y ∧ y ≤ 2147483647) : Int32.ofInt x = Int32.ofInt y ↔ x = y := by rw [← Int32.toInt_inj, n_i32 hx, n_i32 hy]
theorem n_llt {x y : Int} (hx : -9223372036854775808 ≤ x ∧ x ≤ 9223372036854775807) (hy : -9223372036854775808 ≤ y ∧ y ≤ 9223372036854775807) : Int64.ofInt x < Int64.ofInt y ↔ x < y := by rw [Int64.lt_iff_toInt_lt, n_i64 hx, n_i64 hy]
theorem n_leq {x y : Int} (hx : -9223372036854775808 ≤ x ∧ x ≤ 9223372036854775807) (hy : -9223372036854775808 ≤ y ∧ y ≤ 9223372036854775807) : Int64.ofInt x = Int64.ofInt y ↔ x = y := by rw [← Int64.toInt_inj, n_i64 hx, n_i64 hy]
theorem n_z0 : -2147483648 ≤ (0 : Int) ∧ (0 : Int) ≤ 2147483647 := by omega
def n_and (x y : Int) : Int := (Int32.ofInt x &&& Int32.ofInt y).toInt
def n_or (x y : Int) : Int := (Int32.ofInt x ||| Int32.ofInt y).toInt
def n_xor (x y : Int) : Int := (Int32.ofInt x ^^^ Int32.ofInt y).toInt
def n_shl (x y : Int) : Int := (Int32.ofInt x <<< (Int32.ofInt y &&& 31)).toInt
def n_shr (x y : Int) : Int := (Int32.ofInt x >>> (Int32.ofInt y &&& 31)).toInt
def n_ushr (x y : Int) : Int := ((Int32.ofInt x).toUInt32 >>> ((Int32.ofInt y).toUInt32 &&& Int32.toUInt32 31)).toInt32.toInt
def n_land (x y : Int) : Int := (Int64.ofInt x &&& Int64.ofInt y).toInt
def n_lor (x y : Int) : Int := (Int64.ofInt x ||| Int64.ofInt y).toInt
def n_lshl (x y : Int) : Int := (Int64.ofInt x <<< ((Int32.ofInt y).toInt64 &&& 63)).toInt
def n_lshr (x y : Int) : Int := (Int64.ofInt x >>> ((Int32.ofInt y).toInt64 &&& 63)).toInt
def n_lushr (x y : Int) : Int := ((Int64.ofInt x).toUInt64 >>> ((Int32.ofInt y).toInt64.toUInt64 &&& Int64.toUInt64 63)).toInt64.toInt
def n_2b (x : Int) : Int := ((Int32.ofInt x).toInt8.toInt32).toInt
def n_2s (x : Int) : Int := ((Int32.ofInt x).toInt16.toInt32).toInt
def n_cmp (x y : Int) : Int := (lg_cmp (Int64.ofInt x) (Int64.ofInt y)).toInt
def n_wr (x : Int) : Int := (Int32.ofInt x).toInt
def n_wl (x : Int) : Int := (Int64.ofInt x).toInt
theorem n_toInt (x : Int32) : -2147483648 ≤ x.toInt ∧ x.toInt ≤ 2147483647 := by
  have h1 := Int32.le_toInt x
  have h2 := Int32.toInt_lt x
  constructor <;> omega
theorem n_toLong (x : Int64) : -9223372036854775808 ≤ x.toInt ∧ x.toInt ≤ 9223372036854775807 := by
  have h1 := Int64.le_toInt x
  have h2 := Int64.toInt_lt x
  constructor <;> omega
theorem n_and_r (x y : Int) : -2147483648 ≤ n_and x y ∧ n_and x y ≤ 2147483647 := n_toInt _
theorem n_or_r (x y : Int) : -2147483648 ≤ n_or x y ∧ n_or x y ≤ 2147483647 := n_toInt _
theorem n_xor_r (x y : Int) : -2147483648 ≤ n_xor x y ∧ n_xor x y ≤ 2147483647 := n_toInt _
theorem n_shl_r (x y : Int) : -2147483648 ≤ n_shl x y ∧ n_shl x y ≤ 2147483647 := n_toInt _
theorem n_shr_r (x y : Int) : -2147483648 ≤ n_shr x y ∧ n_shr x y ≤ 2147483647 := n_toInt _
theorem n_ushr_r (x y : Int) : -2147483648 ≤ n_ushr x y ∧ n_ushr x y ≤ 2147483647 := n_toInt _
theorem n_wr_r (x : Int) : -2147483648 ≤ n_wr x ∧ n_wr x ≤ 2147483647 := n_toInt _
theorem n_2b_r (x : Int) : -2147483648 ≤ n_2b x ∧ n_2b x ≤ 2147483647 := n_toInt _
theorem n_2s_r (x : Int) : -2147483648 ≤ n_2s x ∧ n_2s x ≤ 2147483647 := n_toInt _
theorem n_land_r (x y : Int) : -9223372036854775808 ≤ n_land x y ∧ n_land x y ≤ 9223372036854775807 := n_toLong _
theorem n_lor_r (x y : Int) : -9223372036854775808 ≤ n_lor x y ∧ n_lor x y ≤ 9223372036854775807 := n_toLong _
theorem n_lshl_r (x y : Int) : -9223372036854775808 ≤ n_lshl x y ∧ n_lshl x y ≤ 9223372036854775807 := n_toLong _
theorem n_lshr_r (x y : Int) : -9223372036854775808 ≤ n_lshr x y ∧ n_lshr x y ≤ 9223372036854775807 := n_toLong _
theorem n_lushr_r (x y : Int) : -9223372036854775808 ≤ n_lushr x y ∧ n_lushr x y ≤ 9223372036854775807 := n_toLong _
theorem n_wl_r (x : Int) : -9223372036854775808 ≤ n_wl x ∧ n_wl x ≤ 9223372036854775807 := n_toLong _
theorem n_wr_e {x : Int} (h : -2147483648 ≤ x ∧ x ≤ 2147483647) : n_wr x = x := n_i32 h
theorem n_wl_e {x : Int} (h : -9223372036854775808 ≤ x ∧ x ≤ 9223372036854775807) : n_wl x = x := n_i64 h
/-! locals -/
def nun (L : nL) (i : Nat) : nL := match i with
  | 0 => L
  | i + 1 => match L[i]? with
    | some (some (1, _)) => L.set i none
    | _ => L
def ns1 (L : nL) (i : Nat) (v : nX) : nL := (nun L i).set i (some v)
def ns2 (L : nL) (i : Nat) (v : nX) : nL := ((nun L i).set i (some v)).set (i + 1) none
theorem nv_cat (x : nX) : (nv x).category = if x.1 = 1 then 2 else 1 := by
  obtain ⟨k, z⟩ := x
  rcases k with _ | _ | k
  · rfl
  · rfl
  · show (1 : Nat) = _
    rw [if_neg (by show ¬ (k + 1 + 1 = 1); omega)]
theorem nvL_get {L : nL} {i : Nat} {o : Option nX} (h : L[i]? = some o) : (nvL L)[i]? = some (o.map nv) := by
  unfold nvL
  rw [List.getElem?_map, h]
  rfl
theorem nvL_len (L : nL) : (nvL L).length = L.length := List.length_map _
theorem nLr.of (L : nL) : nLr L (nvL L) := ⟨nvL_len L, fun i v h => nvL_get h⟩
theorem nun_len (L : nL) (i : Nat) : (nun L i).length = L.length := by
  cases i with
  | zero => rfl
  | succ i =>
    show (match L[i]? with
      | some (some (1, _)) => L.set i none
      | _ => L).length = _
    split
    · exact List.length_set
    · rfl
theorem nun_s (L : nL) (i : Nat) : nun L (i + 1) = match L[i]? with
    | some (some (1, _)) => L.set i none
    | _ => L := rfl
theorem nun_get {L : nL} {i p : Nat} {v : nX} (h : (nun L i)[p]? = some (some v)) : L[p]? = some (some v) ∧ ¬ (p + 1 = i ∧ v.1 = 1) := by
  cases i with
  | zero => exact ⟨h, fun q => by omega⟩
  | succ i =>
    rw [nun_s] at h
    rcases hq : L[i]? with _ | _ | ⟨κ, z⟩
    · rw [hq] at h
      refine ⟨h, fun q => ?_⟩
      have e : p = i := by omega
      subst e
      have h : L[p]? = some (some v) := h
      rw [hq] at h
      cases h
    · rw [hq] at h
      refine ⟨h, fun q => ?_⟩
      have e : p = i := by omega
      subst e
      have h : L[p]? = some (some v) := h
      rw [hq] at h
      cases h
    · rw [hq] at h
      rcases κ with _ | _ | κ
      · refine ⟨h, fun q => ?_⟩
        have e : p = i := by omega
        subst e
        have h : L[p]? = some (some v) := h
        rw [hq] at h
        cases h
        have q2 : (0 : Nat) = 1 := q.2
        omega
      · have h : (L.set i none)[p]? = some (some v) := h
        by_cases e : p = i
        · subst e
          rw [List.getElem?_set_self (List.getElem?_eq_some_iff.mp hq).1] at h
          cases h
        · rw [List.getElem?_set_ne (Ne.symm e)] at h
          exact ⟨h, fun q => e (by omega)⟩
      · refine ⟨h, fun q => ?_⟩
        have e : p = i := by omega
        subst e
        have h : L[p]? = some (some v) := h
        rw [hq] at h
        cases h
        have q2 : κ + 1 + 1 = 1 := q.2
        omega
theorem nLr.un {L : nL} {LL : mj_L} (h : nLr L LL) (i p : Nat) (v : nX) (hp : (nun L i)[p]? = some (some v)) : (mj_un LL i)[p]? = some (some (nv v)) := by
  obtain ⟨h1, h2⟩ := nun_get hp
  have h3 := h.2 p v h1
  cases i with
  | zero => exact h3
  | succ i =>
    rw [mj_un_s]
    split
    · rename_i w h0
      split
      · rename_i hc
        by_cases e : p = i
        · subst e
          rw [h0] at h3
          cases h3
          rw [nv_cat] at hc
          split at hc
          · rename_i q
            exact absurd ⟨rfl, q⟩ h2
          · omega
        · rw [List.getElem?_set_ne (Ne.symm e)]
          exact h3
      · exact h3
    · exact h3
theorem nLr.s1 {L : nL} {LL : mj_L} (h : nLr L LL) {i : Nat} (hi : i < L.length) (v : nX) : nLr (ns1 L i v) (mj_s1 LL i (nv v)) := by
  refine ⟨?_, fun p w hp => ?_⟩
  · unfold ns1 mj_s1
    rw [List.length_set, List.length_set, nun_len, mj_un_len]
    exact h.1
  · unfold ns1 at hp
    unfold mj_s1
    by_cases e : p = i
    · subst e
      rw [List.getElem?_set_self (by rw [nun_len]; exact hi)] at hp
      cases hp
      rw [List.getElem?_set_self (by rw [mj_un_len, h.1]; exact hi)]
    · rw [List.getElem?_set_ne (Ne.symm e)] at hp ⊢
      exact h.un i p w hp
theorem nLr.s2 {L : nL} {LL : mj_L} (h : nLr L LL) {i : Nat} (hi : i + 1 < L.length) (v : nX) : nLr (ns2 L i v) (mj_s2 LL i (nv v)) := by
  refine ⟨?_, fun p w hp => ?_⟩
  · unfold ns2 mj_s2
    rw [List.length_set, List.length_set, List.length_set, List.length_set, nun_len, mj_un_len]
    exact h.1
  · unfold ns2 at hp
    unfold mj_s2
    by_cases e1 : p = i + 1
    · subst e1
      rw [List.getElem?_set_self (by rw [List.length_set, nun_len]; exact hi)] at hp
      cases hp
    · rw [List.getElem?_set_ne (Ne.symm e1)] at hp ⊢
      by_cases e : p = i
      · subst e
        rw [List.getElem?_set_self (by rw [nun_len]; omega)] at hp
        cases hp
        rw [List.getElem?_set_self (by rw [mj_un_len, h.1]; omega)]
      · rw [List.getElem?_set_ne (Ne.symm e)] at hp ⊢
        exact h.un i p w hp
