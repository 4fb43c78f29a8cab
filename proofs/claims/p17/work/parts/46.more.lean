/-! What is cut off a set of things makes it less; the sum of what the unknowns can have. -/
theorem n_cut {c s : Int} (hc : 0 ≤ c ∧ c ≤ 7) : n_and c (n_xor s (-1)) = 0 ∨ n_and c s + 1 ≤ c := by
  by_cases h : n_and c s = c
  · left
    have e1 : Int32.ofInt (n_xor s (-1)) = Int32.ofInt s ^^^ Int32.ofInt (-1) := by
      unfold n_xor
      exact Int32.ofInt_toInt _
    have h1 : (Int32.ofInt c &&& Int32.ofInt s) = Int32.ofInt c := by
      rw [← Int32.ofInt_toInt (Int32.ofInt c &&& Int32.ofInt s)]
      show Int32.ofInt (n_and c s) = _
      rw [h]
    have h2 : (Int32.ofInt c).toBitVec &&& (Int32.ofInt s).toBitVec = (Int32.ofInt c).toBitVec := congrArg Int32.toBitVec h1
    show (Int32.ofInt c &&& Int32.ofInt (n_xor s (-1))).toInt = 0
    rw [e1]
    show ((Int32.ofInt c).toBitVec &&& ((Int32.ofInt s).toBitVec ^^^ (Int32.ofInt (-1)).toBitVec)).toInt = 0
    have e3 : (Int32.ofInt (-1)).toBitVec = BitVec.allOnes 32 := by decide
    have e4 : (Int32.ofInt c).toBitVec &&& ~~~ (Int32.ofInt s).toBitVec = 0#32 := by
      rw [← h2, BitVec.and_assoc, BitVec.and_not_self]
      exact BitVec.and_zero
    rw [e3, BitVec.xor_allOnes, e4]
    rfl
  · right
    have h3 := n_and_x (x := c) (y := s) (by omega)
    omega
def wcan (M : nM) : Int := M 129 0 + M 129 1 + M 129 2 + M 129 3 + M 129 4 + M 129 5 + M 129 6 + M 129 7
theorem wcan_r {d ac : Int} {M0 M : nM} (h : Sf d ac M0 M) : 0 ≤ wcan M ∧ wcan M ≤ 56 := by
  have h0 := t_129 h (i := 0) (by omega)
  have h1 := t_129 h (i := 1) (by omega)
  have h2 := t_129 h (i := 2) (by omega)
  have h3 := t_129 h (i := 3) (by omega)
  have h4 := t_129 h (i := 4) (by omega)
  have h5 := t_129 h (i := 5) (by omega)
  have h6 := t_129 h (i := 6) (by omega)
  have h7 := t_129 h (i := 7) (by omega)
  unfold wcan
  omega
theorem wcan_u {M M2 : nM} {i z : Int} (hi : 0 ≤ i ∧ i ≤ 7) (he : M2 = nu M 129 i z) : wcan M2 = wcan M - M 129 i + z := by
  subst he
  unfold wcan
  rcases (show i = 0 ∨ i = 1 ∨ i = 2 ∨ i = 3 ∨ i = 4 ∨ i = 5 ∨ i = 6 ∨ i = 7 by omega) with rfl | rfl | rfl | rfl | rfl | rfl | rfl | rfl
  · rw [nu_s, nu_i (by omega), nu_i (by omega), nu_i (by omega), nu_i (by omega), nu_i (by omega), nu_i (by omega), nu_i (by omega)]; omega
  · rw [nu_s, nu_i (by omega), nu_i (by omega), nu_i (by omega), nu_i (by omega), nu_i (by omega), nu_i (by omega), nu_i (by omega)]; omega
  · rw [nu_s, nu_i (by omega), nu_i (by omega), nu_i (by omega), nu_i (by omega), nu_i (by omega), nu_i (by omega), nu_i (by omega)]; omega
  · rw [nu_s, nu_i (by omega), nu_i (by omega), nu_i (by omega), nu_i (by omega), nu_i (by omega), nu_i (by omega), nu_i (by omega)]; omega
  · rw [nu_s, nu_i (by omega), nu_i (by omega), nu_i (by omega), nu_i (by omega), nu_i (by omega), nu_i (by omega), nu_i (by omega)]; omega
  · rw [nu_s, nu_i (by omega), nu_i (by omega), nu_i (by omega), nu_i (by omega), nu_i (by omega), nu_i (by omega), nu_i (by omega)]; omega
  · rw [nu_s, nu_i (by omega), nu_i (by omega), nu_i (by omega), nu_i (by omega), nu_i (by omega), nu_i (by omega), nu_i (by omega)]; omega
  · rw [nu_s, nu_i (by omega), nu_i (by omega), nu_i (by omega), nu_i (by omega), nu_i (by omega), nu_i (by omega), nu_i (by omega)]; omega
theorem t_c {d ac : Int} {M0 M : nM} (h : Sf d ac M0 M) {a i : Int} (hc : core a i) : M a i = M0 a i := h.2.2.2.1.1 a i hc
theorem t_ask0 {d ac : Int} {M0 M : nM} {q j : Int} (h : Sf d ac M0 M) (h0 : 0 ≤ q) (h1 : q < M0 112 11) (h2 : 0 ≤ j) (h3 : j < M0 118 (M0 120 q)) : 0 ≤ M 121 (3 * q + j) ∧ M 121 (3 * q + j) < M 112 10 := by
  rw [t_c h (a := 121) (by unfold core; omega), t_c h (a := 112) (i := 10) (by unfold core; omega)]
  exact (h.2.2.2.1.2 q h0 h1).2 j h2 h3
