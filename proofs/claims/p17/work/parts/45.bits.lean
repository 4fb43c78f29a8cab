/-! Bits of longs. -/
theorem n_bvl {z : Int} (h : 0 ≤ z ∧ z ≤ 9223372036854775807) : (Int64.ofInt z).toBitVec.toNat = z.toNat := by
  show (BitVec.ofInt 64 z).toNat = _
  rw [BitVec.toNat_ofInt]
  omega
theorem n_bvli {v : BitVec 64} {n : Nat} (h : v.toNat = n) (hn : n ≤ 9223372036854775807) : v.toInt = (n : Int) := by
  rw [BitVec.toInt_eq_toNat_of_lt (by omega), h]
theorem n_lor_n {x y : Nat} (hx : x < 2 ^ 27) (hy : y < 2 ^ 27) : n_lor (x : Int) (y : Int) = ((x ||| y : Nat) : Int) := by
  have hz : x ||| y < 2 ^ 27 := Nat.or_lt_two_pow hx hy
  have e : n_lor (x : Int) (y : Int) = ((Int64.ofInt (x : Int)).toBitVec ||| (Int64.ofInt (y : Int)).toBitVec).toInt := rfl
  rw [e]
  refine n_bvli ?_ (by omega)
  rw [BitVec.toNat_or, n_bvl (by omega), n_bvl (by omega), Int.toNat_natCast, Int.toNat_natCast]
theorem n_lshr_s : ∀ n : Nat, n ≤ 26 → (((Int32.ofInt n).toInt64 &&& 63).toBitVec.smod 64).toNat = n := by decide +kernel
theorem n_lshr_n {x : Int} {n : Nat} (hn : n ≤ 26) (hx : 0 ≤ x ∧ x ≤ 9223372036854775807) : n_lshr x n = x / 2 ^ n := by
  have e : n_lshr x n = ((Int64.ofInt x).toBitVec.sshiftRight (((Int32.ofInt n).toInt64 &&& 63).toBitVec.smod 64).toNat).toInt := rfl
  have e2 : (Int64.ofInt x).toBitVec.toInt = x := n_i64 (by omega)
  rw [e, n_lshr_s n hn, BitVec.toInt_sshiftRight, e2, Int.shiftRight_eq_div_pow]
  norm_cast
theorem n_land_1 {x : Nat} (hx : x ≤ 9223372036854775807) : n_land (x : Int) 1 = ((x % 2 : Nat) : Int) := by
  have e : n_land (x : Int) 1 = ((Int64.ofInt (x : Int)).toBitVec &&& (Int64.ofInt 1).toBitVec).toInt := rfl
  rw [e]
  refine n_bvli ?_ (by omega)
  rw [BitVec.toNat_and, n_bvl (by omega), n_bvl (by omega), Int.toNat_natCast]
  exact Nat.and_one_is_mod x
theorem n_lor_bit {s r : Int} (hs : 0 ≤ s ∧ s ≤ 134217727) (hr : 0 ≤ r ∧ r ≤ 26) (h : n_land (n_lshr s r) 1 = 0) : s + 1 ≤ n_lor s (n_lshl 1 r) ∧ n_lor s (n_lshl 1 r) ≤ 134217727 := by
  obtain ⟨t, rfl⟩ : ∃ t : Nat, s = t := ⟨s.toNat, by omega⟩
  obtain ⟨n, rfl⟩ : ∃ n : Nat, r = n := ⟨r.toNat, by omega⟩
  have hn : n ≤ 26 := by omega
  rw [n_lshr_n hn (by omega)] at h
  have e1 : ((t : Int) / 2 ^ n) = ((t / 2 ^ n : Nat) : Int) := by norm_cast
  have hd : t / 2 ^ n ≤ t := Nat.div_le_self _ _
  rw [e1, n_land_1 (by omega)] at h
  have h0 : t / 2 ^ n % 2 = 0 := by exact_mod_cast h
  have hp : 2 ^ n < 2 ^ 27 := Nat.pow_lt_pow_right (by omega) (by omega)
  have e2 : n_lshl 1 (n : Int) = ((2 ^ n : Nat) : Int) := by
    rw [n_lshl_a n (by omega)]
    norm_cast
  have ht : t < 2 ^ 27 := by omega
  rw [e2, n_lor_n ht hp]
  have hz : t ||| 2 ^ n < 2 ^ 27 := Nat.or_lt_two_pow ht hp
  have hle : t ≤ t ||| 2 ^ n := Nat.left_le_or
  have hne : t ≠ t ||| 2 ^ n := by
    intro q
    have b1 : (t ||| 2 ^ n).testBit n = true := by
      rw [Nat.testBit_or, Nat.testBit_two_pow_self]
      simp
    rw [← q, Nat.testBit_eq_decide_div_mod_eq] at b1
    have b2 := of_decide_eq_true b1
    omega
  omega
/-- what is cut off a set of things makes it less -/
theorem n_and_less : ∀ a : Nat, a ≤ 7 → ∀ b : Nat, b ≤ 7 → (a &&& b = a → a &&& (7 - b) = 0) := by decide +kernel
