/-! Bits of longs: how many there are, and the n-th. -/
def un (x : Int) : Nat := (BitVec.ofInt 64 x).toNat
theorem un_v (x : Int) : (un x : Int) = x % 18446744073709551616 := by
  unfold un
  rw [BitVec.toNat_ofInt]
  have h := Int.emod_nonneg x (show (18446744073709551616 : Int) ≠ 0 by decide)
  exact Int.toNat_of_nonneg h
theorem un_lt (x : Int) : un x < 18446744073709551616 := by
  have h := un_v x
  omega
theorem un_bv (v : BitVec 64) : un v.toInt = v.toNat := by
  unfold un
  rw [BitVec.ofInt_toInt]
theorem un_land (x y : Int) : un (n_land x y) = un x &&& un y := by
  have e : n_land x y = (BitVec.ofInt 64 x &&& BitVec.ofInt 64 y).toInt := rfl
  rw [e, un_bv, BitVec.toNat_and]
  rfl
theorem un_lor (x y : Int) : un (n_lor x y) = un x ||| un y := by
  have e : n_lor x y = (BitVec.ofInt 64 x ||| BitVec.ofInt 64 y).toInt := rfl
  rw [e, un_bv, BitVec.toNat_or]
  rfl
theorem un_wl (x : Int) : un (n_wl x) = un x := by
  have e : n_wl x = (BitVec.ofInt 64 x).toInt := rfl
  rw [e, un_bv]
  rfl
theorem un_sh : ∀ n : Nat, n < 64 → (((Int32.ofInt (n : Int)).toInt64.toUInt64 &&& Int64.toUInt64 63).mod 64).toBitVec.toNat = n := by decide +kernel
theorem un_lushr {x : Int} {n : Nat} (hn : n < 64) : un (n_lushr x n) = un x / 2 ^ n := by
  have e : n_lushr x n = (BitVec.ofInt 64 x >>> (((Int32.ofInt (n : Int)).toInt64.toUInt64 &&& Int64.toUInt64 63).mod 64).toBitVec).toInt := rfl
  rw [e, un_bv, BitVec.ushiftRight_eq', un_sh n hn, BitVec.toNat_ushiftRight, Nat.shiftRight_eq_div_pow]
  rfl
theorem un_sl : ∀ n : Nat, n < 64 → un (n_lshl 1 (n : Int)) = 2 ^ n := by decide +kernel
theorem and8 {b c y e : Nat} (hb : b < 256) (hc : c < 256) : (b + 256 * y) &&& (c + 256 * e) = (b &&& c) + 256 * (y &&& e) := by
  have h1 : ((b + 256 * y) &&& (c + 256 * e)) % 2 ^ 8 = b &&& c := by
    rw [Nat.and_mod_two_pow, show (b + 256 * y) % 2 ^ 8 = b by omega, show (c + 256 * e) % 2 ^ 8 = c by omega]
  have h2 : ((b + 256 * y) &&& (c + 256 * e)) / 2 ^ 8 = y &&& e := by
    rw [Nat.and_div_two_pow, show (b + 256 * y) / 2 ^ 8 = y by omega, show (c + 256 * e) / 2 ^ 8 = e by omega]
  omega
def mk1 : Nat → Nat
  | 0 => 0
  | n + 1 => 85 + 256 * mk1 n
def mk2 : Nat → Nat
  | 0 => 0
  | n + 1 => 51 + 256 * mk2 n
def mk4 : Nat → Nat
  | 0 => 0
  | n + 1 => 15 + 256 * mk4 n
def sw1 (n X : Nat) : Nat := X - ((X / 2) &&& mk1 n)
def sw2 (n X : Nat) : Nat := (X &&& mk2 n) + ((X / 4) &&& mk2 n)
def sw3 (n X : Nat) : Nat := (X + X / 16) &&& mk4 n
theorem sl1 : ∀ b : Nat, b < 256 → ∀ t : Nat, t < 2 → (b / 2 + 128 * t) &&& 85 = (b / 2) &&& 85 ∧ ((b / 2) &&& 85) ≤ b := by decide +kernel
theorem sl2 : ∀ b : Nat, b < 256 → ∀ t : Nat, t < 4 → (b / 4 + 64 * t) &&& 51 = (b / 4) &&& 51 := by decide +kernel
def by1 (b : Nat) : Nat := b - ((b / 2) &&& 85)
def by2 (b : Nat) : Nat := (b &&& 51) + ((b / 4) &&& 51)
def pcb (b : Nat) : Nat := b % 2 + b / 2 % 2 + b / 4 % 2 + b / 8 % 2 + b / 16 % 2 + b / 32 % 2 + b / 64 % 2 + b / 128 % 2
theorem sl3 : ∀ b : Nat, b < 256 → by1 b < 256 ∧ by2 (by1 b) ≤ 68 ∧ by2 (by1 b) % 16 ≤ 4 ∧ (by2 (by1 b) + by2 (by1 b) / 16) % 16 = pcb b ∧ pcb b ≤ 8 := by decide +kernel
theorem sl4 : ∀ l : Nat, l < 256 → l &&& 15 = l % 16 := by decide +kernel
theorem sw1_s {n b Y : Nat} (hb : b < 256) : sw1 (n + 1) (b + 256 * Y) = by1 b + 256 * sw1 n Y := by
  unfold sw1 by1
  have e : (b + 256 * Y) / 2 = (b / 2 + 128 * (Y % 2)) + 256 * (Y / 2) := by omega
  have h := sl1 b hb (Y % 2) (by omega)
  have hy : (Y / 2) &&& mk1 n ≤ Y / 2 := Nat.and_le_left
  rw [e, show mk1 (n + 1) = 85 + 256 * mk1 n from rfl, and8 (by omega) (by omega), h.1]
  omega
theorem sw2_s {n b Y : Nat} (hb : b < 256) : sw2 (n + 1) (b + 256 * Y) = by2 b + 256 * sw2 n Y := by
  unfold sw2 by2
  have e : (b + 256 * Y) / 4 = (b / 4 + 64 * (Y % 4)) + 256 * (Y / 4) := by omega
  rw [e, show mk2 (n + 1) = 51 + 256 * mk2 n from rfl, and8 hb (by omega), and8 (by omega) (by omega), sl2 b hb (Y % 4) (by omega)]
  omega
theorem sw3_s {n b Y : Nat} (hb : b ≤ 68) (hY : Y % 16 ≤ 4) : sw3 (n + 1) (b + 256 * Y) = (b + b / 16) % 16 + 256 * sw3 n Y := by
  unfold sw3
  have e : (b + 256 * Y) + (b + 256 * Y) / 16 = (b + b / 16 + 16 * (Y % 16)) + 256 * (Y + Y / 16) := by omega
  rw [e, show mk4 (n + 1) = 15 + 256 * mk4 n from rfl, and8 (by omega) (by omega), sl4 _ (by omega)]
  omega
def swa (n X : Nat) : Nat := sw3 n (sw2 n (sw1 n X))
theorem sw2_16 {n X : Nat} : sw2 n (sw1 n X) % 16 ≤ 4 := by
  cases n with
  | zero =>
    unfold sw2
    show ((sw1 0 X &&& 0) + ((sw1 0 X / 4) &&& 0)) % 16 ≤ 4
    rw [Nat.and_zero, Nat.and_zero]
    omega
  | succ n =>
    have e : X = X % 256 + 256 * (X / 256) := by omega
    have h := sl3 (X % 256) (by omega)
    rw [e, sw1_s (by omega), sw2_s h.1]
    omega
theorem swa_s {n X : Nat} : swa (n + 1) X = pcb (X % 256) + 256 * swa n (X / 256) := by
  have e : X = X % 256 + 256 * (X / 256) := by omega
  have h := sl3 (X % 256) (by omega)
  unfold swa
  have e1 : sw1 (n + 1) X = by1 (X % 256) + 256 * sw1 n (X / 256) := by
    have := sw1_s (n := n) (b := X % 256) (Y := X / 256) (by omega)
    rw [← e] at this
    exact this
  rw [e1, sw2_s h.1, sw3_s h.2.1 sw2_16, h.2.2.2.1]
theorem swa_0 {X : Nat} : swa 0 X = 0 := by
  unfold swa sw3
  exact Nat.and_zero _
/-- the bits of a number, one by one -/
def bbt (X : Nat) (t : Int) : Int := ((X / 2 ^ t.toNat % 2 : Nat) : Int)
theorem bbt_r (X : Nat) (t : Int) : 0 ≤ bbt X t ∧ bbt X t ≤ 1 := by
  unfold bbt
  omega
theorem cf_8 {f : Int → Int} : cf f 8 = f 0 + f 1 + f 2 + f 3 + f 4 + f 5 + f 6 + f 7 := by
  show 0 + f ((0 : Nat) : Int) + f ((1 : Nat) : Int) + f ((2 : Nat) : Int) + f ((3 : Nat) : Int) + f ((4 : Nat) : Int) + f ((5 : Nat) : Int) + f ((6 : Nat) : Int) + f ((7 : Nat) : Int) = _
  rw [Int.zero_add]
  rfl
theorem cf_b8 (X : Nat) : cf (bbt X) 8 = ((pcb (X % 256) : Nat) : Int) := by
  rw [cf_8]
  show ((X / 1 % 2 : Nat) : Int) + ((X / 2 % 2 : Nat) : Int) + ((X / 4 % 2 : Nat) : Int) + ((X / 8 % 2 : Nat) : Int) + ((X / 16 % 2 : Nat) : Int) + ((X / 32 % 2 : Nat) : Int) + ((X / 64 % 2 : Nat) : Int) + ((X / 128 % 2 : Nat) : Int) = _
  unfold pcb
  omega
theorem bbt_8 {X : Nat} {i : Int} (hi : 0 ≤ i) : bbt X (((8 : Nat) : Int) + i) = bbt (X / 256) i := by
  unfold bbt
  rw [show (((8 : Nat) : Int) + i).toNat = 8 + i.toNat by omega, Nat.pow_add, ← Nat.div_div_eq_div_mul]
theorem cf_b (X : Nat) (n : Nat) : cf (bbt X) (8 + n) = ((pcb (X % 256) : Nat) : Int) + cf (bbt (X / 256)) n := by
  rw [cf_add, cf_b8]
  congr 1
  exact cf_congr _ (fun i i0 _ => bbt_8 i0)
theorem cf_64 (X : Nat) : cf (bbt X) 64 = ((pcb (X % 256) + pcb (X / 256 % 256) + pcb (X / 256 / 256 % 256) + pcb (X / 256 / 256 / 256 % 256) + pcb (X / 256 / 256 / 256 / 256 % 256) + pcb (X / 256 / 256 / 256 / 256 / 256 % 256) + pcb (X / 256 / 256 / 256 / 256 / 256 / 256 % 256) + pcb (X / 256 / 256 / 256 / 256 / 256 / 256 / 256 % 256) : Nat) : Int) := by
  have e : cf (bbt X) 64 = cf (bbt X) (8 + (8 + (8 + (8 + (8 + (8 + (8 + (8 + 0)))))))) := rfl
  rw [e, cf_b, cf_b, cf_b, cf_b, cf_b, cf_b, cf_b, cf_b]
  show _ + (_ + (_ + (_ + (_ + (_ + (_ + (_ + 0))))))) = _
  omega
theorem swa_8 (X : Nat) : ∃ p0 p1 p2 p3 p4 p5 p6 p7 : Nat, p0 ≤ 8 ∧ p1 ≤ 8 ∧ p2 ≤ 8 ∧ p3 ≤ 8 ∧ p4 ≤ 8 ∧ p5 ≤ 8 ∧ p6 ≤ 8 ∧ p7 ≤ 8 ∧ swa 8 X = p0 + 256 * (p1 + 256 * (p2 + 256 * (p3 + 256 * (p4 + 256 * (p5 + 256 * (p6 + 256 * p7)))))) ∧ cf (bbt X) 64 = ((p0 + p1 + p2 + p3 + p4 + p5 + p6 + p7 : Nat) : Int) := by
  refine ⟨_, _, _, _, _, _, _, _, ?_, ?_, ?_, ?_, ?_, ?_, ?_, ?_, ?_, cf_64 X⟩
  · exact (sl3 _ (by omega)).2.2.2.2
  · exact (sl3 _ (by omega)).2.2.2.2
  · exact (sl3 _ (by omega)).2.2.2.2
  · exact (sl3 _ (by omega)).2.2.2.2
  · exact (sl3 _ (by omega)).2.2.2.2
  · exact (sl3 _ (by omega)).2.2.2.2
  · exact (sl3 _ (by omega)).2.2.2.2
  · exact (sl3 _ (by omega)).2.2.2.2
  · rw [swa_s, swa_s, swa_s, swa_s, swa_s, swa_s, swa_s, swa_s, swa_0, Nat.mul_zero, Nat.add_zero]
theorem un_ad {a b : Int} (h : un a + un b < 18446744073709551616) : un (n_wl (a + b)) = un a + un b := by
  rw [un_wl]
  have h1 := un_v (a + b)
  have h2 := un_v a
  have h3 := un_v b
  omega
theorem un_am {a b : Int} : un (n_wl (a + b)) = (un a + un b) % 18446744073709551616 := by
  rw [un_wl]
  have h1 := un_v (a + b)
  have h2 := un_v a
  have h3 := un_v b
  omega
theorem un_sb {a b : Int} (h : un b ≤ un a) : un (n_wl (a - b)) = un a - un b := by
  rw [un_wl]
  have h0 := un_lt a
  have h1 := un_v (a - b)
  have h2 := un_v a
  have h3 := un_v b
  omega
theorem un_m (y : Int) : (un y : Int) % 128 = y % 128 := by
  have h1 := un_v y
  omega
theorem un_n (n : Nat) : (n : Int) % 128 = ((n % 128 : Nat) : Int) := by omega
theorem s16 {X : Nat} (h : X ≤ 7378697629483820646) : X + X / 16 < 18446744073709551616 := by omega
theorem dv8 {p Y : Nat} (h : p < 256) : (p + 256 * Y) / 256 = Y := by omega
theorem dv16 {p q Y : Nat} (h : p < 256) (k : q < 256) : (p + 256 * (q + 256 * Y)) / 65536 = Y := by
  rw [show (65536 : Nat) = 256 * 256 from rfl, ← Nat.div_div_eq_div_mul, dv8 h, dv8 k]
theorem dv32 {p q r s Y : Nat} (h : p < 256) (k : q < 256) (l : r < 256) (m : s < 256) : (p + 256 * (q + 256 * (r + 256 * (s + 256 * Y)))) / 4294967296 = Y := by
  rw [show (4294967296 : Nat) = 65536 * 65536 from rfl, ← Nat.div_div_eq_div_mul, dv16 h k, dv16 l m]
theorem fin8 {s Z : Nat} (h : s ≤ 64) : ((s + 256 * Z) % 18446744073709551616) % 128 = s := by omega
theorem v5l {p0 p1 p2 p3 p4 p5 p6 p7 : Nat} : p0 + 256 * (p1 + 256 * (p2 + 256 * (p3 + 256 * (p4 + 256 * (p5 + 256 * (p6 + 256 * (p7))))))) + (p1 + 256 * (p2 + 256 * (p3 + 256 * (p4 + 256 * (p5 + 256 * (p6 + 256 * (p7))))))) = (p0 + p1) + 256 * ((p1 + p2) + 256 * ((p2 + p3) + 256 * ((p3 + p4) + 256 * ((p4 + p5) + 256 * ((p5 + p6) + 256 * ((p6 + p7) + 256 * (p7))))))) := by omega
theorem b5l {p0 p1 p2 p3 p4 p5 p6 p7 : Nat} (q0 : p0 ≤ 8) (q1 : p1 ≤ 8) (q2 : p2 ≤ 8) (q3 : p3 ≤ 8) (q4 : p4 ≤ 8) (q5 : p5 ≤ 8) (q6 : p6 ≤ 8) (q7 : p7 ≤ 8) : p0 + 256 * (p1 + 256 * (p2 + 256 * (p3 + 256 * (p4 + 256 * (p5 + 256 * (p6 + 256 * (p7))))))) + (p1 + 256 * (p2 + 256 * (p3 + 256 * (p4 + 256 * (p5 + 256 * (p6 + 256 * (p7))))))) < 18446744073709551616 := by omega
theorem v6l {p0 p1 p2 p3 p4 p5 p6 p7 : Nat} : (p0 + p1) + 256 * ((p1 + p2) + 256 * ((p2 + p3) + 256 * ((p3 + p4) + 256 * ((p4 + p5) + 256 * ((p5 + p6) + 256 * ((p6 + p7) + 256 * (p7))))))) + ((p2 + p3) + 256 * ((p3 + p4) + 256 * ((p4 + p5) + 256 * ((p5 + p6) + 256 * ((p6 + p7) + 256 * (p7)))))) = (p0 + p1 + p2 + p3) + 256 * ((p1 + p2 + p3 + p4) + 256 * ((p2 + p3 + p4 + p5) + 256 * ((p3 + p4 + p5 + p6) + 256 * ((p4 + p5 + p6 + p7) + 256 * ((p5 + p6 + p7) + 256 * ((p6 + p7) + 256 * (p7))))))) := by omega
theorem b6l {p0 p1 p2 p3 p4 p5 p6 p7 : Nat} (q0 : p0 ≤ 8) (q1 : p1 ≤ 8) (q2 : p2 ≤ 8) (q3 : p3 ≤ 8) (q4 : p4 ≤ 8) (q5 : p5 ≤ 8) (q6 : p6 ≤ 8) (q7 : p7 ≤ 8) : (p0 + p1) + 256 * ((p1 + p2) + 256 * ((p2 + p3) + 256 * ((p3 + p4) + 256 * ((p4 + p5) + 256 * ((p5 + p6) + 256 * ((p6 + p7) + 256 * (p7))))))) + ((p2 + p3) + 256 * ((p3 + p4) + 256 * ((p4 + p5) + 256 * ((p5 + p6) + 256 * ((p6 + p7) + 256 * (p7)))))) < 18446744073709551616 := by omega
theorem v7l {p0 p1 p2 p3 p4 p5 p6 p7 : Nat} : (p0 + p1 + p2 + p3) + 256 * ((p1 + p2 + p3 + p4) + 256 * ((p2 + p3 + p4 + p5) + 256 * ((p3 + p4 + p5 + p6) + 256 * ((p4 + p5 + p6 + p7) + 256 * ((p5 + p6 + p7) + 256 * ((p6 + p7) + 256 * (p7))))))) + ((p4 + p5 + p6 + p7) + 256 * ((p5 + p6 + p7) + 256 * ((p6 + p7) + 256 * (p7)))) = (p0 + p1 + p2 + p3 + p4 + p5 + p6 + p7) + 256 * ((p1 + p2 + p3 + p4 + p5 + p6 + p7) + 256 * ((p2 + p3 + p4 + p5 + p6 + p7) + 256 * ((p3 + p4 + p5 + p6 + p7) + 256 * ((p4 + p5 + p6 + p7) + 256 * ((p5 + p6 + p7) + 256 * ((p6 + p7) + 256 * ((p7)))))))) := by omega
/-- the bytecode's own steps, unsigned -/
theorem swar {x a1 b1 a2 b2 b3 a3 b4 s4 a4 b5 a5 b6 a6 b7 a7 : Int} (g1 : n_lushr x 1 = a1) (g2 : n_land a1 6148914691236517205 = b1) (g3 : n_wl (x - b1) = a2) (g4 : n_land a2 3689348814741910323 = b2) (g5 : n_lushr a2 2 = b3) (g6 : n_land b3 3689348814741910323 = b4) (g7 : n_wl (b2 + b4) = a3) (g8 : n_lushr a3 4 = s4) (g9 : n_wl (a3 + s4) = b5) (g10 : n_land b5 1085102592571150095 = a4) (g11 : n_lushr a4 8 = b6) (g12 : n_wl (a4 + b6) = a5) (g13 : n_lushr a5 16 = b7) (g14 : n_wl (a5 + b7) = a6) (g15 : n_lushr a6 32 = a7) : (n_wl (a6 + a7)) % 128 = cf (bbt (un x)) 64 := by
  have u1 : un a1 = un x / 2 := by rw [← g1]; exact un_lushr (n := 1) (by decide)
  have k1 : un 6148914691236517205 = mk1 8 := by decide +kernel
  have k2 : un 3689348814741910323 = mk2 8 := by decide +kernel
  have k4 : un 1085102592571150095 = mk4 8 := by decide +kernel
  have ub1 : un b1 = (un x / 2) &&& mk1 8 := by rw [← g2, un_land, u1, k1]
  have lb1 : un b1 ≤ un x := by rw [ub1]; exact Nat.le_trans Nat.and_le_left (Nat.div_le_self _ _)
  have ua2 : un a2 = sw1 8 (un x) := by
    rw [← g3, un_sb lb1, ub1]
    rfl
  have ub2 : un b2 = sw1 8 (un x) &&& mk2 8 := by rw [← g4, un_land, ua2, k2]
  have ub3 : un b3 = sw1 8 (un x) / 4 := by rw [← g5, ← ua2]; exact un_lushr (n := 2) (by decide)
  have ub4 : un b4 = (sw1 8 (un x) / 4) &&& mk2 8 := by rw [← g6, un_land, ub3, k2]
  have l2 : un b2 ≤ 3689348814741910323 := by rw [ub2]; exact Nat.le_trans Nat.and_le_right (by decide)
  have l4 : un b4 ≤ 3689348814741910323 := by rw [ub4]; exact Nat.le_trans Nat.and_le_right (by decide)
  have l24 : un b2 + un b4 ≤ 7378697629483820646 := Nat.add_le_add l2 l4
  have ua3 : un a3 = sw2 8 (sw1 8 (un x)) := by
    rw [← g7, un_ad (Nat.lt_of_le_of_lt l24 (by decide)), ub2, ub4]
    rfl
  have l3 : sw2 8 (sw1 8 (un x)) ≤ 7378697629483820646 := by
    rw [← ua3, ← g7, un_ad (Nat.lt_of_le_of_lt l24 (by decide))]
    exact l24
  have us4 : un s4 = sw2 8 (sw1 8 (un x)) / 16 := by rw [← g8, ← ua3]; exact un_lushr (n := 4) (by decide)
  have ub5 : un b5 = sw2 8 (sw1 8 (un x)) + sw2 8 (sw1 8 (un x)) / 16 := by
    rw [← g9, un_ad (by rw [ua3, us4]; exact s16 l3), ua3, us4]
  have ua4 : un a4 = swa 8 (un x) := by
    rw [← g10, un_land, ub5, k4]
    rfl
  obtain ⟨p0, p1, p2, p3, p4, p5, p6, p7, q0, q1, q2, q3, q4, q5, q6, q7, hp, hc⟩ := swa_8 (un x)
  rw [hp] at ua4
  have ub6 : un b6 = p1 + 256 * (p2 + 256 * (p3 + 256 * (p4 + 256 * (p5 + 256 * (p6 + 256 * (p7)))))) := by
    have h : un b6 = un a4 / 256 := by rw [← g11]; exact un_lushr (n := 8) (by decide)
    rw [h, ua4]
    exact dv8 (Nat.lt_of_le_of_lt q0 (by decide))
  have ua5 : un a5 = (p0 + p1) + 256 * ((p1 + p2) + 256 * ((p2 + p3) + 256 * ((p3 + p4) + 256 * ((p4 + p5) + 256 * ((p5 + p6) + 256 * ((p6 + p7) + 256 * (p7))))))) := by
    rw [← g12, un_ad (by rw [ua4, ub6]; exact b5l q0 q1 q2 q3 q4 q5 q6 q7), ua4, ub6]
    exact v5l
  have ub7 : un b7 = (p2 + p3) + 256 * ((p3 + p4) + 256 * ((p4 + p5) + 256 * ((p5 + p6) + 256 * ((p6 + p7) + 256 * (p7))))) := by
    have h : un b7 = un a5 / 65536 := by rw [← g13]; exact un_lushr (n := 16) (by decide)
    rw [h, ua5]
    exact dv16 (Nat.lt_of_le_of_lt (Nat.add_le_add q0 q1) (by decide)) (Nat.lt_of_le_of_lt (Nat.add_le_add q1 q2) (by decide))
  have ua6 : un a6 = (p0 + p1 + p2 + p3) + 256 * ((p1 + p2 + p3 + p4) + 256 * ((p2 + p3 + p4 + p5) + 256 * ((p3 + p4 + p5 + p6) + 256 * ((p4 + p5 + p6 + p7) + 256 * ((p5 + p6 + p7) + 256 * ((p6 + p7) + 256 * (p7))))))) := by
    rw [← g14, un_ad (by rw [ua5, ub7]; exact b6l q0 q1 q2 q3 q4 q5 q6 q7), ua5, ub7]
    exact v6l
  have m4 : ∀ a b c e : Nat, a ≤ 8 → b ≤ 8 → c ≤ 8 → e ≤ 8 → a + b + c + e < 256 := fun a b c e h1 h2 h3 h4 => by omega
  have ua7 : un a7 = (p4 + p5 + p6 + p7) + 256 * ((p5 + p6 + p7) + 256 * ((p6 + p7) + 256 * (p7))) := by
    have h : un a7 = un a6 / 4294967296 := by rw [← g15]; exact un_lushr (n := 32) (by decide)
    rw [h, ua6]
    exact dv32 (m4 _ _ _ _ q0 q1 q2 q3) (m4 _ _ _ _ q1 q2 q3 q4) (m4 _ _ _ _ q2 q3 q4 q5) (m4 _ _ _ _ q3 q4 q5 q6)
  have s8 : p0 + p1 + p2 + p3 + p4 + p5 + p6 + p7 ≤ 64 := Nat.add_le_add (Nat.add_le_add (Nat.add_le_add (Nat.add_le_add (Nat.add_le_add (Nat.add_le_add (Nat.add_le_add q0 q1) q2) q3) q4) q5) q6) q7
  have f : un (n_wl (a6 + a7)) % 128 = p0 + p1 + p2 + p3 + p4 + p5 + p6 + p7 := by
    rw [un_am, ua6, ua7, v7l]
    exact fin8 s8
  rw [hc, ← un_m, ← f]
  exact un_n _
