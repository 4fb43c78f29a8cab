/-! Sets of rows as numbers; which acts keep them. -/
def bt (s n : Int) : Prop := s / 2 ^ n.toNat % 2 = 1
theorem bt_tb {s n : Nat} : bt (s : Int) (n : Int) ↔ s.testBit n = true := by
  unfold bt
  rw [Int.toNat_natCast, Nat.testBit_eq_decide_div_mod_eq]
  have e : (s : Int) / 2 ^ n % 2 = ((s / 2 ^ n % 2 : Nat) : Int) := by norm_cast
  rw [e]
  constructor
  · intro h
    exact decide_eq_true (by omega)
  · intro h
    have := of_decide_eq_true h
    omega
theorem bt_v (s n : Int) : (bt s n ∧ s / 2 ^ n.toNat % 2 = 1) ∨ (¬ bt s n ∧ s / 2 ^ n.toNat % 2 = 0) := by
  unfold bt
  omega
theorem lb_v {s n : Int} (hs : 0 ≤ s ∧ s ≤ 9223372036854775807) (hn : 0 ≤ n ∧ n ≤ 26) : n_land (n_lshr s n) 1 = s / 2 ^ n.toNat % 2 := by
  obtain ⟨t, rfl⟩ : ∃ t : Nat, s = t := ⟨s.toNat, by omega⟩
  obtain ⟨k, rfl⟩ : ∃ k : Nat, n = k := ⟨n.toNat, by omega⟩
  have hd : t / 2 ^ k ≤ t := Nat.div_le_self _ _
  have e1 : ((t : Int) / 2 ^ k) = ((t / 2 ^ k : Nat) : Int) := by norm_cast
  rw [n_lshr_n (by omega) (by omega), Int.toNat_natCast, e1, n_land_1 (by omega)]
  norm_cast
theorem n_shr_s : ∀ n : Nat, n ≤ 26 → ((Int32.ofInt n &&& 31).toBitVec.smod 32).toNat = n := by decide +kernel
theorem n_shr_n {x : Int} {n : Nat} (hn : n ≤ 26) (hx : 0 ≤ x ∧ x ≤ 2147483647) : n_shr x n = x / 2 ^ n := by
  have e : n_shr x n = ((Int32.ofInt x).toBitVec.sshiftRight ((Int32.ofInt n &&& 31).toBitVec.smod 32).toNat).toInt := rfl
  have e2 : (Int32.ofInt x).toBitVec.toInt = x := n_i32 (by omega)
  rw [e, n_shr_s n hn, BitVec.toInt_sshiftRight, e2, Int.shiftRight_eq_div_pow]
  norm_cast
theorem n_and_1 {x : Nat} (hx : x ≤ 2147483647) : n_and (x : Int) 1 = ((x % 2 : Nat) : Int) := by
  have e : n_and (x : Int) 1 = ((Int32.ofInt (x : Int)).toBitVec &&& (Int32.ofInt 1).toBitVec).toInt := rfl
  have e3 : ((Int32.ofInt (x : Int)).toBitVec &&& (Int32.ofInt 1).toBitVec).toNat = x % 2 := by
    rw [BitVec.toNat_and, n_bv (by omega), n_bv (by omega), Int.toNat_natCast]
    exact Nat.and_one_is_mod x
  rw [e, BitVec.toInt_eq_toNat_of_lt (by omega), e3]
theorem ib_v {s n : Int} (hs : 0 ≤ s ∧ s ≤ 2147483647) (hn : 0 ≤ n ∧ n ≤ 26) : n_and (n_shr s n) 1 = s / 2 ^ n.toNat % 2 := by
  obtain ⟨t, rfl⟩ : ∃ t : Nat, s = t := ⟨s.toNat, by omega⟩
  obtain ⟨k, rfl⟩ : ∃ k : Nat, n = k := ⟨n.toNat, by omega⟩
  have hd : t / 2 ^ k ≤ t := Nat.div_le_self _ _
  have e1 : ((t : Int) / 2 ^ k) = ((t / 2 ^ k : Nat) : Int) := by norm_cast
  rw [n_shr_n (by omega) (by omega), Int.toNat_natCast, e1, n_and_1 (by omega)]
  norm_cast
theorem bt_or {s r y : Int} (hs : 0 ≤ s ∧ s ≤ 134217727) (hr : 0 ≤ r ∧ r ≤ 26) (hy : 0 ≤ y) : bt (n_or s (n_shl 1 r)) y ↔ (bt s y ∨ y = r) := by
  obtain ⟨t, rfl⟩ : ∃ t : Nat, s = t := ⟨s.toNat, by omega⟩
  obtain ⟨n, rfl⟩ : ∃ n : Nat, r = n := ⟨r.toNat, by omega⟩
  obtain ⟨m, rfl⟩ : ∃ m : Nat, y = m := ⟨y.toNat, by omega⟩
  have hp : 2 ^ n < 2 ^ 27 := Nat.pow_lt_pow_right (by omega) (by omega)
  have e1 : n_shl 1 (n : Int) = ((2 ^ n : Nat) : Int) := by
    rw [n_shl_a n (by omega)]
    norm_cast
  have ht : t < 2 ^ 27 := by omega
  rw [e1, n_or_n ht hp, bt_tb, bt_tb, Nat.testBit_or, Nat.testBit_two_pow, Bool.or_eq_true]
  constructor
  · rintro (h | h)
    · exact Or.inl h
    · have := of_decide_eq_true h
      exact Or.inr (by omega)
  · rintro (h | h)
    · exact Or.inl h
    · exact Or.inr (decide_eq_true (by omega))
theorem bt_0 (y : Int) : ¬ bt 0 y := by
  unfold bt
  rw [Int.zero_ediv]
  omega
theorem bt_ext {s t : Int} (hs : 0 ≤ s ∧ s ≤ 134217727) (ht : 0 ≤ t ∧ t ≤ 134217727) (h : ∀ y : Int, 0 ≤ y → y ≤ 26 → (bt s y ↔ bt t y)) : s = t := by
  obtain ⟨a, rfl⟩ : ∃ a : Nat, s = a := ⟨s.toNat, by omega⟩
  obtain ⟨b, rfl⟩ : ∃ b : Nat, t = b := ⟨t.toNat, by omega⟩
  have e : a = b := by
    refine Nat.eq_of_testBit_eq (fun i => ?_)
    by_cases hi : i ≤ 26
    · have q := h i (by omega) (by omega)
      rw [bt_tb, bt_tb] at q
      by_cases t : a.testBit i = true
      · rw [t, q.mp t]
      · rw [eq_false_of_ne_true t, eq_false_of_ne_true (fun w => t (q.mpr w))]
    · have p : 2 ^ 27 ≤ 2 ^ i := Nat.pow_le_pow_right (by omega) (by omega)
      rw [Nat.testBit_lt_two_pow (by omega), Nat.testBit_lt_two_pow (by omega)]
  rw [e]
/-- where an act of m places tells for three things; what it makes of rows of k things -/
def ix (d m a b c : Int) : Int := if m = 1 then a else if m = 2 then a * d + b else (a * d + b) * d + c
def im (d m : Int) (f : Int → Int) (k x y z : Int) : Int := if k = 1 then f (ix d m (x % d) (y % d) (z % d)) else if k = 2 then f (ix d m (x / d % d) (y / d % d) (z / d % d)) * d + f (ix d m (x % d) (y % d) (z % d)) else (f (ix d m (x / (d * d) % d) (y / (d * d) % d) (z / (d * d) % d)) * d + f (ix d m (x / d % d) (y / d % d) (z / d % d))) * d + f (ix d m (x % d) (y % d) (z % d))
def inS (d k s x : Int) : Prop := 0 ≤ x ∧ x < pw d k ∧ bt s x
def KP (d m : Int) (f : Int → Int) (k s : Int) : Prop := ∀ x y z : Int, inS d k s x → (1 < m → inS d k s y) → (2 < m → inS d k s z) → bt s (im d m f k x y z)
def ly (m r : Int) : Int := if 1 < m then r else 1
def lz (m r : Int) : Int := if 2 < m then r else 1
def KT (d m : Int) (f : Int → Int) (k s x y z : Int) : Prop := bt s x → (1 < m → bt s y) → (2 < m → bt s z) → bt s (im d m f k x y z)
def K3 (d m : Int) (f : Int → Int) (k s x y n : Int) : Prop := ∀ z : Int, 0 ≤ z → z < n → KT d m f k s x y z
def K2 (d m : Int) (f : Int → Int) (k s x n : Int) : Prop := ∀ y z : Int, 0 ≤ y → y < n → 0 ≤ z → z < lz m (pw d k) → KT d m f k s x y z
def K1 (d m : Int) (f : Int → Int) (k s n : Int) : Prop := ∀ x y z : Int, 0 ≤ x → x < n → 0 ≤ y → y < ly m (pw d k) → 0 ≤ z → z < lz m (pw d k) → KT d m f k s x y z
section
variable {d m k s x y n : Int} {f : Int → Int}
theorem K3.step (h : K3 d m f k s x y n) (q : KT d m f k s x y n) : K3 d m f k s x y (n + 1) := fun z h0 h1 => by
  by_cases e : z = n
  · rw [e]
    exact q
  · exact h z h0 (by omega)
theorem K2.step {u : Int} (h : K2 d m f k s x n) (q : K3 d m f k s x n u) (hu : lz m (pw d k) ≤ u) : K2 d m f k s x (n + 1) := fun y z h0 h1 h2 h3 => by
  by_cases e : y = n
  · rw [e]
    exact q z h2 (by omega)
  · exact h y z h0 (by omega) h2 h3
theorem K2.skip (h : K2 d m f k s x n) (q : 1 < m ∧ ¬ bt s n) : K2 d m f k s x (n + 1) := fun y z h0 h1 h2 h3 => by
  by_cases e : y = n
  · rw [e]
    exact fun _ a _ => absurd (a q.1) q.2
  · exact h y z h0 (by omega) h2 h3
theorem K1.step {u : Int} (h : K1 d m f k s n) (q : K2 d m f k s n u) (hu : ly m (pw d k) ≤ u) : K1 d m f k s (n + 1) := fun x y z h0 h1 h2 h3 h4 h5 => by
  by_cases e : x = n
  · rw [e]
    exact q y z h2 (by omega) h4 h5
  · exact h x y z h0 (by omega) h2 h3 h4 h5
theorem K1.skip (h : K1 d m f k s n) (q : ¬ bt s n) : K1 d m f k s (n + 1) := fun x y z h0 h1 h2 h3 h4 h5 => by
  by_cases e : x = n
  · rw [e]
    exact fun a _ _ => absurd a q
  · exact h x y z h0 (by omega) h2 h3 h4 h5
theorem im_1 {y z y' z' : Int} : im d 1 f k x y z = im d 1 f k x y' z' := rfl
theorem im_2 {y z z' : Int} : im d 2 f k x y z = im d 2 f k x y z' := rfl
theorem K1.all (hm : 1 ≤ m ∧ m ≤ 3) (hk : 2 ≤ pw d k) (h : K1 d m f k s n) (hn : pw d k ≤ n) : KP d m f k s := fun x y z hx hy hz => by
  rcases (show m = 1 ∨ m = 2 ∨ m = 3 by omega) with rfl | rfl | rfl
  · exact h x 0 0 hx.1 (by have := hx.2.1; omega) (by omega) (by show (0 : Int) < 1; omega) (by omega) (by show (0 : Int) < 1; omega) hx.2.2 (fun q => by omega) (fun q => by omega)
  · obtain ⟨y0, y1, y2⟩ := hy (by omega)
    exact h x y 0 hx.1 (by have := hx.2.1; omega) y0 y1 (by omega) (by show (0 : Int) < 1; omega) hx.2.2 (fun _ => y2) (fun q => by omega)
  · obtain ⟨y0, y1, y2⟩ := hy (by omega)
    obtain ⟨z0, z1, z2⟩ := hz (by omega)
    exact h x y z hx.1 (by have := hx.2.1; omega) y0 y1 z0 z1 hx.2.2 (fun _ => y2) (fun _ => z2)
theorem ly_e (h : y < ly m (pw d k)) : 1 < m → y < pw d k := fun q => by
  unfold ly at h
  rw [if_pos q] at h
  exact h
theorem lz_e (h : y < lz m (pw d k)) : 2 < m → y < pw d k := fun q => by
  unfold lz at h
  rw [if_pos q] at h
  exact h
end
/-- what a search for what a law loses finds: nothing, or a row that is made of rows of it and is not in it -/
def ESC (d m : Int) (f : Int → Int) (k s z : Int) : Prop := (z = -1 ∧ KP d m f k s) ∨ (0 ≤ z ∧ ¬ bt s z ∧ ∃ x y w : Int, inS d k s x ∧ (1 < m → inS d k s y) ∧ (2 < m → inS d k s w) ∧ z = im d m f k x y w)
theorem ESC.n {d m k s z : Int} {f : Int → Int} (h : ESC d m f k s z) : bb (KP d m f k s) = if z = -1 then 1 else 0 := by
  rcases h with ⟨rfl, h⟩ | ⟨h0, h1, x, y, w, hx, hy, hw, e⟩
  · rw [if_pos rfl]
    exact bb_t h
  · rw [if_neg (by omega)]
    refine bb_f (fun q => h1 ?_)
    rw [e]
    exact q x y w hx hy hw
def AKP (d : Int) (M : nM) (k s : Int) : Prop := ∀ a : Int, 0 ≤ a → a < M 112 4 → KP d (M 116 a) (fun i => M 117 (27 * a + i)) k s
