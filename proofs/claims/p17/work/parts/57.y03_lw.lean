/-! Laws as the class holds them: rows of three things, in a list and as a set. -/
def wd (d k n : Int) : Int := if k = 1 then n * (d * d + d + 1) else if k = 2 then n * d + n % d else n
def pcn (s : Int) : Nat → Int
  | 0 => 0
  | n + 1 => pcn s n + s / 2 ^ n % 2
theorem pcn_r (s : Int) : ∀ n : Nat, 0 ≤ pcn s n ∧ pcn s n ≤ n := by
  intro n
  induction n with
  | zero => exact ⟨by show (0 : Int) ≤ 0; omega, by show (0 : Int) ≤ 0; omega⟩
  | succ n ih =>
    have e : pcn s (n + 1) = pcn s n + s / 2 ^ n % 2 := rfl
    rw [e]
    omega
theorem pcn_s {s x : Int} (h : 0 ≤ x) : pcn s (x + 1).toNat = pcn s x.toNat + s / 2 ^ x.toNat % 2 := by
  obtain ⟨n, rfl⟩ : ∃ n : Nat, x = n := ⟨x.toNat, by omega⟩
  have e : ((n : Int) + 1).toNat = n + 1 := by omega
  rw [e, Int.toNat_natCast]
  rfl
theorem wd_r {d k n : Int} (hd : d = 2 ∨ d = 3) (hk : 1 ≤ k ∧ k ≤ 3) (hn : 0 ≤ n ∧ n < pw d k) : 0 ≤ wd d k n ∧ wd d k n < d * d * d ∧ wd d k n ≤ 26 := by
  rcases hd with rfl | rfl <;> rcases (show k = 1 ∨ k = 2 ∨ k = 3 by omega) with rfl | rfl | rfl
  · have hn : 0 ≤ n ∧ n < 2 := hn
    show 0 ≤ n * 7 ∧ n * 7 < 8 ∧ n * 7 ≤ 26
    omega
  · have hn : 0 ≤ n ∧ n < 4 := hn
    show 0 ≤ n * 2 + n % 2 ∧ n * 2 + n % 2 < 8 ∧ n * 2 + n % 2 ≤ 26
    omega
  · have hn : 0 ≤ n ∧ n < 8 := hn
    show 0 ≤ n ∧ n < 8 ∧ n ≤ 26
    omega
  · have hn : 0 ≤ n ∧ n < 3 := hn
    show 0 ≤ n * 13 ∧ n * 13 < 27 ∧ n * 13 ≤ 26
    omega
  · have hn : 0 ≤ n ∧ n < 9 := hn
    show 0 ≤ n * 3 + n % 3 ∧ n * 3 + n % 3 < 27 ∧ n * 3 + n % 3 ≤ 26
    omega
  · have hn : 0 ≤ n ∧ n < 27 := hn
    show 0 ≤ n ∧ n < 27 ∧ n ≤ 26
    omega
theorem wd_i {d k n m : Int} (hd : d = 2 ∨ d = 3) (hk : 1 ≤ k ∧ k ≤ 3) (hn : 0 ≤ n ∧ n < pw d k) (hm : 0 ≤ m ∧ m < pw d k) (h : wd d k n = wd d k m) : n = m := by
  rcases hd with rfl | rfl <;> rcases (show k = 1 ∨ k = 2 ∨ k = 3 by omega) with rfl | rfl | rfl
  · have hn : 0 ≤ n ∧ n < 2 := hn
    have hm : 0 ≤ m ∧ m < 2 := hm
    have h : n * 7 = m * 7 := h
    omega
  · have hn : 0 ≤ n ∧ n < 4 := hn
    have hm : 0 ≤ m ∧ m < 4 := hm
    have h : n * 2 + n % 2 = m * 2 + m % 2 := h
    omega
  · have hn : 0 ≤ n ∧ n < 8 := hn
    have hm : 0 ≤ m ∧ m < 8 := hm
    have h : n = m := h
    omega
  · have hn : 0 ≤ n ∧ n < 3 := hn
    have hm : 0 ≤ m ∧ m < 3 := hm
    have h : n * 13 = m * 13 := h
    omega
  · have hn : 0 ≤ n ∧ n < 9 := hn
    have hm : 0 ≤ m ∧ m < 9 := hm
    have h : n * 3 + n % 3 = m * 3 + m % 3 := h
    omega
  · have hn : 0 ≤ n ∧ n < 27 := hn
    have hm : 0 ≤ m ∧ m < 27 := hm
    have h : n = m := h
    omega
/-- the rows up to n of a set s are in the list r of c rows and in the set w -/
def LRn (d k s n w c : Int) (r : Int → Int) : Prop := c = pcn s n.toNat ∧ (0 ≤ w ∧ w ≤ 134217727) ∧ (∀ i : Int, 0 ≤ i → i < c → ∃ x : Int, 0 ≤ x ∧ x < n ∧ bt s x ∧ r i = wd d k x) ∧ (∀ x : Int, 0 ≤ x → x < n → bt s x → ∃ i : Int, 0 ≤ i ∧ i < c ∧ r i = wd d k x) ∧ (∀ y : Int, 0 ≤ y → y ≤ 26 → (bt w y ↔ ∃ x : Int, 0 ≤ x ∧ x < n ∧ bt s x ∧ y = wd d k x))
theorem LRn.init {d k s : Int} {r : Int → Int} : LRn d k s 0 0 0 r := ⟨rfl, by omega, fun i h0 h1 => by omega, fun x h0 h1 => by omega, fun y h0 h1 => ⟨fun h => absurd h (bt_0 y), fun ⟨x, x0, x1, _⟩ => by omega⟩⟩
theorem LRn.skip {d k s n w c : Int} {r : Int → Int} (h : LRn d k s n w c r) (hn : 0 ≤ n) (q : ¬ bt s n) : LRn d k s (n + 1) w c r := by
  obtain ⟨h1, h2, h3, h4, h5⟩ := h
  refine ⟨?_, h2, fun i i0 i1 => ?_, fun x x0 x1 hx => ?_, fun y y0 y1 => ⟨fun u => ?_, fun ⟨x, x0, x1, hx, e⟩ => ?_⟩⟩
  · rw [pcn_s hn, ← h1]
    rcases bt_v s n with ⟨u, -⟩ | ⟨-, u⟩
    · exact absurd u q
    · omega
  · obtain ⟨x, x0, x1, hx, e⟩ := h3 i i0 i1
    exact ⟨x, x0, by omega, hx, e⟩
  · by_cases e : x = n
    · rw [e] at hx
      exact absurd hx q
    · exact h4 x x0 (by omega) hx
  · obtain ⟨x, x0, x1, hx, e⟩ := (h5 y y0 y1).mp u
    exact ⟨x, x0, by omega, hx, e⟩
  · by_cases u : x = n
    · rw [u] at hx
      exact absurd hx q
    · exact (h5 y y0 y1).mpr ⟨x, x0, by omega, hx, e⟩
theorem LRn.add {d k s n w c w2 c2 : Int} {r r2 : Int → Int} (hd : d = 2 ∨ d = 3) (hk : 1 ≤ k ∧ k ≤ 3) (h : LRn d k s n w c r) (hn : 0 ≤ n ∧ n < pw d k) (q : bt s n) (a : (c < 27 ∧ ¬ bt w (wd d k n) ∧ c2 = c + 1 ∧ w2 = n_or w (n_shl 1 (wd d k n)) ∧ r2 c = wd d k n ∧ ∀ i : Int, i ≠ c → r2 i = r i) ∨ 27 ≤ c ∨ bt w (wd d k n)) : LRn d k s (n + 1) w2 c2 r2 := by
  obtain ⟨h1, h2, h3, h4, h5⟩ := h
  have wr := wd_r hd hk hn
  have hp := pw_r hd hk
  have hdd : d * d * d ≤ 27 := hp.2.2
  rcases a with ⟨a1, a2, a3, a4, a5, a6⟩ | a | a
  · have pc := pcn_r s n.toNat
    refine ⟨?_, ?_, fun i i0 i1 => ?_, fun x x0 x1 hx => ?_, fun y y0 y1 => ?_⟩
    · rw [pcn_s hn.1, ← h1, a3]
      unfold bt at q
      rw [q]
    · rw [a4]
      exact (n_or_bit27 h2 (by omega)).1
    · by_cases e : i = c
      · exact ⟨n, hn.1, by omega, q, by rw [e]; exact a5⟩
      · obtain ⟨x, x0, x1, hx, u⟩ := h3 i i0 (by omega)
        exact ⟨x, x0, by omega, hx, by rw [a6 i e]; exact u⟩
    · by_cases e : x = n
      · exact ⟨c, by omega, by omega, by rw [e]; exact a5⟩
      · obtain ⟨i, i0, i1, u⟩ := h4 x x0 (by omega) hx
        exact ⟨i, i0, by omega, by rw [a6 i (by omega)]; exact u⟩
    · rw [a4, bt_or h2 (by omega) y0, h5 y y0 y1]
      constructor
      · rintro (⟨x, x0, x1, hx, e⟩ | e)
        · exact ⟨x, x0, by omega, hx, e⟩
        · exact ⟨n, hn.1, by omega, q, e⟩
      · rintro ⟨x, x0, x1, hx, e⟩
        by_cases u : x = n
        · exact Or.inr (by rw [e, u])
        · exact Or.inl ⟨x, x0, by omega, hx, e⟩
  · have pc := pcn_r s n.toNat
    omega
  · obtain ⟨x, x0, x1, hx, e⟩ := (h5 _ wr.1 wr.2.2).mp a
    have := wd_i hd hk hn ⟨x0, by omega⟩ e
    omega
theorem LRn.of {d k s n w c : Int} {r r2 : Int → Int} (h : LRn d k s n w c r) (e : ∀ i : Int, 0 ≤ i → r2 i = r i) : LRn d k s n w c r2 := by
  obtain ⟨h1, h2, h3, h4, h5⟩ := h
  refine ⟨h1, h2, fun i i0 i1 => ?_, fun x x0 x1 hx => ?_, h5⟩
  · rw [e i i0]
    exact h3 i i0 i1
  · obtain ⟨i, i0, i1, u⟩ := h4 x x0 x1 hx
    exact ⟨i, i0, i1, by rw [e i i0]; exact u⟩
/-- what a line tells -/
def lin (d : Int) (T : Int → Int) (i j c : Int) : Int := T ((i / (d * d) * d + j / (d * d)) * d + c / (d * d)) * (d * d) + T ((i / d % d * d + j / d % d) * d + c / d % d) * d + T ((i % d * d + j % d) * d + c % d)
def tf (m q c : Int) : Int := if q ≤ m then c else if c ≤ 1 then c else 1
def KC (d m : Int) (T : Int → Int) (w c : Int) (r : Int → Int) : Prop := ∀ i j k : Int, 0 ≤ i → i < tf m 3 c → 0 ≤ j → j < tf m 2 c → 0 ≤ k → k < c → bt w (lin d T (r i) (r j) (r k))
theorem wq_21 {x : Int} (h : 0 ≤ x ∧ x < 2) : (x * 7) / (2 * 2) = x % 2 ∧ (x * 7) / 2 % 2 = x % 2 ∧ (x * 7) % 2 = x % 2 := by
  rcases (show x = 0 ∨ x = 1 by omega) with rfl | rfl <;> decide
theorem wq_22 {x : Int} (h : 0 ≤ x ∧ x < 4) : (x * 2 + x % 2) / (2 * 2) = x / 2 % 2 ∧ (x * 2 + x % 2) / 2 % 2 = x % 2 ∧ (x * 2 + x % 2) % 2 = x % 2 := by
  rcases (show x = 0 ∨ x = 1 ∨ x = 2 ∨ x = 3 by omega) with rfl | rfl | rfl | rfl <;> decide
theorem wq_31 {x : Int} (h : 0 ≤ x ∧ x < 3) : (x * 13) / (3 * 3) = x % 3 ∧ (x * 13) / 3 % 3 = x % 3 ∧ (x * 13) % 3 = x % 3 := by
  rcases (show x = 0 ∨ x = 1 ∨ x = 2 by omega) with rfl | rfl | rfl <;> decide
theorem wq_32 {x : Int} (h : 0 ≤ x ∧ x < 9) : (x * 3 + x % 3) / (3 * 3) = x / 3 % 3 ∧ (x * 3 + x % 3) / 3 % 3 = x % 3 ∧ (x * 3 + x % 3) % 3 = x % 3 := by
  rcases (show x = 0 ∨ x = 1 ∨ x = 2 ∨ x = 3 ∨ x = 4 ∨ x = 5 ∨ x = 6 ∨ x = 7 ∨ x = 8 by omega) with rfl | rfl | rfl | rfl | rfl | rfl | rfl | rfl | rfl <;> decide
theorem lw_211 {T f : Int → Int} {i j x y z : Int} (hT : ∀ i : Int, 0 ≤ i → i < 8 → T i = f (i % 2)) (hf : ∀ i : Int, 0 ≤ i → i < 2 → 0 ≤ f i ∧ f i < 2) (hx : 0 ≤ x ∧ x < 2) (hi : 0 ≤ i ∧ i < 8) (hj : 0 ≤ j ∧ j < 8) : lin 2 T i j (wd 2 1 x) = wd 2 1 (im 2 1 f 1 x y z) := by
  have a2 : T ((i / (2 * 2) * 2 + j / (2 * 2)) * 2 + (x * 7) / (2 * 2)) = f (x % 2) := by
    rw [(wq_21 hx).1]
    exact (hT _ (by omega) (by omega)).trans (congrArg f (by omega))
  have a1 : T ((i / 2 % 2 * 2 + j / 2 % 2) * 2 + (x * 7) / 2 % 2) = f (x % 2) := by
    rw [(wq_21 hx).2.1]
    exact (hT _ (by omega) (by omega)).trans (congrArg f (by omega))
  have a0 : T ((i % 2 * 2 + j % 2) * 2 + (x * 7) % 2) = f (x % 2) := by
    rw [(wq_21 hx).2.2]
    exact (hT _ (by omega) (by omega)).trans (congrArg f (by omega))
  have b0 := hf (x % 2) (by omega) (by omega)
  show T ((i / (2 * 2) * 2 + j / (2 * 2)) * 2 + (x * 7) / (2 * 2)) * (2 * 2) + T ((i / 2 % 2 * 2 + j / 2 % 2) * 2 + (x * 7) / 2 % 2) * 2 + T ((i % 2 * 2 + j % 2) * 2 + (x * 7) % 2) = f (x % 2) * (2 * 2 + 2 + 1)
  rw [a2, a1, a0]
  omega
theorem ir_211 {f : Int → Int} {x y z : Int} (hf : ∀ i : Int, 0 ≤ i → i < 2 → 0 ≤ f i ∧ f i < 2) (hx : 0 ≤ x ∧ x < 2) : 0 ≤ im 2 1 f 1 x y z ∧ im 2 1 f 1 x y z < 2 := by
  have b0 := hf (x % 2) (by omega) (by omega)
  show 0 ≤ f (x % 2) ∧ f (x % 2) < 2
  omega
theorem lw_212 {T f : Int → Int} {i x y z : Int} (hT : ∀ i : Int, 0 ≤ i → i < 8 → T i = f (i % 4)) (hf : ∀ i : Int, 0 ≤ i → i < 4 → 0 ≤ f i ∧ f i < 2) (hx : 0 ≤ x ∧ x < 2) (hy : 0 ≤ y ∧ y < 2) (hi : 0 ≤ i ∧ i < 8) : lin 2 T i (wd 2 1 x) (wd 2 1 y) = wd 2 1 (im 2 2 f 1 x y z) := by
  have a2 : T ((i / (2 * 2) * 2 + (x * 7) / (2 * 2)) * 2 + (y * 7) / (2 * 2)) = f (x % 2 * 2 + y % 2) := by
    rw [(wq_21 hx).1, (wq_21 hy).1]
    exact (hT _ (by omega) (by omega)).trans (congrArg f (by omega))
  have a1 : T ((i / 2 % 2 * 2 + (x * 7) / 2 % 2) * 2 + (y * 7) / 2 % 2) = f (x % 2 * 2 + y % 2) := by
    rw [(wq_21 hx).2.1, (wq_21 hy).2.1]
    exact (hT _ (by omega) (by omega)).trans (congrArg f (by omega))
  have a0 : T ((i % 2 * 2 + (x * 7) % 2) * 2 + (y * 7) % 2) = f (x % 2 * 2 + y % 2) := by
    rw [(wq_21 hx).2.2, (wq_21 hy).2.2]
    exact (hT _ (by omega) (by omega)).trans (congrArg f (by omega))
  have b0 := hf (x % 2 * 2 + y % 2) (by omega) (by omega)
  show T ((i / (2 * 2) * 2 + (x * 7) / (2 * 2)) * 2 + (y * 7) / (2 * 2)) * (2 * 2) + T ((i / 2 % 2 * 2 + (x * 7) / 2 % 2) * 2 + (y * 7) / 2 % 2) * 2 + T ((i % 2 * 2 + (x * 7) % 2) * 2 + (y * 7) % 2) = f (x % 2 * 2 + y % 2) * (2 * 2 + 2 + 1)
  rw [a2, a1, a0]
  omega
theorem ir_212 {f : Int → Int} {x y z : Int} (hf : ∀ i : Int, 0 ≤ i → i < 4 → 0 ≤ f i ∧ f i < 2) (hx : 0 ≤ x ∧ x < 2) (hy : 0 ≤ y ∧ y < 2) : 0 ≤ im 2 2 f 1 x y z ∧ im 2 2 f 1 x y z < 2 := by
  have b0 := hf (x % 2 * 2 + y % 2) (by omega) (by omega)
  show 0 ≤ f (x % 2 * 2 + y % 2) ∧ f (x % 2 * 2 + y % 2) < 2
  omega
theorem lw_213 {T f : Int → Int} {x y z : Int} (hT : ∀ i : Int, 0 ≤ i → i < 8 → T i = f (i % 8)) (hf : ∀ i : Int, 0 ≤ i → i < 8 → 0 ≤ f i ∧ f i < 2) (hx : 0 ≤ x ∧ x < 2) (hy : 0 ≤ y ∧ y < 2) (hz : 0 ≤ z ∧ z < 2) : lin 2 T (wd 2 1 x) (wd 2 1 y) (wd 2 1 z) = wd 2 1 (im 2 3 f 1 x y z) := by
  have a2 : T (((x * 7) / (2 * 2) * 2 + (y * 7) / (2 * 2)) * 2 + (z * 7) / (2 * 2)) = f ((x % 2 * 2 + y % 2) * 2 + z % 2) := by
    rw [(wq_21 hx).1, (wq_21 hy).1, (wq_21 hz).1]
    exact (hT _ (by omega) (by omega)).trans (congrArg f (by omega))
  have a1 : T (((x * 7) / 2 % 2 * 2 + (y * 7) / 2 % 2) * 2 + (z * 7) / 2 % 2) = f ((x % 2 * 2 + y % 2) * 2 + z % 2) := by
    rw [(wq_21 hx).2.1, (wq_21 hy).2.1, (wq_21 hz).2.1]
    exact (hT _ (by omega) (by omega)).trans (congrArg f (by omega))
  have a0 : T (((x * 7) % 2 * 2 + (y * 7) % 2) * 2 + (z * 7) % 2) = f ((x % 2 * 2 + y % 2) * 2 + z % 2) := by
    rw [(wq_21 hx).2.2, (wq_21 hy).2.2, (wq_21 hz).2.2]
    exact (hT _ (by omega) (by omega)).trans (congrArg f (by omega))
  have b0 := hf ((x % 2 * 2 + y % 2) * 2 + z % 2) (by omega) (by omega)
  show T (((x * 7) / (2 * 2) * 2 + (y * 7) / (2 * 2)) * 2 + (z * 7) / (2 * 2)) * (2 * 2) + T (((x * 7) / 2 % 2 * 2 + (y * 7) / 2 % 2) * 2 + (z * 7) / 2 % 2) * 2 + T (((x * 7) % 2 * 2 + (y * 7) % 2) * 2 + (z * 7) % 2) = f ((x % 2 * 2 + y % 2) * 2 + z % 2) * (2 * 2 + 2 + 1)
  rw [a2, a1, a0]
  omega
theorem ir_213 {f : Int → Int} {x y z : Int} (hf : ∀ i : Int, 0 ≤ i → i < 8 → 0 ≤ f i ∧ f i < 2) (hx : 0 ≤ x ∧ x < 2) (hy : 0 ≤ y ∧ y < 2) (hz : 0 ≤ z ∧ z < 2) : 0 ≤ im 2 3 f 1 x y z ∧ im 2 3 f 1 x y z < 2 := by
  have b0 := hf ((x % 2 * 2 + y % 2) * 2 + z % 2) (by omega) (by omega)
  show 0 ≤ f ((x % 2 * 2 + y % 2) * 2 + z % 2) ∧ f ((x % 2 * 2 + y % 2) * 2 + z % 2) < 2
  omega
theorem lw_221 {T f : Int → Int} {i j x y z : Int} (hT : ∀ i : Int, 0 ≤ i → i < 8 → T i = f (i % 2)) (hf : ∀ i : Int, 0 ≤ i → i < 2 → 0 ≤ f i ∧ f i < 2) (hx : 0 ≤ x ∧ x < 4) (hi : 0 ≤ i ∧ i < 8) (hj : 0 ≤ j ∧ j < 8) : lin 2 T i j (wd 2 2 x) = wd 2 2 (im 2 1 f 2 x y z) := by
  have a2 : T ((i / (2 * 2) * 2 + j / (2 * 2)) * 2 + (x * 2 + x % 2) / (2 * 2)) = f (x / 2 % 2) := by
    rw [(wq_22 hx).1]
    exact (hT _ (by omega) (by omega)).trans (congrArg f (by omega))
  have a1 : T ((i / 2 % 2 * 2 + j / 2 % 2) * 2 + (x * 2 + x % 2) / 2 % 2) = f (x % 2) := by
    rw [(wq_22 hx).2.1]
    exact (hT _ (by omega) (by omega)).trans (congrArg f (by omega))
  have a0 : T ((i % 2 * 2 + j % 2) * 2 + (x * 2 + x % 2) % 2) = f (x % 2) := by
    rw [(wq_22 hx).2.2]
    exact (hT _ (by omega) (by omega)).trans (congrArg f (by omega))
  have b0 := hf (x % 2) (by omega) (by omega)
  have b2 := hf (x / 2 % 2) (by omega) (by omega)
  show T ((i / (2 * 2) * 2 + j / (2 * 2)) * 2 + (x * 2 + x % 2) / (2 * 2)) * (2 * 2) + T ((i / 2 % 2 * 2 + j / 2 % 2) * 2 + (x * 2 + x % 2) / 2 % 2) * 2 + T ((i % 2 * 2 + j % 2) * 2 + (x * 2 + x % 2) % 2) = (f (x / 2 % 2) * 2 + f (x % 2)) * 2 + (f (x / 2 % 2) * 2 + f (x % 2)) % 2
  rw [a2, a1, a0]
  omega
theorem ir_221 {f : Int → Int} {x y z : Int} (hf : ∀ i : Int, 0 ≤ i → i < 2 → 0 ≤ f i ∧ f i < 2) (hx : 0 ≤ x ∧ x < 4) : 0 ≤ im 2 1 f 2 x y z ∧ im 2 1 f 2 x y z < 4 := by
  have b0 := hf (x % 2) (by omega) (by omega)
  have b2 := hf (x / 2 % 2) (by omega) (by omega)
  show 0 ≤ f (x / 2 % 2) * 2 + f (x % 2) ∧ f (x / 2 % 2) * 2 + f (x % 2) < 4
  omega
theorem lw_222 {T f : Int → Int} {i x y z : Int} (hT : ∀ i : Int, 0 ≤ i → i < 8 → T i = f (i % 4)) (hf : ∀ i : Int, 0 ≤ i → i < 4 → 0 ≤ f i ∧ f i < 2) (hx : 0 ≤ x ∧ x < 4) (hy : 0 ≤ y ∧ y < 4) (hi : 0 ≤ i ∧ i < 8) : lin 2 T i (wd 2 2 x) (wd 2 2 y) = wd 2 2 (im 2 2 f 2 x y z) := by
  have a2 : T ((i / (2 * 2) * 2 + (x * 2 + x % 2) / (2 * 2)) * 2 + (y * 2 + y % 2) / (2 * 2)) = f (x / 2 % 2 * 2 + y / 2 % 2) := by
    rw [(wq_22 hx).1, (wq_22 hy).1]
    exact (hT _ (by omega) (by omega)).trans (congrArg f (by omega))
  have a1 : T ((i / 2 % 2 * 2 + (x * 2 + x % 2) / 2 % 2) * 2 + (y * 2 + y % 2) / 2 % 2) = f (x % 2 * 2 + y % 2) := by
    rw [(wq_22 hx).2.1, (wq_22 hy).2.1]
    exact (hT _ (by omega) (by omega)).trans (congrArg f (by omega))
  have a0 : T ((i % 2 * 2 + (x * 2 + x % 2) % 2) * 2 + (y * 2 + y % 2) % 2) = f (x % 2 * 2 + y % 2) := by
    rw [(wq_22 hx).2.2, (wq_22 hy).2.2]
    exact (hT _ (by omega) (by omega)).trans (congrArg f (by omega))
  have b0 := hf (x % 2 * 2 + y % 2) (by omega) (by omega)
  have b2 := hf (x / 2 % 2 * 2 + y / 2 % 2) (by omega) (by omega)
  show T ((i / (2 * 2) * 2 + (x * 2 + x % 2) / (2 * 2)) * 2 + (y * 2 + y % 2) / (2 * 2)) * (2 * 2) + T ((i / 2 % 2 * 2 + (x * 2 + x % 2) / 2 % 2) * 2 + (y * 2 + y % 2) / 2 % 2) * 2 + T ((i % 2 * 2 + (x * 2 + x % 2) % 2) * 2 + (y * 2 + y % 2) % 2) = (f (x / 2 % 2 * 2 + y / 2 % 2) * 2 + f (x % 2 * 2 + y % 2)) * 2 + (f (x / 2 % 2 * 2 + y / 2 % 2) * 2 + f (x % 2 * 2 + y % 2)) % 2
  rw [a2, a1, a0]
  omega
theorem ir_222 {f : Int → Int} {x y z : Int} (hf : ∀ i : Int, 0 ≤ i → i < 4 → 0 ≤ f i ∧ f i < 2) (hx : 0 ≤ x ∧ x < 4) (hy : 0 ≤ y ∧ y < 4) : 0 ≤ im 2 2 f 2 x y z ∧ im 2 2 f 2 x y z < 4 := by
  have b0 := hf (x % 2 * 2 + y % 2) (by omega) (by omega)
  have b2 := hf (x / 2 % 2 * 2 + y / 2 % 2) (by omega) (by omega)
  show 0 ≤ f (x / 2 % 2 * 2 + y / 2 % 2) * 2 + f (x % 2 * 2 + y % 2) ∧ f (x / 2 % 2 * 2 + y / 2 % 2) * 2 + f (x % 2 * 2 + y % 2) < 4
  omega
theorem lw_223 {T f : Int → Int} {x y z : Int} (hT : ∀ i : Int, 0 ≤ i → i < 8 → T i = f (i % 8)) (hf : ∀ i : Int, 0 ≤ i → i < 8 → 0 ≤ f i ∧ f i < 2) (hx : 0 ≤ x ∧ x < 4) (hy : 0 ≤ y ∧ y < 4) (hz : 0 ≤ z ∧ z < 4) : lin 2 T (wd 2 2 x) (wd 2 2 y) (wd 2 2 z) = wd 2 2 (im 2 3 f 2 x y z) := by
  have a2 : T (((x * 2 + x % 2) / (2 * 2) * 2 + (y * 2 + y % 2) / (2 * 2)) * 2 + (z * 2 + z % 2) / (2 * 2)) = f ((x / 2 % 2 * 2 + y / 2 % 2) * 2 + z / 2 % 2) := by
    rw [(wq_22 hx).1, (wq_22 hy).1, (wq_22 hz).1]
    exact (hT _ (by omega) (by omega)).trans (congrArg f (by omega))
  have a1 : T (((x * 2 + x % 2) / 2 % 2 * 2 + (y * 2 + y % 2) / 2 % 2) * 2 + (z * 2 + z % 2) / 2 % 2) = f ((x % 2 * 2 + y % 2) * 2 + z % 2) := by
    rw [(wq_22 hx).2.1, (wq_22 hy).2.1, (wq_22 hz).2.1]
    exact (hT _ (by omega) (by omega)).trans (congrArg f (by omega))
  have a0 : T (((x * 2 + x % 2) % 2 * 2 + (y * 2 + y % 2) % 2) * 2 + (z * 2 + z % 2) % 2) = f ((x % 2 * 2 + y % 2) * 2 + z % 2) := by
    rw [(wq_22 hx).2.2, (wq_22 hy).2.2, (wq_22 hz).2.2]
    exact (hT _ (by omega) (by omega)).trans (congrArg f (by omega))
  have b0 := hf ((x % 2 * 2 + y % 2) * 2 + z % 2) (by omega) (by omega)
  have b2 := hf ((x / 2 % 2 * 2 + y / 2 % 2) * 2 + z / 2 % 2) (by omega) (by omega)
  show T (((x * 2 + x % 2) / (2 * 2) * 2 + (y * 2 + y % 2) / (2 * 2)) * 2 + (z * 2 + z % 2) / (2 * 2)) * (2 * 2) + T (((x * 2 + x % 2) / 2 % 2 * 2 + (y * 2 + y % 2) / 2 % 2) * 2 + (z * 2 + z % 2) / 2 % 2) * 2 + T (((x * 2 + x % 2) % 2 * 2 + (y * 2 + y % 2) % 2) * 2 + (z * 2 + z % 2) % 2) = (f ((x / 2 % 2 * 2 + y / 2 % 2) * 2 + z / 2 % 2) * 2 + f ((x % 2 * 2 + y % 2) * 2 + z % 2)) * 2 + (f ((x / 2 % 2 * 2 + y / 2 % 2) * 2 + z / 2 % 2) * 2 + f ((x % 2 * 2 + y % 2) * 2 + z % 2)) % 2
  rw [a2, a1, a0]
  omega
theorem ir_223 {f : Int → Int} {x y z : Int} (hf : ∀ i : Int, 0 ≤ i → i < 8 → 0 ≤ f i ∧ f i < 2) (hx : 0 ≤ x ∧ x < 4) (hy : 0 ≤ y ∧ y < 4) (hz : 0 ≤ z ∧ z < 4) : 0 ≤ im 2 3 f 2 x y z ∧ im 2 3 f 2 x y z < 4 := by
  have b0 := hf ((x % 2 * 2 + y % 2) * 2 + z % 2) (by omega) (by omega)
  have b2 := hf ((x / 2 % 2 * 2 + y / 2 % 2) * 2 + z / 2 % 2) (by omega) (by omega)
  show 0 ≤ f ((x / 2 % 2 * 2 + y / 2 % 2) * 2 + z / 2 % 2) * 2 + f ((x % 2 * 2 + y % 2) * 2 + z % 2) ∧ f ((x / 2 % 2 * 2 + y / 2 % 2) * 2 + z / 2 % 2) * 2 + f ((x % 2 * 2 + y % 2) * 2 + z % 2) < 4
  omega
theorem lw_231 {T f : Int → Int} {i j x y z : Int} (hT : ∀ i : Int, 0 ≤ i → i < 8 → T i = f (i % 2)) (hf : ∀ i : Int, 0 ≤ i → i < 2 → 0 ≤ f i ∧ f i < 2) (hx : 0 ≤ x ∧ x < 8) (hi : 0 ≤ i ∧ i < 8) (hj : 0 ≤ j ∧ j < 8) : lin 2 T i j (wd 2 3 x) = wd 2 3 (im 2 1 f 3 x y z) := by
  have a2 : T ((i / (2 * 2) * 2 + j / (2 * 2)) * 2 + x / (2 * 2)) = f (x / (2 * 2) % 2) := (hT _ (by omega) (by omega)).trans (congrArg f (by omega))
  have a1 : T ((i / 2 % 2 * 2 + j / 2 % 2) * 2 + x / 2 % 2) = f (x / 2 % 2) := (hT _ (by omega) (by omega)).trans (congrArg f (by omega))
  have a0 : T ((i % 2 * 2 + j % 2) * 2 + x % 2) = f (x % 2) := (hT _ (by omega) (by omega)).trans (congrArg f (by omega))
  have b0 := hf (x % 2) (by omega) (by omega)
  have b1 := hf (x / 2 % 2) (by omega) (by omega)
  have b2 := hf (x / (2 * 2) % 2) (by omega) (by omega)
  show T ((i / (2 * 2) * 2 + j / (2 * 2)) * 2 + x / (2 * 2)) * (2 * 2) + T ((i / 2 % 2 * 2 + j / 2 % 2) * 2 + x / 2 % 2) * 2 + T ((i % 2 * 2 + j % 2) * 2 + x % 2) = (f (x / (2 * 2) % 2) * 2 + f (x / 2 % 2)) * 2 + f (x % 2)
  rw [a2, a1, a0]
  omega
theorem ir_231 {f : Int → Int} {x y z : Int} (hf : ∀ i : Int, 0 ≤ i → i < 2 → 0 ≤ f i ∧ f i < 2) (hx : 0 ≤ x ∧ x < 8) : 0 ≤ im 2 1 f 3 x y z ∧ im 2 1 f 3 x y z < 8 := by
  have b0 := hf (x % 2) (by omega) (by omega)
  have b1 := hf (x / 2 % 2) (by omega) (by omega)
  have b2 := hf (x / (2 * 2) % 2) (by omega) (by omega)
  show 0 ≤ (f (x / (2 * 2) % 2) * 2 + f (x / 2 % 2)) * 2 + f (x % 2) ∧ (f (x / (2 * 2) % 2) * 2 + f (x / 2 % 2)) * 2 + f (x % 2) < 8
  omega
theorem lw_232 {T f : Int → Int} {i x y z : Int} (hT : ∀ i : Int, 0 ≤ i → i < 8 → T i = f (i % 4)) (hf : ∀ i : Int, 0 ≤ i → i < 4 → 0 ≤ f i ∧ f i < 2) (hx : 0 ≤ x ∧ x < 8) (hy : 0 ≤ y ∧ y < 8) (hi : 0 ≤ i ∧ i < 8) : lin 2 T i (wd 2 3 x) (wd 2 3 y) = wd 2 3 (im 2 2 f 3 x y z) := by
  have a2 : T ((i / (2 * 2) * 2 + x / (2 * 2)) * 2 + y / (2 * 2)) = f (x / (2 * 2) % 2 * 2 + y / (2 * 2) % 2) := (hT _ (by omega) (by omega)).trans (congrArg f (by omega))
  have a1 : T ((i / 2 % 2 * 2 + x / 2 % 2) * 2 + y / 2 % 2) = f (x / 2 % 2 * 2 + y / 2 % 2) := (hT _ (by omega) (by omega)).trans (congrArg f (by omega))
  have a0 : T ((i % 2 * 2 + x % 2) * 2 + y % 2) = f (x % 2 * 2 + y % 2) := (hT _ (by omega) (by omega)).trans (congrArg f (by omega))
  have b0 := hf (x % 2 * 2 + y % 2) (by omega) (by omega)
  have b1 := hf (x / 2 % 2 * 2 + y / 2 % 2) (by omega) (by omega)
  have b2 := hf (x / (2 * 2) % 2 * 2 + y / (2 * 2) % 2) (by omega) (by omega)
  show T ((i / (2 * 2) * 2 + x / (2 * 2)) * 2 + y / (2 * 2)) * (2 * 2) + T ((i / 2 % 2 * 2 + x / 2 % 2) * 2 + y / 2 % 2) * 2 + T ((i % 2 * 2 + x % 2) * 2 + y % 2) = (f (x / (2 * 2) % 2 * 2 + y / (2 * 2) % 2) * 2 + f (x / 2 % 2 * 2 + y / 2 % 2)) * 2 + f (x % 2 * 2 + y % 2)
  rw [a2, a1, a0]
  omega
theorem ir_232 {f : Int → Int} {x y z : Int} (hf : ∀ i : Int, 0 ≤ i → i < 4 → 0 ≤ f i ∧ f i < 2) (hx : 0 ≤ x ∧ x < 8) (hy : 0 ≤ y ∧ y < 8) : 0 ≤ im 2 2 f 3 x y z ∧ im 2 2 f 3 x y z < 8 := by
  have b0 := hf (x % 2 * 2 + y % 2) (by omega) (by omega)
  have b1 := hf (x / 2 % 2 * 2 + y / 2 % 2) (by omega) (by omega)
  have b2 := hf (x / (2 * 2) % 2 * 2 + y / (2 * 2) % 2) (by omega) (by omega)
  show 0 ≤ (f (x / (2 * 2) % 2 * 2 + y / (2 * 2) % 2) * 2 + f (x / 2 % 2 * 2 + y / 2 % 2)) * 2 + f (x % 2 * 2 + y % 2) ∧ (f (x / (2 * 2) % 2 * 2 + y / (2 * 2) % 2) * 2 + f (x / 2 % 2 * 2 + y / 2 % 2)) * 2 + f (x % 2 * 2 + y % 2) < 8
  omega
theorem lw_233 {T f : Int → Int} {x y z : Int} (hT : ∀ i : Int, 0 ≤ i → i < 8 → T i = f (i % 8)) (hf : ∀ i : Int, 0 ≤ i → i < 8 → 0 ≤ f i ∧ f i < 2) (hx : 0 ≤ x ∧ x < 8) (hy : 0 ≤ y ∧ y < 8) (hz : 0 ≤ z ∧ z < 8) : lin 2 T (wd 2 3 x) (wd 2 3 y) (wd 2 3 z) = wd 2 3 (im 2 3 f 3 x y z) := by
  have a2 : T ((x / (2 * 2) * 2 + y / (2 * 2)) * 2 + z / (2 * 2)) = f ((x / (2 * 2) % 2 * 2 + y / (2 * 2) % 2) * 2 + z / (2 * 2) % 2) := (hT _ (by omega) (by omega)).trans (congrArg f (by omega))
  have a1 : T ((x / 2 % 2 * 2 + y / 2 % 2) * 2 + z / 2 % 2) = f ((x / 2 % 2 * 2 + y / 2 % 2) * 2 + z / 2 % 2) := (hT _ (by omega) (by omega)).trans (congrArg f (by omega))
  have a0 : T ((x % 2 * 2 + y % 2) * 2 + z % 2) = f ((x % 2 * 2 + y % 2) * 2 + z % 2) := (hT _ (by omega) (by omega)).trans (congrArg f (by omega))
  have b0 := hf ((x % 2 * 2 + y % 2) * 2 + z % 2) (by omega) (by omega)
  have b1 := hf ((x / 2 % 2 * 2 + y / 2 % 2) * 2 + z / 2 % 2) (by omega) (by omega)
  have b2 := hf ((x / (2 * 2) % 2 * 2 + y / (2 * 2) % 2) * 2 + z / (2 * 2) % 2) (by omega) (by omega)
  show T ((x / (2 * 2) * 2 + y / (2 * 2)) * 2 + z / (2 * 2)) * (2 * 2) + T ((x / 2 % 2 * 2 + y / 2 % 2) * 2 + z / 2 % 2) * 2 + T ((x % 2 * 2 + y % 2) * 2 + z % 2) = (f ((x / (2 * 2) % 2 * 2 + y / (2 * 2) % 2) * 2 + z / (2 * 2) % 2) * 2 + f ((x / 2 % 2 * 2 + y / 2 % 2) * 2 + z / 2 % 2)) * 2 + f ((x % 2 * 2 + y % 2) * 2 + z % 2)
  rw [a2, a1, a0]
  omega
theorem ir_233 {f : Int → Int} {x y z : Int} (hf : ∀ i : Int, 0 ≤ i → i < 8 → 0 ≤ f i ∧ f i < 2) (hx : 0 ≤ x ∧ x < 8) (hy : 0 ≤ y ∧ y < 8) (hz : 0 ≤ z ∧ z < 8) : 0 ≤ im 2 3 f 3 x y z ∧ im 2 3 f 3 x y z < 8 := by
  have b0 := hf ((x % 2 * 2 + y % 2) * 2 + z % 2) (by omega) (by omega)
  have b1 := hf ((x / 2 % 2 * 2 + y / 2 % 2) * 2 + z / 2 % 2) (by omega) (by omega)
  have b2 := hf ((x / (2 * 2) % 2 * 2 + y / (2 * 2) % 2) * 2 + z / (2 * 2) % 2) (by omega) (by omega)
  show 0 ≤ (f ((x / (2 * 2) % 2 * 2 + y / (2 * 2) % 2) * 2 + z / (2 * 2) % 2) * 2 + f ((x / 2 % 2 * 2 + y / 2 % 2) * 2 + z / 2 % 2)) * 2 + f ((x % 2 * 2 + y % 2) * 2 + z % 2) ∧ (f ((x / (2 * 2) % 2 * 2 + y / (2 * 2) % 2) * 2 + z / (2 * 2) % 2) * 2 + f ((x / 2 % 2 * 2 + y / 2 % 2) * 2 + z / 2 % 2)) * 2 + f ((x % 2 * 2 + y % 2) * 2 + z % 2) < 8
  omega
theorem lw_311 {T f : Int → Int} {i j x y z : Int} (hT : ∀ i : Int, 0 ≤ i → i < 27 → T i = f (i % 3)) (hf : ∀ i : Int, 0 ≤ i → i < 3 → 0 ≤ f i ∧ f i < 3) (hx : 0 ≤ x ∧ x < 3) (hi : 0 ≤ i ∧ i < 27) (hj : 0 ≤ j ∧ j < 27) : lin 3 T i j (wd 3 1 x) = wd 3 1 (im 3 1 f 1 x y z) := by
  have a2 : T ((i / (3 * 3) * 3 + j / (3 * 3)) * 3 + (x * 13) / (3 * 3)) = f (x % 3) := by
    rw [(wq_31 hx).1]
    exact (hT _ (by omega) (by omega)).trans (congrArg f (by omega))
  have a1 : T ((i / 3 % 3 * 3 + j / 3 % 3) * 3 + (x * 13) / 3 % 3) = f (x % 3) := by
    rw [(wq_31 hx).2.1]
    exact (hT _ (by omega) (by omega)).trans (congrArg f (by omega))
  have a0 : T ((i % 3 * 3 + j % 3) * 3 + (x * 13) % 3) = f (x % 3) := by
    rw [(wq_31 hx).2.2]
    exact (hT _ (by omega) (by omega)).trans (congrArg f (by omega))
  have b0 := hf (x % 3) (by omega) (by omega)
  show T ((i / (3 * 3) * 3 + j / (3 * 3)) * 3 + (x * 13) / (3 * 3)) * (3 * 3) + T ((i / 3 % 3 * 3 + j / 3 % 3) * 3 + (x * 13) / 3 % 3) * 3 + T ((i % 3 * 3 + j % 3) * 3 + (x * 13) % 3) = f (x % 3) * (3 * 3 + 3 + 1)
  rw [a2, a1, a0]
  omega
theorem ir_311 {f : Int → Int} {x y z : Int} (hf : ∀ i : Int, 0 ≤ i → i < 3 → 0 ≤ f i ∧ f i < 3) (hx : 0 ≤ x ∧ x < 3) : 0 ≤ im 3 1 f 1 x y z ∧ im 3 1 f 1 x y z < 3 := by
  have b0 := hf (x % 3) (by omega) (by omega)
  show 0 ≤ f (x % 3) ∧ f (x % 3) < 3
  omega
theorem lw_312 {T f : Int → Int} {i x y z : Int} (hT : ∀ i : Int, 0 ≤ i → i < 27 → T i = f (i % 9)) (hf : ∀ i : Int, 0 ≤ i → i < 9 → 0 ≤ f i ∧ f i < 3) (hx : 0 ≤ x ∧ x < 3) (hy : 0 ≤ y ∧ y < 3) (hi : 0 ≤ i ∧ i < 27) : lin 3 T i (wd 3 1 x) (wd 3 1 y) = wd 3 1 (im 3 2 f 1 x y z) := by
  have a2 : T ((i / (3 * 3) * 3 + (x * 13) / (3 * 3)) * 3 + (y * 13) / (3 * 3)) = f (x % 3 * 3 + y % 3) := by
    rw [(wq_31 hx).1, (wq_31 hy).1]
    exact (hT _ (by omega) (by omega)).trans (congrArg f (by omega))
  have a1 : T ((i / 3 % 3 * 3 + (x * 13) / 3 % 3) * 3 + (y * 13) / 3 % 3) = f (x % 3 * 3 + y % 3) := by
    rw [(wq_31 hx).2.1, (wq_31 hy).2.1]
    exact (hT _ (by omega) (by omega)).trans (congrArg f (by omega))
  have a0 : T ((i % 3 * 3 + (x * 13) % 3) * 3 + (y * 13) % 3) = f (x % 3 * 3 + y % 3) := by
    rw [(wq_31 hx).2.2, (wq_31 hy).2.2]
    exact (hT _ (by omega) (by omega)).trans (congrArg f (by omega))
  have b0 := hf (x % 3 * 3 + y % 3) (by omega) (by omega)
  show T ((i / (3 * 3) * 3 + (x * 13) / (3 * 3)) * 3 + (y * 13) / (3 * 3)) * (3 * 3) + T ((i / 3 % 3 * 3 + (x * 13) / 3 % 3) * 3 + (y * 13) / 3 % 3) * 3 + T ((i % 3 * 3 + (x * 13) % 3) * 3 + (y * 13) % 3) = f (x % 3 * 3 + y % 3) * (3 * 3 + 3 + 1)
  rw [a2, a1, a0]
  omega
theorem ir_312 {f : Int → Int} {x y z : Int} (hf : ∀ i : Int, 0 ≤ i → i < 9 → 0 ≤ f i ∧ f i < 3) (hx : 0 ≤ x ∧ x < 3) (hy : 0 ≤ y ∧ y < 3) : 0 ≤ im 3 2 f 1 x y z ∧ im 3 2 f 1 x y z < 3 := by
  have b0 := hf (x % 3 * 3 + y % 3) (by omega) (by omega)
  show 0 ≤ f (x % 3 * 3 + y % 3) ∧ f (x % 3 * 3 + y % 3) < 3
  omega
theorem lw_313 {T f : Int → Int} {x y z : Int} (hT : ∀ i : Int, 0 ≤ i → i < 27 → T i = f (i % 27)) (hf : ∀ i : Int, 0 ≤ i → i < 27 → 0 ≤ f i ∧ f i < 3) (hx : 0 ≤ x ∧ x < 3) (hy : 0 ≤ y ∧ y < 3) (hz : 0 ≤ z ∧ z < 3) : lin 3 T (wd 3 1 x) (wd 3 1 y) (wd 3 1 z) = wd 3 1 (im 3 3 f 1 x y z) := by
  have a2 : T (((x * 13) / (3 * 3) * 3 + (y * 13) / (3 * 3)) * 3 + (z * 13) / (3 * 3)) = f ((x % 3 * 3 + y % 3) * 3 + z % 3) := by
    rw [(wq_31 hx).1, (wq_31 hy).1, (wq_31 hz).1]
    exact (hT _ (by omega) (by omega)).trans (congrArg f (by omega))
  have a1 : T (((x * 13) / 3 % 3 * 3 + (y * 13) / 3 % 3) * 3 + (z * 13) / 3 % 3) = f ((x % 3 * 3 + y % 3) * 3 + z % 3) := by
    rw [(wq_31 hx).2.1, (wq_31 hy).2.1, (wq_31 hz).2.1]
    exact (hT _ (by omega) (by omega)).trans (congrArg f (by omega))
  have a0 : T (((x * 13) % 3 * 3 + (y * 13) % 3) * 3 + (z * 13) % 3) = f ((x % 3 * 3 + y % 3) * 3 + z % 3) := by
    rw [(wq_31 hx).2.2, (wq_31 hy).2.2, (wq_31 hz).2.2]
    exact (hT _ (by omega) (by omega)).trans (congrArg f (by omega))
  have b0 := hf ((x % 3 * 3 + y % 3) * 3 + z % 3) (by omega) (by omega)
  show T (((x * 13) / (3 * 3) * 3 + (y * 13) / (3 * 3)) * 3 + (z * 13) / (3 * 3)) * (3 * 3) + T (((x * 13) / 3 % 3 * 3 + (y * 13) / 3 % 3) * 3 + (z * 13) / 3 % 3) * 3 + T (((x * 13) % 3 * 3 + (y * 13) % 3) * 3 + (z * 13) % 3) = f ((x % 3 * 3 + y % 3) * 3 + z % 3) * (3 * 3 + 3 + 1)
  rw [a2, a1, a0]
  omega
theorem ir_313 {f : Int → Int} {x y z : Int} (hf : ∀ i : Int, 0 ≤ i → i < 27 → 0 ≤ f i ∧ f i < 3) (hx : 0 ≤ x ∧ x < 3) (hy : 0 ≤ y ∧ y < 3) (hz : 0 ≤ z ∧ z < 3) : 0 ≤ im 3 3 f 1 x y z ∧ im 3 3 f 1 x y z < 3 := by
  have b0 := hf ((x % 3 * 3 + y % 3) * 3 + z % 3) (by omega) (by omega)
  show 0 ≤ f ((x % 3 * 3 + y % 3) * 3 + z % 3) ∧ f ((x % 3 * 3 + y % 3) * 3 + z % 3) < 3
  omega
theorem lw_321 {T f : Int → Int} {i j x y z : Int} (hT : ∀ i : Int, 0 ≤ i → i < 27 → T i = f (i % 3)) (hf : ∀ i : Int, 0 ≤ i → i < 3 → 0 ≤ f i ∧ f i < 3) (hx : 0 ≤ x ∧ x < 9) (hi : 0 ≤ i ∧ i < 27) (hj : 0 ≤ j ∧ j < 27) : lin 3 T i j (wd 3 2 x) = wd 3 2 (im 3 1 f 2 x y z) := by
  have a2 : T ((i / (3 * 3) * 3 + j / (3 * 3)) * 3 + (x * 3 + x % 3) / (3 * 3)) = f (x / 3 % 3) := by
    rw [(wq_32 hx).1]
    exact (hT _ (by omega) (by omega)).trans (congrArg f (by omega))
  have a1 : T ((i / 3 % 3 * 3 + j / 3 % 3) * 3 + (x * 3 + x % 3) / 3 % 3) = f (x % 3) := by
    rw [(wq_32 hx).2.1]
    exact (hT _ (by omega) (by omega)).trans (congrArg f (by omega))
  have a0 : T ((i % 3 * 3 + j % 3) * 3 + (x * 3 + x % 3) % 3) = f (x % 3) := by
    rw [(wq_32 hx).2.2]
    exact (hT _ (by omega) (by omega)).trans (congrArg f (by omega))
  have b0 := hf (x % 3) (by omega) (by omega)
  have b2 := hf (x / 3 % 3) (by omega) (by omega)
  show T ((i / (3 * 3) * 3 + j / (3 * 3)) * 3 + (x * 3 + x % 3) / (3 * 3)) * (3 * 3) + T ((i / 3 % 3 * 3 + j / 3 % 3) * 3 + (x * 3 + x % 3) / 3 % 3) * 3 + T ((i % 3 * 3 + j % 3) * 3 + (x * 3 + x % 3) % 3) = (f (x / 3 % 3) * 3 + f (x % 3)) * 3 + (f (x / 3 % 3) * 3 + f (x % 3)) % 3
  rw [a2, a1, a0]
  omega
theorem ir_321 {f : Int → Int} {x y z : Int} (hf : ∀ i : Int, 0 ≤ i → i < 3 → 0 ≤ f i ∧ f i < 3) (hx : 0 ≤ x ∧ x < 9) : 0 ≤ im 3 1 f 2 x y z ∧ im 3 1 f 2 x y z < 9 := by
  have b0 := hf (x % 3) (by omega) (by omega)
  have b2 := hf (x / 3 % 3) (by omega) (by omega)
  show 0 ≤ f (x / 3 % 3) * 3 + f (x % 3) ∧ f (x / 3 % 3) * 3 + f (x % 3) < 9
  omega
theorem lw_322 {T f : Int → Int} {i x y z : Int} (hT : ∀ i : Int, 0 ≤ i → i < 27 → T i = f (i % 9)) (hf : ∀ i : Int, 0 ≤ i → i < 9 → 0 ≤ f i ∧ f i < 3) (hx : 0 ≤ x ∧ x < 9) (hy : 0 ≤ y ∧ y < 9) (hi : 0 ≤ i ∧ i < 27) : lin 3 T i (wd 3 2 x) (wd 3 2 y) = wd 3 2 (im 3 2 f 2 x y z) := by
  have a2 : T ((i / (3 * 3) * 3 + (x * 3 + x % 3) / (3 * 3)) * 3 + (y * 3 + y % 3) / (3 * 3)) = f (x / 3 % 3 * 3 + y / 3 % 3) := by
    rw [(wq_32 hx).1, (wq_32 hy).1]
    exact (hT _ (by omega) (by omega)).trans (congrArg f (by omega))
  have a1 : T ((i / 3 % 3 * 3 + (x * 3 + x % 3) / 3 % 3) * 3 + (y * 3 + y % 3) / 3 % 3) = f (x % 3 * 3 + y % 3) := by
    rw [(wq_32 hx).2.1, (wq_32 hy).2.1]
    exact (hT _ (by omega) (by omega)).trans (congrArg f (by omega))
  have a0 : T ((i % 3 * 3 + (x * 3 + x % 3) % 3) * 3 + (y * 3 + y % 3) % 3) = f (x % 3 * 3 + y % 3) := by
    rw [(wq_32 hx).2.2, (wq_32 hy).2.2]
    exact (hT _ (by omega) (by omega)).trans (congrArg f (by omega))
  have b0 := hf (x % 3 * 3 + y % 3) (by omega) (by omega)
  have b2 := hf (x / 3 % 3 * 3 + y / 3 % 3) (by omega) (by omega)
  show T ((i / (3 * 3) * 3 + (x * 3 + x % 3) / (3 * 3)) * 3 + (y * 3 + y % 3) / (3 * 3)) * (3 * 3) + T ((i / 3 % 3 * 3 + (x * 3 + x % 3) / 3 % 3) * 3 + (y * 3 + y % 3) / 3 % 3) * 3 + T ((i % 3 * 3 + (x * 3 + x % 3) % 3) * 3 + (y * 3 + y % 3) % 3) = (f (x / 3 % 3 * 3 + y / 3 % 3) * 3 + f (x % 3 * 3 + y % 3)) * 3 + (f (x / 3 % 3 * 3 + y / 3 % 3) * 3 + f (x % 3 * 3 + y % 3)) % 3
  rw [a2, a1, a0]
  omega
theorem ir_322 {f : Int → Int} {x y z : Int} (hf : ∀ i : Int, 0 ≤ i → i < 9 → 0 ≤ f i ∧ f i < 3) (hx : 0 ≤ x ∧ x < 9) (hy : 0 ≤ y ∧ y < 9) : 0 ≤ im 3 2 f 2 x y z ∧ im 3 2 f 2 x y z < 9 := by
  have b0 := hf (x % 3 * 3 + y % 3) (by omega) (by omega)
  have b2 := hf (x / 3 % 3 * 3 + y / 3 % 3) (by omega) (by omega)
  show 0 ≤ f (x / 3 % 3 * 3 + y / 3 % 3) * 3 + f (x % 3 * 3 + y % 3) ∧ f (x / 3 % 3 * 3 + y / 3 % 3) * 3 + f (x % 3 * 3 + y % 3) < 9
  omega
theorem lw_323 {T f : Int → Int} {x y z : Int} (hT : ∀ i : Int, 0 ≤ i → i < 27 → T i = f (i % 27)) (hf : ∀ i : Int, 0 ≤ i → i < 27 → 0 ≤ f i ∧ f i < 3) (hx : 0 ≤ x ∧ x < 9) (hy : 0 ≤ y ∧ y < 9) (hz : 0 ≤ z ∧ z < 9) : lin 3 T (wd 3 2 x) (wd 3 2 y) (wd 3 2 z) = wd 3 2 (im 3 3 f 2 x y z) := by
  have a2 : T (((x * 3 + x % 3) / (3 * 3) * 3 + (y * 3 + y % 3) / (3 * 3)) * 3 + (z * 3 + z % 3) / (3 * 3)) = f ((x / 3 % 3 * 3 + y / 3 % 3) * 3 + z / 3 % 3) := by
    rw [(wq_32 hx).1, (wq_32 hy).1, (wq_32 hz).1]
    exact (hT _ (by omega) (by omega)).trans (congrArg f (by omega))
  have a1 : T (((x * 3 + x % 3) / 3 % 3 * 3 + (y * 3 + y % 3) / 3 % 3) * 3 + (z * 3 + z % 3) / 3 % 3) = f ((x % 3 * 3 + y % 3) * 3 + z % 3) := by
    rw [(wq_32 hx).2.1, (wq_32 hy).2.1, (wq_32 hz).2.1]
    exact (hT _ (by omega) (by omega)).trans (congrArg f (by omega))
  have a0 : T (((x * 3 + x % 3) % 3 * 3 + (y * 3 + y % 3) % 3) * 3 + (z * 3 + z % 3) % 3) = f ((x % 3 * 3 + y % 3) * 3 + z % 3) := by
    rw [(wq_32 hx).2.2, (wq_32 hy).2.2, (wq_32 hz).2.2]
    exact (hT _ (by omega) (by omega)).trans (congrArg f (by omega))
  have b0 := hf ((x % 3 * 3 + y % 3) * 3 + z % 3) (by omega) (by omega)
  have b2 := hf ((x / 3 % 3 * 3 + y / 3 % 3) * 3 + z / 3 % 3) (by omega) (by omega)
  show T (((x * 3 + x % 3) / (3 * 3) * 3 + (y * 3 + y % 3) / (3 * 3)) * 3 + (z * 3 + z % 3) / (3 * 3)) * (3 * 3) + T (((x * 3 + x % 3) / 3 % 3 * 3 + (y * 3 + y % 3) / 3 % 3) * 3 + (z * 3 + z % 3) / 3 % 3) * 3 + T (((x * 3 + x % 3) % 3 * 3 + (y * 3 + y % 3) % 3) * 3 + (z * 3 + z % 3) % 3) = (f ((x / 3 % 3 * 3 + y / 3 % 3) * 3 + z / 3 % 3) * 3 + f ((x % 3 * 3 + y % 3) * 3 + z % 3)) * 3 + (f ((x / 3 % 3 * 3 + y / 3 % 3) * 3 + z / 3 % 3) * 3 + f ((x % 3 * 3 + y % 3) * 3 + z % 3)) % 3
  rw [a2, a1, a0]
  omega
theorem ir_323 {f : Int → Int} {x y z : Int} (hf : ∀ i : Int, 0 ≤ i → i < 27 → 0 ≤ f i ∧ f i < 3) (hx : 0 ≤ x ∧ x < 9) (hy : 0 ≤ y ∧ y < 9) (hz : 0 ≤ z ∧ z < 9) : 0 ≤ im 3 3 f 2 x y z ∧ im 3 3 f 2 x y z < 9 := by
  have b0 := hf ((x % 3 * 3 + y % 3) * 3 + z % 3) (by omega) (by omega)
  have b2 := hf ((x / 3 % 3 * 3 + y / 3 % 3) * 3 + z / 3 % 3) (by omega) (by omega)
  show 0 ≤ f ((x / 3 % 3 * 3 + y / 3 % 3) * 3 + z / 3 % 3) * 3 + f ((x % 3 * 3 + y % 3) * 3 + z % 3) ∧ f ((x / 3 % 3 * 3 + y / 3 % 3) * 3 + z / 3 % 3) * 3 + f ((x % 3 * 3 + y % 3) * 3 + z % 3) < 9
  omega
theorem lw_331 {T f : Int → Int} {i j x y z : Int} (hT : ∀ i : Int, 0 ≤ i → i < 27 → T i = f (i % 3)) (hf : ∀ i : Int, 0 ≤ i → i < 3 → 0 ≤ f i ∧ f i < 3) (hx : 0 ≤ x ∧ x < 27) (hi : 0 ≤ i ∧ i < 27) (hj : 0 ≤ j ∧ j < 27) : lin 3 T i j (wd 3 3 x) = wd 3 3 (im 3 1 f 3 x y z) := by
  have a2 : T ((i / (3 * 3) * 3 + j / (3 * 3)) * 3 + x / (3 * 3)) = f (x / (3 * 3) % 3) := (hT _ (by omega) (by omega)).trans (congrArg f (by omega))
  have a1 : T ((i / 3 % 3 * 3 + j / 3 % 3) * 3 + x / 3 % 3) = f (x / 3 % 3) := (hT _ (by omega) (by omega)).trans (congrArg f (by omega))
  have a0 : T ((i % 3 * 3 + j % 3) * 3 + x % 3) = f (x % 3) := (hT _ (by omega) (by omega)).trans (congrArg f (by omega))
  have b0 := hf (x % 3) (by omega) (by omega)
  have b1 := hf (x / 3 % 3) (by omega) (by omega)
  have b2 := hf (x / (3 * 3) % 3) (by omega) (by omega)
  show T ((i / (3 * 3) * 3 + j / (3 * 3)) * 3 + x / (3 * 3)) * (3 * 3) + T ((i / 3 % 3 * 3 + j / 3 % 3) * 3 + x / 3 % 3) * 3 + T ((i % 3 * 3 + j % 3) * 3 + x % 3) = (f (x / (3 * 3) % 3) * 3 + f (x / 3 % 3)) * 3 + f (x % 3)
  rw [a2, a1, a0]
  omega
theorem ir_331 {f : Int → Int} {x y z : Int} (hf : ∀ i : Int, 0 ≤ i → i < 3 → 0 ≤ f i ∧ f i < 3) (hx : 0 ≤ x ∧ x < 27) : 0 ≤ im 3 1 f 3 x y z ∧ im 3 1 f 3 x y z < 27 := by
  have b0 := hf (x % 3) (by omega) (by omega)
  have b1 := hf (x / 3 % 3) (by omega) (by omega)
  have b2 := hf (x / (3 * 3) % 3) (by omega) (by omega)
  show 0 ≤ (f (x / (3 * 3) % 3) * 3 + f (x / 3 % 3)) * 3 + f (x % 3) ∧ (f (x / (3 * 3) % 3) * 3 + f (x / 3 % 3)) * 3 + f (x % 3) < 27
  omega
theorem lw_332 {T f : Int → Int} {i x y z : Int} (hT : ∀ i : Int, 0 ≤ i → i < 27 → T i = f (i % 9)) (hf : ∀ i : Int, 0 ≤ i → i < 9 → 0 ≤ f i ∧ f i < 3) (hx : 0 ≤ x ∧ x < 27) (hy : 0 ≤ y ∧ y < 27) (hi : 0 ≤ i ∧ i < 27) : lin 3 T i (wd 3 3 x) (wd 3 3 y) = wd 3 3 (im 3 2 f 3 x y z) := by
  have a2 : T ((i / (3 * 3) * 3 + x / (3 * 3)) * 3 + y / (3 * 3)) = f (x / (3 * 3) % 3 * 3 + y / (3 * 3) % 3) := (hT _ (by omega) (by omega)).trans (congrArg f (by omega))
  have a1 : T ((i / 3 % 3 * 3 + x / 3 % 3) * 3 + y / 3 % 3) = f (x / 3 % 3 * 3 + y / 3 % 3) := (hT _ (by omega) (by omega)).trans (congrArg f (by omega))
  have a0 : T ((i % 3 * 3 + x % 3) * 3 + y % 3) = f (x % 3 * 3 + y % 3) := (hT _ (by omega) (by omega)).trans (congrArg f (by omega))
  have b0 := hf (x % 3 * 3 + y % 3) (by omega) (by omega)
  have b1 := hf (x / 3 % 3 * 3 + y / 3 % 3) (by omega) (by omega)
  have b2 := hf (x / (3 * 3) % 3 * 3 + y / (3 * 3) % 3) (by omega) (by omega)
  show T ((i / (3 * 3) * 3 + x / (3 * 3)) * 3 + y / (3 * 3)) * (3 * 3) + T ((i / 3 % 3 * 3 + x / 3 % 3) * 3 + y / 3 % 3) * 3 + T ((i % 3 * 3 + x % 3) * 3 + y % 3) = (f (x / (3 * 3) % 3 * 3 + y / (3 * 3) % 3) * 3 + f (x / 3 % 3 * 3 + y / 3 % 3)) * 3 + f (x % 3 * 3 + y % 3)
  rw [a2, a1, a0]
  omega
theorem ir_332 {f : Int → Int} {x y z : Int} (hf : ∀ i : Int, 0 ≤ i → i < 9 → 0 ≤ f i ∧ f i < 3) (hx : 0 ≤ x ∧ x < 27) (hy : 0 ≤ y ∧ y < 27) : 0 ≤ im 3 2 f 3 x y z ∧ im 3 2 f 3 x y z < 27 := by
  have b0 := hf (x % 3 * 3 + y % 3) (by omega) (by omega)
  have b1 := hf (x / 3 % 3 * 3 + y / 3 % 3) (by omega) (by omega)
  have b2 := hf (x / (3 * 3) % 3 * 3 + y / (3 * 3) % 3) (by omega) (by omega)
  show 0 ≤ (f (x / (3 * 3) % 3 * 3 + y / (3 * 3) % 3) * 3 + f (x / 3 % 3 * 3 + y / 3 % 3)) * 3 + f (x % 3 * 3 + y % 3) ∧ (f (x / (3 * 3) % 3 * 3 + y / (3 * 3) % 3) * 3 + f (x / 3 % 3 * 3 + y / 3 % 3)) * 3 + f (x % 3 * 3 + y % 3) < 27
  omega
theorem lw_333 {T f : Int → Int} {x y z : Int} (hT : ∀ i : Int, 0 ≤ i → i < 27 → T i = f (i % 27)) (hf : ∀ i : Int, 0 ≤ i → i < 27 → 0 ≤ f i ∧ f i < 3) (hx : 0 ≤ x ∧ x < 27) (hy : 0 ≤ y ∧ y < 27) (hz : 0 ≤ z ∧ z < 27) : lin 3 T (wd 3 3 x) (wd 3 3 y) (wd 3 3 z) = wd 3 3 (im 3 3 f 3 x y z) := by
  have a2 : T ((x / (3 * 3) * 3 + y / (3 * 3)) * 3 + z / (3 * 3)) = f ((x / (3 * 3) % 3 * 3 + y / (3 * 3) % 3) * 3 + z / (3 * 3) % 3) := (hT _ (by omega) (by omega)).trans (congrArg f (by omega))
  have a1 : T ((x / 3 % 3 * 3 + y / 3 % 3) * 3 + z / 3 % 3) = f ((x / 3 % 3 * 3 + y / 3 % 3) * 3 + z / 3 % 3) := (hT _ (by omega) (by omega)).trans (congrArg f (by omega))
  have a0 : T ((x % 3 * 3 + y % 3) * 3 + z % 3) = f ((x % 3 * 3 + y % 3) * 3 + z % 3) := (hT _ (by omega) (by omega)).trans (congrArg f (by omega))
  have b0 := hf ((x % 3 * 3 + y % 3) * 3 + z % 3) (by omega) (by omega)
  have b1 := hf ((x / 3 % 3 * 3 + y / 3 % 3) * 3 + z / 3 % 3) (by omega) (by omega)
  have b2 := hf ((x / (3 * 3) % 3 * 3 + y / (3 * 3) % 3) * 3 + z / (3 * 3) % 3) (by omega) (by omega)
  show T ((x / (3 * 3) * 3 + y / (3 * 3)) * 3 + z / (3 * 3)) * (3 * 3) + T ((x / 3 % 3 * 3 + y / 3 % 3) * 3 + z / 3 % 3) * 3 + T ((x % 3 * 3 + y % 3) * 3 + z % 3) = (f ((x / (3 * 3) % 3 * 3 + y / (3 * 3) % 3) * 3 + z / (3 * 3) % 3) * 3 + f ((x / 3 % 3 * 3 + y / 3 % 3) * 3 + z / 3 % 3)) * 3 + f ((x % 3 * 3 + y % 3) * 3 + z % 3)
  rw [a2, a1, a0]
  omega
theorem ir_333 {f : Int → Int} {x y z : Int} (hf : ∀ i : Int, 0 ≤ i → i < 27 → 0 ≤ f i ∧ f i < 3) (hx : 0 ≤ x ∧ x < 27) (hy : 0 ≤ y ∧ y < 27) (hz : 0 ≤ z ∧ z < 27) : 0 ≤ im 3 3 f 3 x y z ∧ im 3 3 f 3 x y z < 27 := by
  have b0 := hf ((x % 3 * 3 + y % 3) * 3 + z % 3) (by omega) (by omega)
  have b1 := hf ((x / 3 % 3 * 3 + y / 3 % 3) * 3 + z / 3 % 3) (by omega) (by omega)
  have b2 := hf ((x / (3 * 3) % 3 * 3 + y / (3 * 3) % 3) * 3 + z / (3 * 3) % 3) (by omega) (by omega)
  show 0 ≤ (f ((x / (3 * 3) % 3 * 3 + y / (3 * 3) % 3) * 3 + z / (3 * 3) % 3) * 3 + f ((x / 3 % 3 * 3 + y / 3 % 3) * 3 + z / 3 % 3)) * 3 + f ((x % 3 * 3 + y % 3) * 3 + z % 3) ∧ (f ((x / (3 * 3) % 3 * 3 + y / (3 * 3) % 3) * 3 + z / (3 * 3) % 3) * 3 + f ((x / 3 % 3 * 3 + y / 3 % 3) * 3 + z / 3 % 3)) * 3 + f ((x % 3 * 3 + y % 3) * 3 + z % 3) < 27
  omega
section
variable {d m k s w c : Int} {T f r : Int → Int}
theorem lw3 {x y z : Int} (hd : d = 2 ∨ d = 3) (hk : 1 ≤ k ∧ k ≤ 3) (hT : ∀ i : Int, 0 ≤ i → i < d * d * d → T i = f (i % pw d 3)) (hf : ∀ i : Int, 0 ≤ i → i < pw d 3 → 0 ≤ f i ∧ f i < d) (hx : 0 ≤ x ∧ x < pw d k) (hy : 0 ≤ y ∧ y < pw d k) (hz : 0 ≤ z ∧ z < pw d k) : lin d T (wd d k x) (wd d k y) (wd d k z) = wd d k (im d 3 f k x y z) ∧ 0 ≤ im d 3 f k x y z ∧ im d 3 f k x y z < pw d k := by
  rcases hd with rfl | rfl <;> rcases (show k = 1 ∨ k = 2 ∨ k = 3 by omega) with rfl | rfl | rfl
  · exact ⟨lw_213 hT hf hx hy hz, ir_213 hf hx hy hz⟩
  · exact ⟨lw_223 hT hf hx hy hz, ir_223 hf hx hy hz⟩
  · exact ⟨lw_233 hT hf hx hy hz, ir_233 hf hx hy hz⟩
  · exact ⟨lw_313 hT hf hx hy hz, ir_313 hf hx hy hz⟩
  · exact ⟨lw_323 hT hf hx hy hz, ir_323 hf hx hy hz⟩
  · exact ⟨lw_333 hT hf hx hy hz, ir_333 hf hx hy hz⟩
theorem lw2 {i x y z : Int} (hd : d = 2 ∨ d = 3) (hk : 1 ≤ k ∧ k ≤ 3) (hT : ∀ i : Int, 0 ≤ i → i < d * d * d → T i = f (i % pw d 2)) (hf : ∀ i : Int, 0 ≤ i → i < pw d 2 → 0 ≤ f i ∧ f i < d) (hx : 0 ≤ x ∧ x < pw d k) (hy : 0 ≤ y ∧ y < pw d k) (hi : 0 ≤ i ∧ i < d * d * d) : lin d T i (wd d k x) (wd d k y) = wd d k (im d 2 f k x y z) ∧ 0 ≤ im d 2 f k x y z ∧ im d 2 f k x y z < pw d k := by
  rcases hd with rfl | rfl <;> rcases (show k = 1 ∨ k = 2 ∨ k = 3 by omega) with rfl | rfl | rfl
  · exact ⟨lw_212 hT hf hx hy hi, ir_212 hf hx hy⟩
  · exact ⟨lw_222 hT hf hx hy hi, ir_222 hf hx hy⟩
  · exact ⟨lw_232 hT hf hx hy hi, ir_232 hf hx hy⟩
  · exact ⟨lw_312 hT hf hx hy hi, ir_312 hf hx hy⟩
  · exact ⟨lw_322 hT hf hx hy hi, ir_322 hf hx hy⟩
  · exact ⟨lw_332 hT hf hx hy hi, ir_332 hf hx hy⟩
theorem lw1 {i j x y z : Int} (hd : d = 2 ∨ d = 3) (hk : 1 ≤ k ∧ k ≤ 3) (hT : ∀ i : Int, 0 ≤ i → i < d * d * d → T i = f (i % pw d 1)) (hf : ∀ i : Int, 0 ≤ i → i < pw d 1 → 0 ≤ f i ∧ f i < d) (hx : 0 ≤ x ∧ x < pw d k) (hi : 0 ≤ i ∧ i < d * d * d) (hj : 0 ≤ j ∧ j < d * d * d) : lin d T i j (wd d k x) = wd d k (im d 1 f k x y z) ∧ 0 ≤ im d 1 f k x y z ∧ im d 1 f k x y z < pw d k := by
  rcases hd with rfl | rfl <;> rcases (show k = 1 ∨ k = 2 ∨ k = 3 by omega) with rfl | rfl | rfl
  · exact ⟨lw_211 hT hf hx hi hj, ir_211 hf hx⟩
  · exact ⟨lw_221 hT hf hx hi hj, ir_221 hf hx⟩
  · exact ⟨lw_231 hT hf hx hi hj, ir_231 hf hx⟩
  · exact ⟨lw_311 hT hf hx hi hj, ir_311 hf hx⟩
  · exact ⟨lw_321 hT hf hx hi hj, ir_321 hf hx⟩
  · exact ⟨lw_331 hT hf hx hi hj, ir_331 hf hx⟩
theorem LRn.bit (hd : d = 2 ∨ d = 3) (hk : 1 ≤ k ∧ k ≤ 3) (h : LRn d k s (pw d k) w c r) {n : Int} (hn : 0 ≤ n ∧ n < pw d k) : bt w (wd d k n) ↔ bt s n := by
  have wr := wd_r hd hk hn
  rw [h.2.2.2.2 _ wr.1 wr.2.2]
  constructor
  · rintro ⟨x, x0, x1, hx, e⟩
    rw [wd_i hd hk hn ⟨x0, x1⟩ e]
    exact hx
  · intro q
    exact ⟨n, hn.1, hn.2, q, rfl⟩
theorem LRn.row (hd : d = 2 ∨ d = 3) (hk : 1 ≤ k ∧ k ≤ 3) (h : LRn d k s (pw d k) w c r) {i : Int} (h0 : 0 ≤ i) (h1 : i < c) : ∃ x : Int, inS d k s x ∧ r i = wd d k x ∧ 0 ≤ r i ∧ r i < d * d * d := by
  obtain ⟨x, x0, x1, hx, e⟩ := h.2.2.1 i h0 h1
  have wr := wd_r hd hk ⟨x0, x1⟩
  exact ⟨x, ⟨x0, x1, hx⟩, e, by rw [e]; exact wr.1, by rw [e]; exact wr.2.1⟩
theorem tf_a (h : c > 0) (q : Int) (hm : ¬ q ≤ m) : 0 < tf m q c := by
  unfold tf
  rw [if_neg hm]
  split <;> omega
theorem tf_le {q i : Int} (h : i < tf m q c) : i < c := by
  unfold tf at h
  split at h
  · exact h
  · split at h <;> omega
theorem KC_KP (hd : d = 2 ∨ d = 3) (hm : 1 ≤ m ∧ m ≤ 3) (hk : 1 ≤ k ∧ k ≤ 3) (h : LRn d k s (pw d k) w c r) (hT : ∀ i : Int, 0 ≤ i → i < d * d * d → T i = f (i % pw d m)) (hf : ∀ i : Int, 0 ≤ i → i < pw d m → 0 ≤ f i ∧ f i < d) : KC d m T w c r ↔ KP d m f k s := by
  constructor
  · intro q x y z hx hy hz
    obtain ⟨i, i0, i1, ei⟩ := h.2.2.2.1 x hx.1 hx.2.1 hx.2.2
    rcases (show m = 1 ∨ m = 2 ∨ m = 3 by omega) with rfl | rfl | rfl
    · obtain ⟨x', hx', e', r0, r1⟩ := h.row hd hk (i := 0) (by omega) (by omega)
      have u := q 0 0 i (by omega) (tf_a (by omega) 3 (by omega)) (by omega) (tf_a (by omega) 2 (by omega)) i0 i1
      have l := lw1 (y := y) (z := z) hd hk hT hf ⟨hx.1, hx.2.1⟩ ⟨r0, r1⟩ ⟨r0, r1⟩
      rw [ei, l.1] at u
      exact (h.bit hd hk l.2).mp u
    · obtain ⟨y0, y1, y2⟩ := hy (by omega)
      obtain ⟨j, j0, j1, ej⟩ := h.2.2.2.1 y y0 y1 y2
      obtain ⟨x', hx', e', r0, r1⟩ := h.row hd hk (i := 0) (by omega) (by omega)
      have u := q 0 i j (by omega) (tf_a (by omega) 3 (by omega)) i0 i1 j0 j1
      have l := lw2 (z := z) hd hk hT hf ⟨hx.1, hx.2.1⟩ ⟨y0, y1⟩ ⟨r0, r1⟩
      rw [ei, ej, l.1] at u
      exact (h.bit hd hk l.2).mp u
    · obtain ⟨y0, y1, y2⟩ := hy (by omega)
      obtain ⟨j, j0, j1, ej⟩ := h.2.2.2.1 y y0 y1 y2
      obtain ⟨z0, z1, z2⟩ := hz (by omega)
      obtain ⟨l', l0, l1, el⟩ := h.2.2.2.1 z z0 z1 z2
      have u := q i j l' i0 i1 j0 j1 l0 l1
      have l := lw3 hd hk hT hf ⟨hx.1, hx.2.1⟩ ⟨y0, y1⟩ ⟨z0, z1⟩
      rw [ei, ej, el, l.1] at u
      exact (h.bit hd hk l.2).mp u
  · intro q i j l i0 i1 j0 j1 l0 l1
    obtain ⟨x, hx, ex, x0, x1⟩ := h.row hd hk i0 (tf_le i1)
    obtain ⟨y, hy, ey, y0, y1⟩ := h.row hd hk j0 (tf_le j1)
    obtain ⟨z, hz, ez, z0, z1⟩ := h.row hd hk l0 l1
    rcases (show m = 1 ∨ m = 2 ∨ m = 3 by omega) with rfl | rfl | rfl
    · have u := lw1 (y := 0) (z := 0) hd hk hT hf ⟨hz.1, hz.2.1⟩ ⟨x0, x1⟩ ⟨y0, y1⟩
      rw [ez, u.1]
      exact (h.bit hd hk u.2).mpr (q z 0 0 hz (fun q => by omega) (fun q => by omega))
    · have u := lw2 (z := 0) hd hk hT hf ⟨hy.1, hy.2.1⟩ ⟨hz.1, hz.2.1⟩ ⟨x0, x1⟩
      rw [ey, ez, u.1]
      exact (h.bit hd hk u.2).mpr (q y z 0 hy (fun _ => hz) (fun q => by omega))
    · have u := lw3 hd hk hT hf ⟨hx.1, hx.2.1⟩ ⟨hy.1, hy.2.1⟩ ⟨hz.1, hz.2.1⟩
      rw [ex, ey, ez, u.1]
      exact (h.bit hd hk u.2).mpr (q x y z hx (fun _ => hy) (fun _ => hz))
end
/-! What the calls do to a law's cells. -/
def FQ (q : Int) (Ms M : nM) : Prop := ∀ a i : Int, ¬ (q ≤ a ∧ a ≤ q + 1) → M a i = Ms a i
theorem FQ.u {p a i z : Int} {Ms M M2 : nM} (h : FQ p Ms M) (e : M2 = nu M a i z) (ha : p ≤ a ∧ a ≤ p + 1) : FQ p Ms M2 := fun b j q => by
  subst e
  rw [nu_e, if_neg (by omega)]
  exact h b j q
theorem FQ.tr {p : Int} {Ms M M2 : nM} (h : FQ p Ms M) (h2 : FQ p M M2) : FQ p Ms M2 := fun a i q => (h2 a i q).trans (h a i q)
def AW (q r : Int) (M M1 : nM) : Prop := ((M q 3 < 27 ∧ ¬ bt (M q 2) r ∧ M1 q 3 = M q 3 + 1 ∧ M1 q 2 = n_or (M q 2) (n_shl 1 r) ∧ M1 (q + 1) (M q 3) = r ∧ ∀ i : Int, i ≠ M q 3 → M1 (q + 1) i = M (q + 1) i) ∨ ((27 ≤ M q 3 ∨ bt (M q 2) r) ∧ M1 q 3 = M q 3 ∧ M1 q 2 = M q 2 ∧ ∀ i : Int, M1 (q + 1) i = M (q + 1) i)) ∧ M1 q 0 = M q 0 ∧ M1 q 1 = M q 1 ∧ FQ q M M1
def LQ (d k s n q : Int) (M : nM) : Prop := LRn d k s n (M q 2) (M q 3) (fun i => M (q + 1) i)
theorem LQ.add {d k s n q : Int} {M M1 : nM} (hd : d = 2 ∨ d = 3) (hk : 1 ≤ k ∧ k ≤ 3) (h : LQ d k s n q M) (hn : 0 ≤ n ∧ n < pw d k) (hb : bt s n) (a : AW q (wd d k n) M M1) : LQ d k s (n + 1) q M1 := by
  refine LRn.add hd hk h hn hb ?_
  rcases a.1 with ⟨a1, a2, a3, a4, a5, a6⟩ | ⟨a1, -⟩
  · exact Or.inl ⟨a1, a2, a3, a4, a5, a6⟩
  · exact Or.inr a1
theorem AW.mk {q r c w : Int} {M Ma Mb Mc : nM} (hq : q ≠ q + 1) (hc : c = M q 3) (hw : w = n_or (M q 2) (n_shl 1 r)) (h1 : M q 3 < 27) (h2 : ¬ bt (M q 2) r) (e1 : Ma = nu M (q + 1) c r) (e2 : Mb = nu Ma q 3 (c + 1)) (e3 : Mc = nu Mb q 2 w) : AW q r M Mc := by
  subst hc hw e1 e2 e3
  refine ⟨Or.inl ⟨h1, h2, ?_, nu_s _ _ _ _, ?_, fun i hi => ?_⟩, ?_, ?_, fun a i u => ?_⟩
  · rw [nu_i (by omega), nu_s]
  · rw [nu_a (by omega), nu_a (by omega), nu_s]
  · rw [nu_a (by omega), nu_a (by omega), nu_i hi]
  · rw [nu_i (by omega), nu_i (by omega), nu_a (by omega)]
  · rw [nu_i (by omega), nu_i (by omega), nu_a (by omega)]
  · rw [nu_a (by omega), nu_a (by omega), nu_a (by omega)]
theorem AW.no {q r : Int} {M : nM} (h : 27 ≤ M q 3 ∨ bt (M q 2) r) : AW q r M M := ⟨Or.inr ⟨h, rfl, rfl, fun _ => rfl⟩, rfl, rfl, fun _ _ _ => rfl⟩
def FC (q : Int) (M M1 : nM) : Prop := ∀ a i : Int, a ≠ q → M1 a i = M a i
theorem FC.u {q i z : Int} {Ms M M2 : nM} (h : FC q Ms M) (e : M2 = nu M q i z) : FC q Ms M2 := fun a j ha => by
  subst e
  rw [nu_a ha]
  exact h a j ha
