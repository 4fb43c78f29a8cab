/-! Pairings. -/
def pt (p t : Int) : Int := p / 4 ^ t.toNat % 4
def lst (d p x : Int) : Int := (pt p (x / (d * d)) * d + pt p (x / d % d)) * d + pt p (x % d)
def PPx (d : Int) (T : Int → Int) (p n : Int) : Prop := ∀ x : Int, 0 ≤ x → x < n → pt p (T x) = pt p (T (lst d p x))
theorem PPx.step {d p n : Int} {T : Int → Int} (h : PPx d T p n) (q : pt p (T n) = pt p (T (lst d p n))) : PPx d T p (n + 1) := fun x h0 h1 => by
  by_cases e : x = n
  · rw [e]
    exact q
  · exact h x h0 (by omega)
def PPa (d : Int) (M : nM) (p : Int) : Prop := ∀ a : Int, 0 ≤ a → a < M 3 14 → PPx d (fun i => M (55 + 3 * a + 1) i) p (M (55 + 3 * a) 1)
noncomputable def pg2 (M : nM) (n : Int) : Int := if n = 0 then bb (AKP 2 M 2 15) else if n = 4 then bb (AKP 2 M 2 9) else 0
noncomputable def pg3 (M : nM) (n : Int) : Int := if n = 0 then bb (AKP 3 M 2 511) else if n = 4 then bb (AKP 3 M 2 341) else if n = 20 then bb (AKP 3 M 2 433) else if n = 32 then bb (AKP 3 M 2 283) else if n = 36 then bb (AKP 3 M 2 273) else 0
theorem ps2_0 : ∀ x : Nat, x < 2 → ∀ y : Nat, y < 2 → ((15 : Nat).testBit (x * 2 + y) = true ↔ pt 0 (x : Int) = pt 0 (y : Int)) ∧ 0 ≤ pt 0 (x : Int) ∧ pt 0 (x : Int) < 2 ∧ pt 0 (pt 0 (x : Int)) = pt 0 (x : Int) ∧ pt 0 0 = 0 := by decide +kernel
theorem ps2_4 : ∀ x : Nat, x < 2 → ∀ y : Nat, y < 2 → ((9 : Nat).testBit (x * 2 + y) = true ↔ pt 4 (x : Int) = pt 4 (y : Int)) ∧ 0 ≤ pt 4 (x : Int) ∧ pt 4 (x : Int) < 2 ∧ pt 4 (pt 4 (x : Int)) = pt 4 (x : Int) ∧ pt 4 0 = 0 := by decide +kernel
theorem ps3_0 : ∀ x : Nat, x < 3 → ∀ y : Nat, y < 3 → ((511 : Nat).testBit (x * 3 + y) = true ↔ pt 0 (x : Int) = pt 0 (y : Int)) ∧ 0 ≤ pt 0 (x : Int) ∧ pt 0 (x : Int) < 3 ∧ pt 0 (pt 0 (x : Int)) = pt 0 (x : Int) ∧ pt 0 0 = 0 := by decide +kernel
theorem ps3_4 : ∀ x : Nat, x < 3 → ∀ y : Nat, y < 3 → ((341 : Nat).testBit (x * 3 + y) = true ↔ pt 4 (x : Int) = pt 4 (y : Int)) ∧ 0 ≤ pt 4 (x : Int) ∧ pt 4 (x : Int) < 3 ∧ pt 4 (pt 4 (x : Int)) = pt 4 (x : Int) ∧ pt 4 0 = 0 := by decide +kernel
theorem ps3_20 : ∀ x : Nat, x < 3 → ∀ y : Nat, y < 3 → ((433 : Nat).testBit (x * 3 + y) = true ↔ pt 20 (x : Int) = pt 20 (y : Int)) ∧ 0 ≤ pt 20 (x : Int) ∧ pt 20 (x : Int) < 3 ∧ pt 20 (pt 20 (x : Int)) = pt 20 (x : Int) ∧ pt 20 0 = 0 := by decide +kernel
theorem ps3_32 : ∀ x : Nat, x < 3 → ∀ y : Nat, y < 3 → ((283 : Nat).testBit (x * 3 + y) = true ↔ pt 32 (x : Int) = pt 32 (y : Int)) ∧ 0 ≤ pt 32 (x : Int) ∧ pt 32 (x : Int) < 3 ∧ pt 32 (pt 32 (x : Int)) = pt 32 (x : Int) ∧ pt 32 0 = 0 := by decide +kernel
theorem ps3_36 : ∀ x : Nat, x < 3 → ∀ y : Nat, y < 3 → ((273 : Nat).testBit (x * 3 + y) = true ↔ pt 36 (x : Int) = pt 36 (y : Int)) ∧ 0 ≤ pt 36 (x : Int) ∧ pt 36 (x : Int) < 3 ∧ pt 36 (pt 36 (x : Int)) = pt 36 (x : Int) ∧ pt 36 0 = 0 := by decide +kernel
/-- a set of pairs that tells when two things are of one part -/
def PSet (d p s : Int) : Prop := (∀ x y : Int, 0 ≤ x → x < d → 0 ≤ y → y < d → (bt s (x * d + y) ↔ pt p x = pt p y)) ∧ (∀ x : Int, 0 ≤ x → x < d → 0 ≤ pt p x ∧ pt p x < d ∧ pt p (pt p x) = pt p x) ∧ pt p 0 = 0
theorem pse2_0 : PSet 2 0 15 := by
  refine ⟨fun x y x0 x1 y0 y1 => ?_, fun x x0 x1 => ?_, rfl⟩
  · obtain ⟨n, rfl⟩ : ∃ n : Nat, x = n := ⟨x.toNat, by omega⟩
    obtain ⟨m, rfl⟩ : ∃ m : Nat, y = m := ⟨y.toNat, by omega⟩
    have q := (ps2_0 n (by omega) m (by omega)).1
    rw [← q, show ((n : Int) * 2 + (m : Int)) = ((n * 2 + m : Nat) : Int) by omega]
    exact bt_tb
  · obtain ⟨n, rfl⟩ : ∃ n : Nat, x = n := ⟨x.toNat, by omega⟩
    have q := ps2_0 n (by omega) 0 (by omega)
    exact ⟨q.2.1, q.2.2.1, q.2.2.2.1⟩
theorem pse2_4 : PSet 2 4 9 := by
  refine ⟨fun x y x0 x1 y0 y1 => ?_, fun x x0 x1 => ?_, rfl⟩
  · obtain ⟨n, rfl⟩ : ∃ n : Nat, x = n := ⟨x.toNat, by omega⟩
    obtain ⟨m, rfl⟩ : ∃ m : Nat, y = m := ⟨y.toNat, by omega⟩
    have q := (ps2_4 n (by omega) m (by omega)).1
    rw [← q, show ((n : Int) * 2 + (m : Int)) = ((n * 2 + m : Nat) : Int) by omega]
    exact bt_tb
  · obtain ⟨n, rfl⟩ : ∃ n : Nat, x = n := ⟨x.toNat, by omega⟩
    have q := ps2_4 n (by omega) 0 (by omega)
    exact ⟨q.2.1, q.2.2.1, q.2.2.2.1⟩
theorem pse3_0 : PSet 3 0 511 := by
  refine ⟨fun x y x0 x1 y0 y1 => ?_, fun x x0 x1 => ?_, rfl⟩
  · obtain ⟨n, rfl⟩ : ∃ n : Nat, x = n := ⟨x.toNat, by omega⟩
    obtain ⟨m, rfl⟩ : ∃ m : Nat, y = m := ⟨y.toNat, by omega⟩
    have q := (ps3_0 n (by omega) m (by omega)).1
    rw [← q, show ((n : Int) * 3 + (m : Int)) = ((n * 3 + m : Nat) : Int) by omega]
    exact bt_tb
  · obtain ⟨n, rfl⟩ : ∃ n : Nat, x = n := ⟨x.toNat, by omega⟩
    have q := ps3_0 n (by omega) 0 (by omega)
    exact ⟨q.2.1, q.2.2.1, q.2.2.2.1⟩
theorem pse3_4 : PSet 3 4 341 := by
  refine ⟨fun x y x0 x1 y0 y1 => ?_, fun x x0 x1 => ?_, rfl⟩
  · obtain ⟨n, rfl⟩ : ∃ n : Nat, x = n := ⟨x.toNat, by omega⟩
    obtain ⟨m, rfl⟩ : ∃ m : Nat, y = m := ⟨y.toNat, by omega⟩
    have q := (ps3_4 n (by omega) m (by omega)).1
    rw [← q, show ((n : Int) * 3 + (m : Int)) = ((n * 3 + m : Nat) : Int) by omega]
    exact bt_tb
  · obtain ⟨n, rfl⟩ : ∃ n : Nat, x = n := ⟨x.toNat, by omega⟩
    have q := ps3_4 n (by omega) 0 (by omega)
    exact ⟨q.2.1, q.2.2.1, q.2.2.2.1⟩
theorem pse3_20 : PSet 3 20 433 := by
  refine ⟨fun x y x0 x1 y0 y1 => ?_, fun x x0 x1 => ?_, rfl⟩
  · obtain ⟨n, rfl⟩ : ∃ n : Nat, x = n := ⟨x.toNat, by omega⟩
    obtain ⟨m, rfl⟩ : ∃ m : Nat, y = m := ⟨y.toNat, by omega⟩
    have q := (ps3_20 n (by omega) m (by omega)).1
    rw [← q, show ((n : Int) * 3 + (m : Int)) = ((n * 3 + m : Nat) : Int) by omega]
    exact bt_tb
  · obtain ⟨n, rfl⟩ : ∃ n : Nat, x = n := ⟨x.toNat, by omega⟩
    have q := ps3_20 n (by omega) 0 (by omega)
    exact ⟨q.2.1, q.2.2.1, q.2.2.2.1⟩
theorem pse3_32 : PSet 3 32 283 := by
  refine ⟨fun x y x0 x1 y0 y1 => ?_, fun x x0 x1 => ?_, rfl⟩
  · obtain ⟨n, rfl⟩ : ∃ n : Nat, x = n := ⟨x.toNat, by omega⟩
    obtain ⟨m, rfl⟩ : ∃ m : Nat, y = m := ⟨y.toNat, by omega⟩
    have q := (ps3_32 n (by omega) m (by omega)).1
    rw [← q, show ((n : Int) * 3 + (m : Int)) = ((n * 3 + m : Nat) : Int) by omega]
    exact bt_tb
  · obtain ⟨n, rfl⟩ : ∃ n : Nat, x = n := ⟨x.toNat, by omega⟩
    have q := ps3_32 n (by omega) 0 (by omega)
    exact ⟨q.2.1, q.2.2.1, q.2.2.2.1⟩
theorem pse3_36 : PSet 3 36 273 := by
  refine ⟨fun x y x0 x1 y0 y1 => ?_, fun x x0 x1 => ?_, rfl⟩
  · obtain ⟨n, rfl⟩ : ∃ n : Nat, x = n := ⟨x.toNat, by omega⟩
    obtain ⟨m, rfl⟩ : ∃ m : Nat, y = m := ⟨y.toNat, by omega⟩
    have q := (ps3_36 n (by omega) m (by omega)).1
    rw [← q, show ((n : Int) * 3 + (m : Int)) = ((n * 3 + m : Nat) : Int) by omega]
    exact bt_tb
  · obtain ⟨n, rfl⟩ : ∃ n : Nat, x = n := ⟨x.toNat, by omega⟩
    have q := ps3_36 n (by omega) 0 (by omega)
    exact ⟨q.2.1, q.2.2.1, q.2.2.2.1⟩
theorem PP_21 {p s : Int} {f T : Int → Int} (hs : PSet 2 p s) (e : ∀ i : Int, 0 ≤ i → i < 2 → T i = f i ∧ 0 ≤ f i ∧ f i < 2) : PPx 2 T p 2 ↔ KP 2 1 f 2 s := by
  obtain ⟨s1, s2, s3⟩ := hs
  constructor
  · rintro h x y z ⟨x0, x1, x2⟩ hy hz
    have x1 : x < 4 := x1
    rw [show x = (x / 2 % 2) * 2 + (x % 2) by omega, s1 _ _ (by omega) (by omega) (by omega) (by omega)] at x2
    show bt s (f (x / 2 % 2) * 2 + f (x % 2))
    obtain ⟨a1, a2, a3⟩ := e (x / 2 % 2) (by omega) (by omega)
    obtain ⟨b1, b2, b3⟩ := e (x % 2) (by omega) (by omega)
    rw [s1 _ _ a2 a3 b2 b3, ← a1, ← b1, h (x / 2 % 2) (by omega) (by omega), h (x % 2) (by omega) (by omega)]
    have u : lst 2 p (x / 2 % 2) = lst 2 p (x % 2) := by
      unfold lst
      rw [show (x / 2 % 2) / (2 * 2) = 0 by omega, show (x / 2 % 2) / 2 % 2 = 0 by omega, show (x / 2 % 2) % 2 = (x / 2 % 2) by omega, show (x % 2) / (2 * 2) = 0 by omega, show (x % 2) / 2 % 2 = 0 by omega, show (x % 2) % 2 = (x % 2) by omega, x2]
    rw [u]
  · intro h x x0 x1
    have g0 := s2 x (by omega) (by omega)
    have q : bt s (f ((x * 2 + pt p x) / 2 % 2) * 2 + f ((x * 2 + pt p x) % 2)) := h (x * 2 + pt p x) 0 0 ⟨by omega, by show (x * 2 + pt p x) < 4; omega, (s1 _ _ (by omega) (by omega) (by omega) (by omega)).mpr g0.2.2.symm⟩ (fun q => by omega) (fun q => by omega)
    rw [show ((x * 2 + pt p x) / 2 % 2) = x by omega, show ((x * 2 + pt p x) % 2) = (pt p x) by omega] at q
    have el : lst 2 p x = (pt p x) := by
      unfold lst
      rw [show x / (2 * 2) = 0 by omega, show x / 2 % 2 = 0 by omega, show x % 2 = x by omega, s3]
      omega
    obtain ⟨a1, a2, a3⟩ := e x x0 x1
    obtain ⟨b1, b2, b3⟩ := e (pt p x) (by omega) (by omega)
    rw [s1 _ _ a2 a3 b2 b3] at q
    rw [el, a1, b1]
    exact q
theorem PP_22 {p s : Int} {f T : Int → Int} (hs : PSet 2 p s) (e : ∀ i : Int, 0 ≤ i → i < 4 → T i = f i ∧ 0 ≤ f i ∧ f i < 2) : PPx 2 T p 4 ↔ KP 2 2 f 2 s := by
  obtain ⟨s1, s2, s3⟩ := hs
  constructor
  · rintro h x y z ⟨x0, x1, x2⟩ hy hz
    have x1 : x < 4 := x1
    obtain ⟨y0, y1, y2⟩ := hy (by omega)
    have y1 : y < 4 := y1
    rw [show x = (x / 2 % 2) * 2 + (x % 2) by omega, s1 _ _ (by omega) (by omega) (by omega) (by omega)] at x2
    rw [show y = (y / 2 % 2) * 2 + (y % 2) by omega, s1 _ _ (by omega) (by omega) (by omega) (by omega)] at y2
    show bt s (f ((x / 2 % 2) * 2 + (y / 2 % 2)) * 2 + f ((x % 2) * 2 + (y % 2)))
    obtain ⟨a1, a2, a3⟩ := e ((x / 2 % 2) * 2 + (y / 2 % 2)) (by omega) (by omega)
    obtain ⟨b1, b2, b3⟩ := e ((x % 2) * 2 + (y % 2)) (by omega) (by omega)
    rw [s1 _ _ a2 a3 b2 b3, ← a1, ← b1, h ((x / 2 % 2) * 2 + (y / 2 % 2)) (by omega) (by omega), h ((x % 2) * 2 + (y % 2)) (by omega) (by omega)]
    have u : lst 2 p ((x / 2 % 2) * 2 + (y / 2 % 2)) = lst 2 p ((x % 2) * 2 + (y % 2)) := by
      unfold lst
      rw [show ((x / 2 % 2) * 2 + (y / 2 % 2)) / (2 * 2) = 0 by omega, show ((x / 2 % 2) * 2 + (y / 2 % 2)) / 2 % 2 = (x / 2 % 2) by omega, show ((x / 2 % 2) * 2 + (y / 2 % 2)) % 2 = (y / 2 % 2) by omega, show ((x % 2) * 2 + (y % 2)) / (2 * 2) = 0 by omega, show ((x % 2) * 2 + (y % 2)) / 2 % 2 = (x % 2) by omega, show ((x % 2) * 2 + (y % 2)) % 2 = (y % 2) by omega, x2, y2]
    rw [u]
  · intro h x x0 x1
    have g0 := s2 (x / 2) (by omega) (by omega)
    have g1 := s2 (x % 2) (by omega) (by omega)
    have q : bt s (f ((((x / 2) * 2 + pt p (x / 2)) / 2 % 2) * 2 + (((x % 2) * 2 + pt p (x % 2)) / 2 % 2)) * 2 + f ((((x / 2) * 2 + pt p (x / 2)) % 2) * 2 + (((x % 2) * 2 + pt p (x % 2)) % 2))) := h ((x / 2) * 2 + pt p (x / 2)) ((x % 2) * 2 + pt p (x % 2)) 0 ⟨by omega, by show ((x / 2) * 2 + pt p (x / 2)) < 4; omega, (s1 _ _ (by omega) (by omega) (by omega) (by omega)).mpr g0.2.2.symm⟩ (fun _ => ⟨by omega, by show ((x % 2) * 2 + pt p (x % 2)) < 4; omega, (s1 _ _ (by omega) (by omega) (by omega) (by omega)).mpr g1.2.2.symm⟩) (fun q => by omega)
    rw [show ((((x / 2) * 2 + pt p (x / 2)) / 2 % 2) * 2 + (((x % 2) * 2 + pt p (x % 2)) / 2 % 2)) = x by omega, show ((((x / 2) * 2 + pt p (x / 2)) % 2) * 2 + (((x % 2) * 2 + pt p (x % 2)) % 2)) = (pt p (x / 2) * 2 + pt p (x % 2)) by omega] at q
    have el : lst 2 p x = (pt p (x / 2) * 2 + pt p (x % 2)) := by
      unfold lst
      rw [show x / (2 * 2) = 0 by omega, show x / 2 % 2 = x / 2 by omega, s3]
      omega
    obtain ⟨a1, a2, a3⟩ := e x x0 x1
    obtain ⟨b1, b2, b3⟩ := e (pt p (x / 2) * 2 + pt p (x % 2)) (by omega) (by omega)
    rw [s1 _ _ a2 a3 b2 b3] at q
    rw [el, a1, b1]
    exact q
theorem PP_23 {p s : Int} {f T : Int → Int} (hs : PSet 2 p s) (e : ∀ i : Int, 0 ≤ i → i < 8 → T i = f i ∧ 0 ≤ f i ∧ f i < 2) : PPx 2 T p 8 ↔ KP 2 3 f 2 s := by
  obtain ⟨s1, s2, s3⟩ := hs
  constructor
  · rintro h x y z ⟨x0, x1, x2⟩ hy hz
    have x1 : x < 4 := x1
    obtain ⟨y0, y1, y2⟩ := hy (by omega)
    have y1 : y < 4 := y1
    obtain ⟨z0, z1, z2⟩ := hz (by omega)
    have z1 : z < 4 := z1
    rw [show x = (x / 2 % 2) * 2 + (x % 2) by omega, s1 _ _ (by omega) (by omega) (by omega) (by omega)] at x2
    rw [show y = (y / 2 % 2) * 2 + (y % 2) by omega, s1 _ _ (by omega) (by omega) (by omega) (by omega)] at y2
    rw [show z = (z / 2 % 2) * 2 + (z % 2) by omega, s1 _ _ (by omega) (by omega) (by omega) (by omega)] at z2
    show bt s (f (((x / 2 % 2) * 2 + (y / 2 % 2)) * 2 + (z / 2 % 2)) * 2 + f (((x % 2) * 2 + (y % 2)) * 2 + (z % 2)))
    obtain ⟨a1, a2, a3⟩ := e (((x / 2 % 2) * 2 + (y / 2 % 2)) * 2 + (z / 2 % 2)) (by omega) (by omega)
    obtain ⟨b1, b2, b3⟩ := e (((x % 2) * 2 + (y % 2)) * 2 + (z % 2)) (by omega) (by omega)
    rw [s1 _ _ a2 a3 b2 b3, ← a1, ← b1, h (((x / 2 % 2) * 2 + (y / 2 % 2)) * 2 + (z / 2 % 2)) (by omega) (by omega), h (((x % 2) * 2 + (y % 2)) * 2 + (z % 2)) (by omega) (by omega)]
    have u : lst 2 p (((x / 2 % 2) * 2 + (y / 2 % 2)) * 2 + (z / 2 % 2)) = lst 2 p (((x % 2) * 2 + (y % 2)) * 2 + (z % 2)) := by
      unfold lst
      rw [show (((x / 2 % 2) * 2 + (y / 2 % 2)) * 2 + (z / 2 % 2)) / (2 * 2) = (x / 2 % 2) by omega, show (((x / 2 % 2) * 2 + (y / 2 % 2)) * 2 + (z / 2 % 2)) / 2 % 2 = (y / 2 % 2) by omega, show (((x / 2 % 2) * 2 + (y / 2 % 2)) * 2 + (z / 2 % 2)) % 2 = (z / 2 % 2) by omega, show (((x % 2) * 2 + (y % 2)) * 2 + (z % 2)) / (2 * 2) = (x % 2) by omega, show (((x % 2) * 2 + (y % 2)) * 2 + (z % 2)) / 2 % 2 = (y % 2) by omega, show (((x % 2) * 2 + (y % 2)) * 2 + (z % 2)) % 2 = (z % 2) by omega, x2, y2, z2]
    rw [u]
  · intro h x x0 x1
    have g0 := s2 (x / 4) (by omega) (by omega)
    have g1 := s2 (x / 2 % 2) (by omega) (by omega)
    have g2 := s2 (x % 2) (by omega) (by omega)
    have q : bt s (f (((((x / 4) * 2 + pt p (x / 4)) / 2 % 2) * 2 + (((x / 2 % 2) * 2 + pt p (x / 2 % 2)) / 2 % 2)) * 2 + (((x % 2) * 2 + pt p (x % 2)) / 2 % 2)) * 2 + f (((((x / 4) * 2 + pt p (x / 4)) % 2) * 2 + (((x / 2 % 2) * 2 + pt p (x / 2 % 2)) % 2)) * 2 + (((x % 2) * 2 + pt p (x % 2)) % 2))) := h ((x / 4) * 2 + pt p (x / 4)) ((x / 2 % 2) * 2 + pt p (x / 2 % 2)) ((x % 2) * 2 + pt p (x % 2)) ⟨by omega, by show ((x / 4) * 2 + pt p (x / 4)) < 4; omega, (s1 _ _ (by omega) (by omega) (by omega) (by omega)).mpr g0.2.2.symm⟩ (fun _ => ⟨by omega, by show ((x / 2 % 2) * 2 + pt p (x / 2 % 2)) < 4; omega, (s1 _ _ (by omega) (by omega) (by omega) (by omega)).mpr g1.2.2.symm⟩) (fun _ => ⟨by omega, by show ((x % 2) * 2 + pt p (x % 2)) < 4; omega, (s1 _ _ (by omega) (by omega) (by omega) (by omega)).mpr g2.2.2.symm⟩)
    rw [show (((((x / 4) * 2 + pt p (x / 4)) / 2 % 2) * 2 + (((x / 2 % 2) * 2 + pt p (x / 2 % 2)) / 2 % 2)) * 2 + (((x % 2) * 2 + pt p (x % 2)) / 2 % 2)) = x by omega, show (((((x / 4) * 2 + pt p (x / 4)) % 2) * 2 + (((x / 2 % 2) * 2 + pt p (x / 2 % 2)) % 2)) * 2 + (((x % 2) * 2 + pt p (x % 2)) % 2)) = ((pt p (x / 4) * 2 + pt p (x / 2 % 2)) * 2 + pt p (x % 2)) by omega] at q
    have el : lst 2 p x = ((pt p (x / 4) * 2 + pt p (x / 2 % 2)) * 2 + pt p (x % 2)) := by
      unfold lst
      rfl
    obtain ⟨a1, a2, a3⟩ := e x x0 x1
    obtain ⟨b1, b2, b3⟩ := e ((pt p (x / 4) * 2 + pt p (x / 2 % 2)) * 2 + pt p (x % 2)) (by omega) (by omega)
    rw [s1 _ _ a2 a3 b2 b3] at q
    rw [el, a1, b1]
    exact q
theorem PP_31 {p s : Int} {f T : Int → Int} (hs : PSet 3 p s) (e : ∀ i : Int, 0 ≤ i → i < 3 → T i = f i ∧ 0 ≤ f i ∧ f i < 3) : PPx 3 T p 3 ↔ KP 3 1 f 2 s := by
  obtain ⟨s1, s2, s3⟩ := hs
  constructor
  · rintro h x y z ⟨x0, x1, x2⟩ hy hz
    have x1 : x < 9 := x1
    rw [show x = (x / 3 % 3) * 3 + (x % 3) by omega, s1 _ _ (by omega) (by omega) (by omega) (by omega)] at x2
    show bt s (f (x / 3 % 3) * 3 + f (x % 3))
    obtain ⟨a1, a2, a3⟩ := e (x / 3 % 3) (by omega) (by omega)
    obtain ⟨b1, b2, b3⟩ := e (x % 3) (by omega) (by omega)
    rw [s1 _ _ a2 a3 b2 b3, ← a1, ← b1, h (x / 3 % 3) (by omega) (by omega), h (x % 3) (by omega) (by omega)]
    have u : lst 3 p (x / 3 % 3) = lst 3 p (x % 3) := by
      unfold lst
      rw [show (x / 3 % 3) / (3 * 3) = 0 by omega, show (x / 3 % 3) / 3 % 3 = 0 by omega, show (x / 3 % 3) % 3 = (x / 3 % 3) by omega, show (x % 3) / (3 * 3) = 0 by omega, show (x % 3) / 3 % 3 = 0 by omega, show (x % 3) % 3 = (x % 3) by omega, x2]
    rw [u]
  · intro h x x0 x1
    have g0 := s2 x (by omega) (by omega)
    have q : bt s (f ((x * 3 + pt p x) / 3 % 3) * 3 + f ((x * 3 + pt p x) % 3)) := h (x * 3 + pt p x) 0 0 ⟨by omega, by show (x * 3 + pt p x) < 9; omega, (s1 _ _ (by omega) (by omega) (by omega) (by omega)).mpr g0.2.2.symm⟩ (fun q => by omega) (fun q => by omega)
    rw [show ((x * 3 + pt p x) / 3 % 3) = x by omega, show ((x * 3 + pt p x) % 3) = (pt p x) by omega] at q
    have el : lst 3 p x = (pt p x) := by
      unfold lst
      rw [show x / (3 * 3) = 0 by omega, show x / 3 % 3 = 0 by omega, show x % 3 = x by omega, s3]
      omega
    obtain ⟨a1, a2, a3⟩ := e x x0 x1
    obtain ⟨b1, b2, b3⟩ := e (pt p x) (by omega) (by omega)
    rw [s1 _ _ a2 a3 b2 b3] at q
    rw [el, a1, b1]
    exact q
theorem PP_32 {p s : Int} {f T : Int → Int} (hs : PSet 3 p s) (e : ∀ i : Int, 0 ≤ i → i < 9 → T i = f i ∧ 0 ≤ f i ∧ f i < 3) : PPx 3 T p 9 ↔ KP 3 2 f 2 s := by
  obtain ⟨s1, s2, s3⟩ := hs
  constructor
  · rintro h x y z ⟨x0, x1, x2⟩ hy hz
    have x1 : x < 9 := x1
    obtain ⟨y0, y1, y2⟩ := hy (by omega)
    have y1 : y < 9 := y1
    rw [show x = (x / 3 % 3) * 3 + (x % 3) by omega, s1 _ _ (by omega) (by omega) (by omega) (by omega)] at x2
    rw [show y = (y / 3 % 3) * 3 + (y % 3) by omega, s1 _ _ (by omega) (by omega) (by omega) (by omega)] at y2
    show bt s (f ((x / 3 % 3) * 3 + (y / 3 % 3)) * 3 + f ((x % 3) * 3 + (y % 3)))
    obtain ⟨a1, a2, a3⟩ := e ((x / 3 % 3) * 3 + (y / 3 % 3)) (by omega) (by omega)
    obtain ⟨b1, b2, b3⟩ := e ((x % 3) * 3 + (y % 3)) (by omega) (by omega)
    rw [s1 _ _ a2 a3 b2 b3, ← a1, ← b1, h ((x / 3 % 3) * 3 + (y / 3 % 3)) (by omega) (by omega), h ((x % 3) * 3 + (y % 3)) (by omega) (by omega)]
    have u : lst 3 p ((x / 3 % 3) * 3 + (y / 3 % 3)) = lst 3 p ((x % 3) * 3 + (y % 3)) := by
      unfold lst
      rw [show ((x / 3 % 3) * 3 + (y / 3 % 3)) / (3 * 3) = 0 by omega, show ((x / 3 % 3) * 3 + (y / 3 % 3)) / 3 % 3 = (x / 3 % 3) by omega, show ((x / 3 % 3) * 3 + (y / 3 % 3)) % 3 = (y / 3 % 3) by omega, show ((x % 3) * 3 + (y % 3)) / (3 * 3) = 0 by omega, show ((x % 3) * 3 + (y % 3)) / 3 % 3 = (x % 3) by omega, show ((x % 3) * 3 + (y % 3)) % 3 = (y % 3) by omega, x2, y2]
    rw [u]
  · intro h x x0 x1
    have g0 := s2 (x / 3) (by omega) (by omega)
    have g1 := s2 (x % 3) (by omega) (by omega)
    have q : bt s (f ((((x / 3) * 3 + pt p (x / 3)) / 3 % 3) * 3 + (((x % 3) * 3 + pt p (x % 3)) / 3 % 3)) * 3 + f ((((x / 3) * 3 + pt p (x / 3)) % 3) * 3 + (((x % 3) * 3 + pt p (x % 3)) % 3))) := h ((x / 3) * 3 + pt p (x / 3)) ((x % 3) * 3 + pt p (x % 3)) 0 ⟨by omega, by show ((x / 3) * 3 + pt p (x / 3)) < 9; omega, (s1 _ _ (by omega) (by omega) (by omega) (by omega)).mpr g0.2.2.symm⟩ (fun _ => ⟨by omega, by show ((x % 3) * 3 + pt p (x % 3)) < 9; omega, (s1 _ _ (by omega) (by omega) (by omega) (by omega)).mpr g1.2.2.symm⟩) (fun q => by omega)
    rw [show ((((x / 3) * 3 + pt p (x / 3)) / 3 % 3) * 3 + (((x % 3) * 3 + pt p (x % 3)) / 3 % 3)) = x by omega, show ((((x / 3) * 3 + pt p (x / 3)) % 3) * 3 + (((x % 3) * 3 + pt p (x % 3)) % 3)) = (pt p (x / 3) * 3 + pt p (x % 3)) by omega] at q
    have el : lst 3 p x = (pt p (x / 3) * 3 + pt p (x % 3)) := by
      unfold lst
      rw [show x / (3 * 3) = 0 by omega, show x / 3 % 3 = x / 3 by omega, s3]
      omega
    obtain ⟨a1, a2, a3⟩ := e x x0 x1
    obtain ⟨b1, b2, b3⟩ := e (pt p (x / 3) * 3 + pt p (x % 3)) (by omega) (by omega)
    rw [s1 _ _ a2 a3 b2 b3] at q
    rw [el, a1, b1]
    exact q
theorem PP_33 {p s : Int} {f T : Int → Int} (hs : PSet 3 p s) (e : ∀ i : Int, 0 ≤ i → i < 27 → T i = f i ∧ 0 ≤ f i ∧ f i < 3) : PPx 3 T p 27 ↔ KP 3 3 f 2 s := by
  obtain ⟨s1, s2, s3⟩ := hs
  constructor
  · rintro h x y z ⟨x0, x1, x2⟩ hy hz
    have x1 : x < 9 := x1
    obtain ⟨y0, y1, y2⟩ := hy (by omega)
    have y1 : y < 9 := y1
    obtain ⟨z0, z1, z2⟩ := hz (by omega)
    have z1 : z < 9 := z1
    rw [show x = (x / 3 % 3) * 3 + (x % 3) by omega, s1 _ _ (by omega) (by omega) (by omega) (by omega)] at x2
    rw [show y = (y / 3 % 3) * 3 + (y % 3) by omega, s1 _ _ (by omega) (by omega) (by omega) (by omega)] at y2
    rw [show z = (z / 3 % 3) * 3 + (z % 3) by omega, s1 _ _ (by omega) (by omega) (by omega) (by omega)] at z2
    show bt s (f (((x / 3 % 3) * 3 + (y / 3 % 3)) * 3 + (z / 3 % 3)) * 3 + f (((x % 3) * 3 + (y % 3)) * 3 + (z % 3)))
    obtain ⟨a1, a2, a3⟩ := e (((x / 3 % 3) * 3 + (y / 3 % 3)) * 3 + (z / 3 % 3)) (by omega) (by omega)
    obtain ⟨b1, b2, b3⟩ := e (((x % 3) * 3 + (y % 3)) * 3 + (z % 3)) (by omega) (by omega)
    rw [s1 _ _ a2 a3 b2 b3, ← a1, ← b1, h (((x / 3 % 3) * 3 + (y / 3 % 3)) * 3 + (z / 3 % 3)) (by omega) (by omega), h (((x % 3) * 3 + (y % 3)) * 3 + (z % 3)) (by omega) (by omega)]
    have u : lst 3 p (((x / 3 % 3) * 3 + (y / 3 % 3)) * 3 + (z / 3 % 3)) = lst 3 p (((x % 3) * 3 + (y % 3)) * 3 + (z % 3)) := by
      unfold lst
      rw [show (((x / 3 % 3) * 3 + (y / 3 % 3)) * 3 + (z / 3 % 3)) / (3 * 3) = (x / 3 % 3) by omega, show (((x / 3 % 3) * 3 + (y / 3 % 3)) * 3 + (z / 3 % 3)) / 3 % 3 = (y / 3 % 3) by omega, show (((x / 3 % 3) * 3 + (y / 3 % 3)) * 3 + (z / 3 % 3)) % 3 = (z / 3 % 3) by omega, show (((x % 3) * 3 + (y % 3)) * 3 + (z % 3)) / (3 * 3) = (x % 3) by omega, show (((x % 3) * 3 + (y % 3)) * 3 + (z % 3)) / 3 % 3 = (y % 3) by omega, show (((x % 3) * 3 + (y % 3)) * 3 + (z % 3)) % 3 = (z % 3) by omega, x2, y2, z2]
    rw [u]
  · intro h x x0 x1
    have g0 := s2 (x / 9) (by omega) (by omega)
    have g1 := s2 (x / 3 % 3) (by omega) (by omega)
    have g2 := s2 (x % 3) (by omega) (by omega)
    have q : bt s (f (((((x / 9) * 3 + pt p (x / 9)) / 3 % 3) * 3 + (((x / 3 % 3) * 3 + pt p (x / 3 % 3)) / 3 % 3)) * 3 + (((x % 3) * 3 + pt p (x % 3)) / 3 % 3)) * 3 + f (((((x / 9) * 3 + pt p (x / 9)) % 3) * 3 + (((x / 3 % 3) * 3 + pt p (x / 3 % 3)) % 3)) * 3 + (((x % 3) * 3 + pt p (x % 3)) % 3))) := h ((x / 9) * 3 + pt p (x / 9)) ((x / 3 % 3) * 3 + pt p (x / 3 % 3)) ((x % 3) * 3 + pt p (x % 3)) ⟨by omega, by show ((x / 9) * 3 + pt p (x / 9)) < 9; omega, (s1 _ _ (by omega) (by omega) (by omega) (by omega)).mpr g0.2.2.symm⟩ (fun _ => ⟨by omega, by show ((x / 3 % 3) * 3 + pt p (x / 3 % 3)) < 9; omega, (s1 _ _ (by omega) (by omega) (by omega) (by omega)).mpr g1.2.2.symm⟩) (fun _ => ⟨by omega, by show ((x % 3) * 3 + pt p (x % 3)) < 9; omega, (s1 _ _ (by omega) (by omega) (by omega) (by omega)).mpr g2.2.2.symm⟩)
    rw [show (((((x / 9) * 3 + pt p (x / 9)) / 3 % 3) * 3 + (((x / 3 % 3) * 3 + pt p (x / 3 % 3)) / 3 % 3)) * 3 + (((x % 3) * 3 + pt p (x % 3)) / 3 % 3)) = x by omega, show (((((x / 9) * 3 + pt p (x / 9)) % 3) * 3 + (((x / 3 % 3) * 3 + pt p (x / 3 % 3)) % 3)) * 3 + (((x % 3) * 3 + pt p (x % 3)) % 3)) = ((pt p (x / 9) * 3 + pt p (x / 3 % 3)) * 3 + pt p (x % 3)) by omega] at q
    have el : lst 3 p x = ((pt p (x / 9) * 3 + pt p (x / 3 % 3)) * 3 + pt p (x % 3)) := by
      unfold lst
      rfl
    obtain ⟨a1, a2, a3⟩ := e x x0 x1
    obtain ⟨b1, b2, b3⟩ := e ((pt p (x / 9) * 3 + pt p (x / 3 % 3)) * 3 + pt p (x % 3)) (by omega) (by omega)
    rw [s1 _ _ a2 a3 b2 b3] at q
    rw [el, a1, b1]
    exact q
theorem PP {d m p s : Int} {f T : Int → Int} (hd : d = 2 ∨ d = 3) (hm : 1 ≤ m ∧ m ≤ 3) (hs : PSet d p s) (e : ∀ i : Int, 0 ≤ i → i < pw d m → T i = f i ∧ 0 ≤ f i ∧ f i < d) : PPx d T p (pw d m) ↔ KP d m f 2 s := by
  rcases hd with rfl | rfl <;> rcases (show m = 1 ∨ m = 2 ∨ m = 3 by omega) with rfl | rfl | rfl
  · exact PP_21 hs e
  · exact PP_22 hs e
  · exact PP_23 hs e
  · exact PP_31 hs e
  · exact PP_32 hs e
  · exact PP_33 hs e
theorem RL.ppa {d ac p s : Int} {M0 M : nM} (hd : d = 2 ∨ d = 3) (h : RL d M) (hS : Sf d ac M0 M) (hs : PSet d p s) : PPa d M p ↔ AKP d M 2 s := by
  have g1 := h.2.1.1
  have key : ∀ a : Int, 0 ≤ a → a < M 3 14 → (PPx d (fun i => M (55 + 3 * a + 1) i) p (M (55 + 3 * a) 1) ↔ KP d (M 116 a) (fun i => M 117 (27 * a + i)) 2 s) := fun a h0 h1 => by
    obtain ⟨x1, x2, x3, x4⟩ := h.tl hd h0 h1
    have hb := t_3_14x hS
    have hp := pw_r hd x1
    rw [x3]
    refine PP hd x1 hs (fun i i0 i1 => ?_)
    have q := x4 i i0 i1
    have t := t_actrl hS (q := 55 + 3 * a) (by unfold ActAt; omega) (by have := t_ac hS; omega) (Or.inl rfl) (i := i) i0 (by omega)
    exact ⟨q, by show 0 ≤ M 117 (27 * a + i); omega, by show M 117 (27 * a + i) < d; omega⟩
  constructor
  · intro q a h0 h1
    exact (key a h0 (by omega)).mp (q a h0 (by omega))
  · intro q a h0 h1
    exact (key a h0 h1).mpr (q a h0 (by omega))
theorem cf_flat {g : Int → Int} {a : Nat} : ∀ n : Nat, (∀ i : Int, (a : Int) ≤ i → i < (a : Int) + n → g i = 0) → cf g (a + n) = cf g a := by
  intro n
  induction n with
  | zero => intro _; rfl
  | succ n ih =>
    intro h
    show cf g (a + n) + g ((a + n : Nat) : Int) = cf g a
    rw [ih (fun i h0 h1 => h i h0 (by omega)), h ((a + n : Nat) : Int) (by omega) (by omega)]
    omega
theorem cf_s1 {g : Int → Int} (n : Nat) : cf g (n + 1) = cf g n + g n := rfl
def mPr (g : Int → Int) (n : Nat) (i z : Int) : Prop := (z = -1 ∧ (i < 0 ∨ cf g n ≤ i)) ∨ (0 ≤ z ∧ z < n ∧ g z = 1 ∧ i = cf g z.toNat)
theorem pg2_z {M : nM} {n : Int} (h0 : n ≠ 0) (h4 : n ≠ 4) : pg2 M n = 0 := by
  unfold pg2
  rw [if_neg h0, if_neg h4]
theorem pg2_0 {M : nM} : pg2 M 0 = bb (AKP 2 M 2 15) := rfl
theorem pg2_4 {M : nM} : pg2 M 4 = bb (AKP 2 M 2 9) := rfl
theorem pg2_cf {M : nM} : cf (pg2 M) 0 = 0 ∧ cf (pg2 M) 4 = bb (AKP 2 M 2 15) ∧ cf (pg2 M) 16 = bb (AKP 2 M 2 15) + bb (AKP 2 M 2 9) := by
  have c0 : cf (pg2 M) 0 = 0 := rfl
  have d0 : cf (pg2 M) 1 = cf (pg2 M) 0 + bb (AKP 2 M 2 15) := rfl
  have c4 : cf (pg2 M) 4 = cf (pg2 M) 1 := cf_flat (a := 1) 3 (fun i h0 h1 => pg2_z (by omega) (by omega))
  have d4 : cf (pg2 M) 5 = cf (pg2 M) 4 + bb (AKP 2 M 2 9) := rfl
  have c16 : cf (pg2 M) 16 = cf (pg2 M) 5 := cf_flat (a := 5) 11 (fun i h0 h1 => pg2_z (by omega) (by omega))
  refine ⟨?_, ?_, ?_⟩ <;> omega
theorem pg3_z {M : nM} {n : Int} (h0 : n ≠ 0) (h4 : n ≠ 4) (h20 : n ≠ 20) (h32 : n ≠ 32) (h36 : n ≠ 36) : pg3 M n = 0 := by
  unfold pg3
  rw [if_neg h0, if_neg h4, if_neg h20, if_neg h32, if_neg h36]
theorem pg3_0 {M : nM} : pg3 M 0 = bb (AKP 3 M 2 511) := rfl
theorem pg3_4 {M : nM} : pg3 M 4 = bb (AKP 3 M 2 341) := rfl
theorem pg3_20 {M : nM} : pg3 M 20 = bb (AKP 3 M 2 433) := rfl
theorem pg3_32 {M : nM} : pg3 M 32 = bb (AKP 3 M 2 283) := rfl
theorem pg3_36 {M : nM} : pg3 M 36 = bb (AKP 3 M 2 273) := rfl
theorem pg3_cf {M : nM} : cf (pg3 M) 0 = 0 ∧ cf (pg3 M) 4 = bb (AKP 3 M 2 511) ∧ cf (pg3 M) 20 = bb (AKP 3 M 2 511) + bb (AKP 3 M 2 341) ∧ cf (pg3 M) 32 = bb (AKP 3 M 2 511) + bb (AKP 3 M 2 341) + bb (AKP 3 M 2 433) ∧ cf (pg3 M) 36 = bb (AKP 3 M 2 511) + bb (AKP 3 M 2 341) + bb (AKP 3 M 2 433) + bb (AKP 3 M 2 283) ∧ cf (pg3 M) 64 = bb (AKP 3 M 2 511) + bb (AKP 3 M 2 341) + bb (AKP 3 M 2 433) + bb (AKP 3 M 2 283) + bb (AKP 3 M 2 273) := by
  have c0 : cf (pg3 M) 0 = 0 := rfl
  have d0 : cf (pg3 M) 1 = cf (pg3 M) 0 + bb (AKP 3 M 2 511) := rfl
  have c4 : cf (pg3 M) 4 = cf (pg3 M) 1 := cf_flat (a := 1) 3 (fun i h0 h1 => pg3_z (by omega) (by omega) (by omega) (by omega) (by omega))
  have d4 : cf (pg3 M) 5 = cf (pg3 M) 4 + bb (AKP 3 M 2 341) := rfl
  have c20 : cf (pg3 M) 20 = cf (pg3 M) 5 := cf_flat (a := 5) 15 (fun i h0 h1 => pg3_z (by omega) (by omega) (by omega) (by omega) (by omega))
  have d20 : cf (pg3 M) 21 = cf (pg3 M) 20 + bb (AKP 3 M 2 433) := rfl
  have c32 : cf (pg3 M) 32 = cf (pg3 M) 21 := cf_flat (a := 21) 11 (fun i h0 h1 => pg3_z (by omega) (by omega) (by omega) (by omega) (by omega))
  have d32 : cf (pg3 M) 33 = cf (pg3 M) 32 + bb (AKP 3 M 2 283) := rfl
  have c36 : cf (pg3 M) 36 = cf (pg3 M) 33 := cf_flat (a := 33) 3 (fun i h0 h1 => pg3_z (by omega) (by omega) (by omega) (by omega) (by omega))
  have d36 : cf (pg3 M) 37 = cf (pg3 M) 36 + bb (AKP 3 M 2 273) := rfl
  have c64 : cf (pg3 M) 64 = cf (pg3 M) 37 := cf_flat (a := 37) 27 (fun i h0 h1 => pg3_z (by omega) (by omega) (by omega) (by omega) (by omega))
  refine ⟨?_, ?_, ?_, ?_, ?_, ?_⟩ <;> omega
def cPr2 (i z : Int) (M : nM) : Prop := (z = -1 ∧ (i < 0 ∨ bb (PPa 2 M 0) + bb (PPa 2 M 4) ≤ i)) ∨ (bb (PPa 2 M 0) = 1 ∧ i = 0 ∧ z = 0) ∨ (bb (PPa 2 M 4) = 1 ∧ i = bb (PPa 2 M 0) ∧ z = 4)
theorem RL.prs2 {ac z z2 : Int} {M0 M : nM} (h : RL 2 M) (hS : Sf 2 ac M0 M) (c : z = bb (PPa 2 M 0) + bb (PPa 2 M 4)) (m : z2 = cf (pg2 M) 16) : z = z2 := by
  have hd : (2 : Int) = 2 ∨ (2 : Int) = 3 := by decide
  have e0 : bb (PPa 2 M 0) = bb (AKP 2 M 2 15) := bb_c (h.ppa hd hS pse2_0)
  have e4 : bb (PPa 2 M 4) = bb (AKP 2 M 2 9) := bb_c (h.ppa hd hS pse2_4)
  have q := pg2_cf (M := M)
  omega
theorem RL.pri2 {ac i z z2 : Int} {M0 M : nM} (h : RL 2 M) (hS : Sf 2 ac M0 M) (c : cPr2 i z M) (m : mPr (pg2 M) 16 i z2) : z = z2 := by
  have hd : (2 : Int) = 2 ∨ (2 : Int) = 3 := by decide
  have e0 : bb (PPa 2 M 0) = bb (AKP 2 M 2 15) := bb_c (h.ppa hd hS pse2_0)
  have r0 := bb_r (AKP 2 M 2 15)
  have e4 : bb (PPa 2 M 4) = bb (AKP 2 M 2 9) := bb_c (h.ppa hd hS pse2_4)
  have r4 := bb_r (AKP 2 M 2 9)
  have q := pg2_cf (M := M)
  unfold cPr2 at c
  rcases m with ⟨m1, m2⟩ | ⟨m1, m2, m3, m4⟩
  · omega
  · have u : z2 = 0 ∨ z2 = 4 := by
      by_cases v : z2 = 0 ∨ z2 = 4
      · exact v
      · rw [pg2_z (by omega) (by omega)] at m3
        omega
    rcases u with rfl | rfl
    · have m3 : bb (AKP 2 M 2 15) = 1 := m3
      have m4 : i = cf (pg2 M) 0 := m4
      omega
    · have m3 : bb (AKP 2 M 2 9) = 1 := m3
      have m4 : i = cf (pg2 M) 4 := m4
      omega
def cPr3 (i z : Int) (M : nM) : Prop := (z = -1 ∧ (i < 0 ∨ bb (PPa 3 M 0) + bb (PPa 3 M 4) + bb (PPa 3 M 20) + bb (PPa 3 M 32) + bb (PPa 3 M 36) ≤ i)) ∨ (bb (PPa 3 M 0) = 1 ∧ i = 0 ∧ z = 0) ∨ (bb (PPa 3 M 4) = 1 ∧ i = bb (PPa 3 M 0) ∧ z = 4) ∨ (bb (PPa 3 M 20) = 1 ∧ i = bb (PPa 3 M 0) + bb (PPa 3 M 4) ∧ z = 20) ∨ (bb (PPa 3 M 32) = 1 ∧ i = bb (PPa 3 M 0) + bb (PPa 3 M 4) + bb (PPa 3 M 20) ∧ z = 32) ∨ (bb (PPa 3 M 36) = 1 ∧ i = bb (PPa 3 M 0) + bb (PPa 3 M 4) + bb (PPa 3 M 20) + bb (PPa 3 M 32) ∧ z = 36)
theorem cPr3_n {i z : Int} {M : nM} (hz : z = -1) (h : i < 0 ∨ bb (PPa 3 M 0) + bb (PPa 3 M 4) + bb (PPa 3 M 20) + bb (PPa 3 M 32) + bb (PPa 3 M 36) ≤ i) : cPr3 i z M := Or.inl ⟨hz, h⟩
theorem cPr3_0 {i z : Int} {M : nM} (hz : 0 ≤ z ∧ z ≤ 0) (hb : bb (PPa 3 M 0) = 1) (hi : i = 0) : cPr3 i z M := Or.inr (Or.inl ⟨hb, hi, Int.le_antisymm hz.2 hz.1⟩)
theorem cPr3_4 {i z : Int} {M : nM} (hz : 4 ≤ z ∧ z ≤ 4) (hb : bb (PPa 3 M 4) = 1) (hi : i = bb (PPa 3 M 0)) : cPr3 i z M := Or.inr (Or.inr (Or.inl ⟨hb, hi, Int.le_antisymm hz.2 hz.1⟩))
theorem cPr3_20 {i z : Int} {M : nM} (hz : 20 ≤ z ∧ z ≤ 20) (hb : bb (PPa 3 M 20) = 1) (hi : i = bb (PPa 3 M 0) + bb (PPa 3 M 4)) : cPr3 i z M := Or.inr (Or.inr (Or.inr (Or.inl ⟨hb, hi, Int.le_antisymm hz.2 hz.1⟩)))
theorem cPr3_32 {i z : Int} {M : nM} (hz : 32 ≤ z ∧ z ≤ 32) (hb : bb (PPa 3 M 32) = 1) (hi : i = bb (PPa 3 M 0) + bb (PPa 3 M 4) + bb (PPa 3 M 20)) : cPr3 i z M := Or.inr (Or.inr (Or.inr (Or.inr (Or.inl ⟨hb, hi, Int.le_antisymm hz.2 hz.1⟩))))
theorem cPr3_36 {i z : Int} {M : nM} (hz : 36 ≤ z ∧ z ≤ 36) (hb : bb (PPa 3 M 36) = 1) (hi : i = bb (PPa 3 M 0) + bb (PPa 3 M 4) + bb (PPa 3 M 20) + bb (PPa 3 M 32)) : cPr3 i z M := Or.inr (Or.inr (Or.inr (Or.inr (Or.inr ⟨hb, hi, Int.le_antisymm hz.2 hz.1⟩))))
theorem RL.prs3 {ac z z2 : Int} {M0 M : nM} (h : RL 3 M) (hS : Sf 3 ac M0 M) (c : z = bb (PPa 3 M 0) + bb (PPa 3 M 4) + bb (PPa 3 M 20) + bb (PPa 3 M 32) + bb (PPa 3 M 36)) (m : z2 = cf (pg3 M) 64) : z = z2 := by
  have hd : (3 : Int) = 2 ∨ (3 : Int) = 3 := by decide
  have e0 : bb (PPa 3 M 0) = bb (AKP 3 M 2 511) := bb_c (h.ppa hd hS pse3_0)
  have e4 : bb (PPa 3 M 4) = bb (AKP 3 M 2 341) := bb_c (h.ppa hd hS pse3_4)
  have e20 : bb (PPa 3 M 20) = bb (AKP 3 M 2 433) := bb_c (h.ppa hd hS pse3_20)
  have e32 : bb (PPa 3 M 32) = bb (AKP 3 M 2 283) := bb_c (h.ppa hd hS pse3_32)
  have e36 : bb (PPa 3 M 36) = bb (AKP 3 M 2 273) := bb_c (h.ppa hd hS pse3_36)
  have q := pg3_cf (M := M)
  omega
theorem RL.pri3 {ac i z z2 : Int} {M0 M : nM} (h : RL 3 M) (hS : Sf 3 ac M0 M) (c : cPr3 i z M) (m : mPr (pg3 M) 64 i z2) : z = z2 := by
  have hd : (3 : Int) = 2 ∨ (3 : Int) = 3 := by decide
  have e0 : bb (PPa 3 M 0) = bb (AKP 3 M 2 511) := bb_c (h.ppa hd hS pse3_0)
  have r0 := bb_r (AKP 3 M 2 511)
  have e4 : bb (PPa 3 M 4) = bb (AKP 3 M 2 341) := bb_c (h.ppa hd hS pse3_4)
  have r4 := bb_r (AKP 3 M 2 341)
  have e20 : bb (PPa 3 M 20) = bb (AKP 3 M 2 433) := bb_c (h.ppa hd hS pse3_20)
  have r20 := bb_r (AKP 3 M 2 433)
  have e32 : bb (PPa 3 M 32) = bb (AKP 3 M 2 283) := bb_c (h.ppa hd hS pse3_32)
  have r32 := bb_r (AKP 3 M 2 283)
  have e36 : bb (PPa 3 M 36) = bb (AKP 3 M 2 273) := bb_c (h.ppa hd hS pse3_36)
  have r36 := bb_r (AKP 3 M 2 273)
  have q := pg3_cf (M := M)
  unfold cPr3 at c
  rcases m with ⟨m1, m2⟩ | ⟨m1, m2, m3, m4⟩
  · omega
  · have u : z2 = 0 ∨ z2 = 4 ∨ z2 = 20 ∨ z2 = 32 ∨ z2 = 36 := by
      by_cases v : z2 = 0 ∨ z2 = 4 ∨ z2 = 20 ∨ z2 = 32 ∨ z2 = 36
      · exact v
      · rw [pg3_z (by omega) (by omega) (by omega) (by omega) (by omega)] at m3
        omega
    rcases u with rfl | rfl | rfl | rfl | rfl
    · have m3 : bb (AKP 3 M 2 511) = 1 := m3
      have m4 : i = cf (pg3 M) 0 := m4
      omega
    · have m3 : bb (AKP 3 M 2 341) = 1 := m3
      have m4 : i = cf (pg3 M) 4 := m4
      omega
    · have m3 : bb (AKP 3 M 2 433) = 1 := m3
      have m4 : i = cf (pg3 M) 20 := m4
      omega
    · have m3 : bb (AKP 3 M 2 283) = 1 := m3
      have m4 : i = cf (pg3 M) 32 := m4
      omega
    · have m3 : bb (AKP 3 M 2 273) = 1 := m3
      have m4 : i = cf (pg3 M) 36 := m4
      omega
