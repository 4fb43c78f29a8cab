/-! Heaps. -/
def th (d p r : Int) : Int := if p = 1 then n_shl 1 (r % d) else if p = 2 then n_or (n_shl 1 (r % d)) (n_shl 1 (r / d % d)) else n_or (n_or (n_shl 1 (r % d)) (n_shl 1 (r / d % d))) (n_shl 1 (r / (d * d)))
def inD (d m s r : Int) : Prop := bt s (r % d) ∧ (1 < m → bt s (r / d % d)) ∧ (2 < m → bt s (r / (d * d)))
theorem th_1 : ∀ s : Nat, s < 8 → ∀ a : Nat, a < 3 → (n_and (n_shl 1 (a : Int)) (s : Int) = n_shl 1 (a : Int) ↔ s.testBit a = true) := by decide +kernel
theorem th_2 : ∀ s : Nat, s < 8 → ∀ a : Nat, a < 3 → ∀ b : Nat, b < 3 → (n_and (n_or (n_shl 1 (a : Int)) (n_shl 1 (b : Int))) (s : Int) = n_or (n_shl 1 (a : Int)) (n_shl 1 (b : Int)) ↔ (s.testBit a = true ∧ s.testBit b = true)) := by decide +kernel
theorem th_3n : ∀ s : Nat, s < 8 → ∀ p : Nat, p < 27 → (n_and (n_or (n_or (n_shl 1 ((p / 9 : Nat) : Int)) (n_shl 1 ((p / 3 % 3 : Nat) : Int))) (n_shl 1 ((p % 3 : Nat) : Int))) (s : Int) = n_or (n_or (n_shl 1 ((p / 9 : Nat) : Int)) (n_shl 1 ((p / 3 % 3 : Nat) : Int))) (n_shl 1 ((p % 3 : Nat) : Int)) ↔ (s.testBit (p / 9) = true ∧ s.testBit (p / 3 % 3) = true ∧ s.testBit (p % 3) = true)) := by decide +kernel
theorem th_3 (s : Nat) (hs : s < 8) (a : Nat) (ha : a < 3) (b : Nat) (hb : b < 3) (c : Nat) (hc : c < 3) : n_and (n_or (n_or (n_shl 1 (a : Int)) (n_shl 1 (b : Int))) (n_shl 1 (c : Int))) (s : Int) = n_or (n_or (n_shl 1 (a : Int)) (n_shl 1 (b : Int))) (n_shl 1 (c : Int)) ↔ (s.testBit a = true ∧ s.testBit b = true ∧ s.testBit c = true) := by
  have q := th_3n s hs (a * 9 + b * 3 + c) (by omega)
  rw [show (a * 9 + b * 3 + c) / 9 = a by omega, show (a * 9 + b * 3 + c) / 3 % 3 = b by omega, show (a * 9 + b * 3 + c) % 3 = c by omega] at q
  exact q
theorem th_in {d m s r : Int} (hd : d = 2 ∨ d = 3) (hm : 1 ≤ m ∧ m ≤ 3) (hs : 0 ≤ s ∧ s ≤ 7) (hr : 0 ≤ r ∧ r < d * d * d) : n_and (th d m r) s = th d m r ↔ inD d m s r := by
  have g1 : 0 ≤ r % d ∧ r % d < 3 ∧ 0 ≤ r / d % d ∧ r / d % d < 3 ∧ 0 ≤ r / (d * d) ∧ r / (d * d) < 3 := by rcases hd with rfl | rfl <;> omega
  obtain ⟨t, rfl⟩ : ∃ t : Nat, s = t := ⟨s.toNat, by omega⟩
  obtain ⟨a, ha⟩ : ∃ a : Nat, r % d = a := ⟨(r % d).toNat, by omega⟩
  obtain ⟨b, hb⟩ : ∃ b : Nat, r / d % d = b := ⟨(r / d % d).toNat, by omega⟩
  obtain ⟨c, hc⟩ : ∃ c : Nat, r / (d * d) = c := ⟨(r / (d * d)).toNat, by omega⟩
  unfold th inD
  rw [ha, hb, hc, bt_tb, bt_tb, bt_tb]
  rcases (show m = 1 ∨ m = 2 ∨ m = 3 by omega) with rfl | rfl | rfl
  · rw [if_pos rfl, th_1 t (by omega) a (by omega)]
    exact ⟨fun h => ⟨h, fun q => by omega, fun q => by omega⟩, fun h => h.1⟩
  · rw [if_neg (by decide), if_pos rfl, th_2 t (by omega) a (by omega) b (by omega)]
    exact ⟨fun h => ⟨h.1, fun _ => h.2, fun q => by omega⟩, fun h => ⟨h.1, h.2.1 (by omega)⟩⟩
  · rw [if_neg (by decide), if_neg (by decide), th_3 t (by omega) a (by omega) b (by omega) c (by omega)]
    exact ⟨fun h => ⟨h.1, fun _ => h.2.1, fun _ => h.2.2⟩, fun h => ⟨h.1, h.2.1 (by omega), h.2.2 (by omega)⟩⟩
def SIx (d m : Int) (T : Int → Int) (s n : Int) : Prop := ∀ x : Int, 0 ≤ x → x < n → inD d m s x → bt s (T x)
theorem SIx.step {d m s n : Int} {T : Int → Int} (h : SIx d m T s n) (q : inD d m s n → bt s (T n)) : SIx d m T s (n + 1) := fun x h0 h1 hx => by
  by_cases e : x = n
  · rw [e] at hx ⊢
    exact q hx
  · exact h x h0 (by omega) hx
def HPc (d : Int) (M : nM) (s : Int) : Prop := ∀ a : Int, 0 ≤ a → a < M 3 14 → SIx d (M (55 + 3 * a) 0) (fun i => M (55 + 3 * a + 1) i) s (M (55 + 3 * a) 1)
theorem KP1_21 {s : Int} {f T : Int → Int} (e : ∀ i : Int, 0 ≤ i → i < 2 → T i = f i) : SIx 2 1 T s 2 ↔ KP 2 1 f 1 s := by
  constructor
  · rintro h x y z ⟨x0, x1, x2⟩ hy hz
    have x1 : x < 2 := x1
    show bt s (f (x % 2))
    rw [show (x % 2) = x by omega, ← e x (by omega) (by omega)]
    exact h x (by omega) (by omega) ⟨by rw [show x % 2 = x by omega]; exact x2, fun q => by omega, fun q => by omega⟩
  · rintro h x x0 x1 ⟨h1, h2, h3⟩
    rw [e x x0 x1]
    have q : bt s (f (x % 2)) := h x 0 0 ⟨x0, x1, by rw [show x % 2 = x by omega] at h1; exact h1⟩ (fun q => by omega) (fun q => by omega)
    rw [show x % 2 = x by omega] at q
    exact q
theorem KP1_22 {s : Int} {f T : Int → Int} (e : ∀ i : Int, 0 ≤ i → i < 4 → T i = f i) : SIx 2 2 T s 4 ↔ KP 2 2 f 1 s := by
  constructor
  · rintro h x y z ⟨x0, x1, x2⟩ hy hz
    have x1 : x < 2 := x1
    obtain ⟨y0, y1, y2⟩ := hy (by omega)
    have y1 : y < 2 := y1
    show bt s (f (x % 2 * 2 + y % 2))
    rw [show (x % 2 * 2 + y % 2) = (x * 2 + y) by omega, ← e (x * 2 + y) (by omega) (by omega)]
    exact h (x * 2 + y) (by omega) (by omega) ⟨by rw [show (x * 2 + y) % 2 = y by omega]; exact y2, fun _ => by rw [show (x * 2 + y) / 2 % 2 = x by omega]; exact x2, fun q => by omega⟩
  · rintro h x x0 x1 ⟨h1, h2, h3⟩
    rw [e x x0 x1]
    have q : bt s (f (x / 2 % 2 % 2 * 2 + x % 2 % 2)) := h (x / 2 % 2) (x % 2) 0 ⟨by omega, by show x / 2 % 2 < 2; omega, h2 (by omega)⟩ (fun _ => ⟨by omega, by show x % 2 < 2; omega, h1⟩) (fun q => by omega)
    rw [show x / 2 % 2 % 2 * 2 + x % 2 % 2 = x by omega] at q
    exact q
theorem KP1_23 {s : Int} {f T : Int → Int} (e : ∀ i : Int, 0 ≤ i → i < 8 → T i = f i) : SIx 2 3 T s 8 ↔ KP 2 3 f 1 s := by
  constructor
  · rintro h x y z ⟨x0, x1, x2⟩ hy hz
    have x1 : x < 2 := x1
    obtain ⟨y0, y1, y2⟩ := hy (by omega)
    have y1 : y < 2 := y1
    obtain ⟨z0, z1, z2⟩ := hz (by omega)
    have z1 : z < 2 := z1
    show bt s (f ((x % 2 * 2 + y % 2) * 2 + z % 2))
    rw [show ((x % 2 * 2 + y % 2) * 2 + z % 2) = ((x * 2 + y) * 2 + z) by omega, ← e ((x * 2 + y) * 2 + z) (by omega) (by omega)]
    exact h ((x * 2 + y) * 2 + z) (by omega) (by omega) ⟨by rw [show ((x * 2 + y) * 2 + z) % 2 = z by omega]; exact z2, fun _ => by rw [show ((x * 2 + y) * 2 + z) / 2 % 2 = y by omega]; exact y2, fun _ => by rw [show ((x * 2 + y) * 2 + z) / (2 * 2) = x by omega]; exact x2⟩
  · rintro h x x0 x1 ⟨h1, h2, h3⟩
    rw [e x x0 x1]
    have q : bt s (f ((x / (2 * 2) % 2 * 2 + x / 2 % 2 % 2) * 2 + x % 2 % 2)) := h (x / (2 * 2)) (x / 2 % 2) (x % 2) ⟨by omega, by show x / (2 * 2) < 2; omega, h3 (by omega)⟩ (fun _ => ⟨by omega, by show x / 2 % 2 < 2; omega, h2 (by omega)⟩) (fun _ => ⟨by omega, by show x % 2 < 2; omega, h1⟩)
    rw [show (x / (2 * 2) % 2 * 2 + x / 2 % 2 % 2) * 2 + x % 2 % 2 = x by omega] at q
    exact q
theorem KP1_31 {s : Int} {f T : Int → Int} (e : ∀ i : Int, 0 ≤ i → i < 3 → T i = f i) : SIx 3 1 T s 3 ↔ KP 3 1 f 1 s := by
  constructor
  · rintro h x y z ⟨x0, x1, x2⟩ hy hz
    have x1 : x < 3 := x1
    show bt s (f (x % 3))
    rw [show (x % 3) = x by omega, ← e x (by omega) (by omega)]
    exact h x (by omega) (by omega) ⟨by rw [show x % 3 = x by omega]; exact x2, fun q => by omega, fun q => by omega⟩
  · rintro h x x0 x1 ⟨h1, h2, h3⟩
    rw [e x x0 x1]
    have q : bt s (f (x % 3)) := h x 0 0 ⟨x0, x1, by rw [show x % 3 = x by omega] at h1; exact h1⟩ (fun q => by omega) (fun q => by omega)
    rw [show x % 3 = x by omega] at q
    exact q
theorem KP1_32 {s : Int} {f T : Int → Int} (e : ∀ i : Int, 0 ≤ i → i < 9 → T i = f i) : SIx 3 2 T s 9 ↔ KP 3 2 f 1 s := by
  constructor
  · rintro h x y z ⟨x0, x1, x2⟩ hy hz
    have x1 : x < 3 := x1
    obtain ⟨y0, y1, y2⟩ := hy (by omega)
    have y1 : y < 3 := y1
    show bt s (f (x % 3 * 3 + y % 3))
    rw [show (x % 3 * 3 + y % 3) = (x * 3 + y) by omega, ← e (x * 3 + y) (by omega) (by omega)]
    exact h (x * 3 + y) (by omega) (by omega) ⟨by rw [show (x * 3 + y) % 3 = y by omega]; exact y2, fun _ => by rw [show (x * 3 + y) / 3 % 3 = x by omega]; exact x2, fun q => by omega⟩
  · rintro h x x0 x1 ⟨h1, h2, h3⟩
    rw [e x x0 x1]
    have q : bt s (f (x / 3 % 3 % 3 * 3 + x % 3 % 3)) := h (x / 3 % 3) (x % 3) 0 ⟨by omega, by show x / 3 % 3 < 3; omega, h2 (by omega)⟩ (fun _ => ⟨by omega, by show x % 3 < 3; omega, h1⟩) (fun q => by omega)
    rw [show x / 3 % 3 % 3 * 3 + x % 3 % 3 = x by omega] at q
    exact q
theorem KP1_33 {s : Int} {f T : Int → Int} (e : ∀ i : Int, 0 ≤ i → i < 27 → T i = f i) : SIx 3 3 T s 27 ↔ KP 3 3 f 1 s := by
  constructor
  · rintro h x y z ⟨x0, x1, x2⟩ hy hz
    have x1 : x < 3 := x1
    obtain ⟨y0, y1, y2⟩ := hy (by omega)
    have y1 : y < 3 := y1
    obtain ⟨z0, z1, z2⟩ := hz (by omega)
    have z1 : z < 3 := z1
    show bt s (f ((x % 3 * 3 + y % 3) * 3 + z % 3))
    rw [show ((x % 3 * 3 + y % 3) * 3 + z % 3) = ((x * 3 + y) * 3 + z) by omega, ← e ((x * 3 + y) * 3 + z) (by omega) (by omega)]
    exact h ((x * 3 + y) * 3 + z) (by omega) (by omega) ⟨by rw [show ((x * 3 + y) * 3 + z) % 3 = z by omega]; exact z2, fun _ => by rw [show ((x * 3 + y) * 3 + z) / 3 % 3 = y by omega]; exact y2, fun _ => by rw [show ((x * 3 + y) * 3 + z) / (3 * 3) = x by omega]; exact x2⟩
  · rintro h x x0 x1 ⟨h1, h2, h3⟩
    rw [e x x0 x1]
    have q : bt s (f ((x / (3 * 3) % 3 * 3 + x / 3 % 3 % 3) * 3 + x % 3 % 3)) := h (x / (3 * 3)) (x / 3 % 3) (x % 3) ⟨by omega, by show x / (3 * 3) < 3; omega, h3 (by omega)⟩ (fun _ => ⟨by omega, by show x / 3 % 3 < 3; omega, h2 (by omega)⟩) (fun _ => ⟨by omega, by show x % 3 < 3; omega, h1⟩)
    rw [show (x / (3 * 3) % 3 * 3 + x / 3 % 3 % 3) * 3 + x % 3 % 3 = x by omega] at q
    exact q
theorem KP1 {d m s : Int} {f T : Int → Int} (hd : d = 2 ∨ d = 3) (hm : 1 ≤ m ∧ m ≤ 3) (e : ∀ i : Int, 0 ≤ i → i < pw d m → T i = f i) : SIx d m T s (pw d m) ↔ KP d m f 1 s := by
  rcases hd with rfl | rfl <;> rcases (show m = 1 ∨ m = 2 ∨ m = 3 by omega) with rfl | rfl | rfl
  · exact KP1_21 e
  · exact KP1_22 e
  · exact KP1_23 e
  · exact KP1_31 e
  · exact KP1_32 e
  · exact KP1_33 e
theorem RL.hp {d : Int} {M : nM} (h : RL d M) : ∀ a : Int, 0 ≤ a → a < M 112 4 → 1 ≤ M 116 a := fun a h0 h1 => by
  rw [← h.2.1.1] at h1
  exact (h.2.1.2.2 a h0 h1).1.1
theorem RL.tl {d : Int} {M : nM} (hd : d = 2 ∨ d = 3) (h : RL d M) {a : Int} (h0 : 0 ≤ a) (h1 : a < M 3 14) : (1 ≤ M 116 a ∧ M 116 a ≤ 3) ∧ M (55 + 3 * a) 0 = M 116 a ∧ M (55 + 3 * a) 1 = pw d (M 116 a) ∧ ∀ i : Int, 0 ≤ i → i < pw d (M 116 a) → M (55 + 3 * a + 1) i = M 117 (27 * a + i) := by
  obtain ⟨-, ⟨g1, -, g2⟩, -, -⟩ := h
  obtain ⟨x1, x2, x3, x4⟩ := g2 a h0 h1
  have hp := pw_r hd x1
  refine ⟨x1, x2, x3, fun i i0 i1 => ?_⟩
  have q := (x4 i i0 (by omega)).1
  rw [Int.emod_eq_of_lt i0 i1] at q
  exact q
theorem RL.hpc {d : Int} {M : nM} (hd : d = 2 ∨ d = 3) (h : RL d M) (s : Int) : HPc d M s ↔ AKP d M 1 s := by
  have g1 := h.2.1.1
  constructor
  · intro q a h0 h1
    obtain ⟨x1, x2, x3, x4⟩ := h.tl hd h0 (show a < M 3 14 by omega)
    have u := q a h0 (by omega)
    rw [x2, x3] at u
    exact (KP1 hd x1 x4).mp u
  · intro q a h0 h1
    obtain ⟨x1, x2, x3, x4⟩ := h.tl hd h0 h1
    rw [x2, x3]
    exact (KP1 hd x1 x4).mpr (q a h0 (by omega))
theorem cf_1 {g : Int → Int} : cf g 1 = g 0 := by
  show 0 + g 0 = g 0
  omega
theorem RL.hps {d z z2 : Int} {M : nM} (hd : d = 2 ∨ d = 3) (h : RL d M) (c : ∃ n : Nat, n = (if d = 2 then 4 else 8) ∧ z + bb (HPc d M 0) = cf (fun s => bb (HPc d M s)) n) (m : ∃ n : Nat, n = (if d = 2 then 4 else 8) ∧ z2 + bb (AKP d M 1 0) = cf (fun s => bb (AKP d M 1 s)) n) : z = z2 := by
  obtain ⟨n, hn, e⟩ := c
  obtain ⟨n2, hn2, e2⟩ := m
  rw [hn] at e
  rw [hn2] at e2
  have g : ∀ s : Int, bb (HPc d M s) = bb (AKP d M 1 s) := fun s => bb_c (h.hpc hd s)
  rw [g 0, cf_congr (g := fun s => bb (AKP d M 1 s)) _ (fun i _ _ => g i)] at e
  omega
def sub27 (s t : Int) : Prop := ∀ y : Int, 0 ≤ y → y ≤ 26 → bt s y → bt t y
def CMin (d : Int) (M : nM) (k f s : Int) : Prop := ∀ t : Int, 0 ≤ t → t ≤ 134217727 → sub27 f t → AKP d M k t → sub27 s t
def CLS (d : Int) (M : nM) (k f s : Int) : Prop := sub27 f s ∧ AKP d M k s ∧ CMin d M k f s
theorem inS.sub {d k s t x : Int} (h : inS d k s x) (q : sub27 s t) (hp : pw d k ≤ 27) : inS d k t x := ⟨h.1, h.2.1, q x h.1 (by have := h.2.1; omega) h.2.2⟩
theorem lbt_or {s r y : Int} (hs : 0 ≤ s ∧ s ≤ 134217727) (hr : 0 ≤ r ∧ r ≤ 26) (hy : 0 ≤ y) : bt (n_lor s (n_lshl 1 r)) y ↔ (bt s y ∨ y = r) := by
  rw [(n_or_bit27 hs hr).2]
  exact bt_or hs hr hy
theorem sub27.add {f s r : Int} (h : sub27 f s) (hs : 0 ≤ s ∧ s ≤ 134217727) (hr : 0 ≤ r ∧ r ≤ 26) : sub27 f (n_lor s (n_lshl 1 r)) := fun y y0 y1 q => (lbt_or hs hr y0).mpr (Or.inl (h y y0 y1 q))
theorem CMin.add {d k f s r a : Int} {M : nM} (h : CMin d M k f s) (hp : pw d k ≤ 27) (hs : 0 ≤ s ∧ s ≤ 134217727) (hr : 0 ≤ r ∧ r ≤ 26) (ha : 0 ≤ a ∧ a < M 112 4) (e : ESC d (M 116 a) (fun i => M 117 (27 * a + i)) k s r) : CMin d M k f (n_lor s (n_lshl 1 r)) := fun t t0 t1 q u y y0 y1 hy => by
  have w := h t t0 t1 q u
  rcases (lbt_or hs hr y0).mp hy with hy | hy
  · exact w y y0 y1 hy
  · rcases e with ⟨e, -⟩ | ⟨-, -, x, y', z, hx, hy', hz, e⟩
    · omega
    · rw [hy, e]
      exact u a ha.1 ha.2 x y' z (hx.sub w hp) (fun v => (hy' v).sub w hp) (fun v => (hz v).sub w hp)
theorem ESC.nb {d m k s z : Int} {f : Int → Int} (h : ESC d m f k s z) (hs : 0 ≤ s ∧ s ≤ 134217727) (hz : z ≠ -1) (h1 : -1 ≤ z ∧ z ≤ 26) : n_land (n_lshr s z) 1 = 0 := by
  rcases h with ⟨h, -⟩ | ⟨h0, h1, -⟩
  · omega
  · rw [lb_v (by omega) (by omega)]
    rcases bt_v s z with ⟨q, -⟩ | ⟨-, q⟩
    · exact absurd q h1
    · exact q
theorem ESC.k {d m k s z : Int} {f : Int → Int} (h : ESC d m f k s z) (hz : z = -1) : KP d m f k s := by
  rcases h with ⟨-, h⟩ | ⟨h0, -⟩
  · exact h
  · omega
def cHe (d m z : Int) (M : nM) : Prop := ((m < 1 ∨ (if d = 2 then 3 else 7) < m) ∧ z = -1) ∨ (1 ≤ m ∧ m ≤ z ∧ z ≤ (if d = 2 then 3 else 7) ∧ (∀ t : Int, m ≤ t → t < z → ¬ (n_and t m = m ∧ HPc d M t)) ∧ (z = (if d = 2 then 3 else 7) ∨ (n_and z m = m ∧ HPc d M z)))
def mHe (d m z : Int) (M : nM) : Prop := ((m < 1 ∨ (if d = 2 then 3 else 7) < m) ∧ z = -1) ∨ (1 ≤ m ∧ m ≤ (if d = 2 then 3 else 7) ∧ 0 ≤ z ∧ z ≤ 134217727 ∧ CLS d M 1 m z)
theorem sub7 : ∀ a : Nat, a < 8 → ∀ b : Nat, b < 8 → (n_and (b : Int) (a : Int) = a ↔ (∀ y : Nat, y < 27 → a.testBit y = true → b.testBit y = true)) ∧ ((∀ y : Nat, y < 27 → a.testBit y = true → b.testBit y = true) → a ≤ b) := by decide +kernel
theorem sub27_n {a b : Nat} : sub27 (a : Int) (b : Int) ↔ ∀ y : Nat, y < 27 → a.testBit y = true → b.testBit y = true := by
  constructor
  · intro h y y1 q
    exact bt_tb.mp (h y (by omega) (by omega) (bt_tb.mpr q))
  · intro h y y0 y1 q
    obtain ⟨n, rfl⟩ : ∃ n : Nat, y = n := ⟨y.toNat, by omega⟩
    exact bt_tb.mpr (h n (by omega) (bt_tb.mp q))
theorem sub27_7 {a b : Int} (ha : 0 ≤ a ∧ a ≤ 7) (hb : 0 ≤ b ∧ b ≤ 7) : (n_and b a = a ↔ sub27 a b) ∧ (sub27 a b → a ≤ b) := by
  obtain ⟨n, rfl⟩ : ∃ n : Nat, a = n := ⟨a.toNat, by omega⟩
  obtain ⟨m, rfl⟩ : ∃ m : Nat, b = m := ⟨b.toNat, by omega⟩
  have h := sub7 n (by omega) m (by omega)
  rw [sub27_n]
  exact ⟨h.1, fun q => by have := h.2 q; omega⟩
theorem sub27_le {a n : Nat} (hn : n ≤ 27) (ha : a ≤ 134217727) (h : ∀ y : Nat, y < 27 → a.testBit y = true → y < n) : a < 2 ^ n := by
  refine Nat.lt_pow_two_of_testBit _ (fun i hi => ?_)
  by_cases q : i < 27
  · cases u : a.testBit i with
    | false => rfl
    | true => exact absurd (h i q u) (by omega)
  · refine Nat.testBit_lt_two_pow ?_
    have p : 2 ^ 27 ≤ 2 ^ i := Nat.pow_le_pow_right (by omega) (by omega)
    omega
theorem allbit : ∀ n : Nat, n ≤ 3 → ∀ y : Nat, y < 27 → ((2 ^ n - 1).testBit y = true ↔ y < n) := by decide +kernel
theorem RL.hea {d ac m z z2 : Int} {M0 M : nM} (hd : d = 2 ∨ d = 3) (h : RL d M) (hS : Sf d ac M0 M) (c : cHe d m z M) (r : mHe d m z2 M) : z = z2 := by
  rcases c with ⟨p, rfl⟩ | ⟨p1, p2, p3, p4, p5⟩ <;> rcases r with ⟨q, rfl⟩ | ⟨q1, q2, q3, q4, q5, q6, q7⟩
  · rfl
  · omega
  · omega
  · have hA : (if d = 2 then 3 else 7 : Int) = 2 ^ d.toNat - 1 ∧ (if d = 2 then 3 else 7 : Int) ≤ 7 := by rcases hd with rfl | rfl <;> decide
    have hall : HPc d M (if d = 2 then 3 else 7) := fun a h0 h1 x x0 x1 _ => by
      obtain ⟨y1, y2, y3, y4⟩ := h.tl hd h0 h1
      have hb := t_3_14x hS
      have hp := pw_r hd y1
      rw [y3] at x1
      have t := t_actrl hS (q := 55 + 3 * a) (by unfold ActAt; omega) (by have := t_ac hS; omega) (Or.inl rfl) (i := x) x0 (by omega)
      show bt _ (M (55 + 3 * a + 1) x)
      obtain ⟨n, hn⟩ : ∃ n : Nat, M (55 + 3 * a + 1) x = n := ⟨(M (55 + 3 * a + 1) x).toNat, by omega⟩
      rw [hn]
      rcases hd with rfl | rfl
      · exact bt_tb.mpr ((allbit 2 (by omega) n (by omega)).mpr (by omega))
      · exact bt_tb.mpr ((allbit 3 (by omega) n (by omega)).mpr (by omega))
    have hsm : sub27 m (if d = 2 then 3 else 7) := by
      refine fun y y0 y1 hy => ?_
      obtain ⟨n, rfl⟩ : ∃ n : Nat, y = n := ⟨y.toNat, by omega⟩
      obtain ⟨t, rfl⟩ : ∃ t : Nat, m = t := ⟨m.toNat, by omega⟩
      have e7 : ∀ t : Nat, t < 8 → ∀ n : Nat, n < 27 → t.testBit n = true → n < 3 := by decide +kernel
      have e3 : ∀ t : Nat, t < 4 → ∀ n : Nat, n < 27 → t.testBit n = true → n < 2 := by decide +kernel
      rcases hd with rfl | rfl
      · have q2 : (t : Int) ≤ 3 := q2
        exact bt_tb.mpr ((allbit 2 (by omega) n (by omega)).mpr (e3 t (by omega) n (by omega) (bt_tb.mp hy)))
      · have q2 : (t : Int) ≤ 7 := q2
        exact bt_tb.mpr ((allbit 3 (by omega) n (by omega)).mpr (e7 t (by omega) n (by omega) (bt_tb.mp hy)))
    have hz2 : z2 ≤ (if d = 2 then 3 else 7) := by
      have w := q7 (if d = 2 then 3 else 7) (by omega) (by omega) hsm ((h.hpc hd _).mp hall)
      obtain ⟨t, rfl⟩ : ∃ t : Nat, z2 = t := ⟨z2.toNat, by omega⟩
      rcases hd with rfl | rfl
      · have := sub27_le (n := 2) (by omega) (by omega) (fun y y1 hy => (allbit 2 (by omega) y (by omega)).mp (bt_tb.mp (w y (by omega) (by omega) (bt_tb.mpr hy))))
        show (t : Int) ≤ 3
        omega
      · have := sub27_le (n := 3) (by omega) (by omega) (fun y y1 hy => (allbit 3 (by omega) y (by omega)).mp (bt_tb.mp (w y (by omega) (by omega) (bt_tb.mpr hy))))
        show (t : Int) ≤ 7
        omega
    have s1 := sub27_7 (a := m) (b := z2) (by omega) (by omega)
    have hmz : m ≤ z2 := s1.2 q5
    have hPz : n_and z m = m ∧ HPc d M z := by
      rcases p5 with p5 | p5
      · rw [p5]
        exact ⟨(sub27_7 (by omega) (by omega)).1.mpr hsm, hall⟩
      · exact p5
    have s2 := sub27_7 (a := m) (b := z) (by omega) (by omega)
    have w := q7 z (by omega) (by omega) (s2.1.mp hPz.1) ((h.hpc hd _).mp hPz.2)
    have l1 := (sub27_7 (a := z2) (b := z) (by omega) (by omega)).2 w
    by_cases e : z2 < z
    · exact absurd ⟨s1.1.mpr q5, (h.hpc hd _).mpr q6⟩ (p4 z2 hmz e)
    · omega
