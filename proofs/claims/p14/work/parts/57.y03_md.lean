/-! Made: codes, what comes of acts, how many. -/
def dpn (d : Int) : Nat → Int
  | 0 => 1
  | n + 1 => d * dpn d n
theorem dpn_pos {d : Int} (hd : d = 2 ∨ d = 3) : ∀ n : Nat, 1 ≤ dpn d n
  | 0 => Int.le_refl 1
  | n + 1 => by
    have h := dpn_pos hd n
    show 1 ≤ d * dpn d n
    rcases hd with rfl | rfl <;> omega
def mdg (d c r : Int) : Int := c / dpn d r.toNat % d
/-- the code whose digits are f r, f (r + 1), .. -/
def mcd (d : Int) (f : Int → Int) (r : Int) : Nat → Int
  | 0 => 0
  | n + 1 => f r + d * mcd d f (r + 1) n
theorem mdg_r {d c r : Int} (hd : d = 2 ∨ d = 3) : 0 ≤ mdg d c r ∧ mdg d c r < d := by
  unfold mdg
  rcases hd with rfl | rfl <;> omega
theorem mcd_congr {d : Int} {f g : Int → Int} : ∀ (n : Nat) (r : Int), (∀ i : Int, r ≤ i → i < r + n → f i = g i) → mcd d f r n = mcd d g r n
  | 0, _, _ => rfl
  | n + 1, r, h => by
    show f r + d * mcd d f (r + 1) n = g r + d * mcd d g (r + 1) n
    rw [h r (by omega) (by omega), mcd_congr n (r + 1) (fun i i0 i1 => h i (by omega) (by omega))]
theorem mcd_r {d : Int} {f : Int → Int} (hd : d = 2 ∨ d = 3) : ∀ (n : Nat) (r : Int), (∀ i : Int, r ≤ i → i < r + n → 0 ≤ f i ∧ f i < d) → 0 ≤ mcd d f r n ∧ mcd d f r n < dpn d n
  | 0, _, _ => ⟨Int.le_refl 0, by
    show (0 : Int) < 1
    omega⟩
  | n + 1, r, h => by
    have a := mcd_r hd n (r + 1) (fun i i0 i1 => h i (by omega) (by omega))
    have b := h r (by omega) (by omega)
    show 0 ≤ f r + d * mcd d f (r + 1) n ∧ f r + d * mcd d f (r + 1) n < d * dpn d n
    rcases hd with rfl | rfl <;> omega
theorem mcd_d {d : Int} {f : Int → Int} (hd : d = 2 ∨ d = 3) : ∀ (n : Nat) (r : Int) (j : Nat), (∀ i : Int, r ≤ i → i < r + n → 0 ≤ f i ∧ f i < d) → j < n → mcd d f r n / dpn d j % d = f (r + j)
  | 0, _, _, _, hj => absurd hj (by omega)
  | n + 1, r, 0, h, _ => by
    have b := h r (by omega) (by omega)
    show (f r + d * mcd d f (r + 1) n) / 1 % d = f (r + ((0 : Nat) : Int))
    rw [show r + ((0 : Nat) : Int) = r by omega]
    rcases hd with rfl | rfl <;> omega
  | n + 1, r, j + 1, h, hj => by
    have b := h r (by omega) (by omega)
    have ih := mcd_d hd n (r + 1) j (fun i i0 i1 => h i (by omega) (by omega)) (by omega)
    show (f r + d * mcd d f (r + 1) n) / (d * dpn d j) % d = f (r + ((j + 1 : Nat) : Int))
    rw [← Int.ediv_ediv_of_nonneg (by omega), show (f r + d * mcd d f (r + 1) n) / d = mcd d f (r + 1) n by rcases hd with rfl | rfl <;> omega, ih]
    congr 1
    omega
theorem mdg_mcd {d r : Int} {f : Int → Int} {n : Nat} (hd : d = 2 ∨ d = 3) (hf : ∀ i : Int, 0 ≤ i → i < n → 0 ≤ f i ∧ f i < d) (hr : 0 ≤ r ∧ r < n) : mdg d (mcd d f 0 n) r = f r := by
  have h := mcd_d hd n 0 r.toNat (fun i i0 i1 => hf i i0 (by omega)) (by omega)
  unfold mdg
  rw [h]
  congr 1
  omega
theorem mcd_sh {d : Int} {f : Int → Int} : ∀ (n : Nat) (r : Int), mcd d f (r + 1) n = mcd d (fun i => f (i + 1)) r n
  | 0, _ => rfl
  | n + 1, r => by
    show f (r + 1) + d * mcd d f (r + 1 + 1) n = f (r + 1) + d * mcd d (fun i => f (i + 1)) (r + 1) n
    rw [mcd_sh n (r + 1)]
theorem mcd_of {d : Int} (hd : d = 2 ∨ d = 3) : ∀ (n : Nat) (c : Int), 0 ≤ c → c < dpn d n → mcd d (fun r => mdg d c r) 0 n = c
  | 0, c, h0, h1 => by
    have h1 : c < 1 := h1
    show (0 : Int) = c
    omega
  | n + 1, c, h0, h1 => by
    have h1 : c < d * dpn d n := h1
    have a : mcd d (fun r => mdg d c r) (0 + 1) n = c / d := by
      rw [mcd_sh]
      have e : ∀ i : Int, 0 ≤ i → i < 0 + (n : Int) → mdg d c (i + 1) = mdg d (c / d) i := fun i i0 _ => by
        unfold mdg
        rw [show (i + 1).toNat = i.toNat + 1 by omega]
        show c / (d * dpn d i.toNat) % d = _
        rw [← Int.ediv_ediv_of_nonneg (by omega)]
      rw [mcd_congr n 0 e]
      exact mcd_of hd n (c / d) (by rcases hd with rfl | rfl <;> omega) (by rcases hd with rfl | rfl <;> omega)
    show mdg d c 0 + d * mcd d (fun r => mdg d c r) (0 + 1) n = c
    rw [a]
    show c / 1 % d + d * (c / d) = c
    rcases hd with rfl | rfl <;> omega
/-- what comes if an act with the wide table T is put on x, y, z -/
def mcm (d : Int) (R : Nat) (T : Int → Int) (x y z : Int) : Int := mcd d (fun r => T ((mdg d x r * d + mdg d y r) * d + mdg d z r)) 0 R
/-- what tells a place: j places from the last one -/
def mpj (d : Int) (R : Nat) (j : Int) : Int := mcd d (fun r => mdg d r j) 0 R
/-- made of n places by ac acts -/
def Clo (d : Int) (R : Nat) (n ac : Int) (T : Int → Int → Int) (c : Int) : Prop := ∀ P : Int → Prop, (∀ j : Int, 0 ≤ j → j < n → P (mpj d R j)) → (∀ a x y z : Int, 0 ≤ a → a < ac → P x → P y → P z → P (mcm d R (T a) x y z)) → P c
section
variable {d n ac : Int} {R : Nat} {T : Int → Int → Int}
theorem Clo.prj {j : Int} (h0 : 0 ≤ j) (h1 : j < n) : Clo d R n ac T (mpj d R j) := fun _ hp _ => hp j h0 h1
theorem Clo.app {a x y z : Int} (h0 : 0 ≤ a) (h1 : a < ac) (hx : Clo d R n ac T x) (hy : Clo d R n ac T y) (hz : Clo d R n ac T z) : Clo d R n ac T (mcm d R (T a) x y z) := fun P hp ha => ha a x y z h0 h1 (hx P hp ha) (hy P hp ha) (hz P hp ha)
theorem Clo.r (hd : d = 2 ∨ d = 3) (hT : ∀ a i : Int, 0 ≤ a → a < ac → 0 ≤ i → i < d * d * d → 0 ≤ T a i ∧ T a i < d) {c : Int} (h : Clo d R n ac T c) : 0 ≤ c ∧ c < dpn d R := h (fun c => 0 ≤ c ∧ c < dpn d R) (fun j _ _ => mcd_r hd R 0 (fun i _ _ => mdg_r hd)) (fun a x y z a0 a1 _ _ _ => mcd_r hd R 0 (fun i _ _ => by
  have h1 := mdg_r (c := x) (r := i) hd
  have h2 := mdg_r (c := y) (r := i) hd
  have h3 := mdg_r (c := z) (r := i) hd
  exact hT a _ a0 a1 (by rcases hd with rfl | rfl <;> omega) (by rcases hd with rfl | rfl <;> omega)))
/-- a set that has the places and what comes of its own has all that is made -/
theorem Clo.sub {S : Int → Prop} (hp : ∀ j : Int, 0 ≤ j → j < n → S (mpj d R j)) (ha : ∀ a x y z : Int, 0 ≤ a → a < ac → S x → S y → S z → S (mcm d R (T a) x y z)) {c : Int} (h : Clo d R n ac T c) : S c := h S hp ha
end
/-! how many -/
section
variable {f g : Int → Int}
theorem cf_pl : ∀ n : Nat, cf (fun i => f i + g i) n = cf f n + cf g n
  | 0 => rfl
  | n + 1 => by
    show cf (fun i => f i + g i) n + (f (n : Int) + g (n : Int)) = (cf f n + f (n : Int)) + (cf g n + g (n : Int))
    rw [cf_pl n]
    omega
theorem cf_lm : ∀ n : Nat, (∀ i : Int, 0 ≤ i → i < n → f i ≤ g i) → cf f n ≤ cf g n
  | 0, _ => Int.le_refl 0
  | n + 1, h => by
    have a := cf_lm n (fun i i0 i1 => h i i0 (by omega))
    have b := h (n : Int) (by omega) (by omega)
    show cf f n + f (n : Int) ≤ cf g n + g (n : Int)
    omega
theorem cf_zr : ∀ n : Nat, cf (fun _ => 0) n = 0
  | 0 => rfl
  | n + 1 => by
    show cf (fun _ => 0) n + 0 = 0
    rw [cf_zr n]
    rfl
theorem cf_on : ∀ n : Nat, cf (fun _ => 1) n = n
  | 0 => rfl
  | n + 1 => by
    show cf (fun _ => 1) n + 1 = ((n + 1 : Nat) : Int)
    rw [cf_on n]
    omega
end
theorem cf_sw {h : Int → Int → Int} (m : Nat) : ∀ n : Nat, cf (fun c => cf (fun i => h i c) m) n = cf (fun i => cf (fun c => h i c) n) m
  | 0 => (cf_zr m).symm
  | n + 1 => by
    show cf (fun c => cf (fun i => h i c) m) n + cf (fun i => h i (n : Int)) m = cf (fun i => cf (fun c => h i c) n + h i (n : Int)) m
    rw [cf_sw m n, cf_pl]
theorem cf_pt {a : Int} : ∀ n : Nat, cf (fun c => bb (a = c)) n = bb (0 ≤ a ∧ a < n)
  | 0 => by
    show (0 : Int) = _
    rw [bb_f (by omega)]
  | n + 1 => by
    show cf (fun c => bb (a = c)) n + bb (a = (n : Int)) = _
    rw [cf_pt n]
    by_cases h : a = (n : Int)
    · rw [bb_t h, bb_f (by omega), bb_t (by omega)]
      rfl
    · rw [bb_f h, Int.add_zero]
      exact bb_c (by omega)
/-- g's first m differ -/
def Dif (g : Int → Int) (m : Int) : Prop := ∀ i j : Int, 0 ≤ i → i < m → 0 ≤ j → j < m → g i = g j → i = j
theorem Dif.one {g : Int → Int} {c : Int} : ∀ m : Nat, Dif g m → cf (fun i => bb (g i = c)) m = bb (∃ i : Int, 0 ≤ i ∧ i < m ∧ g i = c)
  | 0, _ => by
    show (0 : Int) = _
    rw [bb_f (fun ⟨i, i0, i1, _⟩ => by omega)]
  | m + 1, h => by
    show cf (fun i => bb (g i = c)) m + bb (g (m : Int) = c) = _
    rw [Dif.one m (fun i j i0 i1 j0 j1 e => h i j i0 (by omega) j0 (by omega) e)]
    by_cases q : g (m : Int) = c
    · rw [bb_t q, bb_f (fun ⟨i, i0, i1, e⟩ => by
        have y := h i (m : Int) i0 (by omega) (by omega) (by omega) (by rw [e, q])
        omega), bb_t ⟨(m : Int), by omega, by omega, q⟩]
      rfl
    · rw [bb_f q, Int.add_zero]
      refine bb_c ⟨fun ⟨i, i0, i1, e⟩ => ⟨i, i0, by omega, e⟩, fun ⟨i, i0, i1, e⟩ => ⟨i, i0, ?_, e⟩⟩
      by_cases u : i = (m : Int)
      · rw [u] at e
        exact absurd e q
      · omega
/-- as many as differ and lie below N -/
theorem Dif.cnt {g : Int → Int} {m N : Nat} (h : Dif g m) (hr : ∀ i : Int, 0 ≤ i → i < m → 0 ≤ g i ∧ g i < N) : cf (fun c => bb (∃ i : Int, 0 ≤ i ∧ i < m ∧ g i = c)) N = m := by
  have e : cf (fun c => bb (∃ i : Int, 0 ≤ i ∧ i < m ∧ g i = c)) N = cf (fun c => cf (fun i => bb (g i = c)) m) N := cf_congr N (fun c _ _ => (Dif.one m h).symm)
  rw [e, cf_sw (h := fun i c => bb (g i = c)) m N, ← cf_on m]
  refine cf_congr m (fun i i0 i1 => ?_)
  show cf (fun c => bb (g i = c)) N = 1
  rw [cf_pt]
  exact bb_t (hr i i0 i1)
theorem Dif.le {g : Int → Int} {m N : Nat} {P : Int → Prop} (h : Dif g m) (hr : ∀ i : Int, 0 ≤ i → i < m → 0 ≤ g i ∧ g i < N) (hp : ∀ i : Int, 0 ≤ i → i < m → P (g i)) : (m : Int) ≤ cf (fun c => bb (P c)) N := by
  rw [← h.cnt hr]
  refine cf_lm N (fun c _ _ => ?_)
  show bb _ ≤ bb _
  by_cases q : ∃ i : Int, 0 ≤ i ∧ i < m ∧ g i = c
  · obtain ⟨i, i0, i1, e⟩ := q
    rw [bb_t ⟨i, i0, i1, e⟩, bb_t (by rw [← e]; exact hp i i0 i1)]
    exact Int.le_refl 1
  · rw [bb_f q]
    have := bb_r (P c)
    omega
theorem Dif.eq {g : Int → Int} {m N : Nat} {P : Int → Prop} (h : Dif g m) (hr : ∀ i : Int, 0 ≤ i → i < m → 0 ≤ g i ∧ g i < N) (hp : ∀ i : Int, 0 ≤ i → i < m → P (g i)) (ha : ∀ c : Int, P c → ∃ i : Int, 0 ≤ i ∧ i < m ∧ g i = c) : cf (fun c => bb (P c)) N = m := by
  rw [← h.cnt hr]
  refine cf_congr N (fun c _ _ => bb_c ⟨ha c, fun ⟨i, i0, i1, e⟩ => by rw [← e]; exact hp i i0 i1⟩)
/-- if so many as P has are there, all are there -/
theorem Dif.all {g : Int → Int} {m N : Nat} {P : Int → Prop} (h : Dif g m) (hr : ∀ i : Int, 0 ≤ i → i < m → 0 ≤ g i ∧ g i < N) (hp : ∀ i : Int, 0 ≤ i → i < m → P (g i)) (hm : cf (fun c => bb (P c)) N ≤ m) {c : Int} (hc : 0 ≤ c ∧ c < N) (pc : P c) : ∃ i : Int, 0 ≤ i ∧ i < m ∧ g i = c := by
  by_cases q : ∃ i : Int, 0 ≤ i ∧ i < m ∧ g i = c
  · exact q
  · exfalso
    have k := h.cnt hr
    have l : cf (fun x => bb (∃ i : Int, 0 ≤ i ∧ i < m ∧ g i = x) + bb (c = x)) N ≤ cf (fun x => bb (P x)) N := cf_lm N (fun x _ _ => by
      show bb _ + bb _ ≤ bb _
      by_cases u : c = x
      · subst u
        rw [bb_f q, bb_t rfl, bb_t pc]
        exact Int.le_refl 1
      · rw [bb_f u, Int.add_zero]
        by_cases w : ∃ i : Int, 0 ≤ i ∧ i < m ∧ g i = x
        · obtain ⟨i, i0, i1, e⟩ := w
          rw [bb_t ⟨i, i0, i1, e⟩, bb_t (by rw [← e]; exact hp i i0 i1)]
          exact Int.le_refl 1
        · rw [bb_f w]
          have := bb_r (P x)
          omega)
    rw [cf_pl, cf_pt, k, bb_t (by omega)] at l
    omega
/-! a bound: the digits lie in sets -/
noncomputable def cfm (d : Int) (S : Int → Int → Prop) (r : Int) : Nat → Int
  | 0 => 1
  | n + 1 => cf (fun t => bb (S r t)) d.toNat * cfm d S (r + 1) n
theorem bb_an {P Q : Prop} : bb (P ∧ Q) = bb P * bb Q := by
  by_cases h : P
  · by_cases k : Q
    · rw [bb_t ⟨h, k⟩, bb_t h, bb_t k]
      rfl
    · rw [bb_f (fun q => k q.2), bb_f k, Int.mul_zero]
  · rw [bb_f (fun q => h q.1), bb_f h, Int.zero_mul]
theorem cf_ml {f : Int → Int} {k : Int} : ∀ n : Nat, cf (fun i => f i * k) n = cf f n * k
  | 0 => (Int.zero_mul k).symm
  | n + 1 => by
    show cf (fun i => f i * k) n + f (n : Int) * k = (cf f n + f (n : Int)) * k
    rw [cf_ml n, Int.add_mul]
theorem cf_ad (f : Int → Int) (a : Nat) : ∀ b : Nat, cf f (a + b) = cf f a + cf (fun i => f ((a : Int) + i)) b
  | 0 => (Int.add_zero _).symm
  | b + 1 => by
    show cf f (a + b) + f ((a + b : Nat) : Int) = cf f a + (cf (fun i => f ((a : Int) + i)) b + f ((a : Int) + (b : Int)))
    rw [cf_ad f a b, show ((a + b : Nat) : Int) = (a : Int) + (b : Int) by omega]
    omega
theorem cf_pr {p q : Int → Int} {d : Nat} (hd : 0 < d) : ∀ D : Nat, cf (fun c => p (c % d) * q (c / d)) (d * D) = cf p d * cf q D
  | 0 => by
    show (0 : Int) = cf p d * 0
    rw [Int.mul_zero]
  | D + 1 => by
    rw [show d * (D + 1) = d * D + d by rw [Nat.mul_add, Nat.mul_one], cf_ad, cf_pr hd D]
    show _ = cf p d * (cf q D + q (D : Int))
    rw [Int.mul_add, ← cf_ml (f := p) (k := q (D : Int))]
    congr 1
    refine cf_congr d (fun t t0 t1 => ?_)
    show p ((((d * D : Nat) : Int) + t) % (d : Int)) * q ((((d * D : Nat) : Int) + t) / (d : Int)) = p t * q (D : Int)
    have e : ((d * D : Nat) : Int) = (d : Int) * (D : Int) := Int.natCast_mul d D
    rw [e, Int.add_comm, Int.add_mul_emod_self_left, Int.emod_eq_of_lt t0 t1, Int.add_mul_ediv_left _ _ (by omega), Int.ediv_eq_zero_of_lt t0 t1, Int.zero_add]
theorem dpn_n {d : Int} (hd : d = 2 ∨ d = 3) (n : Nat) : (dpn d (n + 1)).toNat = d.toNat * (dpn d n).toNat := by
  have h := dpn_pos hd n
  show (d * dpn d n).toNat = _
  rcases hd with rfl | rfl
  · show (2 * dpn 2 n).toNat = 2 * (dpn 2 n).toNat
    omega
  · show (3 * dpn 3 n).toNat = 3 * (dpn 3 n).toNat
    omega
theorem cf_dg {d : Int} {S : Int → Int → Prop} (hd : d = 2 ∨ d = 3) : ∀ (n : Nat) (r : Int), cf (fun c => bb (∀ i : Int, 0 ≤ i → i < n → S (r + i) (mdg d c i))) (dpn d n).toNat = cfm d S r n
  | 0, r => by
    show (0 : Int) + bb _ = 1
    rw [bb_t (fun i i0 i1 => absurd i1 (by omega))]
    rfl
  | n + 1, r => by
    rw [dpn_n hd]
    show _ = cf (fun t => bb (S r t)) d.toNat * cfm d S (r + 1) n
    rw [← cf_dg hd n (r + 1), ← cf_pr (by omega)]
    refine cf_congr _ (fun c c0 _ => ?_)
    show bb _ = bb (S r (c % (d.toNat : Int))) * bb (∀ i : Int, 0 ≤ i → i < n → S (r + 1 + i) (mdg d (c / (d.toNat : Int)) i))
    rw [← bb_an, show ((d.toNat : Nat) : Int) = d by omega]
    have e0 : mdg d c 0 = c % d := by
      unfold mdg
      show c / 1 % d = c % d
      rw [Int.ediv_one]
    have e1 : ∀ i : Int, 0 ≤ i → mdg d c (i + 1) = mdg d (c / d) i := fun i i0 => by
      unfold mdg
      rw [show (i + 1).toNat = i.toNat + 1 by omega]
      show c / (d * dpn d i.toNat) % d = _
      rw [← Int.ediv_ediv_of_nonneg (by omega)]
    refine bb_c ⟨fun h => ⟨?_, fun i i0 i1 => ?_⟩, fun h i i0 i1 => ?_⟩
    · have y := h 0 (by omega) (by omega)
      rw [e0, Int.add_zero] at y
      exact y
    · have y := h (i + 1) (by omega) (by omega)
      rw [e1 i i0, show r + (i + 1) = r + 1 + i by omega] at y
      exact y
    · by_cases u : i = 0
      · rw [u, e0, Int.add_zero]
        exact h.1
      · have y := h.2 (i - 1) (by omega) (by omega)
        rw [← e1 (i - 1) (by omega), show i - 1 + 1 = i by omega, show r + 1 + (i - 1) = r + i by omega] at y
        exact y
/-! the three lines of a maker -/
theorem cf_fr {f : Int → Int} : ∀ n : Nat, cf f (n + 1) = f 0 + cf (fun i => f (i + 1)) n
  | 0 => by
    show (0 : Int) + f ((0 : Nat) : Int) = f 0 + 0
    rw [Int.zero_add, Int.add_zero]
    rfl
  | n + 1 => by
    have e : ((n + 1 : Nat) : Int) = (n : Int) + 1 := by omega
    show cf f (n + 1) + f ((n + 1 : Nat) : Int) = f 0 + (cf (fun i => f (i + 1)) n + f ((n : Int) + 1))
    rw [cf_fr n, e, Int.add_assoc]
theorem mcd_cf {d : Int} {f : Int → Int} : ∀ (n : Nat) (r : Int), mcd d f r n = cf (fun i => f (r + i) * dpn d i.toNat) n
  | 0, _ => rfl
  | n + 1, r => by
    show f r + d * mcd d f (r + 1) n = _
    have e : cf (fun i => f (r + (i + 1)) * dpn d (i + 1).toNat) n = cf (fun i => f (r + 1 + i) * dpn d i.toNat * d) n := cf_congr n (fun i i0 _ => by
      show f (r + (i + 1)) * dpn d (i + 1).toNat = f (r + 1 + i) * dpn d i.toNat * d
      rw [show r + (i + 1) = r + 1 + i by omega, show (i + 1).toNat = i.toNat + 1 by omega]
      show f (r + 1 + i) * (d * dpn d i.toNat) = _
      rw [Int.mul_comm d, ← Int.mul_assoc])
    rw [cf_fr, mcd_cf n (r + 1)]
    show f r + d * cf (fun i => f (r + 1 + i) * dpn d i.toNat) n = f (r + 0) * 1 + cf (fun i => f (r + (i + 1)) * dpn d (i + 1).toNat) n
    rw [e, cf_ml, Int.mul_comm d, Int.add_zero, Int.mul_one]
def wtr (d : Int) (R : Nat) (r : Int) : Int := if r < R then dpn d r.toNat else 0
theorem cf_n9 {f : Int → Int} : cf f 9 = f 0 + f 1 + f 2 + f 3 + f 4 + f 5 + f 6 + f 7 + f 8 := by
  show 0 + f ((0 : Nat) : Int) + f ((1 : Nat) : Int) + f ((2 : Nat) : Int) + f ((3 : Nat) : Int) + f ((4 : Nat) : Int) + f ((5 : Nat) : Int) + f ((6 : Nat) : Int) + f ((7 : Nat) : Int) + f ((8 : Nat) : Int) = _
  rw [Int.zero_add]
  rfl
theorem cf_zz {f : Int → Int} : ∀ n : Nat, (∀ i : Int, 0 ≤ i → i < n → f i = 0) → cf f n = 0 := fun n h => by
  rw [cf_congr (g := fun _ => 0) n h, cf_zr]
theorem mcd_9 {d : Int} {f : Int → Int} {R : Nat} (hR : R ≤ 9) : mcd d f 0 R = f 0 * wtr d R 0 + f 1 * wtr d R 1 + f 2 * wtr d R 2 + f 3 * wtr d R 3 + f 4 * wtr d R 4 + f 5 * wtr d R 5 + f 6 * wtr d R 6 + f 7 * wtr d R 7 + f 8 * wtr d R 8 := by
  rw [mcd_cf, ← cf_n9 (f := fun i => f i * wtr d R i)]
  obtain ⟨k, hk⟩ : ∃ k : Nat, 9 = R + k := ⟨9 - R, by omega⟩
  rw [hk, cf_ad]
  have z : cf (fun i => f ((R : Int) + i) * wtr d R ((R : Int) + i)) k = 0 := cf_zz k (fun i i0 _ => by
    show f ((R : Int) + i) * wtr d R ((R : Int) + i) = 0
    unfold wtr
    rw [if_neg (by omega), Int.mul_zero])
  rw [z, Int.add_zero]
  refine cf_congr R (fun i i0 i1 => ?_)
  show f (0 + i) * dpn d i.toNat = f i * wtr d R i
  unfold wtr
  rw [if_pos i1, Int.zero_add]
def linw (d : Int) (T : Int → Int) (w1 w2 w3 i j c : Int) : Int := T ((i / (d * d) * d + j / (d * d)) * d + c / (d * d)) * w1 + T ((i / d % d * d + j / d % d) * d + c / d % d) * w2 + T ((i % d * d + j % d) * d + c % d) * w3
def t3 (d c f : Int) : Int := (mdg d c f * d + mdg d c (f + 1)) * d + mdg d c (f + 2)
theorem t3_d {d c f : Int} (hd : d = 2 ∨ d = 3) : t3 d c f / (d * d) = mdg d c f ∧ t3 d c f / d % d = mdg d c (f + 1) ∧ t3 d c f % d = mdg d c (f + 2) := by
  have h1 := mdg_r (c := c) (r := f) hd
  have h2 := mdg_r (c := c) (r := f + 1) hd
  have h3 := mdg_r (c := c) (r := f + 2) hd
  unfold t3
  generalize mdg d c f = a at h1 ⊢
  generalize mdg d c (f + 1) = b at h2 ⊢
  generalize mdg d c (f + 2) = e at h3 ⊢
  rcases hd with rfl | rfl
  · refine ⟨?_, ?_, ?_⟩ <;> omega
  · refine ⟨?_, ?_, ?_⟩ <;> omega
theorem linw_t3 {d w1 w2 w3 x y z f : Int} {T : Int → Int} (hd : d = 2 ∨ d = 3) : linw d T w1 w2 w3 (t3 d x f) (t3 d y f) (t3 d z f) = T ((mdg d x f * d + mdg d y f) * d + mdg d z f) * w1 + T ((mdg d x (f + 1) * d + mdg d y (f + 1)) * d + mdg d z (f + 1)) * w2 + T ((mdg d x (f + 2) * d + mdg d y (f + 2)) * d + mdg d z (f + 2)) * w3 := by
  obtain ⟨a1, a2, a3⟩ := t3_d (c := x) (f := f) hd
  obtain ⟨b1, b2, b3⟩ := t3_d (c := y) (f := f) hd
  obtain ⟨c1, c2, c3⟩ := t3_d (c := z) (f := f) hd
  unfold linw
  rw [a1, a2, a3, b1, b2, b3, c1, c2, c3]
theorem lines_mcm {d x y z : Int} {T : Int → Int} {R : Nat} (hd : d = 2 ∨ d = 3) (hR : R ≤ 9) : linw d T (wtr d R 0) (wtr d R 1) (wtr d R 2) (t3 d x 0) (t3 d y 0) (t3 d z 0) + linw d T (wtr d R 3) (wtr d R 4) (wtr d R 5) (t3 d x 3) (t3 d y 3) (t3 d z 3) + linw d T (wtr d R 6) (wtr d R 7) (wtr d R 8) (t3 d x 6) (t3 d y 6) (t3 d z 6) = mcm d R T x y z := by
  unfold mcm
  rw [mcd_9 hR, linw_t3 hd, linw_t3 hd, linw_t3 hd, ← Int.add_assoc, ← Int.add_assoc, ← Int.add_assoc, ← Int.add_assoc]
  rfl
section
variable {d n ac : Int} {R : Nat} {T : Int → Int → Int}
theorem row_r {u v w : Int} (hd : d = 2 ∨ d = 3) (hu : 0 ≤ u ∧ u < d) (hv : 0 ≤ v ∧ v < d) (hw : 0 ≤ w ∧ w < d) : 0 ≤ (u * d + v) * d + w ∧ (u * d + v) * d + w < d * d * d := by
  rcases hd with rfl | rfl <;> omega
theorem mcm_d {a x y z r : Int} (hd : d = 2 ∨ d = 3) (hT : ∀ a i : Int, 0 ≤ a → a < ac → 0 ≤ i → i < d * d * d → 0 ≤ T a i ∧ T a i < d) (ha : 0 ≤ a ∧ a < ac) (hr : 0 ≤ r ∧ r < R) : mdg d (mcm d R (T a) x y z) r = T a ((mdg d x r * d + mdg d y r) * d + mdg d z r) := mdg_mcd (f := fun r => T a ((mdg d x r * d + mdg d y r) * d + mdg d z r)) hd (fun i _ _ => by
  have q := row_r hd (mdg_r (c := x) (r := i) hd) (mdg_r (c := y) (r := i) hd) (mdg_r (c := z) (r := i) hd)
  exact hT a _ ha.1 ha.2 q.1 q.2) hr
theorem mpj_d {j r : Int} (hd : d = 2 ∨ d = 3) (hr : 0 ≤ r ∧ r < R) : mdg d (mpj d R j) r = mdg d r j := mdg_mcd (f := fun r => mdg d r j) hd (fun _ _ _ => mdg_r hd) hr
/-- what is made tells for each row only things of a set that has the row's things and is closed -/
theorem Clo.dig {H : Int → Int → Prop} (hd : d = 2 ∨ d = 3) (hT : ∀ a i : Int, 0 ≤ a → a < ac → 0 ≤ i → i < d * d * d → 0 ≤ T a i ∧ T a i < d) (hp : ∀ j r : Int, 0 ≤ j → j < n → 0 ≤ r → r < R → H r (mdg d r j)) (hc : ∀ a r u v w : Int, 0 ≤ a → a < ac → 0 ≤ r → r < R → H r u → H r v → H r w → H r (T a ((u * d + v) * d + w))) {c : Int} (h : Clo d R n ac T c) : ∀ r : Int, 0 ≤ r → r < R → H r (mdg d c r) := Clo.sub (S := fun c => ∀ r : Int, 0 ≤ r → r < R → H r (mdg d c r)) (fun j j0 j1 r r0 r1 => by
    rw [mpj_d hd ⟨r0, r1⟩]
    exact hp j r j0 j1 r0 r1) (fun a x y z a0 a1 hx hy hz r r0 r1 => by
    rw [mcm_d hd hT ⟨a0, a1⟩ ⟨r0, r1⟩]
    exact hc a r _ _ _ a0 a1 r0 r1 (hx r r0 r1) (hy r r0 r1) (hz r r0 r1)) h
/-- how many are made -/
noncomputable def NCl (d : Int) (R : Nat) (n ac : Int) (T : Int → Int → Int) : Int := cf (fun c => bb (Clo d R n ac T c)) (dpn d R).toNat
theorem NCl.most {H : Int → Int → Prop} (hd : d = 2 ∨ d = 3) (hT : ∀ a i : Int, 0 ≤ a → a < ac → 0 ≤ i → i < d * d * d → 0 ≤ T a i ∧ T a i < d) (hp : ∀ j r : Int, 0 ≤ j → j < n → 0 ≤ r → r < R → H r (mdg d r j)) (hc : ∀ a r u v w : Int, 0 ≤ a → a < ac → 0 ≤ r → r < R → H r u → H r v → H r w → H r (T a ((u * d + v) * d + w))) : NCl d R n ac T ≤ cfm d H 0 R := by
  rw [← cf_dg hd R 0]
  refine cf_lm _ (fun c _ _ => ?_)
  show bb _ ≤ bb _
  by_cases q : Clo d R n ac T c
  · have y := Clo.dig (H := H) hd hT hp hc q
    rw [bb_t q, bb_t (fun i i0 i1 => by rw [Int.zero_add]; exact y i i0 i1)]
    exact Int.le_refl 1
  · rw [bb_f q]
    have := bb_r (∀ i : Int, 0 ≤ i → i < R → H (0 + i) (mdg d c i))
    omega
theorem NCl.le {g : Int → Int} {m : Nat} (hd : d = 2 ∨ d = 3) (hT : ∀ a i : Int, 0 ≤ a → a < ac → 0 ≤ i → i < d * d * d → 0 ≤ T a i ∧ T a i < d) (h : Dif g m) (hp : ∀ i : Int, 0 ≤ i → i < m → Clo d R n ac T (g i)) : (m : Int) ≤ NCl d R n ac T := h.le (fun i i0 i1 => by
  have y := Clo.r hd hT (hp i i0 i1)
  omega) hp
theorem NCl.all {g : Int → Int} {m : Nat} (hd : d = 2 ∨ d = 3) (hT : ∀ a i : Int, 0 ≤ a → a < ac → 0 ≤ i → i < d * d * d → 0 ≤ T a i ∧ T a i < d) (h : Dif g m) (hp : ∀ i : Int, 0 ≤ i → i < m → Clo d R n ac T (g i)) (pj : ∀ j : Int, 0 ≤ j → j < n → ∃ i : Int, 0 ≤ i ∧ i < m ∧ g i = mpj d R j) (cl : ∀ a x y z : Int, 0 ≤ a → a < ac → (0 ≤ x ∧ x < m) → (0 ≤ y ∧ y < m) → (0 ≤ z ∧ z < m) → ∃ i : Int, 0 ≤ i ∧ i < m ∧ g i = mcm d R (T a) (g x) (g y) (g z)) : NCl d R n ac T = m := h.eq (fun i i0 i1 => by
  have y := Clo.r hd hT (hp i i0 i1)
  omega) hp (fun c hc => Clo.sub (S := fun c => ∃ i : Int, 0 ≤ i ∧ i < m ∧ g i = c) pj (fun a x y z a0 a1 ⟨i, i0, i1, ei⟩ ⟨j, j0, j1, ej⟩ ⟨k, k0, k1, ek⟩ => by
    rw [← ei, ← ej, ← ek]
    exact cl a i j k a0 a1 ⟨i0, i1⟩ ⟨j0, j1⟩ ⟨k0, k1⟩) hc)
end
