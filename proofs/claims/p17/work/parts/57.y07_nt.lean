/-! Nets: what values of the variables must keep, and how many numbers keep it. -/
def pn (d : Int) : Nat → Int
  | 0 => 1
  | n + 1 => d * pn d n
theorem pn_pos {d : Int} (hd : d = 2 ∨ d = 3) : ∀ n : Nat, 1 ≤ pn d n
  | 0 => Int.le_refl 1
  | n + 1 => by
    have h := pn_pos hd n
    show 1 ≤ d * pn d n
    rcases hd with rfl | rfl <;> omega
theorem pn_add {d : Int} (a : Nat) : ∀ b : Nat, pn d (a + b) = pn d a * pn d b
  | 0 => (Int.mul_one _).symm
  | b + 1 => by
    show d * pn d (a + b) = pn d a * (d * pn d b)
    rw [pn_add a b, ← Int.mul_assoc, ← Int.mul_assoc, Int.mul_comm d]
theorem pn_s {d V k : Int} (h0 : 0 ≤ k) (h : k < V) : pn d (V - k).toNat = d * pn d (V - (k + 1)).toNat := by
  have e : (V - k).toNat = (V - (k + 1)).toNat + 1 := by omega
  rw [e]
  rfl
theorem pn_le {d : Int} (hd : d = 2 ∨ d = 3) : ∀ a b : Nat, a ≤ b → pn d a ≤ pn d b := fun a b h => by
  obtain ⟨c, rfl⟩ : ∃ c : Nat, b = a + c := ⟨b - a, by omega⟩
  rw [pn_add]
  have h1 := pn_pos hd a
  have h2 := pn_pos hd c
  have h3 : pn d a * 1 ≤ pn d a * pn d c := Int.mul_le_mul_of_nonneg_left h2 (by omega)
  omega
/-- the digit of unknown u in the number m of V digits -/
def dg (d V m u : Int) : Int := m / pn d (V - 1 - u).toNat % d
theorem dg_r {d V m u : Int} (hd : d = 2 ∨ d = 3) : 0 ≤ dg d V m u ∧ dg d V m u < d := by
  unfold dg
  rcases hd with rfl | rfl <;> omega
theorem dg_pre {d V k n i u : Int} (hd : d = 2 ∨ d = 3) (hu : 0 ≤ u ∧ u < k) (hk : k ≤ V) (hi : 0 ≤ i ∧ i < pn d (V - k).toNat) : dg d V (n * pn d (V - k).toNat + i) u = n / pn d (k - 1 - u).toNat % d := by
  have hp := pn_pos hd (V - k).toNat
  unfold dg
  have e : (V - 1 - u).toNat = (V - k).toNat + (k - 1 - u).toNat := by omega
  have q : (n * pn d (V - k).toNat + i) / pn d (V - k).toNat = n := by
    rw [Int.add_comm, Int.add_mul_ediv_right _ _ (by omega), Int.ediv_eq_zero_of_lt hi.1 hi.2, Int.zero_add]
  rw [e, pn_add, ← Int.ediv_ediv_of_nonneg (by omega), q]
def mx3 (l p q r : Int) : Prop := (0 ≤ p ∧ p ≤ l) ∧ (0 ≤ q ∧ q ≤ l) ∧ (0 ≤ r ∧ r ≤ l) ∧ (p = l ∨ q = l ∨ r = l)
def ai (p q r : Int) : Int := (p * 9 + q) * 9 + r
def rw3 (d : Int) (v : Int → Int) (p q r : Int) : Int := (v p * d + v q) * d + v r
/-- the values keep all limits whose last variable is l -/
def FIT (d : Int) (A v : Int → Int) (l : Int) : Prop := ∀ p q r : Int, mx3 l p q r → bt (A (ai p q r)) (rw3 d v p q r)
theorem FIT.congr {d l : Int} {A v w : Int → Int} (h : FIT d A v l) (e : ∀ u : Int, 0 ≤ u → u ≤ l → v u = w u) : FIT d A w l := fun p q r hm => by
  have h1 := h p q r hm
  obtain ⟨hp, hq, hr, -⟩ := hm
  unfold rw3 at h1 ⊢
  rw [← e p hp.1 hp.2, ← e q hq.1 hq.2, ← e r hr.1 hr.2]
  exact h1
def SOLN (d : Int) (A : Int → Int) (V m : Int) : Prop := ∀ l : Int, 0 ≤ l → l < V → FIT d A (fun u => dg d V m u) l
theorem SOLN.pqr {d V m p q r : Int} {A : Int → Int} (h : SOLN d A V m) (hp : 0 ≤ p ∧ p < V) (hq : 0 ≤ q ∧ q < V) (hr : 0 ≤ r ∧ r < V) : bt (A (ai p q r)) (rw3 d (fun u => dg d V m u) p q r) := by
  by_cases h1 : q ≤ p
  · by_cases h2 : r ≤ p
    · exact h p hp.1 hp.2 p q r ⟨by omega, by omega, by omega, Or.inl rfl⟩
    · exact h r hr.1 hr.2 p q r ⟨by omega, by omega, by omega, Or.inr (Or.inr rfl)⟩
  · by_cases h2 : r ≤ q
    · exact h q hq.1 hq.2 p q r ⟨by omega, by omega, by omega, Or.inr (Or.inl rfl)⟩
    · exact h r hr.1 hr.2 p q r ⟨by omega, by omega, by omega, Or.inr (Or.inr rfl)⟩
theorem SOLN.mk {d V m : Int} {A : Int → Int} (h : ∀ p q r : Int, (0 ≤ p ∧ p < V) → (0 ≤ q ∧ q < V) → (0 ≤ r ∧ r < V) → bt (A (ai p q r)) (rw3 d (fun u => dg d V m u) p q r)) : SOLN d A V m := fun l h0 h1 p q r hm => by
  obtain ⟨hp, hq, hr, -⟩ := hm
  exact h p q r (by omega) (by omega) (by omega)
/-- the first k values are the digits of n and keep their limits -/
def PF (d k n : Int) (A v : Int → Int) : Prop := (∀ u : Int, 0 ≤ u → u < k → v u = n / pn d (k - 1 - u).toNat % d) ∧ ∀ l : Int, 0 ≤ l → l < k → FIT d A v l
theorem PF.zero {d : Int} {A v : Int → Int} : PF d 0 0 A v := ⟨fun u h0 h1 => by omega, fun l h0 h1 => by omega⟩
theorem PF.of {d k n : Int} {A B v w : Int → Int} (h : PF d k n A v) (e : ∀ u : Int, 0 ≤ u → u < k → w u = v u) (eA : ∀ i : Int, B i = A i) : PF d k n B w := ⟨fun u h0 h1 => by rw [e u h0 h1]; exact h.1 u h0 h1, fun l h0 h1 p q r hm => by
  have h1 := (h.2 l h0 h1).congr (w := w) (fun u u0 u1 => (e u u0 (by omega)).symm) p q r hm
  rw [eA]
  exact h1⟩
theorem PF.sol {d V n : Int} {A v : Int → Int} (h : PF d V n A v) : SOLN d A V n := fun l h0 h1 => (h.2 l h0 h1).congr (fun u u0 u1 => h.1 u u0 (by omega))
theorem PF.dig {d k n c : Int} {A v w : Int → Int} (hd : d = 2 ∨ d = 3) (h : PF d k n A v) (hc : 0 ≤ c ∧ c < d) (e : ∀ u : Int, 0 ≤ u → u < k → w u = v u) (ek : w k = c) : ∀ u : Int, 0 ≤ u → u < k + 1 → w u = (n * d + c) / pn d (k + 1 - 1 - u).toNat % d := fun u h0 h1 => by
  by_cases q : u = k
  · rw [q, ek, show (k + 1 - 1 - k).toNat = 0 by omega]
    show c = (n * d + c) / 1 % d
    rcases hd with rfl | rfl <;> omega
  · rw [e u h0 (by omega), h.1 u h0 (by omega), show (k + 1 - 1 - u).toNat = (k - 1 - u).toNat + 1 by omega]
    show _ = (n * d + c) / (d * pn d (k - 1 - u).toNat) % d
    rw [← Int.ediv_ediv_of_nonneg (by omega)]
    have y : (n * d + c) / d = n := by
      rcases hd with rfl | rfl <;> omega
    rw [y]
theorem PF.next {d k n c : Int} {A v w : Int → Int} (hd : d = 2 ∨ d = 3) (h : PF d k n A v) (hc : 0 ≤ c ∧ c < d) (e : ∀ u : Int, 0 ≤ u → u < k → w u = v u) (ek : w k = c) (f : FIT d A w k) : PF d (k + 1) (n * d + c) A w := ⟨h.dig hd hc e ek, fun l h0 h1 => by
  by_cases q : l = k
  · rw [q]
    exact f
  · exact (h.2 l h0 (by omega)).congr (fun u u0 u1 => (e u u0 (by omega)).symm)⟩
theorem PF.none {d k n c V i : Int} {A v w : Int → Int} (hd : d = 2 ∨ d = 3) (h : PF d k n A v) (hk : 0 ≤ k ∧ k < V) (hc : 0 ≤ c ∧ c < d) (e : ∀ u : Int, 0 ≤ u → u < k → w u = v u) (ek : w k = c) (f : ¬ FIT d A w k) (hi : 0 ≤ i ∧ i < pn d (V - (k + 1)).toNat) : ¬ SOLN d A V ((n * d + c) * pn d (V - (k + 1)).toNat + i) := fun s => f ((s k hk.1 hk.2).congr (fun u u0 u1 => by
  show dg d V ((n * d + c) * pn d (V - (k + 1)).toNat + i) u = w u
  rw [h.dig hd hc e ek u u0 (by omega), dg_pre hd ⟨u0, by omega⟩ (by omega) hi]))
theorem cf_add (f : Int → Int) (a : Nat) : ∀ b : Nat, cf f (a + b) = cf f a + cf (fun i => f ((a : Int) + i)) b
  | 0 => (Int.add_zero _).symm
  | b + 1 => by
    show cf f (a + b) + f ((a + b : Nat) : Int) = cf f a + (cf (fun i => f ((a : Int) + i)) b + f ((a : Int) + (b : Int)))
    have e : ((a + b : Nat) : Int) = (a : Int) + (b : Int) := by omega
    rw [cf_add f a b, e, Int.add_assoc]
theorem cf_0 {f : Int → Int} : ∀ n : Nat, (∀ i : Int, 0 ≤ i → i < n → f i = 0) → cf f n = 0
  | 0, _ => rfl
  | n + 1, h => by
    show cf f n + f n = 0
    rw [cf_0 n (fun i h0 h1 => h i h0 (by omega)), h n (by omega) (by omega)]
    rfl
theorem cf_r {f : Int → Int} (h : ∀ i : Int, 0 ≤ f i ∧ f i ≤ 1) : ∀ n : Nat, 0 ≤ cf f n ∧ cf f n ≤ n
  | 0 => by
    show (0 : Int) ≤ 0 ∧ (0 : Int) ≤ ((0 : Nat) : Int)
    omega
  | n + 1 => by
    have h1 := cf_r h n
    have h2 := h n
    show 0 ≤ cf f n + f n ∧ cf f n + f n ≤ ((n + 1 : Nat) : Int)
    omega
/-- how many of the numbers that begin with n, x of the next digit's values done -/
noncomputable def gcn (d V k n : Int) (A : Int → Int) (x : Int) : Int := cf (fun i => bb (SOLN d A V (n * pn d (V - k).toNat + i))) (x * pn d (V - (k + 1)).toNat).toNat
noncomputable def gall (d V k n : Int) (A : Int → Int) : Int := cf (fun i => bb (SOLN d A V (n * pn d (V - k).toNat + i))) (pn d (V - k).toNat).toNat
theorem gall_r {d V k n : Int} {A : Int → Int} (hd : d = 2 ∨ d = 3) : 0 ≤ gall d V k n A ∧ gall d V k n A ≤ pn d (V - k).toNat := by
  have h := cf_r (f := fun i => bb (SOLN d A V (n * pn d (V - k).toNat + i))) (fun i => by have := bb_r (SOLN d A V (n * pn d (V - k).toNat + i)); show 0 ≤ bb _ ∧ bb _ ≤ 1; omega) (pn d (V - k).toNat).toNat
  have hp := pn_pos hd (V - k).toNat
  unfold gall
  omega
theorem gcn_r {d V k n x : Int} {A : Int → Int} (hd : d = 2 ∨ d = 3) (hx : 0 ≤ x) : 0 ≤ gcn d V k n A x ∧ gcn d V k n A x ≤ x * pn d (V - (k + 1)).toNat := by
  have hp := pn_pos hd (V - (k + 1)).toNat
  have hm : 0 ≤ x * pn d (V - (k + 1)).toNat := Int.mul_nonneg hx (by omega)
  have h := cf_r (f := fun i => bb (SOLN d A V (n * pn d (V - k).toNat + i))) (fun i => by have := bb_r (SOLN d A V (n * pn d (V - k).toNat + i)); show 0 ≤ bb _ ∧ bb _ ≤ 1; omega) (x * pn d (V - (k + 1)).toNat).toNat
  unfold gcn
  omega
theorem gcn_0 {d V k n : Int} {A : Int → Int} : gcn d V k n A 0 = 0 := by
  unfold gcn
  rw [Int.zero_mul]
  rfl
theorem gcn_s {d V k n x : Int} {A : Int → Int} (hd : d = 2 ∨ d = 3) (hk : 0 ≤ k ∧ k < V) (hx : 0 ≤ x) : gcn d V k n A (x + 1) = gcn d V k n A x + gall d V (k + 1) (n * d + x) A := by
  have hp := pn_pos hd (V - (k + 1)).toNat
  have hm : 0 ≤ x * pn d (V - (k + 1)).toNat := Int.mul_nonneg hx (by omega)
  unfold gcn gall
  have e : ((x + 1) * pn d (V - (k + 1)).toNat).toNat = (x * pn d (V - (k + 1)).toNat).toNat + (pn d (V - (k + 1)).toNat).toNat := by
    rw [Int.add_mul, Int.one_mul]
    omega
  rw [e, cf_add]
  congr 1
  refine cf_congr _ (fun i i0 i1 => ?_)
  have y : n * pn d (V - k).toNat + (((x * pn d (V - (k + 1)).toNat).toNat : Int) + i) = (n * d + x) * pn d (V - (k + 1)).toNat + i := by
    rw [Int.toNat_of_nonneg hm, pn_s hk.1 hk.2, Int.add_mul, Int.mul_assoc, Int.add_assoc]
  show bb (SOLN d A V (n * pn d (V - k).toNat + (((x * pn d (V - (k + 1)).toNat).toNat : Int) + i))) = _
  rw [y]
theorem gcn_a {d V k n : Int} {A : Int → Int} (hk : 0 ≤ k ∧ k < V) : gcn d V k n A d = gall d V k n A := by
  unfold gcn gall
  rw [pn_s hk.1 hk.2]
theorem gall_no {d V k n c : Int} {A v w : Int → Int} (hd : d = 2 ∨ d = 3) (h : PF d k n A v) (hk : 0 ≤ k ∧ k < V) (hc : 0 ≤ c ∧ c < d) (e : ∀ u : Int, 0 ≤ u → u < k → w u = v u) (ek : w k = c) (f : ¬ FIT d A w k) : gall d V (k + 1) (n * d + c) A = 0 := by
  have hp := pn_pos hd (V - (k + 1)).toNat
  exact cf_0 _ (fun i i0 i1 => bb_f (PF.none hd h hk hc e ek f ⟨i0, by omega⟩))
theorem gall_v {d V n : Int} {A v : Int → Int} (h : PF d V n A v) : gall d V V n A = 1 := by
  unfold gall
  rw [show (V - V).toNat = 0 by omega]
  show cf (fun i => bb (SOLN d A V (n * 1 + i))) 1 = 1
  show 0 + bb (SOLN d A V (n * 1 + ((0 : Nat) : Int))) = 1
  rw [show n * 1 + ((0 : Nat) : Int) = n by omega, bb_t h.sol]
  rfl
theorem gall_of {d V k n : Int} {A B : Int → Int} (e : ∀ i : Int, B i = A i) : gall d V k n B = gall d V k n A := by
  have : B = A := funext e
  rw [this]
theorem gcn_of {d V k n x : Int} {A B : Int → Int} (e : ∀ i : Int, B i = A i) : gcn d V k n B x = gcn d V k n A x := by
  have : B = A := funext e
  rw [this]
/-- one check -/
def CHK (d : Int) (K Lm v : Int → Int) (c : Int) : Prop := bt (Lm c) ((v (K c % 16) * d + v (K c / 16 % 16)) * d + v (K c / 256))
def OBs (A K Lm : Int → Int) (l a b : Int) : Prop := ∀ c : Int, a ≤ c → c < b → ∃ p q r : Int, mx3 l p q r ∧ K c = p + 16 * q + 256 * r ∧ Lm c = A (ai p q r)
def OBc (A K Lm : Int → Int) (AR l a b p0 q0 r0 : Int) : Prop := ∀ p q r : Int, mx3 l p q r → (p < p0 ∨ (p = p0 ∧ q < q0) ∨ (p = p0 ∧ q = q0 ∧ r < r0)) → A (ai p q r) = AR ∨ ∃ c : Int, a ≤ c ∧ c < b ∧ K c = p + 16 * q + 256 * r ∧ Lm c = A (ai p q r)
def OB (A K Lm : Int → Int) (AR l a b p0 q0 r0 : Int) : Prop := a ≤ b ∧ OBs A K Lm l a b ∧ OBc A K Lm AR l a b p0 q0 r0
section
variable {A K Lm K2 Lm2 S : Int → Int} {AR l a b p0 q0 r0 : Int}
theorem OB.of (h : OB A K Lm AR l a b p0 q0 r0) (e : ∀ c : Int, a ≤ c → c < b → K2 c = K c ∧ Lm2 c = Lm c) : OB A K2 Lm2 AR l a b p0 q0 r0 := by
  refine ⟨h.1, fun c c0 c1 => ?_, fun p q r hm hl => ?_⟩
  · obtain ⟨p, q, r, y⟩ := h.2.1 c c0 c1
    rw [(e c c0 c1).1, (e c c0 c1).2]
    exact ⟨p, q, r, y⟩
  · rcases h.2.2 p q r hm hl with y | ⟨c, c0, c1, y⟩
    · exact Or.inl y
    · refine Or.inr ⟨c, c0, c1, ?_⟩
      rw [(e c c0 c1).1, (e c c0 c1).2]
      exact y
theorem OB.mv {p1 q1 r1 : Int} (h : OB A K Lm AR l a b p0 q0 r0) (e : ∀ p q r : Int, mx3 l p q r → (p < p1 ∨ (p = p1 ∧ q < q1) ∨ (p = p1 ∧ q = q1 ∧ r < r1)) → (p < p0 ∨ (p = p0 ∧ q < q0) ∨ (p = p0 ∧ q = q0 ∧ r < r0))) : OB A K Lm AR l a b p1 q1 r1 := ⟨h.1, h.2.1, fun p q r hm hl => h.2.2 p q r hm (e p q r hm hl)⟩
theorem OB.init : OB A K Lm AR l a a 0 0 0 := ⟨Int.le_refl a, fun c c0 c1 => by omega, fun p q r hm hl => by obtain ⟨hp, hq, hr, -⟩ := hm; omega⟩
theorem OB.skip (h : OB A K Lm AR l a b p0 q0 r0) (e : A (ai p0 q0 r0) = AR) : OB A K Lm AR l a b p0 q0 (r0 + 1) := ⟨h.1, h.2.1, fun p q r hm hl => by
  by_cases y : p = p0 ∧ q = q0 ∧ r = r0
  · rw [y.1, y.2.1, y.2.2]
    exact Or.inl e
  · exact h.2.2 p q r hm (by omega)⟩
theorem OB.add (h : OB A K Lm AR l a b p0 q0 r0) (hm : mx3 l p0 q0 r0) (e : ∀ c : Int, a ≤ c → c < b → K2 c = K c ∧ Lm2 c = Lm c) (k1 : K2 b = p0 + 16 * q0 + 256 * r0) (k2 : Lm2 b = A (ai p0 q0 r0)) : OB A K2 Lm2 AR l a (b + 1) p0 q0 (r0 + 1) := by
  have h2 := h.of e
  have ha := h.1
  refine ⟨by omega, fun c c0 c1 => ?_, fun p q r hm2 hl => ?_⟩
  · by_cases y : c = b
    · rw [y]
      exact ⟨p0, q0, r0, hm, k1, k2⟩
    · exact h2.2.1 c c0 (by omega)
  · by_cases y : p = p0 ∧ q = q0 ∧ r = r0
    · rw [y.1, y.2.1, y.2.2]
      exact Or.inr ⟨b, ha, by omega, k1, k2⟩
    · rcases h2.2.2 p q r hm2 (by omega) with u | ⟨c, c0, c1, u⟩
      · exact Or.inl u
      · exact Or.inr ⟨c, c0, by omega, u⟩
end
/-- the blocks of all variables before n -/
def ORD (A K Lm S : Int → Int) (AR n : Int) : Prop := ∀ l : Int, 0 ≤ l → l < n → OB A K Lm AR l (S l) (S (l + 1)) (l + 1) 0 0
def ARd (d : Int) : Int := if d = 2 then 255 else 134217727
theorem ARd_b {d y : Int} (hd : d = 2 ∨ d = 3) (hy : 0 ≤ y ∧ y < d * d * d) : bt (ARd d) y := by
  obtain ⟨m, rfl⟩ : ∃ m : Nat, y = m := ⟨y.toNat, by omega⟩
  have k2 : ∀ m : Nat, m < 8 → (255 : Nat).testBit m = true := by decide
  have k3 : ∀ m : Nat, m < 27 → (134217727 : Nat).testBit m = true := by decide
  rcases hd with rfl | rfl
  · exact bt_tb (s := 255).mpr (k2 m (by omega))
  · exact bt_tb (s := 134217727).mpr (k3 m (by omega))
theorem rw3_r {d : Int} {v : Int → Int} {p q r : Int} (hd : d = 2 ∨ d = 3) (hp : 0 ≤ v p ∧ v p < d) (hq : 0 ≤ v q ∧ v q < d) (hr : 0 ≤ v r ∧ v r < d) : 0 ≤ rw3 d v p q r ∧ rw3 d v p q r < d * d * d := by
  unfold rw3
  rcases hd with rfl | rfl <;> omega
theorem OB.fit {d l a b : Int} {A K Lm v : Int → Int} (hd : d = 2 ∨ d = 3) (hl : l ≤ 8) (h : OB A K Lm (ARd d) l a b (l + 1) 0 0) (hv : ∀ u : Int, 0 ≤ u → u ≤ l → 0 ≤ v u ∧ v u < d) : (∀ c : Int, a ≤ c → c < b → CHK d K Lm v c) ↔ FIT d A v l := by
  constructor
  · intro w p q r hm
    have hm2 := hm
    obtain ⟨hp, hq, hr, -⟩ := hm2
    rcases h.2.2 p q r hm (by omega) with y | ⟨c, c0, c1, k1, k2⟩
    · rw [y]
      exact ARd_b hd (rw3_r hd (hv p hp.1 hp.2) (hv q hq.1 hq.2) (hv r hr.1 hr.2))
    · have y := w c c0 c1
      unfold CHK at y
      rw [k2, k1, show (p + 16 * q + 256 * r) % 16 = p by omega, show (p + 16 * q + 256 * r) / 16 % 16 = q by omega, show (p + 16 * q + 256 * r) / 256 = r by omega] at y
      exact y
  · intro w c c0 c1
    obtain ⟨p, q, r, hm, k1, k2⟩ := h.2.1 c c0 c1
    have y := w p q r hm
    obtain ⟨hp, hq, hr, -⟩ := hm
    unfold CHK
    rw [k2, k1, show (p + 16 * q + 256 * r) % 16 = p by omega, show (p + 16 * q + 256 * r) / 16 % 16 = q by omega, show (p + 16 * q + 256 * r) / 256 = r by omega]
    exact y
/-- what the search needs of the net: V variables, the limits in order -/
def NST (d V : Int) (M : nM) : Prop := M 38 5 = d ∧ M 38 6 = V ∧ (0 ≤ V ∧ V ≤ 9) ∧ (∀ p q r : Int, (0 ≤ p ∧ p ≤ 8) → (0 ≤ q ∧ q ≤ 8) → (0 ≤ r ∧ r ≤ 8) → 0 ≤ M 40 (ai p q r) ∧ M 40 (ai p q r) ≤ 134217727) ∧ ORD (fun i => M 40 i) (fun i => M 41 i) (fun i => M 42 i) (fun i => M 43 i) (ARd d) V
theorem NST.of {d V : Int} {M M2 : nM} (h : NST d V M) (e : ∀ a i : Int, a = 38 ∨ a = 40 ∨ a = 41 ∨ a = 42 ∨ a = 43 → M2 a i = M a i) : NST d V M2 := by
  have e40 : (fun i => M2 40 i) = fun i => M 40 i := funext fun i => e 40 i (by omega)
  have e41 : (fun i => M2 41 i) = fun i => M 41 i := funext fun i => e 41 i (by omega)
  have e42 : (fun i => M2 42 i) = fun i => M 42 i := funext fun i => e 42 i (by omega)
  have e43 : (fun i => M2 43 i) = fun i => M 43 i := funext fun i => e 43 i (by omega)
  unfold NST
  rw [e40, e41, e42, e43, e 38 5 (by omega), e 38 6 (by omega)]
  exact ⟨h.1, h.2.1, h.2.2.1, fun p q r hp hq hr => by rw [e 40 _ (by omega)]; exact h.2.2.2.1 p q r hp hq hr, h.2.2.2.2⟩
theorem NST.lim {d V l c : Int} {M : nM} (h : NST d V M) (h0 : 0 ≤ l) (h1 : l < V) (c0 : M 43 l ≤ c) (c1 : c < M 43 (l + 1)) : 0 ≤ M 42 c ∧ M 42 c ≤ 134217727 := by
  obtain ⟨p, q, r, ⟨hp, hq, hr, -⟩, -, k⟩ := (h.2.2.2.2 l h0 h1).2.1 c c0 c1
  have k : M 42 c = M 40 (ai p q r) := k
  rw [k]
  have hV := h.2.2.1
  exact h.2.2.2.1 p q r (by omega) (by omega) (by omega)
theorem NST.fit {d V l : Int} {M : nM} (hd : d = 2 ∨ d = 3) (h : NST d V M) (h0 : 0 ≤ l) (h1 : l < V) (hv : ∀ u : Int, 0 ≤ u → u ≤ l → 0 ≤ M 39 u ∧ M 39 u < d) : (∀ c : Int, M 43 l ≤ c → c < M 43 (l + 1) → CHK d (fun i => M 41 i) (fun i => M 42 i) (fun i => M 39 i) c) ↔ FIT d (fun i => M 40 i) (fun i => M 39 i) l := by
  have hV := h.2.2.1
  exact OB.fit hd (by omega) (h.2.2.2.2 l h0 h1) hv
/-- the frame of the search -/
def FG (c : Int) (Ms M : nM) : Prop := ∀ a i : Int, a ≠ 39 → a ≠ c → a ≠ c + 1 → M a i = Ms a i
theorem FG.u {c a i z : Int} {Ms M M2 : nM} (h : FG c Ms M) (e : M2 = nu M a i z) (ha : a = 39 ∨ a = c ∨ a = c + 1) : FG c Ms M2 := fun b j h1 h2 h3 => by
  rw [e, nu_a (by omega)]
  exact h b j h1 h2 h3
theorem FG.tr {c : Int} {Ms M M2 : nM} (h : FG c Ms M) (h2 : FG c M M2) : FG c Ms M2 := fun a i q1 q2 q3 => (h2 a i q1 q2 q3).trans (h a i q1 q2 q3)
theorem FG.nst {c d V : Int} {Ms M : nM} (h : FG c Ms M) (hc : c = 46 ∨ c = 48) (n : NST d V Ms) : NST d V M := n.of (fun a i q => h a i (by omega) (by omega) (by omega))
theorem gcb {d V k n c D : Int} (hd : d = 2 ∨ d = 3) (hk : 0 ≤ k ∧ k ≤ V) (hV : V ≤ 9) (hD : pn d k.toNat = D) (hn : 0 ≤ n ∧ n ≤ D - 1) (hc : c ≤ n * pn d (V - k).toNat) : c ≤ 20000 := by
  have h1 := pn_pos hd (V - k).toNat
  have h2 : n * pn d (V - k).toNat ≤ pn d k.toNat * pn d (V - k).toNat := Int.mul_le_mul_of_nonneg_right (by omega) (by omega)
  rw [← pn_add, show k.toNat + (V - k).toNat = V.toNat by omega] at h2
  have h3 := pn_le hd V.toNat 9 (by omega)
  have h4 : pn d 9 ≤ 19683 := by
    rcases hd with rfl | rfl <;> decide
  omega
section
variable {d V k n x c : Int} {Ms M M2 M3 : nM}
theorem GA.w (hP : PF d k n (fun i => Ms 40 i) (fun i => Ms 39 i)) (v : ∀ u : Int, 0 ≤ u → u < k → M 39 u = Ms 39 u) (e : M2 = nu M 39 k x) : (∀ u : Int, 0 ≤ u → u < k → M2 39 u = Ms 39 u) ∧ M2 39 k = x := by
  refine ⟨fun u u0 u1 => ?_, ?_⟩
  · rw [e, nu_i (by omega)]
    exact v u u0 u1
  · rw [e, nu_s]
theorem GA.v (hd : d = 2 ∨ d = 3) (hP : PF d k n (fun i => Ms 40 i) (fun i => Ms 39 i)) (hx : 0 ≤ x ∧ x < d) (w : (∀ u : Int, 0 ≤ u → u < k → M2 39 u = Ms 39 u) ∧ M2 39 k = x) : ∀ u : Int, 0 ≤ u → u ≤ k → 0 ≤ M2 39 u ∧ M2 39 u < d := fun u u0 u1 => by
  by_cases q : u = k
  · rw [q, w.2]
    exact hx
  · rw [w.1 u u0 (by omega), show Ms 39 u = n / pn d (k - 1 - u).toNat % d from hP.1 u u0 (by omega)]
    rcases hd with rfl | rfl <;> omega
theorem GA.fit (hd : d = 2 ∨ d = 3) (hN : NST d V Ms) (hk : 0 ≤ k ∧ k < V) (hP : PF d k n (fun i => Ms 40 i) (fun i => Ms 39 i)) (hc : c = 46 ∨ c = 48) (hx : 0 ≤ x ∧ x < d) (f : FG c Ms M2) (w : (∀ u : Int, 0 ≤ u → u < k → M2 39 u = Ms 39 u) ∧ M2 39 k = x) : (∀ c : Int, M2 43 k ≤ c → c < M2 43 (k + 1) → CHK d (fun i => M2 41 i) (fun i => M2 42 i) (fun i => M2 39 i) c) ↔ FIT d (fun i => Ms 40 i) (fun i => M2 39 i) k := by
  have e : (fun i => Ms 40 i) = fun i => M2 40 i := funext fun i => (f 40 i (by omega) (by omega) (by omega)).symm
  rw [e]
  exact NST.fit hd (f.nst hc hN) hk.1 hk.2 (GA.v hd hP hx w)
theorem GA.no (hd : d = 2 ∨ d = 3) (hN : NST d V Ms) (hk : 0 ≤ k ∧ k < V) (hP : PF d k n (fun i => Ms 40 i) (fun i => Ms 39 i)) (hc : c = 46 ∨ c = 48) (hx : 0 ≤ x ∧ x < d) (f : FG c Ms M) (v : ∀ u : Int, 0 ≤ u → u < k → M 39 u = Ms 39 u) (e : M2 = nu M 39 k x) (q : ¬ ∀ c : Int, M2 43 k ≤ c → c < M2 43 (k + 1) → CHK d (fun i => M2 41 i) (fun i => M2 42 i) (fun i => M2 39 i) c) (g : M c 1 = Ms c 1 + gcn d V k n (fun i => Ms 40 i) x) : M2 c 1 = Ms c 1 + gcn d V k n (fun i => Ms 40 i) (x + 1) := by
  have w := GA.w hP v e
  have h0 := gall_no hd hP hk hx w.1 w.2 (fun y => q ((GA.fit hd hN hk hP hc hx (f.u e (Or.inl rfl)) w).mpr y))
  rw [gcn_s hd hk hx.1, h0, e, nu_a (by omega), g, Int.add_zero]
theorem GA.pf (hd : d = 2 ∨ d = 3) (hN : NST d V Ms) (hk : 0 ≤ k ∧ k < V) (hP : PF d k n (fun i => Ms 40 i) (fun i => Ms 39 i)) (hc : c = 46 ∨ c = 48) (hx : 0 ≤ x ∧ x < d) (f : FG c Ms M) (v : ∀ u : Int, 0 ≤ u → u < k → M 39 u = Ms 39 u) (e : M2 = nu M 39 k x) (q : ∀ c : Int, M2 43 k ≤ c → c < M2 43 (k + 1) → CHK d (fun i => M2 41 i) (fun i => M2 42 i) (fun i => M2 39 i) c) : PF d (k + 1) (n * d + x) (fun i => M2 40 i) (fun i => M2 39 i) := by
  have w := GA.w hP v e
  have f2 := f.u e (Or.inl rfl)
  have h := PF.next hd hP hx w.1 w.2 ((GA.fit hd hN hk hP hc hx f2 w).mp q)
  exact h.of (fun _ _ _ => rfl) (fun i => f2 40 i (by omega) (by omega) (by omega))
theorem GA.cnt (hd : d = 2 ∨ d = 3) (hk : 0 ≤ k ∧ k < V) (hc : c = 46 ∨ c = 48) (hx : 0 ≤ x) (h : 0 ≤ Ms c 1 ∧ Ms c 1 ≤ n * pn d (V - k).toNat) (e : M2 = nu M 39 k x) (g : M c 1 = Ms c 1 + gcn d V k n (fun i => Ms 40 i) x) : 0 ≤ M2 c 1 ∧ M2 c 1 ≤ (n * d + x) * pn d (V - (k + 1)).toNat := by
  have r := gcn_r (V := V) (k := k) (n := n) (A := fun i => Ms 40 i) hd hx
  rw [e, nu_a (by omega), g, Int.add_mul, Int.mul_assoc, ← pn_s hk.1 hk.2]
  omega
theorem GA.go (hd : d = 2 ∨ d = 3) (hk : 0 ≤ k ∧ k < V) (hc : c = 46 ∨ c = 48) (hx : 0 ≤ x) (f : FG c Ms M) (v : ∀ u : Int, 0 ≤ u → u < k → M 39 u = Ms 39 u) (e : M2 = nu M 39 k x) (g : M c 1 = Ms c 1 + gcn d V k n (fun i => Ms 40 i) x) (r : M3 c 1 = M2 c 1 + gall d V (k + 1) (n * d + x) (fun i => M2 40 i)) (f3 : FG c M2 M3) (v3 : ∀ u : Int, 0 ≤ u → u < k + 1 → M3 39 u = M2 39 u) : FG c Ms M3 ∧ (∀ u : Int, 0 ≤ u → u < k → M3 39 u = Ms 39 u) ∧ M3 c 1 = Ms c 1 + gcn d V k n (fun i => Ms 40 i) (x + 1) := by
  have f2 := f.u e (Or.inl rfl)
  refine ⟨f2.tr f3, fun u u0 u1 => ?_, ?_⟩
  · rw [v3 u u0 (by omega), e, nu_i (by omega)]
    exact v u u0 u1
  · rw [r, gall_of (fun i => f2 40 i (by omega) (by omega) (by omega)), gcn_s hd hk hx, e, nu_a (by omega), g, Int.add_assoc]
end
theorem kk0 {x : Int} (h : ckey x) : n_and x 15 = x % 16 := by
  obtain ⟨p, q, r, h1, h2, h3, rfl⟩ := ckey_b h
  rw [(ckey_a p h1 q h2 r h3).1]
  omega
theorem kk4 {x : Int} (h : ckey x) : n_and (n_shr x 4) 15 = x / 16 % 16 := by
  obtain ⟨p, q, r, h1, h2, h3, rfl⟩ := ckey_b h
  rw [(ckey_a p h1 q h2 r h3).2.1]
  omega
theorem kk8 {x : Int} (h : ckey x) : n_shr x 8 = x / 256 := by
  obtain ⟨p, q, r, h1, h2, h3, rfl⟩ := ckey_b h
  rw [(ckey_a p h1 q h2 r h3).2.2.1]
  omega
theorem kkm {p q r : Int} (hp : 0 ≤ p ∧ p ≤ 8) (hq : 0 ≤ q ∧ q ≤ 8) (hr : 0 ≤ r ∧ r ≤ 8) : n_or (n_or p (n_shl q 4)) (n_shl r 8) = p + 16 * q + 256 * r := by
  obtain ⟨a, rfl⟩ : ∃ a : Nat, p = a := ⟨p.toNat, by omega⟩
  obtain ⟨b, rfl⟩ : ∃ b : Nat, q = b := ⟨q.toNat, by omega⟩
  obtain ⟨e, rfl⟩ : ∃ e : Nat, r = e := ⟨r.toNat, by omega⟩
  exact (ckey_a a (by omega) b (by omega) e (by omega)).2.2.2
/-! the order of the limits -/
def DNa (A : Int → Int) (AR x n : Int) (M : nM) : Prop := (∀ l : Int, 0 ≤ l → l + 1 < x → OB A (fun i => M 41 i) (fun i => M 42 i) AR l (M 43 l) (M 43 (l + 1)) (l + 1) 0 0 ∧ M 43 (l + 1) ≤ n) ∧ (0 < x → OB A (fun i => M 41 i) (fun i => M 42 i) AR (x - 1) (M 43 (x - 1)) n x 0 0)
def DNb (A : Int → Int) (AR x : Int) (M : nM) : Prop := ∀ l : Int, 0 ≤ l → l < x → OB A (fun i => M 41 i) (fun i => M 42 i) AR l (M 43 l) (M 43 (l + 1)) (l + 1) 0 0 ∧ M 43 (l + 1) ≤ M 43 x
def CUR (A : Int → Int) (AR x n p q r : Int) (M : nM) : Prop := OB A (fun i => M 41 i) (fun i => M 42 i) AR x (M 43 x) n p q r
section
variable {A : Int → Int} {AR x n p q r : Int} {M M2 M3 : nM}
theorem DNa.init : DNa A AR 0 0 M := ⟨fun l h0 h1 => by omega, fun h => by omega⟩
theorem DNa.go (h : DNa A AR x n M) (e : M2 = nu M 43 x n) : DNb A AR x M2 := fun l h0 h1 => by
  have e41 : (fun i => M2 41 i) = fun i => M 41 i := funext fun i => by rw [e, nu_a (by omega)]
  have e42 : (fun i => M2 42 i) = fun i => M 42 i := funext fun i => by rw [e, nu_a (by omega)]
  have el : M2 43 l = M 43 l := by rw [e, nu_i (by omega)]
  have ex : M2 43 x = n := by rw [e, nu_s]
  rw [e41, e42, el, ex]
  by_cases y : l + 1 = x
  · have h2 := h.2 (by omega)
    rw [show x - 1 = l by omega] at h2
    rw [y, ex]
    exact ⟨h2, Int.le_refl n⟩
  · have e2 : M2 43 (l + 1) = M 43 (l + 1) := by rw [e, nu_i (by omega)]
    rw [e2]
    exact h.1 l h0 (by omega)
theorem CUR.init (e : M2 = nu M 43 x n) : CUR A AR x n 0 0 0 M2 := by
  unfold CUR
  rw [show M2 43 x = n by rw [e, nu_s]]
  exact OB.init
theorem DNa.of (h : DNb A AR x M) (c : CUR A AR x n (x + 1) 0 0 M) : DNa A AR (x + 1) n M := by
  have c1 := c.1
  refine ⟨fun l h0 h1 => ?_, fun h0 => ?_⟩
  · have h2 := h l h0 (by omega)
    exact ⟨h2.1, by omega⟩
  · rw [show x + 1 - 1 = x by omega]
    exact c
theorem DNb.u (h : DNb A AR x M) (c : CUR A AR x n p q r M) {z w : Int} (e : M2 = nu M 41 n z) (e2 : M3 = nu M2 42 n w) : DNb A AR x M3 := fun l h0 h1 => by
  have h2 := h l h0 h1
  have c1 := c.1
  have k : ∀ i : Int, M3 43 i = M 43 i := fun i => by rw [e2, nu_a (by omega), e, nu_a (by omega)]
  rw [k, k, k]
  exact ⟨h2.1.of (fun c c0 c2 => ⟨by show M3 41 c = M 41 c; rw [e2, nu_a (by omega), e, nu_i (by omega)], by show M3 42 c = M 42 c; rw [e2, nu_i (by omega), e, nu_a (by omega)]⟩), h2.2⟩
theorem CUR.add (c : CUR A AR x n p q r M) (hm : mx3 x p q r) {z w : Int} (e : M2 = nu M 41 n z) (e2 : M3 = nu M2 42 n w) (hz : z = p + 16 * q + 256 * r) (hw : w = A (ai p q r)) : CUR A AR x (n + 1) p q (r + 1) M3 := by
  unfold CUR
  rw [show M3 43 x = M 43 x by rw [e2, nu_a (by omega), e, nu_a (by omega)]]
  exact OB.add c hm (fun c c0 c2 => ⟨by show M3 41 c = M 41 c; rw [e2, nu_a (by omega), e, nu_i (by omega)], by show M3 42 c = M 42 c; rw [e2, nu_i (by omega), e, nu_a (by omega)]⟩) (by show M3 41 n = _; rw [e2, nu_a (by omega), e, nu_s, hz]) (by show M3 42 n = _; rw [e2, nu_s, hw])
theorem CUR.skip (c : CUR A AR x n p q r M) (e : A (ai p q r) = AR) : CUR A AR x n p q (r + 1) M := OB.skip c e
theorem CUR.mv {p1 q1 r1 : Int} (c : CUR A AR x n p q r M) (e : ∀ a b f : Int, (0 ≤ a ∧ a ≤ x) → (0 ≤ b ∧ b ≤ x) → (0 ≤ f ∧ f ≤ x) → (a = x ∨ b = x ∨ f = x) → (a < p1 ∨ (a = p1 ∧ b < q1) ∨ (a = p1 ∧ b = q1 ∧ f < r1)) → (a < p ∨ (a = p ∧ b < q) ∨ (a = p ∧ b = q ∧ f < r))) : CUR A AR x n p1 q1 r1 M := OB.mv c (fun a b f hm => e a b f hm.1 hm.2.1 hm.2.2.1 hm.2.2.2)
theorem DNa.ord (h : DNa A AR x n M) (h0 : 0 ≤ x) (e : M2 = nu M 43 x n) : ORD A (fun i => M2 41 i) (fun i => M2 42 i) (fun i => M2 43 i) AR x := fun l l0 l1 => (h.go e l l0 l1).1
end
def FO (Ms M : nM) : Prop := ∀ a i : Int, a ≠ 41 → a ≠ 42 → a ≠ 43 → M a i = Ms a i
theorem FO.u {a i z : Int} {Ms M M2 : nM} (h : FO Ms M) (e : M2 = nu M a i z) (ha : a = 41 ∨ a = 42 ∨ a = 43) : FO Ms M2 := fun b j h1 h2 h3 => by
  rw [e, nu_a (by omega)]
  exact h b j h1 h2 h3
/-! the limits of a riddle -/
def row3 (d V m x y w : Int) : Int := rw3 d (fun u => dg d V m u) x y w
/-- the class's asks: is m an answer -/
def ANS (d : Int) (M : nM) (m : Int) : Prop := ∀ i : Int, 0 ≤ i → i < M 32 1 → bt (M (79 + 2 * M 33 i) 2) (row3 d (M 32 0) m (M 34 i) (M 35 i) (M 36 i))
/-- the first n asks stand in the net -/
def ALn (d n : Int) (Ms M : nM) : Prop := ∀ p q r : Int, (0 ≤ p ∧ p ≤ 8) → (0 ≤ q ∧ q ≤ 8) → (0 ≤ r ∧ r ≤ 8) → (0 ≤ M 40 (ai p q r) ∧ M 40 (ai p q r) ≤ 134217727) ∧ ∀ y : Int, 0 ≤ y → y < d * d * d → (bt (M 40 (ai p q r)) y ↔ ∀ i : Int, 0 ≤ i → i < n → Ms 34 i = p → Ms 35 i = q → Ms 36 i = r → bt (Ms (79 + 2 * Ms 33 i) 2) y)
theorem ARd_r {d : Int} (hd : d = 2 ∨ d = 3) : 0 ≤ ARd d ∧ ARd d ≤ 134217727 := by
  rcases hd with rfl | rfl <;> decide
theorem ALn.init {d : Int} {Ms M : nM} (hd : d = 2 ∨ d = 3) (e : ∀ i : Int, 0 ≤ i → i < 729 → M 40 i = ARd d) : ALn d 0 Ms M := fun p q r hp hq hr => by
  have e1 := e (ai p q r) (by unfold ai; omega) (by unfold ai; omega)
  have r1 := ARd_r hd
  rw [e1]
  exact ⟨r1, fun y y0 y1 => ⟨fun _ i i0 i1 => by omega, fun _ => ARd_b hd ⟨y0, y1⟩⟩⟩
theorem ai_i {p q r a b c : Int} (hq : 0 ≤ q ∧ q ≤ 8) (hr : 0 ≤ r ∧ r ≤ 8) (hb : 0 ≤ b ∧ b ≤ 8) (hc : 0 ≤ c ∧ c ≤ 8) (h : ai p q r = ai a b c) : p = a ∧ q = b ∧ r = c := by
  unfold ai at h
  omega
theorem ALn.step {d n w : Int} {Ms M M2 : nM} (hd : d = 2 ∨ d = 3) (h : ALn d n Ms M) (hn : 0 ≤ n) (h1 : 0 ≤ Ms 34 n ∧ Ms 34 n ≤ 8) (h2 : 0 ≤ Ms 35 n ∧ Ms 35 n ≤ 8) (h3 : 0 ≤ Ms 36 n ∧ Ms 36 n ≤ 8) (hw : w = Ms (79 + 2 * Ms 33 n) 2) (hwr : 0 ≤ w ∧ w ≤ 134217727) (e : M2 = nu M 40 (ai (Ms 34 n) (Ms 35 n) (Ms 36 n)) (n_and (M 40 (ai (Ms 34 n) (Ms 35 n) (Ms 36 n))) w)) : ALn d (n + 1) Ms M2 := fun p q r hp hq hr => by
  have hd3 : d * d * d ≤ 27 := by
    rcases hd with rfl | rfl <;> decide
  by_cases y : Ms 34 n = p ∧ Ms 35 n = q ∧ Ms 36 n = r
  · obtain ⟨y1, y2, y3⟩ := y
    have hh := h p q r hp hq hr
    rw [y1, y2, y3] at e
    have e1 : M2 40 (ai p q r) = n_and (M 40 (ai p q r)) w := by rw [e, nu_s]
    rw [e1]
    have hx := n_and_x (x := M 40 (ai p q r)) (y := w) (by omega)
    refine ⟨by omega, fun t t0 t1 => ?_⟩
    rw [bt_and hh.1 hwr t0, hh.2 t t0 t1, hw]
    constructor
    · rintro ⟨a, b⟩ i i0 i1 q1 q2 q3
      by_cases u : i = n
      · rw [u]
        exact b
      · exact a i i0 (by omega) q1 q2 q3
    · intro a
      exact ⟨fun i i0 i1 => a i i0 (by omega), a n hn (by omega) y1 y2 y3⟩
  · have e1 : M2 40 (ai p q r) = M 40 (ai p q r) := by
      rw [e, nu_i (fun u => y (by have := ai_i hq hr h2 h3 u; omega))]
    rw [e1]
    have hh := h p q r hp hq hr
    refine ⟨hh.1, fun t t0 t1 => ?_⟩
    rw [hh.2 t t0 t1]
    constructor
    · intro a i i0 i1 q1 q2 q3
      by_cases u : i = n
      · rw [u] at q1 q2 q3
        exact absurd ⟨q1, q2, q3⟩ y
      · exact a i i0 (by omega) q1 q2 q3
    · intro a i i0 i1
      exact a i i0 (by omega)
theorem ALn.ans {d m : Int} {Ms M : nM} (hd : d = 2 ∨ d = 3) (h : ALn d (Ms 32 1) Ms M) (hU : Ms 32 0 ≤ 8) (hq : ∀ i : Int, 0 ≤ i → i < Ms 32 1 → (0 ≤ Ms 34 i ∧ Ms 34 i < Ms 32 0) ∧ (0 ≤ Ms 35 i ∧ Ms 35 i < Ms 32 0) ∧ (0 ≤ Ms 36 i ∧ Ms 36 i < Ms 32 0)) : SOLN d (fun i => M 40 i) (Ms 32 0) m ↔ ANS d Ms m := by
  constructor
  · intro s i i0 i1
    obtain ⟨q1, q2, q3⟩ := hq i i0 i1
    have r1 := rw3_r (v := fun u => dg d (Ms 32 0) m u) (p := Ms 34 i) (q := Ms 35 i) (r := Ms 36 i) hd (dg_r hd) (dg_r hd) (dg_r hd)
    exact ((h (Ms 34 i) (Ms 35 i) (Ms 36 i) (by omega) (by omega) (by omega)).2 _ r1.1 r1.2).mp (s.pqr q1 q2 q3) i i0 i1 rfl rfl rfl
  · intro s
    refine SOLN.mk (fun p q r hp hq2 hr => ?_)
    have r1 := rw3_r (v := fun u => dg d (Ms 32 0) m u) (p := p) (q := q) (r := r) hd (dg_r hd) (dg_r hd) (dg_r hd)
    refine ((h p q r (by omega) (by omega) (by omega)).2 _ r1.1 r1.2).mpr (fun i i0 i1 y1 y2 y3 => ?_)
    have y := s i i0 i1
    rw [y1, y2, y3] at y
    exact y
/-- how many answers there are, in the class -/
noncomputable def NAn (d : Int) (M : nM) : Int := cf (fun m => bb (ANS d M m)) (pn d (M 32 0).toNat).toNat
theorem gall_ans {d : Int} {Ms M : nM} (hd : d = 2 ∨ d = 3) (h : ALn d (Ms 32 1) Ms M) (hU : Ms 32 0 ≤ 8) (hq : ∀ i : Int, 0 ≤ i → i < Ms 32 1 → (0 ≤ Ms 34 i ∧ Ms 34 i < Ms 32 0) ∧ (0 ≤ Ms 35 i ∧ Ms 35 i < Ms 32 0) ∧ (0 ≤ Ms 36 i ∧ Ms 36 i < Ms 32 0)) : gall d (Ms 32 0) 0 0 (fun i => M 40 i) = NAn d Ms := by
  unfold gall NAn
  rw [show Ms 32 0 - 0 = Ms 32 0 by omega]
  refine cf_congr _ (fun i i0 i1 => bb_c ?_)
  rw [show 0 * pn d (Ms 32 0).toNat + i = i by omega]
  exact h.ans hd hU hq
theorem NAn.of {d L : Int} {M M2 : nM} (hq : ∀ i : Int, 0 ≤ i → i < M 32 1 → 0 ≤ M 33 i ∧ M 33 i < L) (e : ∀ a i : Int, (a = 32 ∧ (i = 0 ∨ i = 1)) ∨ (33 ≤ a ∧ a ≤ 36) ∨ (79 ≤ a ∧ a < 79 + 2 * L) → M2 a i = M a i) : NAn d M2 = NAn d M := by
  unfold NAn
  rw [e 32 0 (by omega)]
  refine cf_congr _ (fun m m0 m1 => bb_c ?_)
  unfold ANS
  rw [e 32 0 (by omega), e 32 1 (by omega)]
  constructor
  · intro h i i0 i1
    have y := h i i0 i1
    have q := hq i i0 i1
    rw [e 33 i (by omega), e 34 i (by omega), e 35 i (by omega), e 36 i (by omega), e (79 + 2 * M 33 i) 2 (by omega)] at y
    exact y
  · intro h i i0 i1
    have y := h i i0 i1
    have q := hq i i0 i1
    rw [e 33 i (by omega), e 34 i (by omega), e 35 i (by omega), e 36 i (by omega), e (79 + 2 * M 33 i) 2 (by omega)]
    exact y
