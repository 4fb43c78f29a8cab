/-! Quick riddles: the kinds of acts. -/
def tbl (l : List Int) (x : Int) : Int := l.getD x.toNat 0
def tHf (d : Int) : List Int := if d = 2 then [0, 2, 2, 1] else [0, 5, 4, 5, 1, 3, 4, 3, 2]
def tMo (d : Int) : List Int := if d = 2 then [0, 0, 0, 1, 0, 1, 1, 1] else [0, 0, 0, 0, 1, 8, 0, 7, 2, 0, 1, 6, 1, 1, 1, 5, 1, 2, 0, 4, 2, 3, 1, 2, 2, 2, 2]
def tSu (d : Int) : List Int := if d = 2 then [0, 1, 1, 0, 1, 0, 0, 1] else [0, 1, 2, 2, 0, 1, 1, 2, 0, 1, 2, 0, 0, 1, 2, 2, 0, 1, 2, 0, 1, 1, 2, 0, 0, 1, 2]
/-- how many variables a kind has -/
def kV (q d : Int) : Int := if q = 0 then (if d = 2 then 3 else 6) else if q = 1 then (if d = 2 then 2 else 9) else d
def kT (q d : Int) : List Int := if q = 0 then tHf d else if q = 1 then tMo d else tSu d
def km (q : Int) : Int := if q = 0 then 2 else 3
def kN (d : Int) : Int := if d = 2 then 1 else 5
theorem kT_r : ∀ q : Nat, q < 3 → ∀ d : Nat, d < 4 → 2 ≤ d → ∀ x : Nat, x < (pw (d : Int) (km (q : Int))).toNat → 0 ≤ tbl (kT (q : Int) (d : Int)) (x : Int) ∧ tbl (kT (q : Int) (d : Int)) (x : Int) < kV (q : Int) (d : Int) := by decide +kernel
theorem kT_b {q d x : Int} (hq : 0 ≤ q ∧ q ≤ 2) (hd : d = 2 ∨ d = 3) (hx : 0 ≤ x ∧ x < pw d (km q)) : 0 ≤ tbl (kT q d) x ∧ tbl (kT q d) x < kV q d := by
  obtain ⟨a, rfl⟩ : ∃ a : Nat, q = a := ⟨q.toNat, by omega⟩
  obtain ⟨b, rfl⟩ : ∃ b : Nat, d = b := ⟨d.toNat, by omega⟩
  obtain ⟨c, rfl⟩ : ∃ c : Nat, x = c := ⟨x.toNat, by omega⟩
  exact kT_r a (by omega) b (by omega) (by omega) c (by omega)
theorem kV_r {q d : Int} (hq : 0 ≤ q ∧ q ≤ 2) (hd : d = 2 ∨ d = 3) : d ≤ kV q d ∧ kV q d ≤ 9 := by
  rcases (show q = 0 ∨ q = 1 ∨ q = 2 by omega) with rfl | rfl | rfl <;> rcases hd with rfl | rfl <;> decide
/-- the form of a kind in the class -/
def FQk (q d : Int) (M : nM) : Prop := M 44 0 = km q ∧ M 44 1 = d ∧ M 44 2 = kV q d ∧ (M 44 3 = if q = 0 then 1 else 0) ∧ M 44 5 = d ∧ ∀ i : Int, 0 ≤ i → i < d * d * d → M 45 i = tbl (kT q d) (i % pw d (km q))
theorem FQk.of {q d : Int} {M M2 : nM} (h : FQk q d M) (e : ∀ a i : Int, a = 44 ∨ a = 45 → M2 a i = M a i) : FQk q d M2 := by
  obtain ⟨h1, h2, h3, h4, h5, h6⟩ := h
  exact ⟨by rw [e 44 0 (by omega)]; exact h1, by rw [e 44 1 (by omega)]; exact h2, by rw [e 44 2 (by omega)]; exact h3, by rw [e 44 3 (by omega)]; exact h4, by rw [e 44 5 (by omega)]; exact h5, fun i i0 i1 => by rw [e 45 i (by omega)]; exact h6 i i0 i1⟩
theorem km_r {q : Int} (hq : 0 ≤ q ∧ q ≤ 2) : 2 ≤ km q ∧ km q ≤ 3 := by
  unfold km
  split <;> omega
theorem FQk.fm {q d : Int} {M : nM} (hq : 0 ≤ q ∧ q ≤ 2) (hd : d = 2 ∨ d = 3) (h : FQk q d M) : FMk d (M 44 0) (kV q d) (fun x => M 45 x) := by
  have hk := km_r hq
  have hp := pw_r hd (show 1 ≤ km q ∧ km q ≤ 3 by omega)
  rw [h.1]
  refine ⟨by omega, fun i i0 i1 => ?_, fun i i0 i1 => ?_⟩
  · show M 45 i = M 45 (i % pw d (km q))
    have a := Int.emod_nonneg i (show pw d (km q) ≠ 0 by omega)
    have b := Int.emod_lt_of_pos i (show 0 < pw d (km q) by omega)
    rw [h.2.2.2.2.2 i i0 i1, h.2.2.2.2.2 _ a (by omega), Int.emod_emod_of_dvd _ (Int.dvd_refl _)]
  · show 0 ≤ M 45 i ∧ M 45 i < kV q d
    rw [h.2.2.2.2.2 i i0 (by omega), Int.emod_eq_of_lt i0 i1]
    exact kT_b hq hd ⟨i0, i1⟩
/-- the act of a kind with the free values k -/
def fq (q d k x : Int) : Int := if tbl (kT q d) x < d then tbl (kT q d) x else k / pn d (kV q d - 1 - tbl (kT q d) x).toNat % d
/-- a code's digits put together -/
def cdN (d : Int) (f : Int → Int) (r : Int) : Nat → Int
  | 0 => 0
  | n + 1 => f r + d * cdN d f (r + 1) n
theorem cdN_congr {d : Int} {f g : Int → Int} : ∀ (n : Nat) (r : Int), (∀ i : Int, r ≤ i → i < r + n → f i = g i) → cdN d f r n = cdN d g r n
  | 0, _, _ => rfl
  | n + 1, r, h => by
    show f r + d * cdN d f (r + 1) n = g r + d * cdN d g (r + 1) n
    rw [h r (by omega) (by omega), cdN_congr n (r + 1) (fun i i0 i1 => h i (by omega) (by omega))]
theorem kN_d {d u : Int} (hd : d = 2 ∨ d = 3) (hu : 0 ≤ u ∧ u < d) : kN d / pn d (d - 1 - u).toNat % d = u := by
  rcases hd with rfl | rfl
  · rcases (show u = 0 ∨ u = 1 by omega) with rfl | rfl <;> decide
  · rcases (show u = 0 ∨ u = 1 ∨ u = 2 by omega) with rfl | rfl | rfl <;> decide
/-- the values of the number that has the constants ahead and k behind -/
theorem dg_fq {q d k x : Int} (hq : 0 ≤ q ∧ q ≤ 2) (hd : d = 2 ∨ d = 3) (hk : 0 ≤ k ∧ k < pn d (kV q d - d).toNat) (hx : 0 ≤ x ∧ x < pw d (km q)) : dg d (kV q d) (kN d * pn d (kV q d - d).toNat + k) (tbl (kT q d) x) = fq q d k x := by
  have t := kT_b hq hd hx
  have v := kV_r hq hd
  unfold fq
  by_cases h : tbl (kT q d) x < d
  · rw [if_pos h, dg_pre hd ⟨t.1, h⟩ v.1 hk]
    exact kN_d hd ⟨t.1, h⟩
  · rw [if_neg h]
    unfold dg
    have e : pn d (kV q d - d).toNat = pn d (kV q d - 1 - tbl (kT q d) x).toNat * (d * pn d (tbl (kT q d) x - d).toNat) := by
      rw [show (kV q d - d).toNat = (kV q d - 1 - tbl (kT q d) x).toNat + (1 + (tbl (kT q d) x - d).toNat) by omega, pn_add, pn_add]
      congr 2
      show d * 1 = d
      rw [Int.mul_one]
    have p := pn_pos hd (kV q d - 1 - tbl (kT q d) x).toNat
    have e2 : kN d * pn d (kV q d - d).toNat + k = k + (kN d * (d * pn d (tbl (kT q d) x - d).toNat)) * pn d (kV q d - 1 - tbl (kT q d) x).toNat := by
      rw [e, Int.add_comm, Int.mul_comm (pn d (kV q d - 1 - tbl (kT q d) x).toNat), ← Int.mul_assoc]
    rw [e2, Int.add_mul_ediv_right _ _ (by omega), ← Int.mul_assoc, Int.mul_comm (kN d) d, Int.mul_assoc, Int.add_mul_emod_self_left]
/-- what the class answers: the code of the least of its kind -/
def cQk (q d z : Int) (G : Int → Prop) (N : Nat) : Prop := (z = -7 ∧ ∀ k : Int, 0 ≤ k → k < pn d (kV q d - d).toNat → ¬ G k) ∨ ∃ k : Int, 0 ≤ k ∧ k < pn d (kV q d - d).toNat ∧ G k ∧ (∀ j : Int, 0 ≤ j → j < k → ¬ G j) ∧ z = cdN d (fq q d k) 0 N
theorem cQk.uniq {q d z z2 : Int} {G H : Int → Prop} {N : Nat} (h : cQk q d z G N) (h2 : cQk q d z2 H N) (e : ∀ k : Int, 0 ≤ k → k < pn d (kV q d - d).toNat → (G k ↔ H k)) : z = z2 := by
  rcases h with ⟨a, b⟩ | ⟨k, k0, k1, g, l, a⟩
  · rcases h2 with ⟨a2, -⟩ | ⟨k2, c0, c1, g2, -, -⟩
    · rw [a, a2]
    · exact absurd ((e k2 c0 c1).mpr g2) (b k2 c0 c1)
  · rcases h2 with ⟨-, b2⟩ | ⟨k2, c0, c1, g2, l2, a2⟩
    · exact absurd ((e k k0 k1).mp g) (b2 k k0 k1)
    · have : k = k2 := by
        by_cases h1 : k < k2
        · exact absurd ((e k k0 k1).mp g) (l2 k k0 h1)
        · by_cases h3 : k2 < k
          · exact absurd ((e k2 c0 c1).mpr g2) (l k2 c0 h3)
          · omega
      rw [a, a2, this]
/-- masks -/
def LMk (x n : Int) (f : Int → Int) : Prop := (0 ≤ x ∧ x ≤ 4095) ∧ ∀ l : Int, 0 ≤ l → (bt x l ↔ ∃ i : Int, 0 ≤ i ∧ i < n ∧ f i = l)
theorem LMk.init {f : Int → Int} : LMk 0 0 f := ⟨by omega, fun l _ => ⟨fun h => absurd h (bt_0 l), fun ⟨i, i0, i1, _⟩ => by omega⟩⟩
theorem n_or12 {x y : Nat} (hx : x < 4096) (hy : y < 12) : x ||| 2 ^ y < 4096 := Nat.or_lt_two_pow (n := 12) hx (Nat.pow_lt_pow_right (by omega) hy)
theorem LMk.add {x n a : Int} {f : Int → Int} (h : LMk x n f) (hn : 0 ≤ n) (ha : 0 ≤ a ∧ a ≤ 11) (e : a = f n) : LMk (n_or x (n_shl 1 a)) (n + 1) f := by
  obtain ⟨h1, h2⟩ := h
  refine ⟨?_, fun l l0 => ?_⟩
  · obtain ⟨b, rfl⟩ : ∃ b : Nat, x = b := ⟨x.toNat, by omega⟩
    obtain ⟨c, rfl⟩ : ∃ c : Nat, a = c := ⟨a.toNat, by omega⟩
    have s : ∀ c : Nat, c < 12 → n_shl 1 (c : Int) = ((2 ^ c : Nat) : Int) := by decide +kernel
    have p : (2 : Nat) ^ c < 2 ^ 27 := Nat.pow_lt_pow_right (by omega) (by omega)
    rw [s c (by omega), n_or_n (by omega) p]
    have r := n_or12 (x := b) (y := c) (by omega) (by omega)
    omega
  · rw [bt_or (by omega) (by omega) l0, h2 l l0]
    constructor
    · rintro (⟨i, i0, i1, q⟩ | q)
      · exact ⟨i, i0, by omega, q⟩
      · exact ⟨n, hn, by omega, by rw [← e, q]⟩
    · rintro ⟨i, i0, i1, q⟩
      by_cases u : i = n
      · exact Or.inr (by rw [← q, u, e])
      · exact Or.inl ⟨i, i0, by omega, q⟩
theorem LMk.uniq {x y n : Int} {f g : Int → Int} (h : LMk x n f) (h2 : LMk y n g) (e : ∀ i : Int, 0 ≤ i → i < n → f i = g i) : x = y := bt_ext (by have := h.1; omega) (by have := h2.1; omega) (fun l l0 _ => by
  rw [h.2 l l0, h2.2 l l0]
  exact ⟨fun ⟨i, i0, i1, q⟩ => ⟨i, i0, i1, by rw [← e i i0 i1]; exact q⟩, fun ⟨i, i0, i1, q⟩ => ⟨i, i0, i1, by rw [e i i0 i1]; exact q⟩⟩)
/-- what an act of the kind with the free values k must be, in the class -/
def Gc (q d mask n : Int) (M : nM) (k : Int) : Prop := (q = 0 → ASC d (fq q d k)) ∧ KM d (km q) (fq q d k) mask n M
def Gm (q d mask : Int) (M : nM) (k : Int) : Prop := (q = 0 → ASC d (fq q d k)) ∧ KMm d (km q) (fq q d k) mask M
theorem ASC_congr {d : Int} {f g : Int → Int} (hd : d = 2 ∨ d = 3) (hg : ∀ i : Int, 0 ≤ i → i < d * d → 0 ≤ g i ∧ g i < d) (e : ∀ i : Int, 0 ≤ i → i < d * d → f i = g i) : ASC d f ↔ ASC d g := by
  have r : ∀ a b : Int, (0 ≤ a ∧ a < d) → (0 ≤ b ∧ b < d) → 0 ≤ a * d + b ∧ a * d + b < d * d := fun a b ha hb => by
    rcases hd with rfl | rfl <;> omega
  have y : ∀ a b c : Int, (0 ≤ a ∧ a < d) → (0 ≤ b ∧ b < d) → (0 ≤ c ∧ c < d) → (f (f (a * d + b) * d + c) = f (a * d + f (b * d + c)) ↔ g (g (a * d + b) * d + c) = g (a * d + g (b * d + c))) := fun a b c ha hb hc => by
    have q1 := r a b ha hb
    have q2 := r b c hb hc
    have q3 := r (g (a * d + b)) c (hg _ q1.1 q1.2) hc
    have q4 := r a (g (b * d + c)) ha (hg _ q2.1 q2.2)
    rw [e _ q1.1 q1.2, e _ q2.1 q2.2, e _ q3.1 q3.2, e _ q4.1 q4.2]
  exact ⟨fun h a b c ha hb hc => (y a b c ha hb hc).mp (h a b c ha hb hc), fun h a b c ha hb hc => (y a b c ha hb hc).mpr (h a b c ha hb hc)⟩
theorem fq_r {q d k x : Int} (hq : 0 ≤ q ∧ q ≤ 2) (hd : d = 2 ∨ d = 3) (hx : 0 ≤ x ∧ x < pw d (km q)) : 0 ≤ fq q d k x ∧ fq q d k x < d := by
  have t := kT_b hq hd hx
  unfold fq
  split
  · omega
  · rcases hd with rfl | rfl <;> omega
theorem cQk.cls {q d mask n z : Int} {N : Nat} {Mf Mr Mo M1 : nM} (hq : 0 ≤ q ∧ q ≤ 2) (hd : d = 2 ∨ d = 3) (hN : (N : Int) = pw d (km q)) (F : FQk q d Mf) (r : RSM d (kV q d) mask n Mf Mr) (h40 : ∀ i : Int, 0 ≤ i → i < 729 → Mf 40 i = ARd d) (eo : ∀ a i : Int, a = 40 ∨ a = 44 ∨ a = 45 → Mo a i = Mr a i) (ff : FFP d (kV q d) (kN d) z Mo M1) : (z = 0 ∧ cQk q d (-7) (Gc q d mask n Mf) N) ∨ (z = 1 ∧ cQk q d (cdN d (fun x => M1 39 (M1 45 x)) 0 N) (Gc q d mask n Mf) N) := by
  have v := kV_r hq hd
  have hk := km_r hq
  have hp := pw_r hd (show 1 ≤ km q ∧ km q ≤ 3 by omega)
  have W := pn_pos hd (kV q d - d).toNat
  have fr : ∀ a i : Int, a = 44 ∨ a = 45 → Mo a i = Mf a i := fun a i u => (eo a i (by omega)).trans (r.2 a i (by omega))
  have e40 : (fun i => Mo 40 i) = fun i => Mr 40 i := funext fun i => eo 40 i (by omega)
  have d2 : d * d ≤ pw d (km q) := by
    unfold pw km
    rcases (show q = 0 ∨ q = 1 ∨ q = 2 by omega) with rfl | rfl | rfl <;> rcases hd with rfl | rfl <;> decide
  have k45 : ∀ x : Int, 0 ≤ x → x < pw d (km q) → Mo 45 x = tbl (kT q d) x := fun x x0 x1 => by
    rw [fr 45 x (by omega), F.2.2.2.2.2 x x0 (by omega), Int.emod_eq_of_lt x0 x1]
  have key : ∀ k : Int, 0 ≤ k → k < pn d (kV q d - d).toNat → ((ga d (kV q d) d (kN d) (fun i => Mo 40 i) (kN d * pn d (kV q d - d).toNat + k) ∧ SUm d (kV q d) Mo (kN d * pn d (kV q d - d).toNat + k)) ↔ Gc q d mask n Mf k) := fun k k0 k1 => by
    have hv : vok d (kV q d) (fun u => dg d (kV q d) (kN d * pn d (kV q d - d).toNat + k) u) := fun u _ _ => dg_r hd
    have s1 : SOLN d (fun i => Mo 40 i) (kV q d) (kN d * pn d (kV q d - d).toNat + k) ↔ KM d (km q) (fq q d k) mask n Mf := by
      rw [e40, SOLN_SAT, r.1.2 _ hv]
      show (SATV d (fun i => Mf 40 i) (kV q d) (fun u => dg d (kV q d) (kN d * pn d (kV q d - d).toNat + k) u) ∧ KM d (Mf 44 0) (fun x => dg d (kV q d) (kN d * pn d (kV q d - d).toNat + k) (Mf 45 x)) mask n Mf) ↔ KM d (km q) (fq q d k) mask n Mf
      rw [F.1]
      have e : KM d (km q) (fun x => dg d (kV q d) (kN d * pn d (kV q d - d).toNat + k) (Mf 45 x)) mask n Mf ↔ KM d (km q) (fq q d k) mask n Mf := KM_congr hd (by omega) (fun x x0 x1 => by
        show dg d (kV q d) (kN d * pn d (kV q d - d).toNat + k) (Mf 45 x) = fq q d k x
        rw [F.2.2.2.2.2 x x0 (by omega), Int.emod_eq_of_lt x0 x1]
        exact dg_fq hq hd ⟨k0, k1⟩ ⟨x0, x1⟩)
      rw [e]
      exact ⟨fun u => u.2, fun u => ⟨SATV.init hd v.2 h40 hv, u⟩⟩
    have s2 : SUm d (kV q d) Mo (kN d * pn d (kV q d - d).toNat + k) ↔ (q = 0 → ASC d (fq q d k)) := by
      unfold SUm SUIT
      rw [fr 44 3 (by omega), F.2.2.2.1]
      have e : ASC d (fun x => dg d (kV q d) (kN d * pn d (kV q d - d).toNat + k) (Mo 45 x)) ↔ ASC d (fq q d k) := ASC_congr hd (fun x x0 x1 => fq_r hq hd ⟨x0, by omega⟩) (fun x x0 x1 => by
        show dg d (kV q d) (kN d * pn d (kV q d - d).toNat + k) (Mo 45 x) = fq q d k x
        rw [k45 x x0 (by omega)]
        exact dg_fq hq hd ⟨k0, k1⟩ ⟨x0, by omega⟩)
      show ((if q = 0 then (1 : Int) else 0) = 0 ∨ ASC d (fun x => dg d (kV q d) (kN d * pn d (kV q d - d).toNat + k) (Mo 45 x))) ↔ _
      rw [e]
      by_cases u : q = 0
      · rw [if_pos u]
        exact ⟨fun y _ => y.elim (fun w => by omega) id, fun y => Or.inr (y u)⟩
      · rw [if_neg u]
        exact ⟨fun _ w => absurd w u, fun _ => Or.inl rfl⟩
    unfold ga Gc
    rw [s1, s2]
    exact ⟨fun u => ⟨u.2, u.1.2.2⟩, fun u => ⟨⟨by omega, by omega, u.2⟩, u.1⟩⟩
  have un : ∀ m : Int, ga d (kV q d) d (kN d) (fun i => Mo 40 i) m → ∃ k : Int, 0 ≤ k ∧ k < pn d (kV q d - d).toNat ∧ m = kN d * pn d (kV q d - d).toNat + k := fun m g => ⟨m - kN d * pn d (kV q d - d).toNat, by have := g.1; omega, by have := g.2.1; omega, by omega⟩
  rcases ff.2 with ⟨z1, m, g, s, w, l⟩ | ⟨z0, a⟩
  · right
    refine ⟨z1, Or.inr ?_⟩
    obtain ⟨k, k0, k1, rfl⟩ := un m g
    refine ⟨k, k0, k1, (key k k0 k1).mp ⟨g, s⟩, fun j j0 j1 gj => ?_, ?_⟩
    · obtain ⟨g2, s2⟩ := (key j j0 (by omega)).mpr gj
      have := l _ g2 s2
      omega
    · refine cdN_congr N 0 (fun x x0 x1 => ?_)
      show M1 39 (M1 45 x) = fq q d k x
      rw [ff.1 45 x (by omega), k45 x x0 (by omega)]
      have t := kT_b hq hd ⟨x0, show x < pw d (km q) by omega⟩
      rw [w _ t.1 t.2]
      exact dg_fq hq hd ⟨k0, k1⟩ ⟨x0, by omega⟩
  · left
    refine ⟨z0, Or.inl ⟨rfl, fun k k0 k1 gk => ?_⟩⟩
    obtain ⟨g2, s2⟩ := (key k k0 k1).mpr gk
    exact a _ g2 s2
/-! the reference's halves -/
def HFm (d : Int) (f : Int → Int) : Prop := (∀ a : Int, 0 ≤ a → a < d → f (a * d + a) = a) ∧ (∀ a b : Int, (0 ≤ a ∧ a < d) → (0 ≤ b ∧ b < d) → f (a * d + b) = f (b * d + a)) ∧ ASC d f
theorem cd2 {c : Int} : ∀ x : Int, cdg 2 c x = c / pn 2 x.toNat % 2 := fun _ => rfl
theorem hf_2 {c : Int} (hc : 0 ≤ c ∧ c < 16) (h : HFm 2 (fun x => cdg 2 c x)) : ∃ k : Int, 0 ≤ k ∧ k < 2 ∧ (∀ x : Int, 0 ≤ x → x < 4 → cdg 2 c x = fq 0 2 k x) ∧ c = 8 + 6 * k := by
  have a0 : c / 1 % 2 = 0 := h.1 0 (by omega) (by omega)
  have a1 : c / 8 % 2 = 1 := h.1 1 (by omega) (by omega)
  have b : c / 2 % 2 = c / 4 % 2 := h.2.1 0 1 (by omega) (by omega)
  refine ⟨c / 2 % 2, by omega, by omega, fun x x0 x1 => ?_, by omega⟩
  rcases (show x = 0 ∨ x = 1 ∨ x = 2 ∨ x = 3 by omega) with rfl | rfl | rfl | rfl
  · show c / 1 % 2 = 0
    omega
  · show c / 2 % 2 = c / 2 % 2 / 1 % 2
    omega
  · show c / 4 % 2 = c / 2 % 2 / 1 % 2
    omega
  · show c / 8 % 2 = 1
    omega
theorem k27 {p q r : Int} (hp : 0 ≤ p ∧ p < 3) (hq : 0 ≤ q ∧ q < 3) (hr : 0 ≤ r ∧ r < 3) : (p + 3 * q + 9 * r) / 1 % 3 = p ∧ (p + 3 * q + 9 * r) / 3 % 3 = q ∧ (p + 3 * q + 9 * r) / 9 % 3 = r ∧ (p + 3 * q + 9 * r) % 3 = p ∧ 0 ≤ p + 3 * q + 9 * r ∧ p + 3 * q + 9 * r < 27 := by
  rcases (show p = 0 ∨ p = 1 ∨ p = 2 by omega) with rfl | rfl | rfl <;> rcases (show q = 0 ∨ q = 1 ∨ q = 2 by omega) with rfl | rfl | rfl <;> rcases (show r = 0 ∨ r = 1 ∨ r = 2 by omega) with rfl | rfl | rfl <;> decide
theorem dg9a (c : Int) : c = c / 1 % 3 + 3 * (c / 3) := by omega
theorem dg9b (c n : Int) (hn : 0 < n) : c / n = c / n % 3 + 3 * (c / (n * 3)) := by
  rw [← Int.ediv_ediv_of_nonneg (by omega)]
  omega
theorem dig9l {c x0 x1 x2 x3 x4 x5 x6 x7 x8 y1 y2 y3 y4 y5 y6 y7 y8 : Int} (h0 : c = x0 + 3 * y1) (h1 : y1 = x1 + 3 * y2) (h2 : y2 = x2 + 3 * y3) (h3 : y3 = x3 + 3 * y4) (h4 : y4 = x4 + 3 * y5) (h5 : y5 = x5 + 3 * y6) (h6 : y6 = x6 + 3 * y7) (h7 : y7 = x7 + 3 * y8) (h8 : y8 = x8) : c = x0 + 3 * x1 + 9 * x2 + 27 * x3 + 81 * x4 + 243 * x5 + 729 * x6 + 2187 * x7 + 6561 * x8 := by omega
theorem dig9 {c : Int} (hc : 0 ≤ c ∧ c < 19683) : c = c / 1 % 3 + 3 * (c / 3 % 3) + 9 * (c / 9 % 3) + 27 * (c / 27 % 3) + 81 * (c / 81 % 3) + 243 * (c / 243 % 3) + 729 * (c / 729 % 3) + 2187 * (c / 2187 % 3) + 6561 * (c / 6561 % 3) := by
  have h0 := dg9a c
  have h1 : c / 3 = c / 3 % 3 + 3 * (c / 9) := dg9b c 3 (by omega)
  have h2 : c / 9 = c / 9 % 3 + 3 * (c / 27) := dg9b c 9 (by omega)
  have h3 : c / 27 = c / 27 % 3 + 3 * (c / 81) := dg9b c 27 (by omega)
  have h4 : c / 81 = c / 81 % 3 + 3 * (c / 243) := dg9b c 81 (by omega)
  have h5 : c / 243 = c / 243 % 3 + 3 * (c / 729) := dg9b c 243 (by omega)
  have h6 : c / 729 = c / 729 % 3 + 3 * (c / 2187) := dg9b c 729 (by omega)
  have h7 : c / 2187 = c / 2187 % 3 + 3 * (c / 6561) := dg9b c 2187 (by omega)
  have h8 : c / 6561 = c / 6561 % 3 := by
    have a : 0 ≤ c / 6561 := Int.ediv_nonneg hc.1 (by omega)
    have b : c / 6561 < 3 := Int.ediv_lt_of_lt_mul (by omega) (by omega)
    exact (Int.emod_eq_of_lt a b).symm
  exact dig9l h0 h1 h2 h3 h4 h5 h6 h7 h8
theorem hf3l {c x0 x1 x2 x3 x4 x5 x6 x7 x8 : Int} (D : c = x0 + 3 * x1 + 9 * x2 + 27 * x3 + 81 * x4 + 243 * x5 + 729 * x6 + 2187 * x7 + 6561 * x8) (a0 : x0 = 0) (a1 : x4 = 1) (a2 : x8 = 2) (b1 : x1 = x3) (b2 : x2 = x6) (b3 : x5 = x7) : c = 13203 + 30 * x1 + 738 * x2 + 2430 * x5 := by omega
theorem hf_3 {c : Int} (hc : 0 ≤ c ∧ c < 19683) (h : HFm 3 (fun x => cdg 3 c x)) : ∃ k : Int, 0 ≤ k ∧ k < 27 ∧ (∀ x : Int, 0 ≤ x → x < 9 → cdg 3 c x = fq 0 3 k x) ∧ c = 13203 + 30 * (k % 3) + 738 * (k / 3 % 3) + 2430 * (k / 9 % 3) := by
  have a0 : c / 1 % 3 = 0 := h.1 0 (by omega) (by omega)
  have a1 : c / 81 % 3 = 1 := h.1 1 (by omega) (by omega)
  have a2 : c / 6561 % 3 = 2 := h.1 2 (by omega) (by omega)
  have b1 : c / 3 % 3 = c / 27 % 3 := h.2.1 0 1 (by omega) (by omega)
  have b2 : c / 9 % 3 = c / 729 % 3 := h.2.1 0 2 (by omega) (by omega)
  have b3 : c / 243 % 3 = c / 2187 % 3 := h.2.1 1 2 (by omega) (by omega)
  have z := hf3l (dig9 hc) a0 a1 a2 b1 b2 b3
  have e3 : ∀ y : Int, 0 ≤ y % 3 ∧ y % 3 < 3 := fun y => by omega
  have p1 := e3 (c / 3)
  have p2 := e3 (c / 9)
  have p3 := e3 (c / 243)
  obtain ⟨k1, k2, k3, k4, k5, k6⟩ := k27 p1 p2 p3
  refine ⟨c / 3 % 3 + 3 * (c / 9 % 3) + 9 * (c / 243 % 3), ?_, ?_, fun x x0 x1 => ?_, ?_⟩
  · exact k5
  · exact k6
  · rcases (show x = 0 ∨ x = 1 ∨ x = 2 ∨ x = 3 ∨ x = 4 ∨ x = 5 ∨ x = 6 ∨ x = 7 ∨ x = 8 by omega) with rfl | rfl | rfl | rfl | rfl | rfl | rfl | rfl | rfl
    · exact a0
    · exact k1.symm
    · exact k2.symm
    · exact b1.symm.trans k1.symm
    · exact a1
    · exact k3.symm
    · exact b2.symm.trans k2.symm
    · exact b3.symm.trans k3.symm
    · exact a2
  · rw [k4, k2, k3]
    exact z
theorem fh_k2 : ∀ k : Nat, k < 2 → ∀ x : Nat, x < 4 → cdg 2 (8 + 6 * (k : Int)) (x : Int) = fq 0 2 (k : Int) (x : Int) := by decide +kernel
theorem fh_c2 : ∀ k : Nat, k < 2 → cdN 2 (fq 0 2 (k : Int)) 0 4 = 8 + 6 * (k : Int) := by decide +kernel
theorem fh_2 {k : Int} (hk : 0 ≤ k ∧ k < 2) : (∀ x : Int, 0 ≤ x → x < 4 → cdg 2 (8 + 6 * k) x = fq 0 2 k x) ∧ cdN 2 (fq 0 2 k) 0 4 = 8 + 6 * k := by
  obtain ⟨n, rfl⟩ : ∃ n : Nat, k = n := ⟨k.toNat, by omega⟩
  refine ⟨fun x x0 x1 => ?_, fh_c2 n (by omega)⟩
  obtain ⟨m, rfl⟩ : ∃ m : Nat, x = m := ⟨x.toNat, by omega⟩
  exact fh_k2 n (by omega) m (by omega)
theorem fh_k3 : ∀ k : Nat, k < 27 → ∀ x : Nat, x < 9 → cdg 3 (13203 + 30 * ((k : Int) % 3) + 738 * ((k : Int) / 3 % 3) + 2430 * ((k : Int) / 9 % 3)) (x : Int) = fq 0 3 (k : Int) (x : Int) := by decide +kernel
theorem fh_c3 : ∀ k : Nat, k < 27 → cdN 3 (fq 0 3 (k : Int)) 0 9 = 13203 + 30 * ((k : Int) % 3) + 738 * ((k : Int) / 3 % 3) + 2430 * ((k : Int) / 9 % 3) := by decide +kernel
theorem fh_3 {k : Int} (hk : 0 ≤ k ∧ k < 27) : (∀ x : Int, 0 ≤ x → x < 9 → cdg 3 (13203 + 30 * (k % 3) + 738 * (k / 3 % 3) + 2430 * (k / 9 % 3)) x = fq 0 3 k x) ∧ cdN 3 (fq 0 3 k) 0 9 = 13203 + 30 * (k % 3) + 738 * (k / 3 % 3) + 2430 * (k / 9 % 3) := by
  obtain ⟨n, rfl⟩ : ∃ n : Nat, k = n := ⟨k.toNat, by omega⟩
  refine ⟨fun x x0 x1 => ?_, fh_c3 n (by omega)⟩
  obtain ⟨m, rfl⟩ : ∃ m : Nat, x = m := ⟨x.toNat, by omega⟩
  exact fh_k3 n (by omega) m (by omega)
theorem cm_k3 : ∀ k : Nat, k < 27 → ∀ j : Nat, j < k → 13203 + 30 * ((j : Int) % 3) + 738 * ((j : Int) / 3 % 3) + 2430 * ((j : Int) / 9 % 3) < 13203 + 30 * ((k : Int) % 3) + 738 * ((k : Int) / 3 % 3) + 2430 * ((k : Int) / 9 % 3) := by decide +kernel
theorem cm_2 {j k : Int} (hk : k < 2) (j0 : 0 ≤ j) (h : j < k) : 8 + 6 * j < 8 + 6 * k := by omega
theorem cm_3 {j k : Int} (hk : k < 27) (j0 : 0 ≤ j) (h : j < k) : 13203 + 30 * (j % 3) + 738 * (j / 3 % 3) + 2430 * (j / 9 % 3) < 13203 + 30 * (k % 3) + 738 * (k / 3 % 3) + 2430 * (k / 9 % 3) := by
  obtain ⟨n, rfl⟩ : ∃ n : Nat, k = n := ⟨k.toNat, by omega⟩
  obtain ⟨m, rfl⟩ : ∃ m : Nat, j = m := ⟨j.toNat, by omega⟩
  exact cm_k3 n (by omega) m (by omega)
def tVn (d : Int) : List Int := if d = 2 then [2, 2, 2, 2, 2, 2, 2, 2, 2] else [9, 9, 9, 9, 9, 9, 8, 8, 7, 7, 7, 7, 6, 6, 6, 6, 5, 5, 5, 5, 4, 4, 3, 3, 3, 3, 3, 3]
theorem mo_k02 : ∀ r : Nat, r < 8 → (((r : Int) / ((2 : Int) * 2) = (r : Int) / (2 : Int) % 2 ∨ (r : Int) / ((2 : Int) * 2) = (r : Int) % (2 : Int)) → tbl (kT 1 (2 : Int)) (r : Int) = (r : Int) / ((2 : Int) * 2) ∧ tbl (tVn (2 : Int)) (r : Int) = tbl (tVn (2 : Int)) ((r : Int) + 1)) := by decide +kernel
theorem mo_k03 : ∀ r : Nat, r < 27 → (((r : Int) / ((3 : Int) * 3) = (r : Int) / (3 : Int) % 3 ∨ (r : Int) / ((3 : Int) * 3) = (r : Int) % (3 : Int)) → tbl (kT 1 (3 : Int)) (r : Int) = (r : Int) / ((3 : Int) * 3) ∧ tbl (tVn (3 : Int)) (r : Int) = tbl (tVn (3 : Int)) ((r : Int) + 1)) := by decide +kernel
theorem mo_k12 : ∀ r : Nat, r < 8 → ((r : Int) / (2 : Int) % 2 = (r : Int) % (2 : Int) → tbl (kT 1 (2 : Int)) (r : Int) = (r : Int) / (2 : Int) % 2 ∧ tbl (tVn (2 : Int)) (r : Int) = tbl (tVn (2 : Int)) ((r : Int) + 1)) := by decide +kernel
theorem mo_k13 : ∀ r : Nat, r < 27 → ((r : Int) / (3 : Int) % 3 = (r : Int) % (3 : Int) → tbl (kT 1 (3 : Int)) (r : Int) = (r : Int) / (3 : Int) % 3 ∧ tbl (tVn (3 : Int)) (r : Int) = tbl (tVn (3 : Int)) ((r : Int) + 1)) := by decide +kernel
theorem mo_k22 : ∀ r : Nat, r < 8 → (((r : Int) / ((2 : Int) * 2) = (r : Int) / (2 : Int) % 2 ∨ (r : Int) / ((2 : Int) * 2) = (r : Int) % (2 : Int) ∨ (r : Int) / (2 : Int) % 2 = (r : Int) % (2 : Int)) ∨ (tbl (kT 1 (2 : Int)) (r : Int) = tbl (tVn (2 : Int)) ((r : Int) + 1) ∧ tbl (tVn (2 : Int)) (r : Int) = tbl (tVn (2 : Int)) ((r : Int) + 1) + 1 ∧ (2 : Int) ≤ tbl (tVn (2 : Int)) ((r : Int) + 1) ∧ tbl (tVn (2 : Int)) (r : Int) ≤ kV 1 (2 : Int))) := by decide +kernel
theorem mo_k23 : ∀ r : Nat, r < 27 → (((r : Int) / ((3 : Int) * 3) = (r : Int) / (3 : Int) % 3 ∨ (r : Int) / ((3 : Int) * 3) = (r : Int) % (3 : Int) ∨ (r : Int) / (3 : Int) % 3 = (r : Int) % (3 : Int)) ∨ (tbl (kT 1 (3 : Int)) (r : Int) = tbl (tVn (3 : Int)) ((r : Int) + 1) ∧ tbl (tVn (3 : Int)) (r : Int) = tbl (tVn (3 : Int)) ((r : Int) + 1) + 1 ∧ (3 : Int) ≤ tbl (tVn (3 : Int)) ((r : Int) + 1) ∧ tbl (tVn (3 : Int)) (r : Int) ≤ kV 1 (3 : Int))) := by decide +kernel
theorem mo_i {d r a b c : Int} (hd : d = 2 ∨ d = 3) (hr : 0 ≤ r ∧ r < d * d * d) (ea : a = r / (d * d)) (eb : b = r / d % d) (ec : c = r % d) : ((a = b ∨ a = c) → tbl (kT 1 d) r = a ∧ tbl (tVn d) r = tbl (tVn d) (r + 1)) ∧ (b = c → tbl (kT 1 d) r = b ∧ tbl (tVn d) r = tbl (tVn d) (r + 1)) ∧ (a ≠ b → a ≠ c → b ≠ c → tbl (kT 1 d) r = tbl (tVn d) (r + 1) ∧ tbl (tVn d) r = tbl (tVn d) (r + 1) + 1 ∧ d ≤ tbl (tVn d) (r + 1) ∧ tbl (tVn d) r ≤ kV 1 d) := by
  subst ea
  subst eb
  subst ec
  rcases hd with rfl | rfl
  · obtain ⟨n, rfl⟩ : ∃ n : Nat, r = n := ⟨r.toNat, by omega⟩
    exact ⟨mo_k02 n (by omega), mo_k12 n (by omega), fun h1 h2 h3 => (mo_k22 n (by omega)).elim (fun q => absurd q (by intro q; rcases q with q | q | q; exact h1 q; exact h2 q; exact h3 q)) id⟩
  · obtain ⟨n, rfl⟩ : ∃ n : Nat, r = n := ⟨r.toNat, by omega⟩
    exact ⟨mo_k03 n (by omega), mo_k13 n (by omega), fun h1 h2 h3 => (mo_k23 n (by omega)).elim (fun q => absurd q (by intro q; rcases q with q | q | q; exact h1 q; exact h2 q; exact h3 q)) id⟩
theorem tv_k : ∀ d : Nat, d < 4 → 2 ≤ d → ∀ r : Nat, r < d * d * d + 1 → (d : Int) ≤ tbl (tVn (d : Int)) (r : Int) ∧ tbl (tVn (d : Int)) (r : Int) ≤ kV 1 (d : Int) := by decide +kernel
theorem tv_r {d r : Int} (hd : d = 2 ∨ d = 3) (hr : 0 ≤ r ∧ r ≤ d * d * d) : d ≤ tbl (tVn d) r ∧ tbl (tVn d) r ≤ kV 1 d := by
  rcases hd with rfl | rfl
  · obtain ⟨n, rfl⟩ : ∃ n : Nat, r = n := ⟨r.toNat, by omega⟩
    exact tv_k 2 (by decide) (by decide) n (by omega)
  · obtain ⟨n, rfl⟩ : ∃ n : Nat, r = n := ⟨r.toNat, by omega⟩
    exact tv_k 3 (by decide) (by decide) n (by omega)
theorem su_k : ∀ d : Nat, d < 4 → 2 ≤ d → ∀ r : Nat, r < d * d * d → tbl (kT 2 (d : Int)) (r : Int) = ((r : Int) / ((d : Int) * d) - (r : Int) / (d : Int) % d + (r : Int) % (d : Int)) % (d : Int) ∧ tbl (kT 2 (d : Int)) (r : Int) = ((r : Int) / ((d : Int) * d) + (d : Int) - (r : Int) / (d : Int) % d + (r : Int) % (d : Int)) % (d : Int) := by decide +kernel
theorem su_i {d r a b c : Int} (hd : d = 2 ∨ d = 3) (hr : 0 ≤ r ∧ r < d * d * d) (ea : a = r / (d * d)) (eb : b = r / d % d) (ec : c = r % d) : tbl (kT 2 d) r = (a - b + c) % d ∧ tbl (kT 2 d) r = (a + d - b + c) % d := by
  subst ea
  subst eb
  subst ec
  rcases hd with rfl | rfl
  · obtain ⟨n, rfl⟩ : ∃ n : Nat, r = n := ⟨r.toNat, by omega⟩
    exact su_k 2 (by decide) (by decide) n (by omega)
  · obtain ⟨n, rfl⟩ : ∃ n : Nat, r = n := ⟨r.toNat, by omega⟩
    exact su_k 3 (by decide) (by decide) n (by omega)
theorem dgt3 {d r : Int} (hd : d = 2 ∨ d = 3) (hr : 0 ≤ r ∧ r < d * d * d) : dgt d 3 r 0 = r / (d * d) ∧ dgt d 3 r 1 = r / d % d ∧ dgt d 3 r 2 = r % d := by
  rcases hd with rfl | rfl
  · refine ⟨?_, rfl, ?_⟩
    · show r / 4 % 2 = r / 4
      omega
    · show r / 1 % 2 = r % 2
      omega
  · refine ⟨?_, rfl, ?_⟩
    · show r / 9 % 3 = r / 9
      omega
    · show r / 1 % 3 = r % 3
      omega
theorem c4 {r : Int} (h : 0 ≤ r ∧ r < 4) : r = 0 ∨ r = 1 ∨ r = 2 ∨ r = 3 := by omega
theorem c9 {r : Int} (h : 0 ≤ r ∧ r < 9) : r = 0 ∨ r = 1 ∨ r = 2 ∨ r = 3 ∨ r = 4 ∨ r = 5 ∨ r = 6 ∨ r = 7 ∨ r = 8 := by omega
theorem FQk.b {q d i : Int} {M : nM} (hq : 0 ≤ q ∧ q ≤ 2) (hd : d = 2 ∨ d = 3) (h : FQk q d M) (i0 : 0 ≤ i) (i1 : i < d * d * d) : 0 ≤ M 45 i ∧ M 45 i < kV q d := by
  have hk := km_r hq
  have hp := pw_r hd (show 1 ≤ km q ∧ km q ≤ 3 by omega)
  rw [h.2.2.2.2.2 i i0 i1]
  exact kT_b hq hd ⟨Int.emod_nonneg _ (by omega), Int.emod_lt_of_pos _ (by omega)⟩
theorem cQk.congr {q d z : Int} {G H : Int → Prop} {N : Nat} (h : cQk q d z G N) (e : ∀ k : Int, G k ↔ H k) : cQk q d z H N := by
  have y : G = H := funext fun k => propext (e k)
  rw [← y]
  exact h
theorem Gc.of {q d mask k : Int} {M M2 : nM} (e : ∀ a i : Int, (a = 3 ∧ i = 15) ∨ (79 ≤ a ∧ a < 79 + 2 * M 3 15) → M2 a i = M a i) : Gc q d mask (M2 3 15) M2 k ↔ Gc q d mask (M 3 15) M k := by
  unfold Gc
  rw [e 3 15 (by omega)]
  have y : KM d (km q) (fq q d k) mask (M 3 15) M2 ↔ KM d (km q) (fq q d k) mask (M 3 15) M := by
    constructor
    · intro h l l0 l1 b
      have y := h l l0 l1 b
      rw [e (79 + 2 * l) 0 (by omega), e (79 + 2 * l) 1 (by omega)] at y
      exact y
    · intro h l l0 l1 b
      have y := h l l0 l1 b
      rw [e (79 + 2 * l) 0 (by omega), e (79 + 2 * l) 1 (by omega)]
      exact y
  rw [y]
/-! the reference's kinds -/
def Gh (d mask : Int) (M : nM) (c : Int) : Prop := HFm d (fun x => cdg d c x) ∧ KMm d 2 (fun x => cdg d c x) mask M
def mHq (d z mask : Int) (M : nM) : Prop := (z = -7 ∧ ∀ c : Int, 0 ≤ c → c < pn d (d * d).toNat → ¬ Gh d mask M c) ∨ (0 ≤ z ∧ z < pn d (d * d).toNat ∧ Gh d mask M z ∧ ∀ c : Int, 0 ≤ c → c < z → ¬ Gh d mask M c)
theorem HFm_fq {d k : Int} {f : Int → Int} (hd : d = 2 ∨ d = 3) (e : ∀ x : Int, 0 ≤ x → x < d * d → f x = fq 0 d k x) : HFm d f ↔ ASC d (fq 0 d k) := by
  have hp : d * d ≤ pw d (km 0) := by rcases hd with rfl | rfl <;> decide
  have s : ASC d f ↔ ASC d (fq 0 d k) := ASC_congr hd (fun x x0 x1 => fq_r (by decide) hd ⟨x0, by omega⟩) e
  constructor
  · intro h
    exact s.mp h.2.2
  · intro h
    refine ⟨?_, ?_, s.mpr h⟩
    · intro a a0 a1
      rcases hd with rfl | rfl
      · rw [e _ (by omega) (by omega)]
        rcases (show a = 0 ∨ a = 1 by omega) with rfl | rfl <;> rfl
      · rw [e _ (by omega) (by omega)]
        rcases (show a = 0 ∨ a = 1 ∨ a = 2 by omega) with rfl | rfl | rfl <;> rfl
    · intro a b ha hb
      rcases hd with rfl | rfl
      · rw [e _ (by omega) (by omega), e _ (by omega) (by omega)]
        rcases (show a = 0 ∨ a = 1 by omega) with rfl | rfl <;> rcases (show b = 0 ∨ b = 1 by omega) with rfl | rfl <;> rfl
      · rw [e _ (by omega) (by omega), e _ (by omega) (by omega)]
        rcases (show a = 0 ∨ a = 1 ∨ a = 2 by omega) with rfl | rfl | rfl <;> rcases (show b = 0 ∨ b = 1 ∨ b = 2 by omega) with rfl | rfl | rfl <;> rfl
theorem HFm_congr {d c : Int} {f : Int → Int} (hd : d = 2 ∨ d = 3) (e : ∀ r : Int, 0 ≤ r → r < d * d → f r = cdg d c r) : HFm d f ↔ HFm d (fun x => cdg d c x) := by
  have r : ∀ a b : Int, (0 ≤ a ∧ a < d) → (0 ≤ b ∧ b < d) → 0 ≤ a * d + b ∧ a * d + b < d * d := fun a b ha hb => by
    rcases hd with rfl | rfl <;> omega
  have s : ASC d f ↔ ASC d (fun x => cdg d c x) := ASC_congr hd (fun i _ _ => by
    show 0 ≤ cdg d c i ∧ cdg d c i < d
    unfold cdg
    rcases hd with rfl | rfl <;> omega) e
  have k : ∀ a b : Int, (0 ≤ a ∧ a < d) → (0 ≤ b ∧ b < d) → f (a * d + b) = cdg d c (a * d + b) := fun a b ha hb => e _ (r a b ha hb).1 (r a b ha hb).2
  unfold HFm
  rw [s]
  refine ⟨fun h => ⟨fun a a0 a1 => ?_, fun a b ha hb => ?_, h.2.2⟩, fun h => ⟨fun a a0 a1 => ?_, fun a b ha hb => ?_, h.2.2⟩⟩
  · show cdg d c (a * d + a) = a
    rw [← k a a ⟨a0, a1⟩ ⟨a0, a1⟩]
    exact h.1 a a0 a1
  · show cdg d c (a * d + b) = cdg d c (b * d + a)
    rw [← k a b ha hb, ← k b a hb ha]
    exact h.2.1 a b ha hb
  · rw [k a a ⟨a0, a1⟩ ⟨a0, a1⟩]
    exact h.1 a a0 a1
  · rw [k a b ha hb, k b a hb ha]
    exact h.2.1 a b ha hb
theorem Gh_Gm {d mask k c : Int} {M : nM} (hd : d = 2 ∨ d = 3) (e : ∀ x : Int, 0 ≤ x → x < d * d → cdg d c x = fq 0 d k x) : Gh d mask M c ↔ Gm 0 d mask M k := by
  have hp : pw d 2 = d * d := by rcases hd with rfl | rfl <;> decide
  have a : HFm d (fun x => cdg d c x) ↔ ASC d (fq 0 d k) := HFm_fq hd e
  have b : KMm d 2 (fun x => cdg d c x) mask M ↔ KMm d 2 (fq 0 d k) mask M := KMm_congr hd (by omega) (fun i i0 i1 => e i i0 (by omega))
  unfold Gh Gm
  rw [a, b]
  exact ⟨fun h => ⟨fun _ => h.1, h.2⟩, fun h => ⟨h.1 rfl, h.2⟩⟩
theorem mHq.q_2 {z mask : Int} {M : nM} (h : mHq 2 z mask M) : cQk 0 2 z (Gm 0 2 mask M) 4 := by
  have pk : pn 2 (kV 0 2 - 2).toNat = 2 := by decide
  have pc : pn 2 (2 * 2 : Int).toNat = 16 := by decide +kernel
  unfold mHq at h
  rw [pc] at h
  unfold cQk
  rw [pk]
  rcases h with ⟨h1, h2⟩ | ⟨h1, h2, h3, h4⟩
  · refine Or.inl ⟨h1, fun k k0 k1 g => ?_⟩
    have f := fh_2 (k := k) ⟨k0, k1⟩
    exact h2 (8 + 6 * k) (by omega) (by omega) ((Gh_Gm (by decide) (fun x x0 x1 => f.1 x x0 (by omega))).mpr g)
  · obtain ⟨k, k0, k1, e, ec⟩ := hf_2 (c := z) ⟨h1, h2⟩ h3.1
    have f := fh_2 (k := k) ⟨k0, k1⟩
    refine Or.inr ⟨k, k0, k1, (Gh_Gm (by decide) (fun x x0 x1 => e x x0 (by omega))).mp h3, fun j j0 j1 g => ?_, ?_⟩
    · have fj := fh_2 (k := j) ⟨j0, by omega⟩
      have cm := cm_2 k1 j0 j1
      exact h4 (8 + 6 * j) (by omega) (by rw [ec]; exact cm) ((Gh_Gm (by decide) (fun x x0 x1 => fj.1 x x0 (by omega))).mpr g)
    · rw [f.2]
      exact ec
theorem mHq.q_3 {z mask : Int} {M : nM} (h : mHq 3 z mask M) : cQk 0 3 z (Gm 0 3 mask M) 9 := by
  have pk : pn 3 (kV 0 3 - 3).toNat = 27 := by decide
  have pc : pn 3 (3 * 3 : Int).toNat = 19683 := by decide +kernel
  unfold mHq at h
  rw [pc] at h
  unfold cQk
  rw [pk]
  rcases h with ⟨h1, h2⟩ | ⟨h1, h2, h3, h4⟩
  · refine Or.inl ⟨h1, fun k k0 k1 g => ?_⟩
    have f := fh_3 (k := k) ⟨k0, k1⟩
    exact h2 (13203 + 30 * (k % 3) + 738 * (k / 3 % 3) + 2430 * (k / 9 % 3)) (by omega) (by omega) ((Gh_Gm (by decide) (fun x x0 x1 => f.1 x x0 (by omega))).mpr g)
  · obtain ⟨k, k0, k1, e, ec⟩ := hf_3 (c := z) ⟨h1, h2⟩ h3.1
    have f := fh_3 (k := k) ⟨k0, k1⟩
    refine Or.inr ⟨k, k0, k1, (Gh_Gm (by decide) (fun x x0 x1 => e x x0 (by omega))).mp h3, fun j j0 j1 g => ?_, ?_⟩
    · have fj := fh_3 (k := j) ⟨j0, by omega⟩
      have cm := cm_3 k1 j0 j1
      exact h4 (13203 + 30 * (j % 3) + 738 * (j / 3 % 3) + 2430 * (j / 9 % 3)) (by omega) (by rw [ec]; exact cm) ((Gh_Gm (by decide) (fun x x0 x1 => fj.1 x x0 (by omega))).mpr g)
    · rw [f.2]
      exact ec
/-- what both sides answer -/
theorem Gcm {q d mask k : Int} {M : nM} (h : RL d M) : Gc q d mask (M 3 15) M k ↔ Gm q d mask M k := by
  unfold Gc Gm
  rw [h.km]
theorem fq_su {d k r : Int} (hd : d = 2 ∨ d = 3) (hr : 0 ≤ r ∧ r < d * d * d) : fq 2 d k r = tbl (kT 2 d) r := by
  have hp : d * d * d = pw d (km 2) := by rcases hd with rfl | rfl <;> decide
  have t := kT_b (q := 2) (by decide) hd ⟨hr.1, show r < pw d (km 2) by omega⟩
  have v : kV 2 d = d := rfl
  unfold fq
  rw [if_pos (by omega)]
theorem fq_mo {d k r : Int} (h : tbl (kT 1 d) r < d) : fq 1 d k r = tbl (kT 1 d) r := by
  unfold fq
  rw [if_pos h]
theorem fq_mv {d k r n x : Int} (h : d ≤ tbl (kT 1 d) r) (hn : n = kV 1 d - 1 - tbl (kT 1 d) r) (hx : x = k / pn d n.toNat) : fq 1 d k r = x % d := by
  unfold fq
  rw [if_neg (by omega), hx, hn]
def cQ (q d z : Int) (N : Nat) (M : nM) : Prop := ∃ mask : Int, LMk mask (M 32 1) (fun i => M 33 i) ∧ cQk q d z (Gc q d mask (M 3 15) M) N
def mQ (q d z : Int) (N : Nat) (M : nM) : Prop := ∃ mask : Int, LMk mask (M 112 11) (fun i => M 120 i) ∧ cQk q d z (Gm q d mask M) N
theorem RLK.qk {q d ac z z2 : Int} {N : Nat} {M0 M M2 : nM} (hd : d = 2 ∨ d = 3) (h : RLK d M) (hS : Sf d ac M0 M) (c : cQ q d z N M) (e : Eqc M M2) (m : mQ q d z2 N M2) : z = z2 := by
  obtain ⟨k1, l1, c1⟩ := c
  obtain ⟨k2, l2, c2⟩ := m
  have g11 : M 32 1 = M 112 11 := h.1.1.2.2.2.2
  have e11 : M2 112 11 = M 32 1 := (e 112 11 (by unfold core; omega)).trans g11.symm
  rw [e11] at l2
  have t1 := t_32_1 hS
  have ek : k1 = k2 := LMk.uniq l1 l2 (fun i i0 i1 => ((h.2 i i0 i1).1).trans (e 120 i (by unfold core; omega)).symm)
  subst ek
  refine cQk.uniq c1 c2 (fun k _ _ => (Gcm h.1.1).trans ?_)
  have y : KMm d (km q) (fq q d k) k1 M2 ↔ KMm d (km q) (fq q d k) k1 M := KMm.of (fun a i u => e a i (by unfold core; omega))
  unfold Gm
  rw [y]
