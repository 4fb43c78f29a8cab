/-! Narrowing: the greatest domains in which each thing has an open row. -/
def wA (d y : Int) : Int := y / (d * d)
def wB (d y : Int) : Int := y / d % d
def wC (d y : Int) : Int := y % d
theorem wABC {d y : Int} (hd : d = 2 ∨ d = 3) (hy : 0 ≤ y ∧ y < d * d * d) : (0 ≤ wA d y ∧ wA d y < d) ∧ (0 ≤ wB d y ∧ wB d y < d) ∧ (0 ≤ wC d y ∧ wC d y < d) := by
  unfold wA wB wC
  rcases hd with rfl | rfl <;> omega
theorem n_and_n {x y : Nat} (hx : x < 2 ^ 27) (hy : y < 2 ^ 27) : n_and (x : Int) (y : Int) = ((x &&& y : Nat) : Int) := by
  have hz : x &&& y ≤ x := Nat.and_le_left
  have e : n_and (x : Int) (y : Int) = ((Int32.ofInt (x : Int)).toBitVec &&& (Int32.ofInt (y : Int)).toBitVec).toInt := rfl
  have e3 : ((Int32.ofInt (x : Int)).toBitVec &&& (Int32.ofInt (y : Int)).toBitVec).toNat = x &&& y := by
    rw [BitVec.toNat_and, n_bv (by omega), n_bv (by omega), Int.toNat_natCast, Int.toNat_natCast]
  rw [e, BitVec.toInt_eq_toNat_of_lt (by omega), e3]
theorem bt_and {x y t : Int} (hx : 0 ≤ x ∧ x ≤ 134217727) (hy : 0 ≤ y ∧ y ≤ 134217727) (ht : 0 ≤ t) : bt (n_and x y) t ↔ (bt x t ∧ bt y t) := by
  obtain ⟨a, rfl⟩ : ∃ a : Nat, x = a := ⟨x.toNat, by omega⟩
  obtain ⟨b, rfl⟩ : ∃ b : Nat, y = b := ⟨y.toNat, by omega⟩
  obtain ⟨m, rfl⟩ : ∃ m : Nat, t = m := ⟨t.toNat, by omega⟩
  rw [n_and_n (by omega) (by omega), bt_tb, bt_tb, bt_tb, Nat.testBit_and, Bool.and_eq_true]
def Op (D : Int → Int) (x1 x2 x3 a b c : Int) : Prop := bt (D x1) a ∧ bt (D x2) b ∧ bt (D x3) c ∧ (x1 = x2 → a = b) ∧ (x2 = x3 → b = c) ∧ (x1 = x3 → a = c)
def OpW (d : Int) (D : Int → Int) (x1 x2 x3 y : Int) : Prop := Op D x1 x2 x3 (wA d y) (wB d y) (wC d y)
def SupN (d : Int) (D : Int → Int) (x1 x2 x3 w : Int) (g : Int → Int) (t : Int) : Prop := ∃ y : Int, 0 ≤ y ∧ y < d * d * d ∧ bt w y ∧ g y = t ∧ OpW d D x1 x2 x3 y
def NCq (d : Int) (D : Int → Int) (x1 x2 x3 w : Int) : Prop := ∀ t : Int, 0 ≤ t → t < d → (bt (D x1) t → SupN d D x1 x2 x3 w (wA d) t) ∧ (bt (D x2) t → SupN d D x1 x2 x3 w (wB d) t) ∧ (bt (D x3) t → SupN d D x1 x2 x3 w (wC d) t)
def alld (d : Int) : Int := if d = 2 then 3 else 7
def Dok (d U : Int) (D : Int → Int) : Prop := ∀ u : Int, 0 ≤ u → u < U → 0 ≤ D u ∧ D u ≤ alld d
theorem alld_r {d : Int} (hd : d = 2 ∨ d = 3) : 3 ≤ alld d ∧ alld d ≤ 7 := by
  rcases hd with rfl | rfl <;> decide
theorem alld_b : ∀ n : Nat, n ≤ 3 → ∀ x : Nat, x < 2 ^ n → ∀ t : Nat, t < 27 → x.testBit t = true → t < n := by decide +kernel
theorem Dbit {d x t : Int} (hd : d = 2 ∨ d = 3) (hx : 0 ≤ x ∧ x ≤ alld d) (ht : 0 ≤ t ∧ t ≤ 26) (h : bt x t) : t < d := by
  obtain ⟨a, rfl⟩ : ∃ a : Nat, x = a := ⟨x.toNat, by omega⟩
  obtain ⟨m, rfl⟩ : ∃ m : Nat, t = m := ⟨t.toNat, by omega⟩
  rcases hd with rfl | rfl
  · have hx : 0 ≤ (a : Int) ∧ (a : Int) ≤ 3 := hx
    have := alld_b 2 (by omega) a (by show a < 4; omega) m (by omega) (bt_tb.mp h)
    omega
  · have hx : 0 ≤ (a : Int) ∧ (a : Int) ≤ 7 := hx
    have := alld_b 3 (by omega) a (by show a < 8; omega) m (by omega) (bt_tb.mp h)
    omega
theorem OpW.mono {d x1 x2 x3 y : Int} {D E : Int → Int} (hd : d = 2 ∨ d = 3) (hy : 0 ≤ y ∧ y < d * d * d) (h : OpW d E x1 x2 x3 y) (e1 : sub27 (E x1) (D x1)) (e2 : sub27 (E x2) (D x2)) (e3 : sub27 (E x3) (D x3)) : OpW d D x1 x2 x3 y := by
  obtain ⟨h1, h2, h3, h4⟩ := h
  have w := wABC hd hy
  exact ⟨e1 _ (by omega) (by omega) h1, e2 _ (by omega) (by omega) h2, e3 _ (by omega) (by omega) h3, h4⟩
/-- the bits x of the digit g over the first n rows that are open -/
def BN (d : Int) (D : Int → Int) (x1 x2 x3 : Int) (r : Int → Int) (g : Int → Int) (x n : Int) : Prop := ∀ t : Int, 0 ≤ t → t ≤ 26 → (bt x t ↔ ∃ i : Int, 0 ≤ i ∧ i < n ∧ g (r i) = t ∧ OpW d D x1 x2 x3 (r i))
theorem BN.init {d x1 x2 x3 : Int} {D r g : Int → Int} : BN d D x1 x2 x3 r g 0 0 := fun t _ _ => ⟨fun h => absurd h (bt_0 t), fun ⟨i, i0, i1, _⟩ => by omega⟩
theorem BN.skip {d x1 x2 x3 x n : Int} {D r g : Int → Int} (h : BN d D x1 x2 x3 r g x n) (q : ¬ OpW d D x1 x2 x3 (r n)) : BN d D x1 x2 x3 r g x (n + 1) := fun t t0 t1 => by
  rw [h t t0 t1]
  constructor
  · rintro ⟨i, i0, i1, e, o⟩
    exact ⟨i, i0, by omega, e, o⟩
  · rintro ⟨i, i0, i1, e, o⟩
    by_cases u : i = n
    · rw [u] at o
      exact absurd o q
    · exact ⟨i, i0, by omega, e, o⟩
theorem BN.add {d x1 x2 x3 x n a : Int} {D r g : Int → Int} (h : BN d D x1 x2 x3 r g x n) (hn : 0 ≤ n) (hx : 0 ≤ x ∧ x ≤ 134217727) (ha : 0 ≤ a ∧ a ≤ 26) (e : g (r n) = a) (q : OpW d D x1 x2 x3 (r n)) : BN d D x1 x2 x3 r g (n_or x (n_shl 1 a)) (n + 1) := fun t t0 t1 => by
  rw [bt_or hx ha t0, h t t0 t1]
  constructor
  · rintro (⟨i, i0, i1, u, o⟩ | u)
    · exact ⟨i, i0, by omega, u, o⟩
    · exact ⟨n, hn, by omega, by rw [e, u], q⟩
  · rintro ⟨i, i0, i1, u, o⟩
    by_cases v : i = n
    · exact Or.inr (by rw [← u, v, e])
    · exact Or.inl ⟨i, i0, by omega, u, o⟩
theorem BN.sup {d k s w c x1 x2 x3 x : Int} {D r g : Int → Int} (hd : d = 2 ∨ d = 3) (hk : 1 ≤ k ∧ k ≤ 3) (hL : LRn d k s (pw d k) w c r) (h : BN d D x1 x2 x3 r g x c) {t : Int} (t0 : 0 ≤ t) (t1 : t ≤ 26) : bt x t ↔ SupN d D x1 x2 x3 w g t := by
  rw [h t t0 t1]
  constructor
  · rintro ⟨i, i0, i1, e, o⟩
    obtain ⟨n, hn, en, r0, r1⟩ := hL.row hd hk i0 i1
    exact ⟨r i, r0, r1, by rw [en]; exact (hL.bit hd hk ⟨hn.1, hn.2.1⟩).mpr hn.2.2, e, o⟩
  · rintro ⟨y, y0, y1, hb, e, o⟩
    have hp := (pw_r hd hk).2.2
    obtain ⟨n, n0, n1, hn, en⟩ := (hL.2.2.2.2 y y0 (by omega)).mp hb
    obtain ⟨i, i0, i1, ei⟩ := hL.2.2.2.1 n n0 n1 hn
    have ey : r i = y := by rw [ei, en]
    exact ⟨i, i0, i1, by rw [ey]; exact e, by rw [ey]; exact o⟩
def pc3 (x : Int) : Int := x % 2 + x / 2 % 2 + x / 4 % 2
theorem pc3_and : ∀ x : Nat, x < 8 → ∀ y : Nat, y < 8 → n_and (x : Int) (y : Int) = (x : Int) ∨ pc3 (n_and (x : Int) (y : Int)) + 1 ≤ pc3 (x : Int) := by decide +kernel
theorem pc3_a {x y : Int} (hx : 0 ≤ x ∧ x ≤ 7) (hy : 0 ≤ y ∧ y ≤ 7) : n_and x y = x ∨ pc3 (n_and x y) + 1 ≤ pc3 x := by
  obtain ⟨a, rfl⟩ : ∃ a : Nat, x = a := ⟨x.toNat, by omega⟩
  obtain ⟨b, rfl⟩ : ∃ b : Nat, y = b := ⟨y.toNat, by omega⟩
  exact pc3_and a (by omega) b (by omega)
theorem pc3_r {x : Int} (hx : 0 ≤ x ∧ x ≤ 7) : 0 ≤ pc3 x ∧ pc3 x ≤ 3 := by
  unfold pc3
  omega
def pcs (c : Int) (M : nM) : Int := pc3 (M c 0) + pc3 (M c 1) + pc3 (M c 2) + pc3 (M c 3) + pc3 (M c 4) + pc3 (M c 5) + pc3 (M c 6) + pc3 (M c 7)
theorem pcs_u {c i z : Int} {M M2 : nM} (hi : 0 ≤ i ∧ i ≤ 7) (he : M2 = nu M c i z) : pcs c M2 = pcs c M - pc3 (M c i) + pc3 z := by
  subst he
  unfold pcs
  rcases (show i = 0 ∨ i = 1 ∨ i = 2 ∨ i = 3 ∨ i = 4 ∨ i = 5 ∨ i = 6 ∨ i = 7 by omega) with rfl | rfl | rfl | rfl | rfl | rfl | rfl | rfl
  · rw [nu_s, nu_i (by omega), nu_i (by omega), nu_i (by omega), nu_i (by omega), nu_i (by omega), nu_i (by omega), nu_i (by omega)]; omega
  · rw [nu_s, nu_i (by omega), nu_i (by omega), nu_i (by omega), nu_i (by omega), nu_i (by omega), nu_i (by omega), nu_i (by omega)]; omega
  · rw [nu_s, nu_i (by omega), nu_i (by omega), nu_i (by omega), nu_i (by omega), nu_i (by omega), nu_i (by omega), nu_i (by omega)]; omega
  · rw [nu_s, nu_i (by omega), nu_i (by omega), nu_i (by omega), nu_i (by omega), nu_i (by omega), nu_i (by omega), nu_i (by omega)]; omega
  · rw [nu_s, nu_i (by omega), nu_i (by omega), nu_i (by omega), nu_i (by omega), nu_i (by omega), nu_i (by omega), nu_i (by omega)]; omega
  · rw [nu_s, nu_i (by omega), nu_i (by omega), nu_i (by omega), nu_i (by omega), nu_i (by omega), nu_i (by omega), nu_i (by omega)]; omega
  · rw [nu_s, nu_i (by omega), nu_i (by omega), nu_i (by omega), nu_i (by omega), nu_i (by omega), nu_i (by omega), nu_i (by omega)]; omega
  · rw [nu_s, nu_i (by omega), nu_i (by omega), nu_i (by omega), nu_i (by omega), nu_i (by omega), nu_i (by omega), nu_i (by omega)]; omega
/-- one unknown's domain is cut to f -/
def LV (c u f z : Int) (M M1 : nM) : Prop := (M1 = nu M c u (n_and (M c u) f)) ∧ ((z = 0 ∧ n_and (M c u) f = M c u) ∨ (z = 1 ∧ n_and (M c u) f ≠ M c u))
section
variable {d c u f z : Int} {M M1 : nM} {E : Int → Int}
theorem LV.at (h : LV c u f z M M1) (v : Int) : M1 c v = if v = u then n_and (M c u) f else M c v := by
  rw [h.1, nu_e]
  by_cases e : v = u
  · rw [if_pos ⟨rfl, e⟩, if_pos e]
  · rw [if_neg (fun q => e q.2), if_neg e]
theorem LV.sub (h : LV c u f z M M1) (hM : 0 ≤ M c u ∧ M c u ≤ 7) (hf : 0 ≤ f ∧ f ≤ 7) (v : Int) : sub27 (M1 c v) (M c v) := fun y y0 y1 q => by
  rw [h.at v] at q
  by_cases e : v = u
  · rw [if_pos e] at q
    rw [e]
    exact ((bt_and (by omega) (by omega) y0).mp q).1
  · rw [if_neg e] at q
    exact q
theorem LV.ok (hd : d = 2 ∨ d = 3) (h : LV c u f z M M1) (hu : 0 ≤ u ∧ u < 8) (hM : Dok d 8 (fun v => M c v)) : Dok d 8 (fun v => M1 c v) := fun v v0 v1 => by
  have a := hM v v0 v1
  have b := hM u hu.1 hu.2
  have r := alld_r hd
  show 0 ≤ M1 c v ∧ M1 c v ≤ alld d
  rw [h.at v]
  by_cases e : v = u
  · rw [if_pos e]
    have b : 0 ≤ M c u ∧ M c u ≤ alld d := b
    have q := n_and_x (x := M c u) (y := f) (by omega)
    omega
  · rw [if_neg e]
    exact a
theorem LV.keep (h : LV c u f z M M1) (hM : 0 ≤ M c u ∧ M c u ≤ 7) (hf : 0 ≤ f ∧ f ≤ 7) (v : Int) (q : sub27 (E v) (M c v)) (qf : sub27 (E u) f) : sub27 (E v) (M1 c v) := fun y y0 y1 w => by
  rw [h.at v]
  by_cases e : v = u
  · rw [if_pos e]
    rw [e] at q w
    exact (bt_and (by omega) (by omega) y0).mpr ⟨q y y0 y1 w, qf y y0 y1 w⟩
  · rw [if_neg e]
    exact q y y0 y1 w
theorem LV.pcs (h : LV c u f z M M1) (hu : 0 ≤ u ∧ u ≤ 7) (hM : 0 ≤ M c u ∧ M c u ≤ 7) (hf : 0 ≤ f ∧ f ≤ 7) : pcs c M1 ≤ pcs c M ∧ (z = 1 → pcs c M1 + 1 ≤ pcs c M) := by
  have e := pcs_u hu h.1
  have q := pc3_a hM hf
  rcases h.2 with ⟨a, b⟩ | ⟨a, b⟩
  · rw [b] at e
    exact ⟨by omega, fun w => by omega⟩
  · rcases q with q | q
    · exact absurd q b
    · exact ⟨by omega, fun _ => by omega⟩
theorem LV.same (h : LV c u f z M M1) (hz : z = 0) : M1 = M ∧ n_and (M c u) f = M c u := by
  rcases h.2 with ⟨-, b⟩ | ⟨a, -⟩
  · refine ⟨?_, b⟩
    rw [h.1, b]
    funext a i
    rw [nu_e]
    by_cases e : a = c ∧ i = u
    · rw [if_pos e, e.1, e.2]
    · rw [if_neg e]
  · omega
end
/-- what one ask's narrowing leaves; U: how many unknowns there are -/
def NB (d U x1 x2 x3 w z : Int) (M M3 : nM) : Prop := (∀ a i : Int, a ≠ 37 → M3 a i = M a i) ∧ Dok d 8 (fun v => M3 37 v) ∧ (∀ u : Int, sub27 (M3 37 u) (M 37 u)) ∧ (∀ E : Int → Int, Dok d U E → (∀ u : Int, 0 ≤ u → u < U → sub27 (E u) (M 37 u)) → NCq d E x1 x2 x3 w → ∀ u : Int, 0 ≤ u → u < U → sub27 (E u) (M3 37 u)) ∧ (z = 0 → M3 = M ∧ NCq d (fun v => M 37 v) x1 x2 x3 w) ∧ (z = 1 → pcs 37 M3 + 1 ≤ pcs 37 M) ∧ pcs 37 M3 ≤ pcs 37 M
theorem NB.mk {d U k s w c x1 x2 x3 f1 f2 f3 z1 z2 z3 : Int} {r : Int → Int} {M M1 M2 M3 : nM} (hd : d = 2 ∨ d = 3) (hk : 1 ≤ k ∧ k ≤ 3) (hL : LRn d k s (pw d k) w c r) (hU : U ≤ 8) (hM : Dok d 8 (fun v => M 37 v)) (h1 : 0 ≤ x1 ∧ x1 < U) (h2 : 0 ≤ x2 ∧ x2 < U) (h3 : 0 ≤ x3 ∧ x3 < U) (g1 : 0 ≤ f1 ∧ f1 ≤ 7) (g2 : 0 ≤ f2 ∧ f2 ≤ 7) (g3 : 0 ≤ f3 ∧ f3 ≤ 7) (b1 : BN d (fun v => M 37 v) x1 x2 x3 r (wA d) f1 c) (b2 : BN d (fun v => M 37 v) x1 x2 x3 r (wB d) f2 c) (b3 : BN d (fun v => M 37 v) x1 x2 x3 r (wC d) f3 c) (l1 : LV 37 x1 f1 z1 M M1) (l2 : LV 37 x2 f2 z2 M1 M2) (l3 : LV 37 x3 f3 z3 M2 M3) (q1 : 0 ≤ z1 ∧ z1 ≤ 1) (q2 : 0 ≤ z2 ∧ z2 ≤ 1) (q3 : 0 ≤ z3 ∧ z3 ≤ 1) : NB d U x1 x2 x3 w (n_or (n_or z1 z2) z3) M M3 := by
  have ar := alld_r hd
  have o1 := l1.ok hd (by omega) hM
  have o2 := l2.ok hd (by omega) o1
  have o3 := l3.ok hd (by omega) o2
  have r1 : 0 ≤ M 37 x1 ∧ M 37 x1 ≤ alld d := hM x1 (by omega) (by omega)
  have r2 : 0 ≤ M1 37 x2 ∧ M1 37 x2 ≤ alld d := o1 x2 (by omega) (by omega)
  have r3 : 0 ≤ M2 37 x3 ∧ M2 37 x3 ≤ alld d := o2 x3 (by omega) (by omega)
  have p1 := l1.pcs (by omega) (by omega) g1
  have p2 := l2.pcs (by omega) (by omega) g2
  have p3 := l3.pcs (by omega) (by omega) g3
  have orr := or01 q1 q2
  have orq : 0 ≤ n_or z1 z2 ∧ n_or z1 z2 ≤ 1 := by omega
  have ors := or01 orq q3
  refine ⟨fun a i ha => ?_, o3, fun u y y0 y1 q => ?_, fun E eo es en u u0 u1 => ?_, fun hz => ?_, fun hz => ?_, by omega⟩
  · rw [l3.1, nu_a ha, l2.1, nu_a ha, l1.1, nu_a ha]
  · exact l1.sub (by omega) g1 u y y0 y1 (l2.sub (by omega) g2 u y y0 y1 (l3.sub (by omega) g3 u y y0 y1 q))
  · have key : ∀ (x f : Int) (g : Int → Int), (0 ≤ x ∧ x < U) → BN d (fun v => M 37 v) x1 x2 x3 r g f c → (∀ t : Int, 0 ≤ t → t < d → bt (E x) t → SupN d E x1 x2 x3 w g t) → sub27 (E x) f := fun x f g hx hb hn t t0 t1 ht => by
      have td := Dbit hd (eo x hx.1 hx.2) ⟨t0, t1⟩ ht
      obtain ⟨y, y0, y1, yb, ye, yo⟩ := hn t t0 td ht
      exact (hb.sup hd hk hL t0 t1).mpr ⟨y, y0, y1, yb, ye, OpW.mono hd ⟨y0, y1⟩ yo (es x1 h1.1 h1.2) (es x2 h2.1 h2.2) (es x3 h3.1 h3.2)⟩
    have k1 := key x1 f1 (wA d) h1 b1 (fun t t0 t1 q => (en t t0 t1).1 q)
    have k2 := key x2 f2 (wB d) h2 b2 (fun t t0 t1 q => (en t t0 t1).2.1 q)
    have k3 := key x3 f3 (wC d) h3 b3 (fun t t0 t1 q => (en t t0 t1).2.2 q)
    exact l3.keep (by omega) g3 u (l2.keep (by omega) g2 u (l1.keep (by omega) g1 u (es u u0 u1) k1) k2) k3
  · have z0 : z1 = 0 ∧ z2 = 0 ∧ z3 = 0 := by omega
    obtain ⟨e1, n1⟩ := l1.same z0.1
    obtain ⟨e2, n2⟩ := l2.same z0.2.1
    obtain ⟨e3, n3⟩ := l3.same z0.2.2
    rw [e1] at e2 n2
    rw [e2] at e3 n3
    refine ⟨e3, fun t t0 t1 => ⟨fun q => ?_, fun q => ?_, fun q => ?_⟩⟩
    · have q : bt (M 37 x1) t := q
      rw [← n1] at q
      exact (b1.sup hd hk hL t0 (by omega)).mp ((bt_and (by omega) (by omega) t0).mp q).2
    · have q : bt (M 37 x2) t := q
      have r2' : 0 ≤ M 37 x2 ∧ M 37 x2 ≤ alld d := hM x2 (by omega) (by omega)
      rw [← n2] at q
      exact (b2.sup hd hk hL t0 (by omega)).mp ((bt_and (by omega) (by omega) t0).mp q).2
    · have q : bt (M 37 x3) t := q
      have r3' : 0 ≤ M 37 x3 ∧ M 37 x3 ≤ alld d := hM x3 (by omega) (by omega)
      rw [← n3] at q
      exact (b3.sup hd hk hL t0 (by omega)).mp ((bt_and (by omega) (by omega) t0).mp q).2
  · have := p1.2
    have := p2.2
    have := p3.2
    omega
/-- the asks' places and laws in the class -/
def NCs (d : Int) (M : nM) (D : Int → Int) (n : Int) : Prop := ∀ i : Int, 0 ≤ i → i < n → NCq d D (M 34 i) (M 35 i) (M 36 i) (M (79 + 2 * M 33 i) 2)
def GND (d : Int) (M : nM) (D : Int → Int) : Prop := Dok d (M 32 0) D ∧ NCs d M D (M 32 1) ∧ ∀ E : Int → Int, Dok d (M 32 0) E → NCs d M E (M 32 1) → ∀ u : Int, 0 ≤ u → u < M 32 0 → sub27 (E u) (D u)
theorem GND.uniq {d : Int} {M : nM} {D E : Int → Int} (hd : d = 2 ∨ d = 3) (h : GND d M D) (q : GND d M E) {u : Int} (u0 : 0 ≤ u) (u1 : u < M 32 0) : D u = E u := by
  have a := h.1 u u0 u1
  have b := q.1 u u0 u1
  have r := alld_r hd
  exact bt_ext (by omega) (by omega) (fun y y0 y1 => ⟨q.2.2 D h.1 h.2.1 u u0 u1 y y0 y1, h.2.2 E q.1 q.2.1 u u0 u1 y y0 y1⟩)
/-- the narrowing so far, n asks of the round done -/
def NI (d : Int) (Ms M : nM) : Prop := (∀ a i : Int, a ≠ 37 → M a i = Ms a i) ∧ Dok d 8 (fun v => M 37 v) ∧ ∀ E : Int → Int, Dok d (Ms 32 0) E → NCs d Ms E (Ms 32 1) → ∀ u : Int, 0 ≤ u → u < Ms 32 0 → sub27 (E u) (M 37 u)
theorem NI.step {d q z : Int} {Ms M M3 : nM} (h : NI d Ms M) (hq : 0 ≤ q ∧ q < Ms 32 1) (b : NB d (M 32 0) (M 34 q) (M 35 q) (M 36 q) (M (79 + 2 * M 33 q) 2) z M M3) (hl : 79 + 2 * Ms 33 q ≠ 37) : NI d Ms M3 ∧ (z = 0 → M3 = M ∧ NCq d (fun v => M 37 v) (Ms 34 q) (Ms 35 q) (Ms 36 q) (Ms (79 + 2 * Ms 33 q) 2)) ∧ (z = 1 → pcs 37 M3 + 1 ≤ pcs 37 M) ∧ pcs 37 M3 ≤ pcs 37 M := by
  obtain ⟨h1, h2, h3⟩ := h
  rw [h1 32 0 (by omega), h1 34 q (by omega), h1 35 q (by omega), h1 36 q (by omega), h1 33 q (by omega), h1 (79 + 2 * Ms 33 q) 2 hl] at b
  obtain ⟨b1, b2, b3, b4, b5, b6, b7⟩ := b
  exact ⟨⟨fun a i ha => (b1 a i ha).trans (h1 a i ha), b2, fun E e1 e2 u u0 u1 => b4 E e1 (h3 E e1 e2) (e2 q hq.1 hq.2) u u0 u1⟩, b5, b6, b7⟩
theorem NCs.step {d n : Int} {M : nM} {D : Int → Int} (h : NCs d M D n) (q : NCq d D (M 34 n) (M 35 n) (M 36 n) (M (79 + 2 * M 33 n) 2)) : NCs d M D (n + 1) := fun i i0 i1 => by
  by_cases e : i = n
  · rw [e]
    exact q
  · exact h i i0 (by omega)
theorem NI.init {d : Int} {Ms M : nM} (hd : d = 2 ∨ d = 3) (hU : Ms 32 0 ≤ 8) (e : ∀ a i : Int, a ≠ 37 → M a i = Ms a i) (f : ∀ u : Int, 0 ≤ u → u < 8 → M 37 u = alld d) : NI d Ms M := by
  have ar := alld_r hd
  refine ⟨e, fun u u0 u1 => ?_, fun E e1 _ u u0 u1 y y0 y1 q => ?_⟩
  · show 0 ≤ M 37 u ∧ M 37 u ≤ alld d
    rw [f u u0 u1]
    omega
  · rw [f u u0 (by omega)]
    have yd := Dbit hd (e1 u u0 u1) ⟨y0, y1⟩ q
    obtain ⟨m, rfl⟩ : ∃ m : Nat, y = m := ⟨y.toNat, by omega⟩
    rcases hd with rfl | rfl
    · exact bt_tb.mpr ((allbit 2 (by omega) m (by omega)).mpr (by omega))
    · exact bt_tb.mpr ((allbit 3 (by omega) m (by omega)).mpr (by omega))
theorem pcs_24 {d : Int} {M : nM} (hd : d = 2 ∨ d = 3) (h : Dok d 8 (fun v => M 37 v)) : 0 ≤ pcs 37 M ∧ pcs 37 M ≤ 24 := by
  have ar := alld_r hd
  have k : ∀ u : Int, 0 ≤ u → u < 8 → 0 ≤ pc3 (M 37 u) ∧ pc3 (M 37 u) ≤ 3 := fun u u0 u1 => by
    have q : 0 ≤ M 37 u ∧ M 37 u ≤ alld d := h u u0 u1
    exact pc3_r (by omega)
  have k0 := k 0 (by omega) (by omega)
  have k1 := k 1 (by omega) (by omega)
  have k2 := k 2 (by omega) (by omega)
  have k3 := k 3 (by omega) (by omega)
  have k4 := k 4 (by omega) (by omega)
  have k5 := k 5 (by omega) (by omega)
  have k6 := k 6 (by omega) (by omega)
  have k7 := k 7 (by omega) (by omega)
  unfold pcs
  omega
theorem NI.gnd {d : Int} {Ms M : nM} (hU : Ms 32 0 ≤ 8) (h : NI d Ms M) (q : NCs d Ms (fun v => M 37 v) (Ms 32 1)) : GND d Ms (fun v => M 37 v) := ⟨fun u u0 u1 => h.2.1 u u0 (by omega), q, h.2.2⟩
def cNa (d u z : Int) (M : nM) : Prop := ((u < 0 ∨ M 32 0 ≤ u) ∧ z = -1) ∨ (0 ≤ u ∧ u < M 32 0 ∧ ∃ D : Int → Int, GND d M D ∧ z = D u)
/-! the reference's side -/
def dgt (d k r j : Int) : Int := r / pwr d (k - 1 - j) % d
def FT (d : Int) (D u : Int → Int) (k r n : Int) : Prop := ∀ j : Int, 0 ≤ j → j < n → bt (D (u j)) (dgt d k r j) ∧ ∀ i : Int, 0 ≤ i → i < j → u i = u j → dgt d k r i = dgt d k r j
def y2 (k : Int) (u : Int → Int) : Int := if 1 < k then u 1 else u 0
def y3 (k : Int) (u : Int → Int) : Int := if 2 < k then u 2 else y2 k u
theorem FT_21 {r : Int} {D u : Int → Int} (hr : 0 ≤ r ∧ r < 2) : FT 2 D u 1 r 1 ↔ OpW 2 D (u 0) (y2 1 u) (y3 1 u) (wd 2 1 r) := by
  have e0 : dgt 2 1 r 0 = r / 1 % 2 := rfl
  have wAe : wA 2 (wd 2 1 r) = dgt 2 1 r 0 := by
    show (r * 7) / (2 * 2) = r / 1 % 2
    rw [(wq_21 hr).1]
    omega
  have wBe : wB 2 (wd 2 1 r) = dgt 2 1 r 0 := by
    show (r * 7) / 2 % 2 = r / 1 % 2
    rw [(wq_21 hr).2.1]
    omega
  have wCe : wC 2 (wd 2 1 r) = dgt 2 1 r 0 := by
    show (r * 7) % 2 = r / 1 % 2
    rw [(wq_21 hr).2.2]
    omega
  show _ ↔ (bt (D (u 0)) (wA 2 (wd 2 1 r)) ∧ bt (D (u 0)) (wB 2 (wd 2 1 r)) ∧ bt (D (u 0)) (wC 2 (wd 2 1 r)) ∧ (u 0 = u 0 → wA 2 (wd 2 1 r) = wB 2 (wd 2 1 r)) ∧ (u 0 = u 0 → wB 2 (wd 2 1 r) = wC 2 (wd 2 1 r)) ∧ (u 0 = u 0 → wA 2 (wd 2 1 r) = wC 2 (wd 2 1 r)))
  rw [wAe, wBe, wCe]
  constructor
  · intro h
    have h0 := h 0 (by omega) (by omega)
    exact ⟨h0.1, h0.1, h0.1, fun _ => rfl, fun _ => rfl, fun _ => rfl⟩
  · rintro ⟨q1, q2, q3, q4, q5, q6⟩ j j0 j1
    obtain rfl : j = 0 := by omega
    exact ⟨q1, fun i i0 i1 => by omega⟩
theorem FT_22 {r : Int} {D u : Int → Int} (hr : 0 ≤ r ∧ r < 4) : FT 2 D u 2 r 2 ↔ OpW 2 D (u 0) (y2 2 u) (y3 2 u) (wd 2 2 r) := by
  have e0 : dgt 2 2 r 0 = r / 2 % 2 := rfl
  have e1 : dgt 2 2 r 1 = r / 1 % 2 := rfl
  have wAe : wA 2 (wd 2 2 r) = dgt 2 2 r 0 := by
    show (r * 2 + r % 2) / (2 * 2) = r / 2 % 2
    rw [(wq_22 hr).1]
  have wBe : wB 2 (wd 2 2 r) = dgt 2 2 r 1 := by
    show (r * 2 + r % 2) / 2 % 2 = r / 1 % 2
    rw [(wq_22 hr).2.1]
    omega
  have wCe : wC 2 (wd 2 2 r) = dgt 2 2 r 1 := by
    show (r * 2 + r % 2) % 2 = r / 1 % 2
    rw [(wq_22 hr).2.2]
    omega
  show _ ↔ (bt (D (u 0)) (wA 2 (wd 2 2 r)) ∧ bt (D (u 1)) (wB 2 (wd 2 2 r)) ∧ bt (D (u 1)) (wC 2 (wd 2 2 r)) ∧ (u 0 = u 1 → wA 2 (wd 2 2 r) = wB 2 (wd 2 2 r)) ∧ (u 1 = u 1 → wB 2 (wd 2 2 r) = wC 2 (wd 2 2 r)) ∧ (u 0 = u 1 → wA 2 (wd 2 2 r) = wC 2 (wd 2 2 r)))
  rw [wAe, wBe, wCe]
  constructor
  · intro h
    have h0 := h 0 (by omega) (by omega)
    have h1 := h 1 (by omega) (by omega)
    exact ⟨h0.1, h1.1, h1.1, h1.2 0 (by omega) (by omega), fun _ => rfl, h1.2 0 (by omega) (by omega)⟩
  · rintro ⟨q1, q2, q3, q4, q5, q6⟩ j j0 j1
    rcases (show j = 0 ∨ j = 1 by omega) with rfl | rfl
    · exact ⟨q1, fun i i0 i1 => by omega⟩
    · exact ⟨q2, fun i i0 i1 => by obtain rfl : i = 0 := (by omega); exact q4⟩
theorem FT_23 {r : Int} {D u : Int → Int} (hr : 0 ≤ r ∧ r < 8) : FT 2 D u 3 r 3 ↔ OpW 2 D (u 0) (y2 3 u) (y3 3 u) (wd 2 3 r) := by
  have e0 : dgt 2 3 r 0 = r / 4 % 2 := rfl
  have e1 : dgt 2 3 r 1 = r / 2 % 2 := rfl
  have e2 : dgt 2 3 r 2 = r / 1 % 2 := rfl
  have wAe : wA 2 (wd 2 3 r) = dgt 2 3 r 0 := by
    show r / (2 * 2) = r / 4 % 2
    omega
  have wBe : wB 2 (wd 2 3 r) = dgt 2 3 r 1 := by
    show r / 2 % 2 = r / 2 % 2
    omega
  have wCe : wC 2 (wd 2 3 r) = dgt 2 3 r 2 := by
    show r % 2 = r / 1 % 2
    omega
  show _ ↔ (bt (D (u 0)) (wA 2 (wd 2 3 r)) ∧ bt (D (u 1)) (wB 2 (wd 2 3 r)) ∧ bt (D (u 2)) (wC 2 (wd 2 3 r)) ∧ (u 0 = u 1 → wA 2 (wd 2 3 r) = wB 2 (wd 2 3 r)) ∧ (u 1 = u 2 → wB 2 (wd 2 3 r) = wC 2 (wd 2 3 r)) ∧ (u 0 = u 2 → wA 2 (wd 2 3 r) = wC 2 (wd 2 3 r)))
  rw [wAe, wBe, wCe]
  constructor
  · intro h
    have h0 := h 0 (by omega) (by omega)
    have h1 := h 1 (by omega) (by omega)
    have h2 := h 2 (by omega) (by omega)
    exact ⟨h0.1, h1.1, h2.1, h1.2 0 (by omega) (by omega), h2.2 1 (by omega) (by omega), h2.2 0 (by omega) (by omega)⟩
  · rintro ⟨q1, q2, q3, q4, q5, q6⟩ j j0 j1
    rcases (show j = 0 ∨ j = 1 ∨ j = 2 by omega) with rfl | rfl | rfl
    · exact ⟨q1, fun i i0 i1 => by omega⟩
    · exact ⟨q2, fun i i0 i1 => by obtain rfl : i = 0 := (by omega); exact q4⟩
    · exact ⟨q3, fun i i0 i1 => by rcases (show i = 0 ∨ i = 1 by omega) with rfl | rfl; exact q6; exact q5⟩
theorem FT_31 {r : Int} {D u : Int → Int} (hr : 0 ≤ r ∧ r < 3) : FT 3 D u 1 r 1 ↔ OpW 3 D (u 0) (y2 1 u) (y3 1 u) (wd 3 1 r) := by
  have e0 : dgt 3 1 r 0 = r / 1 % 3 := rfl
  have wAe : wA 3 (wd 3 1 r) = dgt 3 1 r 0 := by
    show (r * 13) / (3 * 3) = r / 1 % 3
    rw [(wq_31 hr).1]
    omega
  have wBe : wB 3 (wd 3 1 r) = dgt 3 1 r 0 := by
    show (r * 13) / 3 % 3 = r / 1 % 3
    rw [(wq_31 hr).2.1]
    omega
  have wCe : wC 3 (wd 3 1 r) = dgt 3 1 r 0 := by
    show (r * 13) % 3 = r / 1 % 3
    rw [(wq_31 hr).2.2]
    omega
  show _ ↔ (bt (D (u 0)) (wA 3 (wd 3 1 r)) ∧ bt (D (u 0)) (wB 3 (wd 3 1 r)) ∧ bt (D (u 0)) (wC 3 (wd 3 1 r)) ∧ (u 0 = u 0 → wA 3 (wd 3 1 r) = wB 3 (wd 3 1 r)) ∧ (u 0 = u 0 → wB 3 (wd 3 1 r) = wC 3 (wd 3 1 r)) ∧ (u 0 = u 0 → wA 3 (wd 3 1 r) = wC 3 (wd 3 1 r)))
  rw [wAe, wBe, wCe]
  constructor
  · intro h
    have h0 := h 0 (by omega) (by omega)
    exact ⟨h0.1, h0.1, h0.1, fun _ => rfl, fun _ => rfl, fun _ => rfl⟩
  · rintro ⟨q1, q2, q3, q4, q5, q6⟩ j j0 j1
    obtain rfl : j = 0 := by omega
    exact ⟨q1, fun i i0 i1 => by omega⟩
theorem FT_32 {r : Int} {D u : Int → Int} (hr : 0 ≤ r ∧ r < 9) : FT 3 D u 2 r 2 ↔ OpW 3 D (u 0) (y2 2 u) (y3 2 u) (wd 3 2 r) := by
  have e0 : dgt 3 2 r 0 = r / 3 % 3 := rfl
  have e1 : dgt 3 2 r 1 = r / 1 % 3 := rfl
  have wAe : wA 3 (wd 3 2 r) = dgt 3 2 r 0 := by
    show (r * 3 + r % 3) / (3 * 3) = r / 3 % 3
    rw [(wq_32 hr).1]
  have wBe : wB 3 (wd 3 2 r) = dgt 3 2 r 1 := by
    show (r * 3 + r % 3) / 3 % 3 = r / 1 % 3
    rw [(wq_32 hr).2.1]
    omega
  have wCe : wC 3 (wd 3 2 r) = dgt 3 2 r 1 := by
    show (r * 3 + r % 3) % 3 = r / 1 % 3
    rw [(wq_32 hr).2.2]
    omega
  show _ ↔ (bt (D (u 0)) (wA 3 (wd 3 2 r)) ∧ bt (D (u 1)) (wB 3 (wd 3 2 r)) ∧ bt (D (u 1)) (wC 3 (wd 3 2 r)) ∧ (u 0 = u 1 → wA 3 (wd 3 2 r) = wB 3 (wd 3 2 r)) ∧ (u 1 = u 1 → wB 3 (wd 3 2 r) = wC 3 (wd 3 2 r)) ∧ (u 0 = u 1 → wA 3 (wd 3 2 r) = wC 3 (wd 3 2 r)))
  rw [wAe, wBe, wCe]
  constructor
  · intro h
    have h0 := h 0 (by omega) (by omega)
    have h1 := h 1 (by omega) (by omega)
    exact ⟨h0.1, h1.1, h1.1, h1.2 0 (by omega) (by omega), fun _ => rfl, h1.2 0 (by omega) (by omega)⟩
  · rintro ⟨q1, q2, q3, q4, q5, q6⟩ j j0 j1
    rcases (show j = 0 ∨ j = 1 by omega) with rfl | rfl
    · exact ⟨q1, fun i i0 i1 => by omega⟩
    · exact ⟨q2, fun i i0 i1 => by obtain rfl : i = 0 := (by omega); exact q4⟩
theorem FT_33 {r : Int} {D u : Int → Int} (hr : 0 ≤ r ∧ r < 27) : FT 3 D u 3 r 3 ↔ OpW 3 D (u 0) (y2 3 u) (y3 3 u) (wd 3 3 r) := by
  have e0 : dgt 3 3 r 0 = r / 9 % 3 := rfl
  have e1 : dgt 3 3 r 1 = r / 3 % 3 := rfl
  have e2 : dgt 3 3 r 2 = r / 1 % 3 := rfl
  have wAe : wA 3 (wd 3 3 r) = dgt 3 3 r 0 := by
    show r / (3 * 3) = r / 9 % 3
    omega
  have wBe : wB 3 (wd 3 3 r) = dgt 3 3 r 1 := by
    show r / 3 % 3 = r / 3 % 3
    omega
  have wCe : wC 3 (wd 3 3 r) = dgt 3 3 r 2 := by
    show r % 3 = r / 1 % 3
    omega
  show _ ↔ (bt (D (u 0)) (wA 3 (wd 3 3 r)) ∧ bt (D (u 1)) (wB 3 (wd 3 3 r)) ∧ bt (D (u 2)) (wC 3 (wd 3 3 r)) ∧ (u 0 = u 1 → wA 3 (wd 3 3 r) = wB 3 (wd 3 3 r)) ∧ (u 1 = u 2 → wB 3 (wd 3 3 r) = wC 3 (wd 3 3 r)) ∧ (u 0 = u 2 → wA 3 (wd 3 3 r) = wC 3 (wd 3 3 r)))
  rw [wAe, wBe, wCe]
  constructor
  · intro h
    have h0 := h 0 (by omega) (by omega)
    have h1 := h 1 (by omega) (by omega)
    have h2 := h 2 (by omega) (by omega)
    exact ⟨h0.1, h1.1, h2.1, h1.2 0 (by omega) (by omega), h2.2 1 (by omega) (by omega), h2.2 0 (by omega) (by omega)⟩
  · rintro ⟨q1, q2, q3, q4, q5, q6⟩ j j0 j1
    rcases (show j = 0 ∨ j = 1 ∨ j = 2 by omega) with rfl | rfl | rfl
    · exact ⟨q1, fun i i0 i1 => by omega⟩
    · exact ⟨q2, fun i i0 i1 => by obtain rfl : i = 0 := (by omega); exact q4⟩
    · exact ⟨q3, fun i i0 i1 => by rcases (show i = 0 ∨ i = 1 by omega) with rfl | rfl; exact q6; exact q5⟩
theorem FT_W {d k r : Int} {D u : Int → Int} (hd : d = 2 ∨ d = 3) (hk : 1 ≤ k ∧ k ≤ 3) (hr : 0 ≤ r ∧ r < pw d k) : FT d D u k r k ↔ OpW d D (u 0) (y2 k u) (y3 k u) (wd d k r) := by
  rcases hd with rfl | rfl <;> rcases (show k = 1 ∨ k = 2 ∨ k = 3 by omega) with rfl | rfl | rfl
  · exact FT_21 hr
  · exact FT_22 hr
  · exact FT_23 hr
  · exact FT_31 hr
  · exact FT_32 hr
  · exact FT_33 hr
