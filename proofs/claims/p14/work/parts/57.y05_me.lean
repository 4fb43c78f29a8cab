def FCm (q : Int) (M M1 : nM) : Prop := ∀ a i : Int, a ≠ q → M1 a i = M a i
theorem FCm.u {q i z : Int} {Ms M M2 : nM} (h : FCm q Ms M) (e : M2 = nu M q i z) : FCm q Ms M2 := fun a j ha => by
  rw [e, nu_a ha]
  exact h a j ha
/-! The maker: what stands while it makes. -/
def HAS (M : nM) (c : Int) : Prop := ∃ i : Int, 0 ≤ i ∧ i < M 15 10 ∧ M 20 i = c
def Tm (M : nM) (a i : Int) : Int := if 0 ≤ a ∧ a < 8 then M (56 + 3 * a) i else 0
def MI (d : Int) (R : Nat) (n ac : Int) (Ms M : nM) : Prop := (∀ i : Int, 0 ≤ i → i < M 15 10 → Clo d R n ac (Tm Ms) (M 20 i) ∧ (M 22 i = t3 d (M 20 i) 0 ∧ M 23 i = t3 d (M 20 i) 3 ∧ M 24 i = t3 d (M 20 i) 6) ∧ M (M 15 9) (M 20 i) = i + 1 ∧ (0 ≤ M 21 i ∧ M 21 i ≤ 1000000)) ∧ ∀ c : Int, 0 ≤ c → M (M 15 9) c ≠ 0 → 1 ≤ M (M 15 9) c ∧ M (M 15 9) c ≤ M 15 10 ∧ M 20 (M (M 15 9) c - 1) = c
/-- it only grows -/
def GR (M M1 : nM) : Prop := M 15 10 ≤ M1 15 10 ∧ ∀ i : Int, 0 ≤ i → i < M 15 10 → M1 20 i = M 20 i
theorem GR.refl {M : nM} : GR M M := ⟨Int.le_refl _, fun _ _ _ => rfl⟩
theorem GR.tr {M M1 M2 : nM} (h : GR M M1) (h2 : GR M1 M2) : GR M M2 := ⟨Int.le_trans h.1 h2.1, fun i i0 i1 => (h2.2 i i0 (Int.lt_of_lt_of_le i1 h.1)).trans (h.2 i i0 i1)⟩
theorem HAS.gr {M M1 : nM} {c : Int} (h : HAS M c) (g : GR M M1) : HAS M1 c := by
  obtain ⟨i, i0, i1, e⟩ := h
  exact ⟨i, i0, Int.lt_of_lt_of_le i1 g.1, (g.2 i i0 i1).trans e⟩
/-- all but the maker's own -/
def FBm (M M1 : nM) : Prop := (∀ a i : Int, (a < 15 ∨ 31 < a) → a ≠ 130 → a ≠ -1 → M1 a i = M a i) ∧ M1 15 9 = M 15 9 ∧ M1 15 11 = M 15 11
theorem FBm.refl {M : nM} : FBm M M := ⟨fun _ _ _ _ _ => rfl, rfl, rfl⟩
theorem FBm.tr {M M1 M2 : nM} (h : FBm M M1) (h2 : FBm M1 M2) : FBm M M2 := ⟨fun a i p q r => (h2.1 a i p q r).trans (h.1 a i p q r), h2.2.1.trans h.2.1, h2.2.2.trans h.2.2⟩
def FM (M M1 : nM) : Prop := ∀ a i : Int, (a < 15 ∨ 31 < a) → a ≠ 130 → a ≠ -1 → M1 a i = M a i
theorem FM.tr {M M1 M2 : nM} (h : FM M M1) (h2 : FM M1 M2) : FM M M2 := fun a i p q r => (h2 a i p q r).trans (h a i p q r)
/-- the lines too -/
def FAm (M M1 : nM) : Prop := (∀ a i : Int, (a < 15 ∨ 24 < a) → a ≠ 31 → a ≠ 130 → a ≠ -1 → M1 a i = M a i) ∧ M1 15 9 = M 15 9 ∧ M1 15 11 = M 15 11
theorem FAm.refl {M : nM} : FAm M M := ⟨fun _ _ _ _ _ _ => rfl, rfl, rfl⟩
theorem FAm.fb {M M1 : nM} (h : FAm M M1) : FBm M M1 := ⟨fun a i p q r => h.1 a i (by omega) (by omega) q r, h.2⟩
/-- no place is told -/
def PZ (M : nM) : Prop := ∀ c : Int, 0 ≤ c → M (M 15 9) c = 0
section
variable {d n ac : Int} {R : Nat} {Ms M M1 : nM}
theorem MI.dif (h : MI d R n ac Ms M) : Dif (fun i => M 20 i) (M 15 10) := fun i j i0 i1 j0 j1 e => by
  have e : M 20 i = M 20 j := e
  have a := (h.1 i i0 i1).2.2.1
  have b := (h.1 j j0 j1).2.2.1
  rw [e, b] at a
  omega
theorem MI.s (h : MI d R n ac Ms M) {i : Int} (i0 : 0 ≤ i) (i1 : i < M 15 10) : 0 ≤ M 21 i ∧ M 21 i ≤ 1000000 := (h.1 i i0 i1).2.2.2
theorem MI.has {c : Int} (h : MI d R n ac Ms M) (hc : 0 ≤ c) : HAS M c ↔ M (M 15 9) c ≠ 0 := by
  constructor
  · rintro ⟨i, i0, i1, e⟩
    have a := (h.1 i i0 i1).2.2.1
    rw [e] at a
    omega
  · intro q
    obtain ⟨a, b, e⟩ := h.2 c hc q
    exact ⟨M (M 15 9) c - 1, by omega, by omega, e⟩
theorem MI.ini (hz : PZ M) (h0 : M 15 10 ≤ 0) : MI d R n ac Ms M := ⟨fun i i0 i1 => by omega, fun c c0 q => absurd (hz c c0) q⟩
/-- one more -/
theorem MI.add {c s z cz : Int} {M2 M3 M4 M5 M6 M7 : nM} (h : MI d R n ac Ms M) (hcz : cz = M 15 10) (h0 : 0 ≤ cz) (hz : z = cz + 1) (hn : M (M 15 9) c = 0) (cl : Clo d R n ac (Tm Ms) c) (hs : 0 ≤ s ∧ s ≤ 1000000) (hP : M 15 9 = 31 ∨ M 15 9 = 130) (e1 : M1 = nu M 20 cz c) (e2 : M2 = nu M1 21 cz s) (e3 : M3 = nu M2 22 cz (t3 d c 0)) (e4 : M4 = nu M3 23 cz (t3 d c 3)) (e5 : M5 = nu M4 24 cz (t3 d c 6)) (e6 : M6 = nu M5 15 10 (cz + 1)) (e7 : M7 = nu M6 (M6 15 9) c z) : MI d R n ac Ms M7 ∧ GR M M7 ∧ HAS M7 c ∧ FAm M M7 := by
  have p6 : M6 15 9 = M 15 9 := by rw [e6, nu_i (by omega), e5, nu_a (by omega), e4, nu_a (by omega), e3, nu_a (by omega), e2, nu_a (by omega), e1, nu_a (by omega)]
  rw [p6] at e7
  have f5 : ∀ a i : Int, (a < 20 ∨ 24 < a) → M5 a i = M a i := fun a i q => by rw [e5, nu_a (by omega), e4, nu_a (by omega), e3, nu_a (by omega), e2, nu_a (by omega), e1, nu_a (by omega)]
  have f7 : ∀ a i : Int, a ≠ 15 → a ≠ 31 → a ≠ 130 → M7 a i = M5 a i := fun a i q r t => by rw [e7, nu_a (by omega), e6, nu_a q]
  have e9 : M7 15 9 = M 15 9 := by rw [e7, nu_a (by omega)]; exact p6
  have e10 : M7 15 10 = cz + 1 := by rw [e7, nu_a (by omega), e6, nu_s]
  have e11 : M7 15 11 = M 15 11 := by rw [e7, nu_a (by omega), e6, nu_i (by omega), f5 15 11 (by omega)]
  have c20 : M7 20 cz = c := by rw [f7 20 cz (by omega) (by omega) (by omega), e5, nu_a (by omega), e4, nu_a (by omega), e3, nu_a (by omega), e2, nu_a (by omega), e1, nu_s]
  have c21 : M7 21 cz = s := by rw [f7 21 cz (by omega) (by omega) (by omega), e5, nu_a (by omega), e4, nu_a (by omega), e3, nu_a (by omega), e2, nu_s]
  have c22 : M7 22 cz = t3 d c 0 := by rw [f7 22 cz (by omega) (by omega) (by omega), e5, nu_a (by omega), e4, nu_a (by omega), e3, nu_s]
  have c23 : M7 23 cz = t3 d c 3 := by rw [f7 23 cz (by omega) (by omega) (by omega), e5, nu_a (by omega), e4, nu_s]
  have c24 : M7 24 cz = t3 d c 6 := by rw [f7 24 cz (by omega) (by omega) (by omega), e5, nu_s]
  have fr : ∀ a i : Int, (20 ≤ a ∧ a ≤ 24) → i ≠ cz → M7 a i = M a i := fun a i q r => by rw [f7 a i (by omega) (by omega) (by omega), e5, nu_i r, e4, nu_i r, e3, nu_i r, e2, nu_i r, e1, nu_i r]
  have pc : M7 (M 15 9) c = cz + 1 := by rw [e7, nu_s]; exact hz
  have fp : ∀ i : Int, i ≠ c → M7 (M 15 9) i = M (M 15 9) i := fun i r => by rw [e7, nu_i r, e6, nu_a (by omega), f5 _ i (by omega)]
  have nh : ∀ i : Int, 0 ≤ i → i < cz → M 20 i ≠ c := fun i i0 i1 e => by
    have a := (h.1 i i0 (by omega)).2.2.1
    rw [e] at a
    omega
  refine ⟨⟨fun i i0 i1 => ?_, fun x x0 q => ?_⟩, ⟨by omega, fun i i0 i1 => fr 20 i (by omega) (by omega)⟩, ⟨cz, h0, by omega, c20⟩, ⟨fun a i p q r _ => ?_, e9, e11⟩⟩
  · rw [e10] at i1
    by_cases u : i = cz
    · rw [u, e9, c20, c21, c22, c23, c24, pc]
      exact ⟨cl, ⟨rfl, rfl, rfl⟩, rfl, hs⟩
    · have a := h.1 i i0 (by omega)
      rw [e9, fr 20 i (by omega) u, fr 21 i (by omega) u, fr 22 i (by omega) u, fr 23 i (by omega) u, fr 24 i (by omega) u, fp _ (nh i i0 (by omega))]
      exact a
  · rw [e9] at q ⊢
    by_cases u : x = c
    · rw [u, pc, e10, show cz + 1 - 1 = cz by omega]
      exact ⟨by omega, by omega, c20⟩
    · rw [fp x u] at q ⊢
      obtain ⟨a, b, e⟩ := h.2 x x0 q
      rw [e10, fr 20 _ (by omega) (by omega)]
      exact ⟨a, by omega, e⟩
  · by_cases w : a = 15
    · omega
    · rw [f7 a i w q r]
      exact f5 a i (by omega)
/-- only a size has changed -/
theorem MI.siz {p s : Int} (h : MI d R n ac Ms M) (hs : 0 ≤ s ∧ s ≤ 1000000) (hP : M 15 9 = 31 ∨ M 15 9 = 130) (e : M1 = nu M 21 p s) : MI d R n ac Ms M1 ∧ GR M M1 ∧ FAm M M1 := by
  have k : ∀ a i : Int, a ≠ 21 → M1 a i = M a i := fun a i q => by rw [e, nu_a q]
  refine ⟨⟨fun i i0 i1 => ?_, fun c c0 q => ?_⟩, ⟨by rw [k 15 10 (by omega)]; exact Int.le_refl _, fun i _ _ => k 20 i (by omega)⟩, ⟨fun a i p q r _ => k a i (by omega), k 15 9 (by omega), k 15 11 (by omega)⟩⟩
  · rw [k 15 10 (by omega)] at i1
    obtain ⟨a1, a2, a3, a4⟩ := h.1 i i0 i1
    rw [k 15 9 (by omega), k 20 i (by omega), k 22 i (by omega), k 23 i (by omega), k 24 i (by omega), k (M 15 9) _ (by omega)]
    refine ⟨a1, a2, a3, ?_⟩
    rw [e, nu_e]
    split
    · exact hs
    · exact a4
  · rw [k 15 9 (by omega), k (M 15 9) _ (by omega)] at q
    rw [k 15 9 (by omega), k (M 15 9) _ (by omega), k 15 10 (by omega), k 20 _ (by omega)]
    exact h.2 c c0 q
/-- what it speaks of is the same -/
theorem MI.of (h : MI d R n ac Ms M) (hP : M 15 9 = 31 ∨ M 15 9 = 130) (e9 : M1 15 9 = M 15 9) (e10 : M1 15 10 = M 15 10) (f : ∀ a i : Int, (20 ≤ a ∧ a ≤ 24) ∨ a = 31 ∨ a = 130 → M1 a i = M a i) : MI d R n ac Ms M1 := by
  refine ⟨fun i i0 i1 => ?_, fun c c0 q => ?_⟩
  · rw [e10] at i1
    rw [e9, f 20 i (by omega), f 21 i (by omega), f 22 i (by omega), f 23 i (by omega), f 24 i (by omega), f (M 15 9) _ (by omega)]
    exact h.1 i i0 i1
  · rw [e9, f (M 15 9) _ (by omega)] at q
    rw [e9, f (M 15 9) _ (by omega), e10, f 20 _ (by omega)]
    exact h.2 c c0 q
/-- two of them change places -/
theorem MI.swp {x y : Int} (h : MI d R n ac Ms M) (hP : M 15 9 = 31 ∨ M 15 9 = 130) (hx : 0 ≤ x ∧ x < M 15 10) (hy : 0 ≤ y ∧ y < M 15 10) (hC : ∀ i : Int, 0 ≤ i → i < M 15 10 → 0 ≤ M 20 i) (e9 : M1 15 9 = M 15 9) (e10 : M1 15 10 = M 15 10) (ex : ∀ a : Int, (a = 20 ∨ a = 21 ∨ a = 22 ∨ a = 23 ∨ a = 24) → M1 a x = M a y) (ey : ∀ a : Int, (a = 20 ∨ a = 21 ∨ a = 22 ∨ a = 23 ∨ a = 24) → M1 a y = M a x) (fr : ∀ a i : Int, (a = 20 ∨ a = 21 ∨ a = 22 ∨ a = 23 ∨ a = 24) → i ≠ x → i ≠ y → M1 a i = M a i) (px : M1 (M 15 9) (M 20 y) = x + 1) (py : M1 (M 15 9) (M 20 x) = y + 1) (fp : ∀ c : Int, c ≠ M 20 x → c ≠ M 20 y → M1 (M 15 9) c = M (M 15 9) c) : MI d R n ac Ms M1 ∧ ∀ c : Int, HAS M1 c ↔ HAS M c := by
  have dif := h.dif
  have inj : ∀ i j : Int, 0 ≤ i → i < M 15 10 → 0 ≤ j → j < M 15 10 → i ≠ j → M 20 i ≠ M 20 j := fun i j i0 i1 j0 j1 q e => q (dif i j i0 i1 j0 j1 e)
  have main : ∀ i : Int, 0 ≤ i → i < M 15 10 → ∃ j : Int, 0 ≤ j ∧ j < M 15 10 ∧ (∀ a : Int, (a = 20 ∨ a = 21 ∨ a = 22 ∨ a = 23 ∨ a = 24) → M1 a i = M a j) ∧ M1 (M 15 9) (M 20 j) = i + 1 := fun i i0 i1 => by
    by_cases u : i = x
    · exact ⟨y, hy.1, hy.2, fun a q => by rw [u]; exact ex a q, by rw [u]; exact px⟩
    · by_cases w : i = y
      · exact ⟨x, hx.1, hx.2, fun a q => by rw [w]; exact ey a q, by rw [w]; exact py⟩
      · refine ⟨i, i0, i1, fun a q => fr a i q u w, ?_⟩
        rw [fp _ (inj i x i0 i1 hx.1 hx.2 u) (inj i y i0 i1 hy.1 hy.2 w)]
        exact (h.1 i i0 i1).2.2.1
  refine ⟨⟨fun i i0 i1 => ?_, fun c c0 q => ?_⟩, fun c => ⟨?_, ?_⟩⟩
  · rw [e10] at i1
    obtain ⟨j, j0, j1, f, p⟩ := main i i0 i1
    obtain ⟨a1, a2, a3, a4⟩ := h.1 j j0 j1
    rw [e9, f 20 (by omega), f 21 (by omega), f 22 (by omega), f 23 (by omega), f 24 (by omega)]
    exact ⟨a1, a2, p, a4⟩
  · rw [e9] at q ⊢
    rw [e10]
    by_cases u : c = M 20 x
    · rw [u, py, show y + 1 - 1 = y by omega, ey 20 (by omega)]
      exact ⟨by omega, by omega, rfl⟩
    · by_cases w : c = M 20 y
      · rw [w, px, show x + 1 - 1 = x by omega, ex 20 (by omega)]
        exact ⟨by omega, by omega, rfl⟩
      · rw [fp c u w] at q ⊢
        obtain ⟨a, b, e⟩ := h.2 c c0 q
        refine ⟨a, b, ?_⟩
        rw [fr 20 _ (by omega) (fun z => u (by rw [← e, z])) (fun z => w (by rw [← e, z]))]
        exact e
  · rintro ⟨i, i0, i1, e⟩
    rw [e10] at i1
    obtain ⟨j, j0, j1, f, -⟩ := main i i0 i1
    exact ⟨j, j0, j1, by rw [← f 20 (by omega)]; exact e⟩
  · rintro ⟨i, i0, i1, e⟩
    by_cases u : i = x
    · exact ⟨y, hy.1, by rw [e10]; exact hy.2, by rw [ey 20 (by omega), ← u]; exact e⟩
    · by_cases w : i = y
      · exact ⟨x, hx.1, by rw [e10]; exact hx.2, by rw [ex 20 (by omega), ← w]; exact e⟩
      · exact ⟨i, i0, by rw [e10]; exact i1, by rw [fr 20 i (by omega) u w]; exact e⟩
end
/-- what comes of those ahead of e is there, if it is told: o says that it needn't be -/
def PD (d : Int) (R : Nat) (ac e : Int) (Ms M : nM) : Prop := ∀ a x y z : Int, 0 ≤ a → a < ac → (0 ≤ x ∧ x < e) → (0 ≤ y ∧ y < e) → (0 ≤ z ∧ z < e) → HAS M (mcm d R (Tm Ms a) (M 20 x) (M 20 y) (M 20 z))
theorem PD.gr {d ac e : Int} {R : Nat} {Ms M M1 : nM} (h : PD d R ac e Ms M) (he : e ≤ M 15 10) (g : GR M M1) : PD d R ac e Ms M1 := fun a x y z a0 a1 hx hy hz => by
  rw [g.2 x hx.1 (by omega), g.2 y hy.1 (by omega), g.2 z hz.1 (by omega)]
  exact (h a x y z a0 a1 hx hy hz).gr g
/-- an act that doesn't look at the first places -/
theorem mcm_ig {d : Int} {R : Nat} {T : Int → Int} {k x y z x2 y2 : Int} (hd : d = 2 ∨ d = 3) (hk : k = 1 ∨ k = 2 ∨ k = 3) (hw : ∀ i : Int, 0 ≤ i → i < d * d * d → T i = T (i % pw d k)) (hx : k = 3 → x2 = x) (hy : 2 ≤ k → y2 = y) : mcm d R T x y z = mcm d R T x2 y2 z := by
  refine mcd_congr R 0 (fun r _ _ => ?_)
  have b1 := mdg_r (c := x) (r := r) hd
  have b2 := mdg_r (c := y) (r := r) hd
  have b3 := mdg_r (c := z) (r := r) hd
  have c1 := mdg_r (c := x2) (r := r) hd
  have c2 := mdg_r (c := y2) (r := r) hd
  have q := row_r hd b1 b2 b3
  have q2 := row_r hd c1 c2 b3
  show T ((mdg d x r * d + mdg d y r) * d + mdg d z r) = T ((mdg d x2 r * d + mdg d y2 r) * d + mdg d z r)
  rw [hw _ q.1 q.2, hw _ q2.1 q2.2]
  rcases hk with rfl | rfl | rfl
  · have e : ∀ a b c : Int, ((a * d + b) * d + c) % pw d 1 = c % d := fun a b c => by
      show ((a * d + b) * d + c) % d = c % d
      rw [Int.add_comm, Int.add_mul_emod_self_right]
    rw [e, e]
  · rw [hy (by omega)]
    have e : ∀ a b c : Int, ((a * d + b) * d + c) % pw d 2 = (b * d + c) % (d * d) := fun a b c => by
      show ((a * d + b) * d + c) % (d * d) = (b * d + c) % (d * d)
      rw [Int.add_mul, Int.mul_assoc, Int.add_assoc, Int.add_comm, Int.add_mul_emod_self_right]
    rw [e, e]
  · rw [hy (by omega), hx rfl]

theorem t3_r {d c f : Int} (hd : d = 2 ∨ d = 3) : 0 ≤ t3 d c f ∧ t3 d c f < d * d * d := row_r hd (mdg_r hd) (mdg_r hd) (mdg_r hd)
/-- the lines hold what comes of X and Y -/
def LN (d : Int) (T : Int → Int) (p1 p2 p3 q1 q2 q3 r1 r2 r3 X Y : Int) (M : nM) : Prop := ∀ z : Int, 0 ≤ z → z < d * d * d → M 26 z = linw d T p1 p2 p3 (t3 d X 0) (t3 d Y 0) z ∧ M 28 z = linw d T q1 q2 q3 (t3 d X 3) (t3 d Y 3) z ∧ M 30 z = linw d T r1 r2 r3 (t3 d X 6) (t3 d Y 6) z
theorem LN.code {d p1 p2 p3 q1 q2 q3 r1 r2 r3 X Y : Int} {R : Nat} {T : Int → Int} {M : nM} (h : LN d T p1 p2 p3 q1 q2 q3 r1 r2 r3 X Y M) (hd : d = 2 ∨ d = 3) (hR : R ≤ 9) (hw : (p1 = wtr d R 0 ∧ p2 = wtr d R 1 ∧ p3 = wtr d R 2) ∧ (q1 = wtr d R 3 ∧ q2 = wtr d R 4 ∧ q3 = wtr d R 5) ∧ (r1 = wtr d R 6 ∧ r2 = wtr d R 7 ∧ r3 = wtr d R 8)) (Z : Int) : M 26 (t3 d Z 0) + M 28 (t3 d Z 3) + M 30 (t3 d Z 6) = mcm d R T X Y Z := by
  have a := t3_r (c := Z) (f := 0) hd
  have b := t3_r (c := Z) (f := 3) hd
  have c := t3_r (c := Z) (f := 6) hd
  rw [(h _ a.1 a.2).1, (h _ b.1 b.2).2.1, (h _ c.1 c.2).2.2]
  obtain ⟨⟨rfl, rfl, rfl⟩, ⟨rfl, rfl, rfl⟩, ⟨rfl, rfl, rfl⟩⟩ := hw
  exact lines_mcm hd hR
/-- what a sweep has met -/
def SWD (d : Int) (R : Nat) (T : Int → Int) (Mt M : nM) (P : Int → Int → Int → Prop) : Prop := Mt 15 11 = 3000002 → 256 < M 15 10 ∨ ∀ x y z : Int, P x y z → HAS M (mcm d R T (Mt 20 x) (Mt 20 y) (Mt 20 z))
section
variable {d : Int} {R : Nat} {T U : Int → Int} {Mt M M1 : nM} {P Q : Int → Int → Int → Prop}
theorem SWD.gr (h : SWD d R T Mt M P) (g : GR M M1) : SWD d R T Mt M1 P := fun q => by
  rcases h q with u | u
  · exact Or.inl (Int.lt_of_lt_of_le u g.1)
  · exact Or.inr (fun x y z p => (u x y z p).gr g)
theorem SWD.or (h : SWD d R T Mt M P) (k : SWD d R T Mt M Q) : SWD d R T Mt M (fun x y z => P x y z ∨ Q x y z) := fun q => by
  rcases h q with u | u
  · exact Or.inl u
  · rcases k q with v | v
    · exact Or.inl v
    · exact Or.inr (fun x y z p => p.elim (u x y z) (v x y z))
theorem SWD.im (h : SWD d R T Mt M Q) (k : ∀ x y z : Int, P x y z → Q x y z) : SWD d R T Mt M P := fun q => (h q).imp id (fun u x y z p => u x y z (k x y z p))
theorem SWD.bs (h : SWD d R T M M1 P) (g : GR Mt M) (f : FBm Mt M) (hP : ∀ x y z : Int, P x y z → (0 ≤ x ∧ x < Mt 15 10) ∧ (0 ≤ y ∧ y < Mt 15 10) ∧ (0 ≤ z ∧ z < Mt 15 10)) : SWD d R T Mt M1 P := fun q => (h (f.2.2.trans q)).imp id (fun u x y z p => by
  obtain ⟨a, b, c⟩ := hP x y z p
  have y0 := u x y z p
  rw [g.2 x a.1 a.2, g.2 y b.1 b.2, g.2 z c.1 c.2] at y0
  exact y0)
theorem mcm_tr {x y z : Int} (hd : d = 2 ∨ d = 3) (hU : ∀ i : Int, 0 ≤ i → i < d * d * d → U i = T (tr d i)) : mcm d R U x y z = mcm d R T x z y := by
  refine mcd_congr R 0 (fun r _ _ => ?_)
  have b1 := mdg_r (c := x) (r := r) hd
  have b2 := mdg_r (c := y) (r := r) hd
  have b3 := mdg_r (c := z) (r := r) hd
  have q := row_r hd b1 b2 b3
  show U ((mdg d x r * d + mdg d y r) * d + mdg d z r) = T ((mdg d x r * d + mdg d z r) * d + mdg d y r)
  rw [hU _ q.1 q.2]
  generalize mdg d x r = a at b1 ⊢
  generalize mdg d y r = b at b2 ⊢
  generalize mdg d z r = c at b3 ⊢
  congr 1
  unfold tr
  rcases hd with rfl | rfl <;> omega
theorem SWD.tn (h : SWD d R U Mt M P) (hd : d = 2 ∨ d = 3) (hU : ∀ i : Int, 0 ≤ i → i < d * d * d → U i = T (tr d i)) : SWD d R T Mt M (fun x y z => P x z y) := fun q => (h q).imp id (fun u x y z p => by
  have y0 := u x z y p
  rw [mcm_tr hd hU] at y0
  exact y0)
end
/-- an act as the class holds it -/
def WAct (d p : Int) (M : nM) : Prop := ((M p 0 = 1 ∨ M p 0 = 2 ∨ M p 0 = 3) ∧ M p 1 = pw d (M p 0)) ∧ (∀ i : Int, 0 ≤ i → i < d * d * d → M (p + 1) i = M (p + 1) (i % pw d (M p 0))) ∧ ∀ i : Int, 0 ≤ i → i < d * d * d → M (p + 2) i = M (p + 1) (tr d i)
/-- behind putOn: with all ahead of e before it, all up to e behind it -/
def POS (d : Int) (R : Nat) (T : Int → Int) (e : Int) (Mt M1 : nM) : Prop := Mt 15 11 = 3000002 → (∀ x y z : Int, (0 ≤ x ∧ x < e) → (0 ≤ y ∧ y < e) → (0 ≤ z ∧ z < e) → HAS Mt (mcm d R T (Mt 20 x) (Mt 20 y) (Mt 20 z))) → 256 < M1 15 10 ∨ ∀ x y z : Int, (0 ≤ x ∧ x ≤ e) → (0 ≤ y ∧ y ≤ e) → (0 ≤ z ∧ z ≤ e) → HAS M1 (mcm d R T (Mt 20 x) (Mt 20 y) (Mt 20 z))
section
variable {d e : Int} {R : Nat} {T U : Int → Int} {Mt M M1 : nM}
theorem POS.one (hd : d = 2 ∨ d = 3) (he : 0 ≤ e) (hw : ∀ i : Int, 0 ≤ i → i < d * d * d → T i = T (i % pw d 1)) (g : GR Mt M1) (h : SWD d R T Mt M1 (fun x y z => x = e ∧ y = e ∧ e ≤ z ∧ z ≤ e)) : POS d R T e Mt M1 := fun q p => (h q).imp id (fun u x y z hx hy hz => by
  by_cases w : z = e
  · rw [mcm_ig (k := 1) (x2 := Mt 20 e) (y2 := Mt 20 e) hd (by omega) hw (by omega) (by omega)]
    exact u e e z ⟨rfl, rfl, by omega, by omega⟩
  · rw [mcm_ig (k := 1) (x2 := Mt 20 z) (y2 := Mt 20 z) hd (by omega) hw (by omega) (by omega)]
    exact (p z z z (by omega) (by omega) (by omega)).gr g)
theorem POS.two (hd : d = 2 ∨ d = 3) (he : 0 ≤ e) (hw : ∀ i : Int, 0 ≤ i → i < d * d * d → T i = T (i % pw d 2)) (g : GR Mt M1) (h : SWD d R T Mt M1 (fun x y z => x = e ∧ y = e ∧ 0 ≤ z ∧ z ≤ e)) (k : SWD d R T Mt M1 (fun x y z => x = e ∧ z = e ∧ 0 ≤ y ∧ y ≤ e - 1)) : POS d R T e Mt M1 := fun q p => by
  rcases h q with u | u
  · exact Or.inl u
  · rcases k q with v | v
    · exact Or.inl v
    · refine Or.inr (fun x y z hx hy hz => ?_)
      by_cases w : y = e
      · rw [mcm_ig (k := 2) (x2 := Mt 20 e) (y2 := Mt 20 y) hd (by omega) hw (by omega) (fun _ => rfl)]
        exact u e y z ⟨rfl, w, by omega, by omega⟩
      · by_cases w2 : z = e
        · rw [mcm_ig (k := 2) (x2 := Mt 20 e) (y2 := Mt 20 y) hd (by omega) hw (by omega) (fun _ => rfl)]
          exact v e y z ⟨rfl, w2, by omega, by omega⟩
        · rw [mcm_ig (k := 2) (x2 := Mt 20 y) (y2 := Mt 20 y) hd (by omega) hw (by omega) (fun _ => rfl)]
          exact (p y y z (by omega) (by omega) (by omega)).gr g
theorem POS.thr (g : GR Mt M1) (h : SWD d R T Mt M1 (fun a b c => a = e ∧ 0 ≤ b ∧ b < e + 1 ∧ 0 ≤ c ∧ c ≤ e)) (h2 : SWD d R T Mt M1 (fun a b c => 0 ≤ a ∧ a < e ∧ b = e ∧ 0 ≤ c ∧ c ≤ e)) (h3 : SWD d R T Mt M1 (fun a b c => 0 ≤ a ∧ a < e ∧ 0 ≤ b ∧ b ≤ e - 1 ∧ c = e)) : POS d R T e Mt M1 := fun q p => by
  rcases h q with u | u
  · exact Or.inl u
  · rcases h2 q with u2 | u2
    · exact Or.inl u2
    · rcases h3 q with u3 | u3
      · exact Or.inl u3
      · refine Or.inr (fun x y z hx hy hz => ?_)
        by_cases w1 : x = e
        · exact u x y z ⟨w1, by omega, by omega, hz.1, hz.2⟩
        · by_cases w2 : y = e
          · exact u2 x y z ⟨hx.1, by omega, w2, hz.1, hz.2⟩
          · by_cases w3 : z = e
            · exact u3 x y z ⟨hx.1, by omega, hy.1, by omega, w3⟩
            · exact (p x y z (by omega) (by omega) (by omega)).gr g
end
/-- two places of a row changed -/
def swq (M : nM) (a x y : Int) : nM := nu (nu M a x (M a y)) a y (M a x)
theorem swq_a {M : nM} {a x y a2 i : Int} (h : a2 ≠ a) : swq M a x y a2 i = M a2 i := by
  unfold swq
  rw [nu_a h, nu_a h]
theorem swq_y {M : nM} {a x y : Int} : swq M a x y a y = M a x := nu_s _ _ _ _
theorem swq_x {M : nM} {a x y : Int} : swq M a x y a x = M a y := by
  unfold swq
  by_cases u : x = y
  · rw [u, nu_s]
  · rw [nu_i u, nu_s]
theorem swq_i {M : nM} {a x y i : Int} (h : i ≠ x) (k : i ≠ y) : swq M a x y a i = M a i := by
  unfold swq
  rw [nu_i k, nu_i h]
section
variable {d n ac : Int} {R : Nat} {Ms M M1 : nM}
theorem MI.chg {x y z1 z2 : Int} {M2 M3 M4 M5 M6 M7 : nM} (h : MI d R n ac Ms M) (hP : M 15 9 = 31 ∨ M 15 9 = 130) (hx : 0 ≤ x ∧ x < M 15 10) (hy : 0 ≤ y ∧ y < M 15 10) (hC : ∀ i : Int, 0 ≤ i → i < M 15 10 → 0 ≤ M 20 i) (e1 : M1 = swq M 20 x y) (e2 : M2 = swq M1 21 x y) (e3 : M3 = swq M2 22 x y) (e4 : M4 = swq M3 23 x y) (e5 : M5 = swq M4 24 x y) (k1 : z1 = M5 20 x) (e6 : M6 = nu M5 (M5 15 9) z1 (x + 1)) (k2 : z2 = M6 20 y) (e7 : M7 = nu M6 (M6 15 9) z2 (y + 1)) : MI d R n ac Ms M7 ∧ (∀ c : Int, HAS M7 c ↔ HAS M c) ∧ M7 15 10 = M 15 10 ∧ (∀ i : Int, i ≠ x → i ≠ y → M7 20 i = M 20 i) ∧ FAm M M7 := by
  have f5 : ∀ a i : Int, (a < 20 ∨ 24 < a) → M5 a i = M a i := fun a i q => by rw [e5, swq_a (by omega), e4, swq_a (by omega), e3, swq_a (by omega), e2, swq_a (by omega), e1, swq_a (by omega)]
  have p5 : M5 15 9 = M 15 9 := f5 15 9 (by omega)
  rw [p5] at e6
  have p6 : M6 15 9 = M 15 9 := by rw [e6, nu_a (by omega)]; exact p5
  rw [p6] at e7
  have f7 : ∀ a i : Int, a ≠ 31 → a ≠ 130 → M7 a i = M5 a i := fun a i q r => by rw [e7, nu_a (by omega), e6, nu_a (by omega)]
  have g5 : ∀ a : Int, (a = 20 ∨ a = 21 ∨ a = 22 ∨ a = 23 ∨ a = 24) → M5 a x = M a y ∧ M5 a y = M a x ∧ ∀ i : Int, i ≠ x → i ≠ y → M5 a i = M a i := fun a q => by
    rcases q with rfl | rfl | rfl | rfl | rfl
    · have w : ∀ i : Int, M5 20 i = M1 20 i := fun i => by rw [e5, swq_a (by omega), e4, swq_a (by omega), e3, swq_a (by omega), e2, swq_a (by omega)]
      rw [w, w, e1]
      exact ⟨swq_x, swq_y, fun i p r => by rw [w, e1]; exact swq_i p r⟩
    · have w : ∀ i : Int, M5 21 i = M2 21 i := fun i => by rw [e5, swq_a (by omega), e4, swq_a (by omega), e3, swq_a (by omega)]
      have v : ∀ i : Int, M1 21 i = M 21 i := fun i => by rw [e1, swq_a (by omega)]
      rw [w, w, e2]
      exact ⟨swq_x.trans (v y), swq_y.trans (v x), fun i p r => by rw [w, e2]; exact (swq_i p r).trans (v i)⟩
    · have w : ∀ i : Int, M5 22 i = M3 22 i := fun i => by rw [e5, swq_a (by omega), e4, swq_a (by omega)]
      have v : ∀ i : Int, M2 22 i = M 22 i := fun i => by rw [e2, swq_a (by omega), e1, swq_a (by omega)]
      rw [w, w, e3]
      exact ⟨swq_x.trans (v y), swq_y.trans (v x), fun i p r => by rw [w, e3]; exact (swq_i p r).trans (v i)⟩
    · have w : ∀ i : Int, M5 23 i = M4 23 i := fun i => by rw [e5, swq_a (by omega)]
      have v : ∀ i : Int, M3 23 i = M 23 i := fun i => by rw [e3, swq_a (by omega), e2, swq_a (by omega), e1, swq_a (by omega)]
      rw [w, w, e4]
      exact ⟨swq_x.trans (v y), swq_y.trans (v x), fun i p r => by rw [w, e4]; exact (swq_i p r).trans (v i)⟩
    · have v : ∀ i : Int, M4 24 i = M 24 i := fun i => by rw [e4, swq_a (by omega), e3, swq_a (by omega), e2, swq_a (by omega), e1, swq_a (by omega)]
      rw [e5]
      exact ⟨swq_x.trans (v y), swq_y.trans (v x), fun i p r => (swq_i p r).trans (v i)⟩
  have k1 : z1 = M 20 y := k1.trans (g5 20 (by omega)).1
  have k2 : z2 = M 20 x := by rw [k2, e6, nu_a (by omega)]; exact (g5 20 (by omega)).2.1
  subst k1 k2
  have g7 : ∀ a : Int, (a = 20 ∨ a = 21 ∨ a = 22 ∨ a = 23 ∨ a = 24) → M7 a x = M a y ∧ M7 a y = M a x ∧ ∀ i : Int, i ≠ x → i ≠ y → M7 a i = M a i := fun a q => by
    have w : ∀ i : Int, M7 a i = M5 a i := fun i => f7 a i (by omega) (by omega)
    rw [w, w]
    obtain ⟨a1, a2, a3⟩ := g5 a q
    exact ⟨a1, a2, fun i p r => (w i).trans (a3 i p r)⟩
  have e9 : M7 15 9 = M 15 9 := (f7 15 9 (by omega) (by omega)).trans p5
  have e10 : M7 15 10 = M 15 10 := (f7 15 10 (by omega) (by omega)).trans (f5 15 10 (by omega))
  have px : M7 (M 15 9) (M 20 y) = x + 1 := by
    by_cases u : M 20 y = M 20 x
    · have w := h.dif y x hy.1 hy.2 hx.1 hx.2 u
      rw [e7, u, nu_s, w]
    · rw [e7, nu_i u, e6, nu_s]
  have py : M7 (M 15 9) (M 20 x) = y + 1 := by rw [e7, nu_s]
  have fp : ∀ c : Int, c ≠ M 20 x → c ≠ M 20 y → M7 (M 15 9) c = M (M 15 9) c := fun c p q => by rw [e7, nu_i p, e6, nu_i q, f5 _ c (by omega)]
  obtain ⟨mi, hh⟩ := h.swp hP hx hy hC e9 e10 (fun a q => (g7 a q).1) (fun a q => (g7 a q).2.1) (fun a i q => (g7 a q).2.2 i) px py fp
  exact ⟨mi, hh, e10, (g7 20 (by omega)).2.2, ⟨fun a i p q r _ => (f7 a i q r).trans (f5 a i (by omega)), e9, (f7 15 11 (by omega) (by omega)).trans (f5 15 11 (by omega))⟩⟩
/-- never more than there are -/
theorem MI.le (h : MI d R n ac Ms M) (hd : d = 2 ∨ d = 3) (hT : ∀ a i : Int, 0 ≤ a → a < ac → 0 ≤ i → i < d * d * d → 0 ≤ Tm Ms a i ∧ Tm Ms a i < d) (h0 : 0 ≤ M 15 10) : M 15 10 ≤ NCl d R n ac (Tm Ms) := by
  have e : ((M 15 10).toNat : Int) = M 15 10 := by omega
  have y := NCl.le (R := R) (n := n) (g := fun i => M 20 i) (m := (M 15 10).toNat) hd hT (by rw [e]; exact h.dif) (fun i i0 i1 => (h.1 i i0 (by omega)).1)
  omega
theorem MI.all (h : MI d R n ac Ms M) (hd : d = 2 ∨ d = 3) (hT : ∀ a i : Int, 0 ≤ a → a < ac → 0 ≤ i → i < d * d * d → 0 ≤ Tm Ms a i ∧ Tm Ms a i < d) (h0 : 0 ≤ M 15 10) (pj : ∀ j : Int, 0 ≤ j → j < n → HAS M (mpj d R j)) (pd : PD d R ac (M 15 10) Ms M) : NCl d R n ac (Tm Ms) = M 15 10 := by
  have e : ((M 15 10).toNat : Int) = M 15 10 := by omega
  have y := NCl.all (R := R) (n := n) (g := fun i => M 20 i) (m := (M 15 10).toNat) hd hT (by rw [e]; exact h.dif) (fun i i0 i1 => (h.1 i i0 (by omega)).1) (fun j j0 j1 => by rw [e]; exact pj j j0 j1) (fun a x y z a0 a1 hx hy hz => by rw [e]; exact pd a x y z a0 a1 (by omega) (by omega) (by omega))
  omega
theorem PD.kp {e : Int} (h : PD d R ac e Ms M) (hh : ∀ c : Int, HAS M1 c ↔ HAS M c) (f : ∀ i : Int, i < e → M1 20 i = M 20 i) : PD d R ac e Ms M1 := fun a x y z a0 a1 hx hy hz => by
  rw [f x hx.2, f y hy.2, f z hz.2]
  exact (hh _).mpr (h a x y z a0 a1 hx hy hz)
end
def KN (N b c : Int) : Prop := (N ≤ 256 ∧ b = 0 ∧ c = N) ∨ (256 < N ∧ b = 1)
section
variable {d n ac : Int} {R : Nat} {T : Int → Int} {Ms Mt M M1 : nM} {p1 p2 p3 q1 q2 q3 r1 r2 r3 X Y : Int}
theorem LN.of (h : LN d T p1 p2 p3 q1 q2 q3 r1 r2 r3 X Y M) (f : FAm M M1) : LN d T p1 p2 p3 q1 q2 q3 r1 r2 r3 X Y M1 := fun z z0 z1 => by
  rw [f.1 26 z (by omega) (by omega) (by omega) (by omega), f.1 28 z (by omega) (by omega) (by omega) (by omega), f.1 30 z (by omega) (by omega) (by omega) (by omega)]
  exact h z z0 z1
theorem LN.mk {q x y u0 w0 u1 w1 u2 w2 : Int} {Ma Mb Mc : nM} (hd : d = 2 ∨ d = 3) (hI : MI d R n ac Ms Mt) (hP : Mt 15 9 = 31 ∨ Mt 15 9 = 130) (hx : 0 ≤ x ∧ x < Mt 15 10) (hy : 0 ≤ y ∧ y < Mt 15 10) (hq : 31 < q ∧ q < 130) (fm : FM Ms Mt) (a0 : FCm 26 Mt Ma) (a1 : ∀ c : Int, 0 ≤ c → c < d * d * d → Ma 26 c = linw d (fun i => Mt q i) p1 p2 p3 u0 w0 c) (eu0 : u0 = Mt 22 x) (ew0 : w0 = Mt 22 y) (b0 : FCm 28 Ma Mb) (b1 : ∀ c : Int, 0 ≤ c → c < d * d * d → Mb 28 c = linw d (fun i => Ma q i) q1 q2 q3 u1 w1 c) (eu1 : u1 = Ma 23 x) (ew1 : w1 = Ma 23 y) (c0 : FCm 30 Mb Mc) (c1 : ∀ c : Int, 0 ≤ c → c < d * d * d → Mc 30 c = linw d (fun i => Mb q i) r1 r2 r3 u2 w2 c) (eu2 : u2 = Mb 24 x) (ew2 : w2 = Mb 24 y) : LN d (fun i => Ms q i) p1 p2 p3 q1 q2 q3 r1 r2 r3 (Mt 20 x) (Mt 20 y) Mc ∧ MI d R n ac Ms Mc ∧ GR Mt Mc ∧ FBm Mt Mc := by
  have f : ∀ a i : Int, a ≠ 26 → a ≠ 28 → a ≠ 30 → Mc a i = Mt a i := fun a i h1 h2 h3 => by rw [c0 a i h3, b0 a i h2, a0 a i h1]
  have ta : (fun i => Mt q i) = fun i => Ms q i := funext fun i => fm q i (by omega) (by omega) (by omega)
  have tb : (fun i => Ma q i) = fun i => Ms q i := funext fun i => (a0 q i (by omega)).trans (fm q i (by omega) (by omega) (by omega))
  have tc : (fun i => Mb q i) = fun i => Ms q i := funext fun i => (b0 q i (by omega)).trans ((a0 q i (by omega)).trans (fm q i (by omega) (by omega) (by omega)))
  obtain ⟨-, ⟨x1, x2, x3⟩, -⟩ := hI.1 x hx.1 hx.2
  obtain ⟨-, ⟨y1, y2, y3⟩, -⟩ := hI.1 y hy.1 hy.2
  rw [x1] at eu0
  rw [y1] at ew0
  rw [a0 23 x (by omega), x2] at eu1
  rw [a0 23 y (by omega), y2] at ew1
  rw [b0 24 x (by omega), a0 24 x (by omega), x3] at eu2
  rw [b0 24 y (by omega), a0 24 y (by omega), y3] at ew2
  subst eu0 ew0 eu1 ew1 eu2 ew2
  rw [ta] at a1
  rw [tb] at b1
  rw [tc] at c1
  refine ⟨fun z z0 z1 => ⟨?_, ?_, ?_⟩, hI.of hP (f 15 9 (by omega) (by omega) (by omega)) (f 15 10 (by omega) (by omega) (by omega)) (fun a i h => f a i (by omega) (by omega) (by omega)), ⟨by rw [f 15 10 (by omega) (by omega) (by omega)]; exact Int.le_refl _, fun i _ _ => f 20 i (by omega) (by omega) (by omega)⟩, ⟨fun a i h _ _ => f a i (by omega) (by omega) (by omega), f 15 9 (by omega) (by omega) (by omega), f 15 11 (by omega) (by omega) (by omega)⟩⟩
  · rw [c0 26 z (by omega), b0 26 z (by omega)]
    exact a1 z z0 z1
  · rw [c0 28 z (by omega)]
    exact b1 z z0 z1
  · exact c1 z z0 z1
theorem SWD.st {x y f z : Int} (h : SWD d R T Mt M (fun a b c => a = x ∧ b = y ∧ f ≤ c ∧ c < z)) (g : GR M M1) (k : 256 < M1 15 10 ∨ HAS M1 (mcm d R T (Mt 20 x) (Mt 20 y) (Mt 20 z))) : SWD d R T Mt M1 (fun a b c => a = x ∧ b = y ∧ f ≤ c ∧ c < z + 1) := fun q => by
  rcases h.gr g q with u | u
  · exact Or.inl u
  · rcases k with k | k
    · exact Or.inl k
    · refine Or.inr (fun a b c p => ?_)
      have p1 : a = x := p.1
      have p2 : b = y := p.2.1
      have p3 : f ≤ c ∧ c < z + 1 := p.2.2
      by_cases w : c = z
      · rw [p1, p2, w]
        exact k
      · exact u a b c ⟨p1, p2, p3.1, by omega⟩
end
theorem Sf.p9 {d ac : Int} {M0 M : nM} (hS : Sf d ac M0 M) : M 15 9 = 31 ∨ M 15 9 = 130 := by
  rcases hS.2.2.1 with ⟨e, f⟩ | ⟨e, f⟩
  · exact Or.inl e
  · exact Or.inr e
/-- behind add -/
def AD (c : Int) (M M1 : nM) : Prop := 256 < M 15 10 ∨ (M1 15 10 = M 15 10 + 1 ∧ M1 20 (M 15 10) = c)
theorem AD.has {c : Int} {M M1 : nM} (h : AD c M M1) (h0 : 0 ≤ M 15 10) (g : GR M M1) : 256 < M1 15 10 ∨ HAS M1 c := by
  rcases h with u | ⟨u, v⟩
  · exact Or.inl (Int.lt_of_lt_of_le u g.1)
  · exact Or.inr ⟨M 15 10, h0, by omega, v⟩
section
variable {d n ac : Int} {R : Nat} {T : Int → Int → Int} {Ms M : nM}
theorem Clo.pj {j v : Int} (e : mpj d R j = v) (h0 : 0 ≤ j) (h1 : j < n) : Clo d R n ac T v := by
  subst e
  exact Clo.prj h0 h1
theorem MI.nw1 {c v : Int} (h : MI d R n ac Ms M) (c0 : 0 ≤ c) (e : M 15 10 = 1) (e0 : M 20 0 = v) (q : v ≠ c) : M (M 15 9) c = 0 := by
  by_cases u : M (M 15 9) c = 0
  · exact u
  · obtain ⟨a, b, k⟩ := h.2 c c0 u
    have w : M (M 15 9) c - 1 = 0 := by omega
    rw [w, e0] at k
    exact absurd k q
theorem MI.nw2 {c v u : Int} (h : MI d R n ac Ms M) (c0 : 0 ≤ c) (e : M 15 10 = 2) (e0 : M 20 0 = v) (e1 : M 20 1 = u) (q : v ≠ c) (r : u ≠ c) : M (M 15 9) c = 0 := by
  by_cases w : M (M 15 9) c = 0
  · exact w
  · obtain ⟨a, b, k⟩ := h.2 c c0 w
    rcases (show M (M 15 9) c - 1 = 0 ∨ M (M 15 9) c - 1 = 1 by omega) with y | y
    · rw [y, e0] at k
      exact absurd k q
    · rw [y, e1] at k
      exact absurd k r
end
/-- of those told only such from x on are left -/
def PZx (x : Int) (M : nM) : Prop := ∀ c : Int, 0 ≤ c → M (M 15 9) c ≠ 0 → ∃ i : Int, x ≤ i ∧ i < M 15 10 ∧ M 20 i = c
theorem PZx.st {x z : Int} {M M1 : nM} (h : PZx x M) (hP : M 15 9 = 31 ∨ M 15 9 = 130) (k : z = M 20 x) (e : M1 = nu M (M 15 9) z 0) : PZx (x + 1) M1 := fun c c0 q => by
  have e9 : M1 15 9 = M 15 9 := by rw [e, nu_a (by omega)]
  have e10 : M1 15 10 = M 15 10 := by rw [e, nu_a (by omega)]
  have e20 : ∀ i : Int, M1 20 i = M 20 i := fun i => by rw [e, nu_a (by omega)]
  rw [e9] at q
  by_cases u : c = z
  · rw [e, u, nu_s] at q
    exact absurd rfl q
  · rw [e, nu_i u] at q
    obtain ⟨i, i0, i1, k2⟩ := h c c0 q
    refine ⟨i, ?_, by rw [e10]; exact i1, by rw [e20]; exact k2⟩
    by_cases w : i = x
    · rw [w, ← k] at k2
      exact absurd k2.symm u
    · omega
theorem PZx.fin {x : Int} {M : nM} (h : PZx x M) (k : M 15 10 ≤ x) : PZ M := fun c c0 => by
  by_cases u : M (M 15 9) c = 0
  · exact u
  · obtain ⟨i, i0, i1, -⟩ := h c c0 u
    omega
theorem MI.pzx {d n ac : Int} {R : Nat} {Ms M : nM} (h : MI d R n ac Ms M) : PZx 0 M := fun c c0 q => by
  obtain ⟨a, b, e⟩ := h.2 c c0 q
  exact ⟨M (M 15 9) c - 1, by omega, by omega, e⟩
/-- all but the maker's own and one list -/
def FMQ (q : Int) (M M1 : nM) : Prop := ∀ a i : Int, (a < 15 ∨ 31 < a) → a ≠ 130 → a ≠ -1 → a ≠ q → a ≠ q + 1 → a ≠ q + 2 → M1 a i = M a i
theorem FMQ.u {q a i z : Int} {M M1 M2 : nM} (h : FMQ q M M1) (ha : q ≤ a ∧ a ≤ q + 2) (e : M2 = nu M1 a i z) : FMQ q M M2 := fun b k p1 p2 p3 p4 p5 p6 => by
  rw [e, nu_a (by omega)]
  exact h b k p1 p2 p3 p4 p5 p6
theorem FMQ.fb {q : Int} {M M1 M2 : nM} (h : FMQ q M M1) (f : FBm M1 M2) : FMQ q M M2 := fun b k p1 p2 p3 p4 p5 p6 => (f.1 b k p1 p2 p3).trans (h b k p1 p2 p3 p4 p5 p6)
def KQ (q N0 : Int) (M : nM) : Prop := (M q 1 = 0 ∧ M q 2 = N0 ∧ N0 ≤ 256) ∨ (M q 1 = 1 ∧ M q 2 = 0 ∧ 256 < N0)
theorem KQ.of {q N0 : Int} {M M1 : nM} (h : KQ q N0 M) (e1 : M1 q 1 = M q 1) (e2 : M1 q 2 = M q 2) : KQ q N0 M1 := by
  unfold KQ
  rw [e1, e2]
  exact h
/-- up to e, with the acts ahead of k -/
def PDa (d : Int) (R : Nat) (e k : Int) (Ms M : nM) : Prop := ∀ a x y z : Int, (0 ≤ a ∧ a < k) → (0 ≤ x ∧ x ≤ e) → (0 ≤ y ∧ y ≤ e) → (0 ≤ z ∧ z ≤ e) → HAS M (mcm d R (Tm Ms a) (M 20 x) (M 20 y) (M 20 z))
theorem tm_e {M : nM} {a : Int} (h : 0 ≤ a ∧ a < 8) : (fun i => M (55 + 3 * a + 1) i) = Tm M a := funext fun i => by
  unfold Tm
  rw [if_pos h, show 55 + 3 * a + 1 = 56 + 3 * a by omega]
theorem Tm_of {M M1 : nM} (f : ∀ a i : Int, 56 ≤ a → a ≤ 78 → M1 a i = M a i) : Tm M1 = Tm M := funext fun a => funext fun i => by
  unfold Tm
  by_cases u : 0 ≤ a ∧ a < 8
  · rw [if_pos u, if_pos u]
    exact f _ i (by omega) (by omega)
  · rw [if_neg u, if_neg u]
theorem Tm_r {d ac : Int} {M0 M : nM} (hS : Sf d ac M0 M) : ∀ a i : Int, 0 ≤ a → a < ac → 0 ≤ i → i < d * d * d → 0 ≤ Tm M a i ∧ Tm M a i < d := fun a i a0 a1 i0 i1 => by
  have hac := hS.2.2.2.2
  have y := t_actrl (q := 55 + 3 * a) (o := 1) hS ⟨by omega, by omega, by omega⟩ (by omega) (Or.inl rfl) i0 i1
  rw [show 55 + 3 * a + 1 = 56 + 3 * a by omega] at y
  unfold Tm
  rw [if_pos (by omega)]
  omega
section
variable {d n ac : Int} {R : Nat} {Ms M M1 : nM}
theorem PDa.st {e k : Int} (h : 256 < M 15 10 ∨ PDa d R e k Ms M) (pd : PD d R ac e Ms M) (hk : 0 ≤ k ∧ k < ac) (he : 0 ≤ e ∧ e < M 15 10) (c : M 15 11 = 3000002) (g : GR M M1) (po : POS d R (Tm Ms k) e M M1) : 256 < M1 15 10 ∨ PDa d R e (k + 1) Ms M1 := by
  rcases h with h | h
  · exact Or.inl (Int.lt_of_lt_of_le h g.1)
  · rcases po c (fun x y z hx hy hz => pd k x y z hk.1 hk.2 hx hy hz) with u | u
    · exact Or.inl u
    · refine Or.inr (fun a x y z ha hx hy hz => ?_)
      rw [g.2 x hx.1 (by omega), g.2 y hy.1 (by omega), g.2 z hz.1 (by omega)]
      by_cases w : a = k
      · rw [w]
        exact u x y z hx hy hz
      · exact (h a x y z (by omega) hx hy hz).gr g
theorem PDa.pd {e k : Int} (h : PDa d R e k Ms M) (hk : ac ≤ k) : PD d R ac (e + 1) Ms M := fun a x y z a0 a1 hx hy hz => h a x y z ⟨a0, by omega⟩ (by omega) (by omega) (by omega)
theorem MI.kn {m x q : Int} (h : MI d R n ac Ms M) (hd : d = 2 ∨ d = 3) (hT : ∀ a i : Int, 0 ≤ a → a < ac → 0 ≤ i → i < d * d * d → 0 ≤ Tm Ms a i ∧ Tm Ms a i < d) (h0 : 0 ≤ M 15 10) (pj : ∀ j : Int, 0 ≤ j → j < n → HAS M (mpj d R j)) (hm : NCl d R n ac (Tm Ms) ≤ m) (pd : PD d R ac x Ms M ∨ m ≤ M 15 10 ∨ 256 < M 15 10) (hx : x = M 15 10 ∨ 256 < M 15 10) (c : KQ q (M 15 10) M1) : KN (NCl d R n ac (Tm Ms)) (M1 q 1) (M1 q 2) := by
  have le := h.le hd hT h0
  rcases c with ⟨c1, c2, c3⟩ | ⟨c1, c2, c3⟩
  · refine Or.inl ?_
    have e : NCl d R n ac (Tm Ms) = M 15 10 := by
      rcases pd with u | u | u
      · rcases hx with w | w
        · rw [w] at u
          exact h.all hd hT h0 pj u
        · omega
      · omega
      · omega
    rw [e]
    exact ⟨c3, c1, c2⟩
  · exact Or.inr ⟨by omega, c1⟩
theorem HAS.of {c : Int} (h : HAS M c) (e10 : M1 15 10 = M 15 10) (e20 : ∀ i : Int, M1 20 i = M 20 i) : HAS M1 c := by
  obtain ⟨i, i0, i1, e⟩ := h
  exact ⟨i, i0, by rw [e10]; exact i1, by rw [e20]; exact e⟩
theorem PZ.of (h : PZ M) (hP : M 15 9 = 31 ∨ M 15 9 = 130) (e9 : M1 15 9 = M 15 9) (f : ∀ a i : Int, a = 31 ∨ a = 130 → M1 a i = M a i) : PZ M1 := fun c c0 => by
  rw [e9, f _ c hP]
  exact h c c0
end
/-! the bound -/
def popc (x : Int) : Int := x % 2 + x / 2 % 2 + x / 4 % 2
theorem bb_bt {s t : Int} : bb (bt s t) = s / 2 ^ t.toNat % 2 := by
  rcases bt_v s t with ⟨a, b⟩ | ⟨a, b⟩
  · rw [bb_t a, b]
  · rw [bb_f a, b]
def CLs (d ac : Int) (M : nM) (s : Int) : Prop := ∀ a u v w : Int, 0 ≤ a → a < ac → (0 ≤ u ∧ u < d) → (0 ≤ v ∧ v < d) → (0 ≤ w ∧ w < d) → bt s u → bt s v → bt s w → bt s (Tm M a ((u * d + v) * d + w))
theorem in3 {d k s u v w : Int} (hd : d = 2 ∨ d = 3) (hk : k = 1 ∨ k = 2 ∨ k = 3) (hu : 0 ≤ u ∧ u < d) (hv : 0 ≤ v ∧ v < d) (hw : 0 ≤ w ∧ w < d) (bu : bt s u) (bv : bt s v) (bw : bt s w) : inD d k s (((u * d + v) * d + w) % pw d k) := by
  have e3 : ((u * d + v) * d + w) % pw d k % d = w := by
    rcases hk with rfl | rfl | rfl
    · show ((u * d + v) * d + w) % d % d = w
      rcases hd with rfl | rfl <;> omega
    · show ((u * d + v) * d + w) % (d * d) % d = w
      rcases hd with rfl | rfl <;> omega
    · show ((u * d + v) * d + w) % (d * d * d) % d = w
      rcases hd with rfl | rfl <;> omega
  refine ⟨by rw [e3]; exact bw, fun q => ?_, fun q => ?_⟩
  · have e2 : ((u * d + v) * d + w) % pw d k / d % d = v := by
      rcases hk with rfl | rfl | rfl
      · omega
      · show ((u * d + v) * d + w) % (d * d) / d % d = v
        rcases hd with rfl | rfl <;> omega
      · show ((u * d + v) * d + w) % (d * d * d) / d % d = v
        rcases hd with rfl | rfl <;> omega
    rw [e2]
    exact bv
  · have e1 : ((u * d + v) * d + w) % pw d k / (d * d) = u := by
      rcases hk with rfl | rfl | rfl
      · omega
      · omega
      · show ((u * d + v) * d + w) % (d * d * d) / (d * d) = u
        rcases hd with rfl | rfl <;> omega
    rw [e1]
    exact bu
theorem CLs.of {d ac s : Int} {M : nM} (hd : d = 2 ∨ d = 3) (h8 : ac ≤ 8) (h14 : M 3 14 = ac) (hwa : ∀ a : Int, 0 ≤ a → a < ac → WAct d (55 + 3 * a) M) (h : HPc d M s) : CLs d ac M s := fun a u v w a0 a1 hu hv hw bu bv bw => by
  obtain ⟨⟨k, hr⟩, h2, -⟩ := hwa a a0 a1
  have q := row_r hd hu hv hw
  have p := pw_r (k := M (55 + 3 * a) 0) hd (by omega)
  have y := h a a0 (by omega) (((u * d + v) * d + w) % pw d (M (55 + 3 * a) 0)) (Int.emod_nonneg _ (by omega)) (by rw [hr]; exact Int.emod_lt_of_pos _ (by omega)) (in3 hd k hu hv hw bu bv bw)
  rw [← tm_e (by omega)]
  show bt s (M (55 + 3 * a + 1) ((u * d + v) * d + w))
  rw [h2 _ q.1 q.2]
  exact y
theorem bt_all {d s t : Int} (hd : d = 2 ∨ d = 3) (hs : s = (if d = 2 then 3 else 7)) (ht : 0 ≤ t ∧ t < d) : bt s t := by
  rcases hd with rfl | rfl
  · rw [hs, if_pos rfl]
    rcases (show t = 0 ∨ t = 1 by omega) with rfl | rfl
    · show (3 : Int) / 2 ^ 0 % 2 = 1
      decide
    · show (3 : Int) / 2 ^ 1 % 2 = 1
      decide
  · rw [hs, if_neg (by omega)]
    rcases (show t = 0 ∨ t = 1 ∨ t = 2 by omega) with rfl | rfl | rfl
    · show (7 : Int) / 2 ^ 0 % 2 = 1
      decide
    · show (7 : Int) / 2 ^ 1 % 2 = 1
      decide
    · show (7 : Int) / 2 ^ 2 % 2 = 1
      decide
def GH (d n ac : Int) (M : nM) (r s : Int) : Prop := (0 ≤ s ∧ s ≤ (if d = 2 then 3 else 7)) ∧ CLs d ac M s ∧ ∀ j : Int, 0 ≤ j → j < n → bt s (mdg d r j)
theorem inD.dg {d n s r : Int} (hd : d = 2 ∨ d = 3) (hn : 1 ≤ n ∧ n ≤ 3) (hr : 0 ≤ r ∧ r < d * d * d) (h : inD d n s r) : ∀ j : Int, 0 ≤ j → j < n → bt s (mdg d r j) := fun j j0 j1 => by
  obtain ⟨h1, h2, h3⟩ := h
  rcases (show j = 0 ∨ j = 1 ∨ j = 2 by omega) with rfl | rfl | rfl
  · show bt s (r / 1 % d)
    rw [Int.ediv_one]
    exact h1
  · show bt s (r / (d * 1) % d)
    rw [Int.mul_one]
    exact h2 (by omega)
  · show bt s (r / (d * (d * 1)) % d)
    rw [Int.mul_one]
    have e : r / (d * d) % d = r / (d * d) := by rcases hd with rfl | rfl <;> omega
    rw [e]
    exact h3 (by omega)
theorem GH.mk {d n ac m r z : Int} {M0 M : nM} (hd : d = 2 ∨ d = 3) (hS : Sf d ac M0 M) (hn : 1 ≤ n ∧ n ≤ 3) (hr : 0 ≤ r ∧ r < d * d * d) (hwa : ∀ a : Int, 0 ≤ a → a < ac → WAct d (55 + 3 * a) M) (hm : m = th d n r) (m0 : 1 ≤ m) (mz : m ≤ z) (hz : z ≤ (if d = 2 then 3 else 7)) (h : z = (if d = 2 then 3 else 7) ∨ (n_and z m = m ∧ HPc d M z)) : GH d n ac M r z := by
  have h7 : (if d = 2 then (3 : Int) else 7) ≤ 7 := by split <;> omega
  rcases h with h | ⟨h1, h2⟩
  · refine ⟨⟨by omega, hz⟩, fun a u v w a0 a1 hu hv hw _ _ _ => ?_, fun j _ _ => bt_all hd h (mdg_r hd)⟩
    have q := row_r hd hu hv hw
    exact bt_all hd h (Tm_r hS a _ a0 a1 q.1 q.2)
  · refine ⟨⟨by omega, hz⟩, CLs.of hd hS.2.2.2.2.2 (t_ac hS) hwa h2, ?_⟩
    have s1 := (sub27_7 (a := m) (b := z) (by omega) (by omega)).1.mp h1
    have s2 : n_and m m = m := (sub27_7 (a := m) (b := m) (by omega) (by omega)).1.mpr (fun _ _ _ q => q)
    have s3 : inD d n m r := (th_in hd hn (s := m) (by omega) hr).mp (by rw [← hm]; exact s2)
    intro j j0 j1
    have y := inD.dg hd hn hr s3 j j0 j1
    have b := mdg_r (c := r) (r := j) hd
    exact s1 _ b.1 (by omega) y
def HH (d : Int) (h : Int → Int) (r t : Int) : Prop := (0 ≤ t ∧ t < d) ∧ bt (h r) t
theorem cfm_cg {d : Int} {S U : Int → Int → Prop} : ∀ (n : Nat) (r : Int), (∀ i t : Int, r ≤ i → i < r + n → (S i t ↔ U i t)) → cfm d S r n = cfm d U r n
  | 0, _, _ => rfl
  | n + 1, r, h => by
    show cf (fun t => bb (S r t)) d.toNat * cfm d S (r + 1) n = cf (fun t => bb (U r t)) d.toNat * cfm d U (r + 1) n
    rw [cfm_cg n (r + 1) (fun i t i0 i1 => h i t (by omega) (by omega)), cf_congr d.toNat (fun t _ _ => bb_c (h r t (by omega) (by omega)))]
theorem cfm_ap {d : Int} {S : Int → Int → Prop} : ∀ (n : Nat) (r : Int), cfm d S r (n + 1) = cfm d S r n * cf (fun t => bb (S (r + n) t)) d.toNat
  | 0, r => by
    show cf (fun t => bb (S r t)) d.toNat * 1 = 1 * cf (fun t => bb (S (r + ((0 : Nat) : Int)) t)) d.toNat
    rw [Int.mul_one, Int.one_mul, show r + ((0 : Nat) : Int) = r by omega]
  | n + 1, r => by
    show cf (fun t => bb (S r t)) d.toNat * cfm d S (r + 1) (n + 1) = cf (fun t => bb (S r t)) d.toNat * cfm d S (r + 1) n * _
    rw [cfm_ap n (r + 1), Int.mul_assoc, show r + 1 + (n : Int) = r + ((n + 1 : Nat) : Int) by omega]
theorem popc_cf {d s : Int} (hd : d = 2 ∨ d = 3) (hs : 0 ≤ s ∧ s ≤ (if d = 2 then 3 else 7)) (h : Int → Int) (r : Int) (e : h r = s) : cf (fun t => bb (HH d h r t)) d.toNat = popc s := by
  have k : cf (fun t => bb (HH d h r t)) d.toNat = cf (fun t => s / 2 ^ t.toNat % 2) d.toNat := cf_congr _ (fun t t0 t1 => by
    show bb (HH d h r t) = s / 2 ^ t.toNat % 2
    rw [← bb_bt, ← e]
    exact bb_c ⟨fun q => q.2, fun q => ⟨⟨t0, by omega⟩, q⟩⟩)
  rw [k]
  unfold popc
  rcases hd with rfl | rfl
  · rw [if_pos rfl] at hs
    show 0 + s / 2 ^ 0 % 2 + s / 2 ^ 1 % 2 = _
    omega
  · show 0 + s / 2 ^ 0 % 2 + s / 2 ^ 1 % 2 + s / 2 ^ 2 % 2 = _
    omega
def MM (d n ac : Int) (M : nM) (x y : Int) : Prop := ∃ h : Int → Int, (∀ r : Int, 0 ≤ r → r < x → GH d n ac M r (h r)) ∧ y = cfm d (HH d h) 0 x.toNat
theorem MM.ini {d n ac : Int} {M : nM} : MM d n ac M 0 1 := ⟨fun _ => 0, fun r r0 r1 => by omega, rfl⟩
theorem MM.st {d n ac x y z p : Int} {M : nM} (hd : d = 2 ∨ d = 3) (h : MM d n ac M x y) (hx : 0 ≤ x) (g : GH d n ac M x z) (hp : p = popc z) : MM d n ac M (x + 1) (y * p) := by
  obtain ⟨f, a, b⟩ := h
  refine ⟨fun r => if r = x then z else f r, fun r r0 r1 => ?_, ?_⟩
  · by_cases u : r = x
    · show GH d n ac M r (if r = x then z else f r)
      rw [if_pos u, u]
      exact g
    · show GH d n ac M r (if r = x then z else f r)
      rw [if_neg u]
      exact a r r0 (by omega)
  · rw [show (x + 1).toNat = x.toNat + 1 by omega, cfm_ap, cfm_cg (U := HH d f) x.toNat 0 (fun i t i0 i1 => by
      show ((0 ≤ t ∧ t < d) ∧ bt (if i = x then z else f i) t) ↔ ((0 ≤ t ∧ t < d) ∧ bt (f i) t)
      rw [if_neg (by omega)]), ← b, popc_cf (s := z) hd g.1 _ _ (by
      show (if 0 + (x.toNat : Int) = x then z else _) = z
      rw [if_pos (by omega)]), hp]
theorem MM.fin {d n ac y : Int} {R : Nat} {M0 M : nM} (hd : d = 2 ∨ d = 3) (hS : Sf d ac M0 M) (h : MM d n ac M R y) : NCl d R n ac (Tm M) ≤ y := by
  obtain ⟨f, a, b⟩ := h
  rw [b, show ((R : Nat) : Int).toNat = R by omega]
  refine NCl.most (H := HH d f) hd (Tm_r hS) (fun j r j0 j1 r0 r1 => ⟨mdg_r hd, (a r r0 r1).2.2 j j0 j1⟩) (fun c r u v w c0 c1 r0 r1 hu hv hw => ?_)
  have q := row_r hd hu.1 hv.1 hw.1
  exact ⟨Tm_r hS c _ c0 c1 q.1 q.2, (a r r0 r1).2.1 c u v w c0 c1 hu.1 hv.1 hw.1 hu.2 hv.2 hw.2⟩
theorem wr_3 {x y b : Int} (hx : 0 ≤ x ∧ x ≤ b) (hb : b ≤ 19683) (hy : 1 ≤ y ∧ y ≤ 3) : n_wr (x * y) = x * y ∧ 0 ≤ x * y ∧ (y ≤ 2 → x * y ≤ 2 * b) ∧ x * y ≤ 3 * b := by
  have k : 0 ≤ x * y ∧ (y ≤ 2 → x * y ≤ 2 * b) ∧ x * y ≤ 3 * b := by
    rcases (show y = 1 ∨ y = 2 ∨ y = 3 by omega) with rfl | rfl | rfl <;> omega
  exact ⟨n_wr_e ⟨by omega, by omega⟩, k⟩
theorem dpn_b2 : ∀ n : Nat, n < 10 → dpn 2 n ≤ 19683 := by decide +kernel
theorem dpn_b3 : ∀ n : Nat, n < 10 → dpn 3 n ≤ 19683 := by decide +kernel
theorem th_b2 : ∀ r : Nat, r < 8 → (1 ≤ th 2 1 r ∧ th 2 1 r ≤ 3) ∧ (1 ≤ th 2 2 r ∧ th 2 2 r ≤ 3) ∧ (1 ≤ th 2 3 r ∧ th 2 3 r ≤ 3) := by decide +kernel
theorem th_b3 : ∀ r : Nat, r < 27 → (1 ≤ th 3 1 r ∧ th 3 1 r ≤ 7) ∧ (1 ≤ th 3 2 r ∧ th 3 2 r ≤ 7) ∧ (1 ≤ th 3 3 r ∧ th 3 3 r ≤ 7) := by decide +kernel
theorem th_b {d n r : Int} (hd : d = 2 ∨ d = 3) (hn : 1 ≤ n ∧ n ≤ 3) (hr : 0 ≤ r ∧ r < d * d * d) : 1 ≤ th d n r ∧ th d n r ≤ (if d = 2 then 3 else 7) := by
  obtain ⟨k, rfl⟩ : ∃ k : Nat, r = k := ⟨r.toNat, by omega⟩
  rcases hd with rfl | rfl
  · have y := th_b2 k (by omega)
    rcases (show n = 1 ∨ n = 2 ∨ n = 3 by omega) with rfl | rfl | rfl
    · exact y.1
    · exact y.2.1
    · exact y.2.2
  · have y := th_b3 k (by omega)
    rcases (show n = 1 ∨ n = 2 ∨ n = 3 by omega) with rfl | rfl | rfl
    · exact y.1
    · exact y.2.1
    · exact y.2.2
/-- what is kept of one list -/
def MDs (d : Int) (R : Nat) (n ac q : Int) (Ms M1 : nM) : Prop := (M1 q 0 = 1 → KN (NCl d R n ac (Tm Ms)) (M1 q 1) (M1 q 2)) ∧ PZ M1 ∧ FMQ q Ms M1
def cMd (N z : Int) : Prop := (N ≤ 256 ∧ z = N) ∨ (256 < N ∧ z = -8)
/-! placeOf: what is read and written there -/
section
variable {C D A1 A2 A3 p1 p2 p3 q1 q2 q3 r1 r2 r3 : Int} {xs : List Int32} {d j k : Nat} {L : nL} {st : List nX} {M M0 : nM} {Q : Option nX → nM → Prop} {nx nx2 a b c a2 b2 c2 : Nat} {dd ac : Int}
theorem n_ialoadQ {p i : Int} (hS : Sf dd ac M0 M) (hK : MK C D A1 A2 A3 p1 p2 p3 q1 q2 q3 r1 r2 r3 M) (hc : mj_code j k = some (.iaload, nx, a, b, c)) (hp : p = M 15 9) (hi : 0 ≤ i ∧ i < C) (h : ∀ z, z = M (M 15 9) i → 0 ≤ z ∧ z ≤ 257 → nW xs d j nx L ((0, z) :: st) M Q) : nW xs d j k L ((0, i) :: (2, p) :: st) M Q := by
  subst hp
  have k1 := hK.2.1
  have k2 := hK.2.2.1
  rcases hS.2.2.1 with ⟨e, f⟩ | ⟨e, f⟩
  · rw [e]
    have k3 := k1 e
    exact n_iaload hc sc_31.n rfl rfl rfl (by omega) (h _ (by rw [e]) (t_31 hS hi.1))
  · rw [e]
    exact n_iaload hc (Or.inr ⟨rfl, f, rfl, rfl⟩) rfl rfl rfl (by omega) (h _ (by rw [e]) (t_130 hS hi.1))
theorem n_iastoreQ {p i z : Int} (hS : Sf dd ac M M) (hK : MK C D A1 A2 A3 p1 p2 p3 q1 q2 q3 r1 r2 r3 M) (hc : mj_code j k = some (.iastore, nx, a, b, c)) (hp : p = M 15 9) (hi : 0 ≤ i ∧ i < C) (hz : 0 ≤ z ∧ z ≤ 257) (h : ∀ M2, M2 = nu M (M 15 9) i z → (∀ a' i', a' ≠ 31 → a' ≠ 130 → M2 a' i' = M a' i') → Sf dd ac M2 M2 → MK C D A1 A2 A3 p1 p2 p3 q1 q2 q3 r1 r2 r3 M2 → nW xs d j nx L st M2 Q) : nW xs d j k L ((0, z) :: (0, i) :: (2, p) :: st) M Q := by
  subst hp
  have k1 := hK.2.1
  have k2 := hK.2.2.1
  rcases hS.2.2.1 with ⟨e, f⟩ | ⟨e, f⟩
  · rw [e]
    have k3 := k1 e
    exact n_iastore hc sc_31.n rfl (by omega) (h _ (by rw [e]) (fun a' i' u _ => nu_a u) (hS.m (m_31 hi.1 hz)) (hK.u (by unfold Kok; omega) rfl))
  · rw [e]
    exact n_iastore hc (Or.inr ⟨rfl, f, rfl, rfl⟩) rfl (by omega) (h _ (by rw [e]) (fun a' i' _ u => nu_a u) (hS.m (m_130 hi.1 hz)) (hK.u (by unfold Kok; omega) rfl))
theorem Sf.bigm (hS : Sf dd ac M M) : Sf dd ac (nu (nbig M) 15 9 130) (nu (nbig M) 15 9 130) := by
  obtain ⟨h1, h2, h3, h4, h5⟩ := hS
  have e : ∀ a i : Int, a ≠ -1 → a ≠ 130 → nbig M a i = M a i := fun a i u v => by
    unfold nbig
    rw [if_neg (fun q => u q.1), if_neg v]
  refine ⟨fun a i h0 => ?_, fun i h0 => ?_, ?_, ⟨fun a i hc => rfl, ?_⟩, h5⟩
  · rw [nu_e]
    split
    · rename_i q
      rw [q.1, q.2]
      show (31 : Int) ≤ 130 ∧ (130 : Int) ≤ 130
      omega
    · unfold nbig
      split
      · rename_i q
        rw [q.1, q.2]
        show (0 : Int) ≤ 1 ∧ (1 : Int) ≤ 1
        omega
      · split
        · rename_i q
          rw [q]
          show (0 : Int) ≤ 0 ∧ (0 : Int) ≤ 257
          omega
        · exact h1 a i h0
  · rw [nu_a (by omega), e 41 i (by omega) (by omega)]
    exact h2 i h0
  · right
    refine ⟨nu_s _ _ _ _, ?_⟩
    rw [nu_a (by omega)]
    rfl
  · have k : ∀ a i : Int, a ≠ 15 → a ≠ -1 → a ≠ 130 → nu (nbig M) 15 9 130 a i = M a i := fun a i u v w => by rw [nu_a u, e a i v w]
    intro q q0 q1
    rw [k 112 11 (by omega) (by omega) (by omega)] at q1
    obtain ⟨g1, g2⟩ := h4.2 q q0 q1
    rw [k 120 q (by omega) (by omega) (by omega), k 112 7 (by omega) (by omega) (by omega)]
    refine ⟨g1, fun j j0 j1 => ?_⟩
    rw [k 118 _ (by omega) (by omega) (by omega)] at j1
    rw [k 121 _ (by omega) (by omega) (by omega), k 112 10 (by omega) (by omega) (by omega)]
    exact g2 j j0 j1
theorem n_bigQ {i} (hS : Sf dd ac M M) (hc : mj_code j k = some (.newarray .int, nx, a, b, c)) (hc2 : mj_code j nx = some (.putfield i, nx2, 7, 9, c2)) (hf : M 15 9 = 31) (h : ∀ M2, (∀ a' i', a' ≠ -1 → a' ≠ 130 → ¬ (a' = 15 ∧ i' = 9) → M2 a' i' = M a' i') → (M2 15 9 = 130 ∧ ∀ c' : Int, M2 130 c' = 0) → Sf dd ac M2 M2 → nW xs d j nx2 L st M2 Q) : nW xs d j k L ((0, 19683) :: (2, 15) :: st) M Q := by
  have f : M (-1) 0 ≠ 1 := by
    rcases hS.2.2.1 with ⟨e, f⟩ | ⟨e, f⟩
    · omega
    · omega
  refine n_big hc f (n_putR (r := 15) (n := 12) hc2 sc_15.n rfl rfl (fun _ => rfl) (by decide) (h _ (fun a' i' u v w => ?_) ⟨nu_s _ _ _ _, fun c' => ?_⟩ hS.bigm))
  · rw [nu_e]
    split
    · rename_i q
      exact absurd q w
    · unfold nbig
      rw [if_neg (fun q => u q.1), if_neg v]
  · rw [nu_a (by omega)]
    unfold nbig
    rw [if_neg (by omega), if_pos rfl]
end
