/-! The reference's making. -/
theorem cMd.a {N z : Int} (h : 256 < N) (e : z = -8) : cMd N z := Or.inr ⟨h, e⟩
theorem cMd.b {N k z : Int} (h : N = k) (hk : k ≤ 256) (e : z = k) : cMd N z := Or.inl ⟨by omega, by omega⟩
def cdr (n : Int) (M : nM) (i : Int) : Int := M 122 (256 * n + i)
def JF (d m : Int) (T : Int → Int) (X Y Z r : Int) : Int := T (if m = 1 then mdg d X r else if m = 2 then mdg d X r * d + mdg d Y r else (mdg d X r * d + mdg d Y r) * d + mdg d Z r)
/-- an act as both hold it -/
def WR (d a : Int) (M : nM) : Prop := (M 116 a = 1 ∨ M 116 a = 2 ∨ M 116 a = 3) ∧ ∀ i : Int, 0 ≤ i → i < d * d * d → Tm M a i = M 117 (27 * a + i % pw d (M 116 a))
def JT (a : Int) (M : nM) (i : Int) : Int := M 117 (27 * a + i)
def JC (d : Int) (R : Nat) (a : Int) (M : nM) (X Y Z : Int) : Int := mcd d (JF d (M 116 a) (JT a M) X Y Z) 0 R
theorem mcd_dn {d R x : Int} {F : Int → Int} (h : 0 ≤ x ∧ x < R) : mcd d F (x - 1 + 1) (R - 1 - (x - 1)).toNat = F x + d * mcd d F (x + 1) (R - 1 - x).toNat := by
  rw [show x - 1 + 1 = x by omega, show (R - 1 - (x - 1)).toNat = (R - 1 - x).toNat + 1 by omega]
  rfl
theorem dpn_mo {d : Int} (hd : d = 2 ∨ d = 3) : ∀ a b : Nat, a ≤ b → dpn d a ≤ dpn d b
  | a, 0, h => by
    rw [show a = 0 by omega]
    exact Int.le_refl _
  | a, b + 1, h => by
    by_cases u : a = b + 1
    · rw [u]
      exact Int.le_refl _
    · have y := dpn_mo hd a b (by omega)
      have p := dpn_pos hd b
      show dpn d a ≤ d * dpn d b
      rcases hd with rfl | rfl <;> omega
section
variable {d a : Int} {R : Nat} {M : nM} {X Y Z : Int}
theorem JF.r (hd : d = 2 ∨ d = 3) (hw : WR d a M) (hT : ∀ i : Int, 0 ≤ i → i < d * d * d → 0 ≤ Tm M a i ∧ Tm M a i < d) (r : Int) : 0 ≤ JF d (M 116 a) (JT a M) X Y Z r ∧ JF d (M 116 a) (JT a M) X Y Z r < d := by
  have b1 := mdg_r (c := X) (r := r) hd
  have b2 := mdg_r (c := Y) (r := r) hd
  have b3 := mdg_r (c := Z) (r := r) hd
  obtain ⟨k, h⟩ := hw
  have go : ∀ i : Int, 0 ≤ i → i < pw d (M 116 a) → 0 ≤ JT a M i ∧ JT a M i < d := fun i i0 i1 => by
    have p := pw_r (k := M 116 a) hd (by omega)
    have y := h i i0 (by omega)
    rw [Int.emod_eq_of_lt i0 i1] at y
    have t := hT i i0 (by omega)
    rw [y] at t
    exact t
  unfold JF
  rcases k with k | k | k
  · rw [k] at go ⊢
    rw [if_pos rfl]
    exact go _ b1.1 b1.2
  · rw [k] at go ⊢
    rw [if_neg (by omega), if_pos rfl]
    refine go _ (by rcases hd with rfl | rfl <;> omega) ?_
    show _ < d * d
    rcases hd with rfl | rfl <;> omega
  · rw [k] at go ⊢
    rw [if_neg (by omega), if_neg (by omega)]
    have q := row_r hd b1 b2 b3
    exact go _ q.1 q.2
theorem JC.one (hd : d = 2 ∨ d = 3) (hw : WR d a M) (k : M 116 a = 1) (A B : Int) : JC d R a M X Y Z = mcm d R (Tm M a) A B X := mcd_congr R 0 (fun r _ _ => by
  have b1 := mdg_r (c := A) (r := r) hd
  have b2 := mdg_r (c := B) (r := r) hd
  have b3 := mdg_r (c := X) (r := r) hd
  have q := row_r hd b1 b2 b3
  show JF d (M 116 a) (JT a M) X Y Z r = Tm M a ((mdg d A r * d + mdg d B r) * d + mdg d X r)
  rw [hw.2 _ q.1 q.2, k]
  unfold JF JT
  rw [if_pos rfl]
  congr 2
  show _ = ((mdg d A r * d + mdg d B r) * d + mdg d X r) % d
  generalize mdg d A r = u at b1 ⊢
  generalize mdg d B r = v at b2 ⊢
  generalize mdg d X r = w at b3 ⊢
  rcases hd with rfl | rfl <;> omega)
theorem JC.two (hd : d = 2 ∨ d = 3) (hw : WR d a M) (k : M 116 a = 2) (A : Int) : JC d R a M X Y Z = mcm d R (Tm M a) A X Y := mcd_congr R 0 (fun r _ _ => by
  have b1 := mdg_r (c := A) (r := r) hd
  have b2 := mdg_r (c := X) (r := r) hd
  have b3 := mdg_r (c := Y) (r := r) hd
  have q := row_r hd b1 b2 b3
  show JF d (M 116 a) (JT a M) X Y Z r = Tm M a ((mdg d A r * d + mdg d X r) * d + mdg d Y r)
  rw [hw.2 _ q.1 q.2, k]
  unfold JF JT
  rw [if_neg (by omega), if_pos rfl]
  congr 2
  show _ = ((mdg d A r * d + mdg d X r) * d + mdg d Y r) % (d * d)
  generalize mdg d A r = u at b1 ⊢
  generalize mdg d X r = v at b2 ⊢
  generalize mdg d Y r = w at b3 ⊢
  rcases hd with rfl | rfl <;> omega)
theorem JC.thr (hd : d = 2 ∨ d = 3) (hw : WR d a M) (k : M 116 a = 3) : JC d R a M X Y Z = mcm d R (Tm M a) X Y Z := mcd_congr R 0 (fun r _ _ => by
  have b1 := mdg_r (c := X) (r := r) hd
  have b2 := mdg_r (c := Y) (r := r) hd
  have b3 := mdg_r (c := Z) (r := r) hd
  have q := row_r hd b1 b2 b3
  show JF d (M 116 a) (JT a M) X Y Z r = Tm M a ((mdg d X r * d + mdg d Y r) * d + mdg d Z r)
  rw [hw.2 _ q.1 q.2, k]
  unfold JF JT
  rw [if_neg (by omega), if_neg (by omega)]
  congr 2
  show _ = ((mdg d X r * d + mdg d Y r) * d + mdg d Z r) % (d * d * d)
  rw [Int.emod_eq_of_lt q.1 q.2])
end
/-- behind joined -/
def JD (c : Int) (M M1 : nM) : Prop := (∀ a i : Int, ¬ (a = 125 ∧ i = c) → M1 a i = M a i) ∧ M1 125 c ≠ 0 ∧ (M1 125 c = -1 ↔ M 125 c = -1)
def FR (M M1 : nM) : Prop := ∀ a i : Int, a ≠ 125 → M1 a i = M a i
def JSt (d : Int) (R : Nat) (n ac : Int) (Ms M : nM) : Prop := FR Ms M ∧ (∀ c : Int, Ms 125 c ≠ 0 → M 125 c ≠ 0) ∧ (∀ c : Int, M 125 c = -1 ↔ Ms 125 c = -1) ∧ ∀ c : Int, M 125 c ≠ 0 → Ms 125 c ≠ 0 ∨ Clo d R n ac (Tm Ms) c
def JV (d : Int) (R : Nat) (n a : Int) (Ms M : nM) (P : Int → Int → Int → Prop) : Prop := ∀ x y z : Int, P x y z → M 125 (mcm d R (Tm Ms a) (cdr n Ms x) (cdr n Ms y) (cdr n Ms z)) ≠ 0
def JM (M M1 : nM) : Prop := ∀ c : Int, M 125 c ≠ 0 → M1 125 c ≠ 0
section
variable {d n ac a : Int} {R : Nat} {Ms M M1 : nM} {P Q : Int → Int → Int → Prop}
theorem JD.jm {c : Int} (j : JD c M M1) : JM M M1 := fun x q => by
  by_cases u : x = c
  · rw [u]
    exact j.2.1
  · rw [j.1 125 x (fun w => u w.2)]
    exact q
theorem JSt.st {c : Int} (h : JSt d R n ac Ms M) (j : JD c M M1) (cl : Clo d R n ac (Tm Ms) c) : JSt d R n ac Ms M1 := by
  obtain ⟨h1, h2, h3, h4⟩ := h
  refine ⟨fun b i q => (j.1 b i (fun w => q w.1)).trans (h1 b i q), fun x q => j.jm x (h2 x q), fun x => ?_, fun x q => ?_⟩
  · by_cases u : x = c
    · rw [u, j.2.2]
      exact h3 c
    · rw [j.1 125 x (fun w => u w.2)]
      exact h3 x
  · by_cases u : x = c
    · rw [u]
      exact Or.inr cl
    · rw [j.1 125 x (fun w => u w.2)] at q
      exact h4 x q
theorem JSt.refl : JSt d R n ac M M := ⟨fun _ _ _ => rfl, fun _ q => q, fun _ => Iff.rfl, fun _ q => Or.inl q⟩
theorem JV.mo (h : JV d R n a Ms M P) (k : JM M M1) : JV d R n a Ms M1 P := fun x y z p => k _ (h x y z p)
theorem JV.or (h : JV d R n a Ms M P) (k : JV d R n a Ms M Q) : JV d R n a Ms M (fun x y z => P x y z ∨ Q x y z) := fun x y z p => p.elim (h x y z) (k x y z)
theorem JV.im (h : JV d R n a Ms M Q) (k : ∀ x y z : Int, P x y z → Q x y z) : JV d R n a Ms M P := fun x y z p => h x y z (k x y z p)
theorem JM.tr {M2 : nM} (h : JM M M1) (k : JM M1 M2) : JM M M2 := fun c q => k c (h c q)
end
def PDr (d : Int) (R : Nat) (n ac e : Int) (Ms M : nM) : Prop := ∀ a x y z : Int, 0 ≤ a → a < ac → (0 ≤ x ∧ x < e) → (0 ≤ y ∧ y < e) → (0 ≤ z ∧ z < e) → M 125 (mcm d R (Tm Ms a) (cdr n Ms x) (cdr n Ms y) (cdr n Ms z)) ≠ 0
section
variable {d n ac a t : Int} {R : Nat} {Ms M : nM}
/-- all up to t, by one act -/
def JA (d : Int) (R : Nat) (n a t : Int) (Ms M : nM) : Prop := JV d R n a Ms M (fun x y z => (0 ≤ x ∧ x ≤ t) ∧ (0 ≤ y ∧ y ≤ t) ∧ (0 ≤ z ∧ z ≤ t))
theorem WR.ig {x y z x2 y2 : Int} (hd : d = 2 ∨ d = 3) (hw : WR d a Ms) (hx : Ms 116 a = 3 → x2 = x) (hy : 2 ≤ Ms 116 a → y2 = y) : mcm d R (Tm Ms a) x y z = mcm d R (Tm Ms a) x2 y2 z := by
  have p := pw_r (k := Ms 116 a) hd (by have k := hw.1; omega)
  refine mcm_ig (k := Ms 116 a) hd hw.1 (fun i i0 i1 => ?_) hx hy
  have r0 : 0 ≤ i % pw d (Ms 116 a) := Int.emod_nonneg _ (by omega)
  have r1 : i % pw d (Ms 116 a) < pw d (Ms 116 a) := Int.emod_lt_of_pos _ (by omega)
  rw [hw.2 i i0 i1, hw.2 _ r0 (by omega), Int.emod_eq_of_lt r0 r1]
theorem JA.one (hd : d = 2 ∨ d = 3) (hw : WR d a Ms) (k : Ms 116 a = 1) (t0 : 0 ≤ t) (ha : 0 ≤ a ∧ a < ac) (pd : PDr d R n ac t Ms Ms) (jm : JM Ms M) (h : JV d R n a Ms M (fun x y z => x = t ∧ y = t ∧ z = t)) : JA d R n a t Ms M := fun x y z p => by
  obtain ⟨px, py, pz⟩ := p
  by_cases u : z = t
  · rw [WR.ig (x2 := cdr n Ms t) (y2 := cdr n Ms t) hd hw (by omega) (by omega)]
    exact h t t z ⟨rfl, rfl, u⟩
  · rw [WR.ig (x2 := cdr n Ms z) (y2 := cdr n Ms z) hd hw (by omega) (by omega)]
    exact jm _ (pd a z z z ha.1 ha.2 (by omega) (by omega) (by omega))
theorem JA.two (hd : d = 2 ∨ d = 3) (hw : WR d a Ms) (k : Ms 116 a = 2) (t0 : 0 ≤ t) (ha : 0 ≤ a ∧ a < ac) (pd : PDr d R n ac t Ms Ms) (jm : JM Ms M) (h : JV d R n a Ms M (fun x y z => x = t ∧ ((y = t ∧ 0 ≤ z ∧ z ≤ t) ∨ (z = t ∧ 0 ≤ y ∧ y ≤ t)))) : JA d R n a t Ms M := fun x y z p => by
  obtain ⟨px, py, pz⟩ := p
  by_cases u : y = t ∨ z = t
  · rw [WR.ig (x2 := cdr n Ms t) (y2 := cdr n Ms y) hd hw (by omega) (fun _ => rfl)]
    exact h t y z ⟨rfl, by omega⟩
  · rw [WR.ig (x2 := cdr n Ms y) (y2 := cdr n Ms y) hd hw (by omega) (fun _ => rfl)]
    exact jm _ (pd a y y z ha.1 ha.2 (by omega) (by omega) (by omega))
theorem JA.thr (ha : 0 ≤ a ∧ a < ac) (pd : PDr d R n ac t Ms Ms) (jm : JM Ms M) (h : JV d R n a Ms M (fun x y z => (0 ≤ x ∧ x ≤ t) ∧ (0 ≤ y ∧ y ≤ t) ∧ (0 ≤ z ∧ z ≤ t) ∧ (x = t ∨ y = t ∨ z = t))) : JA d R n a t Ms M := fun x y z p => by
  obtain ⟨px, py, pz⟩ := p
  by_cases u : x = t ∨ y = t ∨ z = t
  · exact h x y z ⟨px, py, pz, u⟩
  · exact jm _ (pd a x y z ha.1 ha.2 (by omega) (by omega) (by omega))
theorem PDr.st (h : ∀ a : Int, 0 ≤ a → a < ac → JA d R n a t Ms M) : PDr d R n ac (t + 1) Ms M := fun a x y z a0 a1 hx hy hz => h a a0 a1 x y z ⟨by omega, by omega, by omega⟩
end
def J2 (d : Int) (R : Nat) (n a t k : Int) (Ms M : nM) : Prop := JV d R n a Ms M (fun x y z => x = t ∧ y = t ∧ 0 ≤ z ∧ z < k) ∧ JV d R n a Ms M (fun x y z => x = t ∧ 0 ≤ y ∧ y < k ∧ z = t)
def J3 (d : Int) (R : Nat) (n a t k : Int) (Ms M : nM) : Prop := JV d R n a Ms M (fun x y z => x = t ∧ 0 ≤ y ∧ y < k ∧ 0 ≤ z ∧ z ≤ t) ∧ JV d R n a Ms M (fun x y z => 0 ≤ x ∧ x < k ∧ y = t ∧ 0 ≤ z ∧ z ≤ t) ∧ JV d R n a Ms M (fun x y z => 0 ≤ x ∧ x < k ∧ 0 ≤ y ∧ y ≤ t ∧ z = t)
def J4 (d : Int) (R : Nat) (n a t i k : Int) (Ms M : nM) : Prop := JV d R n a Ms M (fun x y z => x = t ∧ y = i ∧ 0 ≤ z ∧ z < k) ∧ JV d R n a Ms M (fun x y z => x = i ∧ y = t ∧ 0 ≤ z ∧ z < k) ∧ JV d R n a Ms M (fun x y z => x = i ∧ 0 ≤ y ∧ y < k ∧ z = t)
section
variable {d n ac a t i k : Int} {R : Nat} {Ms M M1 : nM}
theorem J2.ini : J2 d R n a t 0 Ms M := ⟨fun x y z p => by have h1 := p.2.2.1; have h2 := p.2.2.2; omega, fun x y z p => by have h1 := p.2.1; have h2 := p.2.2.1; omega⟩
theorem J3.ini : J3 d R n a t 0 Ms M := ⟨fun x y z p => by have h1 := p.2.1; have h2 := p.2.2.1; omega, fun x y z p => by have h1 := p.1; have h2 := p.2.1; omega, fun x y z p => by have h1 := p.1; have h2 := p.2.1; omega⟩
theorem J4.ini : J4 d R n a t i 0 Ms M := ⟨fun x y z p => by have h1 := p.2.2.1; have h2 := p.2.2.2; omega, fun x y z p => by have h1 := p.2.2.1; have h2 := p.2.2.2; omega, fun x y z p => by have h1 := p.2.1; have h2 := p.2.2.1; omega⟩
theorem J2.mo (h : J2 d R n a t k Ms M) (j : JM M M1) : J2 d R n a t k Ms M1 := ⟨h.1.mo j, h.2.mo j⟩
theorem J3.mo (h : J3 d R n a t k Ms M) (j : JM M M1) : J3 d R n a t k Ms M1 := ⟨h.1.mo j, h.2.1.mo j, h.2.2.mo j⟩
theorem J4.mo (h : J4 d R n a t i k Ms M) (j : JM M M1) : J4 d R n a t i k Ms M1 := ⟨h.1.mo j, h.2.1.mo j, h.2.2.mo j⟩
theorem J2.st (h : J2 d R n a t k Ms M) (j : JM M M1) (s1 : M1 125 (mcm d R (Tm Ms a) (cdr n Ms t) (cdr n Ms t) (cdr n Ms k)) ≠ 0) (s2 : M1 125 (mcm d R (Tm Ms a) (cdr n Ms t) (cdr n Ms k) (cdr n Ms t)) ≠ 0) : J2 d R n a t (k + 1) Ms M1 := ⟨fun x y z p => by
  obtain ⟨p1, p2, p3, p4⟩ := p
  by_cases u : z = k
  · rw [p1, p2, u]
    exact s1
  · exact j _ (h.1 x y z ⟨p1, p2, p3, by omega⟩), fun x y z p => by
  obtain ⟨p1, p2, p3, p4⟩ := p
  by_cases u : y = k
  · rw [p1, u, p4]
    exact s2
  · exact j _ (h.2 x y z ⟨p1, p2, by omega, p4⟩)⟩
theorem J4.st (h : J4 d R n a t i k Ms M) (j : JM M M1) (s1 : M1 125 (mcm d R (Tm Ms a) (cdr n Ms t) (cdr n Ms i) (cdr n Ms k)) ≠ 0) (s2 : M1 125 (mcm d R (Tm Ms a) (cdr n Ms i) (cdr n Ms t) (cdr n Ms k)) ≠ 0) (s3 : M1 125 (mcm d R (Tm Ms a) (cdr n Ms i) (cdr n Ms k) (cdr n Ms t)) ≠ 0) : J4 d R n a t i (k + 1) Ms M1 := ⟨fun x y z p => by
  obtain ⟨p1, p2, p3, p4⟩ := p
  by_cases u : z = k
  · rw [p1, p2, u]
    exact s1
  · exact j _ (h.1 x y z ⟨p1, p2, p3, by omega⟩), fun x y z p => by
  obtain ⟨p1, p2, p3, p4⟩ := p
  by_cases u : z = k
  · rw [p1, p2, u]
    exact s2
  · exact j _ (h.2.1 x y z ⟨p1, p2, p3, by omega⟩), fun x y z p => by
  obtain ⟨p1, p2, p3, p4⟩ := p
  by_cases u : y = k
  · rw [p1, u, p4]
    exact s3
  · exact j _ (h.2.2 x y z ⟨p1, p2, by omega, p4⟩)⟩
theorem J3.st {q : Int} (h : J3 d R n a t k Ms M) (f : J4 d R n a t k q Ms M) (hq : t < q) : J3 d R n a t (k + 1) Ms M := ⟨fun x y z p => by
  obtain ⟨p1, p2, p3, p4, p5⟩ := p
  by_cases u : y = k
  · exact f.1 x y z ⟨p1, u, p4, by omega⟩
  · exact h.1 x y z ⟨p1, p2, by omega, p4, p5⟩, fun x y z p => by
  obtain ⟨p1, p2, p3, p4, p5⟩ := p
  by_cases u : x = k
  · exact f.2.1 x y z ⟨u, p3, p4, by omega⟩
  · exact h.2.1 x y z ⟨p1, by omega, p3, p4, p5⟩, fun x y z p => by
  obtain ⟨p1, p2, p3, p4, p5⟩ := p
  by_cases u : x = k
  · exact f.2.2 x y z ⟨u, p3, by omega, p5⟩
  · exact h.2.2 x y z ⟨p1, by omega, p3, p4, p5⟩⟩
theorem J2.fin {q : Int} (hd : d = 2 ∨ d = 3) (hw : WR d a Ms) (k2 : Ms 116 a = 2) (t0 : 0 ≤ t) (ha : 0 ≤ a ∧ a < ac) (pd : PDr d R n ac t Ms Ms) (jm : JM Ms M) (h : J2 d R n a t q Ms M) (hq : t < q) : JA d R n a t Ms M := JA.two hd hw k2 t0 ha pd jm (fun x y z p => by
  obtain ⟨p1, p2⟩ := p
  rcases p2 with ⟨u1, u2, u3⟩ | ⟨u1, u2, u3⟩
  · exact h.1 x y z ⟨p1, u1, u2, by omega⟩
  · exact h.2 x y z ⟨p1, u2, by omega, u1⟩)
theorem J3.fin {q : Int} (ha : 0 ≤ a ∧ a < ac) (pd : PDr d R n ac t Ms Ms) (jm : JM Ms M) (h : J3 d R n a t q Ms M) (hq : t < q) : JA d R n a t Ms M := JA.thr ha pd jm (fun x y z p => by
  obtain ⟨px, py, pz, p4⟩ := p
  rcases p4 with u | u | u
  · exact h.1 x y z ⟨u, py.1, by omega, pz.1, pz.2⟩
  · exact h.2.1 x y z ⟨px.1, by omega, u, pz.1, pz.2⟩
  · exact h.2.2 x y z ⟨px.1, by omega, py.1, py.2, u⟩)
end
/-! what stands as the reference makes -/
/-- all but its own rows -/
def F5 (n : Int) (M M1 : nM) : Prop := ∀ a i : Int, a ≠ 122 → a ≠ 123 → a ≠ 125 → a ≠ 126 → ¬ (a = 124 ∧ i = n) → M1 a i = M a i
def RSw (d : Int) (R : Nat) (C n ac : Int) (Ms M : nM) : Prop := (∀ c : Int, 0 ≤ c → c < C → M 125 c ≠ 0 → Clo d R n ac (Tm Ms) c) ∧ ∀ j : Int, 0 ≤ j → j < n → M 125 (mpj d R j) ≠ 0
def RDn (d : Int) (R : Nat) (C n ac k : Int) (Ms M : nM) : Prop := (∀ i : Int, 0 ≤ i → i < k → Clo d R n ac (Tm Ms) (cdr n M i) ∧ M 125 (cdr n M i) = -1 ∧ ∀ r : Int, 0 ≤ r → r < R → M 126 (9 * i + r) = mdg d (cdr n M i) r) ∧ (∀ c : Int, 0 ≤ c → c < C → M 125 c = -1 → ∃ i : Int, 0 ≤ i ∧ i < k ∧ cdr n M i = c) ∧ Dif (cdr n M) k
def PRj (d : Int) (R : Nat) (C n ac p : Int) (Ms M : nM) : Prop := (∀ c : Int, 0 ≤ c → c < C → M 125 c ≠ 0 → M 125 c = 1 ∧ ∃ j : Int, 0 ≤ j ∧ j < n ∧ mpj d R j = c) ∧ ∀ j : Int, n - p ≤ j → j < n → 0 ≤ j → M 125 (mpj d R j) = 1
section
variable {d n ac C k : Int} {R : Nat} {Ms M M1 : nM}
theorem PRj.ini (h : ∀ c : Int, 0 ≤ c → c < C → M 125 c = 0) : PRj d R C n ac 0 Ms M := ⟨fun c c0 c1 q => absurd (h c c0 c1) q, fun j j0 j1 _ => by omega⟩
theorem PRj.st {p v : Int} (h : PRj d R C n ac p Ms M) (hp : 0 ≤ p ∧ p < n) (ev : mpj d R (n - 1 - p) = v) (e : M1 = nu M 125 v 1) : PRj d R C n ac (p + 1) Ms M1 := by
  refine ⟨fun c c0 c1 q => ?_, fun j j0 j1 j2 => ?_⟩
  · by_cases u : c = v
    · rw [u, e, nu_s]
      exact ⟨rfl, n - 1 - p, by omega, by omega, ev⟩
    · rw [e, nu_i u] at q ⊢
      exact h.1 c c0 c1 q
  · by_cases u : mpj d R j = v
    · rw [u, e, nu_s]
    · rw [e, nu_i u]
      refine h.2 j ?_ j1 j2
      by_cases w : j = n - 1 - p
      · rw [w] at u
        exact absurd ev u
      · omega
theorem PRj.fin (h : PRj d R C n ac n Ms M) : RSw d R C n ac Ms M := ⟨fun c c0 c1 q => by
  obtain ⟨-, j, j0, j1, e⟩ := h.1 c c0 c1 q
  exact Clo.pj e j0 j1, fun j j0 j1 => by
  rw [h.2 j (by omega) j1 j0]
  decide⟩
theorem PRj.rd (h : PRj d R C n ac n Ms M) : RDn d R C n ac 0 Ms M := ⟨fun i i0 i1 => by omega, fun c c0 c1 q => by
  have y := (h.1 c c0 c1 (by rw [q]; decide)).1
  omega, fun i j i0 i1 => by omega⟩
end
section
variable {d n ac C k : Int} {R : Nat} {Ms M M1 : nM}
theorem Tm_f5 (h : F5 n M M1) : Tm M1 = Tm M := Tm_of (fun a i q1 q2 => h a i (by omega) (by omega) (by omega) (by omega) (by omega))
end
/-- being marked as done: those ahead of x are -/
def RE (d : Int) (R : Nat) (C n ac k x : Int) (Ms M : nM) : Prop := (∀ i : Int, 0 ≤ i → i < k → (Clo d R n ac (Tm Ms) (cdr n M i) ∧ 0 ≤ cdr n M i ∧ cdr n M i < C) ∧ ∀ r : Int, 0 ≤ r → r < R → M 126 (9 * i + r) = mdg d (cdr n M i) r) ∧ (∀ i : Int, 0 ≤ i → i < x → M 125 (cdr n M i) = -1) ∧ (∀ c : Int, 0 ≤ c → c < C → M 125 c = -1 → ∃ i : Int, 0 ≤ i ∧ i < k ∧ cdr n M i = c) ∧ Dif (cdr n M) k
section
variable {d n ac C k x : Int} {R : Nat} {Ms M M1 : nM}
theorem RE.st {z : Int} (h : RE d R C n ac k x Ms M) (hx : 0 ≤ x ∧ x < k) (ez : z = cdr n M x) (e : M1 = nu M 125 z (-1)) : RE d R C n ac k (x + 1) Ms M1 := by
  obtain ⟨h1, h2, h3, h4⟩ := h
  have ec : cdr n M1 = cdr n M := funext fun i => by
    unfold cdr
    rw [e, nu_a (by omega)]
  refine ⟨fun i i0 i1 => ?_, fun i i0 i1 => ?_, fun c c0 c1 q => ?_, ?_⟩
  · rw [ec]
    refine ⟨(h1 i i0 i1).1, fun r r0 r1 => ?_⟩
    rw [e, nu_a (by omega)]
    exact (h1 i i0 i1).2 r r0 r1
  · rw [ec]
    by_cases u : cdr n M i = z
    · rw [u, e, nu_s]
    · rw [e, nu_i u]
      refine h2 i i0 ?_
      by_cases w : i = x
      · rw [w, ← ez] at u
        exact absurd rfl u
      · omega
  · rw [ec]
    by_cases u : c = z
    · exact ⟨x, hx.1, hx.2, by rw [u, ez]⟩
    · rw [e, nu_i u] at q
      exact h3 c c0 c1 q
  · rw [ec]
    exact h4
theorem RE.fin (h : RE d R C n ac k x Ms M) (e : k ≤ x) : RDn d R C n ac k Ms M := by
  obtain ⟨h1, h2, h3, h4⟩ := h
  exact ⟨fun i i0 i1 => ⟨(h1 i i0 i1).1.1, h2 i i0 (by omega), (h1 i i0 i1).2⟩, h3, h4⟩
theorem RSw.mk {z : Int} (h : RSw d R C n ac Ms M) (e : M1 = nu M 125 z (-1)) (hc : Clo d R n ac (Tm Ms) z) : RSw d R C n ac Ms M1 := by
  refine ⟨fun c c0 c1 q => ?_, fun j j0 j1 => ?_⟩
  · by_cases u : c = z
    · rw [u]
      exact hc
    · rw [e, nu_i u] at q
      exact h.1 c c0 c1 q
  · by_cases u : mpj d R j = z
    · rw [u, e, nu_s]
      decide
    · rw [e, nu_i u]
      exact h.2 j j0 j1
/-- a new one: b stands at k, told by its digits -/
def NEW (d : Int) (R : Nat) (n k b x : Int) (M M1 : nM) : Prop := M1 122 (256 * n + k) = b ∧ (∀ i : Int, i ≠ 256 * n + k → M1 122 i = M 122 i) ∧ (∀ r : Int, 0 ≤ r → r < x → M1 126 (9 * k + r) = mdg d b r) ∧ (∀ i : Int, i < 9 * k → M1 126 i = M 126 i) ∧ ∀ a i : Int, a ≠ 122 → a ≠ 123 → a ≠ 126 → M1 a i = M a i
theorem NEW.ini {M2 : nM} {v b : Int} (e1 : M1 = nu M 122 (256 * n + k) b) (e2 : M2 = nu M1 123 (256 * n + k) v) : NEW d R n k b 0 M M2 := by
  refine ⟨by rw [e2, nu_a (by omega), e1, nu_s], fun i q => by rw [e2, nu_a (by omega), e1, nu_i q], fun r r0 r1 => by omega, fun i _ => by rw [e2, nu_a (by omega), e1, nu_a (by omega)], fun a i q1 q2 _ => by rw [e2, nu_a q2, e1, nu_a q1]⟩
theorem NEW.st {M2 : nM} {b v j : Int} (h : NEW d R n k b x M M1) (x0 : 0 ≤ x) (ej : j = 9 * k + x) (ev : v = mdg d b x) (e : M2 = nu M1 126 j v) : NEW d R n k b (x + 1) M M2 := by
  obtain ⟨h1, h2, h3, h4, h5⟩ := h
  refine ⟨by rw [e, nu_a (by omega)]; exact h1, fun i q => by rw [e, nu_a (by omega)]; exact h2 i q, fun r r0 r1 => ?_, fun i q => by rw [e, nu_i (by omega)]; exact h4 i q, fun a i q1 q2 q3 => by rw [e, nu_a q3]; exact h5 a i q1 q2 q3⟩
  by_cases u : r = x
  · rw [e, u, ← ej, nu_s]
    exact ev
  · rw [e, nu_i (by omega)]
    exact h3 r r0 (by omega)
/-- what stands behind the digits, for joins -/
theorem NEW.dg {b : Int} (h : NEW d R n k b R M M1) (k0 : 0 ≤ k) (hR : R ≤ 9) (rd : RDn d R C n ac k M M) (rs : RSw d R C n ac M M) (hb : 0 ≤ b ∧ b < C) (sb : 1 ≤ M 125 b) (hC : ∀ i : Int, 0 ≤ i → i < k → 0 ≤ cdr n M i ∧ cdr n M i < C) : Tm M1 = Tm M ∧ RE d R C n ac (k + 1) 0 M1 M1 ∧ RSw d R C n ac M1 M1 ∧ (∀ i : Int, 0 ≤ i → i < k → cdr n M1 i = cdr n M i) ∧ cdr n M1 k = b := by
  obtain ⟨h1, h2, h3, h4, h5⟩ := h
  have eT : Tm M1 = Tm M := Tm_of (fun a i q1 q2 => h5 a i (by omega) (by omega) (by omega))
  have e125 : ∀ c : Int, M1 125 c = M 125 c := fun c => h5 125 c (by omega) (by omega) (by omega)
  have ec : ∀ i : Int, 0 ≤ i → i < k → cdr n M1 i = cdr n M i := fun i i0 i1 => h2 _ (by omega)
  have ek : cdr n M1 k = b := h1
  obtain ⟨r1, r2, r3⟩ := rd
  have sp : ∀ i : Int, 0 ≤ i → i < k + 1 → (i < k ∧ cdr n M1 i = cdr n M i) ∨ (i = k ∧ cdr n M1 i = b) := fun i i0 i1 => by
    by_cases u : i = k
    · exact Or.inr ⟨u, by rw [u]; exact ek⟩
    · exact Or.inl ⟨by omega, ec i i0 (by omega)⟩
  refine ⟨eT, ⟨fun i i0 i1 => ?_, fun i i0 i1 => by omega, fun c c0 c1 q => ?_, fun i j i0 i1 j0 j1 e => ?_⟩, ⟨fun c c0 c1 q => ?_, fun j j0 j1 => ?_⟩, ec, ek⟩
  · rw [eT]
    rcases sp i i0 i1 with ⟨a, e⟩ | ⟨a, e⟩
    · rw [e]
      refine ⟨⟨(r1 i i0 a).1, hC i i0 a⟩, fun r q0 q1 => ?_⟩
      rw [h4 _ (by omega)]
      exact (r1 i i0 a).2.2 r q0 q1
    · rw [e]
      refine ⟨⟨rs.1 b hb.1 hb.2 (by omega), hb⟩, fun r q0 q1 => ?_⟩
      rw [a]
      exact h3 r q0 q1
  · rw [e125] at q
    obtain ⟨i, i0, i1, e⟩ := r2 c c0 c1 q
    exact ⟨i, i0, by omega, (ec i i0 i1).trans e⟩
  · have nb : ∀ i : Int, 0 ≤ i → i < k → cdr n M i ≠ b := fun i i0 i1 w => by
      have y := (r1 i i0 i1).2.1
      rw [w] at y
      omega
    rcases sp i i0 i1 with ⟨a, u⟩ | ⟨a, u⟩
    · rcases sp j j0 j1 with ⟨a2, u2⟩ | ⟨a2, u2⟩
      · rw [u, u2] at e
        exact r3 i j i0 a j0 a2 e
      · rw [u, u2] at e
        exact absurd e (nb i i0 a)
    · rcases sp j j0 j1 with ⟨a2, u2⟩ | ⟨a2, u2⟩
      · rw [u, u2] at e
        exact absurd e.symm (nb j j0 a2)
      · omega
  · rw [e125] at q
    rw [eT]
    exact rs.1 c c0 c1 q
  · rw [e125]
    exact rs.2 j j0 j1
theorem NEW.pd {b : Int} (h : NEW d R n k b R M M1) (eT : Tm M1 = Tm M) (ec : ∀ i : Int, 0 ≤ i → i < k → cdr n M1 i = cdr n M i) (pd : PDr d R n ac k M M) : PDr d R n ac k M1 M1 := fun a x y z a0 a1 hx hy hz => by
  rw [eT, ec x hx.1 hx.2, ec y hy.1 hy.2, ec z hz.1 hz.2, h.2.2.2.2 125 _ (by omega) (by omega) (by omega)]
  exact pd a x y z a0 a1 hx hy hz
/-- behind joins -/
theorem JSt.re (h : JSt d R n ac M M1) (re : RE d R C n ac k x M M) (rs : RSw d R C n ac M M) (h0 : x = 0) : Tm M1 = Tm M ∧ cdr n M1 = cdr n M ∧ RE d R C n ac k x M1 M1 ∧ RSw d R C n ac M1 M1 := by
  obtain ⟨f, j1, j2, j3⟩ := h
  have eT : Tm M1 = Tm M := Tm_of (fun a i q1 q2 => f a i (by omega))
  have ec : cdr n M1 = cdr n M := funext fun i => f 122 _ (by omega)
  obtain ⟨h1, h2, h3, h4⟩ := re
  refine ⟨eT, ec, ⟨fun i i0 i1 => ?_, fun i i0 i1 => by omega, fun c c0 c1 q => ?_, by rw [ec]; exact h4⟩, ⟨fun c c0 c1 q => ?_, fun j j0 j1' => j1 _ (rs.2 j j0 j1')⟩⟩
  · rw [eT, ec]
    refine ⟨(h1 i i0 i1).1, fun r r0 r1 => ?_⟩
    rw [f 126 _ (by omega)]
    exact (h1 i i0 i1).2 r r0 r1
  · rw [ec]
    exact h3 c c0 c1 ((j2 c).mp q)
  · rw [eT]
    rcases j3 c q with u | u
    · exact rs.1 c c0 c1 u
    · exact u
theorem PDr.fr {e : Int} (h : PDr d R n ac e M M1) (eT : Tm M1 = Tm M) (ec : cdr n M1 = cdr n M) : PDr d R n ac e M1 M1 := fun a x y z a0 a1 hx hy hz => by
  rw [eT, ec]
  exact h a x y z a0 a1 hx hy hz
theorem PDr.mk {e z : Int} (h : PDr d R n ac e M M) (e1 : M1 = nu M 125 z (-1)) : PDr d R n ac e M1 M1 := fun a x y w a0 a1 hx hy hz => by
  have eT : Tm M1 = Tm M := Tm_of (fun a i q1 q2 => by rw [e1, nu_a (by omega)])
  have ec : cdr n M1 = cdr n M := funext fun i => by
    unfold cdr
    rw [e1, nu_a (by omega)]
  rw [eT, ec]
  by_cases u : mcm d R (Tm M a) (cdr n M x) (cdr n M y) (cdr n M w) = z
  · rw [u, e1, nu_s]
    decide
  · rw [e1, nu_i u]
    exact h a x y w a0 a1 hx hy hz
theorem Tm_mk {z : Int} (e1 : M1 = nu M 125 z (-1)) : Tm M1 = Tm M := Tm_of (fun a i q1 q2 => by rw [e1, nu_a (by omega)])
theorem RF.all (hd : d = 2 ∨ d = 3) (hT : ∀ a i : Int, 0 ≤ a → a < ac → 0 ≤ i → i < d * d * d → 0 ≤ Tm M a i ∧ Tm M a i < d) (eC : C = dpn d R) (k0 : 0 ≤ k) (rs : RSw d R C n ac M M) (rd : RDn d R C n ac k M M) (pd : PDr d R n ac k M M ∨ C ≤ k) (nb : ∀ c : Int, 0 ≤ c → c < C → M 125 c ≤ 0) (lo : ∀ c : Int, 0 ≤ c → -1 ≤ M 125 c) : NCl d R n ac (Tm M) = k := by
  obtain ⟨r1, r2, r3⟩ := rd
  have e : ((k.toNat : Nat) : Int) = k := by omega
  have rng : ∀ c : Int, Clo d R n ac (Tm M) c → 0 ≤ c ∧ c < C := fun c q => by
    rw [eC]
    exact Clo.r hd hT q
  have le := NCl.le (R := R) (n := n) (g := cdr n M) (m := k.toNat) hd hT (by rw [e]; exact r3) (fun i i0 i1 => (r1 i i0 (by omega)).1)
  have dn : ∀ c : Int, Clo d R n ac (Tm M) c → M 125 c ≠ 0 → ∃ i : Int, 0 ≤ i ∧ i < (k.toNat : Int) ∧ cdr n M i = c := fun c q s => by
    have b := rng c q
    have y := nb c b.1 b.2
    have z := lo c b.1
    obtain ⟨i, i0, i1, w⟩ := r2 c b.1 b.2 (by omega)
    exact ⟨i, i0, by omega, w⟩
  rcases pd with pd | pd
  · have y := NCl.all (R := R) (n := n) (g := cdr n M) (m := k.toNat) hd hT (by rw [e]; exact r3) (fun i i0 i1 => (r1 i i0 (by omega)).1) (fun j j0 j1 => dn _ (Clo.prj j0 j1) (rs.2 j j0 j1)) (fun a x y z a0 a1 hx hy hz => dn _ (Clo.app a0 a1 (r1 x hx.1 (by omega)).1 (r1 y hy.1 (by omega)).1 (r1 z hz.1 (by omega)).1) (pd a x y z a0 a1 (by omega) (by omega) (by omega)))
    omega
  · have y : NCl d R n ac (Tm M) ≤ ((dpn d R).toNat : Int) := by
      unfold NCl
      rw [← cf_on]
      refine cf_lm _ (fun c _ _ => ?_)
      show bb _ ≤ 1
      have := bb_r (Clo d R n ac (Tm M) c)
      omega
    have p := dpn_pos hd R
    omega
theorem RF.many {b : Int} (hd : d = 2 ∨ d = 3) (hT : ∀ a i : Int, 0 ≤ a → a < ac → 0 ≤ i → i < d * d * d → 0 ≤ Tm M a i ∧ Tm M a i < d) (rs : RSw d R C n ac M M) (rd : RDn d R C n ac 256 M M) (hb : 0 ≤ b ∧ b < C) (sb : 1 ≤ M 125 b) : 256 < NCl d R n ac (Tm M) := by
  obtain ⟨r1, r2, r3⟩ := rd
  have nb : ∀ i : Int, 0 ≤ i → i < 256 → cdr n M i ≠ b := fun i i0 i1 w => by
    have y := (r1 i i0 i1).2.1
    rw [w] at y
    omega
  have y := NCl.le (R := R) (n := n) (g := fun i => if i = 256 then b else cdr n M i) (m := 257) hd hT (fun i j i0 i1 j0 j1 e => by
    have e : (if i = 256 then b else cdr n M i) = if j = 256 then b else cdr n M j := e
    by_cases u : i = 256
    · by_cases v : j = 256
      · omega
      · rw [if_pos u, if_neg v] at e
        exact absurd e.symm (nb j j0 (by omega))
    · by_cases v : j = 256
      · rw [if_neg u, if_pos v] at e
        exact absurd e (nb i i0 (by omega))
      · rw [if_neg u, if_neg v] at e
        exact r3 i j i0 (by omega) j0 (by omega) e) (fun i i0 i1 => by
    show Clo d R n ac (Tm M) (if i = 256 then b else cdr n M i)
    by_cases u : i = 256
    · rw [if_pos u]
      exact rs.1 b hb.1 hb.2 (by omega)
    · rw [if_neg u]
      exact (r1 i i0 (by omega)).1)
  omega
end
section
variable {d n ac C k x : Int} {R : Nat} {Ms Mt M M1 : nM}
theorem RE.ch (h : RE d R C n ac k x Ms M) (e : Tm Mt = Tm Ms) : RE d R C n ac k x Mt M := by
  unfold RE at *
  rw [e]
  exact h
theorem RSw.ch (h : RSw d R C n ac Ms M) (e : Tm Mt = Tm Ms) : RSw d R C n ac Mt M := by
  unfold RSw at *
  rw [e]
  exact h
theorem RDn.ch (h : RDn d R C n ac k Ms M) (e : Tm Mt = Tm Ms) : RDn d R C n ac k Mt M := by
  unfold RDn at *
  rw [e]
  exact h
/-- joined: the code so far -/
theorem JX.r {a X Y Z x : Int} (hd : d = 2 ∨ d = 3) (hw : WR d a M) (hT : ∀ i : Int, 0 ≤ i → i < d * d * d → 0 ≤ Tm M a i ∧ Tm M a i < d) (hx : -1 ≤ x ∧ x < R) : 0 ≤ mcd d (JF d (M 116 a) (JT a M) X Y Z) (x + 1) ((R : Int) - 1 - x).toNat ∧ mcd d (JF d (M 116 a) (JT a M) X Y Z) (x + 1) ((R : Int) - 1 - x).toNat < dpn d R := by
  have y := mcd_r (f := JF d (M 116 a) (JT a M) X Y Z) hd ((R : Int) - 1 - x).toNat (x + 1) (fun i _ _ => JF.r hd hw hT i)
  have z := dpn_mo hd ((R : Int) - 1 - x).toNat R (by omega)
  omega
end
