/-! The reference's sizes. -/
/-- the lists of the others -/
def F6 (n : Int) (M M1 : nM) : Prop := ∀ a i : Int, (a = 122 ∨ a = 123) → ¬ (256 * n ≤ i ∧ i < 256 * n + 256) → M1 a i = M a i
def szr (n : Int) (M : nM) (i : Int) : Int := M 123 (256 * n + i)
/-- c has been seen with at most the size s: it waits, or is done -/
def SNs (n t : Int) (Ms M : nM) (c s : Int) : Prop := (0 < M 125 c ∧ M 125 c ≤ s + 1) ∨ (M 125 c = -1 ∧ ∃ i : Int, 0 ≤ i ∧ i < t ∧ cdr n Ms i = c ∧ szr n Ms i ≤ s)
def JZ (c s : Int) (M M1 : nM) : Prop := (∀ a i : Int, ¬ (a = 125 ∧ i = c) → M1 a i = M a i) ∧ (((M 125 c = 0 ∨ s + 1 < M 125 c) ∧ M1 125 c = s + 1) ∨ (¬ (M 125 c = 0 ∨ s + 1 < M 125 c) ∧ M1 125 c = M 125 c))
def JMs (n t : Int) (Ms M M1 : nM) : Prop := ∀ c s : Int, SNs n t Ms M c s → SNs n t Ms M1 c s
theorem JMs.tr {n t : Int} {Ms M M1 M2 : nM} (h : JMs n t Ms M M1) (k : JMs n t Ms M1 M2) : JMs n t Ms M M2 := fun c s q => k c s (h c s q)
theorem SNs.le {n t c s r : Int} {Ms M : nM} (h : SNs n t Ms M c s) (q : s ≤ r) : SNs n t Ms M c r := by
  rcases h with ⟨h1, h2⟩ | ⟨h1, i, i0, i1, e, w⟩
  · exact Or.inl ⟨h1, by omega⟩
  · exact Or.inr ⟨h1, i, i0, i1, e, by omega⟩
section
variable {d n ac t : Int} {R : Nat} {Ms M M1 : nM}
theorem JZ.jm {c s : Int} (j : JZ c s M M1) (s0 : 0 ≤ s) : JMs n t Ms M M1 := fun x r q => by
  by_cases u : x = c
  · rw [u] at q ⊢
    rcases j.2 with ⟨w1, w2⟩ | ⟨w1, w2⟩
    · rcases q with ⟨h1, h2⟩ | ⟨h1, -⟩
      · exact Or.inl ⟨by omega, by omega⟩
      · omega
    · unfold SNs
      rw [w2]
      exact q
  · unfold SNs
    rw [j.1 125 x (fun w => u w.2)]
    exact q
theorem JZ.sn {c s : Int} (j : JZ c s M M1) (s0 : 0 ≤ s) (lo : -1 ≤ M 125 c) (dn : M 125 c = -1 → ∃ i : Int, 0 ≤ i ∧ i < t ∧ cdr n Ms i = c ∧ szr n Ms i ≤ s) : SNs n t Ms M1 c s := by
  rcases j.2 with ⟨w1, w2⟩ | ⟨w1, w2⟩
  · exact Or.inl ⟨by omega, by omega⟩
  · by_cases u : M 125 c = -1
    · exact Or.inr ⟨by omega, dn u⟩
    · exact Or.inl ⟨by omega, by omega⟩
def RV (d : Int) (R : Nat) (C n ac : Int) (Ms M : nM) : Prop := ∀ c : Int, 0 ≤ c → c < C → 0 < M 125 c → VAL d R n ac (Tm Ms) (Pm Ms) c (M 125 c - 1)
def LWs (C lo : Int) (M : nM) : Prop := ∀ c : Int, 0 ≤ c → c < C → 0 < M 125 c → lo < M 125 c
theorem JZ.rv {c s C : Int} (j : JZ c s M M1) (h : RV d R C n ac Ms M) (vl : VAL d R n ac (Tm Ms) (Pm Ms) c s) : RV d R C n ac Ms M1 := fun x x0 x1 q => by
  by_cases u : x = c
  · rw [u] at q ⊢
    rcases j.2 with ⟨w1, w2⟩ | ⟨w1, w2⟩
    · rw [w2, show s + 1 - 1 = s by omega]
      exact vl
    · rw [w2] at q ⊢
      exact h c (by omega) (by omega) q
  · rw [j.1 125 x (fun w => u w.2)] at q ⊢
    exact h x x0 x1 q
theorem JZ.lw {c s lo C : Int} (j : JZ c s M M1) (h : LWs C lo M) (hs : lo ≤ s) : LWs C lo M1 := fun x x0 x1 q => by
  by_cases u : x = c
  · rw [u] at q ⊢
    rcases j.2 with ⟨w1, w2⟩ | ⟨w1, w2⟩
    · omega
    · rw [w2] at q ⊢
      exact h c (by omega) (by omega) q
  · rw [j.1 125 x (fun w => u w.2)] at q ⊢
    exact h x x0 x1 q
end
def JVz (d : Int) (R : Nat) (n t a : Int) (Ms M : nM) (P : Int → Int → Int → Prop) : Prop := ∀ x y z : Int, P x y z → SNs n t Ms M (mcm d R (Tm Ms a) (cdr n Ms x) (cdr n Ms y) (cdr n Ms z)) (cst (Pm Ms a) (szr n Ms x) (szr n Ms y) (szr n Ms z))
theorem JVz.mo {d n t a : Int} {R : Nat} {Ms M M1 : nM} {P : Int → Int → Int → Prop} (h : JVz d R n t a Ms M P) (k : JMs n t Ms M M1) : JVz d R n t a Ms M1 P := fun x y z p => k _ _ (h x y z p)
def PDrz (d : Int) (R : Nat) (n ac e : Int) (Ms M : nM) : Prop := ∀ a x y z : Int, 0 ≤ a → a < ac → (0 ≤ x ∧ x < e) → (0 ≤ y ∧ y < e) → (0 ≤ z ∧ z < e) → SNs n e Ms M (mcm d R (Tm Ms a) (cdr n Ms x) (cdr n Ms y) (cdr n Ms z)) (cst (Pm Ms a) (szr n Ms x) (szr n Ms y) (szr n Ms z))
def JAz (d : Int) (R : Nat) (n a t : Int) (Ms M : nM) : Prop := JVz d R n t a Ms M (fun x y z => (0 ≤ x ∧ x ≤ t) ∧ (0 ≤ y ∧ y ≤ t) ∧ (0 ≤ z ∧ z ≤ t))
section
variable {d n ac a t : Int} {R : Nat} {Ms M : nM}
theorem JAz.one (hd : d = 2 ∨ d = 3) (hw : WR d a Ms) (k : Ms 116 a = 1) (kp : Pm Ms a = 1) (t0 : 0 ≤ t) (ha : 0 ≤ a ∧ a < ac) (pd : PDrz d R n ac t Ms Ms) (jm : JMs n t Ms Ms M) (h : JVz d R n t a Ms M (fun x y z => x = t ∧ y = t ∧ z = t)) : JAz d R n a t Ms M := fun x y z p => by
  obtain ⟨px, py, pz⟩ := p
  by_cases u : z = t
  · have q := h t t z ⟨rfl, rfl, u⟩
    rw [WR.ig (x2 := cdr n Ms x) (y2 := cdr n Ms y) hd hw (by omega) (by omega), kp, cst1] at q
    rw [kp, cst1]
    exact q
  · have q := jm _ _ (pd a z z z ha.1 ha.2 (by omega) (by omega) (by omega))
    rw [WR.ig (x2 := cdr n Ms x) (y2 := cdr n Ms y) hd hw (by omega) (by omega), kp, cst1] at q
    rw [kp, cst1]
    exact q
theorem JAz.two (hd : d = 2 ∨ d = 3) (hw : WR d a Ms) (k : Ms 116 a = 2) (kp : Pm Ms a = 2) (t0 : 0 ≤ t) (ha : 0 ≤ a ∧ a < ac) (pd : PDrz d R n ac t Ms Ms) (jm : JMs n t Ms Ms M) (h : JVz d R n t a Ms M (fun x y z => x = t ∧ ((y = t ∧ 0 ≤ z ∧ z ≤ t) ∨ (z = t ∧ 0 ≤ y ∧ y ≤ t)))) : JAz d R n a t Ms M := fun x y z p => by
  obtain ⟨px, py, pz⟩ := p
  by_cases u : y = t ∨ z = t
  · have q := h t y z ⟨rfl, by omega⟩
    rw [WR.ig (x2 := cdr n Ms x) (y2 := cdr n Ms y) hd hw (by omega) (fun _ => rfl), kp, cst2] at q
    rw [kp, cst2]
    exact q
  · have q := jm _ _ (pd a y y z ha.1 ha.2 (by omega) (by omega) (by omega))
    rw [WR.ig (x2 := cdr n Ms x) (y2 := cdr n Ms y) hd hw (by omega) (fun _ => rfl), kp, cst2] at q
    rw [kp, cst2]
    exact q
theorem JAz.thr (ha : 0 ≤ a ∧ a < ac) (pd : PDrz d R n ac t Ms Ms) (jm : JMs n t Ms Ms M) (h : JVz d R n t a Ms M (fun x y z => (0 ≤ x ∧ x ≤ t) ∧ (0 ≤ y ∧ y ≤ t) ∧ (0 ≤ z ∧ z ≤ t) ∧ (x = t ∨ y = t ∨ z = t))) : JAz d R n a t Ms M := fun x y z p => by
  obtain ⟨px, py, pz⟩ := p
  by_cases u : x = t ∨ y = t ∨ z = t
  · exact h x y z ⟨px, py, pz, u⟩
  · exact jm _ _ (pd a x y z ha.1 ha.2 (by omega) (by omega) (by omega))
end
def J2z (d : Int) (R : Nat) (n a t k : Int) (Ms M : nM) : Prop := JVz d R n t a Ms M (fun x y z => x = t ∧ y = t ∧ 0 ≤ z ∧ z < k) ∧ JVz d R n t a Ms M (fun x y z => x = t ∧ 0 ≤ y ∧ y < k ∧ z = t)
def J3z (d : Int) (R : Nat) (n a t k : Int) (Ms M : nM) : Prop := JVz d R n t a Ms M (fun x y z => x = t ∧ 0 ≤ y ∧ y < k ∧ 0 ≤ z ∧ z ≤ t) ∧ JVz d R n t a Ms M (fun x y z => 0 ≤ x ∧ x < k ∧ y = t ∧ 0 ≤ z ∧ z ≤ t) ∧ JVz d R n t a Ms M (fun x y z => 0 ≤ x ∧ x < k ∧ 0 ≤ y ∧ y ≤ t ∧ z = t)
def J4z (d : Int) (R : Nat) (n a t i k : Int) (Ms M : nM) : Prop := JVz d R n t a Ms M (fun x y z => x = t ∧ y = i ∧ 0 ≤ z ∧ z < k) ∧ JVz d R n t a Ms M (fun x y z => x = i ∧ y = t ∧ 0 ≤ z ∧ z < k) ∧ JVz d R n t a Ms M (fun x y z => x = i ∧ 0 ≤ y ∧ y < k ∧ z = t)
section
variable {d n ac a t i k : Int} {R : Nat} {Ms M M1 : nM}
theorem J2z.ini : J2z d R n a t 0 Ms M := ⟨fun x y z p => by have h1 := p.2.2.1; have h2 := p.2.2.2; omega, fun x y z p => by have h1 := p.2.1; have h2 := p.2.2.1; omega⟩
theorem J3z.ini : J3z d R n a t 0 Ms M := ⟨fun x y z p => by have h1 := p.2.1; have h2 := p.2.2.1; omega, fun x y z p => by have h1 := p.1; have h2 := p.2.1; omega, fun x y z p => by have h1 := p.1; have h2 := p.2.1; omega⟩
theorem J4z.ini : J4z d R n a t i 0 Ms M := ⟨fun x y z p => by have h1 := p.2.2.1; have h2 := p.2.2.2; omega, fun x y z p => by have h1 := p.2.2.1; have h2 := p.2.2.2; omega, fun x y z p => by have h1 := p.2.1; have h2 := p.2.2.1; omega⟩
theorem J2z.mo (h : J2z d R n a t k Ms M) (j : JMs n t Ms M M1) : J2z d R n a t k Ms M1 := ⟨h.1.mo j, h.2.mo j⟩
theorem J3z.mo (h : J3z d R n a t k Ms M) (j : JMs n t Ms M M1) : J3z d R n a t k Ms M1 := ⟨h.1.mo j, h.2.1.mo j, h.2.2.mo j⟩
theorem J4z.mo (h : J4z d R n a t i k Ms M) (j : JMs n t Ms M M1) : J4z d R n a t i k Ms M1 := ⟨h.1.mo j, h.2.1.mo j, h.2.2.mo j⟩
theorem J2z.st (h : J2z d R n a t k Ms M) (j : JMs n t Ms M M1) (s1 : SNs n t Ms M1 (mcm d R (Tm Ms a) (cdr n Ms t) (cdr n Ms t) (cdr n Ms k)) (cst (Pm Ms a) (szr n Ms t) (szr n Ms t) (szr n Ms k))) (s2 : SNs n t Ms M1 (mcm d R (Tm Ms a) (cdr n Ms t) (cdr n Ms k) (cdr n Ms t)) (cst (Pm Ms a) (szr n Ms t) (szr n Ms k) (szr n Ms t))) : J2z d R n a t (k + 1) Ms M1 := ⟨fun x y z p => by
  obtain ⟨p1, p2, p3, p4⟩ := p
  by_cases u : z = k
  · rw [p1, p2, u]
    exact s1
  · exact j _ _ (h.1 x y z ⟨p1, p2, p3, by omega⟩), fun x y z p => by
  obtain ⟨p1, p2, p3, p4⟩ := p
  by_cases u : y = k
  · rw [p1, u, p4]
    exact s2
  · exact j _ _ (h.2 x y z ⟨p1, p2, by omega, p4⟩)⟩
theorem J4z.st (h : J4z d R n a t i k Ms M) (j : JMs n t Ms M M1) (s1 : SNs n t Ms M1 (mcm d R (Tm Ms a) (cdr n Ms t) (cdr n Ms i) (cdr n Ms k)) (cst (Pm Ms a) (szr n Ms t) (szr n Ms i) (szr n Ms k))) (s2 : SNs n t Ms M1 (mcm d R (Tm Ms a) (cdr n Ms i) (cdr n Ms t) (cdr n Ms k)) (cst (Pm Ms a) (szr n Ms i) (szr n Ms t) (szr n Ms k))) (s3 : SNs n t Ms M1 (mcm d R (Tm Ms a) (cdr n Ms i) (cdr n Ms k) (cdr n Ms t)) (cst (Pm Ms a) (szr n Ms i) (szr n Ms k) (szr n Ms t))) : J4z d R n a t i (k + 1) Ms M1 := ⟨fun x y z p => by
  obtain ⟨p1, p2, p3, p4⟩ := p
  by_cases u : z = k
  · rw [p1, p2, u]
    exact s1
  · exact j _ _ (h.1 x y z ⟨p1, p2, p3, by omega⟩), fun x y z p => by
  obtain ⟨p1, p2, p3, p4⟩ := p
  by_cases u : z = k
  · rw [p1, p2, u]
    exact s2
  · exact j _ _ (h.2.1 x y z ⟨p1, p2, p3, by omega⟩), fun x y z p => by
  obtain ⟨p1, p2, p3, p4⟩ := p
  by_cases u : y = k
  · rw [p1, u, p4]
    exact s3
  · exact j _ _ (h.2.2 x y z ⟨p1, p2, by omega, p4⟩)⟩
theorem J3z.st {q : Int} (h : J3z d R n a t k Ms M) (f : J4z d R n a t k q Ms M) (hq : t < q) : J3z d R n a t (k + 1) Ms M := ⟨fun x y z p => by
  obtain ⟨p1, p2, p3, p4, p5⟩ := p
  by_cases u : y = k
  · exact f.1 x y z ⟨p1, u, p4, by omega⟩
  · exact h.1 x y z ⟨p1, p2, by omega, p4, p5⟩, fun x y z p => by
  obtain ⟨p1, p2, p3, p4, p5⟩ := p
  by_cases u : x = k
  · exact f.2.1 x y z ⟨u, p3, p4, by omega⟩
  · exact h.2.1 x y z ⟨p1, by omega, p3, p4, p5⟩, fun x y z p => by
  obtain ⟨p1, p2, p3, p4, p5⟩ := p
  by_cases u : x = k
  · exact f.2.2 x y z ⟨u, p3, by omega, p5⟩
  · exact h.2.2 x y z ⟨p1, by omega, p3, p4, p5⟩⟩
theorem J2z.fin {q : Int} (hd : d = 2 ∨ d = 3) (hw : WR d a Ms) (k2 : Ms 116 a = 2) (kp : Pm Ms a = 2) (t0 : 0 ≤ t) (ha : 0 ≤ a ∧ a < ac) (pd : PDrz d R n ac t Ms Ms) (jm : JMs n t Ms Ms M) (h : J2z d R n a t q Ms M) (hq : t < q) : JAz d R n a t Ms M := JAz.two hd hw k2 kp t0 ha pd jm (fun x y z p => by
  obtain ⟨p1, p2⟩ := p
  rcases p2 with ⟨u1, u2, u3⟩ | ⟨u1, u2, u3⟩
  · exact h.1 x y z ⟨p1, u1, u2, by omega⟩
  · exact h.2 x y z ⟨p1, u2, by omega, u1⟩)
theorem J3z.fin {q : Int} (ha : 0 ≤ a ∧ a < ac) (pd : PDrz d R n ac t Ms Ms) (jm : JMs n t Ms Ms M) (h : J3z d R n a t q Ms M) (hq : t < q) : JAz d R n a t Ms M := JAz.thr ha pd jm (fun x y z p => by
  obtain ⟨px, py, pz, p4⟩ := p
  rcases p4 with u | u | u
  · exact h.1 x y z ⟨u, py.1, by omega, pz.1, pz.2⟩
  · exact h.2.1 x y z ⟨px.1, by omega, u, pz.1, pz.2⟩
  · exact h.2.2 x y z ⟨px.1, by omega, py.1, py.2, u⟩)
end
/-! makes, with sizes -/
theorem Pm_of {M M1 : nM} (f : ∀ a i : Int, 55 ≤ a → a ≤ 78 → M1 a i = M a i) : Pm M1 = Pm M := funext fun a => by
  unfold Pm
  by_cases u : 0 ≤ a ∧ a < 8
  · rw [if_pos u, if_pos u]
    exact f _ 0 (by omega) (by omega)
  · rw [if_neg u, if_neg u]
def VSr (d : Int) (R : Nat) (n ac k : Int) (M : nM) : Prop := ∀ i : Int, 0 ≤ i → i < k → VAL d R n ac (Tm M) (Pm M) (cdr n M i) (szr n M i)
def I2r (n k : Int) (M : nM) : Prop := ∀ i j : Int, 0 ≤ i → i ≤ j → j < k → szr n M i ≤ szr n M j
def LWd (C n k : Int) (M : nM) : Prop := ∀ i : Int, 0 ≤ i → i < k → LWs C (szr n M i) M
def HJr (d : Int) (R : Nat) (n k : Int) (Ms M : nM) : Prop := ∀ j : Int, 0 ≤ j → j < n → SNs n k Ms M (mpj d R j) 0
def ZR (d : Int) (R : Nat) (C n ac k : Int) (M : nM) : Prop := RV d R C n ac M M ∧ VSr d R n ac k M ∧ I2r n k M ∧ LWd C n k M ∧ PDrz d R n ac k M M ∧ HJr d R n k M M
def NEWz (n k b : Int) (M M1 : nM) : Prop := szr n M1 k = M 125 b - 1 ∧ ∀ i : Int, i ≠ 256 * n + k → M1 123 i = M 123 i
/-- behind joins, ahead of the marks -/
def ZJ (d : Int) (R : Nat) (C n ac k : Int) (M1 M2 : nM) : Prop := RV d R C n ac M1 M2 ∧ VSr d R n ac (k + 1) M1 ∧ I2r n (k + 1) M1 ∧ LWs C (szr n M1 k) M2 ∧ (∀ a : Int, 0 ≤ a → a < ac → JAz d R n a k M1 M2) ∧ HJr d R n k M1 M2
section
variable {d n ac C k b : Int} {R : Nat} {M M1 M2 M3 : nM}
theorem ZR.ini (h : PRj d R C n ac n M M) : ZR d R C n ac 0 M := by
  refine ⟨fun c c0 c1 q => ?_, fun i i0 i1 => by omega, fun i j i0 ij j1 => by omega, fun i i0 i1 => by omega, fun a x y z _ _ hx => by omega, fun j j0 j1 => ?_⟩
  · obtain ⟨y, j, j0, j1, e⟩ := h.1 c c0 c1 (by omega)
    rw [y, ← e]
    exact VAL.prj j0 j1
  · have y := h.2 j (by omega) j1 j0
    exact Or.inl ⟨by omega, by omega⟩
theorem ZR.new (z : ZR d R C n ac k M) (hd : d = 2 ∨ d = 3) (k0 : 0 ≤ k) (nw : NEW d R n k b R M M1) (nz : NEWz n k b M M1) (hb : 0 ≤ b ∧ b < C) (sb : 1 ≤ M 125 b) (mn : ∀ c : Int, 0 ≤ c → c < C → 0 < M 125 c → M 125 b ≤ M 125 c) : Pm M1 = Pm M ∧ Tm M1 = Tm M ∧ RV d R C n ac M1 M1 ∧ VSr d R n ac (k + 1) M1 ∧ I2r n (k + 1) M1 ∧ LWs C (szr n M1 k) M1 ∧ PDrz d R n ac k M1 M1 ∧ HJr d R n k M1 M1 := by
  obtain ⟨z1, z2, z3, z4, z5, z6⟩ := z
  obtain ⟨h1, h2, h3, h4, h5⟩ := nw
  obtain ⟨n1, n2⟩ := nz
  have eP : Pm M1 = Pm M := Pm_of (fun a i q1 q2 => h5 a i (by omega) (by omega) (by omega))
  have eT : Tm M1 = Tm M := Tm_of (fun a i q1 q2 => h5 a i (by omega) (by omega) (by omega))
  have e125 : ∀ c : Int, M1 125 c = M 125 c := fun c => h5 125 c (by omega) (by omega) (by omega)
  have ec : ∀ i : Int, 0 ≤ i → i < k → cdr n M1 i = cdr n M i := fun i i0 i1 => h2 _ (by omega)
  have es : ∀ i : Int, 0 ≤ i → i < k → szr n M1 i = szr n M i := fun i i0 i1 => n2 _ (by omega)
  have ek : cdr n M1 k = b := h1
  have sn : ∀ c s : Int, SNs n k M M c s → SNs n k M1 M1 c s := fun c s q => by
    rcases q with ⟨q1, q2⟩ | ⟨q1, i, i0, i1, e1, e2⟩
    · exact Or.inl ⟨by rw [e125]; exact q1, by rw [e125]; exact q2⟩
    · exact Or.inr ⟨by rw [e125]; exact q1, i, i0, i1, by rw [ec i i0 i1]; exact e1, by rw [es i i0 i1]; exact e2⟩
  refine ⟨eP, eT, fun c c0 c1 q => ?_, fun i i0 i1 => ?_, fun i j i0 ij j1 => ?_, fun c c0 c1 q => ?_, fun a x y z a0 a1 hx hy hz => ?_, fun j j0 j1 => sn _ _ (z6 j j0 j1)⟩
  · rw [eT, eP, e125]
    rw [e125] at q
    exact z1 c c0 c1 q
  · rw [eT, eP]
    by_cases u : i = k
    · rw [u, ek, n1]
      exact z1 b hb.1 hb.2 (by omega)
    · rw [ec i i0 (by omega), es i i0 (by omega)]
      exact z2 i i0 (by omega)
  · by_cases u : j = k
    · by_cases w : i = k
      · rw [u, w]
        exact Int.le_refl _
      · rw [u, n1, es i i0 (by omega)]
        have y := z4 i i0 (by omega) b hb.1 hb.2 (by omega)
        omega
    · rw [es i i0 (by omega), es j (by omega) (by omega)]
      exact z3 i j i0 ij (by omega)
  · rw [e125] at q ⊢
    rw [n1]
    have y := mn c c0 c1 q
    omega
  · rw [eT, eP, ec x hx.1 hx.2, ec y hy.1 hy.2, ec z hz.1 hz.2, es x hx.1 hx.2, es y hy.1 hy.2, es z hz.1 hz.2]
    exact sn _ _ (z5 a x y z a0 a1 hx hy hz)
/-- where the last code came, all are there -/
theorem JAz.all {a : Int} (hd : d = 2 ∨ d = 3) (hw : WR d a M) (kp : Pm M a = M 116 a) (ha : 0 ≤ a ∧ a < ac) (k0 : 0 ≤ k) (pd : PDrz d R n ac k M M) (vs : VSr d R n ac (k + 1) M) (i2 : I2r n (k + 1) M) (al : ∀ c : Int, Clo d R n ac (Tm M) c → ∃ i : Int, 0 ≤ i ∧ i < k + 1 ∧ cdr n M i = c) (dn : ∀ i : Int, 0 ≤ i → i < k → M 125 (cdr n M i) = -1) (wb : M 125 (cdr n M k) = szr n M k + 1) : JAz d R n a k M M := by
  have key : ∀ x y z : Int, (0 ≤ x ∧ x ≤ k) → (0 ≤ y ∧ y ≤ k) → (0 ≤ z ∧ z ≤ k) → szr n M k ≤ cst (Pm M a) (szr n M x) (szr n M y) (szr n M z) → SNs n k M M (mcm d R (Tm M a) (cdr n M x) (cdr n M y) (cdr n M z)) (cst (Pm M a) (szr n M x) (szr n M y) (szr n M z)) := fun x y z hx hy hz le => by
    obtain ⟨i, i0, i1, e⟩ := al _ (Clo.app ha.1 ha.2 (vs x hx.1 (by omega)).clo (vs y hy.1 (by omega)).clo (vs z hz.1 (by omega)).clo)
    rw [← e]
    have r := (vs k k0 (by omega)).r
    by_cases u : i = k
    · rw [u]
      exact Or.inl ⟨by omega, by omega⟩
    · exact Or.inr ⟨dn i i0 (by omega), i, i0, by omega, rfl, Int.le_trans (i2 i k i0 (by omega) (by omega)) le⟩
  have rk := (vs k k0 (by omega)).r
  have k3 := hw.1
  have ges : ∀ x y z : Int, (0 ≤ x ∧ x ≤ k) → (0 ≤ y ∧ y ≤ k) → (0 ≤ z ∧ z ≤ k) → (z = k ∨ (2 ≤ M 116 a ∧ y = k) ∨ (M 116 a = 3 ∧ x = k)) → szr n M k ≤ cst (Pm M a) (szr n M x) (szr n M y) (szr n M z) := fun x y z hx hy hz w => by
    have rx := (vs x hx.1 (by omega)).r
    have ry := (vs y hy.1 (by omega)).r
    have rz := (vs z hz.1 (by omega)).r
    rw [kp]
    rcases k3 with q | q | q
    · rw [q, cst1]
      rcases w with w | w | w
      · rw [w]
        exact kap_ge (by omega) rk.2
      · omega
      · omega
    · rw [q, cst2]
      rcases w with w | ⟨-, w⟩ | w
      · rw [w] at rz ⊢
        exact kap_ge (by omega) rk.2
      · rw [w] at ry ⊢
        exact kap_ge (by omega) rk.2
      · omega
    · rw [q, cst3]
      rcases w with w | ⟨-, w⟩ | ⟨-, w⟩
      · rw [w] at rz ⊢
        exact kap_ge (by omega) rk.2
      · rw [w] at ry ⊢
        exact kap_ge (by omega) rk.2
      · rw [w] at rx ⊢
        exact kap_ge (by omega) rk.2
  rcases k3 with q | q | q
  · exact JAz.one hd hw q (kp.trans q) k0 ha pd (fun _ _ w => w) (fun x y z p => by
      rw [p.1, p.2.1, p.2.2]
      exact key k k k (by omega) (by omega) (by omega) (ges k k k (by omega) (by omega) (by omega) (Or.inl rfl)))
  · exact JAz.two hd hw q (kp.trans q) k0 ha pd (fun _ _ w => w) (fun x y z p => by
      obtain ⟨p1, p2⟩ := p
      rcases p2 with ⟨u1, u2, u3⟩ | ⟨u1, u2, u3⟩
      · exact key x y z (by omega) (by omega) (by omega) (ges x y z (by omega) (by omega) (by omega) (Or.inr (Or.inl ⟨by omega, u1⟩)))
      · exact key x y z (by omega) (by omega) (by omega) (ges x y z (by omega) (by omega) (by omega) (Or.inl u1)))
  · exact JAz.thr ha pd (fun _ _ w => w) (fun x y z p => by
      obtain ⟨p1, p2, p3, p4⟩ := p
      exact key x y z p1 p2 p3 (ges x y z p1 p2 p3 (by omega)))
/-- the marks -/
def MRK (n x : Int) (M2 M : nM) : Prop := (∀ a i : Int, a ≠ 125 → M a i = M2 a i) ∧ ∀ c : Int, M 125 c = M2 125 c ∨ (M 125 c = -1 ∧ ∃ i : Int, 0 ≤ i ∧ i < x ∧ cdr n M2 i = c)
theorem MRK.ini : MRK n 0 M M := ⟨fun _ _ _ => rfl, fun _ => Or.inl rfl⟩
theorem MRK.st {x z : Int} (h : MRK n x M2 M) (x0 : 0 ≤ x) (ez : z = cdr n M x) (e : M1 = nu M 125 z (-1)) : MRK n (x + 1) M2 M1 := by
  refine ⟨fun a i q => by rw [e, nu_a q]; exact h.1 a i q, fun c => ?_⟩
  have ec : cdr n M x = cdr n M2 x := h.1 122 _ (by omega)
  by_cases u : c = z
  · exact Or.inr ⟨by rw [e, u, nu_s], x, x0, by omega, by rw [u, ez, ec]⟩
  · rw [e, nu_i u]
    rcases h.2 c with w | ⟨w, i, i0, i1, e1⟩
    · exact Or.inl w
    · exact Or.inr ⟨w, i, i0, by omega, e1⟩
theorem ZJ.fin {x : Int} (h : ZJ d R C n ac k M1 M2) (hf : ∀ a i : Int, a ≠ 125 → M2 a i = M1 a i) (hm : MRK n x M2 M) (hx : k + 1 = x) (k0 : 0 ≤ k) (cr : ∀ i : Int, 0 ≤ i → i < k + 1 → 0 ≤ cdr n M1 i ∧ cdr n M1 i < C) (dn : ∀ i : Int, 0 ≤ i → i < k → M2 125 (cdr n M1 i) = -1) : ZR d R C n ac (k + 1) M := by
  obtain ⟨h1, h2, h3, h4, h5, h6⟩ := h
  have f : ∀ a i : Int, a ≠ 125 → M a i = M1 a i := fun a i q => (hm.1 a i q).trans (hf a i q)
  have eP : Pm M = Pm M1 := Pm_of (fun a i q1 q2 => f a i (by omega))
  have eT : Tm M = Tm M1 := Tm_of (fun a i q1 q2 => f a i (by omega))
  have ec : ∀ i : Int, cdr n M i = cdr n M1 i := fun i => f 122 _ (by omega)
  have ec2 : ∀ i : Int, cdr n M2 i = cdr n M1 i := fun i => hf 122 _ (by omega)
  have es : ∀ i : Int, szr n M i = szr n M1 i := fun i => f 123 _ (by omega)
  have wt : ∀ c : Int, 0 < M 125 c → M 125 c = M2 125 c := fun c q => by
    rcases hm.2 c with w | ⟨w, -⟩
    · exact w
    · omega
  have sn : ∀ c s : Int, 0 ≤ s → SNs n k M1 M2 c s → SNs n (k + 1) M M c s := fun c s s0 q => by
    rcases hm.2 c with w | ⟨w, i, i0, i1, e⟩
    · rcases q with ⟨q1, q2⟩ | ⟨q1, j, j0, j1, e1, e2⟩
      · exact Or.inl ⟨by rw [w]; exact q1, by rw [w]; exact q2⟩
      · exact Or.inr ⟨by rw [w]; exact q1, j, j0, by omega, by rw [ec]; exact e1, by rw [es]; exact e2⟩
    · rw [ec2] at e
      rcases q with ⟨q1, q2⟩ | ⟨q1, j, j0, j1, e1, e2⟩
      · refine Or.inr ⟨w, i, i0, by omega, by rw [ec]; exact e, ?_⟩
        rw [es]
        by_cases u : i = k
        · have w2 := cr i i0 (by omega)
          rw [e] at w2
          have y := h4 c w2.1 w2.2 q1
          rw [u]
          omega
        · have y := dn i i0 (by omega)
          rw [e] at y
          omega
      · exact Or.inr ⟨w, j, j0, by omega, by rw [ec]; exact e1, by rw [es]; exact e2⟩
  refine ⟨fun c c0 c1 q => ?_, fun i i0 i1 => ?_, fun i j i0 ij j1 => ?_, fun i i0 i1 c c0 c1 q => ?_, fun a x y z a0 a1 hx hy hz => ?_, fun j j0 j1 => sn _ _ (by omega) (h6 j j0 j1)⟩
  · have w := wt c q
    rw [eT, eP, w]
    rw [w] at q
    exact h1 c c0 c1 q
  · rw [eT, eP, ec, es]
    exact h2 i i0 i1
  · rw [es, es]
    exact h3 i j i0 ij j1
  · have w := wt c q
    rw [es, w]
    rw [w] at q
    have y := h4 c c0 c1 q
    have y2 := h3 i k i0 (by omega) (by omega)
    omega
  · rw [eT, eP, ec, ec, ec, es, es, es]
    have rx := (h2 x hx.1 hx.2).r
    have ry := (h2 y hy.1 hy.2).r
    have rz := (h2 z hz.1 hz.2).r
    exact sn _ _ (cst_r rx.1 ry.1 rz.1).1 (h5 a a0 a1 x y z ⟨by omega, by omega, by omega⟩)
end
section
variable {d n ac C k : Int} {R : Nat} {M M1 : nM}
/-- as many as there are codes: all are there -/
theorem RE.al {x : Int} (h : RE d R C n ac k x M M) (hd : d = 2 ∨ d = 3) (hT : ∀ a i : Int, 0 ≤ a → a < ac → 0 ≤ i → i < d * d * d → 0 ≤ Tm M a i ∧ Tm M a i < d) (eC : C = dpn d R) (hk : C ≤ k) {c : Int} (cl : Clo d R n ac (Tm M) c) : ∃ i : Int, 0 ≤ i ∧ i < k ∧ cdr n M i = c := by
  obtain ⟨h1, -, -, h4⟩ := h
  have p := dpn_pos hd R
  have e : ((k.toNat : Nat) : Int) = k := by omega
  have r := Clo.r hd hT cl
  have y := Dif.all (g := cdr n M) (m := k.toNat) (N := C.toNat) (P := fun _ => True) (by rw [e]; exact h4) (fun i i0 i1 => by have q := (h1 i i0 (by omega)).1.2; omega) (fun _ _ _ => trivial) (by
    have q : cf (fun _ => bb True) C.toNat = C.toNat := by
      rw [← cf_on C.toNat]
      exact cf_congr _ (fun _ _ _ => bb_t trivial)
    rw [q]
    omega) (c := c) (by omega) trivial
  rw [e] at y
  exact y
/-- the list as the reference keeps it -/
def CLr (d : Int) (R : Nat) (n ac k : Int) (M : nM) : Prop := CL2 d R n ac (Tm M) (Pm M) (cdr n M) (szr n M) k ∧ VSr d R n ac k M ∧ Dif (cdr n M) k
theorem ZR.cl (z : ZR d R C n ac k M) (hd : d = 2 ∨ d = 3) (hT : ∀ a i : Int, 0 ≤ a → a < ac → 0 ≤ i → i < d * d * d → 0 ≤ Tm M a i ∧ Tm M a i < d) (eC : C = dpn d R) (rd : RDn d R C n ac k M M) (nb : ∀ c : Int, 0 ≤ c → c < C → M 125 c ≤ 0) : CLr d R n ac k M := by
  obtain ⟨z1, z2, z3, z4, z5, z6⟩ := z
  have go : ∀ c s : Int, Clo d R n ac (Tm M) c → SNs n k M M c s → ∃ i : Int, 0 ≤ i ∧ i < k ∧ cdr n M i = c ∧ szr n M i ≤ s := fun c s cl q => by
    have r := Clo.r hd hT cl
    rcases q with ⟨q1, -⟩ | ⟨-, i, i0, i1, e1, e2⟩
    · have y := nb c r.1 (by omega)
      omega
    · exact ⟨i, i0, i1, e1, e2⟩
  refine ⟨⟨fun j j0 j1 => go _ _ (Clo.prj j0 j1) (z6 j j0 j1), fun a x y z a0 a1 hx hy hz => go _ _ (Clo.app a0 a1 (z2 x hx.1 hx.2).clo (z2 y hy.1 hy.2).clo (z2 z hz.1 hz.2).clo) (z5 a x y z a0 a1 hx hy hz)⟩, z2, rd.2.2⟩
def LOr (d : Int) (R : Nat) (n ac : Int) (Ms : nM) (N : Int) (M : nM) : Prop := Srt (cdr n M) (szr n M) N ∧ CL2 d R n ac (Tm Ms) (Pm Ms) (cdr n M) (szr n M) N ∧ (∀ i : Int, 0 ≤ i → i < N → VAL d R n ac (Tm Ms) (Pm Ms) (cdr n M i) (szr n M i)) ∧ Dif (cdr n M) N
/-- the same pairs in another order -/
def PMr (n N : Int) (M M1 : nM) : Prop := (∀ i : Int, 0 ≤ i → i < N → ∃ j : Int, 0 ≤ j ∧ j < N ∧ cdr n M1 i = cdr n M j ∧ szr n M1 i = szr n M j) ∧ ∀ i : Int, 0 ≤ i → i < N → ∃ j : Int, 0 ≤ j ∧ j < N ∧ cdr n M1 j = cdr n M i ∧ szr n M1 j = szr n M i
theorem LOr.mk {N : Int} (h : CLr d R n ac N M) (pm : PMr n N M M1) (sr : Srt (cdr n M1) (szr n M1) N) : LOr d R n ac M N M1 := by
  obtain ⟨⟨c1, c2⟩, v, df⟩ := h
  refine ⟨sr, ⟨fun j j0 j1 => ?_, fun a x y z a0 a1 hx hy hz => ?_⟩, fun i i0 i1 => ?_, fun i j i0 i1 j0 j1 e => ?_⟩
  · obtain ⟨i, i0, i1, e1, e2⟩ := c1 j j0 j1
    obtain ⟨q, q0, q1, f1, f2⟩ := pm.2 i i0 i1
    exact ⟨q, q0, q1, by rw [f1]; exact e1, by rw [f2]; exact e2⟩
  · obtain ⟨x2, x0, x1, ex, sx⟩ := pm.1 x hx.1 hx.2
    obtain ⟨y2, y0, y1, ey, sy⟩ := pm.1 y hy.1 hy.2
    obtain ⟨z2, z0, z1, ez, sz⟩ := pm.1 z hz.1 hz.2
    obtain ⟨i, i0, i1, e1, e2⟩ := c2 a x2 y2 z2 a0 a1 ⟨x0, x1⟩ ⟨y0, y1⟩ ⟨z0, z1⟩
    obtain ⟨q, q0, q1, f1, f2⟩ := pm.2 i i0 i1
    exact ⟨q, q0, q1, by rw [f1, ex, ey, ez]; exact e1, by rw [f2, sx, sy, sz]; exact e2⟩
  · obtain ⟨j, j0, j1, e1, e2⟩ := pm.1 i i0 i1
    rw [e1, e2]
    exact v j j0 j1
  · by_cases u : i = j
    · exact u
    · rcases (show i < j ∨ j < i by omega) with w | w
      · have y := sr i j i0 w j1
        obtain ⟨a, a0, a1, e1, e2⟩ := pm.1 i i0 i1
        obtain ⟨b, b0, b1, f1, f2⟩ := pm.1 j j0 j1
        have g := df a b a0 a1 b0 b1 (by rw [← e1, ← f1]; exact e)
        rw [g] at e2
        omega
      · have y := sr j i j0 w i1
        obtain ⟨a, a0, a1, e1, e2⟩ := pm.1 i i0 i1
        obtain ⟨b, b0, b1, f1, f2⟩ := pm.1 j j0 j1
        have g := df a b a0 a1 b0 b1 (by rw [← e1, ← f1]; exact e)
        rw [g] at e2
        omega
end
/-! ordered -/
def vw (f : Int → Int) (k v i : Int) : Int := if i = k then v else f i
theorem vw_k {f : Int → Int} {k v : Int} : vw f k v k = v := if_pos rfl
theorem vw_n {f : Int → Int} {k v i : Int} (h : i ≠ k) : vw f k v i = f i := if_neg h
theorem vw_s {f : Int → Int} {k : Int} : vw f k (f k) = f := funext fun i => by
  by_cases u : i = k
  · rw [u, vw_k]
  · rw [vw_n u]
def PMf (N : Int) (g0 w0 g w : Int → Int) : Prop := (∀ i : Int, 0 ≤ i → i < N → ∃ j : Int, 0 ≤ j ∧ j < N ∧ g i = g0 j ∧ w i = w0 j) ∧ ∀ i : Int, 0 ≤ i → i < N → ∃ j : Int, 0 ≤ j ∧ j < N ∧ g j = g0 i ∧ w j = w0 i
def LTf (g w : Int → Int) (i j : Int) : Prop := w i < w j ∨ (w i = w j ∧ g i < g j)
def SO (g w : Int → Int) (x : Int) : Prop := ∀ a b : Int, 0 ≤ a → a < b → b < x → LTf g w a b
def SO1 (g w : Int → Int) (i k : Int) : Prop := ∀ a b : Int, 0 ≤ a → a < b → b ≤ i → a ≠ k → b ≠ k → LTf g w a b
def SO2 (g w : Int → Int) (c s i k : Int) : Prop := ∀ b : Int, k < b → b ≤ i → s < w b ∨ (s = w b ∧ c < g b)
section
variable {N c s i k : Int} {g0 w0 g w : Int → Int}
theorem PMf.sh (h : PMf N g0 w0 (vw g k c) (vw w k s)) (k0 : 1 ≤ k) (k1 : k < N) : PMf N g0 w0 (vw (vw g k (g (k - 1))) (k - 1) c) (vw (vw w k (w (k - 1))) (k - 1) s) := by
  have f : ∀ q : Int, ∃ p : Int, ((q = k ∧ p = k - 1) ∨ (q = k - 1 ∧ p = k) ∨ (q ≠ k ∧ q ≠ k - 1 ∧ p = q)) ∧ vw (vw g k (g (k - 1))) (k - 1) c q = vw g k c p ∧ vw (vw w k (w (k - 1))) (k - 1) s q = vw w k s p := fun q => by
    by_cases u : q = k - 1
    · exact ⟨k, by omega, by rw [u, vw_k, vw_k], by rw [u, vw_k, vw_k]⟩
    · by_cases v : q = k
      · refine ⟨k - 1, by omega, ?_, ?_⟩
        · rw [vw_n u, v, vw_k, vw_n (by omega)]
        · rw [vw_n u, v, vw_k, vw_n (by omega)]
      · exact ⟨q, by omega, by rw [vw_n u, vw_n v, vw_n v], by rw [vw_n u, vw_n v, vw_n v]⟩
  have b : ∀ p : Int, ∃ q : Int, ((q = k ∧ p = k - 1) ∨ (q = k - 1 ∧ p = k) ∨ (q ≠ k ∧ q ≠ k - 1 ∧ p = q)) ∧ vw (vw g k (g (k - 1))) (k - 1) c q = vw g k c p ∧ vw (vw w k (w (k - 1))) (k - 1) s q = vw w k s p := fun p => by
    by_cases u : p = k - 1
    · obtain ⟨p2, q, e1, e2⟩ := f k
      have : p2 = k - 1 := by omega
      subst this
      exact ⟨k, by omega, by rw [u]; exact e1, by rw [u]; exact e2⟩
    · by_cases v : p = k
      · obtain ⟨p2, q, e1, e2⟩ := f (k - 1)
        have : p2 = k := by omega
        subst this
        exact ⟨p2 - 1, by omega, by rw [v]; exact e1, by rw [v]; exact e2⟩
      · obtain ⟨p2, q, e1, e2⟩ := f p
        have : p2 = p := by omega
        subst this
        exact ⟨p2, by omega, e1, e2⟩
  refine ⟨fun q q0 q1 => ?_, fun q q0 q1 => ?_⟩
  · obtain ⟨p, r, e1, e2⟩ := f q
    obtain ⟨j, j0, j1, a1, a2⟩ := h.1 p (by omega) (by omega)
    exact ⟨j, j0, j1, e1.trans a1, e2.trans a2⟩
  · obtain ⟨j, j0, j1, a1, a2⟩ := h.2 q q0 q1
    obtain ⟨p, r, e1, e2⟩ := b j
    exact ⟨p, by omega, by omega, e1.trans a1, e2.trans a2⟩
theorem SO1.sh (h : SO1 g w i k) (k0 : 1 ≤ k) : SO1 (vw g k (g (k - 1))) (vw w k (w (k - 1))) i (k - 1) := fun a b a0 ab b1 an bn => by
  unfold LTf
  by_cases u : a = k
  · rw [u, vw_k, vw_k, vw_n (by omega), vw_n (by omega)]
    exact h (k - 1) b (by omega) (by omega) b1 (by omega) (by omega)
  · by_cases v : b = k
    · rw [v, vw_k, vw_k, vw_n u, vw_n u]
      exact h a (k - 1) a0 (by omega) (by omega) u (by omega)
    · rw [vw_n u, vw_n u, vw_n v, vw_n v]
      exact h a b a0 ab b1 u v
theorem SO2.sh (h : SO2 g w c s i k) (q : s < w (k - 1) ∨ (s = w (k - 1) ∧ c < g (k - 1))) : SO2 (vw g k (g (k - 1))) (vw w k (w (k - 1))) c s i (k - 1) := fun b b0 b1 => by
  by_cases u : b = k
  · rw [u, vw_k, vw_k]
    exact q
  · rw [vw_n u, vw_n u]
    exact h b (by omega) b1
theorem SO.fin (h1 : SO1 g w i k) (h2 : SO2 g w c s i k) (q : 1 ≤ k → w (k - 1) < s ∨ (w (k - 1) = s ∧ g (k - 1) < c)) : SO (vw g k c) (vw w k s) (i + 1) := fun a b a0 ab b1 => by
  unfold LTf
  by_cases u : a = k
  · rw [u, vw_k, vw_k, vw_n (by omega), vw_n (by omega)]
    exact h2 b (by omega) (by omega)
  · by_cases v : b = k
    · rw [v, vw_k, vw_k, vw_n u, vw_n u]
      have y := q (by omega)
      by_cases w2 : a = k - 1
      · rw [w2]
        exact y
      · have z := h1 a (k - 1) a0 (by omega) (by omega) u (by omega)
        unfold LTf at z
        omega
    · rw [vw_n u, vw_n u, vw_n v, vw_n v]
      exact h1 a b a0 ab (by omega) u v
/-- no two codes are the same -/
theorem Dif.sh (h : Dif (vw g k c) N) (k0 : 1 ≤ k) (k1 : k < N) : Dif (vw (vw g k (g (k - 1))) (k - 1) c) N := fun x y x0 x1 y0 y1 e => by
  have f : ∀ q : Int, ∃ p : Int, ((q = k ∧ p = k - 1) ∨ (q = k - 1 ∧ p = k) ∨ (q ≠ k ∧ q ≠ k - 1 ∧ p = q)) ∧ vw (vw g k (g (k - 1))) (k - 1) c q = vw g k c p := fun q => by
    by_cases u : q = k - 1
    · exact ⟨k, by omega, by rw [u, vw_k, vw_k]⟩
    · by_cases v : q = k
      · refine ⟨k - 1, by omega, ?_⟩
        rw [vw_n u, v, vw_k, vw_n (by omega)]
      · exact ⟨q, by omega, by rw [vw_n u, vw_n v, vw_n v]⟩
  obtain ⟨p, r, e1⟩ := f x
  obtain ⟨p2, r2, e2⟩ := f y
  rw [e1, e2] at e
  have q := h p p2 (by omega) (by omega) (by omega) (by omega) e
  omega
theorem Dif.nk (h : Dif (vw g k c) N) (k0 : 1 ≤ k) (k1 : k < N) : g (k - 1) ≠ c := fun e => by
  have q := h (k - 1) k (by omega) (by omega) (by omega) k1 (by rw [vw_k, vw_n (by omega)]; exact e)
  omega
end
theorem cdr_w {n k j v j2 v2 : Int} {M M1 M2 : nM} (e1 : M1 = nu M 122 j v) (e2 : M2 = nu M1 123 j2 v2) (ej : j = 256 * n + k) (ej2 : j2 = 256 * n + k) : cdr n M2 = vw (cdr n M) k v ∧ szr n M2 = vw (szr n M) k v2 := by
  refine ⟨funext fun i => ?_, funext fun i => ?_⟩
  · unfold cdr
    rw [e2, nu_a (by omega), e1]
    by_cases u : i = k
    · rw [u, ej, nu_s, vw_k]
    · rw [nu_i (by omega), vw_n u]
  · unfold szr
    rw [e2]
    by_cases u : i = k
    · rw [u, ej2, nu_s, vw_k]
    · rw [nu_i (by omega), e1, nu_a (by omega), vw_n u]
theorem Pm_f5 {n : Int} {M M1 : nM} (h : F5 n M M1) : Pm M1 = Pm M := Pm_of (fun a i q1 q2 => h a i (by omega) (by omega) (by omega) (by omega) (by omega))
theorem NEWz.mk {n k b j v s : Int} {M M1 M2 : nM} (e1 : M1 = nu M 122 j v) (e2 : M2 = nu M1 123 (256 * n + k) s) (es : s = M 125 b - 1) : NEWz n k b M M2 := by
  refine ⟨?_, fun i q => by rw [e2, nu_i q, e1, nu_a (by omega)]⟩
  unfold szr
  rw [e2, nu_s]
  exact es
theorem NEWz.st {n k b j v : Int} {M M1 M2 : nM} (h : NEWz n k b M M1) (e : M2 = nu M1 126 j v) : NEWz n k b M M2 := by
  refine ⟨?_, fun i q => by rw [e, nu_a (by omega)]; exact h.2 i q⟩
  have y := h.1
  unfold szr at y ⊢
  rw [e, nu_a (by omega)]
  exact y
theorem LOr.ch {d n ac N : Int} {R : Nat} {Ms Mt M : nM} (h : LOr d R n ac Mt N M) (eT : Tm Mt = Tm Ms) (eP : Pm Mt = Pm Ms) : LOr d R n ac Ms N M := by
  unfold LOr at *
  rw [eT, eP] at h
  exact h
theorem PMr.l {n N : Int} {M Mt M1 : nM} (h : PMr n N Mt M1) (e1 : cdr n Mt = cdr n M) (e2 : szr n Mt = szr n M) : PMr n N M M1 := by
  unfold PMr at *
  rw [e1, e2] at h
  exact h
def LOa (d : Int) (R : Nat) (n ac : Int) (Ms : nM) (q : Int) (M : nM) : Prop := (M q 1 = 0 → LO d R n ac Ms q (M q 2) M) ∧ (M q 1 = 1 → M q 2 = 0)
def cMO (q i w z : Int) (M : nM) : Prop := ((w ≠ 0 ∧ w ≠ 1) ∧ z = -1) ∨ ((w = 0 ∨ w = 1) ∧ (i < 0 ∨ M q 2 ≤ i) ∧ z = -1) ∨ (0 ≤ i ∧ i < M q 2 ∧ ((w = 0 ∧ z = M (q + 1) i) ∨ (w = 1 ∧ z = M (q + 2) i)))
def mMO (n i w z : Int) (M : nM) : Prop := ((i < 0 ∨ M 124 n ≤ i) ∧ z = -1) ∨ (0 ≤ i ∧ i < M 124 n ∧ ((w = 0 ∧ z = M 122 (256 * n + i)) ∨ (w = 1 ∧ z = M 123 (256 * n + i)) ∨ (w ≠ 0 ∧ w ≠ 1 ∧ z = -1)))
