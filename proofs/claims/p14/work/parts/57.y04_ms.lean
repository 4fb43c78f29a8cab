/-! Sizes: what is made with how many signs. -/
def kap (x : Int) : Int := if x ≤ 1000000 then x else 1000000
def cst (k sx sy sz : Int) : Int := kap (1 + (if k = 3 then sx else 0) + (if 2 ≤ k then sy else 0) + sz)
theorem kap_le {x : Int} : kap x ≤ x ∧ kap x ≤ 1000000 := by
  unfold kap
  split <;> omega
theorem kap_mo {x y : Int} (h : x ≤ y) : kap x ≤ kap y := by
  unfold kap
  split <;> split <;> omega
theorem kap_ge {x y : Int} (h : y ≤ x) (h2 : y ≤ 1000000) : y ≤ kap x := by
  unfold kap
  split <;> omega
theorem cst_mo {k a b c x y z : Int} (h1 : a ≤ x) (h2 : b ≤ y) (h3 : c ≤ z) : cst k a b c ≤ cst k x y z := by
  refine kap_mo ?_
  split <;> split <;> omega
theorem cst_r {k x y z : Int} (h1 : 0 ≤ x) (h2 : 0 ≤ y) (h3 : 0 ≤ z) : 0 ≤ cst k x y z ∧ cst k x y z ≤ 1000000 := by
  refine ⟨kap_ge ?_ (by omega), kap_le.2⟩
  split <;> split <;> omega
/-- c is made with the size s -/
def VAL (d : Int) (R : Nat) (n ac : Int) (T : Int → Int → Int) (P : Int → Int) (c s : Int) : Prop := ∀ Q : Int → Int → Prop, (∀ j : Int, 0 ≤ j → j < n → Q (mpj d R j) 0) → (∀ a x y z sx sy sz : Int, 0 ≤ a → a < ac → Q x sx → Q y sy → Q z sz → Q (mcm d R (T a) x y z) (cst (P a) sx sy sz)) → Q c s
section
variable {d n ac : Int} {R : Nat} {T : Int → Int → Int} {P : Int → Int}
theorem VAL.prj {j : Int} (h0 : 0 ≤ j) (h1 : j < n) : VAL d R n ac T P (mpj d R j) 0 := fun _ hp _ => hp j h0 h1
theorem VAL.app {a x y z sx sy sz : Int} (h0 : 0 ≤ a) (h1 : a < ac) (hx : VAL d R n ac T P x sx) (hy : VAL d R n ac T P y sy) (hz : VAL d R n ac T P z sz) : VAL d R n ac T P (mcm d R (T a) x y z) (cst (P a) sx sy sz) := fun Q hp ha => ha a x y z sx sy sz h0 h1 (hx Q hp ha) (hy Q hp ha) (hz Q hp ha)
theorem VAL.clo {c s : Int} (h : VAL d R n ac T P c s) : Clo d R n ac T c := h (fun c _ => Clo d R n ac T c) (fun _ j0 j1 => Clo.prj j0 j1) (fun _ _ _ _ _ _ _ a0 a1 hx hy hz => Clo.app a0 a1 hx hy hz)
theorem VAL.r {c s : Int} (h : VAL d R n ac T P c s) : 0 ≤ s ∧ s ≤ 1000000 := h (fun _ s => 0 ≤ s ∧ s ≤ 1000000) (fun _ _ _ => by omega) (fun _ _ _ _ _ _ _ _ _ hx hy hz => cst_r hx.1 hy.1 hz.1)
theorem Clo.val {c : Int} (h : Clo d R n ac T c) : ∃ s : Int, VAL d R n ac T P c s := h (fun c => ∃ s : Int, VAL d R n ac T P c s) (fun _ j0 j1 => ⟨0, VAL.prj j0 j1⟩) (fun _ _ _ _ a0 a1 ⟨_, hx⟩ ⟨_, hy⟩ ⟨_, hz⟩ => ⟨_, VAL.app a0 a1 hx hy hz⟩)
/-- a list that is closed, sizes too, has all of them with the least sizes -/
def CL2 (d : Int) (R : Nat) (n ac : Int) (T : Int → Int → Int) (P : Int → Int) (g w : Int → Int) (m : Int) : Prop := (∀ j : Int, 0 ≤ j → j < n → ∃ i : Int, 0 ≤ i ∧ i < m ∧ g i = mpj d R j ∧ w i ≤ 0) ∧ ∀ a x y z : Int, 0 ≤ a → a < ac → (0 ≤ x ∧ x < m) → (0 ≤ y ∧ y < m) → (0 ≤ z ∧ z < m) → ∃ i : Int, 0 ≤ i ∧ i < m ∧ g i = mcm d R (T a) (g x) (g y) (g z) ∧ w i ≤ cst (P a) (w x) (w y) (w z)
theorem CL2.ge {g w : Int → Int} {m c s : Int} (h : CL2 d R n ac T P g w m) (v : VAL d R n ac T P c s) : ∃ i : Int, 0 ≤ i ∧ i < m ∧ g i = c ∧ w i ≤ s := v (fun c s => ∃ i : Int, 0 ≤ i ∧ i < m ∧ g i = c ∧ w i ≤ s) h.1 (fun a x y z sx sy sz a0 a1 ⟨i, i0, i1, ei, wi⟩ ⟨j, j0, j1, ej, wj⟩ ⟨k, k0, k1, ek, wk⟩ => by
  obtain ⟨q, q0, q1, eq, wq⟩ := h.2 a i j k a0 a1 ⟨i0, i1⟩ ⟨j0, j1⟩ ⟨k0, k1⟩
  rw [ei, ej, ek] at eq
  exact ⟨q, q0, q1, eq, Int.le_trans wq (cst_mo wi wj wk)⟩)
/-- two such lists, each with its own sizes: the same pairs -/
theorem CL2.sub {g w g2 w2 : Int → Int} {m m2 i : Int} (h : CL2 d R n ac T P g w m) (h2 : CL2 d R n ac T P g2 w2 m2) (v : ∀ i : Int, 0 ≤ i → i < m → VAL d R n ac T P (g i) (w i)) (v2 : ∀ i : Int, 0 ≤ i → i < m2 → VAL d R n ac T P (g2 i) (w2 i)) (df : Dif g m) (i0 : 0 ≤ i) (i1 : i < m) : ∃ j : Int, 0 ≤ j ∧ j < m2 ∧ g2 j = g i ∧ w2 j = w i := by
  obtain ⟨j, j0, j1, e, le⟩ := h2.ge (v i i0 i1)
  obtain ⟨k, k0, k1, e2, le2⟩ := h.ge (v2 j j0 j1)
  have q := df k i k0 k1 i0 i1 (e2.trans e)
  rw [q] at le2
  exact ⟨j, j0, j1, e, Int.le_antisymm le le2⟩
end
/-- in order: by sizes, then by codes -/
def Srt (g w : Int → Int) (m : Int) : Prop := ∀ i j : Int, 0 ≤ i → i < j → j < m → w i < w j ∨ (w i = w j ∧ g i < g j)
theorem Srt.eq {g w g2 w2 : Int → Int} {m : Int} (h : Srt g w m) (h2 : Srt g2 w2 m) (s1 : ∀ i : Int, 0 ≤ i → i < m → ∃ j : Int, 0 ≤ j ∧ j < m ∧ g2 j = g i ∧ w2 j = w i) (s2 : ∀ i : Int, 0 ≤ i → i < m → ∃ j : Int, 0 ≤ j ∧ j < m ∧ g j = g2 i ∧ w j = w2 i) : ∀ i : Int, 0 ≤ i → i < m → g i = g2 i ∧ w i = w2 i := by
  have go : ∀ k : Nat, ∀ i : Int, 0 ≤ i → i < k → i < m → g i = g2 i ∧ w i = w2 i := by
    intro k
    induction k with
    | zero => intro i i0 i1; omega
    | succ k ih =>
      intro i i0 i1 i2
      obtain ⟨j, j0, j1, a1, a2⟩ := s1 i i0 i2
      obtain ⟨q, q0, q1, b1, b2⟩ := s2 i i0 i2
      have jl : i ≤ j := by
        by_cases u : j < i
        · have y := ih j j0 (by omega) j1
          have z := h j i j0 u i2
          omega
        · omega
      have ql : i ≤ q := by
        by_cases u : q < i
        · have y := ih q q0 (by omega) q1
          have z := h2 q i q0 u i2
          omega
        · omega
      by_cases u : j = i
      · rw [u] at a1 a2
        exact ⟨a1.symm, a2.symm⟩
      · by_cases v : q = i
        · rw [v] at b1 b2
          exact ⟨b1, b2⟩
        · have y := h2 i j i0 (by omega) j1
          have z := h i q i0 (by omega) q1
          omega
  intro i i0 i1
  exact go (i.toNat + 1) i i0 (by omega) i1
