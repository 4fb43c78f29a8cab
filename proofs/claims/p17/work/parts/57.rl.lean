/-- what is of the smaller core is of this one -/
def coreL (a i : Int) : Prop := (a = 3 ∧ (i = 14 ∨ i = 15)) ∨ (4 ≤ a ∧ a ≤ 11) ∨ (a = 32 ∧ (i = 0 ∨ i = 1)) ∨ (33 ≤ a ∧ a ≤ 36) ∨ (55 ≤ a ∧ a ≤ 102) ∨ (a = 112 ∧ (i = 0 ∨ i = 4 ∨ i = 7 ∨ i = 10 ∨ i = 11)) ∨ (113 ≤ a ∧ a ≤ 121)
theorem core_l {a i : Int} (h : coreL a i) : core a i := by
  unfold coreL at h
  unfold core
  rcases h with h | h | h | h | h | h | h
  · exact Or.inl h
  · exact Or.inr (Or.inl h)
  · exact Or.inr (Or.inr (Or.inl h))
  · exact Or.inr (Or.inr (Or.inr (Or.inl h)))
  · exact Or.inr (Or.inr (Or.inr (Or.inr (Or.inl h))))
  · exact Or.inr (Or.inr (Or.inr (Or.inr (Or.inr (Or.inl h)))))
  · exact Or.inr (Or.inr (Or.inr (Or.inr (Or.inr (Or.inr (Or.inl h))))))
/-! The core on both sides: the class's and the reference's slots, acts, laws, riddle tell the same. -/
def Eqc (M M1 : nM) : Prop := ∀ a i : Int, core a i → M1 a i = M a i
def pw (d k : Int) : Int := if k = 1 then d else if k = 2 then d * d else d * d * d
theorem pw_r {d k : Int} (hd : d = 2 ∨ d = 3) (hk : 1 ≤ k ∧ k ≤ 3) : 2 ≤ pw d k ∧ pw d k ≤ d * d * d ∧ d * d * d ≤ 27 := by
  rcases hd with rfl | rfl <;> rcases (show k = 1 ∨ k = 2 ∨ k = 3 by omega) with rfl | rfl | rfl <;> exact ⟨by decide, by decide, by decide⟩
def rdok (d len : Int) (f : Int → Int) (j : Int) : Prop := j < len ∧ 0 ≤ f j ∧ f j ≤ d - 1
def rdf (d len : Int) (f : Int → Int) (lo hi z : Int) : Prop := ∃ j : Int, lo ≤ j ∧ j < hi ∧ (∀ i : Int, lo ≤ i → i < j → rdok d len f i) ∧ ((len ≤ j ∧ z = -6) ∨ (j < len ∧ (f j < 0 ∨ d - 1 < f j) ∧ z = -4))
theorem rdf.uniq {d len lo hi z z2 : Int} {f f2 : Int → Int} (h : rdf d len f lo hi z) (h2 : rdf d len f2 lo hi z2) (e : ∀ i : Int, lo ≤ i → i < len → f i = f2 i) : z = z2 := by
  obtain ⟨j, j1, j2, j3, j4⟩ := h
  obtain ⟨k, k1, k2, k3, k4⟩ := h2
  rcases (show j < k ∨ j = k ∨ k < j by omega) with q | rfl | q
  · obtain ⟨u1, u2, u3⟩ := k3 j j1 q
    have := e j j1 u1
    omega
  · rcases j4 with ⟨a1, a2⟩ | ⟨a1, a2, a3⟩ <;> rcases k4 with ⟨b1, b2⟩ | ⟨b1, b2, b3⟩ <;> omega
  · obtain ⟨u1, u2, u3⟩ := j3 k k1 q
    have := e k k1 u1
    omega
theorem rdf.no {d len lo hi z : Int} {f f2 : Int → Int} (h : rdf d len f lo hi z) (h2 : ∀ i : Int, lo ≤ i → i < hi → rdok d len f2 i) (e : ∀ i : Int, lo ≤ i → i < len → f i = f2 i) : False := by
  obtain ⟨j, j1, j2, j3, j4⟩ := h
  obtain ⟨u1, u2, u3⟩ := h2 j j1 j2
  have := e j j1 u1
  omega
theorem rdf.neg {d len lo hi z : Int} {f : Int → Int} (h : rdf d len f lo hi z) : z = -6 ∨ z = -4 := by
  obtain ⟨j, j1, j2, j3, j4⟩ := h
  omega
def c3 (f : Int → Int) : Nat → Int
  | 0 => 0
  | n + 1 => c3 f n + (if f n = 3 then 1 else 0)
theorem c3_step {f : Int → Int} {x : Int} (h : 0 ≤ x) : c3 f (x + 1).toNat = c3 f x.toNat + (if f x = 3 then 1 else 0) := by
  obtain ⟨n, rfl⟩ : ∃ n : Nat, x = n := ⟨x.toNat, by omega⟩
  have e : ((n : Int) + 1).toNat = n + 1 := by omega
  rw [e, Int.toNat_natCast]
  rfl
theorem c3_congr {f g : Int → Int} : ∀ n : Nat, (∀ i : Int, 0 ≤ i → i < n → f i = g i) → c3 f n = c3 g n := by
  intro n
  induction n with
  | zero => intro _; rfl
  | succ n ih =>
    intro h
    show c3 f n + (if f n = 3 then 1 else 0) = c3 g n + (if g n = 3 then 1 else 0)
    rw [ih (fun i h0 h1 => h i h0 (by omega)), h n (by omega) (by omega)]
def tr (d i : Int) : Int := (i / (d * d) * d + i % d) * d + i / d % d
/-- an act of k places with r rows, at the cells p .. p + 2, told by f -/
def NAct (d k r p : Int) (f : Int → Int) (M : nM) : Prop := M p 0 = k ∧ M p 1 = r ∧ ∀ i : Int, 0 ≤ i → i < d * d * d → M (p + 1) i = f (i % r) ∧ M (p + 2) i = M (p + 1) (tr d i)
def RLs (M : nM) : Prop := ∀ s : Int, 0 ≤ s → s < 8 → M 11 s + 1 = M 113 s ∧ M 10 s = M 114 s ∧ ∀ i : Int, 0 ≤ i → i < M 11 s → M 9 (40 * s + i) = M 115 (40 * s + i)
def RLa (d : Int) (M : nM) : Prop := M 3 14 = M 112 4 ∧ c3 (fun a => M (55 + 3 * a) 0) (M 3 14).toNat ≤ 2 ∧ ∀ a : Int, 0 ≤ a → a < M 3 14 → (1 ≤ M 116 a ∧ M 116 a ≤ 3) ∧ NAct d (M 116 a) (pw d (M 116 a)) (55 + 3 * a) (fun i => M 117 (27 * a + i)) M
def RLl (M : nM) : Prop := M 3 15 = M 112 7 ∧ ∀ l : Int, 0 ≤ l → l < M 3 15 → M (79 + 2 * l) 0 = M 118 l ∧ M (79 + 2 * l) 1 = M 119 l
def RLr (M : nM) : Prop := M 32 0 = M 112 10 ∧ M 32 1 = M 112 11
def RL (d : Int) (M : nM) : Prop := RLs M ∧ RLa d M ∧ RLl M ∧ RLr M
section
variable {d ac : Int} {M0 M M1 M2 : nM}
theorem RLs.of (h : RLs M) (e : ∀ a i : Int, (9 ≤ a ∧ a ≤ 11) ∨ (113 ≤ a ∧ a ≤ 115) → M2 a i = M a i) : RLs M2 := fun s h0 h1 => by
  obtain ⟨g1, g2, g3⟩ := h s h0 h1
  rw [e 11 s (by omega), e 113 s (by omega), e 10 s (by omega), e 114 s (by omega)]
  refine ⟨g1, g2, fun i q0 q1 => ?_⟩
  rw [e 9 _ (by omega), e 115 _ (by omega)]
  exact g3 i q0 q1
theorem tr_r {d i : Int} (hd : d = 2 ∨ d = 3) (h : 0 ≤ i ∧ i < d * d * d) : 0 ≤ tr d i ∧ tr d i < d * d * d := by
  unfold tr
  rcases hd with rfl | rfl <;> omega
theorem NAct.of {k r p : Int} {f g : Int → Int} (hd : d = 2 ∨ d = 3) (hr : 0 < r) (h : NAct d k r p f M) (e : ∀ a i : Int, p ≤ a → a ≤ p + 2 → ¬ (a = p ∧ 2 ≤ i) → M2 a i = M a i) (ef : ∀ i : Int, 0 ≤ i → i < r → g i = f i) : NAct d k r p g M2 := by
  obtain ⟨h1, h2, h3⟩ := h
  refine ⟨by rw [e p 0 (by omega) (by omega) (by omega)]; exact h1, by rw [e p 1 (by omega) (by omega) (by omega)]; exact h2, fun i h0 hi => ?_⟩
  obtain ⟨g1, g2⟩ := h3 i h0 hi
  rw [e (p + 1) i (by omega) (by omega) (by omega), e (p + 2) i (by omega) (by omega) (by omega), e (p + 1) (tr d i) (by omega) (by omega) (by omega), ef _ (Int.emod_nonneg _ (by omega)) (Int.emod_lt_of_pos _ hr)]
  exact ⟨g1, g2⟩
theorem RLa.of (h : RLa d M) (hd : d = 2 ∨ d = 3) (hb : M 3 14 ≤ 8) (e : ∀ a i : Int, (a = 3 ∧ i = 14) ∨ (a = 112 ∧ i = 4) ∨ (55 ≤ a ∧ a < 55 + 3 * M 3 14) ∨ (a = 116 ∧ i < M 3 14) ∨ (a = 117 ∧ i < 27 * M 3 14) → M2 a i = M a i) : RLa d M2 := by
  obtain ⟨g, gc, h⟩ := h
  have e14 := e 3 14 (by omega)
  refine ⟨by rw [e14, e 112 4 (by omega)]; exact g, ?_, fun a h0 h1 => ?_⟩
  · rw [e14, c3_congr (g := fun a => M (55 + 3 * a) 0) _ (fun i h0 h1 => e (55 + 3 * i) 0 (by omega))]
    exact gc
  rw [e14] at h1
  obtain ⟨g1, g2⟩ := h a h0 h1
  have hp := pw_r hd g1
  rw [e 116 a (by omega)]
  exact ⟨g1, g2.of hd (by omega) (fun b i q1 q2 _ => e b i (by omega)) (fun i q0 q1 => e 117 _ (by omega))⟩
theorem RLl.of (h : RLl M) (hb : M 3 15 ≤ 12) (e : ∀ a i : Int, (a = 3 ∧ i = 15) ∨ (a = 112 ∧ i = 7) ∨ (79 ≤ a ∧ a ≤ 102) ∨ a = 118 ∨ a = 119 → M2 a i = M a i) : RLl M2 := by
  obtain ⟨g, h⟩ := h
  refine ⟨by rw [e 3 15 (by omega), e 112 7 (by omega)]; exact g, fun l h0 h1 => ?_⟩
  rw [e 3 15 (by omega)] at h1
  obtain ⟨g1, g2⟩ := h l h0 h1
  rw [e (79 + 2 * l) 0 (by omega), e (79 + 2 * l) 1 (by omega), e 118 l (by omega), e 119 l (by omega)]
  exact ⟨g1, g2⟩
theorem RLr.of (h : RLr M) (e : ∀ a i : Int, (a = 32 ∧ (i = 0 ∨ i = 1)) ∨ (a = 112 ∧ (i = 10 ∨ i = 11)) → M2 a i = M a i) : RLr M2 := by
  unfold RLr
  rw [e 32 0 (by omega), e 32 1 (by omega), e 112 10 (by omega), e 112 11 (by omega)]
  exact h
theorem RL.of (h : RL d M) (hd : d = 2 ∨ d = 3) (hS : Sf d ac M0 M) (e : Eqc M M2) : RL d M2 := by
  have b1 := t_3_14x hS
  have b2 := t_3_15 hS
  obtain ⟨h1, h2, h3, h4⟩ := h
  exact ⟨h1.of (fun a i q => e a i (core_l (by unfold coreL; omega))), h2.of hd (by omega) (fun a i q => e a i (core_l (by unfold coreL; omega))), h3.of (by omega) (fun a i q => e a i (core_l (by unfold coreL; omega))), h4.of (fun a i q => e a i (core_l (by unfold coreL; omega)))⟩
end
/-! rows of numbers -/
def cRow (s w n z : Int) (M M1 : nM) : Prop := ((s < 0 ∨ 7 < s ∨ w < 0 ∨ 3 < w ∨ 40 < n) ∧ z = -2 ∧ Eqc M M1) ∨ (0 ≤ s ∧ s ≤ 7 ∧ 0 ≤ w ∧ w ≤ 3 ∧ n < 0 ∧ z = -3 ∧ Eqc M M1)
  ∨ (0 ≤ s ∧ s ≤ 7 ∧ 0 ≤ w ∧ w ≤ 3 ∧ 0 ≤ n ∧ n ≤ 40 ∧ z = 0 ∧ M1 11 s = n ∧ M1 10 s = w ∧ (∀ i : Int, 0 ≤ i → i < 40 → M1 9 (40 * s + i) = 0) ∧ ∀ a i : Int, core a i → ¬ (a = 11 ∧ i = s) → ¬ (a = 10 ∧ i = s) → ¬ (a = 9 ∧ 40 * s ≤ i ∧ i < 40 * s + 40) → M1 a i = M a i)
def mRow (s w n z : Int) (M M1 : nM) : Prop := ((s < 0 ∨ 7 < s ∨ w < 0 ∨ 3 < w ∨ 40 < n) ∧ z = -2 ∧ Eqc M M1) ∨ (0 ≤ s ∧ s ≤ 7 ∧ 0 ≤ w ∧ w ≤ 3 ∧ n < 0 ∧ z = -3 ∧ Eqc M M1)
  ∨ (0 ≤ s ∧ s ≤ 7 ∧ 0 ≤ w ∧ w ≤ 3 ∧ 0 ≤ n ∧ n ≤ 40 ∧ z = 0 ∧ M1 113 s = n + 1 ∧ M1 114 s = w ∧ (∀ i : Int, 0 ≤ i → i < n → M1 115 (40 * s + i) = 0) ∧ ∀ a i : Int, core a i → ¬ (a = 113 ∧ i = s) → ¬ (a = 114 ∧ i = s) → ¬ (a = 115 ∧ 40 * s ≤ i ∧ i < 40 * s + 40) → M1 a i = M a i)
def LayP (s w n k : Int) (Ms M : nM) : Prop := M 11 s = n ∧ M 10 s = w ∧ (∀ i : Int, 0 ≤ i → i < k → M 9 (40 * s + i) = 0) ∧ ∀ a i : Int, core a i → ¬ (a = 11 ∧ i = s) → ¬ (a = 10 ∧ i = s) → ¬ (a = 9 ∧ 40 * s ≤ i ∧ i < 40 * s + 40) → M a i = Ms a i
theorem LayP.init {s w n : Int} {Ms M1 M2 : nM} (e1 : M1 = nu Ms 10 s w) (e2 : M2 = nu M1 11 s n) : LayP s w n 0 Ms M2 := by
  subst e1 e2
  refine ⟨nu_s _ _ _ _, by rw [nu_a (by omega), nu_s], fun i h0 h1 => by omega, fun a i hc h1 h2 h3 => ?_⟩
  rw [nu_e, if_neg h1, nu_e, if_neg h2]
theorem LayP.step {s w n k j : Int} {Ms M M2 : nM} (h : LayP s w n k Ms M) (hk : 0 ≤ k ∧ k < 40) (hj : j = 40 * s + k) (e : M2 = nu M 9 j 0) : LayP s w n (k + 1) Ms M2 := by
  subst e
  obtain ⟨h1, h2, h3, h4⟩ := h
  refine ⟨by rw [nu_a (by omega)]; exact h1, by rw [nu_a (by omega)]; exact h2, fun i q0 q1 => ?_, fun a i hc p1 p2 p3 => ?_⟩
  · rw [nu_e]
    split
    · rfl
    · exact h3 i q0 (by omega)
  · rw [nu_e, if_neg (by omega)]
    exact h4 a i hc p1 p2 p3
def RowP (s w n k : Int) (Ms M : nM) : Prop := M 113 s = n + 1 ∧ M 114 s = w ∧ (∀ i : Int, 0 ≤ i → i < k → M 115 (40 * s + i) = 0) ∧ ∀ a i : Int, core a i → ¬ (a = 113 ∧ i = s) → ¬ (a = 114 ∧ i = s) → ¬ (a = 115 ∧ 40 * s ≤ i ∧ i < 40 * s + 40) → M a i = Ms a i
theorem RowP.init {s w n : Int} {Ms M1 M2 : nM} (e1 : M1 = nu Ms 113 s (n + 1)) (e2 : M2 = nu M1 114 s w) : RowP s w n 0 Ms M2 := by
  subst e1 e2
  refine ⟨by rw [nu_a (by omega), nu_s], nu_s _ _ _ _, fun i h0 h1 => by omega, fun a i hc h1 h2 h3 => ?_⟩
  rw [nu_e, if_neg h2, nu_e, if_neg h1]
theorem RowP.step {s w n k j : Int} {Ms M M2 : nM} (h : RowP s w n k Ms M) (hk : 0 ≤ k ∧ k < 40) (hj : j = 40 * s + k) (e : M2 = nu M 115 j 0) : RowP s w n (k + 1) Ms M2 := by
  subst e
  obtain ⟨h1, h2, h3, h4⟩ := h
  refine ⟨by rw [nu_a (by omega)]; exact h1, by rw [nu_a (by omega)]; exact h2, fun i q0 q1 => ?_, fun a i hc p1 p2 p3 => ?_⟩
  · rw [nu_e]
    split
    · rfl
    · exact h3 i q0 (by omega)
  · rw [nu_e, if_neg (by omega)]
    exact h4 a i hc p1 p2 p3
theorem Eqc.tr {M M1 M2 : nM} (h : Eqc M M1) (h2 : Eqc M1 M2) : Eqc M M2 := fun a i c => (h2 a i c).trans (h a i c)
theorem RL.row {d ac s w n z z2 : Int} {M0 M M1 M2 : nM} (hd : d = 2 ∨ d = 3) (h : RL d M) (hS : Sf d ac M0 M) (c : cRow s w n z M M1) (r : mRow s w n z2 M1 M2) : RL d M2 ∧ z = z2 := by
  have b1 := t_3_14x hS
  have b2 := t_3_15 hS
  rcases c with ⟨p, rfl, e⟩ | ⟨p1, p2, p3, p4, p5, rfl, e⟩ | ⟨p1, p2, p3, p4, p5, p6, rfl, c1, c2, c3, c4⟩
  · rcases r with ⟨q, rfl, f⟩ | ⟨q1, q2, q3, q4, q5, rfl, f⟩ | ⟨q1, q2, q3, q4, q5, q6, rfl, r1⟩
    · exact ⟨h.of hd hS (e.tr f), rfl⟩
    · omega
    · omega
  · rcases r with ⟨q, rfl, f⟩ | ⟨q1, q2, q3, q4, q5, rfl, f⟩ | ⟨q1, q2, q3, q4, q5, q6, rfl, r1⟩
    · omega
    · exact ⟨h.of hd hS (e.tr f), rfl⟩
    · omega
  · rcases r with ⟨q, rfl, f⟩ | ⟨q1, q2, q3, q4, q5, rfl, f⟩ | ⟨q1, q2, q3, q4, q5, q6, rfl, r1, r2, r3, r4⟩
    · omega
    · omega
    · obtain ⟨g1, g2, g3, g4⟩ := h
      have e : ∀ a i : Int, core a i → (a < 9 ∨ 11 < a) → (a < 113 ∨ 115 < a) → M2 a i = M a i := fun a i hc u v => by
        rw [r4 a i hc (by omega) (by omega) (by omega), c4 a i hc (by omega) (by omega) (by omega)]
      refine ⟨⟨fun t t0 t1 => ?_, g2.of hd (by omega) (fun a i q => e a i (core_l (by unfold coreL; omega)) (by omega) (by omega)), g3.of (by omega) (fun a i q => e a i (core_l (by unfold coreL; omega)) (by omega) (by omega)), g4.of (fun a i q => e a i (core_l (by unfold coreL; omega)) (by omega) (by omega))⟩, rfl⟩
      by_cases hs : t = s
      · subst hs
        rw [r4 11 t (core_l (by unfold coreL; omega)) (by omega) (by omega) (by omega), c1, r1, r4 10 t (core_l (by unfold coreL; omega)) (by omega) (by omega) (by omega), c2, r2]
        refine ⟨rfl, rfl, fun i q0 q1 => ?_⟩
        rw [r4 9 _ (core_l (by unfold coreL; omega)) (by omega) (by omega) (by omega), c3 i q0 (by omega), r3 i q0 q1]
      · obtain ⟨x1, x2, x3⟩ := g1 t t0 t1
        have t11 := t_11 hS t0
        rw [r4 11 t (core_l (by unfold coreL; omega)) (by omega) (by omega) (by omega), c4 11 t (core_l (by unfold coreL; omega)) (by omega) (by omega) (by omega), r4 10 t (core_l (by unfold coreL; omega)) (by omega) (by omega) (by omega), c4 10 t (core_l (by unfold coreL; omega)) (by omega) (by omega) (by omega), r4 113 t (core_l (by unfold coreL; omega)) (by omega) (by omega) (by omega), c4 113 t (core_l (by unfold coreL; omega)) (by omega) (by omega) (by omega), r4 114 t (core_l (by unfold coreL; omega)) (by omega) (by omega) (by omega), c4 114 t (core_l (by unfold coreL; omega)) (by omega) (by omega) (by omega)]
        refine ⟨x1, x2, fun i q0 q1 => ?_⟩
        rw [r4 9 _ (core_l (by unfold coreL; omega)) (by omega) (by omega) (by omega), c4 9 _ (core_l (by unfold coreL; omega)) (by omega) (by omega) (by omega), r4 115 _ (core_l (by unfold coreL; omega)) (by omega) (by omega) (by omega), c4 115 _ (core_l (by unfold coreL; omega)) (by omega) (by omega) (by omega)]
        exact x3 i q0 q1
def cTear (s z : Int) (M M1 : nM) : Prop := ((s < 0 ∨ 7 < s ∨ M 11 s < 0) ∧ z = 0 ∧ Eqc M M1) ∨ (0 ≤ s ∧ s ≤ 7 ∧ 0 ≤ M 11 s ∧ z = 1 ∧ M1 11 s = -1 ∧ ∀ a i : Int, core a i → ¬ (a = 11 ∧ i = s) → M1 a i = M a i)
def mTear (s z : Int) (M M1 : nM) : Prop := ((s < 0 ∨ 7 < s ∨ M 113 s = 0) ∧ z = 0 ∧ Eqc M M1) ∨ (0 ≤ s ∧ s ≤ 7 ∧ M 113 s ≠ 0 ∧ z = 1 ∧ M1 113 s = 0 ∧ ∀ a i : Int, core a i → ¬ (a = 113 ∧ i = s) → M1 a i = M a i)
theorem RL.tear {d ac s z z2 : Int} {M0 M M1 M2 : nM} (hd : d = 2 ∨ d = 3) (h : RL d M) (hS : Sf d ac M0 M) (c : cTear s z M M1) (r : mTear s z2 M1 M2) : RL d M2 ∧ z = z2 := by
  have b1 := t_3_14x hS
  have b2 := t_3_15 hS
  have hs := h.1 s
  rcases c with ⟨p, rfl, e⟩ | ⟨p1, p2, p3, rfl, c1, c2⟩
  · rcases r with ⟨q, rfl, f⟩ | ⟨q1, q2, q3, rfl, r1, r2⟩
    · exact ⟨h.of hd hS (e.tr f), rfl⟩
    · rw [e 113 s (core_l (by unfold coreL; omega))] at q3
      have t113 := t_113 hS q1
      have := (hs q1 (by omega)).1
      omega
  · have e113 := c2 113 s (core_l (by unfold coreL; omega)) (by omega)
    rcases r with ⟨q, rfl, f⟩ | ⟨q1, q2, q3, rfl, r1, r2⟩
    · have := (hs p1 (by omega)).1
      omega
    · obtain ⟨g1, g2, g3, g4⟩ := h
      have e : ∀ a i : Int, core a i → ¬ (a = 11 ∧ i = s) → ¬ (a = 113 ∧ i = s) → M2 a i = M a i := fun a i hc u v => by
        rw [r2 a i hc v, c2 a i hc u]
      refine ⟨⟨fun t t0 t1 => ?_, g2.of hd (by omega) (fun a i q => e a i (core_l (by unfold coreL; omega)) (by omega) (by omega)), g3.of (by omega) (fun a i q => e a i (core_l (by unfold coreL; omega)) (by omega) (by omega)), g4.of (fun a i q => e a i (core_l (by unfold coreL; omega)) (by omega) (by omega))⟩, rfl⟩
      obtain ⟨x1, x2, x3⟩ := g1 t t0 t1
      rw [e 10 t (core_l (by unfold coreL; omega)) (by omega) (by omega), e 114 t (core_l (by unfold coreL; omega)) (by omega) (by omega)]
      by_cases hs : t = s
      · subst hs
        rw [r2 11 t (core_l (by unfold coreL; omega)) (by omega), c1, r1]
        exact ⟨rfl, x2, fun i q0 q1 => by omega⟩
      · rw [e 11 t (core_l (by unfold coreL; omega)) (by omega) (by omega), e 113 t (core_l (by unfold coreL; omega)) (by omega) (by omega)]
        refine ⟨x1, x2, fun i q0 q1 => ?_⟩
        rw [e 9 _ (core_l (by unfold coreL; omega)) (by omega) (by omega), e 115 _ (core_l (by unfold coreL; omega)) (by omega) (by omega)]
        exact x3 i q0 q1
def cutv (v w : Int) : Int := if w = 0 then n_2b (n_wr v) else if w = 1 then n_2s (n_wr v) else if w = 2 then n_wr v else v
def cPut (s i v z : Int) (M M1 : nM) : Prop := ((i < 0 ∨ M 11 s ≤ i) ∧ z = 0 ∧ Eqc M M1) ∨ (0 ≤ i ∧ i < M 11 s ∧ z = 1 ∧ M1 9 (40 * s + i) = cutv v (M 10 s) ∧ ∀ a b : Int, core a b → ¬ (a = 9 ∧ b = 40 * s + i) → M1 a b = M a b)
def cWri (s i v z : Int) (M M1 : nM) : Prop := ((s < 0 ∨ 7 < s) ∧ z = -2 ∧ Eqc M M1) ∨ (0 ≤ s ∧ s ≤ 7 ∧ M 11 s < 0 ∧ z = -5 ∧ Eqc M M1) ∨ (0 ≤ s ∧ s ≤ 7 ∧ 0 ≤ M 11 s ∧ (i < 0 ∨ M 11 s ≤ i) ∧ z = -6 ∧ Eqc M M1)
  ∨ (0 ≤ s ∧ s ≤ 7 ∧ 0 ≤ i ∧ i < M 11 s ∧ z = 0 ∧ M1 9 (40 * s + i) = cutv v (M 10 s) ∧ ∀ a b : Int, core a b → ¬ (a = 9 ∧ b = 40 * s + i) → M1 a b = M a b)
def mWri (s i v z : Int) (M M1 : nM) : Prop := ((s < 0 ∨ 7 < s) ∧ z = -2 ∧ Eqc M M1) ∨ (0 ≤ s ∧ s ≤ 7 ∧ M 113 s = 0 ∧ z = -5 ∧ Eqc M M1) ∨ (0 ≤ s ∧ s ≤ 7 ∧ M 113 s ≠ 0 ∧ (i < 0 ∨ M 113 s - 1 ≤ i) ∧ z = -6 ∧ Eqc M M1)
  ∨ (0 ≤ s ∧ s ≤ 7 ∧ M 113 s ≠ 0 ∧ 0 ≤ i ∧ i < M 113 s - 1 ∧ z = 0 ∧ M1 115 (40 * s + i) = cutv v (M 114 s) ∧ ∀ a b : Int, core a b → ¬ (a = 115 ∧ b = 40 * s + i) → M1 a b = M a b)
theorem RL.wri {d ac s i v z z2 : Int} {M0 M M1 M2 : nM} (hd : d = 2 ∨ d = 3) (h : RL d M) (hS : Sf d ac M0 M) (c : cWri s i v z M M1) (r : mWri s i v z2 M1 M2) : RL d M2 ∧ z = z2 := by
  have b1 := t_3_14x hS
  have b2 := t_3_15 hS
  have hs := h.1 s
  have e113 : 0 ≤ s → M1 113 s = M 113 s := fun h0 => by
    rcases c with ⟨p, -, e⟩ | ⟨-, -, -, -, e⟩ | ⟨-, -, -, -, -, e⟩ | ⟨-, -, -, -, -, -, e⟩
    · exact e 113 s (core_l (by unfold coreL; omega))
    · exact e 113 s (core_l (by unfold coreL; omega))
    · exact e 113 s (core_l (by unfold coreL; omega))
    · exact e 113 s (core_l (by unfold coreL; omega)) (by omega)
  rcases c with ⟨p, rfl, e⟩ | ⟨p1, p2, p3, rfl, e⟩ | ⟨p1, p2, p3, p4, rfl, e⟩ | ⟨p1, p2, p3, p4, rfl, c1, c2⟩
  · rcases r with ⟨q, rfl, f⟩ | ⟨q1, q2, q3, rfl, f⟩ | ⟨q1, q2, q3, q4, rfl, f⟩ | ⟨q1, q2, q3, q4, q5, rfl, r1, r2⟩
    · exact ⟨h.of hd hS (e.tr f), rfl⟩
    · omega
    · omega
    · omega
  · have e3 := e113 p1
    have := (hs p1 (by omega)).1
    have t113 := t_113 hS p1
    rcases r with ⟨q, rfl, f⟩ | ⟨q1, q2, q3, rfl, f⟩ | ⟨q1, q2, q3, q4, rfl, f⟩ | ⟨q1, q2, q3, q4, q5, rfl, r1, r2⟩
    · omega
    · exact ⟨h.of hd hS (e.tr f), rfl⟩
    · omega
    · omega
  · have e3 := e113 p1
    have := (hs p1 (by omega)).1
    rcases r with ⟨q, rfl, f⟩ | ⟨q1, q2, q3, rfl, f⟩ | ⟨q1, q2, q3, q4, rfl, f⟩ | ⟨q1, q2, q3, q4, q5, rfl, r1, r2⟩
    · omega
    · omega
    · exact ⟨h.of hd hS (e.tr f), rfl⟩
    · omega
  · have e3 := e113 p1
    have hs1 := (hs p1 (by omega)).1
    rcases r with ⟨q, rfl, f⟩ | ⟨q1, q2, q3, rfl, f⟩ | ⟨q1, q2, q3, q4, rfl, f⟩ | ⟨q1, q2, q3, q4, q5, rfl, r1, r2⟩
    · omega
    · omega
    · omega
    · obtain ⟨g1, g2, g3, g4⟩ := h
      have e : ∀ a b : Int, core a b → ¬ (a = 9 ∧ b = 40 * s + i) → ¬ (a = 115 ∧ b = 40 * s + i) → M2 a b = M a b := fun a b hc u v => by
        rw [r2 a b hc v, c2 a b hc u]
      refine ⟨⟨fun t t0 t1 => ?_, g2.of hd (by omega) (fun a i q => e a i (core_l (by unfold coreL; omega)) (by omega) (by omega)), g3.of (by omega) (fun a i q => e a i (core_l (by unfold coreL; omega)) (by omega) (by omega)), g4.of (fun a i q => e a i (core_l (by unfold coreL; omega)) (by omega) (by omega))⟩, rfl⟩
      obtain ⟨x1, x2, x3⟩ := g1 t t0 t1
      rw [e 10 t (core_l (by unfold coreL; omega)) (by omega) (by omega), e 114 t (core_l (by unfold coreL; omega)) (by omega) (by omega), e 11 t (core_l (by unfold coreL; omega)) (by omega) (by omega), e 113 t (core_l (by unfold coreL; omega)) (by omega) (by omega)]
      refine ⟨x1, x2, fun b u0 u1 => ?_⟩
      by_cases hb : 40 * t + b = 40 * s + i
      · have h9 : M2 9 (40 * s + i) = M1 9 (40 * s + i) := r2 9 _ (core_l (by unfold coreL; omega)) (by omega)
        have hw := (g1 s p1 (by omega)).2.1
        rw [hb, h9, c1, r1, c2 114 s (core_l (by unfold coreL; omega)) (by omega), hw]
      · rw [e 9 _ (core_l (by unfold coreL; omega)) (by omega) (by omega), e 115 _ (core_l (by unfold coreL; omega)) (by omega) (by omega)]
        exact x3 b u0 u1
theorem cWri_of {s i v z z2 : Int} {M M1 : nM} (h0 : 0 ≤ s) (h1 : s ≤ 7) (h2 : 0 ≤ M 11 s) (h : cPut s i v z M M1) (hz : (z = 0 ∧ z2 = -6) ∨ (z = 1 ∧ z2 = 0)) : cWri s i v z2 M M1 := by
  rcases h with ⟨p, q, e⟩ | ⟨p1, p2, q, e1, e2⟩
  · exact Or.inr (Or.inr (Or.inl ⟨h0, h1, h2, p, by omega, e⟩))
  · exact Or.inr (Or.inr (Or.inr ⟨h0, h1, p1, p2, by omega, e1, e2⟩))
def tooMany (k n : Int) (f : Int → Int) : Prop := 8 ≤ n ∨ (k = 3 ∧ 2 ≤ c3 f n.toNat)
def cAct (d k r s z : Int) (M M1 : nM) : Prop := ((s < 0 ∨ 7 < s ∨ k < 1 ∨ 3 < k) ∧ z = -2 ∧ Eqc M M1)
  ∨ (0 ≤ s ∧ s ≤ 7 ∧ 1 ≤ k ∧ k ≤ 3 ∧ tooMany k (M 3 14) (fun a => M (55 + 3 * a) 0) ∧ z = -8 ∧ Eqc M M1)
  ∨ (0 ≤ s ∧ s ≤ 7 ∧ 1 ≤ k ∧ k ≤ 3 ∧ ¬ tooMany k (M 3 14) (fun a => M (55 + 3 * a) 0) ∧ M 11 s < 0 ∧ z = -5 ∧ Eqc M M1)
  ∨ (0 ≤ s ∧ s ≤ 7 ∧ 1 ≤ k ∧ k ≤ 3 ∧ ¬ tooMany k (M 3 14) (fun a => M (55 + 3 * a) 0) ∧ 0 ≤ M 11 s ∧ rdf d (M 11 s) (fun i => M 9 (40 * s + i)) 0 r z ∧ Eqc M M1)
  ∨ (0 ≤ s ∧ s ≤ 7 ∧ 1 ≤ k ∧ k ≤ 3 ∧ ¬ tooMany k (M 3 14) (fun a => M (55 + 3 * a) 0) ∧ 0 ≤ M 11 s ∧ (∀ i : Int, 0 ≤ i → i < r → rdok d (M 11 s) (fun i => M 9 (40 * s + i)) i) ∧ z = M 3 14 ∧ M1 3 14 = M 3 14 + 1 ∧ NAct d k r (55 + 3 * M 3 14) (fun i => M 9 (40 * s + i)) M1
    ∧ ∀ a i : Int, core a i → ¬ (a = 3 ∧ i = 14) → ¬ (55 + 3 * M 3 14 ≤ a ∧ a ≤ 55 + 3 * M 3 14 + 2) → M1 a i = M a i)
def mAct (d k r s z : Int) (M M1 : nM) : Prop := ((s < 0 ∨ 7 < s ∨ k < 1 ∨ 3 < k) ∧ z = -2 ∧ Eqc M M1)
  ∨ (0 ≤ s ∧ s ≤ 7 ∧ 1 ≤ k ∧ k ≤ 3 ∧ (M 112 4 = 8 ∨ (k = 3 ∧ c3 (fun a => M 116 a) (M 112 4).toNat = 2)) ∧ z = -8 ∧ Eqc M M1)
  ∨ (0 ≤ s ∧ s ≤ 7 ∧ 1 ≤ k ∧ k ≤ 3 ∧ ¬ (M 112 4 = 8 ∨ (k = 3 ∧ c3 (fun a => M 116 a) (M 112 4).toNat = 2)) ∧ M 113 s = 0 ∧ z = -5 ∧ Eqc M M1)
  ∨ (0 ≤ s ∧ s ≤ 7 ∧ 1 ≤ k ∧ k ≤ 3 ∧ ¬ (M 112 4 = 8 ∨ (k = 3 ∧ c3 (fun a => M 116 a) (M 112 4).toNat = 2)) ∧ M 113 s ≠ 0 ∧ rdf d (M 113 s - 1) (fun i => M 115 (40 * s + i)) 0 r z ∧ ∀ a i : Int, core a i → ¬ (a = 117 ∧ 27 * M 112 4 ≤ i) → M1 a i = M a i)
  ∨ (0 ≤ s ∧ s ≤ 7 ∧ 1 ≤ k ∧ k ≤ 3 ∧ ¬ (M 112 4 = 8 ∨ (k = 3 ∧ c3 (fun a => M 116 a) (M 112 4).toNat = 2)) ∧ M 113 s ≠ 0 ∧ (∀ i : Int, 0 ≤ i → i < r → rdok d (M 113 s - 1) (fun i => M 115 (40 * s + i)) i) ∧ z = M 112 4 ∧ M1 112 4 = M 112 4 + 1 ∧ M1 116 (M 112 4) = k ∧ (∀ i : Int, 0 ≤ i → i < r → M1 117 (27 * M 112 4 + i) = M 115 (40 * s + i))
    ∧ ∀ a i : Int, core a i → ¬ (a = 112 ∧ i = 4) → ¬ (a = 116 ∧ i = M 112 4) → ¬ (a = 117 ∧ 27 * M 112 4 ≤ i) → M1 a i = M a i)
theorem RL.act {d ac k r s z z2 : Int} {M0 M M1 M2 : nM} (hd : d = 2 ∨ d = 3) (hr : (1 ≤ k ∧ k ≤ 3) → r = pw d k) (h : RL d M) (hS : Sf d ac M0 M) (c : cAct d k r s z M M1) (m : mAct d k r s z2 M1 M2) : RL d M2 ∧ z = z2 := by
  have b1 := t_3_14x hS
  have b2 := t_3_15 hS
  have hs := h.1 s
  have eR : ∀ a i : Int, core a i → 112 ≤ a → M1 a i = M a i := fun a i hc ha => by
    rcases c with ⟨-, -, e⟩ | ⟨-, -, -, -, -, -, e⟩ | ⟨-, -, -, -, -, -, -, e⟩ | ⟨-, -, -, -, -, -, -, e⟩ | ⟨-, -, -, -, -, -, -, -, -, -, e⟩
    · exact e a i hc
    · exact e a i hc
    · exact e a i hc
    · exact e a i hc
    · exact e a i hc (by omega) (by omega)
  have e4 : M1 112 4 = M 3 14 := by rw [eR 112 4 (core_l (by unfold coreL; omega)) (by omega), h.2.1.1]
  have e3 : c3 (fun a => M1 116 a) (M1 112 4).toNat = c3 (fun a => M (55 + 3 * a) 0) (M 3 14).toNat := by
    rw [e4]
    refine c3_congr _ (fun i h0 h1 => ?_)
    show M1 116 i = M (55 + 3 * i) 0
    rw [eR 116 i (core_l (by unfold coreL; omega)) (by omega), (h.2.1.2.2 i h0 (by omega)).2.1]
  have hc2 := h.2.1.2.1
  unfold mAct at m
  rw [e3, e4] at m
  have e113 : 0 ≤ s → M1 113 s = M 113 s := fun h0 => eR 113 s (core_l (by unfold coreL; omega)) (by omega)
  have e115 : ∀ i : Int, M1 115 (40 * s + i) = M 115 (40 * s + i) := fun i => eR 115 _ (core_l (by unfold coreL; omega)) (by omega)
  rcases c with ⟨p, rfl, e⟩ | ⟨p1, p2, p3, p4, p5, rfl, e⟩ | ⟨p1, p2, p3, p4, p5, p6, rfl, e⟩ | ⟨p1, p2, p3, p4, p5, p6, p7, e⟩ | ⟨p1, p2, p3, p4, p5, p6, p7, p8, p9, p10, e⟩
  · rcases m with ⟨q, rfl, f⟩ | ⟨q1, q2, q3, q4, -⟩ | ⟨q1, q2, q3, q4, -⟩ | ⟨q1, q2, q3, q4, -⟩ | ⟨q1, q2, q3, q4, -⟩
    · exact ⟨h.of hd hS (e.tr f), rfl⟩
    · omega
    · omega
    · omega
    · omega
  · unfold tooMany at p5
    rcases m with ⟨q, rfl, f⟩ | ⟨q1, q2, q3, q4, q5, rfl, f⟩ | ⟨q1, q2, q3, q4, q5, -⟩ | ⟨q1, q2, q3, q4, q5, -⟩ | ⟨q1, q2, q3, q4, q5, -⟩
    · omega
    · exact ⟨h.of hd hS (e.tr f), rfl⟩
    · omega
    · omega
    · omega
  · unfold tooMany at p5
    have u1 := (hs p1 (by omega)).1
    have u2 := e113 p1
    have u3 := t_11 hS p1
    rcases m with ⟨q, rfl, f⟩ | ⟨q1, q2, q3, q4, q5, rfl, f⟩ | ⟨q1, q2, q3, q4, q5, q6, rfl, f⟩ | ⟨q1, q2, q3, q4, q5, q6, -⟩ | ⟨q1, q2, q3, q4, q5, q6, -⟩
    · omega
    · omega
    · exact ⟨h.of hd hS (e.tr f), rfl⟩
    · omega
    · omega
  · unfold tooMany at p5
    have u1 := (hs p1 (by omega)).1
    have u2 := e113 p1
    have eL : M1 113 s - 1 = M 11 s := by omega
    have u4 : ∀ i : Int, 0 ≤ i → i < M 11 s → M 9 (40 * s + i) = M1 115 (40 * s + i) := fun i h0 h1 => by
      rw [e115 i]
      exact (hs p1 (by omega)).2.2 i h0 h1
    rcases m with ⟨q, rfl, f⟩ | ⟨q1, q2, q3, q4, q5, rfl, f⟩ | ⟨q1, q2, q3, q4, q5, q6, rfl, f⟩ | ⟨q1, q2, q3, q4, q5, q6, q7, f⟩ | ⟨q1, q2, q3, q4, q5, q6, q7, -⟩
    · omega
    · omega
    · omega
    · rw [eL] at q7
      refine ⟨?_, p7.uniq q7 u4⟩
      obtain ⟨g1, g2, g3, g4⟩ := h
      have ee : ∀ a i : Int, core a i → ¬ (a = 117 ∧ 27 * M 3 14 ≤ i) → M2 a i = M a i := fun a i hc u => by rw [f a i hc u, e a i hc]
      exact ⟨g1.of (fun a i q => ee a i (core_l (by unfold coreL; omega)) (by omega)), g2.of hd (by omega) (fun a i q => ee a i (core_l (by unfold coreL; omega)) (by omega)), g3.of (by omega) (fun a i q => ee a i (core_l (by unfold coreL; omega)) (by omega)), g4.of (fun a i q => ee a i (core_l (by unfold coreL; omega)) (by omega))⟩
    · rw [eL] at q7
      exact (p7.no q7 u4).elim
  · have p5' := p5
    unfold tooMany at p5
    have u1 := (hs p1 (by omega)).1
    have u2 := e113 p1
    have eL : M1 113 s - 1 = M 11 s := by omega
    have u4 : ∀ i : Int, 0 ≤ i → i < M 11 s → M1 115 (40 * s + i) = M 9 (40 * s + i) := fun i h0 h1 => by
      rw [e115 i]
      exact ((hs p1 (by omega)).2.2 i h0 h1).symm
    rcases m with ⟨q, rfl, f⟩ | ⟨q1, q2, q3, q4, q5, rfl, f⟩ | ⟨q1, q2, q3, q4, q5, q6, rfl, f⟩ | ⟨q1, q2, q3, q4, q5, q6, q7, f⟩ | ⟨q1, q2, q3, q4, q5, q6, q7, q8, q9, q10, q11, f⟩
    · omega
    · omega
    · omega
    · rw [eL] at q7
      exact (q7.no p7 u4).elim
    · obtain rfl : r = pw d k := hr ⟨p3, p4⟩
      have hpw := pw_r hd ⟨p3, p4⟩
      refine ⟨?_, by omega⟩
      obtain ⟨g1, ⟨ga, gb, gc⟩, g3, g4⟩ := h
      have ee : ∀ a i : Int, core a i → ¬ (a = 3 ∧ i = 14) → ¬ (55 + 3 * M 3 14 ≤ a ∧ a ≤ 55 + 3 * M 3 14 + 2) → ¬ (a = 112 ∧ i = 4) → ¬ (a = 116 ∧ i = M 3 14) → ¬ (a = 117 ∧ 27 * M 3 14 ≤ i) → M2 a i = M a i := fun a i hc w1 w2 w3 w4 w5 => by rw [f a i hc w3 w4 w5, e a i hc w1 w2]
      have n14 : M2 3 14 = M 3 14 + 1 := by rw [f 3 14 (core_l (by unfold coreL; omega)) (by omega) (by omega) (by omega), p9]
      refine ⟨g1.of (fun a i q => ee a i (core_l (by unfold coreL; omega)) (by omega) (by omega) (by omega) (by omega) (by omega)), ⟨by rw [n14, q9], ?_, fun a h0 h1 => ?_⟩, g3.of (by omega) (fun a i q => ee a i (core_l (by unfold coreL; omega)) (by omega) (by omega) (by omega) (by omega) (by omega)), g4.of (fun a i q => ee a i (core_l (by unfold coreL; omega)) (by omega) (by omega) (by omega) (by omega) (by omega))⟩
      · rw [n14, c3_step (by omega)]
        have w1 : c3 (fun a => M2 (55 + 3 * a) 0) (M 3 14).toNat = c3 (fun a => M (55 + 3 * a) 0) (M 3 14).toNat := c3_congr _ (fun i h0 h1 => ee (55 + 3 * i) 0 (core_l (by unfold coreL; omega)) (by omega) (by omega) (by omega) (by omega) (by omega))
        have w2 : M2 (55 + 3 * M 3 14) 0 = k := by rw [f _ 0 (core_l (by unfold coreL; omega)) (by omega) (by omega) (by omega), p10.1]
        rw [w1, w2]
        split <;> omega
      · rw [n14] at h1
        by_cases ha : a = M 3 14
        · subst ha
          rw [q10]
          refine ⟨⟨p3, p4⟩, p10.of hd (by omega) (fun b i w1 w2 _ => f b i (core_l (by unfold coreL; omega)) (by omega) (by omega) (by omega)) (fun i w0 w1 => ?_)⟩
          show M2 117 (27 * M 3 14 + i) = M 9 (40 * s + i)
          rw [q11 i w0 w1, u4 i w0 (p7 i w0 w1).1]
        · obtain ⟨x1, x2⟩ := gc a h0 (by omega)
          have hp2 := pw_r hd x1
          rw [ee 116 a (core_l (by unfold coreL; omega)) (by omega) (by omega) (by omega) (by omega) (by omega)]
          exact ⟨x1, x2.of hd (by omega) (fun b i w1 w2 _ => ee b i (core_l (by unfold coreL; omega)) (by omega) (by omega) (by omega) (by omega) (by omega)) (fun i w0 w1 => ee 117 _ (core_l (by unfold coreL; omega)) (by omega) (by omega) (by omega) (by omega) (by omega))⟩
def TP (d len : Int) (f : Int → Int) (x : Int) (M : nM) : Prop := ∀ j : Int, 0 ≤ j → j < x → M 54 j = f j ∧ rdok d len f j
theorem TP.step {d len x z : Int} {f : Int → Int} {M M2 : nM} (h : TP d len f x M) (e : M2 = nu M 54 x z) (hz : z = f x) (hk : rdok d len f x) : TP d len f (x + 1) M2 := fun j h0 h1 => by
  subst e
  by_cases q : j = x
  · subst q
    rw [nu_s]
    exact ⟨hz, hk⟩
  · rw [nu_i q]
    exact h j h0 (by omega)
def TQ (d len : Int) (f : Int → Int) (n x : Int) (M : nM) : Prop := ∀ j : Int, 0 ≤ j → j < x → M 117 (27 * n + j) = f j ∧ rdok d len f j
theorem TQ.step {d len n x z i : Int} {f : Int → Int} {M M2 : nM} (h : TQ d len f n x M) (e : M2 = nu M 117 i z) (hi : i = 27 * n + x) (hz : z = f x) (hk : rdok d len f x) : TQ d len f n (x + 1) M2 := fun j h0 h1 => by
  subst e
  by_cases q : j = x
  · subst q
    rw [← hi, nu_s]
    exact ⟨hz, hk⟩
  · rw [nu_i (by omega)]
    exact h j h0 (by omega)
def FA (n : Int) (Ms M : nM) : Prop := ∀ a i : Int, core a i → ¬ (a = 117 ∧ 27 * n ≤ i) → M a i = Ms a i
theorem FA.u {n i z : Int} {Ms M M2 : nM} (h : FA n Ms M) (e : M2 = nu M 117 i z) (hi : 27 * n ≤ i) : FA n Ms M2 := fun a b hc q => by
  subst e
  rw [nu_e, if_neg (by omega)]
  exact h a b hc q
theorem Eqc.u54 {i z : Int} {Ms M M2 : nM} (h : Eqc Ms M) (e : M2 = nu M 54 i z) : Eqc Ms M2 := fun a b hc => by
  subst e
  rw [nu_e, if_neg (by unfold core at hc; omega)]
  exact h a b hc
def FP (p : Int) (Ms M : nM) : Prop := ∀ a i : Int, core a i → ¬ (p ≤ a ∧ a ≤ p + 2) → M a i = Ms a i
theorem FP.u {p a i z : Int} {Ms M M2 : nM} (h : FP p Ms M) (e : M2 = nu M a i z) (ha : p ≤ a ∧ a ≤ p + 2) : FP p Ms M2 := fun b j hc q => by
  subst e
  rw [nu_e, if_neg (by omega)]
  exact h b j hc q
def TL (r p x : Int) (Ms M : nM) : Prop := (∀ i : Int, M 54 i = Ms 54 i) ∧ ∀ i : Int, 0 ≤ i → i < x → M (p + 1) i = Ms 54 (i % r)
theorem TL.step {r p x y z : Int} {Ms M M2 : nM} (h : TL r p x Ms M) (hp : 55 ≤ p) (e : M2 = nu M (p + 1) x z) (hz : z = M 54 y) (hy : y = x % r) : TL r p (x + 1) Ms M2 := by
  subst e
  refine ⟨fun i => by rw [nu_a (by omega)]; exact h.1 i, fun i h0 h1 => ?_⟩
  by_cases q : i = x
  · subst q
    rw [nu_s, hz, hy]
    exact h.1 _
  · rw [nu_i q]
    exact h.2 i h0 (by omega)
def TU (d p x : Int) (M : nM) : Prop := ∀ i : Int, 0 ≤ i → i < x → M (p + 2) i = M (p + 1) (tr d i)
theorem TU.step {d p x y z : Int} {M M2 : nM} (h : TU d p x M) (e : M2 = nu M (p + 2) x z) (hz : z = M (p + 1) y) (hy : y = tr d x) : TU d p (x + 1) M2 := fun i h0 h1 => by
  subst e
  rw [nu_a (a' := p + 1) (by omega)]
  by_cases q : i = x
  · subst q
    rw [nu_s, hz, hy]
  · rw [nu_i q]
    exact h i h0 (by omega)
theorem TL.uu {r p x i z : Int} {Ms M M2 : nM} (h : TL r p x Ms M) (hp : 55 ≤ p) (e : M2 = nu M (p + 2) i z) : TL r p x Ms M2 := by
  subst e
  exact ⟨fun i => by rw [nu_a (by omega)]; exact h.1 i, fun i h0 h1 => by rw [nu_a (by omega)]; exact h.2 i h0 h1⟩
theorem NA_of {d k r p len : Int} {f : Int → Int} {M : nM} (hd : d = 2 ∨ d = 3) (hr : 0 < r) (h : NAct d k r p f M) (hj : ∀ i : Int, 2 ≤ i → M p i = r) (hf : ∀ i : Int, 0 ≤ i → i < r → rdok d len f i) : NA d k r p M := by
  obtain ⟨h1, h2, h3⟩ := h
  have ht : ∀ i : Int, 0 ≤ i → i < d * d * d → M (p + 1) i ≤ d - 1 := fun i a b => by
    rw [(h3 i a b).1]
    exact (hf _ (Int.emod_nonneg _ (by omega)) (Int.emod_lt_of_pos _ hr)).2.2
  refine ⟨h1, fun i hi => ?_, fun i a b => ⟨ht i a b, ?_⟩⟩
  · by_cases q : 2 ≤ i
    · exact hj i q
    · rw [show i = 1 by omega]
      exact h2
  · rw [(h3 i a b).2]
    have t := tr_r hd ⟨a, b⟩
    exact ht _ t.1 t.2
/-! Laws: what telling one does, on both sides. -/
def rowno (d k : Int) (f : Int → Int) (p : Int) : Int := if k = 1 then f p else if k = 2 then f p * d + f (p + 1) else (f p * d + f (p + 1)) * d + f (p + 1 + 1)
def lset (d k : Int) (f : Int → Int) : Nat → Int
  | 0 => 0
  | n + 1 => n_or (lset d k f n) (n_shl 1 (rowno d k f (1 + k * n)))
theorem lset_go {d k x p s num : Int} {f : Int → Int} (hs : s = lset d k f x.toNat) (hp : p = 1 + k * x) (h0 : 0 ≤ x) (hn : num = rowno d k f p) : n_or s (n_shl 1 num) = lset d k f (x + 1).toNat := by
  obtain ⟨n, rfl⟩ : ∃ n : Nat, x = n := ⟨x.toNat, by omega⟩
  have e : ((n : Int) + 1).toNat = n + 1 := by omega
  rw [e, hs, hn, hp, Int.toNat_natCast]
  rfl
theorem n_or_n {x y : Nat} (hx : x < 2 ^ 27) (hy : y < 2 ^ 27) : n_or (x : Int) (y : Int) = ((x ||| y : Nat) : Int) := by
  have hz : x ||| y < 2 ^ 27 := Nat.or_lt_two_pow hx hy
  have e : n_or (x : Int) (y : Int) = ((Int32.ofInt (x : Int)).toBitVec ||| (Int32.ofInt (y : Int)).toBitVec).toInt := rfl
  have e1 := n_bv (z := (x : Int)) (by omega)
  have e2 := n_bv (z := (y : Int)) (by omega)
  have e3 : ((Int32.ofInt (x : Int)).toBitVec ||| (Int32.ofInt (y : Int)).toBitVec).toNat = x ||| y := by
    rw [BitVec.toNat_or, e1, e2, Int.toNat_natCast, Int.toNat_natCast]
  rw [e, BitVec.toInt_eq_toNat_of_lt (by omega), e3]
theorem n_or_bit27 {s r : Int} (hs : 0 ≤ s ∧ s ≤ 134217727) (hr : 0 ≤ r ∧ r ≤ 26) : (0 ≤ n_or s (n_shl 1 r) ∧ n_or s (n_shl 1 r) ≤ 134217727) ∧ n_lor s (n_lshl 1 r) = n_or s (n_shl 1 r) := by
  obtain ⟨t, rfl⟩ : ∃ t : Nat, s = t := ⟨s.toNat, by omega⟩
  obtain ⟨n, rfl⟩ : ∃ n : Nat, r = n := ⟨r.toNat, by omega⟩
  have hp : 2 ^ n < 2 ^ 27 := Nat.pow_lt_pow_right (by omega) (by omega)
  have e2 : n_lshl 1 (n : Int) = ((2 ^ n : Nat) : Int) := by
    rw [n_lshl_a n (by omega)]
    norm_cast
  have e1 : n_shl 1 (n : Int) = ((2 ^ n : Nat) : Int) := by
    rw [n_shl_a n (by omega)]
    norm_cast
  have ht : t < 2 ^ 27 := by omega
  rw [e1, e2, n_lor_n ht hp, n_or_n ht hp]
  have hz : t ||| 2 ^ n < 2 ^ 27 := Nat.or_lt_two_pow ht hp
  refine ⟨?_, rfl⟩
  omega
theorem lset_goL {d k x p s num : Int} {f : Int → Int} (hs : s = lset d k f x.toNat) (hp : p = 1 + k * x) (h0 : 0 ≤ x) (hr : 0 ≤ s ∧ s ≤ 134217727) (hm : 0 ≤ num ∧ num ≤ 26) (hn : num = rowno d k f p) : n_lor s (n_lshl 1 num) = lset d k f (x + 1).toNat := by
  rw [(n_or_bit27 hr hm).2]
  exact lset_go hs hp h0 hn
theorem lset_congr {d k : Int} {f g : Int → Int} (hk : 1 ≤ k ∧ k ≤ 3) : ∀ n : Nat, (∀ i : Int, 1 ≤ i → i < 1 + k * n → f i = g i) → lset d k f n = lset d k g n := by
  intro n
  induction n with
  | zero => intro _; rfl
  | succ n ih =>
    intro h
    have e : (((n + 1 : Nat) : Int)) = (n : Int) + 1 := by omega
    rw [e] at h
    show n_or (lset d k f n) (n_shl 1 (rowno d k f (1 + k * n))) = n_or (lset d k g n) (n_shl 1 (rowno d k g (1 + k * n)))
    rcases (show k = 1 ∨ k = 2 ∨ k = 3 by omega) with rfl | rfl | rfl
    · rw [ih (fun i h0 h1 => h i h0 (by omega))]
      unfold rowno
      rw [if_pos rfl, if_pos rfl, h _ (by omega) (by omega)]
    · rw [ih (fun i h0 h1 => h i h0 (by omega))]
      unfold rowno
      rw [if_neg (show ¬ (2 : Int) = 1 by omega), if_neg (show ¬ (2 : Int) = 1 by omega), if_pos (show (2 : Int) = 2 by omega), if_pos (show (2 : Int) = 2 by omega), h (1 + 2 * (n : Int)) (by omega) (by omega), h (1 + 2 * (n : Int) + 1) (by omega) (by omega)]
    · rw [ih (fun i h0 h1 => h i h0 (by omega))]
      unfold rowno
      rw [if_neg (by omega), if_neg (by omega), if_neg (by omega), if_neg (by omega), h (1 + 3 * (n : Int)) (by omega) (by omega), h (1 + 3 * (n : Int) + 1) (by omega) (by omega), h (1 + 3 * (n : Int) + 1 + 1) (by omega) (by omega)]
def RO (d len : Int) (f : Int → Int) (x : Int) : Prop := ∀ i : Int, 1 ≤ i → i < x → rdok d len f i
theorem RO.ext {d len x y : Int} {f : Int → Int} (h : RO d len f x) (hx : rdok d len f x) (hy : y = x + 1) : RO d len f y := fun i h0 h1 => by
  by_cases q : i = x
  · rw [q]
    exact hx
  · exact h i h0 (by omega)
def rLawF (d k len : Int) (f : Int → Int) (z : Int) : Prop := (len ≤ 0 ∧ z = -6) ∨ (0 < len ∧ (f 0 < 0 ∨ 27 < f 0) ∧ z = -4) ∨ (0 < len ∧ 0 ≤ f 0 ∧ f 0 ≤ 27 ∧ rdf d len f 1 (1 + k * f 0) z)
def rLawS (d k len : Int) (f : Int → Int) : Prop := 0 < len ∧ 0 ≤ f 0 ∧ f 0 ≤ 27 ∧ RO d len f (1 + k * f 0)
theorem rLawF.uniq {d k len z z2 : Int} {f g : Int → Int} (h : rLawF d k len f z) (h2 : rLawF d k len g z2) (e : ∀ i : Int, 0 ≤ i → i < len → f i = g i) : z = z2 := by
  have e0 : 0 < len → f 0 = g 0 := fun q => e 0 (by omega) q
  rcases h with ⟨a1, a2⟩ | ⟨a1, a2, a3⟩ | ⟨a1, a2, a3, a4⟩ <;> rcases h2 with ⟨b1, b2⟩ | ⟨b1, b2, b3⟩ | ⟨b1, b2, b3, b4⟩
  · omega
  · omega
  · omega
  · omega
  · omega
  · have := e0 a1; omega
  · omega
  · have := e0 a1; omega
  · rw [← e0 a1] at b4
    exact a4.uniq b4 (fun i q0 q1 => e i (by omega) q1)
theorem rLawF.no {d k len z : Int} {f g : Int → Int} (h : rLawF d k len f z) (h2 : rLawS d k len g) (e : ∀ i : Int, 0 ≤ i → i < len → f i = g i) : False := by
  obtain ⟨b1, b2, b3, b4⟩ := h2
  have e0 := e 0 (by omega) b1
  rcases h with ⟨a1, a2⟩ | ⟨a1, a2, a3⟩ | ⟨a1, a2, a3, a4⟩
  · omega
  · omega
  · rw [← e0] at b4
    exact a4.no b4 (fun i q0 q1 => e i (by omega) q1)
def cLaw (d k s z : Int) (M M1 : nM) : Prop := ((s < 0 ∨ 7 < s ∨ k < 1 ∨ 3 < k) ∧ z = -2 ∧ Eqc M M1)
  ∨ (0 ≤ s ∧ s ≤ 7 ∧ 1 ≤ k ∧ k ≤ 3 ∧ 12 ≤ M 3 15 ∧ z = -8 ∧ Eqc M M1)
  ∨ (0 ≤ s ∧ s ≤ 7 ∧ 1 ≤ k ∧ k ≤ 3 ∧ M 3 15 < 12 ∧ M 11 s < 0 ∧ z = -5 ∧ Eqc M M1)
  ∨ (0 ≤ s ∧ s ≤ 7 ∧ 1 ≤ k ∧ k ≤ 3 ∧ M 3 15 < 12 ∧ 0 ≤ M 11 s ∧ rLawF d k (M 11 s) (fun i => M 9 (40 * s + i)) z ∧ Eqc M M1)
  ∨ (0 ≤ s ∧ s ≤ 7 ∧ 1 ≤ k ∧ k ≤ 3 ∧ M 3 15 < 12 ∧ 0 ≤ M 11 s ∧ rLawS d k (M 11 s) (fun i => M 9 (40 * s + i)) ∧ z = M 3 15 ∧ M1 3 15 = M 3 15 + 1 ∧ M1 (79 + 2 * M 3 15) 0 = k ∧ M1 (79 + 2 * M 3 15) 1 = lset d k (fun i => M 9 (40 * s + i)) (M 9 (40 * s + 0)).toNat
    ∧ ∀ a i : Int, core a i → ¬ (a = 3 ∧ i = 15) → ¬ (79 + 2 * M 3 15 ≤ a ∧ a ≤ 79 + 2 * M 3 15 + 1) → M1 a i = M a i)
def mLaw (d k s z : Int) (M M1 : nM) : Prop := ((s < 0 ∨ 7 < s ∨ k < 1 ∨ 3 < k) ∧ z = -2 ∧ Eqc M M1)
  ∨ (0 ≤ s ∧ s ≤ 7 ∧ 1 ≤ k ∧ k ≤ 3 ∧ M 112 7 = 12 ∧ z = -8 ∧ Eqc M M1)
  ∨ (0 ≤ s ∧ s ≤ 7 ∧ 1 ≤ k ∧ k ≤ 3 ∧ M 112 7 < 12 ∧ M 113 s = 0 ∧ z = -5 ∧ Eqc M M1)
  ∨ (0 ≤ s ∧ s ≤ 7 ∧ 1 ≤ k ∧ k ≤ 3 ∧ M 112 7 < 12 ∧ M 113 s ≠ 0 ∧ rLawF d k (M 113 s - 1) (fun i => M 115 (40 * s + i)) z ∧ Eqc M M1)
  ∨ (0 ≤ s ∧ s ≤ 7 ∧ 1 ≤ k ∧ k ≤ 3 ∧ M 112 7 < 12 ∧ M 113 s ≠ 0 ∧ rLawS d k (M 113 s - 1) (fun i => M 115 (40 * s + i)) ∧ z = M 112 7 ∧ M1 112 7 = M 112 7 + 1 ∧ M1 118 (M 112 7) = k ∧ M1 119 (M 112 7) = lset d k (fun i => M 115 (40 * s + i)) (M 115 (40 * s + 0)).toNat
    ∧ ∀ a i : Int, core a i → ¬ (a = 112 ∧ i = 7) → ¬ (a = 118 ∧ i = M 112 7) → ¬ (a = 119 ∧ i = M 112 7) → M1 a i = M a i)
theorem RL.law {d ac k s z z2 : Int} {M0 M M1 M2 : nM} (hd : d = 2 ∨ d = 3) (h : RL d M) (hS : Sf d ac M0 M) (c : cLaw d k s z M M1) (m : mLaw d k s z2 M1 M2) : RL d M2 ∧ z = z2 := by
  have b1 := t_3_14x hS
  have b2 := t_3_15 hS
  have hs := h.1 s
  have eR : ∀ a i : Int, core a i → 112 ≤ a → M1 a i = M a i := fun a i hc ha => by
    rcases c with ⟨-, -, e⟩ | ⟨-, -, -, -, -, -, e⟩ | ⟨-, -, -, -, -, -, -, e⟩ | ⟨-, -, -, -, -, -, -, e⟩ | ⟨-, -, -, -, p, -, -, -, -, -, -, e⟩
    · exact e a i hc
    · exact e a i hc
    · exact e a i hc
    · exact e a i hc
    · exact e a i hc (by omega) (by omega)
  have e7 : M1 112 7 = M 3 15 := by rw [eR 112 7 (core_l (by unfold coreL; omega)) (by omega), h.2.2.1.1]
  unfold mLaw at m
  rw [e7] at m
  have e113 : 0 ≤ s → M1 113 s = M 113 s := fun h0 => eR 113 s (core_l (by unfold coreL; omega)) (by omega)
  have e115 : ∀ i : Int, M1 115 (40 * s + i) = M 115 (40 * s + i) := fun i => eR 115 _ (core_l (by unfold coreL; omega)) (by omega)
  rcases c with ⟨p, rfl, e⟩ | ⟨p1, p2, p3, p4, p5, rfl, e⟩ | ⟨p1, p2, p3, p4, p5, p6, rfl, e⟩ | ⟨p1, p2, p3, p4, p5, p6, p7, e⟩ | ⟨p1, p2, p3, p4, p5, p6, p7, p8, p9, p10, p11, e⟩
  · rcases m with ⟨q, rfl, f⟩ | ⟨q1, q2, q3, q4, -⟩ | ⟨q1, q2, q3, q4, -⟩ | ⟨q1, q2, q3, q4, -⟩ | ⟨q1, q2, q3, q4, -⟩
    · exact ⟨h.of hd hS (e.tr f), rfl⟩
    · omega
    · omega
    · omega
    · omega
  · rcases m with ⟨q, rfl, f⟩ | ⟨q1, q2, q3, q4, q5, rfl, f⟩ | ⟨q1, q2, q3, q4, q5, -⟩ | ⟨q1, q2, q3, q4, q5, -⟩ | ⟨q1, q2, q3, q4, q5, -⟩
    · omega
    · exact ⟨h.of hd hS (e.tr f), rfl⟩
    · omega
    · omega
    · omega
  · have u1 := (hs p1 (by omega)).1
    have u2 := e113 p1
    have u3 := t_11 hS p1
    rcases m with ⟨q, rfl, f⟩ | ⟨q1, q2, q3, q4, q5, rfl, f⟩ | ⟨q1, q2, q3, q4, q5, q6, rfl, f⟩ | ⟨q1, q2, q3, q4, q5, q6, -⟩ | ⟨q1, q2, q3, q4, q5, q6, -⟩
    · omega
    · omega
    · exact ⟨h.of hd hS (e.tr f), rfl⟩
    · omega
    · omega
  · have u1 := (hs p1 (by omega)).1
    have u2 := e113 p1
    have eL : M1 113 s - 1 = M 11 s := by omega
    have u4 : ∀ i : Int, 0 ≤ i → i < M 11 s → M 9 (40 * s + i) = M1 115 (40 * s + i) := fun i h0 h1 => by
      rw [e115 i]
      exact (hs p1 (by omega)).2.2 i h0 h1
    rcases m with ⟨q, rfl, f⟩ | ⟨q1, q2, q3, q4, q5, rfl, f⟩ | ⟨q1, q2, q3, q4, q5, q6, rfl, f⟩ | ⟨q1, q2, q3, q4, q5, q6, q7, f⟩ | ⟨q1, q2, q3, q4, q5, q6, q7, -⟩
    · omega
    · omega
    · omega
    · rw [eL] at q7
      exact ⟨h.of hd hS (e.tr f), p7.uniq q7 u4⟩
    · rw [eL] at q7
      exact (p7.no q7 u4).elim
  · have u1 := (hs p1 (by omega)).1
    have u2 := e113 p1
    have eL : M1 113 s - 1 = M 11 s := by omega
    have u4 : ∀ i : Int, 0 ≤ i → i < M 11 s → M1 115 (40 * s + i) = M 9 (40 * s + i) := fun i h0 h1 => by
      rw [e115 i]
      exact ((hs p1 (by omega)).2.2 i h0 h1).symm
    rcases m with ⟨q, rfl, f⟩ | ⟨q1, q2, q3, q4, q5, rfl, f⟩ | ⟨q1, q2, q3, q4, q5, q6, rfl, f⟩ | ⟨q1, q2, q3, q4, q5, q6, q7, f⟩ | ⟨q1, q2, q3, q4, q5, q6, q7, q8, q9, q10, q11, f⟩
    · omega
    · omega
    · omega
    · rw [eL] at q7
      exact (q7.no p7 u4).elim
    · refine ⟨?_, by omega⟩
      obtain ⟨g1, g2, ⟨ga, gb⟩, g4⟩ := h
      obtain ⟨w1, w2, w3, w4⟩ := p7
      have x0 : M1 115 (40 * s + 0) = M 9 (40 * s + 0) := u4 0 (by omega) w1
      have w2 : 0 ≤ M 9 (40 * s + 0) := w2
      have xl : lset d k (fun i => M1 115 (40 * s + i)) (M 9 (40 * s + 0)).toNat = lset d k (fun i => M 9 (40 * s + i)) (M 9 (40 * s + 0)).toNat := lset_congr ⟨p3, p4⟩ _ (fun i h0 h1 => u4 i (by omega) (w4 i h0 (by rw [Int.toNat_of_nonneg w2] at h1; exact h1)).1)
      rw [x0, xl] at q11
      have ee : ∀ a i : Int, core a i → ¬ (a = 3 ∧ i = 15) → ¬ (79 + 2 * M 3 15 ≤ a ∧ a ≤ 79 + 2 * M 3 15 + 1) → ¬ (a = 112 ∧ i = 7) → ¬ (a = 118 ∧ i = M 3 15) → ¬ (a = 119 ∧ i = M 3 15) → M2 a i = M a i := fun a i hc v1 v2 v3 v4 v5 => by rw [f a i hc v3 v4 v5, e a i hc v1 v2]
      have n15 : M2 3 15 = M 3 15 + 1 := by rw [f 3 15 (core_l (by unfold coreL; omega)) (by omega) (by omega) (by omega), p9]
      refine ⟨g1.of (fun a i q => ee a i (core_l (by unfold coreL; omega)) (by omega) (by omega) (by omega) (by omega) (by omega)), g2.of hd (by omega) (fun a i q => ee a i (core_l (by unfold coreL; omega)) (by omega) (by omega) (by omega) (by omega) (by omega)), ⟨by rw [n15, q9], fun l h0 h1 => ?_⟩, g4.of (fun a i q => ee a i (core_l (by unfold coreL; omega)) (by omega) (by omega) (by omega) (by omega) (by omega))⟩
      rw [n15] at h1
      by_cases ha : l = M 3 15
      · subst ha
        rw [f _ 0 (core_l (by unfold coreL; omega)) (by omega) (by omega) (by omega), f _ 1 (core_l (by unfold coreL; omega)) (by omega) (by omega) (by omega), p10, p11, q10, q11]
        exact ⟨rfl, rfl⟩
      · obtain ⟨x1, x2⟩ := gb l h0 (by omega)
        rw [ee (79 + 2 * l) 0 (core_l (by unfold coreL; omega)) (by omega) (by omega) (by omega) (by omega) (by omega), ee (79 + 2 * l) 1 (core_l (by unfold coreL; omega)) (by omega) (by omega) (by omega) (by omega) (by omega), ee 118 l (core_l (by unfold coreL; omega)) (by omega) (by omega) (by omega) (by omega) (by omega), ee 119 l (core_l (by unfold coreL; omega)) (by omega) (by omega) (by omega) (by omega) (by omega)]
        exact ⟨x1, x2⟩
def FL (q : Int) (Ms M : nM) : Prop := ∀ a i : Int, core a i → ¬ (q ≤ a ∧ a ≤ q + 1) → M a i = Ms a i
theorem FL.u {p a i z : Int} {Ms M M2 : nM} (h : FL p Ms M) (e : M2 = nu M a i z) (ha : p ≤ a ∧ a ≤ p + 1) : FL p Ms M2 := fun b j hc q => by
  subst e
  rw [nu_e, if_neg (by omega)]
  exact h b j hc q
theorem rLawF.neg {d k len z : Int} {f : Int → Int} (h : rLawF d k len f z) : z = -6 ∨ z = -4 := by
  rcases h with ⟨a1, a2⟩ | ⟨a1, a2, a3⟩ | ⟨a1, a2, a3, a4⟩
  · omega
  · omega
  · exact a4.neg
theorem cLaw_ok {d k s z v n w : Int} {M Ma Mb : nM} (h1 : 0 ≤ s) (h2 : s ≤ 7) (h3 : 1 ≤ k) (h4 : k ≤ 3) (h5 : M 3 15 < 12) (h6 : 0 ≤ M 11 s) (h7 : rLawS d k (M 11 s) (fun i => M 9 (40 * s + i)) ∧ v = lset d k (fun i => M 9 (40 * s + i)) (M 9 (40 * s + 0)).toNat ∧ 0 ≤ v) (f : FL (79 + 2 * n) M Ma) (f0 : Ma (79 + 2 * n) 0 = k) (f1 : Ma (79 + 2 * n) 1 = v) (e : Mb = nu Ma 3 15 w) (hn : n = M 3 15) (hw : w = M 3 15 + 1) (hz : z = M 3 15) : cLaw d k s z M Mb := by
  subst hn hw hz e
  by_cases hn0 : 0 ≤ M 3 15
  · refine Or.inr (Or.inr (Or.inr (Or.inr ⟨h1, h2, h3, h4, h5, h6, h7.1, rfl, nu_s _ _ _ _, ?_, ?_, fun a i hc w1 w2 => ?_⟩)))
    · rw [nu_a (by omega)]
      exact f0
    · rw [nu_a (by omega), f1]
      exact h7.2.1
    · rw [nu_e, if_neg w1]
      exact f a i hc w2
  · refine Or.inr (Or.inr (Or.inr (Or.inr ⟨h1, h2, h3, h4, h5, h6, h7.1, rfl, nu_s _ _ _ _, ?_, ?_, fun a i hc w1 w2 => ?_⟩)))
    · rw [nu_i (by omega)]
      exact f0
    · rw [nu_i (by omega), f1]
      exact h7.2.1
    · rw [nu_e, if_neg w1]
      exact f a i hc w2
def cRid (u z : Int) (M M1 : nM) : Prop := ((u < 1 ∨ 8 < u) ∧ z = 0 ∧ Eqc M M1) ∨ (1 ≤ u ∧ u ≤ 8 ∧ z = 1 ∧ M1 32 0 = u ∧ M1 32 1 = 0 ∧ ∀ a i : Int, core a i → ¬ (a = 32 ∧ (i = 0 ∨ i = 1)) → M1 a i = M a i)
def mRid (u z : Int) (M M1 : nM) : Prop := ((u < 1 ∨ 8 < u) ∧ z = 0 ∧ Eqc M M1) ∨ (1 ≤ u ∧ u ≤ 8 ∧ z = 1 ∧ M1 112 10 = u ∧ M1 112 11 = 0 ∧ ∀ a i : Int, core a i → ¬ (a = 112 ∧ (i = 10 ∨ i = 11)) → M1 a i = M a i)
theorem RL.rid {d ac u z z2 : Int} {M0 M M1 M2 : nM} (hd : d = 2 ∨ d = 3) (h : RL d M) (hS : Sf d ac M0 M) (c : cRid u z M M1) (m : mRid u z2 M1 M2) : RL d M2 ∧ z = z2 := by
  have b1 := t_3_14x hS
  have b2 := t_3_15 hS
  rcases c with ⟨p, rfl, e⟩ | ⟨p1, p2, rfl, c1, c2, e⟩
  · rcases m with ⟨q, rfl, f⟩ | ⟨q1, q2, -⟩
    · exact ⟨h.of hd hS (e.tr f), rfl⟩
    · omega
  · rcases m with ⟨q, rfl, f⟩ | ⟨q1, q2, rfl, m1, m2, f⟩
    · omega
    · obtain ⟨g1, g2, g3, g4⟩ := h
      have ee : ∀ a i : Int, core a i → ¬ (a = 32 ∧ (i = 0 ∨ i = 1)) → ¬ (a = 112 ∧ (i = 10 ∨ i = 11)) → M2 a i = M a i := fun a i hc v1 v2 => by rw [f a i hc v2, e a i hc v1]
      refine ⟨⟨g1.of (fun a i q => ee a i (core_l (by unfold coreL; omega)) (by omega) (by omega)), g2.of hd (by omega) (fun a i q => ee a i (core_l (by unfold coreL; omega)) (by omega) (by omega)), g3.of (by omega) (fun a i q => ee a i (core_l (by unfold coreL; omega)) (by omega) (by omega)), ?_⟩, rfl⟩
      unfold RLr
      rw [f 32 0 (core_l (by unfold coreL; omega)) (by omega), f 32 1 (core_l (by unfold coreL; omega)) (by omega), c1, c2, m1, m2]
      exact ⟨rfl, rfl⟩
/-! fresh: the numbers are as they were, all else is none -/
def cFre (M M1 : nM) : Prop := M1 3 15 = 0 ∧ M1 32 0 = 1 ∧ M1 32 1 = 0 ∧ ∀ a i : Int, (8 ≤ a ∧ a ≤ 11) ∨ 112 ≤ a → M1 a i = M a i
def mFre (M M1 : nM) : Prop := M1 112 4 = 0 ∧ M1 112 7 = 0 ∧ M1 112 10 = 1 ∧ M1 112 11 = 0 ∧ ∀ a i : Int, core a i → a ≠ 112 → M1 a i = M a i
theorem RL.fre {d e : Int} {M M1 M2 : nM} (h : RL d M) (h14 : M1 3 14 = 0) (c : cFre M M1) (m : mFre M1 M2) : RL e M2 := by
  obtain ⟨c1, c2, c3', c4⟩ := c
  obtain ⟨m1, m2, m3, m4, m5⟩ := m
  have n14 : M2 3 14 = 0 := by rw [m5 3 14 (core_l (by unfold coreL; omega)) (by omega), h14]
  have n15 : M2 3 15 = 0 := by rw [m5 3 15 (core_l (by unfold coreL; omega)) (by omega), c1]
  refine ⟨h.1.of (fun a i q => by rw [m5 a i (core_l (by unfold coreL; omega)) (by omega), c4 a i (by omega)]), ⟨by rw [n14, m1], ?_, fun a h0 h1 => by omega⟩, ⟨by rw [n15, m2], fun l h0 h1 => by omega⟩, ?_⟩
  · rw [n14]
    show (0 : Int) ≤ 2
    omega
  · unfold RLr
    rw [m5 32 0 (core_l (by unfold coreL; omega)) (by omega), m5 32 1 (core_l (by unfold coreL; omega)) (by omega), c2, c3', m3, m4]
    exact ⟨rfl, rfl⟩
/-! asks -/
def unk (n u : Int) : Prop := 0 ≤ u ∧ u < n
def askok (n k x y w : Int) : Prop := unk n x ∧ (1 < k → unk n y) ∧ (2 < k → unk n w)
def cAsk (l x y w z : Int) (M M1 : nM) : Prop := ((l < 0 ∨ M 3 15 ≤ l ∨ ¬ askok (M 32 0) (M (79 + 2 * l) 0) x y w) ∧ z = -2 ∧ Eqc M M1)
  ∨ (0 ≤ l ∧ l < M 3 15 ∧ askok (M 32 0) (M (79 + 2 * l) 0) x y w ∧ 30 ≤ M 32 1 ∧ z = -8 ∧ Eqc M M1)
  ∨ (0 ≤ l ∧ l < M 3 15 ∧ askok (M 32 0) (M (79 + 2 * l) 0) x y w ∧ M 32 1 < 30 ∧ z = M 32 1 ∧ M1 32 1 = M 32 1 + 1 ∧ ∀ a i : Int, core a i → ¬ (a = 32 ∧ i = 1) → ¬ (33 ≤ a ∧ a ≤ 36 ∧ i = M 32 1) → M1 a i = M a i)
def mAsk (l x y w z : Int) (M M1 : nM) : Prop := ((l < 0 ∨ M 112 7 ≤ l ∨ ¬ askok (M 112 10) (M 118 l) x y w) ∧ z = -2 ∧ Eqc M M1)
  ∨ (0 ≤ l ∧ l < M 112 7 ∧ askok (M 112 10) (M 118 l) x y w ∧ M 112 11 = 30 ∧ z = -8 ∧ Eqc M M1)
  ∨ (0 ≤ l ∧ l < M 112 7 ∧ askok (M 112 10) (M 118 l) x y w ∧ M 112 11 < 30 ∧ z = M 112 11 ∧ M1 112 11 = M 112 11 + 1 ∧ ∀ a i : Int, core a i → ¬ (a = 112 ∧ i = 11) → ¬ (a = 120 ∧ i = M 112 11) → ¬ (a = 121 ∧ 3 * M 112 11 ≤ i) → M1 a i = M a i)
theorem RL.ask {d ac l x y w z z2 : Int} {M0 M M1 M2 : nM} (hd : d = 2 ∨ d = 3) (h : RL d M) (hS : Sf d ac M0 M) (c : cAsk l x y w z M M1) (m : mAsk l x y w z2 M1 M2) : RL d M2 ∧ z = z2 := by
  have b1 := t_3_14x hS
  have b2 := t_3_15 hS
  have b3 := t_32_1 hS
  have eR : ∀ a i : Int, core a i → 112 ≤ a → M1 a i = M a i := fun a i hc ha => by
    rcases c with ⟨-, -, e⟩ | ⟨-, -, -, -, -, e⟩ | ⟨-, -, -, -, -, -, e⟩
    · exact e a i hc
    · exact e a i hc
    · exact e a i hc (by omega) (by omega)
  have e7 : M1 112 7 = M 3 15 := by rw [eR 112 7 (core_l (by unfold coreL; omega)) (by omega), h.2.2.1.1]
  have e10 : M1 112 10 = M 32 0 := by rw [eR 112 10 (core_l (by unfold coreL; omega)) (by omega), h.2.2.2.1]
  have e11 : M1 112 11 = M 32 1 := by rw [eR 112 11 (core_l (by unfold coreL; omega)) (by omega), h.2.2.2.2]
  have e118 : 0 ≤ l → l < M 3 15 → M1 118 l = M (79 + 2 * l) 0 := fun h0 h1 => by rw [eR 118 l (core_l (by unfold coreL; omega)) (by omega), (h.2.2.1.2 l h0 h1).1]
  unfold mAsk at m
  rw [e7, e10, e11] at m
  by_cases hl : 0 ≤ l ∧ l < M 3 15
  · rw [e118 hl.1 hl.2] at m
    rcases c with ⟨p, rfl, e⟩ | ⟨p1, p2, p3, p4, rfl, e⟩ | ⟨p1, p2, p3, p4, p5, p6, e⟩
    · have p : ¬ askok (M 32 0) (M (79 + 2 * l) 0) x y w := by
        rcases p with p | p | p
        · omega
        · omega
        · exact p
      rcases m with ⟨q, rfl, f⟩ | ⟨q1, q2, q3, -⟩ | ⟨q1, q2, q3, -⟩
      · exact ⟨h.of hd hS (e.tr f), rfl⟩
      · exact absurd q3 p
      · exact absurd q3 p
    · rcases m with ⟨q, rfl, f⟩ | ⟨q1, q2, q3, q4, rfl, f⟩ | ⟨q1, q2, q3, q4, -⟩
      · rcases q with q | q | q
        · omega
        · omega
        · exact absurd p3 q
      · exact ⟨h.of hd hS (e.tr f), rfl⟩
      · omega
    · rcases m with ⟨q, rfl, f⟩ | ⟨q1, q2, q3, q4, rfl, f⟩ | ⟨q1, q2, q3, q4, q5, q6, f⟩
      · rcases q with q | q | q
        · omega
        · omega
        · exact absurd p3 q
      · omega
      · refine ⟨?_, by omega⟩
        obtain ⟨g1, g2, g3, g4⟩ := h
        have ee : ∀ a i : Int, core a i → ¬ (a = 32 ∧ i = 1) → ¬ (33 ≤ a ∧ a ≤ 36 ∧ i = M 32 1) → ¬ (a = 112 ∧ i = 11) → ¬ (a = 120 ∧ i = M 32 1) → ¬ (a = 121 ∧ 3 * M 32 1 ≤ i) → M2 a i = M a i := fun a i hc v1 v2 v3 v4 v5 => by rw [f a i hc v3 v4 v5, e a i hc v1 v2]
        refine ⟨g1.of (fun a i q => ee a i (core_l (by unfold coreL; omega)) (by omega) (by omega) (by omega) (by omega) (by omega)), g2.of hd (by omega) (fun a i q => ee a i (core_l (by unfold coreL; omega)) (by omega) (by omega) (by omega) (by omega) (by omega)), g3.of (by omega) (fun a i q => ee a i (core_l (by unfold coreL; omega)) (by omega) (by omega) (by omega) (by omega) (by omega)), ?_⟩
        unfold RLr
        rw [ee 32 0 (core_l (by unfold coreL; omega)) (by omega) (by omega) (by omega) (by omega) (by omega), ee 112 10 (core_l (by unfold coreL; omega)) (by omega) (by omega) (by omega) (by omega) (by omega), f 32 1 (core_l (by unfold coreL; omega)) (by omega) (by omega) (by omega), p6, q6]
        exact ⟨g4.1, rfl⟩
  · rcases c with ⟨p, rfl, e⟩ | ⟨p1, p2, -⟩ | ⟨p1, p2, -⟩
    · rcases m with ⟨q, rfl, f⟩ | ⟨q1, q2, -⟩ | ⟨q1, q2, -⟩
      · exact ⟨h.of hd hS (e.tr f), rfl⟩
      · omega
      · omega
    · omega
    · omega
theorem mLaw_ok {d k s z v n n2 w : Int} {M Ma Mb Mc : nM} (h1 : 0 ≤ s) (h2 : s ≤ 7) (h3 : 1 ≤ k) (h4 : k ≤ 3) (h5 : M 112 7 < 12) (h6 : M 113 s ≠ 0) (h7 : rLawS d k (M 113 s - 1) (fun i => M 115 (40 * s + i))) (h8 : v = lset d k (fun i => M 115 (40 * s + i)) (M 115 (40 * s + 0)).toNat) (e1 : Ma = nu M 118 n k) (e2 : Mb = nu Ma 119 n2 v) (e3 : Mc = nu Mb 112 7 w) (hn : n = M 112 7) (hn2 : n2 = M 112 7) (hw : w = M 112 7 + 1) (hz : z = M 112 7) : mLaw d k s z M Mc := by
  subst hn hn2 hw hz e1 e2 e3
  refine Or.inr (Or.inr (Or.inr (Or.inr ⟨h1, h2, h3, h4, h5, h6, h7, rfl, nu_s _ _ _ _, ?_, ?_, fun a i hc w1 w2 w3 => ?_⟩)))
  · rw [nu_a (by omega), nu_a (by omega), nu_s]
  · rw [nu_a (by omega), nu_s]
    exact h8
  · rw [nu_e, if_neg w1, nu_e, if_neg w3, nu_e, if_neg w2]
/-! what is only read -/
def pwr (d n : Int) : Int := if n = 0 then 1 else pw d n
def cAt (a r z : Int) (M : nM) : Prop := ((a < 0 ∨ M 3 14 ≤ a ∨ r < 0 ∨ M (55 + 3 * a) 1 ≤ r) ∧ z = -1) ∨ (0 ≤ a ∧ a < M 3 14 ∧ 0 ≤ r ∧ r < M (55 + 3 * a) 1 ∧ z = M (55 + 3 * a + 1) r)
def mAt (d a r z : Int) (M : nM) : Prop := ((a < 0 ∨ M 112 4 ≤ a ∨ r < 0 ∨ pwr d (M 116 a) ≤ r) ∧ z = -1) ∨ (0 ≤ a ∧ a < M 112 4 ∧ 0 ≤ r ∧ r < pwr d (M 116 a) ∧ z = M 117 (27 * a + r))
theorem RL.at {d a r z z2 : Int} {M : nM} (hd : d = 2 ∨ d = 3) (h : RL d M) (c : cAt a r z M) (m : mAt d a r z2 M) : z = z2 := by
  obtain ⟨-, ⟨g1, -, g2⟩, -, -⟩ := h
  by_cases ha : 0 ≤ a ∧ a < M 3 14
  · obtain ⟨x1, x2, x3, x4⟩ := g2 a ha.1 ha.2
    have hp := pw_r hd x1
    have e : pwr d (M 116 a) = pw d (M 116 a) := if_neg (by omega)
    unfold mAt at m
    rw [e] at m
    unfold cAt at c
    rw [x3] at c
    rcases c with ⟨p, rfl⟩ | ⟨p1, p2, p3, p4, rfl⟩ <;> rcases m with ⟨q, rfl⟩ | ⟨q1, q2, q3, q4, rfl⟩
    · rfl
    · omega
    · omega
    · rw [(x4 r p3 (by omega)).1, Int.emod_eq_of_lt p3 p4]
  · rcases c with ⟨p, rfl⟩ | ⟨p1, p2, p3, p4, rfl⟩ <;> rcases m with ⟨q, rfl⟩ | ⟨q1, q2, q3, q4, rfl⟩
    · rfl
    · omega
    · omega
    · omega
def cLof (l z : Int) (M : nM) : Prop := ((l < 0 ∨ M 3 15 ≤ l) ∧ z = -1) ∨ (0 ≤ l ∧ l < M 3 15 ∧ z = M (79 + 2 * l) 1)
def mLof (l z : Int) (M : nM) : Prop := ((l < 0 ∨ M 112 7 ≤ l) ∧ z = -1) ∨ (0 ≤ l ∧ l < M 112 7 ∧ z = M 119 l)
theorem RL.lof {d l z z2 : Int} {M : nM} (h : RL d M) (c : cLof l z M) (m : mLof l z2 M) : z = z2 := by
  obtain ⟨-, -, ⟨g1, g2⟩, -⟩ := h
  rcases c with ⟨p, rfl⟩ | ⟨p1, p2, rfl⟩ <;> rcases m with ⟨q, rfl⟩ | ⟨q1, q2, rfl⟩
  · rfl
  · omega
  · omega
  · exact (g2 l p1 p2).2
def cf (f : Int → Int) : Nat → Int
  | 0 => 0
  | n + 1 => cf f n + f n
theorem cf_step {f : Int → Int} {x : Int} (h : 0 ≤ x) : cf f (x + 1).toNat = cf f x.toNat + f x := by
  obtain ⟨n, rfl⟩ : ∃ n : Nat, x = n := ⟨x.toNat, by omega⟩
  have e : ((n : Int) + 1).toNat = n + 1 := by omega
  rw [e, Int.toNat_natCast]
  rfl
theorem cf_congr {f g : Int → Int} : ∀ n : Nat, (∀ i : Int, 0 ≤ i → i < n → f i = g i) → cf f n = cf g n := by
  intro n
  induction n with
  | zero => intro _; rfl
  | succ n ih =>
    intro h
    show cf f n + f n = cf g n + g n
    rw [ih (fun i h0 h1 => h i h0 (by omega)), h n (by omega) (by omega)]
def cCnt (d w z : Int) (M : nM) : Prop := (w = 0 ∧ z = d) ∨ (w = 1 ∧ z = M 3 14) ∨ (w = 2 ∧ z = M 3 15) ∨ (w = 3 ∧ z = M 32 0) ∨ (w = 4 ∧ z = M 32 1) ∨ (w = 5 ∧ z = cf (fun s => if 0 ≤ M 11 s then 1 else 0) 8) ∨ ((w < 0 ∨ 5 < w) ∧ z = -1)
def mCnt (d w z : Int) (M : nM) : Prop := (w = 0 ∧ z = d) ∨ (w = 1 ∧ z = M 112 4) ∨ (w = 2 ∧ z = M 112 7) ∨ (w = 3 ∧ z = M 112 10) ∨ (w = 4 ∧ z = M 112 11) ∨ (w = 5 ∧ z = cf (fun s => if M 113 s = 0 then 0 else 1) 8) ∨ ((w < 0 ∨ 5 < w) ∧ z = -1)
theorem RL.cnt {d ac w z z2 : Int} {M0 M : nM} (h : RL d M) (hS : Sf d ac M0 M) (c : cCnt d w z M) (m : mCnt d w z2 M) : z = z2 := by
  obtain ⟨g0, ⟨g1, -⟩, ⟨g2, -⟩, g3, g4⟩ := h
  have e : cf (fun s => if 0 ≤ M 11 s then 1 else 0) 8 = cf (fun s => if M 113 s = 0 then 0 else 1) 8 := cf_congr 8 (fun i h0 h1 => by
    have q := (g0 i h0 (by omega)).1
    have t := t_11 hS h0
    show (if 0 ≤ M 11 i then (1 : Int) else 0) = (if M 113 i = 0 then 0 else 1)
    by_cases u : 0 ≤ M 11 i
    · rw [if_pos u, if_neg (by omega)]
    · rw [if_neg u, if_pos (by omega)])
  unfold cCnt at c
  unfold mCnt at m
  rw [e] at c
  omega
